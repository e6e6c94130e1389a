/-! the law: its script, what its walk stands on -/
/-- the script's number at a place -/
def xz (xs : Nat → Int32) (z : Int) : Int := (xs z.toNat).toInt
theorem xz_rng (xs : Nat → Int32) (z : Int) : -2147483648 ≤ xz xs z ∧ xz xs z ≤ 2147483647 := by
  unfold xz
  exact ⟨Int32.le_toInt _, by have := Int32.toInt_lt (xs z.toNat); omega⟩
theorem xz_iv (xs : Nat → Int32) (z : Int) : Value.int (xs z.toNat) = iv (xz xs z) := by
  unfold iv xz
  rw [Int32.ofInt_toInt]
/-- the method of the law, by the name that its record bears -/
abbrev m_law (nm : String) : MD := (⟨RL, nm, "([I)Z"⟩, cL_law, 15, (some .boolean), 15, 610, 600104, 7301314)
/-- the frame of the law's walk: the script lies at sb, ls of it, and isn't written -/
def CxL (l : Launch) (Γ : GA) (M : MD) (G : GP) (sb ls : Nat) (xs : Nat → Int32) : Prop :=
  ∃ (p : Program) (e : Env) (s : State) (m : MethodId) (args : Array Value) (below : List Frame) (meth : Method) (c : Code) (A : Nat → Prop) (Q : State → Prop),
    (p.tables.exec = Jvm.exec ∧ c.code = M.2.1 ∧ c.maxLocals = M.2.2.1 ∧ s.vm.findClass M.1.cls = some m.cls ∧ (∀ w ∈ gk_WS, w.before args s = true) ∧ meth.name = M.1.name ∧ meth.locks = false ∧ gk_W Γ A s s.heap ∧ (∀ q, s.heap.size ≤ q → A q))
    ∧ (va_X sb ls xs s s.heap ∧ sb < s.heap.size ∧ ¬ A sb)
    ∧ G = gk_Gd p l e (gk_room M) s m args below meth c Γ A M.2.2.1 Q
section GL
variable {l : Launch} {Γ : GA} {M : MD} {G : GP} {pc : Nat} {L : List (Option Value)} {st : List Value} {h : Hp} {k n : Nat} {sb ls : Nat} {xs : Nat → Int32}
theorem CxL.cx (C : CxL l Γ M G sb ls xs) : Cx l Γ M G (fun _ _ _ _ => False) := by
  obtain ⟨p, e, s, m, args, below, meth, c, A, Q, hf, ht, hG⟩ := C
  exact ⟨p, e, s, m, args, below, meth, c, A, Q, hf, fun E h k n z => z.elim, hG⟩
theorem gk_sld (C : CxL l Γ M G sb ls xs) {z : Int} (d : decode M.2.1 pc = .ok (.iaload, 1)) (hz : 0 ≤ z ∧ z < ls) (hls : ls ≤ 2560) (kk : G (pc + 1) L (iv (xz xs z) :: st) h k n) : G pc L (iv z :: .ref sb :: st) h k n := by
  obtain ⟨p, e, s, m, args, below, meth, c, A, Q, ⟨hx, hb, hml, hown, hts, hnm, hlk, hW, hA0⟩, ⟨hX, hbl, hbA⟩, rfl⟩ := C
  intro H locs lsl hV hA hS hL
  refine va_sld hx hb hX hbl hbA hS (gk_in (n := (ls : Int)) hz.1 hz.2 (by omega)) d ?_
  rw [gk_nat (by omega), xz_iv]
  exact kk H locs lsl hV hA hS hL
theorem gk_slen (C : CxL l Γ M G sb ls xs) (d : decode M.2.1 pc = .ok (.arraylength, 1)) (kk : G (pc + 1) L (iv (ls : Int) :: st) h k n) : G pc L (.ref sb :: st) h k n := by
  obtain ⟨p, e, s, m, args, below, meth, c, A, Q, ⟨hx, hb, hml, hown, hts, hnm, hlk, hW, hA0⟩, ⟨hX, hbl, hbA⟩, rfl⟩ := C
  intro H locs lsl hV hA hS hL
  refine va_slen hx hb hX hbl hbA hS d ?_
  have e1 : Int32.ofNat ls = Int32.ofInt (ls : Int) := Int32.ofInt_eq_ofNat.symm
  rw [e1]
  exact kk H locs lsl hV hA hS hL
end GL
