/-! the law: its script, what its walk stands on -/
/-- the script's number at a place -/
def xz (xs : Nat → Int32) (z : Int) : Int := (xs z.toNat).toInt
theorem xz_rng (xs : Nat → Int32) (z : Int) : -2147483648 ≤ xz xs z ∧ xz xs z ≤ 2147483647 := by
  unfold xz
  exact ⟨Int32.le_toInt _, by have := Int32.toInt_lt (xs z.toNat); omega⟩
theorem xz_iv (xs : Nat → Int32) (z : Int) : Value.int (xs z.toNat) = iv (xz xs z) := by
  unfold iv xz
  rw [Int32.ofInt_toInt]
/-- the method of the law, by the name that its record bears -/
abbrev m_law (nm : String) : MD := (⟨RL, nm, "([I)Z"⟩, cL_law, 8, (some .boolean), 11, 406, 601024, 7293033)
/-- the frame of the law's walk: the script lies at sb, ls of it, and isn't written -/
def CxL (l : Launch) (Γ : GA) (M : MD) (G : GP) (sb ls : Nat) (xs : Nat → Int32) : Prop :=
  ∃ (p : Program) (e : Env) (s : State) (m : MethodId) (args : Array Value) (below : List Frame) (meth : Method) (c : Code) (A : Nat → Prop) (Q : State → Prop),
    (p.tables.exec = Jvm.exec ∧ c.code = M.2.1 ∧ c.maxLocals = M.2.2.1 ∧ s.vm.findClass M.1.cls = some m.cls ∧ (∀ w ∈ gk_WS, w.before args s = true) ∧ meth.name = M.1.name ∧ meth.locks = false ∧ gk_W Γ A s s.heap ∧ (∀ q, s.heap.size ≤ q → A q))
    ∧ (va_X sb ls xs s s.heap ∧ sb < s.heap.size ∧ ¬ A sb)
    ∧ G = gk_Gd p l e (gk_room M) s m args below meth c Γ A M.2.2.1 Q
section GL
variable {l : Launch} {Γ : GA} {M : MD} {G : GP} {pc : Nat} {L : List (Option Value)} {st : List Value} {h : Hp} {k n : Nat} {sb ls : Nat} {xs : Nat → Int32}
theorem CxL.cx (C : CxL l Γ M G sb ls xs) : Cx l Γ M G (fun _ _ _ _ => False) := by
  obtain ⟨p, e, s, m, args, below, meth, c, A, Q, hf, ht, hG⟩ := C
  exact ⟨p, e, s, m, args, below, meth, c, A, Q, hf, fun E h k n z => z.elim, hG⟩
theorem gk_sld (C : CxL l Γ M G sb ls xs) {z : Int} (d : decode M.2.1 pc = .ok (.iaload, 1)) (hz : 0 ≤ z ∧ z < ls) (hls : ls ≤ 2560) (kk : G (pc + 1) L (iv (xz xs z) :: st) h k n) : G pc L (iv z :: .ref sb :: st) h k n := by
  obtain ⟨p, e, s, m, args, below, meth, c, A, Q, ⟨hx, hb, hml, hown, hts, hnm, hlk, hW, hA0⟩, ⟨hX, hbl, hbA⟩, rfl⟩ := C
  intro H locs lsl hV hA hS hL
  refine va_sld hx hb hX hbl hbA hS (gk_in (n := (ls : Int)) hz.1 hz.2 (by omega)) d ?_
  rw [gk_nat (by omega), xz_iv]
  exact kk H locs lsl hV hA hS hL
theorem gk_slen (C : CxL l Γ M G sb ls xs) (d : decode M.2.1 pc = .ok (.arraylength, 1)) (kk : G (pc + 1) L (iv (ls : Int) :: st) h k n) : G pc L (.ref sb :: st) h k n := by
  obtain ⟨p, e, s, m, args, below, meth, c, A, Q, ⟨hx, hb, hml, hown, hts, hnm, hlk, hW, hA0⟩, ⟨hX, hbl, hbA⟩, rfl⟩ := C
  intro H locs lsl hV hA hS hL
  refine va_slen hx hb hX hbl hbA hS d ?_
  have e1 : Int32.ofNat ls = Int32.ofInt (ls : Int) := Int32.ofInt_eq_ofNat.symm
  rw [e1]
  exact kk H locs lsl hV hA hS hL
end GL
theorem and31 (a : Int) : ∃ r : Int, Int32.ofInt a &&& Int32.ofInt 31 = Int32.ofInt r ∧ 0 ≤ r ∧ r ≤ 31 := by
  have hle : (Int32.ofInt a).toBitVec.toNat &&& 31 ≤ 31 := Nat.and_le_right
  refine ⟨(((Int32.ofInt a).toBitVec.toNat &&& 31 : Nat) : Int), ?_, by omega, by omega⟩
  apply Int32.toBitVec_inj.mp
  apply BitVec.eq_of_toNat_eq
  rw [Int32.toBitVec_and, BitVec.toNat_and, Int32.ofInt_eq_ofNat (n := (Int32.ofInt a).toBitVec.toNat &&& 31)]
  have e31 : (Int32.ofInt 31).toBitVec.toNat = 31 := by decide
  rw [e31]
  show _ = (BitVec.ofNat 32 _).toNat
  rw [BitVec.toNat_ofNat, Nat.mod_eq_of_lt (by omega)]
/-- the class's part of the heap agrees with the reference's state -/
def LX (Γ : GA) (x : Nat) (c : Nat) (X : Hp) (s : MS) : Prop :=
  ∃ (ad : XK → Nat) (Q : XTs) (S : XSs) (P : XPs) (B : XBs), ad (0, 0) = x ∧ IX (gEm Γ) ad Q S P B ∧ X = HX (gEm Γ) ad Q S P B ∧ Sim c Q S P B s
theorem LX.obj {Γ : GA} {x c : Nat} {X : Hp} {s : MS} (h : LX Γ x c X s) : ∃ fs : List Value, X x = some (oO 5 fs) := by
  obtain ⟨ad, Q, S, P, B, h1, h2, h3, h4⟩ := h
  rw [h3, ← h1]
  exact ⟨_, hx_0 h2⟩
theorem LX.VM {Γ : GA} {x c : Nat} {X : Hp} {s : MS} (h : LX Γ x c X s) : VM s := by
  obtain ⟨ad, Q, S, P, B, h1, h2, h3, h4⟩ := h
  exact h4.1
theorem LX.next {Γ : GA} {x c : Nat} {X : Hp} {s : MS} (h : LX Γ x c X s) : LX Γ x (c + 1) X s := by
  obtain ⟨ad, Q, S, P, B, h1, h2, h3, h4⟩ := h
  exact ⟨ad, Q, S, P, B, h1, h2, h3, Sim_same h4 mSame.of h4.1⟩
theorem btF_d : ∀ i : Fin 1001, Op.cmpValue (FP.dcmp (FP.f2d (btF (i.val : Int))) (FP.f2d (btF (i.val : Int)))) .l = Int32.ofInt 0 ∧ FP.f2d (btF (i.val : Int)) &&& 0x7fffffffffffffff ≤ 0x7ff0000000000000 := by decide +kernel
theorem btF_d2 {z : Int} (h : 0 ≤ z ∧ z ≤ 1000) : Op.cmpValue (FP.dcmp (FP.f2d (btF z)) (FP.f2d (btF z))) .l = Int32.ofInt 0 ∧ vf_n64 (FP.f2d (btF z)) := by
  have e := btF_d ⟨z.toNat, by omega⟩
  have e2 : ((z.toNat : Nat) : Int) = z := by omega
  dsimp only at e
  rw [e2] at e
  exact e
