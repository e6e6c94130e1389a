/-! fields, arrays, new objects, calls, returns: over the function heap -/
theorem gk_V.set {Γ : GA} {h : Hp} {H H1 : Heap} {a : Nat} {e : AE} (hV : gk_V Γ h H) (he : va_at Γ.1 vwCl (a, gk_E Γ e) H1) (oq : ∀ q : Nat, q ≠ a → H1[q]? = H[q]?) : gk_V Γ (hset h a e) H1 := by
  intro b e2 hb
  by_cases c : b = a
  · subst c
    rw [hset_eq] at hb
    cases hb
    exact he
  · rw [hset_ne c] at hb
    exact (hV b e2 hb).kept (oq b c)
theorem gk_V.lt {Γ : GA} {h : Hp} {H : Heap} (hV : gk_V Γ h H) {a : Nat} {e : AE} (c : h a = some e) : a < H.size := va_at.lt (q := (a, gk_E Γ e)) (hV a e c)
theorem gk_V.new {Γ : GA} {h : Hp} {H H1 : Heap} {e : AE} (hV : gk_V Γ h H) (he : va_at Γ.1 vwCl (H.size, gk_E Γ e) H1) (oq : ∀ q : Nat, q < H.size → H1[q]? = H[q]?) : h H.size = none ∧ gk_V Γ (hset h H.size e) H1 := by
  have f : h H.size = none := by
    cases c : h H.size with
    | none => rfl
    | some e2 => exact absurd (hV.lt c) (Nat.lt_irrefl _)
  refine ⟨f, ?_⟩
  intro b e2 hb
  by_cases c : b = H.size
  · subst c
    rw [hset_eq] at hb
    cases hb
    exact he
  · rw [hset_ne c] at hb
    exact (hV b e2 hb).kept (oq b (hV.lt hb))
theorem gk_V.kept {Γ : GA} {h : Hp} {H H1 : Heap} (hV : gk_V Γ h H) (oq : ∀ q : Nat, q < H.size → H1[q]? = H[q]?) : gk_V Γ h H1 := fun a e c => (hV a e c).kept (oq a (hV.lt c))
theorem hset_dom {h : Hp} {A : Nat → Prop} (hA : ∀ q, h q ≠ none → A q) {a : Nat} {e : AE} (c : A a) : ∀ q, hset h a e q ≠ none → A q := by
  intro q hq
  by_cases d : q = a
  · rw [d]; exact c
  · rw [hset_ne d] at hq
    exact hA q hq
theorem gk_one {Γ : GA} {h : Hp} {H : Heap} (hV : gk_V Γ h H) {a : Nat} {e : AE} (c : h a = some e) : va_P Γ.1 vwCl [(a, gk_E Γ e)] H := by
  intro k q hk
  match k, hk with
  | 0, hk => cases hk; exact hV a e c
  | k + 1, hk => simp at hk
/-- a class of the worlds: its rows -/
def gk_cl (ci : Nat) (C : String) (T : u_T) (N : Nat) (ty : Nat → FieldType) : Prop :=
  vwCl[ci]? = some (C, T, N) ∧ (∀ w ∈ u_ws C T N, w ∈ gk_WS) ∧ (∀ k, k < N → parseFieldDescriptor (T k).2.2.1 = some (ty k)) ∧ ∀ a, a < N → ∀ b, b < N → a ≠ b → (T a).2.1 ≠ (T b).2.1
/-- entry idx of own's pool is the field j of the class ci, of that type -/
def gk_F (own : String) (idx ci j : Nat) (fty : FieldType) (fin : Bool) : Prop :=
  ∃ (C : String) (T : u_T) (N : Nat) (ty : Nat → FieldType) (ref : String), gk_cl ci C T N ty ∧ j < N ∧ ty j = fty ∧ (T j).2.2.2 = fin ∧ (fin = true → (T j).1 = own)
    ∧ (Cond.fieldLink own idx ref (T j).2.1 (T j).2.2.1 ∈ gk_WS ∨ ∃ host, Cond.fieldLinkNest own idx ref (T j).2.1 (T j).2.2.1 host ∈ gk_NW)
    ∧ (ref = (T j).1 ∨ Cond.sameField ref (T j).1 (T j).2.1 (T j).2.2.1 ∈ gk_WS)
/-- to read it is enough -/
def gk_Fr (own : String) (idx ci j : Nat) : Prop :=
  ∃ (C : String) (T : u_T) (N : Nat) (ty : Nat → FieldType) (ref : String), gk_cl ci C T N ty ∧ j < N
    ∧ (Cond.fieldLink own idx ref (T j).2.1 (T j).2.2.1 ∈ gk_WS ∨ ∃ host, Cond.fieldLinkNest own idx ref (T j).2.1 (T j).2.2.1 host ∈ gk_NW)
    ∧ (ref = (T j).1 ∨ Cond.sameField ref (T j).1 (T j).2.1 (T j).2.2.1 ∈ gk_WS)
theorem gk_F.r {own : String} {idx ci j : Nat} {fty : FieldType} {fin : Bool} (h : gk_F own idx ci j fty fin) : gk_Fr own idx ci j := by
  obtain ⟨C, T, N, ty, ref, h1, h2, -, -, -, h3, h4⟩ := h
  exact ⟨C, T, N, ty, ref, h1, h2, h3, h4⟩
section GM
variable {l : Launch} {Γ : GA} {M : MD} {G : GP} {X : String → Hp → Nat → Nat → Prop} {pc : Nat} {L : List (Option Value)} {st : List Value} {h : Hp} {k n : Nat}
theorem gk_getf (C : Cx l Γ M G X) {idx ci j a : Nat} {fs : List Value} {v : Value} (r : gk_Fr M.1.cls idx ci j) (d : decode M.2.1 pc = .ok (.getfield idx, 3)) (ha : h a = some (oO ci fs)) (hv : fs[j]? = some v)
    (kk : G (pc + 3) L (v :: st) h k n) : G pc L (.ref a :: st) h k n := by
  obtain ⟨p, e, s, m, args, below, meth, c, A, Q, ⟨hx, hb, hml, hown, hts, hnm, hlk, hW, hA0⟩, hX, rfl⟩ := C
  intro H locs ls hV hA hS hL
  obtain ⟨C, T, N, ty, ref, ⟨hc, hin, -, -⟩, hj, hl, hs⟩ := r
  have hsame : ∀ x, s.fieldFound? (T j).1 (T j).2.1 (T j).2.2.1 = some x → s.fieldFound? ref (T j).2.1 (T j).2.2.1 = some x := by
    intro x hx2
    rcases hs with rfl | hs
    · exact hx2
    · exact u_same (hts _ hs) x hx2
  rcases hl with hl | ⟨host, hl⟩
  · exact va_get (D := Γ.1) hx hb hts hin hown hW.1 (gk_one hV ha) 0 (fs := fs) rfl hc j hj (hts _ hl) hsame hv d (kk H locs ls hV hA hS hL)
  · exact va_getN (D := Γ.1) hx hb hts hin hown hW.1 (gk_one hV ha) 0 (fs := fs) rfl hc j hj (va_Nw.use (gk_nw_tab hl) (hW.2.1 _ hl)) hsame hv d (kk H locs ls hV hA hS hL)
theorem gk_putf (C : Cx l Γ M G X) {idx ci j a : Nat} {fty : FieldType} {fs : List Value} {v : Value} (r : gk_F M.1.cls idx ci j fty false) (d : decode M.2.1 pc = .ok (.putfield idx, 3)) (ha : h a = some (oO ci fs)) (hn : narrow fty v = v) (hf : fits fty v = true) (hlen : j < fs.length)
    (kk : G (pc + 3) L st (hset h a (oO ci (fs.set j v))) k n) : G pc L (v :: .ref a :: st) h k n := by
  obtain ⟨p, e, s, m, args, below, meth, c, A, Q, ⟨hx, hb, hml, hown, hts, hnm, hlk, hW, hA0⟩, hX, rfl⟩ := C
  intro H locs ls hV hA hS hL
  obtain ⟨C, T, N, ty, ref, ⟨hc, hin, hty, hnn⟩, hj, htj, hfin, -, hl, hs⟩ := r
  have hsame : ∀ x, s.fieldFound? (T j).1 (T j).2.1 (T j).2.2.1 = some x → s.fieldFound? ref (T j).2.1 (T j).2.2.1 = some x := by
    intro x hx2
    rcases hs with rfl | hs
    · exact hx2
    · exact u_same (hts _ hs) x hx2
  have hap := va_apart (own := M.1.cls) hts hin ty hty hnn hW.1 hc
  obtain ⟨r, h1, cell, q1, q2, q3, q4⟩ := hV a _ ha
  have hr : r = (C, T, N) := Option.some.inj (h1.symm.trans hc)
  subst hr
  obtain ⟨hSl, hfc, kC, hkC, hkind⟩ := hW.1.1 ci _ hc
  obtain ⟨cf, kf, fi, f, hi, hsl⟩ := hSl j hj
  have hlay := hts _ (hin _ (u_in_lay hj))
  unfold u_lay at hlay
  rw [if_neg (by rw [hfin]; decide)] at hlay
  have hst := (u_facts hfc hkC (u_lays hts hin hj) hi).1
  have h6 := u_store hfc hkC hkind hlay hi (by rw [hty j hj, htj]) hn hf
  have key : ∀ H' : Heap, H'[a]? = some (cell.setSlot f.slot v) → H'.size = H.size → (∀ q, q ≠ a → H'[q]? = H[q]?) → W p l e (gk_room M) s m args below meth c H' (locs ++ [⟨a, f.slot⟩]) k n Q (F0 m (pc + 3) ls st) := by
    intro H' e1 e2 e3
    rw [hsl] at e1 ⊢
    refine kk H' _ ls (hV.set ?_ e3) (hset_dom hA (hA a (by rw [ha]; exact fun z => by cases z))) (hS.put e2 e3 (hA a (by rw [ha]; exact fun z => by cases z))) hL
    exact ⟨_, hc, t_OB.to (V := updV (vp_V fs) j v) ⟨_, e1, q2, q3, t_set q4 hap hj v⟩ (fun i _ => vp_updV_set hlen v i)⟩
  rcases hl with hl | ⟨host, hl⟩
  · exact W.putK hx hb (f := f) ⟨hown, hts _ hl, ⟨_, _, _, hsame _ hi⟩, hst⟩ (by rw [q2]; exact h6) q1 q3 (by rw [hsl]; exact k2_hasslot (q4 j hj)) rfl rfl d key
  · exact va_WputK hx hb (f := f) hown (va_Nw.use (gk_nw_tab hl) (hW.2.1 _ hl)) (hsame _ hi) hst (by rw [q2]; exact h6) q1 q3 (by rw [hsl]; exact k2_hasslot (q4 j hj)) rfl rfl d key
/-- a final field, in its class's constructor -/
theorem gk_putfF (C : Cx l Γ M G X) {idx ci j a : Nat} {fty : FieldType} {fs : List Value} {v : Value} (r : gk_F M.1.cls idx ci j fty true) (hi0 : M.1.name = "<init>") (d : decode M.2.1 pc = .ok (.putfield idx, 3)) (ha : h a = some (oO ci fs)) (hn : narrow fty v = v) (hf : fits fty v = true) (hlen : j < fs.length)
    (kk : G (pc + 3) L st (hset h a (oO ci (fs.set j v))) k n) : G pc L (v :: .ref a :: st) h k n := by
  obtain ⟨p, e, s, m, args, below, meth, c, A, Q, ⟨hx, hb, hml, hown, hts, hnm, hlk, hW, hA0⟩, hX, rfl⟩ := C
  intro H locs ls hV hA hS hL
  obtain ⟨C, T, N, ty, ref, ⟨hc, hin, hty, hnn⟩, hj, htj, hfin, hdecl, hl, hs⟩ := r
  have hsame : ∀ x, s.fieldFound? (T j).1 (T j).2.1 (T j).2.2.1 = some x → s.fieldFound? ref (T j).2.1 (T j).2.2.1 = some x := by
    intro x hx2
    rcases hs with rfl | hs
    · exact hx2
    · exact u_same (hts _ hs) x hx2
  have hap := va_apart (own := M.1.cls) hts hin ty hty hnn hW.1 hc
  obtain ⟨r, h1, cell, q1, q2, q3, q4⟩ := hV a _ ha
  have hr : r = (C, T, N) := Option.some.inj (h1.symm.trans hc)
  subst hr
  obtain ⟨hSl, hfc, kC, hkC, hkind⟩ := hW.1.1 ci _ hc
  obtain ⟨cf, kf, fi, f, hi, hsl⟩ := hSl j hj
  have hlay := hts _ (hin _ (u_in_lay hj))
  unfold u_lay at hlay
  rw [if_pos hfin] at hlay
  have hst := (u_facts hfc hkC (u_lays hts hin hj) hi).1
  have hcf : m.cls = cf := by
    obtain ⟨_, _, c', _, _, _, -, -, hf', -, -, -, hown2, -⟩ := Cond.laysFinal_spec hlay
    have e1 : c' = cf := by have := hi.symm.trans hf'; simp at this; exact this.1.symm
    rw [hdecl rfl] at hown2
    rw [← e1]; exact Option.some.inj (hown.symm.trans hown2)
  have h6 := u_fits hfc hkC hkind (Or.inr hlay) hi (by rw [hty j hj, htj]) hn hf
  have key : ∀ H' : Heap, H'[a]? = some (cell.setSlot f.slot v) → H'.size = H.size → (∀ q, q ≠ a → H'[q]? = H[q]?) → W p l e (gk_room M) s m args below meth c H' (locs ++ [⟨a, f.slot⟩]) k n Q (F0 m (pc + 3) ls st) := by
    intro H' e1 e2 e3
    rw [hsl] at e1 ⊢
    refine kk H' _ ls (hV.set ?_ e3) (hset_dom hA (hA a (by rw [ha]; exact fun z => by cases z))) (hS.put e2 e3 (hA a (by rw [ha]; exact fun z => by cases z))) hL
    exact ⟨_, hc, t_OB.to (V := updV (vp_V fs) j v) ⟨_, e1, q2, q3, t_set q4 hap hj v⟩ (fun i _ => vp_updV_set hlen v i)⟩
  rcases hl with hl | ⟨host, hl⟩
  · exact W.putFinK hx hb hown (hts _ hl) (hsame _ hi) hst hcf (hnm.trans hi0) (by rw [q2]; exact h6) q1 q3 (by rw [hsl]; exact k2_hasslot (q4 j hj)) rfl rfl d key
  · have hlk2 := va_Nw.use (A := args) (gk_nw_tab hl) (hW.2.1 _ hl)
    have ha2 : a < H.size := (Array.getElem?_eq_some_iff.mp q1).1
    refine va_Wputf hx hb hown hlk2 (hsame _ hi) hst (Or.inr ⟨hcf, hnm.trans hi0⟩) q1 (by rw [q3]; exact fun z => by cases z) (by rw [hsl]; exact k2_hasslot (q4 j hj)) h6.1 (by rw [q3, q2]; exact h6.2) rfl rfl d (key _ ?_ ?_ ?_)
    · simp [Array.getElem?_setIfInBounds, ha2]
    · simp
    · intro q hq
      simp [Array.getElem?_setIfInBounds, Ne.symm hq]
theorem gk_iald (C : Cx l Γ M G X) {a : Nat} {z n0 : Int} {f : Int → Int} (d : decode M.2.1 pc = .ok (.iaload, 1)) (ha : h a = some (aI n0 f)) (hz : 0 ≤ z ∧ z < n0) (hn : n0 ≤ 2147483647) (kk : G (pc + 1) L (iv (f z) :: st) h k n) : G pc L (iv z :: .ref a :: st) h k n := by
  obtain ⟨p, e, s, m, args, below, meth, c, A, Q, ⟨hx, hb, hml, hown, hts, hnm, hlk, hW, hA0⟩, hX, rfl⟩ := C
  intro H locs ls hV hA hS hL
  refine va_iald (D := Γ.1) hx hb hW.1 (gk_one hV ha) 0 0 rfl rfl (gk_in hz.1 hz.2 hn) d ?_
  rw [gk_nat (by omega), show ((z.toNat : Nat) : Int) = z by omega]
  exact kk H locs ls hV hA hS hL
theorem gk_aald (C : Cx l Γ M G X) {a y : Nat} {z n0 : Int} {f : Int → Option Nat} (d : decode M.2.1 pc = .ok (.aaload, 1)) (ha : h a = some (aR n0 f)) (hz : 0 ≤ z ∧ z < n0) (hn : n0 ≤ 2147483647) (hy : f z = some y) (kk : G (pc + 1) L (.ref y :: st) h k n) : G pc L (iv z :: .ref a :: st) h k n := by
  obtain ⟨p, e, s, m, args, below, meth, c, A, Q, ⟨hx, hb, hml, hown, hts, hnm, hlk, hW, hA0⟩, hX, rfl⟩ := C
  intro H locs ls hV hA hS hL
  refine va_aldq (D := Γ.1) hx hb hW.1 (gk_one hV ha) 0 1 rfl rfl (gk_in hz.1 hz.2 hn) d ?_
  rw [gk_nat (by omega), show ((z.toNat : Nat) : Int) = z by omega, hy]
  exact kk H locs ls hV hA hS hL
theorem gk_nn {z n0 : Int} (hz : 0 ≤ z ∧ z < n0) (hn : n0 ≤ 2147483647) {N : Nat} (hN : n0.toNat = N) {g : Nat → Value} {cA : ClassId} : ¬ (Int32.ofInt z < 0 ∨ (arrV cA N g).slots.size ≤ (Int32.ofInt z).toNatClampNeg) := by
  rw [arrV_size, ← hN]
  exact gk_in hz.1 hz.2 hn
theorem gk_iast (C : Cx l Γ M G X) {a : Nat} {x z n0 : Int} {f : Int → Int} (d : decode M.2.1 pc = .ok (.iastore, 1)) (ha : h a = some (aI n0 f)) (hz : 0 ≤ z ∧ z < n0) (hn : n0 ≤ 2147483647) (kk : G (pc + 1) L st (hset h a (aI n0 (gupd f z x))) k n) : G pc L (iv x :: iv z :: .ref a :: st) h k n := by
  obtain ⟨p, e, s, m, args, below, meth, c, A, Q, ⟨hx, hb, hml, hown, hts, hnm, hlk, hW, hA0⟩, hX, rfl⟩ := C
  intro H locs ls hV hA hS hL
  have hAa : A a := hA a (by rw [ha]; exact fun z => by cases z)
  refine W.iast hx hb (hV a _ ha) ((hW.1.2 0 _ rfl).1 n0.toNat (fun j => .int (Int32.ofInt (f j)))) (fun q => by cases q) (gk_nn hz hn rfl) rfl rfl d fun H1 e2 z2 oq => ?_
  refine kk H1 _ ls (hV.set ?_ oq) (hset_dom hA hAa) (hS.put z2 oq hAa) hL
  show H1[a]? = some (arrV Γ.2.1 n0.toNat (fun q => .int (Int32.ofInt (gupd f z x (q : Int)))))
  rw [e2]
  show some ((arrV Γ.2.1 n0.toNat (fun q => .int (Int32.ofInt (f (q : Int))))).setSlot _ _) = _
  rw [arrV_store]
  congr 2
  funext q
  rw [gk_nat (by omega)]
  unfold updV gupd
  by_cases hq : q = z.toNat
  · rw [if_pos hq, if_pos (by omega)]
  · rw [if_neg hq, if_neg (by omega)]
theorem gk_len {z : Int} (h0 : 0 ≤ z) : Int32.ofNat z.toNat = Int32.ofInt z := by
  rw [← Int32.ofInt_eq_ofNat, Int.toNat_of_nonneg h0]
theorem gk_alenI (C : Cx l Γ M G X) {a : Nat} {n0 : Int} {f : Int → Int} (d : decode M.2.1 pc = .ok (.arraylength, 1)) (ha : h a = some (aI n0 f)) (h0 : 0 ≤ n0) (kk : G (pc + 1) L (iv n0 :: st) h k n) : G pc L (.ref a :: st) h k n := by
  obtain ⟨p, e, s, m, args, below, meth, c, A, Q, ⟨hx, hb, hml, hown, hts, hnm, hlk, hW, hA0⟩, hX, rfl⟩ := C
  intro H locs ls hV hA hS hL
  exact va_alen (D := Γ.1) hx hb hW.1 (gk_one hV ha) 0 0 rfl rfl (gk_len h0) d (kk H locs ls hV hA hS hL)
theorem gk_alenR (C : Cx l Γ M G X) {a : Nat} {n0 : Int} {f : Int → Option Nat} (d : decode M.2.1 pc = .ok (.arraylength, 1)) (ha : h a = some (aR n0 f)) (h0 : 0 ≤ n0) (kk : G (pc + 1) L (iv n0 :: st) h k n) : G pc L (.ref a :: st) h k n := by
  obtain ⟨p, e, s, m, args, below, meth, c, A, Q, ⟨hx, hb, hml, hown, hts, hnm, hlk, hW, hA0⟩, hX, rfl⟩ := C
  intro H locs ls hV hA hS hL
  exact va_alen (D := Γ.1) hx hb hW.1 (gk_one hV ha) 0 1 rfl rfl (gk_len h0) d (kk H locs ls hV hA hS hL)
end GM
