/-! new objects and arrays, rows of references, statics, casts, constants, the rest of the instructions; the frame rule -/
theorem Ct.mono {l : Launch} {Γ : GA} {M : MD} {As : List Value} {h : Hp} {post post' : Option Value → Hp → Prop} {px px' : String → Hp → Prop} (hc : Ct l Γ M As h post px) (h1 : ∀ v h', post v h' → post' v h') (h2 : ∀ E h', px E h' → px' E h') : Ct l Γ M As h post' px' := by
  intro sz p e ha hcas hk s m args below hf happ hP hK
  obtain ⟨n, o, k1, k2, k3, k4⟩ := hc sz p e ha hcas hk s m args below hf happ hP hK
  refine ⟨n, o, k1, k2, k3, ?_⟩
  rcases k4 with ⟨⟨⟨v, h', e1, e2, e3⟩, hF⟩, hL⟩ | ⟨q, e1, E, ce, L, ⟨⟨h', e2, e3⟩, hF⟩, hr⟩
  · exact Or.inl ⟨⟨⟨v, h', e1, h1 v h' e2, e3⟩, hF⟩, hL⟩
  · exact Or.inr ⟨q, e1, E, ce, L, ⟨⟨h', h2 E h' e2, e3⟩, hF⟩, hr⟩
/-- h with the part h0 of it become h1 -/
def gk_ov (h h0 h1 : Hp) : Hp := fun q => match h0 q, h q with
  | none, some e => some e
  | _, _ => h1 q
theorem gk_ov_in {h h0 h1 : Hp} {q : Nat} (c : h0 q ≠ none) : gk_ov h h0 h1 q = h1 q := by
  unfold gk_ov
  cases d : h0 q with
  | none => exact absurd d c
  | some e => rfl
theorem gk_ov_out {h h0 h1 : Hp} {q : Nat} {e : AE} (c : h0 q = none) (d : h q = some e) : gk_ov h h0 h1 q = some e := by
  unfold gk_ov
  rw [c, d]
theorem gk_ov_new {h h0 h1 : Hp} {q : Nat} (d : h q = none) : gk_ov h h0 h1 q = h1 q := by
  unfold gk_ov
  rw [d]
  cases h0 q <;> rfl
/-- THE FRAME RULE: a contract over a part of the heap holds over the whole, and leaves the rest as it is -/
theorem Ct.frame {l : Launch} {Γ : GA} {M : MD} {As : List Value} {h h0 : Hp} {post : Option Value → Hp → Prop} {px : String → Hp → Prop} (hs : ∀ q e, h0 q = some e → h q = some e) (hc : Ct l Γ M As h0 post px) :
    Ct l Γ M As h (fun v h' => ∃ h1, post v h1 ∧ h' = gk_ov h h0 h1 ∧ ∀ q, h1 q ≠ none → h0 q ≠ none ∨ h q = none) (fun E h' => ∃ h1, px E h1 ∧ h' = gk_ov h h0 h1 ∧ ∀ q, h1 q ≠ none → h0 q ≠ none ∨ h q = none) := by
  intro sz p e ha hcas hk s m args below hf happ hP hK
  have hsub : ∀ q, gk_A h0 sz q → gk_A h sz q := by
    rintro q (h1 | h1)
    · refine Or.inl fun z => h1 ?_
      cases c : h0 q with
      | none => rfl
      | some e => rw [hs q e c] at z; cases z
    · exact Or.inr h1
  obtain ⟨rfl, hsz, hV, hW⟩ := hP
  have hV0 : gk_V Γ h0 s.heap := fun a e c => hV a e (hs a e c)
  obtain ⟨n, o, k1, k2, k3, k4⟩ := hc sz p e ha hcas hk s m _ below hf happ ⟨rfl, hsz, hV0, gk_W.narrow hsub hW⟩ hK
  refine ⟨n, o, k1, k2, k3, ?_⟩
  have key : ∀ (h1 : Hp) (H1 : Heap), gk_V Γ h1 H1 → (∀ q : Nat, q < s.heap.size → ¬ gk_A h0 sz q → H1[q]? = s.heap[q]?) → gk_V Γ (gk_ov h h0 h1) H1 := by
    intro h1 H1 hV1 hk1 a e c
    cases d : h0 a with
    | some e0 =>
      rw [gk_ov_in (by rw [d]; exact fun z => by cases z)] at c
      exact hV1 a e c
    | none =>
      cases d2 : h a with
      | none =>
        rw [gk_ov_new d2] at c
        exact hV1 a e c
      | some e1 =>
        rw [gk_ov_out d d2] at c
        cases c
        have hlt := hV.lt d2
        refine (hV a _ d2).kept (hk1 a hlt ?_)
        rintro (z | z)
        · exact z d
        · omega
  have dom : ∀ h1 : Hp, (∀ q, h1 q ≠ none → gk_A h0 sz q) → (∀ q, gk_ov h h0 h1 q ≠ none → gk_A h sz q) ∧ ∀ q, h1 q ≠ none → h0 q ≠ none ∨ h q = none := by
    intro h1 hd
    refine ⟨fun q hq => ?_, fun q hq => ?_⟩
    · cases d2 : h q with
      | some e1 => exact Or.inl (by rw [d2]; exact fun z => by cases z)
      | none =>
        rw [gk_ov_new d2] at hq
        exact hsub q (hd q hq)
    · rcases hd q hq with z | z
      · exact Or.inl z
      · refine Or.inr ?_
        cases d2 : h q with
        | none => rfl
        | some e1 => have := hV.lt d2; omega
  have fr : ∀ t : State, va_F (gk_A h0 sz) s t → va_F (gk_A h sz) s t := fun t hF => ⟨hF.1, fun q h1 h2 => hF.2 q h1 (fun z => h2 (hsub q z))⟩
  rcases k4 with ⟨⟨⟨v, h1, e1, e2, e3, e4⟩, hF⟩, L, hL1, hL2⟩ | ⟨q, e1, E, ce, L, ⟨⟨h1, e2, e3, e4⟩, hF⟩, hr1, hr2, hr3, hr4, hr5, hr6⟩
  · exact Or.inl ⟨⟨⟨v, _, e1, ⟨h1, e2, rfl, (dom h1 e4).2⟩, key h1 _ e3 hF.2, (dom h1 e4).1⟩, fr _ hF⟩, L, hL1, fun q hq => hsub _ (hL2 q hq)⟩
  · exact Or.inr ⟨q, e1, E, ce, L, ⟨⟨_, ⟨h1, e2, rfl, (dom h1 e4).2⟩, key h1 _ e3 hF.2, (dom h1 e4).1⟩, fr _ hF⟩, hr1, hr2, hr3, hr4, hr5, fun z hz => hsub _ (hr6 z hz)⟩
/-- entry idx of own's pool is the class ci, new objects of which hold fs -/
def gk_N (own : String) (idx ci : Nat) (fs : List Value) (N : Nat) : Prop := ∃ (C0 : String) (T : u_T) (ty : Nat → FieldType), gk_cl ci C0 T N ty ∧ Cond.classLink own idx C0 ∈ gk_WS ∧ Cond.instantiable C0 N ∈ gk_WS ∧ Cond.initialized C0 ∈ gk_WS ∧ ∀ j, j < N → defaultValue (ty j) = vp_V fs j
theorem gk_acI : Cond.arrayClass .int ∈ gk_WS := gk_ws (List.mem_append_right _ (List.mem_of_getElem? (i := 86) (by decide +kernel))) rfl
theorem gk_acZ : Cond.arrayClass .boolean ∈ gk_WS := gk_ws (List.mem_append_right _ (List.mem_of_getElem? (i := 961) (by decide +kernel))) rfl
theorem gk_acL : Cond.arrayClass .long ∈ gk_WS := gk_ws (List.mem_append_right _ (List.mem_of_getElem? (i := 1178) (by decide +kernel))) rfl
theorem gk_acD : Cond.arrayClass .double ∈ gk_WS := gk_ws (List.mem_append_right _ (List.mem_of_getElem? (i := 1179) (by decide +kernel))) rfl
section GN
variable {l : Launch} {Γ : GA} {M : MD} {G : GP} {X : String → Hp → Nat → Nat → Prop} {pc : Nat} {L : List (Option Value)} {st : List Value} {h : Hp} {k n : Nat}
theorem gk_SN {A : Nat → Prop} {H0 H H1 : Heap} {locs : List Loc} (hS : va_S A H0 H locs) (hz : H1.size = H.size + 1) (ho : ∀ q, q < H.size → H1[q]? = H[q]?) : va_S A H0 H1 locs :=
  ⟨Nat.le_trans hS.1 (by omega), fun x h1 h2 => (ho x (Nat.lt_of_lt_of_le h1 hS.1)).trans (hS.2.1 x h1 h2), hS.2.2⟩
theorem gk_new (C : Cx l Γ M G X) {idx ci N : Nat} {fs : List Value} (r : gk_N M.1.cls idx ci fs N) (hbud : k + 1 ≤ M.2.2.2.2.2.2.1 ∧ n + N ≤ M.2.2.2.2.2.2.2) (d : decode M.2.1 pc = .ok (.new idx, 3))
    (kk : ∀ q, h q = none → G (pc + 3) L (.ref q :: st) (hset h q (oO ci fs)) (k + 1) (n + N)) : G pc L st h k n := by
  obtain ⟨p, e, s, m, args, below, meth, c, A, Q, ⟨hx, hb, hml, hown, hts, hnm, hlk, hW, hA0⟩, hX, rfl⟩ := C
  intro H locs ls hV hA hS hL
  obtain ⟨C0, T, ty, ⟨hc, hin, hty, hnn⟩, h1, h2, h3, hfs⟩ := r
  have hKn := hW.1.1 ci _ hc
  refine W.newcK hx hb hown (hts _ h1) (hts _ h2) (hts _ h3) rfl d hbud.1 hbud.2 hKn.2.1 rfl fun H1 kC hkC e1 z1 o1 => ?_
  obtain ⟨f1, f2⟩ := hV.new (e := oO ci fs) (H1 := H1) ⟨_, hc, (u_born ty hts hin hKn hkC e1 hty).to hfs⟩ o1
  exact kk H.size f1 H1 locs ls f2 (hset_dom hA (hA0 _ hS.1)) (gk_SN hS z1 o1) hL
theorem gk_newI (C : Cx l Γ M G X) {z : Int} (d : decode M.2.1 pc = .ok (.newarray .int, 2)) (hz : 0 ≤ z ∧ z ≤ 65536) (hbud : k + 1 ≤ M.2.2.2.2.2.2.1 ∧ n + z.toNat ≤ M.2.2.2.2.2.2.2)
    (kk : ∀ q, h q = none → G (pc + 2) L (.ref q :: st) (hset h q (aI z (fun _ => 0))) (k + 1) (n + z.toNat)) : G pc L (iv z :: st) h k n := by
  obtain ⟨p, e, s, m, args, below, meth, c, A, Q, ⟨hx, hb, hml, hown, hts, hnm, hlk, hW, hA0⟩, hX, rfl⟩ := C
  intro H locs ls hV hA hS hL
  refine va_newaK hx hb (atype := .int) (hts _ gk_acI) rfl d rfl (fun y => ?_) (gk_nat (by omega)) (by show _ * 4 ≤ _; omega) hbud.1 hbud.2 rfl fun H1 cA e1 z1 o1 hAr hNm => ?_
  · rw [gk_0, gk_lt (by omega) (by omega)] at y
    omega
  have hcA : cA = Γ.2.1 := Option.some.inj (hNm.symm.trans (hW.1.2 0 _ rfl).2)
  subst hcA
  obtain ⟨f1, f2⟩ := hV.new (e := aI z (fun _ => 0)) (H1 := H1) e1 o1
  exact kk H.size f1 H1 locs ls f2 (hset_dom hA (hA0 _ hS.1)) (gk_SN hS z1 o1) hL
theorem gk_newZ (C : Cx l Γ M G X) {z : Int} (d : decode M.2.1 pc = .ok (.newarray .boolean, 2)) (hz : 0 ≤ z ∧ z ≤ 65536) (hbud : k + 1 ≤ M.2.2.2.2.2.2.1 ∧ n + z.toNat ≤ M.2.2.2.2.2.2.2)
    (kk : ∀ q, h q = none → G (pc + 2) L (.ref q :: st) (hset h q (aZ z (fun _ => 0))) (k + 1) (n + z.toNat)) : G pc L (iv z :: st) h k n := by
  obtain ⟨p, e, s, m, args, below, meth, c, A, Q, ⟨hx, hb, hml, hown, hts, hnm, hlk, hW, hA0⟩, hX, rfl⟩ := C
  intro H locs ls hV hA hS hL
  refine va_newaK hx hb (atype := .boolean) (hts _ gk_acZ) rfl d rfl (fun y => ?_) (gk_nat (by omega)) (by show _ * 1 ≤ _; omega) hbud.1 hbud.2 rfl fun H1 cA e1 z1 o1 hAr hNm => ?_
  · rw [gk_0, gk_lt (by omega) (by omega)] at y
    omega
  have hcA : cA = Γ.2.2.1 := Option.some.inj (hNm.symm.trans (hW.1.2 1 _ rfl).2)
  subst hcA
  obtain ⟨f1, f2⟩ := hV.new (e := aZ z (fun _ => 0)) (H1 := H1) e1 o1
  exact kk H.size f1 H1 locs ls f2 (hset_dom hA (hA0 _ hS.1)) (gk_SN hS z1 o1) hL
theorem gk_newL (C : Cx l Γ M G X) {z : Int} (d : decode M.2.1 pc = .ok (.newarray .long, 2)) (hz : 0 ≤ z ∧ z ≤ 65536) (hbud : k + 1 ≤ M.2.2.2.2.2.2.1 ∧ n + z.toNat ≤ M.2.2.2.2.2.2.2)
    (kk : ∀ q, h q = none → G (pc + 2) L (.ref q :: st) (hset h q (aL z (fun _ => 0))) (k + 1) (n + z.toNat)) : G pc L (iv z :: st) h k n := by
  obtain ⟨p, e, s, m, args, below, meth, c, A, Q, ⟨hx, hb, hml, hown, hts, hnm, hlk, hW, hA0⟩, hX, rfl⟩ := C
  intro H locs ls hV hA hS hL
  refine va_newaK hx hb (atype := .long) (hts _ gk_acL) rfl d rfl (fun y => ?_) (gk_nat (by omega)) (by show _ * 8 ≤ _; omega) hbud.1 hbud.2 rfl fun H1 cA e1 z1 o1 hAr hNm => ?_
  · rw [gk_0, gk_lt (by omega) (by omega)] at y
    omega
  have hcA : cA = Γ.2.2.2.2.1 := Option.some.inj (hNm.symm.trans (hW.1.2 3 _ rfl).2)
  subst hcA
  obtain ⟨f1, f2⟩ := hV.new (e := aL z (fun _ => 0)) (H1 := H1) e1 o1
  exact kk H.size f1 H1 locs ls f2 (hset_dom hA (hA0 _ hS.1)) (gk_SN hS z1 o1) hL
theorem gk_newD (C : Cx l Γ M G X) {z : Int} (d : decode M.2.1 pc = .ok (.newarray .double, 2)) (hz : 0 ≤ z ∧ z ≤ 65536) (hbud : k + 1 ≤ M.2.2.2.2.2.2.1 ∧ n + z.toNat ≤ M.2.2.2.2.2.2.2)
    (kk : ∀ q, h q = none → G (pc + 2) L (.ref q :: st) (hset h q (aD z (fun _ => 0))) (k + 1) (n + z.toNat)) : G pc L (iv z :: st) h k n := by
  obtain ⟨p, e, s, m, args, below, meth, c, A, Q, ⟨hx, hb, hml, hown, hts, hnm, hlk, hW, hA0⟩, hX, rfl⟩ := C
  intro H locs ls hV hA hS hL
  refine va_newaK hx hb (atype := .double) (hts _ gk_acD) rfl d rfl (fun y => ?_) (gk_nat (by omega)) (by show _ * 8 ≤ _; omega) hbud.1 hbud.2 rfl fun H1 cA e1 z1 o1 hAr hNm => ?_
  · rw [gk_0, gk_lt (by omega) (by omega)] at y
    omega
  have hcA : cA = Γ.2.2.2.2.2.1 := Option.some.inj (hNm.symm.trans (hW.1.2 4 _ rfl).2)
  subst hcA
  obtain ⟨f1, f2⟩ := hV.new (e := aD z (fun _ => 0)) (H1 := H1) e1 o1
  exact kk H.size f1 H1 locs ls f2 (hset_dom hA (hA0 _ hS.1)) (gk_SN hS z1 o1) hL
theorem gk_newR (C : Cx l Γ M G X) {z : Int} {idx : Nat} (hk : Cond.classLink M.1.cls idx "java/lang/Object" ∈ gk_WS) (d : decode M.2.1 pc = .ok (.anewarray idx, 3)) (hz : 0 ≤ z ∧ z ≤ 65536) (hbud : k + 1 ≤ M.2.2.2.2.2.2.1 ∧ n + z.toNat ≤ M.2.2.2.2.2.2.2)
    (kk : ∀ q, h q = none → G (pc + 3) L (.ref q :: st) (hset h q (aR z (fun _ => none))) (k + 1) (n + z.toNat)) : G pc L (iv z :: st) h k n := by
  obtain ⟨p, e, s, m, args, below, meth, c, A, Q, ⟨hx, hb, hml, hown, hts, hnm, hlk, hW, hA0⟩, hX, rfl⟩ := C
  intro H locs ls hV hA hS hL
  have hov : (Cond.arrayOver (.object "java/lang/Object")).before args s = true := va_AO.use hW.2.2.2.2.2.2.2.2.2.2
  refine W.anew hx hb hown (hts _ hk) hov rfl d rfl (fun y => ?_) (by rw [gk_nat (by omega)]; omega) hbud.1 (by rw [gk_nat (by omega)]; exact hbud.2) fun cA kA comp g1 g2 g3 g4 => ?_
  · rw [gk_0, gk_lt (by omega) (by omega)] at y
    omega
  rw [gk_nat (by omega)]
  obtain ⟨-, kA2, comp2, r1, r2, r3, r4⟩ := hW.1.2 2 _ rfl
  have hcA : cA = Γ.2.2.2.1 := Option.some.inj (g1.symm.trans r4)
  subst hcA
  have e1 : ∀ q, q < H.size → (H.push { cls := Γ.2.2.2.1, slots := Array.replicate z.toNat .null, vm := .none })[q]? = H[q]? := by
    intro q hq
    rw [Array.getElem?_push, if_neg (Nat.ne_of_lt hq)]
  obtain ⟨f1, f2⟩ := hV.new (e := aR z (fun _ => none)) (H1 := H.push { cls := Γ.2.2.2.1, slots := Array.replicate z.toNat .null, vm := .none }) (by
    show (H.push _)[H.size]? = some (arrV Γ.2.2.2.1 z.toNat (fun _ => .null))
    rw [← arrV_new]; simp) e1
  exact kk H.size f1 _ locs ls f2 (hset_dom hA (hA0 _ hS.1)) (gk_SN hS (by simp) e1) hL
theorem gk_aastN (C : Cx l Γ M G X) {a : Nat} {z n0 : Int} {f : Int → Option Nat} (d : decode M.2.1 pc = .ok (.aastore, 1)) (ha : h a = some (aR n0 f)) (hz : 0 ≤ z ∧ z < n0) (hn : n0 ≤ 2147483647) (kk : G (pc + 1) L st (hset h a (aR n0 (gupd f z none))) k n) : G pc L (.null :: iv z :: .ref a :: st) h k n := by
  obtain ⟨p, e, s, m, args, below, meth, c, A, Q, ⟨hx, hb, hml, hown, hts, hnm, hlk, hW, hA0⟩, hX, rfl⟩ := C
  intro H locs ls hV hA hS hL
  have hAa : A a := hA a (by rw [ha]; exact fun z => by cases z)
  refine va_WaastN (C := "java/lang/Object") hx hb (hV a _ ha) ((hW.1.2 2 _ rfl).1 n0.toNat (fun j => va_rf (f j))) (fun q => by cases q) (gk_nn hz hn rfl) rfl rfl d fun H1 e2 z2 oq => ?_
  refine kk H1 _ ls (hV.set ?_ oq) (hset_dom hA hAa) (hS.put z2 oq hAa) hL
  show H1[a]? = some (arrV Γ.2.2.2.1 n0.toNat (fun q => va_rf (gupd f z none (q : Int))))
  rw [e2]
  show some ((arrV Γ.2.2.2.1 n0.toNat (fun q => va_rf (f (q : Int)))).setSlot _ _) = _
  rw [arrV_store]
  congr 2
  funext q
  rw [gk_nat (by omega)]
  unfold updV gupd
  by_cases hq : q = z.toNat
  · rw [if_pos hq, if_pos (by omega)]; rfl
  · rw [if_neg hq, if_neg (by omega)]
theorem gk_aast (C : Cx l Γ M G X) {a v ci N : Nat} {C0 : String} {T : u_T} {fs : List Value} {z n0 : Int} {f : Int → Option Nat} (d : decode M.2.1 pc = .ok (.aastore, 1)) (ha : h a = some (aR n0 f)) (hv : h v = some (oO ci fs)) (hci : vwCl[ci]? = some (C0, T, N)) (hcs : Cond.castable C0 "java/lang/Object" ∈ gk_NW) (hz : 0 ≤ z ∧ z < n0) (hn : n0 ≤ 2147483647) (kk : G (pc + 1) L st (hset h a (aR n0 (gupd f z (some v)))) k n) : G pc L (.ref v :: iv z :: .ref a :: st) h k n := by
  obtain ⟨p, e, s, m, args, below, meth, c, A, Q, ⟨hx, hb, hml, hown, hts, hnm, hlk, hW, hA0⟩, hX, rfl⟩ := C
  intro H locs ls hV hA hS hL
  have hAa : A a := hA a (by rw [ha]; exact fun z => by cases z)
  have hi := gk_in hz.1 hz.2 hn
  have hlt : (Int32.ofInt z).toNatClampNeg < n0.toNat := Nat.not_le.mp fun q => hi (Or.inr q)
  have h0 : ¬ Int32.ofInt z < 0 := fun q => hi (Or.inl q)
  obtain ⟨cellV, g1, g3, g4⟩ := va_recv (D := Γ.1) (q0 := 0) hW.1 (gk_one hV hv) hci rfl
  obtain ⟨c0, t0, f1, f2, f3⟩ := Cond.castable_spec (va_Nw.use (A := args) (gk_nw_tab hcs) (hW.2.1 _ hcs))
  obtain ⟨kC, hkC, -⟩ := Vm.findClass_spec g4
  obtain ⟨-, kA, comp, k1, k2, k3, -⟩ := hW.1.2 2 _ rfl
  obtain ⟨kE, hkE, -⟩ := Vm.findClass_spec k3
  have ec : c0 = cellV.cls := Option.some.inj (f1.symm.trans g4)
  have et : t0 = comp := Option.some.inj (f2.symm.trans k3)
  refine W.aast hx hb (hV a _ ha) (fun q h => by cases h) (fun h => by cases h) k1 k2 rfl hkE ⟨h0, by show _ < (arrV _ _ _).slots.size; rw [arrV_size]; exact hlt⟩ g1 (fun q h => by rw [h] at g3; cases g3) hkC (by rw [← ec, ← et]; exact f3) rfl rfl d fun H1 e2 z2 oq => ?_
  refine kk H1 _ ls (hV.set ?_ oq) (hset_dom hA hAa) (hS.put z2 oq hAa) hL
  show H1[a]? = some (arrV Γ.2.2.2.1 n0.toNat (fun q => va_rf (gupd f z (some v) (q : Int))))
  rw [e2]
  show some ((arrV Γ.2.2.2.1 n0.toNat (fun q => va_rf (f (q : Int)))).setSlot _ _) = _
  rw [arrV_store]
  congr 2
  funext q
  rw [gk_nat (by omega)]
  unfold updV gupd
  by_cases hq : q = z.toNat
  · rw [if_pos hq, if_pos (by omega)]; rfl
  · rw [if_neg hq, if_neg (by omega)]
theorem gk_cast (C : Cx l Γ M G X) {idx a ci N : Nat} {C0 : String} {T : u_T} {fs : List Value} (hk : Cond.classLink M.1.cls idx C0 ∈ gk_WS) (hci : vwCl[ci]? = some (C0, T, N)) (ha : h a = some (oO ci fs)) (d : decode M.2.1 pc = .ok (.checkcast idx, 3)) (kk : G (pc + 3) L (.ref a :: st) h k n) : G pc L (.ref a :: st) h k n := by
  obtain ⟨p, e, s, m, args, below, meth, c, A, Q, ⟨hx, hb, hml, hown, hts, hnm, hlk, hW, hA0⟩, hX, rfl⟩ := C
  intro H locs ls hV hA hS hL
  exact va_castS hx hb hown (hts _ hk) (hW.1.1 ci _ hci).2 (va_recv (D := Γ.1) (q0 := 0) hW.1 (gk_one hV ha) hci rfl) d (kk H locs ls hV hA hS hL)
/-- the static of the empty element row -/
theorem gk_statE (C : Cx l Γ M G X) {idx : Nat} (hk : Cond.fieldLink M.1.cls idx "java/util/ArrayList" "DEFAULTCAPACITY_EMPTY_ELEMENTDATA" "[Ljava/lang/Object;" ∈ gk_WS) (d : decode M.2.1 pc = .ok (.getstatic idx, 3)) (kk : G (pc + 3) L (.ref Γ.2.2.2.2.2.2.1 :: st) h k n) : G pc L st h k n := by
  obtain ⟨p, e, s, m, args, below, meth, c, A, Q, ⟨hx, hb, hml, hown, hts, hnm, hlk, hW, hA0⟩, hX, rfl⟩ := C
  intro H locs ls hV hA hS hL
  exact va_gets hx hb hW.2.2.2.2.1 hS hown (hts _ hk) (fun _ z => z) d (kk H locs ls hV hA hS hL)
theorem gk_alenE (C : Cx l Γ M G X) (d : decode M.2.1 pc = .ok (.arraylength, 1)) (kk : G (pc + 1) L (iv 0 :: st) h k n) : G pc L (.ref Γ.2.2.2.2.2.2.1 :: st) h k n := by
  obtain ⟨p, e, s, m, args, below, meth, c, A, Q, ⟨hx, hb, hml, hown, hts, hnm, hlk, hW, hA0⟩, hX, rfl⟩ := C
  intro H locs ls hV hA hS hL
  obtain ⟨cell, h1, h2, h3, h4, h5, h6, h7⟩ := hW.2.2.2.2.2.1
  exact W.alen (n := Int32.ofInt 0) hx hb (by rw [hS.2.1 _ (Array.getElem?_eq_some_iff.mp h1).1 h7]; exact h1) h2 h5 rfl rfl d (kk H locs ls hV hA hS hL)
theorem gk_statP (C : Cx l Γ M G X) {idx : Nat} {host : String} (hk : Cond.fieldLinkNest M.1.cls idx "Dronegrade" "POINTS_BY_RANK" "[I" host ∈ gk_NW) (d : decode M.2.1 pc = .ok (.getstatic idx, 3)) (kk : G (pc + 3) L (.ref Γ.2.2.2.2.2.2.2 :: st) h k n) : G pc L st h k n := by
  obtain ⟨p, e, s, m, args, below, meth, c, A, Q, ⟨hx, hb, hml, hown, hts, hnm, hlk, hW, hA0⟩, hX, rfl⟩ := C
  intro H locs ls hV hA hS hL
  exact va_getsN hx hb hW.2.2.2.2.2.2.1 hS hown (va_Nw.use (gk_nw_tab hk) (hW.2.1 _ hk)) (fun _ z => z) d (kk H locs ls hV hA hS hL)
theorem gk_alenP (C : Cx l Γ M G X) (d : decode M.2.1 pc = .ok (.arraylength, 1)) (kk : G (pc + 1) L (iv 6 :: st) h k n) : G pc L (.ref Γ.2.2.2.2.2.2.2 :: st) h k n := by
  obtain ⟨p, e, s, m, args, below, meth, c, A, Q, ⟨hx, hb, hml, hown, hts, hnm, hlk, hW, hA0⟩, hX, rfl⟩ := C
  intro H locs ls hV hA hS hL
  obtain ⟨cell, h1, h2, h3, h4, h5, h6, h7⟩ := hW.2.2.2.2.2.2.2.1
  exact W.alen (n := Int32.ofInt 6) hx hb (by rw [hS.2.1 _ (Array.getElem?_eq_some_iff.mp h1).1 h7]; exact h1) h2 h5 rfl rfl d (kk H locs ls hV hA hS hL)
def gk_pt (r : Int) : Int := if r = 0 then 6 else if r = 1 then 4 else if r = 2 then 3 else if r = 3 then 2 else 1
theorem gk_ialdP (C : Cx l Γ M G X) {z : Int} (hz : 0 ≤ z ∧ z < 6) (d : decode M.2.1 pc = .ok (.iaload, 1)) (kk : G (pc + 1) L (iv (gk_pt z) :: st) h k n) : G pc L (iv z :: .ref Γ.2.2.2.2.2.2.2 :: st) h k n := by
  obtain ⟨p, e, s, m, args, below, meth, c, A, Q, ⟨hx, hb, hml, hown, hts, hnm, hlk, hW, hA0⟩, hX, rfl⟩ := C
  intro H locs ls hV hA hS hL
  obtain ⟨cell, h1, h2, h3, h4, h5, h6, h7⟩ := hW.2.2.2.2.2.2.2.1
  have hn : (Int32.ofInt z).toNatClampNeg = z.toNat := gk_nat (by omega)
  have hin : ¬ (Int32.ofInt z < 0 ∨ cell.slots.size ≤ (Int32.ofInt z).toNatClampNeg) := by
    rw [hn, gk_0, gk_lt (by omega) (by omega)]
    omega
  refine W.iald (v := iv (gk_pt z)) hx hb (by rw [hS.2.1 _ (Array.getElem?_eq_some_iff.mp h1).1 h7]; exact h1) h2 h3 hin ?_ rfl rfl d (kk H locs ls hV hA hS hL)
  rw [hn, h6 z.toNat (by omega)]
  have hc : z = 0 ∨ z = 1 ∨ z = 2 ∨ z = 3 ∨ z = 4 ∨ z = 5 := by omega
  rcases hc with rfl | rfl | rfl | rfl | rfl | rfl <;> rfl
theorem gk_ldc (C : Cx l Γ M G X) {idx : Nat} {z : Int} (hk : Cond.constant M.1.cls idx (Int32.ofInt z) ∈ gk_WS) (d : decode M.2.1 pc = .ok (.ldc idx, 2)) (kk : G (pc + 2) L (iv z :: st) h k n) : G pc L st h k n := by
  obtain ⟨p, e, s, m, args, below, meth, c, A, Q, ⟨hx, hb, hml, hown, hts, hnm, hlk, hW, hA0⟩, hX, rfl⟩ := C
  intro H locs ls hV hA hS hL
  exact lv_ldc hx hb hown (hts _ hk) d (kk H locs ls hV hA hS hL)
theorem gk_ldc2 (C : Cx l Γ M G X) {idx : Nat} {z : Int} (hk : Cond.constantLong M.1.cls idx (Int64.ofInt z) ∈ gk_WS) (d : decode M.2.1 pc = .ok (.ldc2_w idx, 3)) (kk : G (pc + 3) L (jv z :: st) h k n) : G pc L st h k n := by
  obtain ⟨p, e, s, m, args, below, meth, c, A, Q, ⟨hx, hb, hml, hown, hts, hnm, hlk, hW, hA0⟩, hX, rfl⟩ := C
  intro H locs ls hV hA hS hL
  exact lv_ldc2 hx hb hown (hts _ hk) d (kk H locs ls hV hA hS hL)
theorem gk_ldcf (C : Cx l Γ M G X) {idx : Nat} {z : UInt32} (hk : Cond.constantFloat M.1.cls idx z ∈ gk_WS) (d : decode M.2.1 pc = .ok (.ldc idx, 2)) (kk : G (pc + 2) L (.float z :: st) h k n) : G pc L st h k n := by
  obtain ⟨p, e, s, m, args, below, meth, c, A, Q, ⟨hx, hb, hml, hown, hts, hnm, hlk, hW, hA0⟩, hX, rfl⟩ := C
  intro H locs ls hV hA hS hL
  exact lv_ldcf hx hb hown (hts _ hk) d (kk H locs ls hV hA hS hL)
theorem gk_objInit (C : Cx l Γ M G X) {idx a : Nat} (hk : Cond.methodLink M.1.cls idx Lib.objectInit ∈ gk_WS) (hi : Cond.instanceMethod Lib.objectInit ∈ gk_WS) (hcd : Cond.code Lib.objectInit ⟨#[0xb1]⟩ 1 none ∈ gk_WS) (d : decode M.2.1 pc = .ok (.invokespecial idx, 3)) (hfr : 1 ≤ M.2.2.2.2.1) (hlo : (st.map fun v => v.category).sum + 12 ≤ M.2.2.2.2.2.1) (kk : G (pc + 3) L st h k n) : G pc L (.ref a :: st) h k n := by
  obtain ⟨p, e, s, m, args, below, meth, c, A, Q, ⟨hx, hb, hml, hown, hts, hnm, hlk, hW, hA0⟩, hX, rfl⟩ := C
  intro H locs ls hV hA hS hL
  exact W.objInit hx hb hown (hts _ hk) (hts _ hi) (hts _ hcd) rfl (hL.1.trans hml.symm) rfl d hfr (by show 2 * 0 + _ + 12 ≤ _; rw [Nat.mul_zero, Nat.zero_add]; exact hlo) (kk H locs ls hV hA hS hL)
theorem gk_lcmp (C : Cx l Γ M G X) {a b : Int} (ha : -9223372036854775808 ≤ a ∧ a ≤ 9223372036854775807) (hb0 : -9223372036854775808 ≤ b ∧ b ≤ 9223372036854775807) (d : decode M.2.1 pc = .ok (.lcmp, 1)) (kk : ∀ z : Int, -1 ≤ z ∧ z ≤ 1 → (z = 0 ↔ a = b) → (z < 0 ↔ a < b) → G (pc + 1) L (iv z :: st) h k n) : G pc L (jv b :: jv a :: st) h k n := by
  obtain ⟨p, e, s, m, args, below, meth, c, A, Q, ⟨hx, hb, hml, hown, hts, hnm, hlk, hW, hA0⟩, hX, rfl⟩ := C
  intro H locs ls hV hA hS hL
  refine W.lcmp hx hb d ?_
  have ta : (Int64.ofInt a).toInt = a := Int64.toInt_ofInt_of_le (by omega) (by omega)
  have tb : (Int64.ofInt b).toInt = b := Int64.toInt_ofInt_of_le (by omega) (by omega)
  have e1 : Int64.ofInt b < Int64.ofInt a ↔ b < a := by rw [Int64.lt_iff_toInt_lt, ta, tb]
  have e2 : Int64.ofInt a = Int64.ofInt b ↔ a = b := by rw [← Int64.toInt_inj, ta, tb]
  by_cases c1 : b < a
  · have e : lg_cmp (Int64.ofInt a) (Int64.ofInt b) = Int32.ofInt 1 := by simp [lg_cmp, e1.mpr c1]
    rw [e]
    exact kk 1 (by omega) (by omega) (by omega) H locs ls hV hA hS hL
  · by_cases c2 : a = b
    · have e : lg_cmp (Int64.ofInt a) (Int64.ofInt b) = Int32.ofInt 0 := by
        subst c2
        simp [lg_cmp]
      rw [e]
      exact kk 0 (by omega) (by omega) (by omega) H locs ls hV hA hS hL
    · have e : lg_cmp (Int64.ofInt a) (Int64.ofInt b) = Int32.ofInt (-1) := by
        have d1 : ¬ Int64.ofInt b < Int64.ofInt a := fun z => c1 (e1.mp z)
        have d2 : ¬ Int64.ofInt a = Int64.ofInt b := fun z => c2 (e2.mp z)
        simp only [lg_cmp, if_neg d1, if_neg d2]
        rfl
      rw [e]
      exact kk (-1) (by omega) (by omega) (by omega) H locs ls hV hA hS hL
end GN
