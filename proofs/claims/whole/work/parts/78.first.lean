/-! the law: before its loop -/
theorem hU_0 {U : Hp} : hU U (fun _ => none) = U := by
  funext q
  unfold hU
  cases U q <;> rfl
theorem hdj_new {U : Hp} {q1 : Nat} {e1 : AE} (h1 : U q1 = none) : hdj U (hset (fun _ => none) q1 e1) := fun q hq => by
  rw [hset_ne (fun z => hq (by rw [z]; exact h1))]
theorem hdj_new2 {U : Hp} {q1 q2 : Nat} {e1 e2 : AE} (h1 : U q1 = none) (h2 : U q2 = none) : hdj U (hset (hset (fun _ => none) q1 e1) q2 e2) := fun q hq => by
  rw [hset_ne (fun z => hq (by rw [z]; exact h2)), hset_ne (fun z => hq (by rw [z]; exact h1))]
theorem law_x {l : Launch} {Γ : GA} (hfl : l.stackTraces = false) {q : Nat} : Ct l Γ m_X4_init [.ref q] (hset (fun _ => none) q (oO 5 [.null, .null, .null, .null, .null, .null, .null, iv 0, iv 0])) (fun v h' => v = none ∧ ∃ ad2 : XK → Nat, ad2 (0, 0) = q ∧ IX (gEm Γ) ad2 xQ0 xS0 xP0 xB0 ∧ h' = HX (gEm Γ) ad2 xQ0 xS0 xP0 xB0) (fun _ _ => False) := by
  have e0 : emb (fun _ : XK => 0) (fun _ => none) = fun _ => none := by
    funext x
    exact emb_no (fun k z => absurd rfl z)
  have I0 : embI (fun _ : XK => 0) (fun _ => none) := fun k k' z => absurd rfl z
  obtain ⟨s1, -⟩ := emb_kn (k := ((0, 0) : XK)) (e := oO 5 [.null, .null, .null, .null, .null, .null, .null, iv 0, iv 0]) (q := q) I0 rfl (by rw [e0])
  rw [e0] at s1
  have k := x_init (l := l) (Γ := Γ) hfl (ad := adset (fun _ : XK => 0) (0, 0) q)
  rw [← s1, adset_eq] at k
  exact k
theorem law_m {l : Launch} {Γ : GA} (hfl : l.stackTraces = false) {q : Nat} : Ct l Γ m_X5_init [.ref q] (hset (fun _ => none) q (oO 6 [iv 0, Value.null, Value.null, Value.null, Value.null, Value.null, Value.null, Value.null, Value.null, iv 0, Value.null, Value.null, Value.null, Value.null, iv 0, Value.null, Value.null, iv 0, Value.null, Value.null, Value.null, Value.null, Value.null, Value.null, Value.null, Value.null, Value.null, Value.null, Value.null, iv 0, Value.null, Value.null, Value.null, Value.null, Value.null, Value.null, iv 0, iv 0, Value.null, iv 0])) (fun v h' => v = none ∧ ∃ ad2 : Nat → Nat, IM ad2 ∧ ad2 40 = q ∧ h' = HM ad2 (fun _ _ => 0)) (fun _ _ => False) := by
  have h40 : ∀ k : Nat, moPM (fun _ => q) 0 k ≠ none → k = 40 := by
    intro k hk
    by_cases c : k = 40
    · exact c
    · exfalso
      apply hk
      unfold moPM
      rw [if_neg c, if_neg (Nat.not_lt_zero k)]
  have I : embI (fun _ : Nat => q) (moPM (fun _ => q) 0) := fun a b ha hb _ => by rw [h40 a ha, h40 b hb]
  have at40 : moPM (fun _ => q) 0 40 = some (oO 6 (moPF (fun _ => q) 0)) := if_pos rfl
  have e1 : emb (fun _ : Nat => q) (moPM (fun _ => q) 0) = hset (fun _ => none) q (oO 6 (moPF (fun _ => q) 0)) := by
    funext x
    by_cases c : x = q
    · subst c
      rw [hset_eq]
      exact emb_at (ad := fun _ : Nat => x) I at40
    · rw [hset_ne c]
      exact emb_no (fun k _ z => c z.symm)
  have k := m_init (l := l) (Γ := Γ) hfl (ad := fun _ : Nat => q) I
  rw [e1] at k
  exact k
theorem sim_0 : Sim 0 xQ0 xS0 xP0 xB0 (fun _ _ => 0) := by
  refine ⟨?_, ⟨⟨rfl, by decide⟩, fun i hi => absurd hi (Nat.not_lt_zero i), fun i _ _ => ⟨rfl, rfl⟩⟩, ⟨⟨by decide, fun h => absurd h (Nat.not_lt_zero _), fun i hi => absurd hi (Nat.not_lt_zero i)⟩, rfl, fun i hi => absurd hi (Nat.not_lt_zero i)⟩, ⟨⟨rfl, by decide⟩, fun i hi => absurd hi (Nat.not_lt_zero i), fun i _ _ => ⟨rfl, rfl, rfl, rfl⟩, by decide, fun i => ⟨show (-1000000 : Int) ≤ 0 by decide, show (0 : Int) ≤ 1000000 by decide⟩⟩, ⟨⟨rfl, by decide⟩, fun i hi => absurd hi (Nat.not_lt_zero i), fun i _ _ => ⟨rfl, rfl⟩, fun i => ⟨show (0 : Int) ≤ 6 * ((0 : Nat) : Int) by decide, show (0 : Int) ≤ ((0 : Nat) : Int) by decide⟩, ⟨rfl, Or.inl rfl⟩, fun h => absurd h (by decide), by decide⟩⟩
  intro j i
  have hb : ∀ j, j < 40 → (mB j).1 ≤ 0 ∧ 0 ≤ (mB j).2 := by decide
  by_cases c : j < 40
  · exact hb j c
  · have e : mB j = (-2147483648, 2147483647) := by
      unfold mB
      rw [List.getD_eq_getElem?_getD, List.getElem?_eq_none (by show 40 ≤ j; omega)]
      rfl
    rw [e]
    exact ⟨show (-2147483648 : Int) ≤ 0 by decide, show (0 : Int) ≤ 2147483647 by decide⟩
set_option maxRecDepth 100000 in
set_option maxHeartbeats 4000000 in
theorem law_run {l : Launch} {Γ : GA} {nm : String} {G : GP} {sb ls : Nat} {xs : Nat → Int32} (CL : CxL l Γ (m_law nm) G sb ls xs) (hfl : l.stackTraces = false) (hls : ls ≤ 2560)
    (fin : ∀ (L : List (Option Value)) (h : Hp) (k n : Nat), k ≤ 601024 → n ≤ 7293033 → G 1739 L [] h k n) :
    G 0 [some (.ref sb), none, none, none, none, none, none, none] [] (fun _ => none) 0 0 := by
  have C := CL.cx
  refine gk_new C n_L_8 ⟨Nat.le_of_ble_eq_true rfl, Nat.le_of_ble_eq_true rfl⟩ dL_law_0 (fun q0 e0 => ?_)
  refine gk_dup C rfl dL_law_3 ?_
  refine gk_callI C o_X4_init rfl k_L_89 dL_law_4 (law_x hfl) rfl rfl ⟨Nat.le_of_ble_eq_true rfl, Nat.le_of_ble_eq_true rfl⟩ ⟨Nat.le_of_ble_eq_true rfl, Nat.le_of_ble_eq_true rfl⟩ (by exact Nat.le_of_ble_eq_true rfl) (fun _ _ z => z.elim) (fun v4 h4 p4 => ?_)
  obtain ⟨rfl, ad, ad0, I, rfl⟩ := p4
  dsimp only [gk_push]
  refine gk_astore_n_1 C rfl (by exact Nat.le_of_ble_eq_true rfl) dL_law_7 ?_
  refine gk_new C n_L_90 ⟨Nat.le_of_ble_eq_true rfl, Nat.le_of_ble_eq_true rfl⟩ dL_law_8 (fun q8 e8 => ?_)
  refine gk_dup C rfl dL_law_11 ?_
  have s8 := hU_setR (h2 := fun _ => none) (e := oO 6 [iv 0, Value.null, Value.null, Value.null, Value.null, Value.null, Value.null, Value.null, Value.null, iv 0, Value.null, Value.null, Value.null, Value.null, iv 0, Value.null, Value.null, iv 0, Value.null, Value.null, Value.null, Value.null, Value.null, Value.null, Value.null, Value.null, Value.null, Value.null, Value.null, iv 0, Value.null, Value.null, Value.null, Value.null, Value.null, Value.null, iv 0, iv 0, Value.null, iv 0]) e8
  rw [hU_0] at s8
  rw [s8]
  refine gk_callI C o_X5_init rfl k_L_92 dL_law_12 (Ct.frR (hdj_new e8) (law_m hfl)) rfl rfl ⟨Nat.le_of_ble_eq_true rfl, Nat.le_of_ble_eq_true rfl⟩ ⟨Nat.le_of_ble_eq_true rfl, Nat.le_of_ble_eq_true rfl⟩ (by exact Nat.le_of_ble_eq_true rfl) (fun _ _ z => by obtain ⟨_, z1, _⟩ := z; exact z1.elim) (fun v12 h12 p12 => ?_)
  obtain ⟨h3, ⟨rfl, adm, IMm, ad40, rfl⟩, hd, rfl⟩ := p12
  dsimp only [gk_push]
  refine gk_astore_n_2 C rfl (by exact Nat.le_of_ble_eq_true rfl) dL_law_15 ?_
  refine gk_iconst C dL_law_16 ?_
  refine gk_newL C dL_law_17 (by decide) ⟨Nat.le_of_ble_eq_true rfl, Nat.le_of_ble_eq_true rfl⟩ (fun o17 e17 => ?_)
  refine gk_astore_n_3 C rfl (by exact Nat.le_of_ble_eq_true rfl) dL_law_19 ?_
  refine gk_iconst C dL_law_20 ?_
  refine gk_newD C dL_law_21 (by decide) ⟨Nat.le_of_ble_eq_true rfl, Nat.le_of_ble_eq_true rfl⟩ (fun o21 e21 => ?_)
  refine gk_astore_4 C rfl (by exact Nat.le_of_ble_eq_true rfl) dL_law_23 ?_
  refine gk_iconst C dL_law_25 ?_
  refine gk_istore_5 C rfl (by exact Nat.le_of_ble_eq_true rfl) dL_law_26 ?_
  have hne : o17 ≠ o21 := fun z => by rw [z, hset_eq] at e21; cases e21
  have e21b : hU (HX (gEm Γ) ad xQ0 xS0 xP0 xB0) (HM adm (fun _ _ => 0)) o21 = none := by
    rw [hset_ne (fun z => hne z.symm)] at e21
    exact e21
  have s17 := hU_setR (h2 := fun _ => none) (e := aL 1 (fun _ => 0)) e17
  rw [hU_0] at s17
  have s21 := hU_setR (h2 := hset (fun _ => none) o17 (aL 1 (fun _ => 0))) (e := aD 1 (fun _ => 0)) e21b
  rw [s17, s21, hU_assoc]
  have dj := hdj_new2 (e1 := aL 1 (fun _ => 0)) (e2 := aD 1 (fun _ => 0)) e17 e21b
  have dXW : hdj (HX (gEm Γ) ad xQ0 xS0 xP0 xB0) (hset (hset (fun _ => none) o17 (aL 1 (fun _ => 0))) o21 (aD 1 (fun _ => 0))) := fun q hq => dj q (by
    cases c : HX (gEm Γ) ad xQ0 xS0 xP0 xB0 q with
    | none => exact absurd c hq
    | some ee => rw [hU_l c]; intro z; cases z)
  have dMW : hdj (HM adm (fun _ _ => 0)) (hset (hset (fun _ => none) o17 (aL 1 (fun _ => 0))) o21 (aD 1 (fun _ => 0))) := fun q hq => dj q (by
    cases c : HM adm (fun _ _ => 0) q with
    | none => exact absurd c hq
    | some ee => rw [hU_r hd c]; intro z; cases z)
  rw [← ad40]
  have key := law_loop CL hfl (x := q0) (o := o17) (od := o21) (adm := adm) IMm hne hls fin (ls + 1) 0 (by omega) (by omega) (HX (gEm Γ) ad xQ0 xS0 xP0 xB0) (hset (hset (fun _ => none) o17 (aL 1 (fun _ => 0))) o21 (aD 1 (fun _ => 0))) (fun _ _ => 0) (fun _ => 0) (fun _ => 0) (0 + 1 + 8 + 1 + 32 + 1 + 1) (0 + 9 + 37 + 40 + 2807 + 1 + 1) none none ⟨ad, xQ0, xS0, xP0, xB0, ad0, I, rfl, sim_0⟩ (by rw [hset_ne hne, hset_eq]) hset_eq (hdj_U.mpr ⟨hd, dXW⟩) dMW (by omega) (by omega)
  exact key
