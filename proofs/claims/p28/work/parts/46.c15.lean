/-! the class: drop -/
theorem ite_dom {b : Bool} {x y : AE} : (if b = true then some x else none) ≠ none → (if b = true then some y else none) ≠ none := by
  cases b
  · exact fun z => z
  · exact fun _ z => by cases z
section XD
variable {E : Nat} {ad : XK → Nat} {Q : XTs} {S : XSs} {P : XPs} {B : XBs}
theorem rw_drop {n : Nat} {g : Nat → Nat} (h : 1 ≤ n) : aR 10 (gupd (fun z : Int => if 0 ≤ z ∧ z < (n : Int) then some (g z.toNat) else none) ((n : Int) - 1) none) = rwC (n - 1) g := by
  unfold rwC
  refine congrArg (aR 10) (funext fun z => ?_)
  by_cases c : z = (n : Int) - 1
  · rw [c, gupd_eq, if_neg (by omega)]
  · rw [gupd_ne c]
    by_cases c2 : 0 ≤ z ∧ z < (n : Int)
    · rw [if_pos c2, if_pos (by omega)]
    · rw [if_neg c2, if_neg (by omega)]
theorem hx_drop (I : IX E ad Q S P B) (hal : S.1 = true) (h1 : 1 ≤ S.2.1) : hset (hset (HX E ad Q S P B) (ad (10, 0)) (aR 10 (gupd (fun z : Int => if 0 ≤ z ∧ z < (S.2.1 : Int) then some (ad (13, S.2.2.2.1 z.toNat)) else none) ((S.2.1 : Int) - 1) none))) (ad (2, 0)) (oAL (S.2.2.1 + 1) (ad (10, 0)) ((S.2.1 : Int) - 1)) = HX E ad Q (S.1, S.2.1 - 1, S.2.2.1 + 1, S.2.2.2.1, S.2.2.2.2) P B := by
  let m1 : XK → Option AE := fun k => @ite _ (k = (10, 0)) (Classical.propDecidable _) (some (rwC (S.2.1 - 1) (fun i => ad (13, S.2.2.2.1 i)))) (XM E ad Q S P B k)
  have e10 : XM E ad Q S P B (10, 0) = some (rwC S.2.1 (fun i => ad (13, S.2.2.2.1 i))) := if_pos hal
  have d10 : XM E ad Q S P B (10, 0) ≠ none := by rw [e10]; intro z; cases z
  have hm1 : m1 (10, 0) = some (rwC (S.2.1 - 1) (fun i => ad (13, S.2.2.2.1 i))) := if_pos rfl
  have hm2 : ∀ k, k ≠ (10, 0) → m1 k = XM E ad Q S P B k := fun k c => if_neg c
  have s1 := emb_set (m2 := m1) (k := (10, 0)) I d10 hm1 hm2
  have I1 : embI ad m1 := by
    intro a b ha hb
    refine I a b ?_ ?_
    · by_cases c : a = (10, 0)
      · rw [c]; exact d10
      · rw [← hm2 a c]; exact ha
    · by_cases c : b = (10, 0)
      · rw [c]; exact d10
      · rw [← hm2 b c]; exact hb
  have e9 := rw_drop (n := S.2.1) (g := fun i => ad (13, S.2.2.2.1 i)) h1
  try dsimp only at e9
  rw [e9]
  refine (congrArg (fun hh => hset hh (ad (2, 0)) (oAL (S.2.2.1 + 1) (ad (10, 0)) ((S.2.1 : Int) - 1))) s1).trans ?_
  refine emb_set (m := m1) (k := (2, 0)) I1 ?_ ?_ ?_
  · rw [hm2 (2, 0) (by intro z; cases z)]
    intro z
    cases z
  · show some (lsC E ad S.1 10 (S.2.2.1 + 1) (S.2.1 - 1)) = _
    unfold lsC
    rw [hal, show (((S.2.1 - 1 : Nat) : Int)) = (S.2.1 : Int) - 1 by omega]
    rfl
  · rintro ⟨r2, j⟩ hne
    by_cases c : ((r2, j) : XK) = (10, 0)
    · rw [c, hm1]
      exact if_pos hal
    · rw [hm2 _ c]
      unfold XM
      dsimp only
      by_cases c1 : r2 < 13
      · rw [if_pos c1, if_pos c1]
        by_cases c2 : j = 0
        · rw [if_pos c2, if_pos c2]
          rcases r0_12 c1 with e | e | e | e | e | e | e | e | e | e | e | e | e <;> subst e <;> first | rfl | exact absurd (congrArg (fun q : Nat => ((10 : Nat), q)) c2) c | exact absurd (congrArg (fun q : Nat => ((2 : Nat), q)) c2) hne
        · rw [if_neg c2, if_neg c2]
      · rw [if_neg c1, if_neg c1]
theorem IX_drop (I : IX E ad Q S P B) {mc : Int} {n : Nat} {g : Nat → Nat} {te : Int → Int} : IX E ad Q (S.1, n, mc, g, te) P B := by
  refine IX_of I ?_
  rintro ⟨r2, j⟩
  unfold XM
  dsimp only
  by_cases c1 : r2 < 13
  · rw [if_pos c1, if_pos c1]
    by_cases c2 : j = 0
    · rw [if_pos c2, if_pos c2]
      rcases r0_12 c1 with e | e | e | e | e | e | e | e | e | e | e | e | e <;> subst e <;> first | exact fun z => z | (intro _ z; cases z) | exact ite_dom
    · rw [if_neg c2, if_neg c2]
      exact fun z => z
  · rw [if_neg c1, if_neg c1]
    exact fun z => z
end XD

set_option maxRecDepth 100000 in
set_option maxHeartbeats 4000000 in
theorem x_drop {l : Launch} {Γ : GA} (hfl : l.stackTraces = false) {ad : XK → Nat} {Q : XTs} {S : XSs} {P : XPs} {B : XBs} (I : IX (gEm Γ) ad Q S P B) (hn : Q.1 ≤ 10) (hok : ∀ i, i < Q.1 → tuOk (Q.2.2 i)) (hse : seOk Q S) : Ct l Γ m_X4_drop [.ref (ad (0, 0))] (HX (gEm Γ) ad Q S P B) (fun v h' => v = some (iv (S.2.2.2.1 (S.2.1 - 1) : Int)) ∧ 1 ≤ S.2.1 ∧ h' = HX (gEm Γ) ad Q (S.1, S.2.1 - 1, S.2.2.1 + 1, S.2.2.2.1, S.2.2.2.2) P B) (fun X0 h' => h' = HX (gEm Γ) ad Q S P B ∧ X0 = "java/lang/IllegalStateException" ∧ ¬ 1 ≤ S.2.1) := by
  obtain ⟨s8, sal, sin⟩ := hse
  refine Ct.intro hfl (by decide +kernel) rfl (Nat.le_of_ble_eq_true rfl) ?_
  intro G C R T
  show G 0 [some (.ref (ad (0, 0))), none] [] (HX (gEm Γ) ad Q S P B) 0 0
  refine gk_aload_n C dX4_drop_0 rfl ?_
  refine gk_getf C f_X4_16.r dX4_drop_1 (hx_0 I) (by rfl) ?_
  refine gk_callV C o_Jx4a65c_size_8abf5 k_X4_64 dX4_drop_4 (c_AL_size hfl (hx_2s I)) (hx_2s I) rfl rfl rfl (by decide) (by decide) (by exact Nat.le_of_ble_eq_true rfl) (fun _ _ z => z.elim) (fun v_4 h_4 p_4 => ?_)
  obtain ⟨rfl, rfl⟩ := p_4
  dsimp only [gk_push]
  refine gk_istore_n_1 C rfl (by decide) dX4_drop_7 ?_
  refine gk_iload_n C dX4_drop_8 rfl ?_
  refine gk_iconst C dX4_drop_9 ?_
  refine gk_icmp_ge C (tgt := 23) (by omega) (by omega) dX4_drop_10 (by decide) (fun c_10 => ?_) (fun c_10 => ?_)
  · have sal1 := sal (by omega)
    obtain ⟨ht, hp1, ht1, ht2⟩ := sin (S.2.1 - 1) (by omega)
    have ID := IX_drop I (n := S.2.1 - 1) (mc := S.2.2.1 + 1) (g := S.2.2.2.1) (te := S.2.2.2.2)
    refine gk_aload_n C dX4_drop_23 rfl ?_
    refine gk_getf C f_X4_16.r dX4_drop_24 (hx_0 I) (by rfl) ?_
    refine gk_iload_n C dX4_drop_27 rfl ?_
    refine gk_iconst C dX4_drop_28 ?_
    refine gk_isub C dX4_drop_29 ?_
    refine gk_callV C o_Jx4a65c_remove_915e3 k_X4_148 dX4_drop_30 (c_AL_remove hfl (hx_2a I sal1) (hx_10 I sal1) (by omega) (show S.2.1 ≤ 10 by omega) (y := ad (13, S.2.2.2.1 (S.2.1 - 1))) (by have z := rw_at (n := S.2.1) (g := fun i => ad (13, S.2.2.2.1 i)) (z := (S.2.1 : Int) - 1) (by omega); rw [show ((S.2.1 : Int) - 1).toNat = S.2.1 - 1 by omega] at z; exact z)) (hx_2s I) rfl rfl rfl (by decide) (by decide) (by exact Nat.le_of_ble_eq_true rfl) (fun _ _ z => z.elim) (fun v_30 h_30 p_30 => ?_)
    obtain ⟨rfl, rfl⟩ := p_30
    dsimp only [gk_push]
    refine gi_cast (hx_drop I sal1 (by omega)) ?_
    refine gk_cast C cw_X4_73 rfl (hx_13 ID ht) dX4_drop_33 ?_
    refine gk_getf C f_X4_151 dX4_drop_36 (hx_13 ID ht) (by rfl) ?_
    refine (R _ _ _ _ _ (by decide) (by decide)).1 _ rfl dX4_drop_39 ?_
    exact ⟨rfl, by omega, rfl⟩
  · exact T 13 _ _ _ _ _ _ _ 68 146 72 th_X4_drop_13 ⟨rfl, rfl, by omega⟩ (by decide) (by exact Nat.le_of_ble_eq_true rfl) (by decide) (by decide) td_X4_drop_13
