/-! the class: one more in the set -/
section FS
variable {l : Launch} {Γ : GA} {ad : XK → Nat} {Q : XTs} {S : XSs} {P : XPs} {B : XBs}
theorem add_se (hfl : l.stackTraces = false) (I : IX (gEm Γ) ad Q S P B) (hse : seOk Q S) {j : Nat} (hj : j < Q.1) (hlt : S.2.1 < 10) :
    Ct l Γ m_Jx4a65c_add_9ea2d [.ref (ad (2, 0)), .ref (ad (13, j))] (HX (gEm Γ) ad Q S P B) (fun v h' => v = some (iv 1) ∧ ∃ ad2 : XK → Nat, (∀ k, XM (gEm Γ) ad Q S P B k ≠ none → ad2 k = ad k) ∧ IX (gEm Γ) ad2 Q (true, S.2.1 + 1, S.2.2.1 + 1, tset S.2.2.2.1 S.2.1 j, S.2.2.2.2) P B ∧ h' = HX (gEm Γ) ad2 Q (true, S.2.1 + 1, S.2.2.1 + 1, tset S.2.2.2.1 S.2.1 j, S.2.2.2.2) P B) (fun _ _ => False) := by
  obtain ⟨s8, sal, sin⟩ := hse
  have hva : ad (13, j) ≠ ad (2, 0) := by
    intro z
    have h1 := hx_13 I hj
    have h2 := hx_2s I
    rw [z, h2] at h1
    cases Option.some.inj h1
  by_cases hal : S.1 = true
  · refine Ct.mono (c_AL_add hfl (hx_2a I hal) (hx_10 I hal) (hx_13 I hj) rfl ca_X3 hva hlt) ?_ (fun _ _ z => z)
    rintro v h' ⟨rfl, rfl⟩
    have e := hx_sadd I hal (j := j)
    rw [hal] at e
    refine ⟨rfl, ad, fun _ _ => rfl, ?_, e⟩
    have I2 := IX_drop I (mc := S.2.2.1 + 1) (n := S.2.1 + 1) (g := tset S.2.2.2.1 S.2.1 j) (te := S.2.2.2.2)
    rw [hal] at I2
    exact I2
  · have hf : S.1 = false := by
      cases h : S.1 with
      | false => rfl
      | true => exact absurd h hal
    have hz : S.2.1 = 0 := by
      cases h : S.2.1 with
      | zero => rfl
      | succ n => exact absurd (sal (by omega)) hal
    have dR : XM (gEm Γ) ad Q S P B (10, 0) = none := by
      show (if S.1 = true then _ else none) = none
      rw [hf]
      rfl
    have l1 : HX (gEm Γ) ad Q S P B (ad (2, 0)) = some (oAL S.2.2.1 (gEm Γ) 0) := by
      have h2 := hx_2s I
      rw [hf, hz] at h2
      exact h2
    refine Ct.mono (c_AL_add0 hfl l1 (hx_13 I hj) rfl ca_X3 hva) ?_ (fun _ _ z => z)
    rintro v h' ⟨rfl, q, hqa, hq, rfl⟩
    have s := ladd1 (kl := ((2, 0) : XK)) (kr := (10, 0)) (er := aR 10 (gupd (fun _ => none) 0 (some (ad (13, j))))) (el := oAL (S.2.2.1 + 1) q 1) I dR (by intro z; cases z) (pne (by decide)) hq
    have ea : ∀ k, k ≠ (10, 0) → adset ad (10, 0) q k = ad k := fun k c => adset_ne c
    have eR : adset ad (10, 0) q (10, 0) = q := adset_eq
    have hd : ∀ k, XM (gEm Γ) ad Q S P B k ≠ none → adset ad (10, 0) q k = ad k := fun k hk => ea k (fun z => hk (by rw [z]; exact dR))
    have fin : kset (kset (XM (gEm Γ) ad Q S P B) (10, 0) (aR 10 (gupd (fun _ => none) 0 (some (ad (13, j)))))) (2, 0) (oAL (S.2.2.1 + 1) q 1) = XM (gEm Γ) (adset ad (10, 0) q) Q (true, S.2.1 + 1, S.2.2.1 + 1, tset S.2.2.2.1 S.2.1 j, S.2.2.2.2) P B := by
      funext k
      by_cases e1 : k = ((2, 0) : XK)
      · rw [e1, kset_eq, hz]
        show some (oAL (S.2.2.1 + 1) q 1) = some (lsC (gEm Γ) (adset ad (10, 0) q) true 10 (S.2.2.1 + 1) (0 + 1))
        unfold lsC
        rw [if_pos rfl, eR]
        rfl
      · rw [kset_ne e1]
        by_cases e9 : k = ((10, 0) : XK)
        · rw [e9, kset_eq, hz]
          show _ = some (rwC (0 + 1) (fun i => adset ad (10, 0) q (13, tset S.2.2.2.1 0 j i)))
          exact congrArg some (rw_add0 (g2 := fun i => adset ad (10, 0) q (13, tset S.2.2.2.1 0 j i)) (by show adset ad (10, 0) q (13, tset S.2.2.2.1 0 j 0) = ad (13, j); rw [tset_eq, ea (13, j) (pne (by decide))]))
        · rw [kset_ne e9, ← XM_ad (fun i hi => (sin i hi).1) hd]
          obtain ⟨r2, j2⟩ := k
          unfold XM
          dsimp only
          by_cases c1 : r2 < 13
          · rw [if_pos c1, if_pos c1]
            by_cases c2 : j2 = 0
            · rw [if_pos c2, if_pos c2]
              rcases r0_12 c1 with e | e | e | e | e | e | e | e | e | e | e | e | e <;> subst e <;> first | rfl | exact absurd (congrArg (fun q : Nat => ((2 : Nat), q)) c2) e1 | exact absurd (congrArg (fun q : Nat => ((10 : Nat), q)) c2) e9
            · rw [if_neg c2, if_neg c2]
          · rw [if_neg c1, if_neg c1]
    rw [fin] at s
    exact ⟨rfl, _, hd, s.2, s.1⟩
end FS

set_option maxRecDepth 100000 in
set_option maxHeartbeats 4000000 in
theorem x_follow {l : Launch} {Γ : GA} (hfl : l.stackTraces = false) {ad : XK → Nat} {Q : XTs} {S : XSs} {P : XPs} {B : XBs} (I : IX (gEm Γ) ad Q S P B) (hn : Q.1 ≤ 10) (hok : ∀ i, i < Q.1 → tuOk (Q.2.2 i)) (hse : seOk Q S) {t tp : Int} (ht : -2147483648 ≤ t ∧ t ≤ 2147483647)(htp : -2147483648 ≤ tp ∧ tp ≤ 2147483647) : Ct l Γ m_X4_follow [.ref (ad (0, 0)), iv t, iv tp] (HX (gEm Γ) ad Q S P B) (fun v h' => v = some (iv ((S.2.1 : Int) + 1)) ∧ ((0 ≤ t ∧ t < Q.1) ∧ (30 ≤ tp ∧ tp ≤ 600) ∧ (S.2.1 < 8 ∧ xMay Q S (Q.2.2 t.toNat) tp)) ∧ ∃ ad2 : XK → Nat, (∀ k, XM (gEm Γ) ad Q S P B k ≠ none → ad2 k = ad k) ∧ IX (gEm Γ) ad2 Q (true, S.2.1 + 1, S.2.2.1 + 1, tset S.2.2.2.1 S.2.1 t.toNat, gupd S.2.2.2.2 S.2.1 tp) P B ∧ h' = HX (gEm Γ) ad2 Q (true, S.2.1 + 1, S.2.2.1 + 1, tset S.2.2.2.1 S.2.1 t.toNat, gupd S.2.2.2.2 S.2.1 tp) P B) (fun X0 h' => h' = HX (gEm Γ) ad Q S P B ∧ ((X0 = "java/lang/IndexOutOfBoundsException" ∧ ¬ (0 ≤ t ∧ t < Q.1)) ∨ (X0 = "java/lang/IllegalArgumentException" ∧ (0 ≤ t ∧ t < Q.1) ∧ ¬ (30 ≤ tp ∧ tp ≤ 600)) ∨ (X0 = "java/lang/IllegalStateException" ∧ (0 ≤ t ∧ t < Q.1) ∧ (30 ≤ tp ∧ tp ≤ 600) ∧ ¬ (S.2.1 < 8 ∧ xMay Q S (Q.2.2 t.toNat) tp)))) := by
  refine Ct.intro hfl (by decide +kernel) rfl (Nat.le_of_ble_eq_true rfl) ?_
  intro G C R T
  show G 0 [some (.ref (ad (0, 0))), some (iv t), some (iv tp), none, none] [] (HX (gEm Γ) ad Q S P B) 0 0
  refine gk_aload_n C dX4_follow_0 rfl ?_
  refine gk_iload_n C dX4_follow_1 rfl ?_
  refine gk_callV C o_X4_tuneOfNumber k_X4_82 dX4_follow_2 (x_tuneOf hfl I hn ht) (hx_0 I) rfl rfl rfl (by decide) (by decide) (by exact Nat.le_of_ble_eq_true rfl) (fun _ _ z => ⟨⟨z.1, Or.inl z.2⟩, by decide, by decide⟩) (fun v_2 h_2 p_2 => ?_)
  obtain ⟨rfl, hti, rfl⟩ := p_2
  dsimp only [gk_push]
  obtain ⟨i, rfl⟩ : ∃ i : Nat, t = (i : Int) := ⟨t.toNat, by omega⟩
  rw [show ((i : Int)).toNat = i from rfl]
  have hi : i < Q.1 := by omega
  obtain ⟨k1, k2, k3, k4, k5, k6, k7, k8, k9, k10⟩ := hok i hi
  refine gk_astore_n_3 C rfl (by decide) dX4_follow_5 ?_
  refine gk_iload_n C dX4_follow_6 rfl ?_
  refine gk_bipush C dX4_follow_7 (by decide) ?_
  refine gk_sipush C dX4_follow_9 (by decide) ?_
  refine gk_callS C o_X4_isWithin k_X4_53 dX4_follow_12 (x_isWithin hfl htp (by omega) (by omega)) rfl rfl (by decide) (by decide) (by exact Nat.le_of_ble_eq_true rfl) (fun _ _ z => z.elim) (fun v_12 h_12 p_12 => ?_)
  obtain ⟨r_12, rfl, rb_12, rc_12, rfl⟩ := p_12
  dsimp only [gk_push]
  refine gk_if_ne C (tgt := 28) (by omega) dX4_follow_15 (by decide) (fun c_15 => ?_) (fun c_15 => ?_)
  · obtain ⟨s8, sal, sin⟩ := id hse
    refine gk_aload_n C dX4_follow_28 rfl ?_
    refine gk_getf C f_X4_16.r dX4_follow_29 (hx_0 I) (by rfl) ?_
    refine gk_callV C o_Jx4a65c_size_8abf5 k_X4_64 dX4_follow_32 (c_AL_size hfl (hx_2s I)) (hx_2s I) rfl rfl rfl (by decide) (by decide) (by exact Nat.le_of_ble_eq_true rfl) (fun _ _ z => z.elim) (fun v_32 h_32 p_32 => ?_)
    obtain ⟨rfl, rfl⟩ := p_32
    dsimp only [gk_push]
    refine gk_istore_4 C rfl (by decide) dX4_follow_35 ?_
    refine gk_iload C dX4_follow_37 rfl ?_
    refine gk_bipush C dX4_follow_39 (by decide) ?_
    refine gk_icmp_ge C (tgt := 63) (by omega) (by omega) dX4_follow_41 (by decide) (fun c_41 => ?_) (fun c_41 => ?_)
    · exact T 63 _ _ _ _ _ _ _ 68 144 72 th_X4_follow_63 ⟨rfl, Or.inr (Or.inr ⟨rfl, hti, by omega, fun z => by first | (have z1 := z.1; omega) | (have z2 := rc_57.mpr z.2; omega)⟩)⟩ (by decide) (by exact Nat.le_of_ble_eq_true rfl) (by decide) (by decide) td_X4_follow_63
    · refine gk_iload C dX4_follow_44 rfl ?_
      refine gk_aload_n C dX4_follow_46 rfl ?_
      refine gk_getf C f_X4_19.r dX4_follow_47 (hx_0 I) (by rfl) ?_
      refine gk_alenI C dX4_follow_50 (hx_3 I) (by omega) ?_
      refine gk_icmp_ge C (tgt := 63) (by omega) (by omega) dX4_follow_51 (by decide) (fun c_51 => ?_) (fun c_51 => ?_)
      · omega
      · refine gk_aload_n C dX4_follow_54 rfl ?_
        refine gk_aload_n C dX4_follow_55 rfl ?_
        refine gk_iload_n C dX4_follow_56 rfl ?_
        refine gk_callV C o_X4_mayFollow k_X4_140 dX4_follow_57 (x_mayFollow hfl I hn hok hse hi htp) (hx_0 I) rfl rfl rfl (by decide) (by decide) (by exact Nat.le_of_ble_eq_true rfl) (fun _ _ z => z.elim) (fun v_57 h_57 p_57 => ?_)
        obtain ⟨r_57, rfl, rb_57, rc_57, rfl⟩ := p_57
        dsimp only [gk_push]
        refine gk_if_ne C (tgt := 73) (by omega) dX4_follow_60 (by decide) (fun c_60 => ?_) (fun c_60 => ?_)
        · refine gk_aload_n C dX4_follow_73 rfl ?_
          refine gk_getf C f_X4_16.r dX4_follow_74 (hx_0 I) (by rfl) ?_
          refine gk_aload_n C dX4_follow_77 rfl ?_
          refine gk_callV C o_Jx4a65c_add_9ea2d k_X4_78 dX4_follow_78 (add_se hfl I hse hi (by omega)) (hx_2s I) rfl rfl rfl (by decide) (by decide) (by exact Nat.le_of_ble_eq_true rfl) (fun _ _ z => z.elim) (fun v_78 h_78 p_78 => ?_)
          obtain ⟨rfl, ad2, hd2, I2, rfl⟩ := p_78
          dsimp only [gk_push]
          have e00 : ad2 (0, 0) = ad (0, 0) := hd2 _ (by intro z; cases z)
          rw [← e00]
          refine gk_pop C rfl dX4_follow_81 ?_
          refine gk_aload_n C dX4_follow_82 rfl ?_
          refine gk_getf C f_X4_19.r dX4_follow_83 (hx_0 I2) (by rfl) ?_
          refine gk_iload C dX4_follow_86 rfl ?_
          refine gk_iload_n C dX4_follow_88 rfl ?_
          refine gk_iast C dX4_follow_89 (hx_3 I2) (by omega) (by omega) ?_
          refine gk_iload C dX4_follow_90 rfl ?_
          refine gk_iconst C dX4_follow_92 ?_
          refine gk_iadd C dX4_follow_93 ?_
          refine (R _ _ _ _ _ (by decide) (by decide)).1 _ rfl dX4_follow_94 ?_
          refine ⟨rfl, ⟨hti, by omega, by omega, rc_57.mp (by omega)⟩, ad2, hd2, ?_, ?_⟩
          · exact IX_drop I2 (mc := S.2.2.1 + 1) (n := S.2.1 + 1) (g := tset S.2.2.2.1 S.2.1 i) (te := gupd S.2.2.2.2 S.2.1 tp)
          · exact hx_S3 I2
        · exact T 63 _ _ _ _ _ _ _ 68 144 72 th_X4_follow_63 ⟨rfl, Or.inr (Or.inr ⟨rfl, hti, by omega, fun z => by first | (have z1 := z.1; omega) | (have z2 := rc_57.mpr z.2; omega)⟩)⟩ (by decide) (by exact Nat.le_of_ble_eq_true rfl) (by decide) (by decide) td_X4_follow_63
  · exact T 18 _ _ _ _ _ _ _ 57 138 61 th_X4_follow_18 ⟨rfl, Or.inr (Or.inl ⟨rfl, hti, by omega⟩)⟩ (by decide) (by exact Nat.le_of_ble_eq_true rfl) (by decide) (by decide) td_X4_follow_18
