/-! the class: the set, asked -/
def tUt (t : TuS) : Int := usum (fun j => tL t (tN t j)) (tPl t)
theorem tUt_bd {t : TuS} (h : tuOk t) : 0 ≤ tUt t ∧ tUt t ≤ 2048 := by
  obtain ⟨k1, k2, k3, k4, k5, k6, k7, k8, k9, k10⟩ := h
  have h9 := usum_bound (f := fun j => tL t (tN t j)) (b := 16) (by omega) (n := tPl t) (fun i _ _ => k8 _)
  unfold tUt
  omega
def seOk (Q : XTs) (S : XSs) : Prop := S.2.1 ≤ 8 ∧ (0 < S.2.1 → S.1 = true) ∧ ∀ i, i < S.2.1 → (S.2.2.2.1 i < Q.1 ∧ 1 ≤ tPl (Q.2.2 (S.2.2.2.1 i)) ∧ 30 ≤ S.2.2.2.2 i ∧ S.2.2.2.2 i ≤ 600)
def xTime (Q : XTs) (S : XSs) : Nat → Int
  | 0 => 0
  | k + 1 => xTime Q S k + 60000 * tUt (Q.2.2 (S.2.2.2.1 k)) / S.2.2.2.2 k
def xMay (Q : XTs) (S : XSs) (t : TuS) (tp : Int) : Prop := 1 ≤ tPl t ∧ (S.2.1 = 0 ∨ (¬ (tKd (Q.2.2 (S.2.2.2.1 (S.2.1 - 1))) = tKd t ∧ tp < S.2.2.2.2 ((S.2.1 : Int) - 1)) ∧
  (¬ tG t (tN t 0) = 0 ∨ ¬ tH t (tN t 0) = tH (Q.2.2 (S.2.2.2.1 (S.2.1 - 1))) (tN (Q.2.2 (S.2.2.2.1 (S.2.1 - 1))) ((tPl (Q.2.2 (S.2.2.2.1 (S.2.1 - 1))) : Int) - 1)))))

set_option maxRecDepth 100000 in
set_option maxHeartbeats 4000000 in
theorem x_time {l : Launch} {Γ : GA} (hfl : l.stackTraces = false) {ad : XK → Nat} {Q : XTs} {S : XSs} {P : XPs} {B : XBs} (I : IX (gEm Γ) ad Q S P B) (hn : Q.1 ≤ 10) (hok : ∀ i, i < Q.1 → tuOk (Q.2.2 i)) (hse : seOk Q S) : Ct l Γ m_X4_time [.ref (ad (0, 0))] (HX (gEm Γ) ad Q S P B) (fun v h' => v = some (jv (xTime Q S (S.2.1))) ∧ h' = HX (gEm Γ) ad Q S P B) (fun _ _ => False) := by
  obtain ⟨s8, sal, sin⟩ := hse
  refine Ct.intro hfl (by decide +kernel) rfl (Nat.le_of_ble_eq_true rfl) ?_
  intro G C R T
  show G 0 [some (.ref (ad (0, 0))), none, none, none] [] (HX (gEm Γ) ad Q S P B) 0 0
  refine gk_lconst C (z := 0) dX4_time_0 (by decide) ?_
  refine gk_lstore_n_1 C rfl (by decide) dX4_time_1 ?_
  refine gk_iconst C dX4_time_2 ?_
  refine gk_istore_n_3 C rfl (by decide) dX4_time_3 ?_
  have key : ∀ (n k : Nat) x2, (S.2.1 : Int) - k < n → k ≤ S.2.1 → G 4 [some (.ref (ad (0, 0))), some (jv (xTime Q S k)), x2, some (iv (k : Int))] [] (HX (gEm Γ) ad Q S P B) 0 0 := by
    intro n
    induction n with
    | zero => intro k x2 h1; omega
    | succ n ih =>
      intro k x2 hn0 hk
      refine gk_iload_n C dX4_time_4 rfl ?_
      refine gk_aload_n C dX4_time_5 rfl ?_
      refine gk_getf C f_X4_16.r dX4_time_6 (hx_0 I) (by rfl) ?_
      refine gk_callV C o_Jx4a65c_size_8abf5 k_X4_64 dX4_time_9 (c_AL_size hfl (hx_2s I)) (hx_2s I) rfl rfl rfl (by decide) (by decide) (by exact Nat.le_of_ble_eq_true rfl) (fun _ _ z => z.elim) (fun v_9 h_9 p_9 => ?_)
      obtain ⟨rfl, rfl⟩ := p_9
      dsimp only [gk_push]
      refine gk_icmp_ge C (tgt := 69) (by omega) (by omega) dX4_time_12 (by decide) (fun c_12 => ?_) (fun c_12 => ?_)
      · refine gk_lload_n C dX4_time_69 rfl ?_
        refine (R _ _ _ _ _ (by decide) (by decide)).2.2.2.2.1 _ rfl dX4_time_70 ?_
        rw [show S.2.1 = k by omega]
        exact ⟨rfl, rfl⟩
      · have hk1 : k < S.2.1 := by omega
        obtain ⟨ht, hp1, ht1, ht2⟩ := sin k hk1
        have sal1 := sal (by omega)
        have bU := tUt_bd (hok _ ht)
        obtain ⟨k1, k2, k3, k4, k5, k6, k7, k8, k9, k10⟩ := hok _ ht
        refine gk_iload_n C dX4_time_15 rfl ?_
        refine gk_aload_n C dX4_time_16 rfl ?_
        refine gk_getf C f_X4_19.r dX4_time_17 (hx_0 I) (by rfl) ?_
        refine gk_alenI C dX4_time_20 (hx_3 I) (by omega) ?_
        refine gk_icmp_ge C (tgt := 69) (by omega) (by omega) dX4_time_21 (by decide) (fun c_21 => ?_) (fun c_21 => ?_)
        · omega
        · refine gk_aload_n C dX4_time_24 rfl ?_
          refine gk_getf C f_X4_19.r dX4_time_25 (hx_0 I) (by rfl) ?_
          refine gk_iload_n C dX4_time_28 rfl ?_
          refine gk_iald C dX4_time_29 (hx_3 I) (by omega) (by omega) ?_
          refine gk_if_le C (tgt := 63) (by omega) dX4_time_30 (by decide) (fun c_30 => ?_) (fun c_30 => ?_)
          · omega
          · refine gk_lload_n C dX4_time_33 rfl ?_
            refine gk_ldc2 C cn_X4_154 dX4_time_34 ?_
            refine gk_aload_n C dX4_time_37 rfl ?_
            refine gk_getf C f_X4_16.r dX4_time_38 (hx_0 I) (by rfl) ?_
            refine gk_iload_n C dX4_time_41 rfl ?_
            refine gk_callV C o_Jx4a65c_get_915e3 k_X4_134 dX4_time_42 (c_AL_get hfl (hx_2a I sal1) (hx_10 I sal1) (y := ad (13, S.2.2.2.1 k)) (z := (k : Int)) (show (0 : Int) ≤ k ∧ (k : Int) < S.2.1 by omega) (show S.2.1 ≤ 10 by omega) (rw_at (g := (fun i => ad (13, S.2.2.2.1 i))) (z := (k : Int)) (show (0 : Int) ≤ k ∧ (k : Int) < S.2.1 by omega))) (hx_2s I) rfl rfl rfl (by decide) (by decide) (by exact Nat.le_of_ble_eq_true rfl) (fun _ _ z => z.elim) (fun v_42 h_42 p_42 => ?_)
            obtain ⟨rfl, rfl⟩ := p_42
            dsimp only [gk_push]
            refine gk_cast C cw_X4_73 rfl (hx_13 I ht) dX4_time_45 ?_
            refine gk_callV C o_X3_unitsPlayed k_X4_156 dX4_time_48 (c_X3_unitsPlayed hfl (hx_13 I ht) (hx_18 I ht) (by omega) k10 (hx_15 I ht)) (hx_13 I ht) rfl rfl rfl (by decide) (by decide) (by exact Nat.le_of_ble_eq_true rfl) (fun _ _ z => z.elim) (fun v_48 h_48 p_48 => ?_)
            obtain ⟨rfl, rfl⟩ := p_48
            dsimp only [gk_push]
            rw [show usum (fun j => tL (Q.2.2 (S.2.2.2.1 k)) (tN (Q.2.2 (S.2.2.2.1 k)) j)) (tPl (Q.2.2 (S.2.2.2.1 k))) = tUt (Q.2.2 (S.2.2.2.1 k)) from rfl]
            refine gk_i2l C (by omega) dX4_time_51 ?_
            refine gk_lmul C dX4_time_52 ?_
            refine gk_aload_n C dX4_time_53 rfl ?_
            refine gk_getf C f_X4_19.r dX4_time_54 (hx_0 I) (by rfl) ?_
            refine gk_iload_n C dX4_time_57 rfl ?_
            refine gk_iald C dX4_time_58 (hx_3 I) (by omega) (by omega) ?_
            refine gk_i2l C (by omega) dX4_time_59 ?_
            refine gk_ldiv C (by omega) (by omega) dX4_time_60 ?_
            refine gk_ladd C dX4_time_61 ?_
            refine gk_lstore_n_1 C rfl (by decide) dX4_time_62 ?_
            refine gk_iinc_3 C rfl (by decide) dX4_time_63 ?_
            refine gk_goto C (tgt := 4) dX4_time_66 (by decide) ?_
            exact ih (k + 1) _ (by omega) (by omega)
  exact key 9 0 none (by omega) (by omega)

set_option maxRecDepth 100000 in
set_option maxHeartbeats 4000000 in
theorem x_mayFollow {l : Launch} {Γ : GA} (hfl : l.stackTraces = false) {ad : XK → Nat} {Q : XTs} {S : XSs} {P : XPs} {B : XBs} (I : IX (gEm Γ) ad Q S P B) (hn : Q.1 ≤ 10) (hok : ∀ i, i < Q.1 → tuOk (Q.2.2 i)) (hse : seOk Q S) {j : Nat} (hj : j < Q.1) {tp : Int} (htp : -2147483648 ≤ tp ∧ tp ≤ 2147483647) : Ct l Γ m_X4_mayFollow [.ref (ad (0, 0)), .ref (ad (13, j)), iv tp] (HX (gEm Γ) ad Q S P B) (fun v h' => ∃ r : Int, v = some (iv r) ∧ (r = 0 ∨ r = 1) ∧ (r = 1 ↔ xMay Q S (Q.2.2 j) tp) ∧ h' = HX (gEm Γ) ad Q S P B) (fun _ _ => False) := by
  obtain ⟨s8, sal, sin⟩ := hse
  obtain ⟨j1, j2, j3, j4, j5, j6, j7, j8, j9, j10⟩ := hok j hj
  have g0 := j9 (tN (Q.2.2 j) 0)
  have h0 := j7 (tN (Q.2.2 j) 0)
  have hl0 := S.2.1
  refine Ct.intro hfl (by decide +kernel) rfl (Nat.le_of_ble_eq_true rfl) ?_
  intro G C R T
  show G 0 [some (.ref (ad (0, 0))), some (.ref (ad (13, j))), some (iv tp), none, none] [] (HX (gEm Γ) ad Q S P B) 0 0
  refine gk_aload_n C dX4_mayFollow_0 rfl ?_
  refine gk_getf C f_X4_107.r dX4_mayFollow_1 (hx_13 I hj) (by rfl) ?_
  refine gk_iconst C dX4_mayFollow_4 ?_
  refine gk_icmp_ge C (tgt := 10) (by omega) (by omega) dX4_mayFollow_5 (by decide) (fun c_5 => ?_) (fun c_5 => ?_)
  · refine gk_aload_n C dX4_mayFollow_10 rfl ?_
    refine gk_getf C f_X4_16.r dX4_mayFollow_11 (hx_0 I) (by rfl) ?_
    refine gk_callV C o_Jx4a65c_size_8abf5 k_X4_64 dX4_mayFollow_14 (c_AL_size hfl (hx_2s I)) (hx_2s I) rfl rfl rfl (by decide) (by decide) (by exact Nat.le_of_ble_eq_true rfl) (fun _ _ z => z.elim) (fun v_14 h_14 p_14 => ?_)
    obtain ⟨rfl, rfl⟩ := p_14
    dsimp only [gk_push]
    refine gk_iconst C dX4_mayFollow_17 ?_
    refine gk_isub C dX4_mayFollow_18 ?_
    refine gk_istore_n_3 C rfl (by decide) dX4_mayFollow_19 ?_
    refine gk_iload_n C dX4_mayFollow_20 rfl ?_
    refine gk_if_lt C (tgt := 33) (by omega) dX4_mayFollow_21 (by decide) (fun c_21 => ?_) (fun c_21 => ?_)
    · refine gk_iconst C dX4_mayFollow_33 ?_
      refine (R _ _ _ _ _ (by decide) (by decide)).2.1 _ rfl (by omega) dX4_mayFollow_34 ?_
      first | exact ⟨1, rfl, by omega, by unfold xMay; omega, rfl⟩ | exact absurd c_30 (by omega)
    · obtain ⟨m, hm⟩ : ∃ m : Nat, (S.2.1 : Int) - 1 = (m : Int) := ⟨S.2.1 - 1, by omega⟩
      have hm2 : S.2.1 - 1 = m := by omega
      obtain ⟨ht, hp1, ht1, ht2⟩ := sin m (by omega)
      have sal1 := sal (by omega)
      obtain ⟨k1, k2, k3, k4, k5, k6, k7, k8, k9, k10⟩ := hok _ ht
      have hlh := k7 (tN (Q.2.2 (S.2.2.2.1 m)) ((tPl (Q.2.2 (S.2.2.2.1 m)) : Int) - 1))
      rw [hm]
      refine gk_iload_n C dX4_mayFollow_24 rfl ?_
      refine gk_aload_n C dX4_mayFollow_25 rfl ?_
      refine gk_getf C f_X4_19.r dX4_mayFollow_26 (hx_0 I) (by rfl) ?_
      refine gk_alenI C dX4_mayFollow_29 (hx_3 I) (by omega) ?_
      refine gk_icmp_lt C (tgt := 35) (by omega) (by omega) dX4_mayFollow_30 (by decide) (fun c_30 => ?_) (fun c_30 => ?_)
      · refine gk_aload_n C dX4_mayFollow_35 rfl ?_
        refine gk_getf C f_X4_16.r dX4_mayFollow_36 (hx_0 I) (by rfl) ?_
        refine gk_iload_n C dX4_mayFollow_39 rfl ?_
        refine gk_callV C o_Jx4a65c_get_915e3 k_X4_134 dX4_mayFollow_40 (c_AL_get hfl (hx_2a I sal1) (hx_10 I sal1) (y := ad (13, S.2.2.2.1 m)) (z := (m : Int)) (show (0 : Int) ≤ m ∧ (m : Int) < S.2.1 by omega) (show S.2.1 ≤ 10 by omega) (rw_at (g := (fun i => ad (13, S.2.2.2.1 i))) (z := (m : Int)) (show (0 : Int) ≤ m ∧ (m : Int) < S.2.1 by omega))) (hx_2s I) rfl rfl rfl (by decide) (by decide) (by exact Nat.le_of_ble_eq_true rfl) (fun _ _ z => z.elim) (fun v_40 h_40 p_40 => ?_)
        obtain ⟨rfl, rfl⟩ := p_40
        dsimp only [gk_push]
        refine gk_cast C cw_X4_73 rfl (hx_13 I ht) dX4_mayFollow_43 ?_
        refine gk_astore_4 C rfl (by decide) dX4_mayFollow_46 ?_
        refine gk_aload C dX4_mayFollow_48 rfl ?_
        refine gk_getf C f_X4_159 dX4_mayFollow_50 (hx_13 I ht) (by rfl) ?_
        refine gk_aload_n C dX4_mayFollow_53 rfl ?_
        refine gk_getf C f_X4_159 dX4_mayFollow_54 (hx_13 I hj) (by rfl) ?_
        refine gk_icmp_ne C (tgt := 72) (by omega) (by omega) dX4_mayFollow_57 (by decide) (fun c_57 => ?_) (fun c_57 => ?_)
        · refine gk_aload_n C dX4_mayFollow_72 rfl ?_
          refine gk_iconst C dX4_mayFollow_73 ?_
          refine gk_callV C o_X3_graceAt k_X4_162 dX4_mayFollow_74 (c_X3_graceAt hfl (hx_13 I hj) (hx_18 I hj) (by omega) j10 (hx_16 I hj) (z := 0) (by omega)) (hx_13 I hj) rfl rfl rfl (by decide) (by decide) (by exact Nat.le_of_ble_eq_true rfl) (fun _ _ z => z.elim) (fun v_74 h_74 p_74 => ?_)
          obtain ⟨rfl, rfl⟩ := p_74
          dsimp only [gk_push]
          refine gk_if_ne C (tgt := 100) (by omega) dX4_mayFollow_77 (by decide) (fun c_77 => ?_) (fun c_77 => ?_)
          · refine gk_iconst C dX4_mayFollow_100 ?_
            refine gk_goto C (tgt := 105) dX4_mayFollow_101 (by decide) ?_
            refine (R _ _ _ _ _ (by decide) (by decide)).2.1 _ rfl (by omega) dX4_mayFollow_105 ?_
            first | exact ⟨1, rfl, by omega, by unfold xMay; rw [hm, hm2]; omega, rfl⟩ | exact ⟨0, rfl, by omega, by unfold xMay; rw [hm, hm2]; omega, rfl⟩
          · refine gk_aload_n C dX4_mayFollow_80 rfl ?_
            refine gk_iconst C dX4_mayFollow_81 ?_
            refine gk_callV C o_X3_heightAt k_X4_165 dX4_mayFollow_82 (c_X3_heightAt hfl (hx_13 I hj) (hx_18 I hj) (by omega) j10 (hx_14 I hj) (z := 0) (by omega)) (hx_13 I hj) rfl rfl rfl (by decide) (by decide) (by exact Nat.le_of_ble_eq_true rfl) (fun _ _ z => z.elim) (fun v_82 h_82 p_82 => ?_)
            obtain ⟨rfl, rfl⟩ := p_82
            dsimp only [gk_push]
            refine gk_aload C dX4_mayFollow_85 rfl ?_
            refine gk_aload C dX4_mayFollow_87 rfl ?_
            refine gk_getf C f_X4_107.r dX4_mayFollow_89 (hx_13 I ht) (by rfl) ?_
            refine gk_iconst C dX4_mayFollow_92 ?_
            refine gk_isub C dX4_mayFollow_93 ?_
            refine gk_callV C o_X3_heightAt k_X4_165 dX4_mayFollow_94 (c_X3_heightAt hfl (hx_13 I ht) (hx_18 I ht) (by omega) k10 (hx_14 I ht) (z := (tPl (Q.2.2 (S.2.2.2.1 m)) : Int) - 1) (by omega)) (hx_13 I ht) rfl rfl rfl (by decide) (by decide) (by exact Nat.le_of_ble_eq_true rfl) (fun _ _ z => z.elim) (fun v_94 h_94 p_94 => ?_)
            obtain ⟨rfl, rfl⟩ := p_94
            dsimp only [gk_push]
            refine gk_icmp_eq C (tgt := 104) (by omega) (by omega) dX4_mayFollow_97 (by decide) (fun c_97 => ?_) (fun c_97 => ?_)
            · refine gk_iconst C dX4_mayFollow_104 ?_
              refine (R _ _ _ _ _ (by decide) (by decide)).2.1 _ rfl (by omega) dX4_mayFollow_105 ?_
              first | exact ⟨1, rfl, by omega, by unfold xMay; rw [hm, hm2]; omega, rfl⟩ | exact ⟨0, rfl, by omega, by unfold xMay; rw [hm, hm2]; omega, rfl⟩
            · refine gk_iconst C dX4_mayFollow_100 ?_
              refine gk_goto C (tgt := 105) dX4_mayFollow_101 (by decide) ?_
              refine (R _ _ _ _ _ (by decide) (by decide)).2.1 _ rfl (by omega) dX4_mayFollow_105 ?_
              first | exact ⟨1, rfl, by omega, by unfold xMay; rw [hm, hm2]; omega, rfl⟩ | exact ⟨0, rfl, by omega, by unfold xMay; rw [hm, hm2]; omega, rfl⟩
        · refine gk_iload_n C dX4_mayFollow_60 rfl ?_
          refine gk_aload_n C dX4_mayFollow_61 rfl ?_
          refine gk_getf C f_X4_19.r dX4_mayFollow_62 (hx_0 I) (by rfl) ?_
          refine gk_iload_n C dX4_mayFollow_65 rfl ?_
          refine gk_iald C dX4_mayFollow_66 (hx_3 I) (by omega) (by omega) ?_
          refine gk_icmp_ge C (tgt := 72) (by omega) (by omega) dX4_mayFollow_67 (by decide) (fun c_67 => ?_) (fun c_67 => ?_)
          · refine gk_aload_n C dX4_mayFollow_72 rfl ?_
            refine gk_iconst C dX4_mayFollow_73 ?_
            refine gk_callV C o_X3_graceAt k_X4_162 dX4_mayFollow_74 (c_X3_graceAt hfl (hx_13 I hj) (hx_18 I hj) (by omega) j10 (hx_16 I hj) (z := 0) (by omega)) (hx_13 I hj) rfl rfl rfl (by decide) (by decide) (by exact Nat.le_of_ble_eq_true rfl) (fun _ _ z => z.elim) (fun v_74 h_74 p_74 => ?_)
            obtain ⟨rfl, rfl⟩ := p_74
            dsimp only [gk_push]
            refine gk_if_ne C (tgt := 100) (by omega) dX4_mayFollow_77 (by decide) (fun c_77 => ?_) (fun c_77 => ?_)
            · refine gk_iconst C dX4_mayFollow_100 ?_
              refine gk_goto C (tgt := 105) dX4_mayFollow_101 (by decide) ?_
              refine (R _ _ _ _ _ (by decide) (by decide)).2.1 _ rfl (by omega) dX4_mayFollow_105 ?_
              first | exact ⟨1, rfl, by omega, by unfold xMay; rw [hm, hm2]; omega, rfl⟩ | exact ⟨0, rfl, by omega, by unfold xMay; rw [hm, hm2]; omega, rfl⟩
            · refine gk_aload_n C dX4_mayFollow_80 rfl ?_
              refine gk_iconst C dX4_mayFollow_81 ?_
              refine gk_callV C o_X3_heightAt k_X4_165 dX4_mayFollow_82 (c_X3_heightAt hfl (hx_13 I hj) (hx_18 I hj) (by omega) j10 (hx_14 I hj) (z := 0) (by omega)) (hx_13 I hj) rfl rfl rfl (by decide) (by decide) (by exact Nat.le_of_ble_eq_true rfl) (fun _ _ z => z.elim) (fun v_82 h_82 p_82 => ?_)
              obtain ⟨rfl, rfl⟩ := p_82
              dsimp only [gk_push]
              refine gk_aload C dX4_mayFollow_85 rfl ?_
              refine gk_aload C dX4_mayFollow_87 rfl ?_
              refine gk_getf C f_X4_107.r dX4_mayFollow_89 (hx_13 I ht) (by rfl) ?_
              refine gk_iconst C dX4_mayFollow_92 ?_
              refine gk_isub C dX4_mayFollow_93 ?_
              refine gk_callV C o_X3_heightAt k_X4_165 dX4_mayFollow_94 (c_X3_heightAt hfl (hx_13 I ht) (hx_18 I ht) (by omega) k10 (hx_14 I ht) (z := (tPl (Q.2.2 (S.2.2.2.1 m)) : Int) - 1) (by omega)) (hx_13 I ht) rfl rfl rfl (by decide) (by decide) (by exact Nat.le_of_ble_eq_true rfl) (fun _ _ z => z.elim) (fun v_94 h_94 p_94 => ?_)
              obtain ⟨rfl, rfl⟩ := p_94
              dsimp only [gk_push]
              refine gk_icmp_eq C (tgt := 104) (by omega) (by omega) dX4_mayFollow_97 (by decide) (fun c_97 => ?_) (fun c_97 => ?_)
              · refine gk_iconst C dX4_mayFollow_104 ?_
                refine (R _ _ _ _ _ (by decide) (by decide)).2.1 _ rfl (by omega) dX4_mayFollow_105 ?_
                first | exact ⟨1, rfl, by omega, by unfold xMay; rw [hm, hm2]; omega, rfl⟩ | exact ⟨0, rfl, by omega, by unfold xMay; rw [hm, hm2]; omega, rfl⟩
              · refine gk_iconst C dX4_mayFollow_100 ?_
                refine gk_goto C (tgt := 105) dX4_mayFollow_101 (by decide) ?_
                refine (R _ _ _ _ _ (by decide) (by decide)).2.1 _ rfl (by omega) dX4_mayFollow_105 ?_
                first | exact ⟨1, rfl, by omega, by unfold xMay; rw [hm, hm2]; omega, rfl⟩ | exact ⟨0, rfl, by omega, by unfold xMay; rw [hm, hm2]; omega, rfl⟩
          · refine gk_iconst C dX4_mayFollow_70 ?_
            refine (R _ _ _ _ _ (by decide) (by decide)).2.1 _ rfl (by omega) dX4_mayFollow_71 ?_
            exact ⟨0, rfl, by omega, by unfold xMay; rw [hm, hm2]; omega, rfl⟩
      · refine gk_iconst C dX4_mayFollow_33 ?_
        refine (R _ _ _ _ _ (by decide) (by decide)).2.1 _ rfl (by omega) dX4_mayFollow_34 ?_
        first | exact ⟨1, rfl, by omega, by unfold xMay; omega, rfl⟩ | exact absurd c_30 (by omega)
  · refine gk_iconst C dX4_mayFollow_8 ?_
    refine (R _ _ _ _ _ (by decide) (by decide)).2.1 _ rfl (by omega) dX4_mayFollow_9 ?_
    exact ⟨0, rfl, by omega, by unfold xMay; omega, rfl⟩
