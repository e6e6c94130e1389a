/-! the reference: the set -/
/-- the set holds tunes that are played -/
def VSet (s : MS) : Prop := ∀ i : Int, 0 ≤ i → i < s 14 0 → s 15 i < s 0 0 ∧ 1 ≤ mMany s (s 15 i) ∧ 30 ≤ s 16 i
def MMay (s : MS) (t tp : Int) : Prop := 0 < mMany s t ∧ (s 14 0 = 0 ∨ (¬ (s 1 t = s 1 (s 15 (s 14 0 - 1)) ∧ tp < s 16 (s 14 0 - 1)) ∧
  ¬ (s 6 (mRow s t 0) = 0 ∧ s 4 (mRow s t 0) = s 4 (mRow s (s 15 (s 14 0 - 1)) (mMany s (s 15 (s 14 0 - 1)) - 1)))))
theorem MMay_congr {s s2 : MS} {t tp : Int} (h : mSame s s2) (hm : 0 ≤ t ∧ t < s 0 0) (VS : VSet s) (b14 : 0 ≤ s 14 0) (V : VM s) (VP : ∀ t : Int, 0 ≤ t → t < s 0 0 → VPt s t) : MMay s2 t tp ↔ MMay s t tp := by
  have h1 := mRow_agree (s := s) (s2 := s2) (t := t) (h 3 rfl) (h 7 rfl) (h 8 rfl)
  unfold MMay
  rw [h1.1, h 14 rfl, h 1 rfl, h 15 rfl, h 16 rfl, h 6 rfl, h 4 rfl]
  by_cases c : 0 < mMany s t
  · rw [(h1.2 0 (Int.le_refl _) c).1]
    by_cases c2 : s 14 0 = 0
    · rw [c2]
      exact ⟨fun _ => ⟨c, Or.inl rfl⟩, fun _ => ⟨c, Or.inl rfl⟩⟩
    · have h2 := mRow_agree (s := s) (s2 := s2) (t := s 15 (s 14 0 - 1)) (h 3 rfl) (h 7 rfl) (h 8 rfl)
      have h3 := VS (s 14 0 - 1) (by omega) (by omega)
      rw [h2.1, (h2.2 (mMany s (s 15 (s 14 0 - 1)) - 1) (by omega) (by omega)).1]
  · exact ⟨fun z => absurd z.1 c, fun z => absurd z.1 c⟩
def MFollow (s : MS) (t tp r c : Int) (s1 s2 : MS) : Prop :=
  (¬ (0 ≤ t ∧ t < s 0 0) ∧ c = 1 ∧ r = 0 ∧ s2 = s1) ∨ ((0 ≤ t ∧ t < s 0 0) ∧ ¬ (30 ≤ tp ∧ tp ≤ 600) ∧ c = 2 ∧ r = 0 ∧ s2 = s1) ∨
  ((0 ≤ t ∧ t < s 0 0) ∧ (30 ≤ tp ∧ tp ≤ 600) ∧ (s 14 0 = 8 ∨ ¬ MMay s t tp) ∧ c = 3 ∧ r = 0 ∧ s2 = s1) ∨
  ((0 ≤ t ∧ t < s 0 0) ∧ (30 ≤ tp ∧ tp ≤ 600) ∧ ¬ s 14 0 = 8 ∧ MMay s t tp ∧ c = 0 ∧ r = s 14 0 + 1 ∧ s2 = moS (moS (moS s1 15 (gupd (s 15) (s 14 0) t)) 16 (gupd (s 16) (s 14 0) tp)) 14 (fun _ => s 14 0 + 1))
def MDrop (s : MS) (r : Int) (s2 : MS) : Prop :=
  (s 14 0 = 0 ∧ r = 0 ∧ s2 = moS (moS s 39 (fun _ => 1)) 14 (fun _ => s 14 0 - 0)) ∨ (¬ s 14 0 = 0 ∧ r = s 15 (s 14 0 - 1) ∧ s2 = moS (moS s 39 (fun _ => 0)) 14 (fun _ => s 14 0 - 1))
def mUt (s : MS) (t : Int) : Int := usum (fun j => s 5 (mRow s t j)) (mMany s t).toNat
def mTime (s : MS) : Nat → Int
  | 0 => 0
  | k + 1 => mTime s k + 60000 * mUt s (s 15 k) / s 16 k

set_option maxRecDepth 100000 in
set_option maxHeartbeats 4000000 in
theorem m_mayFollow {l : Launch} {Γ : GA} (hfl : l.stackTraces = false) {ad : Nat → Nat} (I : IM ad) {s : MS} (V : VM s) (VP : ∀ t : Int, 0 ≤ t → t < s 0 0 → VPt s t) (VS : VSet s) {t tp : Int} (ht : 0 ≤ t ∧ t < s 0 0) (htp : -2147483648 ≤ tp ∧ tp ≤ 2147483647) : Ct l Γ m_X5_mayFollow [.ref (ad 40), iv t, iv tp] (HM ad s) (fun v h' => ∃ (r : Int) (s2 : MS), v = some (iv r) ∧ (r = 0 ∨ r = 1) ∧ (r = 1 ↔ MMay s t tp) ∧ h' = HM ad s2 ∧ mSame s s2 ∧ VM s2 ∧ s2 39 0 = s 39 0) (fun _ _ => False) := by
  have b0 := V.at 0 0 rfl
  have VPt0 := VP t ht.1 ht.2
  have b14 := V.at 14 0 rfl
  have b15 := V.at 15 (s 14 0 - 1) rfl
  have b16 := V.at 16 (s 14 0 - 1) rfl
  have b1 := V.at 1 t rfl
  have b1l := V.at 1 (s 15 (s 14 0 - 1)) rfl
  have bR := mPl_rows V (show 0 ≤ t ∧ t < 10 by omega) (s 3 t).toNat (by have := V.at 3 t rfl; omega)
  have bR0 : 0 ≤ mRow s t 0 ∧ mRow s t 0 ≤ 639 := bR.1 0
  refine Ct.intro hfl (by decide +kernel) rfl (Nat.le_of_ble_eq_true rfl) ?_
  intro G C R T
  show G 0 [some (.ref (ad 40)), some (iv t), some (iv tp), none, none, none, none] [] (HM ad s) 0 0
  refine gk_aload_n C dX5_mayFollow_0 rfl ?_
  refine gk_iload_n C dX5_mayFollow_1 rfl ?_
  refine gk_callV C o_X5_plays k_X5_141 dX5_mayFollow_2 (m_plays hfl I V (t := t) (by omega) VPt0) (mo_obj I) rfl rfl rfl (by decide) (by decide) (by exact Nat.le_of_ble_eq_true rfl) (fun _ _ z => z.elim) (fun v_2 h_2 p_2 => ?_)
  obtain ⟨rfl, rfl⟩ := p_2
  dsimp only [gk_push]
  have VQ := VM_play V VPt0 (show 0 ≤ t ∧ t < 10 by omega)
  have bm := mMany_bd V VPt0
  have hS : mSame s (mPlay s t) := mSame.of.set3
  have e9 : mPlay s t 9 0 = mMany s t := rfl
  have e10 : mPlay s t 10 = mRow s t := rfl
  have e39 : mPlay s t 39 0 = s 39 0 := rfl
  generalize mPlay s t = s2 at *
  refine gk_aload_n C dX5_mayFollow_5 rfl ?_
  refine mo_getf C I f_X5_138.r dX5_mayFollow_6 (by rfl) ?_
  rw [e9]
  refine gk_if_eq C (tgt := 19) (by omega) dX5_mayFollow_9 (by decide) (fun c_9 => ?_) (fun c_9 => ?_)
  · refine gk_aload_n C dX5_mayFollow_19 rfl ?_
    refine mo_getf C I f_X5_138.r dX5_mayFollow_20 (by rfl) ?_
    rw [e9]
    refine gk_if_le C (tgt := 30) (by omega) dX5_mayFollow_23 (by decide) (fun c_23 => ?_) (fun c_23 => ?_)
    · refine gk_iconst C dX5_mayFollow_30 ?_
      refine (R _ _ _ _ _ (by decide) (by decide)).2.1 _ rfl (by omega) dX5_mayFollow_31 ?_
      exact ⟨_, _, rfl, by omega, by unfold MMay; omega, rfl, hS, VQ, e39⟩
    · refine gk_iconst C dX5_mayFollow_26 ?_
      refine gk_goto C (tgt := 31) dX5_mayFollow_27 (by decide) ?_
      refine (R _ _ _ _ _ (by decide) (by decide)).2.1 _ rfl (by omega) dX5_mayFollow_31 ?_
      exact ⟨_, _, rfl, by omega, by unfold MMay; omega, rfl, hS, VQ, e39⟩
  · refine gk_aload_n C dX5_mayFollow_12 rfl ?_
    refine mo_getf C I f_X5_159.r dX5_mayFollow_13 (by rfl) ?_
    rw [hS 14 rfl]
    refine gk_if_ne C (tgt := 32) (by omega) dX5_mayFollow_16 (by decide) (fun c_16 => ?_) (fun c_16 => ?_)
    · refine gk_aload_n C dX5_mayFollow_32 rfl ?_
      refine mo_getf C I f_X5_35.r dX5_mayFollow_33 (by rfl) ?_
      refine gk_iconst C dX5_mayFollow_36 ?_
      refine mo_iald C I (by rfl) dX5_mayFollow_37 (by omega) (by omega) ?_
      rw [e10]
      refine gk_istore_n_3 C rfl (by decide) dX5_mayFollow_38 ?_
      refine gk_aload_n C dX5_mayFollow_39 rfl ?_
      refine mo_getf C I f_X5_47.r dX5_mayFollow_40 (by rfl) ?_
      refine gk_aload_n C dX5_mayFollow_43 rfl ?_
      refine mo_getf C I f_X5_159.r dX5_mayFollow_44 (by rfl) ?_
      rw [hS 14 rfl]
      refine gk_iconst C dX5_mayFollow_47 ?_
      refine gk_isub C dX5_mayFollow_48 ?_
      refine mo_iald C I (by rfl) dX5_mayFollow_49 (by omega) (by omega) ?_
      rw [hS 15 rfl]
      have hVS := VS (s 14 0 - 1) (by omega) (by omega)
      refine gk_istore_4 C rfl (by decide) dX5_mayFollow_50 ?_
      refine gk_aload_n C dX5_mayFollow_52 rfl ?_
      refine mo_getf C I f_X5_7.r dX5_mayFollow_53 (by rfl) ?_
      refine gk_iload_n C dX5_mayFollow_56 rfl ?_
      refine mo_iald C I (by rfl) dX5_mayFollow_57 (by omega) (by omega) ?_
      refine gk_aload_n C dX5_mayFollow_58 rfl ?_
      refine mo_getf C I f_X5_7.r dX5_mayFollow_59 (by rfl) ?_
      refine gk_iload C dX5_mayFollow_62 rfl ?_
      refine mo_iald C I (by rfl) dX5_mayFollow_64 (by omega) (by omega) ?_
      rw [hS 1 rfl]
      refine gk_icmp_ne C (tgt := 87) (by omega) (by omega) dX5_mayFollow_65 (by decide) (fun c_65 => ?_) (fun c_65 => ?_)
      · refine gk_iconst C dX5_mayFollow_87 ?_
        refine gk_istore_5 C rfl (by decide) dX5_mayFollow_88 ?_
        refine gk_aload_n C dX5_mayFollow_90 rfl ?_
        refine gk_iload C dX5_mayFollow_91 rfl ?_
        refine gk_callV C o_X5_plays k_X5_141 dX5_mayFollow_93 (m_plays hfl I VQ (t := s 15 (s 14 0 - 1)) (by omega) (VPt_congr (s := s) (hS 3 rfl) (hS 7 rfl) (VP _ (by omega) (by omega)))) (mo_obj I) rfl rfl rfl (by decide) (by decide) (by exact Nat.le_of_ble_eq_true rfl) (fun _ _ z => z.elim) (fun v_93 h_93 p_93 => ?_)
        obtain ⟨rfl, rfl⟩ := p_93
        dsimp only [gk_push]
        have hag := mRow_agree (s := s) (s2 := s2) (t := s 15 (s 14 0 - 1)) (hS 3 rfl) (hS 7 rfl) (hS 8 rfl)
        have VP4 : VPt s2 (s 15 (s 14 0 - 1)) := VPt_congr (s := s) (hS 3 rfl) (hS 7 rfl) (VP _ (by omega) (by omega))
        have VQ4 := VM_play VQ VP4 (by omega)
        have hS4 : mSame s (mPlay s2 (s 15 (s 14 0 - 1))) := hS.set3
        have f9 : mPlay s2 (s 15 (s 14 0 - 1)) 9 0 = mMany s (s 15 (s 14 0 - 1)) := hag.1
        have f10 : mPlay s2 (s 15 (s 14 0 - 1)) 10 (mMany s (s 15 (s 14 0 - 1)) - 1) = mRow s (s 15 (s 14 0 - 1)) (mMany s (s 15 (s 14 0 - 1)) - 1) := (hag.2 _ (by omega) (by omega)).1
        have bml := mMany_bd V (VP (s 15 (s 14 0 - 1)) (by omega) (by omega))
        have f39 : mPlay s2 (s 15 (s 14 0 - 1)) 39 0 = s 39 0 := e39
        generalize mPlay s2 (s 15 (s 14 0 - 1)) = s4 at *
        have bl := VQ4.at 10 (mMany s (s 15 (s 14 0 - 1)) - 1) rfl
        have q6 := VQ4.at 6 (mRow s t 0) rfl
        have q4 := VQ4.at 4 (mRow s t 0) rfl
        have q5 := VQ4.at 4 (mRow s (s 15 (s 14 0 - 1)) (mMany s (s 15 (s 14 0 - 1)) - 1)) rfl
        refine gk_aload_n C dX5_mayFollow_96 rfl ?_
        refine mo_getf C I f_X5_25.r dX5_mayFollow_97 (by rfl) ?_
        refine gk_iload_n C dX5_mayFollow_100 rfl ?_
        refine mo_iald C I (by rfl) dX5_mayFollow_101 (by omega) (by omega) ?_
        refine gk_if_ne C (tgt := 134) (by omega) dX5_mayFollow_102 (by decide) (fun c_102 => ?_) (fun c_102 => ?_)
        · refine gk_iconst C dX5_mayFollow_134 ?_
          refine gk_istore_6 C rfl (by decide) dX5_mayFollow_135 ?_
          refine gk_iload C dX5_mayFollow_137 rfl ?_
          refine gk_if_ne C (tgt := 151) (by omega) dX5_mayFollow_139 (by decide) (fun c_139 => ?_) (fun c_139 => ?_)
          · exact absurd c_139 (by omega)
          · refine gk_iload C dX5_mayFollow_142 rfl ?_
            refine gk_if_ne C (tgt := 151) (by omega) dX5_mayFollow_144 (by decide) (fun c_144 => ?_) (fun c_144 => ?_)
            · exact absurd c_144 (by omega)
            · refine gk_iconst C dX5_mayFollow_147 ?_
              refine gk_goto C (tgt := 152) dX5_mayFollow_148 (by decide) ?_
              refine (R _ _ _ _ _ (by decide) (by decide)).2.1 _ rfl (by omega) dX5_mayFollow_152 ?_
              refine ⟨_, _, rfl, by omega, ?_, rfl, hS4, VQ4, f39⟩
              unfold MMay
              have k6 : s4 6 = s 6 := hS4 6 rfl
              have k4 : s4 4 = s 4 := hS4 4 rfl
              simp only [k6, k4] at *
              first | omega | (rw [true_iff]; omega)
        · refine gk_aload_n C dX5_mayFollow_105 rfl ?_
          refine mo_getf C I f_X5_19.r dX5_mayFollow_106 (by rfl) ?_
          refine gk_iload_n C dX5_mayFollow_109 rfl ?_
          refine mo_iald C I (by rfl) dX5_mayFollow_110 (by omega) (by omega) ?_
          refine gk_aload_n C dX5_mayFollow_111 rfl ?_
          refine mo_getf C I f_X5_19.r dX5_mayFollow_112 (by rfl) ?_
          refine gk_aload_n C dX5_mayFollow_115 rfl ?_
          refine mo_getf C I f_X5_35.r dX5_mayFollow_116 (by rfl) ?_
          refine gk_aload_n C dX5_mayFollow_119 rfl ?_
          refine mo_getf C I f_X5_138.r dX5_mayFollow_120 (by rfl) ?_
          rw [f9]
          refine gk_iconst C dX5_mayFollow_123 ?_
          refine gk_isub C dX5_mayFollow_124 ?_
          refine mo_iald C I (by rfl) dX5_mayFollow_125 (by omega) (by omega) ?_
          rw [f10]
          refine mo_iald C I (by rfl) dX5_mayFollow_126 (by omega) (by omega) ?_
          refine gk_icmp_ne C (tgt := 134) (by omega) (by omega) dX5_mayFollow_127 (by decide) (fun c_127 => ?_) (fun c_127 => ?_)
          · refine gk_iconst C dX5_mayFollow_134 ?_
            refine gk_istore_6 C rfl (by decide) dX5_mayFollow_135 ?_
            refine gk_iload C dX5_mayFollow_137 rfl ?_
            refine gk_if_ne C (tgt := 151) (by omega) dX5_mayFollow_139 (by decide) (fun c_139 => ?_) (fun c_139 => ?_)
            · exact absurd c_139 (by omega)
            · refine gk_iload C dX5_mayFollow_142 rfl ?_
              refine gk_if_ne C (tgt := 151) (by omega) dX5_mayFollow_144 (by decide) (fun c_144 => ?_) (fun c_144 => ?_)
              · exact absurd c_144 (by omega)
              · refine gk_iconst C dX5_mayFollow_147 ?_
                refine gk_goto C (tgt := 152) dX5_mayFollow_148 (by decide) ?_
                refine (R _ _ _ _ _ (by decide) (by decide)).2.1 _ rfl (by omega) dX5_mayFollow_152 ?_
                refine ⟨_, _, rfl, by omega, ?_, rfl, hS4, VQ4, f39⟩
                unfold MMay
                have k6 : s4 6 = s 6 := hS4 6 rfl
                have k4 : s4 4 = s 4 := hS4 4 rfl
                simp only [k6, k4] at *
                first | omega | (rw [true_iff]; omega)
          · refine gk_iconst C dX5_mayFollow_130 ?_
            refine gk_goto C (tgt := 135) dX5_mayFollow_131 (by decide) ?_
            refine gk_istore_6 C rfl (by decide) dX5_mayFollow_135 ?_
            refine gk_iload C dX5_mayFollow_137 rfl ?_
            refine gk_if_ne C (tgt := 151) (by omega) dX5_mayFollow_139 (by decide) (fun c_139 => ?_) (fun c_139 => ?_)
            · exact absurd c_139 (by omega)
            · refine gk_iload C dX5_mayFollow_142 rfl ?_
              refine gk_if_ne C (tgt := 151) (by omega) dX5_mayFollow_144 (by decide) (fun c_144 => ?_) (fun c_144 => ?_)
              · refine gk_iconst C dX5_mayFollow_151 ?_
                refine (R _ _ _ _ _ (by decide) (by decide)).2.1 _ rfl (by omega) dX5_mayFollow_152 ?_
                refine ⟨_, _, rfl, by omega, ?_, rfl, hS4, VQ4, f39⟩
                unfold MMay
                have k6 : s4 6 = s 6 := hS4 6 rfl
                have k4 : s4 4 = s 4 := hS4 4 rfl
                simp only [k6, k4] at *
                first | omega | (rw [true_iff]; omega)
              · exact absurd c_144 (by omega)
      · refine gk_iload_n C dX5_mayFollow_68 rfl ?_
        refine gk_aload_n C dX5_mayFollow_69 rfl ?_
        refine mo_getf C I f_X5_50.r dX5_mayFollow_70 (by rfl) ?_
        refine gk_aload_n C dX5_mayFollow_73 rfl ?_
        refine mo_getf C I f_X5_159.r dX5_mayFollow_74 (by rfl) ?_
        rw [hS 14 rfl]
        refine gk_iconst C dX5_mayFollow_77 ?_
        refine gk_isub C dX5_mayFollow_78 ?_
        refine mo_iald C I (by rfl) dX5_mayFollow_79 (by omega) (by omega) ?_
        rw [hS 16 rfl]
        refine gk_icmp_ge C (tgt := 87) (by omega) (by omega) dX5_mayFollow_80 (by decide) (fun c_80 => ?_) (fun c_80 => ?_)
        · refine gk_iconst C dX5_mayFollow_87 ?_
          refine gk_istore_5 C rfl (by decide) dX5_mayFollow_88 ?_
          refine gk_aload_n C dX5_mayFollow_90 rfl ?_
          refine gk_iload C dX5_mayFollow_91 rfl ?_
          refine gk_callV C o_X5_plays k_X5_141 dX5_mayFollow_93 (m_plays hfl I VQ (t := s 15 (s 14 0 - 1)) (by omega) (VPt_congr (s := s) (hS 3 rfl) (hS 7 rfl) (VP _ (by omega) (by omega)))) (mo_obj I) rfl rfl rfl (by decide) (by decide) (by exact Nat.le_of_ble_eq_true rfl) (fun _ _ z => z.elim) (fun v_93 h_93 p_93 => ?_)
          obtain ⟨rfl, rfl⟩ := p_93
          dsimp only [gk_push]
          have hag := mRow_agree (s := s) (s2 := s2) (t := s 15 (s 14 0 - 1)) (hS 3 rfl) (hS 7 rfl) (hS 8 rfl)
          have VP4 : VPt s2 (s 15 (s 14 0 - 1)) := VPt_congr (s := s) (hS 3 rfl) (hS 7 rfl) (VP _ (by omega) (by omega))
          have VQ4 := VM_play VQ VP4 (by omega)
          have hS4 : mSame s (mPlay s2 (s 15 (s 14 0 - 1))) := hS.set3
          have f9 : mPlay s2 (s 15 (s 14 0 - 1)) 9 0 = mMany s (s 15 (s 14 0 - 1)) := hag.1
          have f10 : mPlay s2 (s 15 (s 14 0 - 1)) 10 (mMany s (s 15 (s 14 0 - 1)) - 1) = mRow s (s 15 (s 14 0 - 1)) (mMany s (s 15 (s 14 0 - 1)) - 1) := (hag.2 _ (by omega) (by omega)).1
          have bml := mMany_bd V (VP (s 15 (s 14 0 - 1)) (by omega) (by omega))
          have f39 : mPlay s2 (s 15 (s 14 0 - 1)) 39 0 = s 39 0 := e39
          generalize mPlay s2 (s 15 (s 14 0 - 1)) = s4 at *
          have bl := VQ4.at 10 (mMany s (s 15 (s 14 0 - 1)) - 1) rfl
          have q6 := VQ4.at 6 (mRow s t 0) rfl
          have q4 := VQ4.at 4 (mRow s t 0) rfl
          have q5 := VQ4.at 4 (mRow s (s 15 (s 14 0 - 1)) (mMany s (s 15 (s 14 0 - 1)) - 1)) rfl
          refine gk_aload_n C dX5_mayFollow_96 rfl ?_
          refine mo_getf C I f_X5_25.r dX5_mayFollow_97 (by rfl) ?_
          refine gk_iload_n C dX5_mayFollow_100 rfl ?_
          refine mo_iald C I (by rfl) dX5_mayFollow_101 (by omega) (by omega) ?_
          refine gk_if_ne C (tgt := 134) (by omega) dX5_mayFollow_102 (by decide) (fun c_102 => ?_) (fun c_102 => ?_)
          · refine gk_iconst C dX5_mayFollow_134 ?_
            refine gk_istore_6 C rfl (by decide) dX5_mayFollow_135 ?_
            refine gk_iload C dX5_mayFollow_137 rfl ?_
            refine gk_if_ne C (tgt := 151) (by omega) dX5_mayFollow_139 (by decide) (fun c_139 => ?_) (fun c_139 => ?_)
            · exact absurd c_139 (by omega)
            · refine gk_iload C dX5_mayFollow_142 rfl ?_
              refine gk_if_ne C (tgt := 151) (by omega) dX5_mayFollow_144 (by decide) (fun c_144 => ?_) (fun c_144 => ?_)
              · exact absurd c_144 (by omega)
              · refine gk_iconst C dX5_mayFollow_147 ?_
                refine gk_goto C (tgt := 152) dX5_mayFollow_148 (by decide) ?_
                refine (R _ _ _ _ _ (by decide) (by decide)).2.1 _ rfl (by omega) dX5_mayFollow_152 ?_
                refine ⟨_, _, rfl, by omega, ?_, rfl, hS4, VQ4, f39⟩
                unfold MMay
                have k6 : s4 6 = s 6 := hS4 6 rfl
                have k4 : s4 4 = s 4 := hS4 4 rfl
                simp only [k6, k4] at *
                first | omega | (rw [true_iff]; omega)
          · refine gk_aload_n C dX5_mayFollow_105 rfl ?_
            refine mo_getf C I f_X5_19.r dX5_mayFollow_106 (by rfl) ?_
            refine gk_iload_n C dX5_mayFollow_109 rfl ?_
            refine mo_iald C I (by rfl) dX5_mayFollow_110 (by omega) (by omega) ?_
            refine gk_aload_n C dX5_mayFollow_111 rfl ?_
            refine mo_getf C I f_X5_19.r dX5_mayFollow_112 (by rfl) ?_
            refine gk_aload_n C dX5_mayFollow_115 rfl ?_
            refine mo_getf C I f_X5_35.r dX5_mayFollow_116 (by rfl) ?_
            refine gk_aload_n C dX5_mayFollow_119 rfl ?_
            refine mo_getf C I f_X5_138.r dX5_mayFollow_120 (by rfl) ?_
            rw [f9]
            refine gk_iconst C dX5_mayFollow_123 ?_
            refine gk_isub C dX5_mayFollow_124 ?_
            refine mo_iald C I (by rfl) dX5_mayFollow_125 (by omega) (by omega) ?_
            rw [f10]
            refine mo_iald C I (by rfl) dX5_mayFollow_126 (by omega) (by omega) ?_
            refine gk_icmp_ne C (tgt := 134) (by omega) (by omega) dX5_mayFollow_127 (by decide) (fun c_127 => ?_) (fun c_127 => ?_)
            · refine gk_iconst C dX5_mayFollow_134 ?_
              refine gk_istore_6 C rfl (by decide) dX5_mayFollow_135 ?_
              refine gk_iload C dX5_mayFollow_137 rfl ?_
              refine gk_if_ne C (tgt := 151) (by omega) dX5_mayFollow_139 (by decide) (fun c_139 => ?_) (fun c_139 => ?_)
              · exact absurd c_139 (by omega)
              · refine gk_iload C dX5_mayFollow_142 rfl ?_
                refine gk_if_ne C (tgt := 151) (by omega) dX5_mayFollow_144 (by decide) (fun c_144 => ?_) (fun c_144 => ?_)
                · exact absurd c_144 (by omega)
                · refine gk_iconst C dX5_mayFollow_147 ?_
                  refine gk_goto C (tgt := 152) dX5_mayFollow_148 (by decide) ?_
                  refine (R _ _ _ _ _ (by decide) (by decide)).2.1 _ rfl (by omega) dX5_mayFollow_152 ?_
                  refine ⟨_, _, rfl, by omega, ?_, rfl, hS4, VQ4, f39⟩
                  unfold MMay
                  have k6 : s4 6 = s 6 := hS4 6 rfl
                  have k4 : s4 4 = s 4 := hS4 4 rfl
                  simp only [k6, k4] at *
                  first | omega | (rw [true_iff]; omega)
            · refine gk_iconst C dX5_mayFollow_130 ?_
              refine gk_goto C (tgt := 135) dX5_mayFollow_131 (by decide) ?_
              refine gk_istore_6 C rfl (by decide) dX5_mayFollow_135 ?_
              refine gk_iload C dX5_mayFollow_137 rfl ?_
              refine gk_if_ne C (tgt := 151) (by omega) dX5_mayFollow_139 (by decide) (fun c_139 => ?_) (fun c_139 => ?_)
              · exact absurd c_139 (by omega)
              · refine gk_iload C dX5_mayFollow_142 rfl ?_
                refine gk_if_ne C (tgt := 151) (by omega) dX5_mayFollow_144 (by decide) (fun c_144 => ?_) (fun c_144 => ?_)
                · refine gk_iconst C dX5_mayFollow_151 ?_
                  refine (R _ _ _ _ _ (by decide) (by decide)).2.1 _ rfl (by omega) dX5_mayFollow_152 ?_
                  refine ⟨_, _, rfl, by omega, ?_, rfl, hS4, VQ4, f39⟩
                  unfold MMay
                  have k6 : s4 6 = s 6 := hS4 6 rfl
                  have k4 : s4 4 = s 4 := hS4 4 rfl
                  simp only [k6, k4] at *
                  first | omega | (rw [true_iff]; omega)
                · exact absurd c_144 (by omega)
        · refine gk_iconst C dX5_mayFollow_83 ?_
          refine gk_goto C (tgt := 88) dX5_mayFollow_84 (by decide) ?_
          refine gk_istore_5 C rfl (by decide) dX5_mayFollow_88 ?_
          refine gk_aload_n C dX5_mayFollow_90 rfl ?_
          refine gk_iload C dX5_mayFollow_91 rfl ?_
          refine gk_callV C o_X5_plays k_X5_141 dX5_mayFollow_93 (m_plays hfl I VQ (t := s 15 (s 14 0 - 1)) (by omega) (VPt_congr (s := s) (hS 3 rfl) (hS 7 rfl) (VP _ (by omega) (by omega)))) (mo_obj I) rfl rfl rfl (by decide) (by decide) (by exact Nat.le_of_ble_eq_true rfl) (fun _ _ z => z.elim) (fun v_93 h_93 p_93 => ?_)
          obtain ⟨rfl, rfl⟩ := p_93
          dsimp only [gk_push]
          have hag := mRow_agree (s := s) (s2 := s2) (t := s 15 (s 14 0 - 1)) (hS 3 rfl) (hS 7 rfl) (hS 8 rfl)
          have VP4 : VPt s2 (s 15 (s 14 0 - 1)) := VPt_congr (s := s) (hS 3 rfl) (hS 7 rfl) (VP _ (by omega) (by omega))
          have VQ4 := VM_play VQ VP4 (by omega)
          have hS4 : mSame s (mPlay s2 (s 15 (s 14 0 - 1))) := hS.set3
          have f9 : mPlay s2 (s 15 (s 14 0 - 1)) 9 0 = mMany s (s 15 (s 14 0 - 1)) := hag.1
          have f10 : mPlay s2 (s 15 (s 14 0 - 1)) 10 (mMany s (s 15 (s 14 0 - 1)) - 1) = mRow s (s 15 (s 14 0 - 1)) (mMany s (s 15 (s 14 0 - 1)) - 1) := (hag.2 _ (by omega) (by omega)).1
          have bml := mMany_bd V (VP (s 15 (s 14 0 - 1)) (by omega) (by omega))
          have f39 : mPlay s2 (s 15 (s 14 0 - 1)) 39 0 = s 39 0 := e39
          generalize mPlay s2 (s 15 (s 14 0 - 1)) = s4 at *
          have bl := VQ4.at 10 (mMany s (s 15 (s 14 0 - 1)) - 1) rfl
          have q6 := VQ4.at 6 (mRow s t 0) rfl
          have q4 := VQ4.at 4 (mRow s t 0) rfl
          have q5 := VQ4.at 4 (mRow s (s 15 (s 14 0 - 1)) (mMany s (s 15 (s 14 0 - 1)) - 1)) rfl
          refine gk_aload_n C dX5_mayFollow_96 rfl ?_
          refine mo_getf C I f_X5_25.r dX5_mayFollow_97 (by rfl) ?_
          refine gk_iload_n C dX5_mayFollow_100 rfl ?_
          refine mo_iald C I (by rfl) dX5_mayFollow_101 (by omega) (by omega) ?_
          refine gk_if_ne C (tgt := 134) (by omega) dX5_mayFollow_102 (by decide) (fun c_102 => ?_) (fun c_102 => ?_)
          · refine gk_iconst C dX5_mayFollow_134 ?_
            refine gk_istore_6 C rfl (by decide) dX5_mayFollow_135 ?_
            refine gk_iload C dX5_mayFollow_137 rfl ?_
            refine gk_if_ne C (tgt := 151) (by omega) dX5_mayFollow_139 (by decide) (fun c_139 => ?_) (fun c_139 => ?_)
            · refine gk_iconst C dX5_mayFollow_151 ?_
              refine (R _ _ _ _ _ (by decide) (by decide)).2.1 _ rfl (by omega) dX5_mayFollow_152 ?_
              refine ⟨_, _, rfl, by omega, ?_, rfl, hS4, VQ4, f39⟩
              unfold MMay
              have k6 : s4 6 = s 6 := hS4 6 rfl
              have k4 : s4 4 = s 4 := hS4 4 rfl
              simp only [k6, k4] at *
              first | omega | (rw [true_iff]; omega)
            · exact absurd c_139 (by omega)
          · refine gk_aload_n C dX5_mayFollow_105 rfl ?_
            refine mo_getf C I f_X5_19.r dX5_mayFollow_106 (by rfl) ?_
            refine gk_iload_n C dX5_mayFollow_109 rfl ?_
            refine mo_iald C I (by rfl) dX5_mayFollow_110 (by omega) (by omega) ?_
            refine gk_aload_n C dX5_mayFollow_111 rfl ?_
            refine mo_getf C I f_X5_19.r dX5_mayFollow_112 (by rfl) ?_
            refine gk_aload_n C dX5_mayFollow_115 rfl ?_
            refine mo_getf C I f_X5_35.r dX5_mayFollow_116 (by rfl) ?_
            refine gk_aload_n C dX5_mayFollow_119 rfl ?_
            refine mo_getf C I f_X5_138.r dX5_mayFollow_120 (by rfl) ?_
            rw [f9]
            refine gk_iconst C dX5_mayFollow_123 ?_
            refine gk_isub C dX5_mayFollow_124 ?_
            refine mo_iald C I (by rfl) dX5_mayFollow_125 (by omega) (by omega) ?_
            rw [f10]
            refine mo_iald C I (by rfl) dX5_mayFollow_126 (by omega) (by omega) ?_
            refine gk_icmp_ne C (tgt := 134) (by omega) (by omega) dX5_mayFollow_127 (by decide) (fun c_127 => ?_) (fun c_127 => ?_)
            · refine gk_iconst C dX5_mayFollow_134 ?_
              refine gk_istore_6 C rfl (by decide) dX5_mayFollow_135 ?_
              refine gk_iload C dX5_mayFollow_137 rfl ?_
              refine gk_if_ne C (tgt := 151) (by omega) dX5_mayFollow_139 (by decide) (fun c_139 => ?_) (fun c_139 => ?_)
              · refine gk_iconst C dX5_mayFollow_151 ?_
                refine (R _ _ _ _ _ (by decide) (by decide)).2.1 _ rfl (by omega) dX5_mayFollow_152 ?_
                refine ⟨_, _, rfl, by omega, ?_, rfl, hS4, VQ4, f39⟩
                unfold MMay
                have k6 : s4 6 = s 6 := hS4 6 rfl
                have k4 : s4 4 = s 4 := hS4 4 rfl
                simp only [k6, k4] at *
                first | omega | (rw [true_iff]; omega)
              · exact absurd c_139 (by omega)
            · refine gk_iconst C dX5_mayFollow_130 ?_
              refine gk_goto C (tgt := 135) dX5_mayFollow_131 (by decide) ?_
              refine gk_istore_6 C rfl (by decide) dX5_mayFollow_135 ?_
              refine gk_iload C dX5_mayFollow_137 rfl ?_
              refine gk_if_ne C (tgt := 151) (by omega) dX5_mayFollow_139 (by decide) (fun c_139 => ?_) (fun c_139 => ?_)
              · refine gk_iconst C dX5_mayFollow_151 ?_
                refine (R _ _ _ _ _ (by decide) (by decide)).2.1 _ rfl (by omega) dX5_mayFollow_152 ?_
                refine ⟨_, _, rfl, by omega, ?_, rfl, hS4, VQ4, f39⟩
                unfold MMay
                have k6 : s4 6 = s 6 := hS4 6 rfl
                have k4 : s4 4 = s 4 := hS4 4 rfl
                simp only [k6, k4] at *
                first | omega | (rw [true_iff]; omega)
              · exact absurd c_139 (by omega)
    · refine gk_aload_n C dX5_mayFollow_19 rfl ?_
      refine mo_getf C I f_X5_138.r dX5_mayFollow_20 (by rfl) ?_
      rw [e9]
      refine gk_if_le C (tgt := 30) (by omega) dX5_mayFollow_23 (by decide) (fun c_23 => ?_) (fun c_23 => ?_)
      · refine gk_iconst C dX5_mayFollow_30 ?_
        refine (R _ _ _ _ _ (by decide) (by decide)).2.1 _ rfl (by omega) dX5_mayFollow_31 ?_
        exact ⟨_, _, rfl, by omega, by unfold MMay; omega, rfl, hS, VQ, e39⟩
      · refine gk_iconst C dX5_mayFollow_26 ?_
        refine gk_goto C (tgt := 31) dX5_mayFollow_27 (by decide) ?_
        refine (R _ _ _ _ _ (by decide) (by decide)).2.1 _ rfl (by omega) dX5_mayFollow_31 ?_
        exact ⟨_, _, rfl, by omega, by unfold MMay; omega, rfl, hS, VQ, e39⟩

set_option maxRecDepth 100000 in
set_option maxHeartbeats 4000000 in
theorem m_follow {l : Launch} {Γ : GA} (hfl : l.stackTraces = false) {ad : Nat → Nat} (I : IM ad) {s : MS} (V : VM s) (VP : ∀ t : Int, 0 ≤ t → t < s 0 0 → VPt s t) (VS : VSet s) {t tp : Int} (ht : -2147483648 ≤ t ∧ t ≤ 2147483647) (htp : -2147483648 ≤ tp ∧ tp ≤ 2147483647) : Ct l Γ m_X5_follow [.ref (ad 40), iv t, iv tp] (HM ad s) (fun v h' => ∃ (r c : Int) (s1 s2 : MS), v = some (iv r) ∧ h' = HM ad s2 ∧ MFollow s t tp r c s1 s2 ∧ mSame s s1 ∧ VM s1 ∧ s1 39 0 = c) (fun _ _ => False) := by
  have b0 := V.at 0 0 rfl
  have V0 := VM_th V 0 (by omega)
  have b14 := V.at 14 0 rfl
  refine Ct.intro hfl (by decide +kernel) rfl (Nat.le_of_ble_eq_true rfl) ?_
  intro G C R T
  show G 0 [some (.ref (ad 40)), some (iv t), some (iv tp)] [] (HM ad s) 0 0
  refine gk_aload_n C dX5_follow_0 rfl ?_
  refine gk_aload_n C dX5_follow_1 rfl ?_
  refine gk_iload_n C dX5_follow_2 rfl ?_
  refine gk_callV C o_X5_isTune k_X5_125 dX5_follow_3 (m_isTune hfl I V ht) (mo_obj I) rfl rfl rfl (by decide) (by decide) (by exact Nat.le_of_ble_eq_true rfl) (fun _ _ z => z.elim) (fun v_3 h_3 p_3 => ?_)
  obtain ⟨r_3, rfl, rb_3, rc_3, rfl⟩ := p_3
  dsimp only [gk_push]
  refine gk_if_ne C (tgt := 13) (by omega) dX5_follow_6 (by decide) (fun c_6 => ?_) (fun c_6 => ?_)
  · refine gk_iload_n C dX5_follow_13 rfl ?_
    refine gk_bipush C dX5_follow_14 (by decide) ?_
    refine gk_sipush C dX5_follow_16 (by decide) ?_
    refine gk_callS C o_X5_isIn k_X5_114 dX5_follow_19 (m_X5_isIn_c hfl htp (by omega) (by omega)) rfl rfl (by decide) (by decide) (by exact Nat.le_of_ble_eq_true rfl) (fun _ _ z => z.elim) (fun v_19 h_19 p_19 => ?_)
    obtain ⟨r_19, rfl, rb_19, rc_19, rfl⟩ := p_19
    dsimp only [gk_push]
    refine gk_if_ne C (tgt := 29) (by omega) dX5_follow_22 (by decide) (fun c_22 => ?_) (fun c_22 => ?_)
    · refine gk_iconst C dX5_follow_29 ?_
      refine mo_putf C I f_X5_107 (by decide) dX5_follow_30 ?_
      refine gk_aload_n C dX5_follow_33 rfl ?_
      refine mo_getf C I f_X5_107.r dX5_follow_34 (by rfl) ?_
      try simp only [moS3_ap, moS_ap, Nat.reduceEqDiff, if_true, if_false, reduceIte]
      refine gk_if_le C (tgt := 42) (by omega) dX5_follow_37 (by decide) (fun c_37 => ?_) (fun c_37 => ?_)
      · refine gk_aload_n C dX5_follow_42 rfl ?_
        refine gk_aload_n C dX5_follow_43 rfl ?_
        refine mo_getf C I f_X5_159.r dX5_follow_44 (by rfl) ?_
        try simp only [moS3_ap, moS_ap, Nat.reduceEqDiff, if_true, if_false, reduceIte]
        refine gk_bipush C dX5_follow_47 (by decide) ?_
        refine gk_icmp_eq C (tgt := 61) (by omega) (by omega) dX5_follow_49 (by decide) (fun c_49 => ?_) (fun c_49 => ?_)
        · refine gk_iconst C dX5_follow_61 ?_
          refine gk_goto C (tgt := 66) dX5_follow_62 (by decide) ?_
          refine mo_putf C I f_X5_107 (by decide) dX5_follow_66 ?_
          refine gk_aload_n C dX5_follow_69 rfl ?_
          refine mo_getf C I f_X5_107.r dX5_follow_70 (by rfl) ?_
          try simp only [moS3_ap, moS_ap, Nat.reduceEqDiff, if_true, if_false, reduceIte]
          refine gk_if_le C (tgt := 78) (by omega) dX5_follow_73 (by decide) (fun c_73 => ?_) (fun c_73 => ?_)
          · exact absurd c_73 (by omega)
          · refine gk_iconst C dX5_follow_76 ?_
            refine (R _ _ _ _ _ (by decide) (by decide)).1 _ rfl dX5_follow_77 ?_
            first | exact ⟨_, _, _, _, rfl, rfl, Or.inr (Or.inr (Or.inl ⟨by omega, by omega, Or.inl (by omega), rfl, rfl, rfl⟩)), (mSame.of.set (j := 39) rfl).set (j := 39) rfl, VM_th V0 3 (by omega), rfl⟩ | exact ⟨_, _, _, _, rfl, rfl, Or.inr (Or.inr (Or.inl ⟨by omega, by omega, Or.inr (fun z => by have := hr2.mpr z; omega), rfl, rfl, rfl⟩)), hS2.set (j := 39) rfl, VM_th VQ 3 (by omega), rfl⟩
        · refine gk_aload_n C dX5_follow_52 rfl ?_
          refine gk_iload_n C dX5_follow_53 rfl ?_
          refine gk_iload_n C dX5_follow_54 rfl ?_
          refine gk_callV C o_X5_mayFollow k_X5_162 dX5_follow_55 (m_mayFollow hfl I V0 (fun t h0 h1 => VPt_congr (s := s) rfl rfl (VP t h0 h1)) (fun i h0 h1 => by rw [(mRow_agree (s := s) (s2 := moS s 39 (fun _ => 0)) rfl rfl rfl).1]; exact VS i h0 h1) (show 0 ≤ t ∧ t < s 0 0 by omega) htp) (mo_obj I) rfl rfl rfl (by decide) (by decide) (by exact Nat.le_of_ble_eq_true rfl) (fun _ _ z => z.elim) (fun v_55 h_55 p_55 => ?_)
          obtain ⟨rm, s2, rfl, hr0, hr1, rfl, hS, VQ, e39⟩ := p_55
          dsimp only [gk_push]
          have hS2 : mSame s s2 := (mSame.of.set (j := 39) rfl).trans hS
          have hr2 : rm = 1 ↔ MMay s t tp := hr1.trans (MMay_congr (mSame.of.set (j := 39) rfl) (by omega) VS (by omega) V VP)
          refine gk_if_ne C (tgt := 65) (by omega) dX5_follow_58 (by decide) (fun c_58 => ?_) (fun c_58 => ?_)
          · refine gk_iconst C dX5_follow_65 ?_
            refine mo_putf C I f_X5_107 (by decide) dX5_follow_66 ?_
            refine gk_aload_n C dX5_follow_69 rfl ?_
            refine mo_getf C I f_X5_107.r dX5_follow_70 (by rfl) ?_
            try simp only [moS3_ap, moS_ap, Nat.reduceEqDiff, if_true, if_false, reduceIte]
            refine gk_if_le C (tgt := 78) (by omega) dX5_follow_73 (by decide) (fun c_73 => ?_) (fun c_73 => ?_)
            · refine gk_aload_n C dX5_follow_78 rfl ?_
              refine mo_getf C I f_X5_47.r dX5_follow_79 (by rfl) ?_
              try simp only [moS3_ap, moS_ap, Nat.reduceEqDiff, if_true, if_false, reduceIte]
              refine gk_aload_n C dX5_follow_82 rfl ?_
              refine mo_getf C I f_X5_159.r dX5_follow_83 (by rfl) ?_
              try simp only [moS3_ap, moS_ap, Nat.reduceEqDiff, if_true, if_false, reduceIte]
              first | rw [hS2 14 rfl] | skip
              refine gk_iload_n C dX5_follow_86 rfl ?_
              refine mo_iast C I (by rfl) dX5_follow_87 (by omega) (by omega) ?_
              refine gk_aload_n C dX5_follow_88 rfl ?_
              refine mo_getf C I f_X5_50.r dX5_follow_89 (by rfl) ?_
              try simp only [moS3_ap, moS_ap, Nat.reduceEqDiff, if_true, if_false, reduceIte]
              refine gk_aload_n C dX5_follow_92 rfl ?_
              refine mo_getf C I f_X5_159.r dX5_follow_93 (by rfl) ?_
              try simp only [moS3_ap, moS_ap, Nat.reduceEqDiff, if_true, if_false, reduceIte]
              first | rw [hS2 14 rfl] | skip
              refine gk_iload_n C dX5_follow_96 rfl ?_
              refine mo_iast C I (by rfl) dX5_follow_97 (by omega) (by omega) ?_
              refine gk_aload_n C dX5_follow_98 rfl ?_
              refine gk_dup C rfl dX5_follow_99 ?_
              refine mo_getf C I f_X5_159.r dX5_follow_100 (by rfl) ?_
              try simp only [moS3_ap, moS_ap, Nat.reduceEqDiff, if_true, if_false, reduceIte]
              first | rw [hS2 14 rfl] | skip
              refine gk_iconst C dX5_follow_103 ?_
              refine gk_iadd C dX5_follow_104 ?_
              refine mo_putf C I f_X5_159 (by decide) dX5_follow_105 ?_
              refine gk_aload_n C dX5_follow_108 rfl ?_
              refine mo_getf C I f_X5_159.r dX5_follow_109 (by rfl) ?_
              try simp only [moS3_ap, moS_ap, Nat.reduceEqDiff, if_true, if_false, reduceIte]
              refine (R _ _ _ _ _ (by decide) (by decide)).1 _ rfl dX5_follow_112 ?_
              refine ⟨_, _, moS s2 39 (fun _ => 0), _, rfl, rfl, Or.inr (Or.inr (Or.inr ⟨by omega, by omega, by omega, hr2.mp (by omega), rfl, rfl, ?_⟩)), hS2.set (j := 39) rfl, VM_th VQ 0 (by omega), rfl⟩
              rw [hS2 15 rfl, hS2 16 rfl]
            · exact absurd c_73 (by omega)
          · refine gk_iconst C dX5_follow_61 ?_
            refine gk_goto C (tgt := 66) dX5_follow_62 (by decide) ?_
            refine mo_putf C I f_X5_107 (by decide) dX5_follow_66 ?_
            refine gk_aload_n C dX5_follow_69 rfl ?_
            refine mo_getf C I f_X5_107.r dX5_follow_70 (by rfl) ?_
            try simp only [moS3_ap, moS_ap, Nat.reduceEqDiff, if_true, if_false, reduceIte]
            refine gk_if_le C (tgt := 78) (by omega) dX5_follow_73 (by decide) (fun c_73 => ?_) (fun c_73 => ?_)
            · exact absurd c_73 (by omega)
            · refine gk_iconst C dX5_follow_76 ?_
              refine (R _ _ _ _ _ (by decide) (by decide)).1 _ rfl dX5_follow_77 ?_
              first | exact ⟨_, _, _, _, rfl, rfl, Or.inr (Or.inr (Or.inl ⟨by omega, by omega, Or.inl (by omega), rfl, rfl, rfl⟩)), (mSame.of.set (j := 39) rfl).set (j := 39) rfl, VM_th V0 3 (by omega), rfl⟩ | exact ⟨_, _, _, _, rfl, rfl, Or.inr (Or.inr (Or.inl ⟨by omega, by omega, Or.inr (fun z => by have := hr2.mpr z; omega), rfl, rfl, rfl⟩)), hS2.set (j := 39) rfl, VM_th VQ 3 (by omega), rfl⟩
      · exact absurd c_37 (by omega)
    · refine gk_iconst C dX5_follow_25 ?_
      refine gk_goto C (tgt := 30) dX5_follow_26 (by decide) ?_
      refine mo_putf C I f_X5_107 (by decide) dX5_follow_30 ?_
      refine gk_aload_n C dX5_follow_33 rfl ?_
      refine mo_getf C I f_X5_107.r dX5_follow_34 (by rfl) ?_
      try simp only [moS3_ap, moS_ap, Nat.reduceEqDiff, if_true, if_false, reduceIte]
      refine gk_if_le C (tgt := 42) (by omega) dX5_follow_37 (by decide) (fun c_37 => ?_) (fun c_37 => ?_)
      · exact absurd c_37 (by omega)
      · refine gk_iconst C dX5_follow_40 ?_
        refine (R _ _ _ _ _ (by decide) (by decide)).1 _ rfl dX5_follow_41 ?_
        first | exact ⟨_, _, _, _, rfl, rfl, Or.inl ⟨by omega, rfl, rfl, rfl⟩, (mSame.of.set (j := 39) rfl), (VM_th V 1 (by omega)), rfl⟩ | exact ⟨_, _, _, _, rfl, rfl, Or.inr (Or.inl ⟨by omega, by omega, rfl, rfl, rfl⟩), (mSame.of.set (j := 39) rfl), (VM_th V 2 (by omega)), rfl⟩
  · refine gk_iconst C dX5_follow_9 ?_
    refine gk_goto C (tgt := 30) dX5_follow_10 (by decide) ?_
    refine mo_putf C I f_X5_107 (by decide) dX5_follow_30 ?_
    refine gk_aload_n C dX5_follow_33 rfl ?_
    refine mo_getf C I f_X5_107.r dX5_follow_34 (by rfl) ?_
    try simp only [moS3_ap, moS_ap, Nat.reduceEqDiff, if_true, if_false, reduceIte]
    refine gk_if_le C (tgt := 42) (by omega) dX5_follow_37 (by decide) (fun c_37 => ?_) (fun c_37 => ?_)
    · exact absurd c_37 (by omega)
    · refine gk_iconst C dX5_follow_40 ?_
      refine (R _ _ _ _ _ (by decide) (by decide)).1 _ rfl dX5_follow_41 ?_
      first | exact ⟨_, _, _, _, rfl, rfl, Or.inl ⟨by omega, rfl, rfl, rfl⟩, (mSame.of.set (j := 39) rfl), (VM_th V 1 (by omega)), rfl⟩ | exact ⟨_, _, _, _, rfl, rfl, Or.inr (Or.inl ⟨by omega, by omega, rfl, rfl, rfl⟩), (mSame.of.set (j := 39) rfl), (VM_th V 2 (by omega)), rfl⟩

set_option maxRecDepth 100000 in
set_option maxHeartbeats 4000000 in
theorem m_drop {l : Launch} {Γ : GA} (hfl : l.stackTraces = false) {ad : Nat → Nat} (I : IM ad) {s : MS} (V : VM s) : Ct l Γ m_X5_drop [.ref (ad 40)] (HM ad s) (fun v h' => ∃ (r : Int) (s2 : MS), v = some (iv r) ∧ h' = HM ad s2 ∧ MDrop s r s2) (fun _ _ => False) := by
  have b14 := V.at 14 0 rfl
  refine Ct.intro hfl (by decide +kernel) rfl (Nat.le_of_ble_eq_true rfl) ?_
  intro G C R T
  show G 0 [some (.ref (ad 40))] [] (HM ad s) 0 0
  refine gk_aload_n C dX5_drop_0 rfl ?_
  refine gk_aload_n C dX5_drop_1 rfl ?_
  refine mo_getf C I f_X5_159.r dX5_drop_2 (by rfl) ?_
  refine gk_if_ne C (tgt := 12) (by omega) dX5_drop_5 (by decide) (fun c_5 => ?_) (fun c_5 => ?_)
  · refine gk_iconst C dX5_drop_12 ?_
    refine mo_putf C I f_X5_107 (by decide) dX5_drop_13 ?_
    refine gk_aload_n C dX5_drop_16 rfl ?_
    refine gk_dup C rfl dX5_drop_17 ?_
    refine mo_getf C I f_X5_159.r dX5_drop_18 (by rfl) ?_
    try simp only [moS3_ap, moS_ap, Nat.reduceEqDiff, if_true, if_false, reduceIte]
    refine gk_aload_n C dX5_drop_21 rfl ?_
    refine mo_getf C I f_X5_107.r dX5_drop_22 (by rfl) ?_
    try simp only [moS3_ap, moS_ap, Nat.reduceEqDiff, if_true, if_false, reduceIte]
    refine gk_if_le C (tgt := 32) (by omega) dX5_drop_25 (by decide) (fun c_25 => ?_) (fun c_25 => ?_)
    · refine gk_iconst C dX5_drop_32 ?_
      refine gk_isub C dX5_drop_33 ?_
      refine mo_putf C I f_X5_159 (by decide) dX5_drop_34 ?_
      refine gk_aload_n C dX5_drop_37 rfl ?_
      refine mo_getf C I f_X5_107.r dX5_drop_38 (by rfl) ?_
      try simp only [moS3_ap, moS_ap, Nat.reduceEqDiff, if_true, if_false, reduceIte]
      refine gk_if_le C (tgt := 48) (by omega) dX5_drop_41 (by decide) (fun c_41 => ?_) (fun c_41 => ?_)
      · refine gk_aload_n C dX5_drop_48 rfl ?_
        refine mo_getf C I f_X5_47.r dX5_drop_49 (by rfl) ?_
        try simp only [moS3_ap, moS_ap, Nat.reduceEqDiff, if_true, if_false, reduceIte]
        refine gk_aload_n C dX5_drop_52 rfl ?_
        refine mo_getf C I f_X5_159.r dX5_drop_53 (by rfl) ?_
        try simp only [moS3_ap, moS_ap, Nat.reduceEqDiff, if_true, if_false, reduceIte]
        refine mo_iald C I (by rfl) dX5_drop_56 (by omega) (by omega) ?_
        try simp only [moS3_ap, moS_ap, Nat.reduceEqDiff, if_true, if_false, reduceIte]
        refine (R _ _ _ _ _ (by decide) (by decide)).1 _ rfl dX5_drop_57 ?_
        first | exact ⟨_, _, rfl, rfl, Or.inl ⟨by omega, rfl, rfl⟩⟩ | exact ⟨_, _, rfl, rfl, Or.inr ⟨by omega, rfl, rfl⟩⟩
      · exact absurd c_41 (by omega)
    · exact absurd c_25 (by omega)
  · refine gk_iconst C dX5_drop_8 ?_
    refine gk_goto C (tgt := 13) dX5_drop_9 (by decide) ?_
    refine mo_putf C I f_X5_107 (by decide) dX5_drop_13 ?_
    refine gk_aload_n C dX5_drop_16 rfl ?_
    refine gk_dup C rfl dX5_drop_17 ?_
    refine mo_getf C I f_X5_159.r dX5_drop_18 (by rfl) ?_
    try simp only [moS3_ap, moS_ap, Nat.reduceEqDiff, if_true, if_false, reduceIte]
    refine gk_aload_n C dX5_drop_21 rfl ?_
    refine mo_getf C I f_X5_107.r dX5_drop_22 (by rfl) ?_
    try simp only [moS3_ap, moS_ap, Nat.reduceEqDiff, if_true, if_false, reduceIte]
    refine gk_if_le C (tgt := 32) (by omega) dX5_drop_25 (by decide) (fun c_25 => ?_) (fun c_25 => ?_)
    · exact absurd c_25 (by omega)
    · refine gk_iconst C dX5_drop_28 ?_
      refine gk_goto C (tgt := 33) dX5_drop_29 (by decide) ?_
      refine gk_isub C dX5_drop_33 ?_
      refine mo_putf C I f_X5_159 (by decide) dX5_drop_34 ?_
      refine gk_aload_n C dX5_drop_37 rfl ?_
      refine mo_getf C I f_X5_107.r dX5_drop_38 (by rfl) ?_
      try simp only [moS3_ap, moS_ap, Nat.reduceEqDiff, if_true, if_false, reduceIte]
      refine gk_if_le C (tgt := 48) (by omega) dX5_drop_41 (by decide) (fun c_41 => ?_) (fun c_41 => ?_)
      · exact absurd c_41 (by omega)
      · refine gk_iconst C dX5_drop_44 ?_
        refine gk_goto C (tgt := 57) dX5_drop_45 (by decide) ?_
        refine (R _ _ _ _ _ (by decide) (by decide)).1 _ rfl dX5_drop_57 ?_
        first | exact ⟨_, _, rfl, rfl, Or.inl ⟨by omega, rfl, rfl⟩⟩ | exact ⟨_, _, rfl, rfl, Or.inr ⟨by omega, rfl, rfl⟩⟩

set_option maxRecDepth 100000 in
set_option maxHeartbeats 4000000 in
theorem m_time {l : Launch} {Γ : GA} (hfl : l.stackTraces = false) {ad : Nat → Nat} (I : IM ad) {s : MS} (V : VM s) (VP : ∀ t : Int, 0 ≤ t → t < s 0 0 → VPt s t) (VS : VSet s) : Ct l Γ m_X5_time [.ref (ad 40)] (HM ad s) (fun v h' => ∃ s2 : MS, v = some (jv (mTime s (s 14 0).toNat)) ∧ h' = HM ad s2 ∧ mSame s s2 ∧ VM s2 ∧ s2 39 0 = 0) (fun _ _ => False) := by
  have b0 := V.at 0 0 rfl
  have b14 := V.at 14 0 rfl
  have V0 := VM_th V 0 (by omega)
  refine Ct.intro hfl (by decide +kernel) rfl (Nat.le_of_ble_eq_true rfl) ?_
  intro G C R T
  show G 0 [some (.ref (ad 40)), none, none, none] [] (HM ad s) 0 0
  refine gk_aload_n C dX5_time_0 rfl ?_
  refine gk_iconst C dX5_time_1 ?_
  refine mo_putf C I f_X5_107 (by decide) dX5_time_2 ?_
  refine gk_lconst C (z := 0) dX5_time_5 (by decide) ?_
  refine gk_lstore_n_1 C rfl (by decide) dX5_time_6 ?_
  refine gk_iconst C dX5_time_7 ?_
  refine gk_istore_n_3 C rfl (by decide) dX5_time_8 ?_
  have key : ∀ (n k : Nat) (s1 : MS) x2, s 14 0 - k < n → k ≤ s 14 0 → mSame s s1 → VM s1 → s1 39 0 = 0 → G 9 [some (.ref (ad 40)), some (jv (mTime s k)), x2, some (iv (k : Int))] [] (HM ad s1) 0 0 := by
    intro n
    induction n with
    | zero => intro k s1 x2 h1; omega
    | succ n ih =>
      intro k s1 x2 hn hk hS V1 h39
      have b15 := V.at 15 (k : Int) rfl
      have b16 := V.at 16 (k : Int) rfl
      refine gk_iload_n C dX5_time_9 rfl ?_
      refine gk_aload_n C dX5_time_10 rfl ?_
      refine mo_getf C I f_X5_159.r dX5_time_11 (by rfl) ?_
      rw [hS 14 rfl]
      refine gk_icmp_ge C (tgt := 57) (by omega) (by omega) dX5_time_14 (by decide) (fun c_14 => ?_) (fun c_14 => ?_)
      · refine gk_lload_n C dX5_time_57 rfl ?_
        refine (R _ _ _ _ _ (by decide) (by decide)).2.2.2.2.1 _ rfl dX5_time_58 ?_
        rw [show k = (s 14 0).toNat by omega]
        exact ⟨_, rfl, rfl, hS, V1, h39⟩
      · refine gk_aload_n C dX5_time_17 rfl ?_
        refine gk_aload_n C dX5_time_18 rfl ?_
        refine mo_getf C I f_X5_47.r dX5_time_19 (by rfl) ?_
        refine gk_iload_n C dX5_time_22 rfl ?_
        refine mo_iald C I (by rfl) dX5_time_23 (by omega) (by omega) ?_
        rw [hS 15 rfl]
        have hVS := VS k (by omega) (by omega)
        have VPk : VPt s1 (s 15 k) := VPt_congr (s := s) (hS 3 rfl) (hS 7 rfl) (VP _ (by omega) (by omega))
        refine gk_callV C o_X5_plays k_X5_141 dX5_time_24 (m_plays hfl I V1 (t := s 15 k) (by omega) VPk) (mo_obj I) rfl rfl rfl (by decide) (by decide) (by exact Nat.le_of_ble_eq_true rfl) (fun _ _ z => z.elim) (fun v_24 h_24 p_24 => ?_)
        obtain ⟨rfl, rfl⟩ := p_24
        dsimp only [gk_push]
        have hag := mRow_agree (s := s) (s2 := s1) (t := s 15 k) (hS 3 rfl) (hS 7 rfl) (hS 8 rfl)
        have VQ4 := VM_play V1 VPk (by omega)
        have bm := mMany_bd V (VP (s 15 k) (by omega) (by omega))
        have hS4 : mSame s (mPlay s1 (s 15 k)) := hS.set3
        have f9 : mPlay s1 (s 15 k) 9 0 = mMany s (s 15 k) := hag.1
        have f39 : mPlay s1 (s 15 k) 39 0 = 0 := h39
        have fU : mUn (mPlay s1 (s 15 k)) (mMany s (s 15 k)).toNat = mUt s (s 15 k) := by
          unfold mUn mUt
          refine usum_congr (fun i h0 h1 => ?_)
          show mPlay s1 (s 15 k) 5 (mRow s1 (s 15 k) i) = _
          rw [(hag.2 i h0 (by omega)).1, hS4 5 rfl]
        have bU : 0 ≤ mUt s (s 15 k) ∧ mUt s (s 15 k) ≤ 4000 := by
          have h9 := usum_bound (f := fun j => s 5 (mRow s (s 15 k) j)) (b := 16) (by omega) (n := (mMany s (s 15 k)).toNat) (fun i _ _ => V.at 5 _ rfl)
          unfold mUt
          omega
        generalize mPlay s1 (s 15 k) = s4 at *
        refine gk_lload_n C dX5_time_27 rfl ?_
        refine gk_ldc2 C cn_X5_166 dX5_time_28 ?_
        refine gk_aload_n C dX5_time_31 rfl ?_
        refine gk_aload_n C dX5_time_32 rfl ?_
        refine mo_getf C I f_X5_138.r dX5_time_33 (by rfl) ?_
        rw [f9, show mMany s (s 15 k) = ((mMany s (s 15 k)).toNat : Int) by omega]
        refine gk_callV C o_X5_unitsTo k_X5_145 dX5_time_36 (m_unitsTo hfl I VQ4 (z := (mMany s (s 15 k)).toNat) (by omega)) (mo_obj I) rfl rfl rfl (by decide) (by decide) (by exact Nat.le_of_ble_eq_true rfl) (fun _ _ z => z.elim) (fun v_36 h_36 p_36 => ?_)
        obtain ⟨rfl, rfl⟩ := p_36
        dsimp only [gk_push]
        rw [fU]
        refine gk_i2l C (by omega) dX5_time_39 ?_
        refine gk_lmul C dX5_time_40 ?_
        refine gk_aload_n C dX5_time_41 rfl ?_
        refine mo_getf C I f_X5_50.r dX5_time_42 (by rfl) ?_
        refine gk_iload_n C dX5_time_45 rfl ?_
        refine mo_iald C I (by rfl) dX5_time_46 (by omega) (by omega) ?_
        rw [hS4 16 rfl]
        refine gk_i2l C (by omega) dX5_time_47 ?_
        refine gk_ldiv C (by omega) (by omega) dX5_time_48 ?_
        refine gk_ladd C dX5_time_49 ?_
        refine gk_lstore_n_1 C rfl (by decide) dX5_time_50 ?_
        refine gk_iinc_3 C rfl (by decide) dX5_time_51 ?_
        refine gk_goto C (tgt := 9) dX5_time_54 (by decide) ?_
        exact ih (k + 1) s4 _ (by omega) (by omega) hS4 VQ4 f39
  exact key 9 0 _ _ (by omega) (by omega) (mSame.of.set (j := 39) rfl) V0 rfl
