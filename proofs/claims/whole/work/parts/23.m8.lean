/-! the reference: the middle, ofPiper, ahead -/
theorem mMid_congr {s s2 : MS} (h : s2 24 = s 24) (h28 : s2 28 = s 28) (hp : ∀ k : Int, mPit s2 k = mPit s k) : ∀ n : Nat, mMid s2 n = mMid s n
  | 0 => by
    show ((0 : Nat), s2 28) = (0, s 28)
    rw [h28]
  | n + 1 => by
    have ih := mMid_congr h h28 hp n
    show (if s2 24 n = 0 then ((mMid s2 n).1 + 1, pins (mPit s2 n) (mMid s2 n).1 (mMid s2 n).2) else mMid s2 n) = if s 24 n = 0 then ((mMid s n).1 + 1, pins (mPit s n) (mMid s n).1 (mMid s n).2) else mMid s n
    rw [ih, h, hp]
theorem moS_z3 {s : MS} {a b c : Nat} {f g h f2 g2 h2 : Int → Int} (c1 : b ≠ a) (c2 : c ≠ a) (c3 : c ≠ b) : moS (moS (moS (moS (moS (moS s a f) b g) c h) a f2) b g2) c h2 = moS (moS (moS s a f2) b g2) c h2 := by
  rw [moS_comm c2, moS_comm c1, moS_moS, moS_comm c3, moS_moS, moS_moS]
theorem mGo_out {s : MS} {i rain heat j : Int} {r : Nat} (h : j ≠ i) : mGo s i rain heat r j = s r j := by
  unfold mGo
  by_cases c1 : r = 18
  · subst c1; rw [moS_eq, gupd_ne h]
  · rw [moS_ne c1]
    by_cases c2 : r = 22
    · subst c2; rw [moS_eq, gupd_ne h]
    · rw [moS_ne c2]
      by_cases c3 : r = 23
      · subst c3; rw [moS_eq, gupd_ne h]
      · rw [moS_ne c3]
theorem mGoK_out {s : MS} {rain heat j : Int} {r : Nat} : ∀ k : Nat, (j < 0 ∨ (k : Int) ≤ j) → mGoK s rain heat k r j = s r j
  | 0, _ => rfl
  | k + 1, h => (mGo_out (by omega)).trans (mGoK_out k (by omega))
theorem mGoM_out {s : MS} {rain heat j : Int} {r : Nat} (h : j < 0 ∨ ((s 17 0).toNat : Int) ≤ j) : ∀ m : Nat, mGoM s rain heat m r j = s r j
  | 0 => rfl
  | m + 1 => (mGoK_out _ h).trans (mGoM_out h m)

set_option maxRecDepth 100000 in
set_option maxHeartbeats 4000000 in
theorem m_middle {l : Launch} {Γ : GA} (hfl : l.stackTraces = false) {ad : Nat → Nat} (I : IM ad) {s : MS} (V : VM s) (hpl : 1 ≤ mPlg s (s 17 0).toNat) : Ct l Γ m_X5_middle [.ref (ad 40)] (HM ad s) (fun v h' => v = some (iv ((mMid s (s 17 0).toNat).2 (((mMid s (s 17 0).toNat).1 - 1 : Int) / 2))) ∧ h' = HM ad (moS s 28 (mMid s (s 17 0).toNat).2)) (fun _ _ => False) := by
  have b0 := V.at 17 0 rfl
  refine Ct.intro hfl (by decide +kernel) rfl (Nat.le_of_ble_eq_true rfl) ?_
  intro G C R T
  show G 0 [some (.ref (ad 40)), none, none, none] [] (HM ad s) 0 0
  refine gk_iconst C dX5_middle_0 ?_
  refine gk_istore_n_1 C rfl (by decide) dX5_middle_1 ?_
  refine gk_iconst C dX5_middle_2 ?_
  refine gk_istore_n_2 C rfl (by decide) dX5_middle_3 ?_
  have key : ∀ (n k : Nat) x3, s 17 0 - k < n → k ≤ s 17 0 → G 4 [some (.ref (ad 40)), some (iv ((mMid s k).1 : Int)), some (iv (k : Int)), x3] [] (HM ad (moS s 28 (mMid s k).2)) 0 0 := by
    intro n
    induction n with
    | zero => intro k x3 h1; omega
    | succ n ih =>
      intro k x3 hn hk
      have b24 := V.at 24 (k : Int) rfl
      have bp := mPit_bd V k
      have bm := mMid_bd V k
      have em : mMid s (k + 1) = if s 24 k = 0 then ((mMid s k).1 + 1, pins (mPit s k) (mMid s k).1 (mMid s k).2) else mMid s k := rfl
      obtain ⟨c, hc⟩ : ∃ c : Nat, c = (mMid s k).1 := ⟨_, rfl⟩
      obtain ⟨f, hf⟩ : ∃ f : Int → Int, f = (mMid s k).2 := ⟨_, rfl⟩
      rw [← hc, ← hf] at bm em ⊢
      have fin1 : ∀ x3, k < s 17 0 → s 24 k = 0 → G 4 [some (.ref (ad 40)), some (iv ((c : Int) + 1)), some (iv ((k : Int) + 1)), x3] [] (HM ad (moS s 28 (pins (mPit s k) c f))) 0 0 := by
        intro x3 h1 h2
        have h9 := ih (k + 1) x3 (by omega) (by omega)
        rw [em, if_pos h2] at h9
        exact h9
      have fin2 : ∀ x3, k < s 17 0 → ¬ s 24 k = 0 → G 4 [some (.ref (ad 40)), some (iv (c : Int)), some (iv ((k : Int) + 1)), x3] [] (HM ad (moS s 28 f)) 0 0 := by
        intro x3 h1 h2
        have h9 := ih (k + 1) x3 (by omega) (by omega)
        rw [em, if_neg h2, ← hc, ← hf] at h9
        exact h9
      refine gk_iload_n C dX5_middle_4 rfl ?_
      refine gk_aload_n C dX5_middle_5 rfl ?_
      refine mo_getf C I f_X5_168.r dX5_middle_6 (by rfl) ?_
      try simp only [moS3_ap, moS_ap, Nat.reduceEqDiff, if_true, if_false, reduceIte]
      refine gk_icmp_ge C (tgt := 83) (by omega) (by omega) dX5_middle_9 (by decide) (fun c_9 => ?_) (fun c_9 => ?_)
      · have hc1 : 1 ≤ c := by
          rw [show (s 17 0).toNat = k by omega] at hpl
          omega
        refine gk_aload_n C dX5_middle_83 rfl ?_
        refine mo_getf C I f_X5_83.r dX5_middle_84 (by rfl) ?_
        try simp only [moS3_ap, moS_ap, Nat.reduceEqDiff, if_true, if_false, reduceIte]
        refine gk_iload_n C dX5_middle_87 rfl ?_
        refine gk_iconst C dX5_middle_88 ?_
        refine gk_isub C dX5_middle_89 ?_
        refine gk_iconst C dX5_middle_90 ?_
        refine gk_idiv C (by omega) (by omega) dX5_middle_91 ?_
        refine mo_iald C I (by rfl) dX5_middle_92 (by omega) (by omega) ?_
        try simp only [moS3_ap, moS_ap, Nat.reduceEqDiff, if_true, if_false, reduceIte]
        refine (R _ _ _ _ _ (by decide) (by decide)).1 _ rfl dX5_middle_93 ?_
        rw [show (s 17 0).toNat = k by omega, ← hc, ← hf]
        exact ⟨rfl, rfl⟩
      · refine gk_aload_n C dX5_middle_12 rfl ?_
        refine mo_getf C I f_X5_71.r dX5_middle_13 (by rfl) ?_
        try simp only [moS3_ap, moS_ap, Nat.reduceEqDiff, if_true, if_false, reduceIte]
        refine gk_iload_n C dX5_middle_16 rfl ?_
        refine mo_zald C I (by rfl) dX5_middle_17 (by omega) (by omega) ?_
        try simp only [moS3_ap, moS_ap, Nat.reduceEqDiff, if_true, if_false, reduceIte]
        refine gk_if_ne C (tgt := 77) (by omega) dX5_middle_18 (by decide) (fun c_18 => ?_) (fun c_18 => ?_)
        · refine gk_iinc_2 C rfl (by decide) dX5_middle_77 ?_
          refine gk_goto C (tgt := 4) dX5_middle_80 (by decide) ?_
          first | (rw [ef]; exact fin1 _ (by omega) (by omega)) | exact fin2 _ (by omega) (by omega)
        · refine gk_iload_n C dX5_middle_21 rfl ?_
          refine gk_istore_n_3 C rfl (by decide) dX5_middle_22 ?_
          have key2 : ∀ (n j : Nat) (g : Int → Int), j < n → j ≤ c → (∀ i, -1000000 ≤ g i ∧ g i ≤ 1000000) → pins (mPit s k) j g = pins (mPit s k) c f → G 23 [some (.ref (ad 40)), some (iv (c : Int)), some (iv (k : Int)), some (iv (j : Int))] [] (HM ad (moS s 28 g)) 0 0 := by
            intro n
            induction n with
            | zero => intro j g h1; omega
            | succ n ih2 =>
              intro j g hn hj bg he
              have Vg : VM (moS s 28 g) := V.set rfl bg
              have bg1 := bg ((j : Int) - 1)
              have eP : mPit (moS s 28 g) k = mPit s k := rfl
              refine gk_iload_n C dX5_middle_23 rfl ?_
              refine gk_if_le C (tgt := 63) (by omega) dX5_middle_24 (by decide) (fun c_24 => ?_) (fun c_24 => ?_)
              · have ef : gupd g (j : Int) (mPit s k) = pins (mPit s k) c f := by
                  rw [← he]
                  have e0 : j = 0 := by omega
                  subst e0
                  rfl
                refine gk_aload_n C dX5_middle_63 rfl ?_
                refine mo_getf C I f_X5_83.r dX5_middle_64 (by rfl) ?_
                try simp only [moS3_ap, moS_ap, Nat.reduceEqDiff, if_true, if_false, reduceIte]
                refine gk_iload_n C dX5_middle_67 rfl ?_
                refine gk_aload_n C dX5_middle_68 rfl ?_
                refine gk_iload_n C dX5_middle_69 rfl ?_
                refine gk_callV C o_X5_pitch k_X5_176 dX5_middle_70 (m_pitch hfl I Vg (i := (k : Int)) (by omega)) (mo_obj I) rfl rfl rfl (by decide) (by decide) (by exact Nat.le_of_ble_eq_true rfl) (fun _ _ z => z.elim) (fun v_70 h_70 p_70 => ?_)
                obtain ⟨rfl, rfl⟩ := p_70
                dsimp only [gk_push]
                rw [eP]
                refine mo_iast C I (by rfl) dX5_middle_73 (by omega) (by omega) ?_
                rw [moS_moS, moS_eq]
                refine gk_iinc_1 C rfl (by decide) dX5_middle_74 ?_
                refine gk_iinc_2 C rfl (by decide) dX5_middle_77 ?_
                refine gk_goto C (tgt := 4) dX5_middle_80 (by decide) ?_
                first | (rw [ef]; exact fin1 _ (by omega) (by omega)) | exact fin2 _ (by omega) (by omega)
              · refine gk_aload_n C dX5_middle_27 rfl ?_
                refine mo_getf C I f_X5_83.r dX5_middle_28 (by rfl) ?_
                try simp only [moS3_ap, moS_ap, Nat.reduceEqDiff, if_true, if_false, reduceIte]
                refine gk_iload_n C dX5_middle_31 rfl ?_
                refine gk_iconst C dX5_middle_32 ?_
                refine gk_isub C dX5_middle_33 ?_
                refine mo_iald C I (by rfl) dX5_middle_34 (by omega) (by omega) ?_
                try simp only [moS3_ap, moS_ap, Nat.reduceEqDiff, if_true, if_false, reduceIte]
                refine gk_aload_n C dX5_middle_35 rfl ?_
                refine gk_iload_n C dX5_middle_36 rfl ?_
                refine gk_callV C o_X5_pitch k_X5_176 dX5_middle_37 (m_pitch hfl I Vg (i := (k : Int)) (by omega)) (mo_obj I) rfl rfl rfl (by decide) (by decide) (by exact Nat.le_of_ble_eq_true rfl) (fun _ _ z => z.elim) (fun v_37 h_37 p_37 => ?_)
                obtain ⟨rfl, rfl⟩ := p_37
                dsimp only [gk_push]
                rw [eP]
                refine gk_icmp_le C (tgt := 63) (by omega) (by omega) dX5_middle_40 (by decide) (fun c_40 => ?_) (fun c_40 => ?_)
                · have ef : gupd g (j : Int) (mPit s k) = pins (mPit s k) c f := by
                    obtain ⟨j0, rfl⟩ : ∃ j0 : Nat, j = j0 + 1 := ⟨j - 1, by omega⟩
                    rw [← he]
                    rw [show (((j0 + 1 : Nat) : Int) - 1) = (j0 : Int) by omega] at c_40
                    show _ = if mPit s k < g j0 then _ else _
                    rw [if_neg (by omega)]
                    rfl
                  refine gk_aload_n C dX5_middle_63 rfl ?_
                  refine mo_getf C I f_X5_83.r dX5_middle_64 (by rfl) ?_
                  try simp only [moS3_ap, moS_ap, Nat.reduceEqDiff, if_true, if_false, reduceIte]
                  refine gk_iload_n C dX5_middle_67 rfl ?_
                  refine gk_aload_n C dX5_middle_68 rfl ?_
                  refine gk_iload_n C dX5_middle_69 rfl ?_
                  refine gk_callV C o_X5_pitch k_X5_176 dX5_middle_70 (m_pitch hfl I Vg (i := (k : Int)) (by omega)) (mo_obj I) rfl rfl rfl (by decide) (by decide) (by exact Nat.le_of_ble_eq_true rfl) (fun _ _ z => z.elim) (fun v_70 h_70 p_70 => ?_)
                  obtain ⟨rfl, rfl⟩ := p_70
                  dsimp only [gk_push]
                  rw [eP]
                  refine mo_iast C I (by rfl) dX5_middle_73 (by omega) (by omega) ?_
                  rw [moS_moS, moS_eq]
                  refine gk_iinc_1 C rfl (by decide) dX5_middle_74 ?_
                  refine gk_iinc_2 C rfl (by decide) dX5_middle_77 ?_
                  refine gk_goto C (tgt := 4) dX5_middle_80 (by decide) ?_
                  first | (rw [ef]; exact fin1 _ (by omega) (by omega)) | exact fin2 _ (by omega) (by omega)
                · refine gk_aload_n C dX5_middle_43 rfl ?_
                  refine mo_getf C I f_X5_83.r dX5_middle_44 (by rfl) ?_
                  try simp only [moS3_ap, moS_ap, Nat.reduceEqDiff, if_true, if_false, reduceIte]
                  refine gk_iload_n C dX5_middle_47 rfl ?_
                  refine gk_aload_n C dX5_middle_48 rfl ?_
                  refine mo_getf C I f_X5_83.r dX5_middle_49 (by rfl) ?_
                  try simp only [moS3_ap, moS_ap, Nat.reduceEqDiff, if_true, if_false, reduceIte]
                  refine gk_iload_n C dX5_middle_52 rfl ?_
                  refine gk_iconst C dX5_middle_53 ?_
                  refine gk_isub C dX5_middle_54 ?_
                  refine mo_iald C I (by rfl) dX5_middle_55 (by omega) (by omega) ?_
                  try simp only [moS3_ap, moS_ap, Nat.reduceEqDiff, if_true, if_false, reduceIte]
                  refine mo_iast C I (by rfl) dX5_middle_56 (by omega) (by omega) ?_
                  refine gk_iinc_3 C rfl (by decide) dX5_middle_57 ?_
                  refine gk_goto C (tgt := 23) dX5_middle_60 (by decide) ?_
                  rw [moS_moS]
                  obtain ⟨j0, rfl⟩ : ∃ j0 : Nat, j = j0 + 1 := ⟨j - 1, by omega⟩
                  rw [show (((j0 + 1 : Nat) : Int) + -1) = (j0 : Int) by omega, show (((j0 + 1 : Nat) : Int) - 1) = (j0 : Int) by omega]
                  refine ih2 j0 _ (by omega) (by omega) (fun i => ?_) ?_
                  · by_cases e : i = ((j0 + 1 : Nat) : Int)
                    · rw [e, gupd_eq]; exact bg _
                    · rw [gupd_ne e]; exact bg i
                  · rw [← he]
                    rw [show (((j0 + 1 : Nat) : Int) - 1) = (j0 : Int) by omega] at c_40
                    show _ = if mPit s k < g j0 then pins (mPit s k) j0 (gupd g ((j0 : Int) + 1) (g j0)) else _
                    rw [if_pos (by omega)]
                    rfl
          exact key2 (c + 1) c f (by omega) (by omega) bm.2.2 rfl
  have h9 := key 9 0 none (by omega) (by omega)
  rw [show (mMid s 0).2 = s 28 from rfl, moS_self] at h9
  exact h9

set_option maxRecDepth 100000 in
set_option maxHeartbeats 4000000 in
theorem m_ofPiper {l : Launch} {Γ : GA} (hfl : l.stackTraces = false) {ad : Nat → Nat} (I : IM ad) {s : MS} (V : VM s) {p w : Int} (hp : -2147483648 ≤ p ∧ p ≤ 2147483647)(hw : -2147483648 ≤ w ∧ w ≤ 2147483647) : Ct l Γ m_X5_ofPiper [.ref (ad 40), iv p, iv w] (HM ad s) (fun v h' => ∃ (r c : Int) (s2 : MS), v = some (iv r) ∧ h' = HM ad s2 ∧ MOfPiper s p w r c ∧ mSame s s2 ∧ VM s2 ∧ s2 39 0 = c) (fun _ _ => False) := by
  have b0 := V.at 17 0 rfl
  have V0 := VM_th V 0 (by omega)
  have hS := (mSame.of (s := s)).set (j := 39) (f := fun _ => 0) rfl
  have bpl := mMid_bd V (s 17 0).toNat
  have eM : mMid (moS s 39 (fun _ => 0)) (s 17 0).toNat = mMid s (s 17 0).toNat := mMid_congr (s := s) (s2 := moS s 39 (fun _ => 0)) rfl rfl (fun _ => rfl) _
  have e17 : moS s 39 (fun _ => 0) 17 = s 17 := rfl
  have eL : mPlg (moS s 39 (fun _ => 0)) (s 17 0).toNat = mPlg s (s 17 0).toNat := rfl
  refine Ct.intro hfl (by decide +kernel) rfl (Nat.le_of_ble_eq_true rfl) ?_
  intro G C R T
  show G 0 [some (.ref (ad 40)), some (iv p), some (iv w)] [] (HM ad s) 0 0
  refine gk_aload_n C dX5_ofPiper_0 rfl ?_
  refine gk_aload_n C dX5_ofPiper_1 rfl ?_
  refine gk_iload_n C dX5_ofPiper_2 rfl ?_
  refine gk_callV C o_X5_isPiper k_X5_171 dX5_ofPiper_3 (m_isPiper hfl I V hp) (mo_obj I) rfl rfl rfl (by decide) (by decide) (by exact Nat.le_of_ble_eq_true rfl) (fun _ _ z => z.elim) (fun v_3 h_3 p_3 => ?_)
  obtain ⟨r_3, rfl, rb_3, rc_3, rfl⟩ := p_3
  dsimp only [gk_push]
  refine gk_if_ne C (tgt := 13) (by omega) dX5_ofPiper_6 (by decide) (fun c_6 => ?_) (fun c_6 => ?_)
  · refine gk_iload_n C dX5_ofPiper_13 rfl ?_
    refine gk_iconst C dX5_ofPiper_14 ?_
    refine gk_iconst C dX5_ofPiper_15 ?_
    refine gk_callS C o_X5_isIn k_X5_114 dX5_ofPiper_16 (m_X5_isIn_c hfl hw (by omega) (by omega)) rfl rfl (by decide) (by decide) (by exact Nat.le_of_ble_eq_true rfl) (fun _ _ z => z.elim) (fun v_16 h_16 p_16 => ?_)
    obtain ⟨r_16, rfl, rb_16, rc_16, rfl⟩ := p_16
    dsimp only [gk_push]
    refine gk_if_ne C (tgt := 26) (by omega) dX5_ofPiper_19 (by decide) (fun c_19 => ?_) (fun c_19 => ?_)
    · refine gk_iconst C dX5_ofPiper_26 ?_
      refine mo_putf C I f_X5_107 (by decide) dX5_ofPiper_27 ?_
      refine gk_aload_n C dX5_ofPiper_30 rfl ?_
      refine mo_getf C I f_X5_107.r dX5_ofPiper_31 (by rfl) ?_
      try simp only [moS3_ap, moS_ap, Nat.reduceEqDiff, if_true, if_false, reduceIte]
      refine gk_if_le C (tgt := 39) (by omega) dX5_ofPiper_34 (by decide) (fun c_34 => ?_) (fun c_34 => ?_)
      · refine gk_iload_n C dX5_ofPiper_39 rfl ?_
        rcases (show (w < 0 ∨ 4 < w) ∨ w = 0 ∨ w = 1 ∨ w = 2 ∨ w = 3 ∨ w = 4 from by omega) with c_40 | c_40 | c_40 | c_40 | c_40 | c_40
        · refine gk_tableOut C (tgt := 110) (by omega) dX5_ofPiper_40 c_40 (by decide) ?_
          refine gk_aload_n C dX5_ofPiper_110 rfl ?_
          refine gk_callV C o_X5_playing k_X5_193 dX5_ofPiper_111 (m_playing hfl I V0) (mo_obj I) rfl rfl rfl (by decide) (by decide) (by exact Nat.le_of_ble_eq_true rfl) (fun _ _ z => z.elim) (fun v_111 h_111 p_111 => ?_)
          obtain ⟨rfl, rfl⟩ := p_111
          dsimp only [gk_push]
          rw [e17, eL]
          refine gk_if_ne C (tgt := 121) (by omega) dX5_ofPiper_114 (by decide) (fun c_114 => ?_) (fun c_114 => ?_)
          · refine gk_aload_n C dX5_ofPiper_121 rfl ?_
            refine gk_callV C o_X5_middle k_X5_196 dX5_ofPiper_122 (m_middle hfl I V0 (by rw [e17, eL]; omega)) (mo_obj I) rfl rfl rfl (by decide) (by decide) (by exact Nat.le_of_ble_eq_true rfl) (fun _ _ z => z.elim) (fun v_122 h_122 p_122 => ?_)
            obtain ⟨rfl, rfl⟩ := p_122
            dsimp only [gk_push]
            rw [e17, eM]
            have VMd : VM (moS (moS s 39 (fun _ => 0)) 28 (mMid s (s 17 0).toNat).2) := V0.set rfl bpl.2.2
            refine gk_aload_n C dX5_ofPiper_125 rfl ?_
            refine gk_iload_n C dX5_ofPiper_126 rfl ?_
            refine gk_callV C o_X5_pitch k_X5_176 dX5_ofPiper_127 (m_pitch hfl I VMd (i := p) (by omega)) (mo_obj I) rfl rfl rfl (by decide) (by decide) (by exact Nat.le_of_ble_eq_true rfl) (fun _ _ z => z.elim) (fun v_127 h_127 p_127 => ?_)
            obtain ⟨rfl, rfl⟩ := p_127
            dsimp only [gk_push]
            refine gk_isub C dX5_ofPiper_130 ?_
            refine (R _ _ _ _ _ (by decide) (by decide)).1 _ rfl dX5_ofPiper_131 ?_
            first
              | (refine ⟨_, 0, _, rfl, rfl, Or.inr (Or.inr ⟨by omega, by omega, rfl, ?_⟩), hS, V0, rfl⟩
                 (repeat' split) <;> first | rfl | omega)
              | (refine ⟨_, 0, _, rfl, rfl, Or.inr (Or.inr ⟨by omega, by omega, rfl, ?_⟩), hS.set (j := 28) rfl, VMd, rfl⟩
                 (repeat' split) <;> first | rfl | omega)
          · refine gk_iconst C dX5_ofPiper_117 ?_
            refine gk_goto C (tgt := 131) dX5_ofPiper_118 (by decide) ?_
            refine (R _ _ _ _ _ (by decide) (by decide)).1 _ rfl dX5_ofPiper_131 ?_
            first
              | (refine ⟨_, 0, _, rfl, rfl, Or.inr (Or.inr ⟨by omega, by omega, rfl, ?_⟩), hS, V0, rfl⟩
                 (repeat' split) <;> first | rfl | omega)
              | (refine ⟨_, 0, _, rfl, rfl, Or.inr (Or.inr ⟨by omega, by omega, rfl, ?_⟩), hS.set (j := 28) rfl, VMd, rfl⟩
                 (repeat' split) <;> first | rfl | omega)
        · refine gk_tableIn C (tgt := 76) (by omega) dX5_ofPiper_40 (by omega) (by omega) (by rw [c_40]; rfl) (by decide) ?_
          refine gk_aload_n C dX5_ofPiper_76 rfl ?_
          refine gk_iload_n C dX5_ofPiper_77 rfl ?_
          refine gk_callV C o_X5_pitch k_X5_176 dX5_ofPiper_78 (m_pitch hfl I V0 (i := p) (by omega)) (mo_obj I) rfl rfl rfl (by decide) (by decide) (by exact Nat.le_of_ble_eq_true rfl) (fun _ _ z => z.elim) (fun v_78 h_78 p_78 => ?_)
          obtain ⟨rfl, rfl⟩ := p_78
          dsimp only [gk_push]
          refine (R _ _ _ _ _ (by decide) (by decide)).1 _ rfl dX5_ofPiper_81 ?_
          refine ⟨_, 0, _, rfl, rfl, Or.inr (Or.inr ⟨by omega, by omega, rfl, ?_⟩), hS, V0, rfl⟩
          (repeat' split) <;> first | rfl | omega
        · refine gk_tableIn C (tgt := 82) (by omega) dX5_ofPiper_40 (by omega) (by omega) (by rw [c_40]; rfl) (by decide) ?_
          refine gk_aload_n C dX5_ofPiper_82 rfl ?_
          refine mo_getf C I f_X5_53.r dX5_ofPiper_83 (by rfl) ?_
          try simp only [moS3_ap, moS_ap, Nat.reduceEqDiff, if_true, if_false, reduceIte]
          refine gk_iload_n C dX5_ofPiper_86 rfl ?_
          refine mo_iald C I (by rfl) dX5_ofPiper_87 (by omega) (by omega) ?_
          try simp only [moS3_ap, moS_ap, Nat.reduceEqDiff, if_true, if_false, reduceIte]
          refine (R _ _ _ _ _ (by decide) (by decide)).1 _ rfl dX5_ofPiper_88 ?_
          refine ⟨_, 0, _, rfl, rfl, Or.inr (Or.inr ⟨by omega, by omega, rfl, ?_⟩), hS, V0, rfl⟩
          (repeat' split) <;> first | rfl | omega
        · refine gk_tableIn C (tgt := 89) (by omega) dX5_ofPiper_40 (by omega) (by omega) (by rw [c_40]; rfl) (by decide) ?_
          refine gk_aload_n C dX5_ofPiper_89 rfl ?_
          refine mo_getf C I f_X5_62.r dX5_ofPiper_90 (by rfl) ?_
          try simp only [moS3_ap, moS_ap, Nat.reduceEqDiff, if_true, if_false, reduceIte]
          refine gk_iload_n C dX5_ofPiper_93 rfl ?_
          refine mo_iald C I (by rfl) dX5_ofPiper_94 (by omega) (by omega) ?_
          try simp only [moS3_ap, moS_ap, Nat.reduceEqDiff, if_true, if_false, reduceIte]
          refine (R _ _ _ _ _ (by decide) (by decide)).1 _ rfl dX5_ofPiper_95 ?_
          refine ⟨_, 0, _, rfl, rfl, Or.inr (Or.inr ⟨by omega, by omega, rfl, ?_⟩), hS, V0, rfl⟩
          (repeat' split) <;> first | rfl | omega
        · refine gk_tableIn C (tgt := 96) (by omega) dX5_ofPiper_40 (by omega) (by omega) (by rw [c_40]; rfl) (by decide) ?_
          refine gk_aload_n C dX5_ofPiper_96 rfl ?_
          refine mo_getf C I f_X5_65.r dX5_ofPiper_97 (by rfl) ?_
          try simp only [moS3_ap, moS_ap, Nat.reduceEqDiff, if_true, if_false, reduceIte]
          refine gk_iload_n C dX5_ofPiper_100 rfl ?_
          refine mo_iald C I (by rfl) dX5_ofPiper_101 (by omega) (by omega) ?_
          try simp only [moS3_ap, moS_ap, Nat.reduceEqDiff, if_true, if_false, reduceIte]
          refine (R _ _ _ _ _ (by decide) (by decide)).1 _ rfl dX5_ofPiper_102 ?_
          refine ⟨_, 0, _, rfl, rfl, Or.inr (Or.inr ⟨by omega, by omega, rfl, ?_⟩), hS, V0, rfl⟩
          (repeat' split) <;> first | rfl | omega
        · refine gk_tableIn C (tgt := 103) (by omega) dX5_ofPiper_40 (by omega) (by omega) (by rw [c_40]; rfl) (by decide) ?_
          refine gk_aload_n C dX5_ofPiper_103 rfl ?_
          refine mo_getf C I f_X5_68.r dX5_ofPiper_104 (by rfl) ?_
          try simp only [moS3_ap, moS_ap, Nat.reduceEqDiff, if_true, if_false, reduceIte]
          refine gk_iload_n C dX5_ofPiper_107 rfl ?_
          refine mo_iald C I (by rfl) dX5_ofPiper_108 (by omega) (by omega) ?_
          try simp only [moS3_ap, moS_ap, Nat.reduceEqDiff, if_true, if_false, reduceIte]
          refine (R _ _ _ _ _ (by decide) (by decide)).1 _ rfl dX5_ofPiper_109 ?_
          refine ⟨_, 0, _, rfl, rfl, Or.inr (Or.inr ⟨by omega, by omega, rfl, ?_⟩), hS, V0, rfl⟩
          (repeat' split) <;> first | rfl | omega
      · exact absurd c_34 (by omega)
    · refine gk_iconst C dX5_ofPiper_22 ?_
      refine gk_goto C (tgt := 27) dX5_ofPiper_23 (by decide) ?_
      refine mo_putf C I f_X5_107 (by decide) dX5_ofPiper_27 ?_
      refine gk_aload_n C dX5_ofPiper_30 rfl ?_
      refine mo_getf C I f_X5_107.r dX5_ofPiper_31 (by rfl) ?_
      try simp only [moS3_ap, moS_ap, Nat.reduceEqDiff, if_true, if_false, reduceIte]
      refine gk_if_le C (tgt := 39) (by omega) dX5_ofPiper_34 (by decide) (fun c_34 => ?_) (fun c_34 => ?_)
      · exact absurd c_34 (by omega)
      · refine gk_iconst C dX5_ofPiper_37 ?_
        refine (R _ _ _ _ _ (by decide) (by decide)).1 _ rfl dX5_ofPiper_38 ?_
        first | exact ⟨_, _, _, rfl, rfl, Or.inl ⟨by omega, rfl, rfl⟩, (mSame.of.set (j := 39) rfl), (VM_th V 1 (by omega)), rfl⟩ | exact ⟨_, _, _, rfl, rfl, Or.inr (Or.inl ⟨by omega, by omega, rfl, rfl⟩), (mSame.of.set (j := 39) rfl), (VM_th V 2 (by omega)), rfl⟩
  · refine gk_iconst C dX5_ofPiper_9 ?_
    refine gk_goto C (tgt := 27) dX5_ofPiper_10 (by decide) ?_
    refine mo_putf C I f_X5_107 (by decide) dX5_ofPiper_27 ?_
    refine gk_aload_n C dX5_ofPiper_30 rfl ?_
    refine mo_getf C I f_X5_107.r dX5_ofPiper_31 (by rfl) ?_
    try simp only [moS3_ap, moS_ap, Nat.reduceEqDiff, if_true, if_false, reduceIte]
    refine gk_if_le C (tgt := 39) (by omega) dX5_ofPiper_34 (by decide) (fun c_34 => ?_) (fun c_34 => ?_)
    · exact absurd c_34 (by omega)
    · refine gk_iconst C dX5_ofPiper_37 ?_
      refine (R _ _ _ _ _ (by decide) (by decide)).1 _ rfl dX5_ofPiper_38 ?_
      first | exact ⟨_, _, _, rfl, rfl, Or.inl ⟨by omega, rfl, rfl⟩, (mSame.of.set (j := 39) rfl), (VM_th V 1 (by omega)), rfl⟩ | exact ⟨_, _, _, rfl, rfl, Or.inr (Or.inl ⟨by omega, by omega, rfl, rfl⟩), (mSame.of.set (j := 39) rfl), (VM_th V 2 (by omega)), rfl⟩

set_option maxRecDepth 100000 in
set_option maxHeartbeats 4000000 in
theorem m_ahead {l : Launch} {Γ : GA} (hfl : l.stackTraces = false) {ad : Nat → Nat} (I : IM ad) {s : MS} (V : VM s) {m rain heat : Int} (hm : -2147483648 ≤ m ∧ m ≤ 2147483647)(hrain : -2147483648 ≤ rain ∧ rain ≤ 2147483647)(hheat : -2147483648 ≤ heat ∧ heat ≤ 2147483647) : Ct l Γ m_X5_ahead [.ref (ad 40), iv m, iv rain, iv heat] (HM ad s) (fun v h' => ∃ (r c : Int) (s1 s2 : MS), v = some (iv r) ∧ h' = HM ad s2 ∧ MAhead s s1 m rain heat r c ∧ mSame s s1 ∧ VM s1 ∧ mSame s s2 ∧ VM s2 ∧ s2 39 0 = c) (fun _ _ => False) := by
  have b0 := V.at 17 0 rfl
  have V0 := VM_th V 0 (by omega)
  generalize es0 : moS s 39 (fun _ => 0) = s0 at *
  have h0 : mSame s s0 := by rw [← es0]; exact mSame.of.set rfl
  have h39 : s0 39 0 = 0 := by rw [← es0]; rfl
  refine Ct.intro hfl (by decide +kernel) rfl (Nat.le_of_ble_eq_true rfl) ?_
  intro G C R T
  show G 0 [some (.ref (ad 40)), some (iv m), some (iv rain), some (iv heat), none, none] [] (HM ad s) 0 0
  refine gk_aload_n C dX5_ahead_0 rfl ?_
  refine gk_iload_n C dX5_ahead_1 rfl ?_
  refine gk_iload_n C dX5_ahead_2 rfl ?_
  refine gk_iload_n C dX5_ahead_3 rfl ?_
  refine gk_callS C o_X5_isMinute k_X5_186 dX5_ahead_4 (m_isMinute hfl hm hrain hheat) rfl rfl (by decide) (by decide) (by exact Nat.le_of_ble_eq_true rfl) (fun _ _ z => z.elim) (fun v_4 h_4 p_4 => ?_)
  obtain ⟨r_4, rfl, rb_4, rc_4, rfl⟩ := p_4
  dsimp only [gk_push]
  refine gk_if_eq C (tgt := 14) (by omega) dX5_ahead_7 (by decide) (fun c_7 => ?_) (fun c_7 => ?_)
  · refine gk_iconst C dX5_ahead_14 ?_
    refine mo_putf C I f_X5_107 (by decide) dX5_ahead_15 ?_
    refine gk_aload_n C dX5_ahead_18 rfl ?_
    refine mo_getf C I f_X5_107.r dX5_ahead_19 (by rfl) ?_
    try simp only [moS3_ap, moS_ap, Nat.reduceEqDiff, if_true, if_false, reduceIte]
    refine gk_if_le C (tgt := 27) (by omega) dX5_ahead_22 (by decide) (fun c_22 => ?_) (fun c_22 => ?_)
    · exact absurd c_22 (by omega)
    · refine gk_iconst C dX5_ahead_25 ?_
      refine (R _ _ _ _ _ (by decide) (by decide)).1 _ rfl dX5_ahead_26 ?_
      exact ⟨_, _, s, _, rfl, rfl, Or.inl ⟨fun z => by have := rc_4.mpr z; omega, rfl, rfl⟩, mSame.of, V, (mSame.of.set (j := 39) rfl), (VM_th V 1 (by omega)), rfl⟩
  · refine gk_iconst C dX5_ahead_10 ?_
    refine gk_goto C (tgt := 15) dX5_ahead_11 (by decide) ?_
    refine mo_putf C I f_X5_107 (by decide) dX5_ahead_15 ?_
    refine gk_aload_n C dX5_ahead_18 rfl ?_
    refine mo_getf C I f_X5_107.r dX5_ahead_19 (by rfl) ?_
    try simp only [moS3_ap, moS_ap, Nat.reduceEqDiff, if_true, if_false, reduceIte]
    refine gk_if_le C (tgt := 27) (by omega) dX5_ahead_22 (by decide) (fun c_22 => ?_) (fun c_22 => ?_)
    · rw [es0]
      have hmin := rc_4.mp (by omega)
      have hmin2 := hmin
      unfold isMin at hmin2
      obtain ⟨mm, rfl⟩ : ∃ mm : Nat, m = (mm : Int) := ⟨m.toNat, by omega⟩
      refine gk_iconst C dX5_ahead_27 ?_
      refine gk_istore_4 C rfl (by decide) dX5_ahead_28 ?_
      have key : ∀ (n k : Nat) (a b c : Int → Int) x5, s 17 0 - k < n → k ≤ s 17 0 → (∀ i : Nat, i < k → a i = s 18 i) → (∀ i : Nat, i < k → b i = s 22 i) → (∀ i : Nat, i < k → c i = s 23 i) → (∀ i, -100 ≤ a i ∧ a i ≤ 100) → (∀ i, 0 ≤ b i ∧ b i ≤ 40) → (∀ i, 0 ≤ c i ∧ c i ≤ 100) → G 30 [some (.ref (ad 40)), some (iv (mm : Int)), some (iv rain), some (iv heat), some (iv (k : Int)), x5] [] (HM ad (moS (moS (moS s0 25 a) 26 b) 27 c)) 0 0 := by
        intro n
        induction n with
        | zero => intro k a b c x5 h1; omega
        | succ n ih =>
          intro k a b c x5 hn hk ha hb hc ba bb bc
          refine gk_iload C dX5_ahead_30 rfl ?_
          refine gk_aload_n C dX5_ahead_32 rfl ?_
          refine mo_getf C I f_X5_168.r dX5_ahead_33 (by rfl) ?_
          try simp only [moS3_ap, moS_ap, Nat.reduceEqDiff, if_true, if_false, reduceIte]
          first | rw [h0 17 rfl] | skip
          refine gk_icmp_ge C (tgt := 87) (by omega) (by omega) dX5_ahead_36 (by decide) (fun c_36 => ?_) (fun c_36 => ?_)
          · have Vk : VM (moS (moS (moS s0 25 a) 26 b) 27 c) := ((V0.set (j := 25) rfl ba).set (j := 26) rfl bb).set (j := 27) rfl bc
            have hk1 : mSame s (moS (moS (moS s0 25 a) 26 b) 27 c) := ((h0.set (j := 25) rfl).set (j := 26) rfl).set (j := 27) rfl
            have g39 : moS (moS (moS s0 25 a) 26 b) 27 c 39 0 = 0 := h39
            have g25 : moS (moS (moS s0 25 a) 26 b) 27 c 25 = a := rfl
            have g26 : moS (moS (moS s0 25 a) 26 b) 27 c 26 = b := rfl
            have g27 : moS (moS (moS s0 25 a) 26 b) 27 c 27 = c := rfl
            generalize moS (moS (moS s0 25 a) 26 b) 27 c = s1 at *
            have V3 := VM_goM Vk (rain := rain) (heat := heat) (by omega) (by omega) mm
            have n3 : ∀ j, mP3 j = false → mGoM s1 rain heat mm j = s1 j := fun j hj => mGoM_ne hj mm
            have o3 : ∀ (j : Int) (r : Nat), (j < 0 ∨ s 17 0 ≤ j) → mGoM s1 rain heat mm r j = s1 r j := fun j r hj => mGoM_out (by rw [hk1 17 rfl]; omega) mm
            refine gk_aload_n C dX5_ahead_87 rfl ?_
            refine gk_iload_n C dX5_ahead_88 rfl ?_
            refine gk_iload_n C dX5_ahead_89 rfl ?_
            refine gk_iload_n C dX5_ahead_90 rfl ?_
            refine gk_callV C o_X5_goes k_X5_189 dX5_ahead_91 (m_goes hfl I Vk (m := mm) (by omega) (by omega) (by omega)) (mo_obj I) rfl rfl rfl (by decide) (by decide) (by exact Nat.le_of_ble_eq_true rfl) (fun _ _ z => z.elim) (fun v_91 h_91 p_91 => ?_)
            obtain ⟨rfl, rfl⟩ := p_91
            dsimp only [gk_push]
            obtain ⟨s3, hs3⟩ : ∃ s3 : MS, s3 = mGoM s1 rain heat mm := ⟨_, rfl⟩
            rw [← hs3] at V3 n3 o3
            rw [show HM ad (mGoM s1 rain heat mm) = HM ad s3 from by rw [hs3]]
            refine gk_istore_4 C rfl (by decide) dX5_ahead_94 ?_
            refine gk_iconst C dX5_ahead_96 ?_
            refine gk_istore_5 C rfl (by decide) dX5_ahead_97 ?_
            have key2 : ∀ (n k : Nat) (a2 b2 c2 : Int → Int), s 17 0 - k < n → k ≤ s 17 0 → (∀ i : Int, (i < k ∨ s 17 0 ≤ i) → a2 i = s 18 i) → (∀ i : Int, (i < k ∨ s 17 0 ≤ i) → b2 i = s 22 i) → (∀ i : Int, (i < k ∨ s 17 0 ≤ i) → c2 i = s 23 i) → G 99 [some (.ref (ad 40)), some (iv (mm : Int)), some (iv rain), some (iv heat), some (iv (mSpr (mGoM s1 rain heat mm) (-1))), some (iv (k : Int))] [] (HM ad (moS (moS (moS s3 18 a2) 22 b2) 23 c2)) 0 0 := by
              intro n
              induction n with
              | zero => intro k a2 b2 c2 h1; omega
              | succ n ih2 =>
                intro k2 a2 b2 c2 hn hk2 ha2 hb2 hc2
                refine gk_iload C dX5_ahead_99 rfl ?_
                refine gk_aload_n C dX5_ahead_101 rfl ?_
                refine mo_getf C I f_X5_168.r dX5_ahead_102 (by rfl) ?_
                try simp only [moS3_ap, moS_ap, Nat.reduceEqDiff, if_true, if_false, reduceIte]
                first | rw [n3 17 rfl, hk1 17 rfl] | skip
                refine gk_icmp_ge C (tgt := 156) (by omega) (by omega) dX5_ahead_105 (by decide) (fun c_105 => ?_) (fun c_105 => ?_)
                · refine gk_iload C dX5_ahead_156 rfl ?_
                  refine (R _ _ _ _ _ (by decide) (by decide)).1 _ rfl dX5_ahead_158 ?_
                  refine ⟨_, 0, s1, _, rfl, rfl, Or.inr ⟨hmin, rfl, rfl⟩, hk1, Vk, ?_, ?_, ?_⟩
                  · intro j hj
                    have e18 : a2 = s 18 := funext fun i => ha2 i (by omega)
                    have e22 : b2 = s 22 := funext fun i => hb2 i (by omega)
                    have e23 : c2 = s 23 := funext fun i => hc2 i (by omega)
                    rw [e18, e22, e23]
                    by_cases q1 : j = 23
                    · rw [q1, moS_eq]
                    · rw [moS_ne q1]
                      by_cases q2 : j = 22
                      · rw [q2, moS_eq]
                      · rw [moS_ne q2]
                        by_cases q3 : j = 18
                        · rw [q3, moS_eq]
                        · rw [moS_ne q3, n3 j (by unfold mP3; simp; omega)]
                          exact hk1 j hj
                  · have e18 : a2 = s 18 := funext fun i => ha2 i (by omega)
                    have e22 : b2 = s 22 := funext fun i => hb2 i (by omega)
                    have e23 : c2 = s 23 := funext fun i => hc2 i (by omega)
                    rw [e18, e22, e23]
                    exact ((V3.set (j := 18) rfl (fun i => V.at 18 i rfl)).set (j := 22) rfl (fun i => V.at 22 i rfl)).set (j := 23) rfl (fun i => V.at 23 i rfl)
                  · show s3 39 0 = 0
                    rw [n3 39 rfl, g39]
                · refine gk_aload_n C dX5_ahead_108 rfl ?_
                  refine mo_getf C I f_X5_53.r dX5_ahead_109 (by rfl) ?_
                  try simp only [moS3_ap, moS_ap, Nat.reduceEqDiff, if_true, if_false, reduceIte]
                  refine gk_iload C dX5_ahead_112 rfl ?_
                  refine gk_aload_n C dX5_ahead_114 rfl ?_
                  refine mo_getf C I f_X5_74.r dX5_ahead_115 (by rfl) ?_
                  try simp only [moS3_ap, moS_ap, Nat.reduceEqDiff, if_true, if_false, reduceIte]
                  refine gk_iload C dX5_ahead_118 rfl ?_
                  refine mo_iald C I (by rfl) dX5_ahead_120 (by omega) (by omega) ?_
                  try simp only [moS3_ap, moS_ap, Nat.reduceEqDiff, if_true, if_false, reduceIte]
                  refine mo_iast C I (by rfl) dX5_ahead_121 (by omega) (by omega) ?_
                  refine gk_aload_n C dX5_ahead_122 rfl ?_
                  refine mo_getf C I f_X5_65.r dX5_ahead_123 (by rfl) ?_
                  try simp only [moS3_ap, moS_ap, Nat.reduceEqDiff, if_true, if_false, reduceIte]
                  refine gk_iload C dX5_ahead_126 rfl ?_
                  refine gk_aload_n C dX5_ahead_128 rfl ?_
                  refine mo_getf C I f_X5_77.r dX5_ahead_129 (by rfl) ?_
                  try simp only [moS3_ap, moS_ap, Nat.reduceEqDiff, if_true, if_false, reduceIte]
                  refine gk_iload C dX5_ahead_132 rfl ?_
                  refine mo_iald C I (by rfl) dX5_ahead_134 (by omega) (by omega) ?_
                  try simp only [moS3_ap, moS_ap, Nat.reduceEqDiff, if_true, if_false, reduceIte]
                  refine mo_iast C I (by rfl) dX5_ahead_135 (by omega) (by omega) ?_
                  refine gk_aload_n C dX5_ahead_136 rfl ?_
                  refine mo_getf C I f_X5_68.r dX5_ahead_137 (by rfl) ?_
                  try simp only [moS3_ap, moS_ap, Nat.reduceEqDiff, if_true, if_false, reduceIte]
                  refine gk_iload C dX5_ahead_140 rfl ?_
                  refine gk_aload_n C dX5_ahead_142 rfl ?_
                  refine mo_getf C I f_X5_80.r dX5_ahead_143 (by rfl) ?_
                  try simp only [moS3_ap, moS_ap, Nat.reduceEqDiff, if_true, if_false, reduceIte]
                  refine gk_iload C dX5_ahead_146 rfl ?_
                  refine mo_iald C I (by rfl) dX5_ahead_148 (by omega) (by omega) ?_
                  try simp only [moS3_ap, moS_ap, Nat.reduceEqDiff, if_true, if_false, reduceIte]
                  refine mo_iast C I (by rfl) dX5_ahead_149 (by omega) (by omega) ?_
                  refine gk_iinc_5 C rfl (by decide) dX5_ahead_150 ?_
                  refine gk_goto C (tgt := 99) dX5_ahead_153 (by decide) ?_
                  rw [moS_z3 (by decide) (by decide) (by decide)]
                  refine ih2 (k2 + 1) _ _ _ (by omega) (by omega) (fun i hi => ?_) (fun i hi => ?_) (fun i hi => ?_)
                  · by_cases e : i = (k2 : Int)
                    · rw [e, gupd_eq, n3 25 rfl, g25, ha k2 (by omega)]
                    · rw [gupd_ne e]; exact ha2 i (by omega)
                  · by_cases e : i = (k2 : Int)
                    · rw [e, gupd_eq, n3 26 rfl, g26, hb k2 (by omega)]
                    · rw [gupd_ne e]; exact hb2 i (by omega)
                  · by_cases e : i = (k2 : Int)
                    · rw [e, gupd_eq, n3 27 rfl, g27, hc k2 (by omega)]
                    · rw [gupd_ne e]; exact hc2 i (by omega)
            have h9 := key2 9 0 (s3 18) (s3 22) (s3 23) (by omega) (by omega) (fun i hi => by rw [o3 i 18 (by omega), hk1 18 rfl]) (fun i hi => by rw [o3 i 22 (by omega), hk1 22 rfl]) (fun i hi => by rw [o3 i 23 (by omega), hk1 23 rfl])
            rw [moS_self, moS_self, moS_self] at h9
            exact h9
          · refine gk_aload_n C dX5_ahead_39 rfl ?_
            refine mo_getf C I f_X5_74.r dX5_ahead_40 (by rfl) ?_
            try simp only [moS3_ap, moS_ap, Nat.reduceEqDiff, if_true, if_false, reduceIte]
            refine gk_iload C dX5_ahead_43 rfl ?_
            refine gk_aload_n C dX5_ahead_45 rfl ?_
            refine mo_getf C I f_X5_53.r dX5_ahead_46 (by rfl) ?_
            try simp only [moS3_ap, moS_ap, Nat.reduceEqDiff, if_true, if_false, reduceIte]
            refine gk_iload C dX5_ahead_49 rfl ?_
            refine mo_iald C I (by rfl) dX5_ahead_51 (by omega) (by omega) ?_
            try simp only [moS3_ap, moS_ap, Nat.reduceEqDiff, if_true, if_false, reduceIte]
            refine mo_iast C I (by rfl) dX5_ahead_52 (by omega) (by omega) ?_
            refine gk_aload_n C dX5_ahead_53 rfl ?_
            refine mo_getf C I f_X5_77.r dX5_ahead_54 (by rfl) ?_
            try simp only [moS3_ap, moS_ap, Nat.reduceEqDiff, if_true, if_false, reduceIte]
            refine gk_iload C dX5_ahead_57 rfl ?_
            refine gk_aload_n C dX5_ahead_59 rfl ?_
            refine mo_getf C I f_X5_65.r dX5_ahead_60 (by rfl) ?_
            try simp only [moS3_ap, moS_ap, Nat.reduceEqDiff, if_true, if_false, reduceIte]
            refine gk_iload C dX5_ahead_63 rfl ?_
            refine mo_iald C I (by rfl) dX5_ahead_65 (by omega) (by omega) ?_
            try simp only [moS3_ap, moS_ap, Nat.reduceEqDiff, if_true, if_false, reduceIte]
            refine mo_iast C I (by rfl) dX5_ahead_66 (by omega) (by omega) ?_
            refine gk_aload_n C dX5_ahead_67 rfl ?_
            refine mo_getf C I f_X5_80.r dX5_ahead_68 (by rfl) ?_
            try simp only [moS3_ap, moS_ap, Nat.reduceEqDiff, if_true, if_false, reduceIte]
            refine gk_iload C dX5_ahead_71 rfl ?_
            refine gk_aload_n C dX5_ahead_73 rfl ?_
            refine mo_getf C I f_X5_68.r dX5_ahead_74 (by rfl) ?_
            try simp only [moS3_ap, moS_ap, Nat.reduceEqDiff, if_true, if_false, reduceIte]
            refine gk_iload C dX5_ahead_77 rfl ?_
            refine mo_iald C I (by rfl) dX5_ahead_79 (by omega) (by omega) ?_
            try simp only [moS3_ap, moS_ap, Nat.reduceEqDiff, if_true, if_false, reduceIte]
            refine mo_iast C I (by rfl) dX5_ahead_80 (by omega) (by omega) ?_
            refine gk_iinc_4 C rfl (by decide) dX5_ahead_81 ?_
            refine gk_goto C (tgt := 30) dX5_ahead_84 (by decide) ?_
            rw [moS_z3 (by decide) (by decide) (by decide)]
            refine ih (k + 1) _ _ _ _ (by omega) (by omega) (fun i hi => by
                by_cases e : i = k
                · rw [e, gupd_eq]; rw [h0 18 rfl]
                · rw [gupd_ne (by omega)]; exact ha i (by omega)) (fun i hi => by
                by_cases e : i = k
                · rw [e, gupd_eq]; rw [h0 22 rfl]
                · rw [gupd_ne (by omega)]; exact hb i (by omega)) (fun i hi => by
                by_cases e : i = k
                · rw [e, gupd_eq]; rw [h0 23 rfl]
                · rw [gupd_ne (by omega)]; exact hc i (by omega)) (fun i => by
                by_cases e : i = (k : Int)
                · rw [e, gupd_eq]; exact V0.at 18 _ rfl
                · rw [gupd_ne e]; exact ba i) (fun i => by
                by_cases e : i = (k : Int)
                · rw [e, gupd_eq]; exact V0.at 22 _ rfl
                · rw [gupd_ne e]; exact bb i) (fun i => by
                by_cases e : i = (k : Int)
                · rw [e, gupd_eq]; exact V0.at 23 _ rfl
                · rw [gupd_ne e]; exact bc i)
      have h9 := key 9 0 (s0 25) (s0 26) (s0 27) none (by omega) (by omega) (fun i hi => absurd hi (Nat.not_lt_zero i)) (fun i hi => absurd hi (Nat.not_lt_zero i)) (fun i hi => absurd hi (Nat.not_lt_zero i)) (fun i => V0.at 25 i rfl) (fun i => V0.at 26 i rfl) (fun i => V0.at 27 i rfl)
      rw [moS_self, moS_self, moS_self] at h9
      exact h9
    · exact absurd c_22 (by omega)
