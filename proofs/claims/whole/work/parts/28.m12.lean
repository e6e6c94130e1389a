/-! the reference: beats -/
def btF (z : Int) : UInt32 := FP.fdiv (FP.i2f (Int32.ofInt (480 * z))) (1155031040 : UInt32)
theorem btF_n0 : ∀ i : Fin 1001, btF (i.val : Int) &&& 0x7fffffff ≤ 0x7f800000 := by decide +kernel
theorem btF_n {z : Int} (h : 0 ≤ z ∧ z ≤ 1000) : vf_n32 (FP.fdiv (FP.i2f (Int32.ofInt (480 * z))) (1155031040 : UInt32)) := by
  have h1 := btF_n0 ⟨z.toNat, by omega⟩
  have e : ((⟨z.toNat, by omega⟩ : Fin 1001).val : Int) = z := by show (z.toNat : Int) = z; omega
  rw [e] at h1
  exact h1
def isAbs (a : Int) : Int := if a < 0 then -a else a
def MBeats (s : MS) (p q : Int) (v : UInt32) (s2 : MS) : Prop :=
  (¬ ((0 ≤ p ∧ p < s 17 0) ∧ (0 ≤ q ∧ q < s 17 0)) ∧ v = FP.fconst0 ∧ s2 = moS s 39 (fun _ => 1)) ∨ (((0 ≤ p ∧ p < s 17 0) ∧ (0 ≤ q ∧ q < s 17 0)) ∧ v = btF (isAbs (mPit s p - mPit s q)) ∧ s2 = moS s 39 (fun _ => 0))

set_option maxRecDepth 100000 in
set_option maxHeartbeats 4000000 in
theorem m_beats {l : Launch} {Γ : GA} (hfl : l.stackTraces = false) {ad : Nat → Nat} (I : IM ad) {s : MS} (V : VM s) {p q : Int} (hp : -2147483648 ≤ p ∧ p ≤ 2147483647)(hq : -2147483648 ≤ q ∧ q ≤ 2147483647) : Ct l Γ m_X5_beats [.ref (ad 40), iv p, iv q] (HM ad s) (fun v h' => ∃ (f : UInt32) (s2 : MS), v = some (.float f) ∧ h' = HM ad s2 ∧ MBeats s p q f s2) (fun _ _ => False) := by
  have b0 := V.at 17 0 rfl
  have V0 := VM_th V 0 (by omega)
  have bp := mPit_bd V p
  have bq := mPit_bd V q
  refine Ct.intro hfl (by decide +kernel) rfl (Nat.le_of_ble_eq_true rfl) ?_
  intro G C R T
  show G 0 [some (.ref (ad 40)), some (iv p), some (iv q), none] [] (HM ad s) 0 0
  refine gk_aload_n C dX5_beats_0 rfl ?_
  refine gk_aload_n C dX5_beats_1 rfl ?_
  refine gk_iload_n C dX5_beats_2 rfl ?_
  refine gk_callV C o_X5_isPiper k_X5_171 dX5_beats_3 (m_isPiper hfl I V hp) (mo_obj I) rfl rfl rfl (by decide) (by decide) (by exact Nat.le_of_ble_eq_true rfl) (fun _ _ z => z.elim) (fun v_3 h_3 p_3 => ?_)
  obtain ⟨r_3, rfl, rb_3, rc_3, rfl⟩ := p_3
  dsimp only [gk_push]
  refine gk_if_eq C (tgt := 21) (by omega) dX5_beats_6 (by decide) (fun c_6 => ?_) (fun c_6 => ?_)
  · refine gk_iconst C dX5_beats_21 ?_
    refine mo_putf C I f_X5_107 (by decide) dX5_beats_22 ?_
    refine gk_aload_n C dX5_beats_25 rfl ?_
    refine mo_getf C I f_X5_107.r dX5_beats_26 (by rfl) ?_
    try simp only [moS3_ap, moS_ap, Nat.reduceEqDiff, if_true, if_false, reduceIte]
    refine gk_if_le C (tgt := 34) (by omega) dX5_beats_29 (by decide) (fun c_29 => ?_) (fun c_29 => ?_)
    · exact absurd c_29 (by omega)
    · refine gk_fconst0 C dX5_beats_32 ?_
      refine (R _ _ _ _ _ (by decide) (by decide)).2.2.2.2.2 _ rfl dX5_beats_33 ?_
      exact ⟨_, _, rfl, rfl, Or.inl ⟨by omega, rfl, rfl⟩⟩
  · refine gk_aload_n C dX5_beats_9 rfl ?_
    refine gk_iload_n C dX5_beats_10 rfl ?_
    refine gk_callV C o_X5_isPiper k_X5_171 dX5_beats_11 (m_isPiper hfl I V hq) (mo_obj I) rfl rfl rfl (by decide) (by decide) (by exact Nat.le_of_ble_eq_true rfl) (fun _ _ z => z.elim) (fun v_11 h_11 p_11 => ?_)
    obtain ⟨r_11, rfl, rb_11, rc_11, rfl⟩ := p_11
    dsimp only [gk_push]
    refine gk_if_eq C (tgt := 21) (by omega) dX5_beats_14 (by decide) (fun c_14 => ?_) (fun c_14 => ?_)
    · refine gk_iconst C dX5_beats_21 ?_
      refine mo_putf C I f_X5_107 (by decide) dX5_beats_22 ?_
      refine gk_aload_n C dX5_beats_25 rfl ?_
      refine mo_getf C I f_X5_107.r dX5_beats_26 (by rfl) ?_
      try simp only [moS3_ap, moS_ap, Nat.reduceEqDiff, if_true, if_false, reduceIte]
      refine gk_if_le C (tgt := 34) (by omega) dX5_beats_29 (by decide) (fun c_29 => ?_) (fun c_29 => ?_)
      · exact absurd c_29 (by omega)
      · refine gk_fconst0 C dX5_beats_32 ?_
        refine (R _ _ _ _ _ (by decide) (by decide)).2.2.2.2.2 _ rfl dX5_beats_33 ?_
        exact ⟨_, _, rfl, rfl, Or.inl ⟨by omega, rfl, rfl⟩⟩
    · refine gk_iconst C dX5_beats_17 ?_
      refine gk_goto C (tgt := 22) dX5_beats_18 (by decide) ?_
      refine mo_putf C I f_X5_107 (by decide) dX5_beats_22 ?_
      refine gk_aload_n C dX5_beats_25 rfl ?_
      refine mo_getf C I f_X5_107.r dX5_beats_26 (by rfl) ?_
      try simp only [moS3_ap, moS_ap, Nat.reduceEqDiff, if_true, if_false, reduceIte]
      refine gk_if_le C (tgt := 34) (by omega) dX5_beats_29 (by decide) (fun c_29 => ?_) (fun c_29 => ?_)
      · refine gk_aload_n C dX5_beats_34 rfl ?_
        refine gk_iload_n C dX5_beats_35 rfl ?_
        refine gk_callV C o_X5_pitch k_X5_176 dX5_beats_36 (m_pitch hfl I V0 (i := p) (by omega)) (mo_obj I) rfl rfl rfl (by decide) (by decide) (by exact Nat.le_of_ble_eq_true rfl) (fun _ _ z => z.elim) (fun v_36 h_36 p_36 => ?_)
        obtain ⟨rfl, rfl⟩ := p_36
        dsimp only [gk_push]
        rw [show mPit (moS s 39 (fun _ => 0)) p = mPit s p from rfl]
        refine gk_aload_n C dX5_beats_39 rfl ?_
        refine gk_iload_n C dX5_beats_40 rfl ?_
        refine gk_callV C o_X5_pitch k_X5_176 dX5_beats_41 (m_pitch hfl I V0 (i := q) (by omega)) (mo_obj I) rfl rfl rfl (by decide) (by decide) (by exact Nat.le_of_ble_eq_true rfl) (fun _ _ z => z.elim) (fun v_41 h_41 p_41 => ?_)
        obtain ⟨rfl, rfl⟩ := p_41
        dsimp only [gk_push]
        rw [show mPit (moS s 39 (fun _ => 0)) q = mPit s q from rfl]
        refine gk_isub C dX5_beats_44 ?_
        refine gk_istore_n_3 C rfl (by decide) dX5_beats_45 ?_
        refine gk_sipush C dX5_beats_46 (by decide) ?_
        refine gk_iload_n C dX5_beats_49 rfl ?_
        refine gk_if_ge C (tgt := 58) (by omega) dX5_beats_50 (by decide) (fun c_50 => ?_) (fun c_50 => ?_)
        · refine gk_iload_n C dX5_beats_58 rfl ?_
          refine gk_imul C dX5_beats_59 ?_
          refine gk_i2f C dX5_beats_60 ?_
          refine gk_ldcf C cn_X5_199 dX5_beats_61 ?_
          refine gk_fdiv C dX5_beats_63 (btF_n (by omega)) ?_
          refine (R _ _ _ _ _ (by decide) (by decide)).2.2.2.2.2 _ rfl dX5_beats_64 ?_
          refine ⟨_, _, rfl, rfl, Or.inr ⟨by omega, ?_, rfl⟩⟩
          show _ = FP.fdiv (FP.i2f (Int32.ofInt (480 * isAbs (mPit s p - mPit s q)))) _
          unfold isAbs
          first | (rw [if_pos (show mPit s p - mPit s q < 0 by omega)]; done) | (rw [if_neg (show ¬ mPit s p - mPit s q < 0 by omega)]; done)
        · refine gk_iload_n C dX5_beats_53 rfl ?_
          refine gk_ineg C dX5_beats_54 ?_
          refine gk_goto C (tgt := 59) dX5_beats_55 (by decide) ?_
          refine gk_imul C dX5_beats_59 ?_
          refine gk_i2f C dX5_beats_60 ?_
          refine gk_ldcf C cn_X5_199 dX5_beats_61 ?_
          refine gk_fdiv C dX5_beats_63 (btF_n (by omega)) ?_
          refine (R _ _ _ _ _ (by decide) (by decide)).2.2.2.2.2 _ rfl dX5_beats_64 ?_
          refine ⟨_, _, rfl, rfl, Or.inr ⟨by omega, ?_, rfl⟩⟩
          show _ = FP.fdiv (FP.i2f (Int32.ofInt (480 * isAbs (mPit s p - mPit s q)))) _
          unfold isAbs
          first | (rw [if_pos (show mPit s p - mPit s q < 0 by omega)]; done) | (rw [if_neg (show ¬ mPit s p - mPit s q < 0 by omega)]; done)
      · exact absurd c_29 (by omega)
