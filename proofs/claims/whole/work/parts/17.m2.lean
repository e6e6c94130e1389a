/-! the reference: what is played -/
theorem moS3_0 {s : MS} : moS s 9 (fun _ => 0) = moS3 s (0, s 10, s 11) := by
  funext k
  rw [moS3_ap, moS_ap]
  by_cases c : k = 9
  · subst c; rfl
  · rw [if_neg c]
    by_cases c2 : k = 11
    · subst c2; rfl
    · rw [if_neg c2]
      by_cases c3 : k = 10
      · subst c3; rfl
      · rw [if_neg c3]
theorem moS3_3 {s : MS} {q : Int × (Int → Int) × (Int → Int)} {f g : Int → Int} {c : Int} : moS (moS (moS (moS3 s q) 10 f) 11 g) 9 (fun _ => c) = moS3 s (c, f, g) := by
  funext k
  rw [moS3_ap, moS_ap, moS_ap, moS_ap, moS3_ap]
  by_cases c9 : k = 9
  · subst c9; rfl
  · rw [if_neg c9]
    by_cases c2 : k = 11
    · subst c2; rfl
    · rw [if_neg c2, if_neg c2]
      by_cases c3 : k = 10
      · subst c3; rfl
      · rw [if_neg c3, if_neg c3, if_neg c2, if_neg c3, if_neg c9, if_neg c9]
def mapp (f : Int → Int) (c b n : Int) : Int → Int := fun i => if c ≤ i ∧ i < c + n then b + (i - c) else f i
def mcon (f : Int → Int) (c k n : Int) : Int → Int := fun i => if c ≤ i ∧ i < c + n then k else f i
theorem mapp_0 {f : Int → Int} {c b : Int} : mapp f c b 0 = f := by
  funext i
  unfold mapp
  rw [if_neg (by omega)]
theorem mcon_0 {f : Int → Int} {c b : Int} : mcon f c b 0 = f := by
  funext i
  unfold mcon
  rw [if_neg (by omega)]
theorem mapp_s {f : Int → Int} {c b n : Int} (hn : 0 ≤ n) : gupd (mapp f c b n) (c + n) (b + n) = mapp f c b (n + 1) := by
  funext i
  by_cases e : i = c + n
  · rw [e, gupd_eq]
    unfold mapp
    rw [if_pos (by omega)]
    omega
  · rw [gupd_ne e]
    unfold mapp
    by_cases e2 : c ≤ i ∧ i < c + n
    · rw [if_pos e2, if_pos (by omega)]
    · rw [if_neg e2, if_neg (by omega)]
theorem mcon_s {f : Int → Int} {c k n : Int} (hn : 0 ≤ n) : gupd (mcon f c k n) (c + n) k = mcon f c k (n + 1) := by
  funext i
  by_cases e : i = c + n
  · rw [e, gupd_eq]
    unfold mcon
    rw [if_pos (by omega)]
  · rw [gupd_ne e]
    unfold mcon
    by_cases e2 : c ≤ i ∧ i < c + n
    · rw [if_pos e2, if_pos (by omega)]
    · rw [if_neg e2, if_neg (by omega)]
/-- n more are played: from b on, of part k -/
def pst (q : Int × (Int → Int) × (Int → Int)) (b k n : Int) : Int × (Int → Int) × (Int → Int) := (q.1 + n, mapp q.2.1 q.1 b n, mcon q.2.2 q.1 k n)
theorem pst_0 {q : Int × (Int → Int) × (Int → Int)} {b k : Int} : pst q b k 0 = q := by
  unfold pst
  rw [mapp_0, mcon_0, Int.add_zero]
theorem pst_s {q : Int × (Int → Int) × (Int → Int)} {b k : Int} {j : Nat} : pst q b k ((j + 1 : Nat) : Int) = ((pst q b k j).1 + 1, gupd (pst q b k j).2.1 (pst q b k j).1 (b + j), gupd (pst q b k j).2.2 (pst q b k j).1 k) := by
  show (q.1 + ((j + 1 : Nat) : Int), mapp q.2.1 q.1 b ((j + 1 : Nat) : Int), mcon q.2.2 q.1 k ((j + 1 : Nat) : Int)) = (q.1 + j + 1, gupd (mapp q.2.1 q.1 b j) (q.1 + j) (b + j), gupd (mcon q.2.2 q.1 k j) (q.1 + j) k)
  rw [mapp_s (by omega), mcon_s (by omega), Int.natCast_succ, Int.add_assoc]
def prep (q : Int × (Int → Int) × (Int → Int)) (b k n : Int) : Nat → Int × (Int → Int) × (Int → Int)
  | 0 => q
  | i + 1 => pst (prep q b k n i) b k n
theorem prep_1 {q : Int × (Int → Int) × (Int → Int)} {b k n : Int} : ∀ i : Nat, (prep q b k n i).1 = q.1 + i * n
  | 0 => by show q.1 = _; rw [Int.natCast_zero, Int.zero_mul, Int.add_zero]
  | i + 1 => by
    show (prep q b k n i).1 + n = _
    rw [prep_1 i, Int.natCast_succ, Int.add_mul, Int.one_mul]
    omega
def mFk (s : MS) (t k : Int) : Int := if k = 0 then 0 else s 7 (8 * t + k - 1)
def mTw (s : MS) (t k : Int) : Nat := if s 8 (8 * t + k) = 0 then 1 else 2
def mPl (s : MS) (t : Int) : Nat → Int × (Int → Int) × (Int → Int)
  | 0 => (0, s 10, s 11)
  | k + 1 => prep (mPl s t k) (64 * t + mFk s t k) k (s 7 (8 * t + k) - mFk s t k) (mTw s t k)
/-- the parts' ends rise -/
def VPt (s : MS) (t : Int) : Prop := ∀ k : Int, 0 ≤ k → k < s 3 t → mFk s t k ≤ s 7 (8 * t + k)
theorem mPl_bd {s : MS} {t : Int} (V : VM s) (VP : VPt s t) : ∀ k : Nat, k ≤ s 3 t → 0 ≤ (mPl s t k).1 ∧ (mPl s t k).1 ≤ 2 * mFk s t k
  | 0, _ => by
    show (0 : Int) ≤ 0 ∧ (0 : Int) ≤ 2 * mFk s t 0
    exact ⟨Int.le_refl _, by unfold mFk; rw [if_pos rfl]; omega⟩
  | k + 1, h => by
    have ih := mPl_bd V VP k (by omega)
    have h1 := VP k (by omega) (by omega)
    show 0 ≤ (prep (mPl s t k) (64 * t + mFk s t k) k (s 7 (8 * t + k) - mFk s t k) (mTw s t k)).1 ∧ (prep (mPl s t k) (64 * t + mFk s t k) k (s 7 (8 * t + k) - mFk s t k) (mTw s t k)).1 ≤ _
    rw [prep_1]
    have h2 : mFk s t ((k + 1 : Nat) : Int) = s 7 (8 * t + k) := by
      unfold mFk
      rw [if_neg (by omega)]
      congr 1
      omega
    rw [h2]
    have h3 : mTw s t k = 1 ∨ mTw s t k = 2 := by unfold mTw; split <;> simp
    rcases h3 with e | e <;> rw [e] <;> omega
noncomputable def mPlay (s : MS) (t : Int) : MS := moS3 s (mPl s t (s 3 t).toNat)

set_option maxRecDepth 100000 in
set_option maxHeartbeats 4000000 in
theorem m_plays {l : Launch} {Γ : GA} (hfl : l.stackTraces = false) {ad : Nat → Nat} (I : IM ad) {s : MS} (V : VM s) {t : Int} (ht : 0 ≤ t ∧ t < 10) (VP : VPt s t) : Ct l Γ m_X5_plays [.ref (ad 40), iv t] (HM ad s) (fun v h' => v = none ∧ h' = HM ad (mPlay s t)) (fun _ _ => False) := by
  have b3 := V.at 3 t rfl
  refine Ct.intro hfl (by decide +kernel) rfl (Nat.le_of_ble_eq_true rfl) ?_
  intro G C R T
  show G 0 [some (.ref (ad 40)), some (iv t), none, none, none, none, none] [] (HM ad s) 0 0
  refine gk_aload_n C dX5_plays_0 rfl ?_
  refine gk_iconst C dX5_plays_1 ?_
  refine mo_putf C I f_X5_138 (by decide) dX5_plays_2 ?_
  rw [moS3_0]
  refine gk_iconst C dX5_plays_5 ?_
  refine gk_istore_n_2 C rfl (by decide) dX5_plays_6 ?_
  have key : ∀ (n k : Nat), (s 3 t) - k < n → k ≤ s 3 t → ∀ x3 x4 x5 x6, G 7 [some (.ref (ad 40)), some (iv t), some (iv (k : Int)), x3, x4, x5, x6] [] (HM ad (moS3 s (mPl s t k))) 0 0 := by
    intro n
    induction n with
    | zero => intro k h1; omega
    | succ n ih =>
      intro k hn hk x3 x4 x5 x6
      have hb := mPl_bd V VP k hk
      have hbf : 0 ≤ mFk s t k ∧ mFk s t k ≤ 64 := by
        have h7 := V.at 7 (8 * t + k - 1) rfl
        unfold mFk
        split <;> omega
      refine gk_iload_n C dX5_plays_7 rfl ?_
      refine gk_aload_n C dX5_plays_8 rfl ?_
      refine mo_getf C I f_X5_16.r dX5_plays_9 (by rfl) ?_
      try simp only [moS3_ap, moS_ap, Nat.reduceEqDiff, if_true, if_false, reduceIte]
      refine gk_iload_n C dX5_plays_12 rfl ?_
      refine mo_iald C I (by rfl) dX5_plays_13 (by omega) (by omega) ?_
      try simp only [moS3_ap, moS_ap, Nat.reduceEqDiff, if_true, if_false, reduceIte]
      refine gk_icmp_ge C (tgt := 143) (by omega) (by omega) dX5_plays_14 (by decide) (fun c_14 => ?_) (fun c_14 => ?_)
      · refine (R _ _ _ _ _ (by decide) (by decide)).2.2.1 rfl dX5_plays_143 ?_
        have e : k = (s 3 t).toNat := by omega
        rw [e]
        exact ⟨rfl, rfl⟩
      · have hVP := VP k (by omega) (by omega)
        have h7 := V.at 7 (8 * t + k) rfl
        have h8 := V.at 8 (8 * t + k) rfl
        have k60 : ∀ (tm : Nat), tm = mTw s t k → ∀ x5 x6, G 60 [some (.ref (ad 40)), some (iv t), some (iv (k : Int)), some (iv (mFk s t k)), some (iv (tm : Int)), x5, x6] [] (HM ad (moS3 s (mPl s t k))) 0 0 := by
          intro tm htm x5 x6
          have htm2 : tm = 1 ∨ tm = 2 := by rw [htm]; unfold mTw; split <;> simp
          refine gk_iconst C dX5_plays_60 ?_
          refine gk_istore_5 C rfl (by decide) dX5_plays_61 ?_
          have key2 : ∀ (n i : Nat), tm - i < n → i ≤ tm → ∀ x6, G 63 [some (.ref (ad 40)), some (iv t), some (iv (k : Int)), some (iv (mFk s t k)), some (iv (tm : Int)), some (iv (i : Int)), x6] [] (HM ad (moS3 s (prep (mPl s t k) (64 * t + mFk s t k) k (s 7 (8 * t + k) - mFk s t k) i))) 0 0 := by
            intro n
            induction n with
            | zero => intro i h1; omega
            | succ n ih2 =>
              intro i hn hi x6
              have hp := prep_1 (q := mPl s t k) (b := 64 * t + mFk s t k) (k := k) (n := s 7 (8 * t + k) - mFk s t k) i
              refine gk_iload C dX5_plays_63 rfl ?_
              refine gk_iload C dX5_plays_65 rfl ?_
              refine gk_icmp_ge C (tgt := 137) (by omega) (by omega) dX5_plays_67 (by decide) (fun c_67 => ?_) (fun c_67 => ?_)
              · refine gk_iinc_2 C rfl (by decide) dX5_plays_137 ?_
                refine gk_goto C (tgt := 7) dX5_plays_140 (by decide) ?_
                have e5 : i = tm := by omega
                subst e5
                have h9 := ih (k + 1) (by omega) (by omega) (some (iv (mFk s t k))) (some (iv (i : Int))) (some (iv (i : Int))) x6
                rw [show mPl s t (k + 1) = prep (mPl s t k) (64 * t + mFk s t k) k (s 7 (8 * t + k) - mFk s t k) (mTw s t k) from rfl, ← htm] at h9
                exact h9
              · refine gk_iload_n C dX5_plays_70 rfl ?_
                refine gk_istore_6 C rfl (by decide) dX5_plays_71 ?_
                have key3 : ∀ (n j : Nat), (s 7 (8 * t + k) - mFk s t k) - j < n → j ≤ (s 7 (8 * t + k) - mFk s t k) → G 73 [some (.ref (ad 40)), some (iv t), some (iv (k : Int)), some (iv (mFk s t k)), some (iv (tm : Int)), some (iv (i : Int)), some (iv (mFk s t k + j))] [] (HM ad (moS3 s (pst (prep (mPl s t k) (64 * t + mFk s t k) k (s 7 (8 * t + k) - mFk s t k) i) (64 * t + mFk s t k) k j))) 0 0 := by
                  intro n
                  induction n with
                  | zero => intro j h1; omega
                  | succ n ih3 =>
                    intro j hn hj
                    have hb2 : (i : Int) * (s 7 (8 * t + k) - mFk s t k) = if i = 0 then 0 else s 7 (8 * t + k) - mFk s t k := by
                      rcases (show i = 0 ∨ i = 1 by omega) with e | e <;> subst e <;> simp
                    have hq : 0 ≤ (pst (prep (mPl s t k) (64 * t + mFk s t k) k (s 7 (8 * t + k) - mFk s t k) i) (64 * t + mFk s t k) k j).1 ∧ (j < (s 7 (8 * t + k) - mFk s t k) → (pst (prep (mPl s t k) (64 * t + mFk s t k) k (s 7 (8 * t + k) - mFk s t k) i) (64 * t + mFk s t k) k j).1 < 128) := by
                      show 0 ≤ (prep (mPl s t k) (64 * t + mFk s t k) k (s 7 (8 * t + k) - mFk s t k) i).1 + j ∧ (_ → (prep (mPl s t k) (64 * t + mFk s t k) k (s 7 (8 * t + k) - mFk s t k) i).1 + j < 128)
                      rw [hp, hb2]
                      split <;> omega
                    refine gk_iload C dX5_plays_73 rfl ?_
                    refine gk_aload_n C dX5_plays_75 rfl ?_
                    refine mo_getf C I f_X5_28.r dX5_plays_76 (by rfl) ?_
                    try simp only [moS3_ap, moS_ap, Nat.reduceEqDiff, if_true, if_false, reduceIte]
                    refine gk_bipush C dX5_plays_79 (by decide) ?_
                    refine gk_iload_n C dX5_plays_81 rfl ?_
                    refine gk_imul C dX5_plays_82 ?_
                    refine gk_iload_n C dX5_plays_83 rfl ?_
                    refine gk_iadd C dX5_plays_84 ?_
                    refine mo_iald C I (by rfl) dX5_plays_85 (by omega) (by omega) ?_
                    try simp only [moS3_ap, moS_ap, Nat.reduceEqDiff, if_true, if_false, reduceIte]
                    refine gk_icmp_ge C (tgt := 131) (by omega) (by omega) dX5_plays_86 (by decide) (fun c_86 => ?_) (fun c_86 => ?_)
                    · refine gk_iinc_5 C rfl (by decide) dX5_plays_131 ?_
                      refine gk_goto C (tgt := 63) dX5_plays_134 (by decide) ?_
                      rw [show (j : Int) = s 7 (8 * t + k) - mFk s t k by omega]
                      exact ih2 (i + 1) (by omega) (by omega) _
                    · have hq2 := hq.2 (by omega)
                      refine gk_aload_n C dX5_plays_89 rfl ?_
                      refine mo_getf C I f_X5_35.r dX5_plays_90 (by rfl) ?_
                      try simp only [moS3_ap, moS_ap, Nat.reduceEqDiff, if_true, if_false, reduceIte]
                      refine gk_aload_n C dX5_plays_93 rfl ?_
                      refine mo_getf C I f_X5_138.r dX5_plays_94 (by rfl) ?_
                      try simp only [moS3_ap, moS_ap, Nat.reduceEqDiff, if_true, if_false, reduceIte]
                      refine gk_bipush C dX5_plays_97 (by decide) ?_
                      refine gk_iload_n C dX5_plays_99 rfl ?_
                      refine gk_imul C dX5_plays_100 ?_
                      refine gk_iload C dX5_plays_101 rfl ?_
                      refine gk_iadd C dX5_plays_103 ?_
                      refine mo_iast C I (by rfl) dX5_plays_104 (by omega) (by omega) ?_
                      refine gk_aload_n C dX5_plays_105 rfl ?_
                      refine mo_getf C I f_X5_38.r dX5_plays_106 (by rfl) ?_
                      try simp only [moS3_ap, moS_ap, Nat.reduceEqDiff, if_true, if_false, reduceIte]
                      refine gk_aload_n C dX5_plays_109 rfl ?_
                      refine mo_getf C I f_X5_138.r dX5_plays_110 (by rfl) ?_
                      try simp only [moS3_ap, moS_ap, Nat.reduceEqDiff, if_true, if_false, reduceIte]
                      refine gk_iload_n C dX5_plays_113 rfl ?_
                      refine mo_iast C I (by rfl) dX5_plays_114 (by omega) (by omega) ?_
                      refine gk_aload_n C dX5_plays_115 rfl ?_
                      refine gk_dup C rfl dX5_plays_116 ?_
                      refine mo_getf C I f_X5_138.r dX5_plays_117 (by rfl) ?_
                      try simp only [moS3_ap, moS_ap, Nat.reduceEqDiff, if_true, if_false, reduceIte]
                      refine gk_iconst C dX5_plays_120 ?_
                      refine gk_iadd C dX5_plays_121 ?_
                      refine mo_putf C I f_X5_138 (by decide) dX5_plays_122 ?_
                      refine gk_iinc_6 C rfl (by decide) dX5_plays_125 ?_
                      refine gk_goto C (tgt := 73) dX5_plays_128 (by decide) ?_
                      rw [moS3_3]
                      have h9 := ih3 (j + 1) (by omega) (by omega)
                      rw [pst_s, show 64 * t + mFk s t k + (j : Int) = 64 * t + (mFk s t k + j) by omega, show mFk s t k + ((j + 1 : Nat) : Int) = mFk s t k + j + 1 by omega] at h9
                      exact h9
                have h1 := key3 65 0 (by omega) (by omega)
                rw [show (((0 : Nat) : Int)) = 0 from rfl, pst_0, Int.add_zero] at h1
                exact h1
          exact key2 (tm + 1) 0 (by omega) (by omega) _
        have k39 : G 39 [some (.ref (ad 40)), some (iv t), some (iv (k : Int)), some (iv (mFk s t k)), x4, x5, x6] [] (HM ad (moS3 s (mPl s t k))) 0 0 := by
          refine gk_aload_n C dX5_plays_39 rfl ?_
          refine mo_getf C I f_X5_31.r dX5_plays_40 (by rfl) ?_
          try simp only [moS3_ap, moS_ap, Nat.reduceEqDiff, if_true, if_false, reduceIte]
          refine gk_bipush C dX5_plays_43 (by decide) ?_
          refine gk_iload_n C dX5_plays_45 rfl ?_
          refine gk_imul C dX5_plays_46 ?_
          refine gk_iload_n C dX5_plays_47 rfl ?_
          refine gk_iadd C dX5_plays_48 ?_
          refine mo_zald C I (by rfl) dX5_plays_49 (by omega) (by omega) ?_
          try simp only [moS3_ap, moS_ap, Nat.reduceEqDiff, if_true, if_false, reduceIte]
          refine gk_if_eq C (tgt := 57) (by omega) dX5_plays_50 (by decide) (fun c_50 => ?_) (fun c_50 => ?_)
          · refine gk_iconst C dX5_plays_57 ?_
            refine gk_istore_4 C rfl (by decide) dX5_plays_58 ?_
            first | exact k60 1 (by unfold mTw; rw [if_pos (by omega)]) _ _ | exact k60 2 (by unfold mTw; rw [if_neg (by omega)]) _ _
          · refine gk_iconst C dX5_plays_53 ?_
            refine gk_goto C (tgt := 58) dX5_plays_54 (by decide) ?_
            refine gk_istore_4 C rfl (by decide) dX5_plays_58 ?_
            first | exact k60 1 (by unfold mTw; rw [if_pos (by omega)]) _ _ | exact k60 2 (by unfold mTw; rw [if_neg (by omega)]) _ _
        refine gk_iload_n C dX5_plays_17 rfl ?_
        refine gk_if_ne C (tgt := 25) (by omega) dX5_plays_18 (by decide) (fun c_18 => ?_) (fun c_18 => ?_)
        · refine gk_aload_n C dX5_plays_25 rfl ?_
          refine mo_getf C I f_X5_28.r dX5_plays_26 (by rfl) ?_
          try simp only [moS3_ap, moS_ap, Nat.reduceEqDiff, if_true, if_false, reduceIte]
          refine gk_bipush C dX5_plays_29 (by decide) ?_
          refine gk_iload_n C dX5_plays_31 rfl ?_
          refine gk_imul C dX5_plays_32 ?_
          refine gk_iload_n C dX5_plays_33 rfl ?_
          refine gk_iadd C dX5_plays_34 ?_
          refine gk_iconst C dX5_plays_35 ?_
          refine gk_isub C dX5_plays_36 ?_
          refine mo_iald C I (by rfl) dX5_plays_37 (by omega) (by omega) ?_
          try simp only [moS3_ap, moS_ap, Nat.reduceEqDiff, if_true, if_false, reduceIte]
          refine gk_istore_n_3 C rfl (by decide) dX5_plays_38 ?_
          first | (rw [show mFk s t k = 0 from by unfold mFk; rw [if_pos (by omega)]] at k39; exact k39) | (rw [show mFk s t k = s 7 (8 * t + k - 1) from by unfold mFk; rw [if_neg (by omega)]] at k39; exact k39)
        · refine gk_iconst C dX5_plays_21 ?_
          refine gk_goto C (tgt := 38) dX5_plays_22 (by decide) ?_
          refine gk_istore_n_3 C rfl (by decide) dX5_plays_38 ?_
          first | (rw [show mFk s t k = 0 from by unfold mFk; rw [if_pos (by omega)]] at k39; exact k39) | (rw [show mFk s t k = s 7 (8 * t + k - 1) from by unfold mFk; rw [if_neg (by omega)]] at k39; exact k39)
  exact key 9 0 (by omega) (by omega) none none none none
