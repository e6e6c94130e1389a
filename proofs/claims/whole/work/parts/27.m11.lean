/-! the reference: season -/
def mMost (s : MS) (g : Int) : Nat → Int
  | 0 => -1
  | k + 1 => if s 30 k = g ∧ 0 < s 31 k ∧ (mMost s g k = -1 ∨ s 31 (mMost s g k) < s 31 k) then (k : Int) else mMost s g k
def mFew (s : MS) (g : Int) : Nat → Int
  | 0 => -1
  | k + 1 => if s 30 k = g ∧ (mFew s g k = -1 ∨ s 31 k ≤ s 31 (mFew s g k)) then (k : Int) else mFew s g k
theorem mMost_bd (s : MS) (g : Int) : ∀ k : Nat, -1 ≤ mMost s g k ∧ mMost s g k < k
  | 0 => by show (-1 : Int) ≤ -1 ∧ (-1 : Int) < 0; omega
  | k + 1 => by
    have ih := mMost_bd s g k
    unfold mMost
    split <;> omega
theorem mFew_bd (s : MS) (g : Int) : ∀ k : Nat, -1 ≤ mFew s g k ∧ mFew s g k < k ∧ (mFew s g k = -1 → mOg s g k = 0)
  | 0 => ⟨Int.le_refl _, by show (-1 : Int) < 0; omega, fun _ => rfl⟩
  | k + 1 => by
    have ih := mFew_bd s g k
    have e : mOg s g (k + 1) = mOg s g k + (if s 30 k = g then 1 else 0) := rfl
    rw [e]
    unfold mFew
    by_cases c : s 30 k = g
    · rw [if_pos c]
      by_cases c2 : mFew s g k = -1 ∨ s 31 k ≤ s 31 (mFew s g k)
      · rw [if_pos ⟨c, c2⟩]
        omega
      · rw [if_neg (fun z => c2 z.2)]
        omega
    · rw [if_neg c, if_neg (fun z => c z.1)]
      omega
def mSe1 (s : MS) (g : Int) (q : (Int → Int) × Int) : (Int → Int) × Int := if 1 < g ∧ ¬ mMost s g (s 29 0).toNat = -1 then (gupd q.1 (mMost s g (s 29 0).toNat) (g - 1), q.2 + 1) else q
def mSe2 (s : MS) (g : Int) (q : (Int → Int) × Int) : (Int → Int) × Int := if g < 5 ∧ 1 < mOg s g (s 29 0).toNat then (gupd q.1 (mFew s g (s 29 0).toNat) (g + 1), q.2 + 1) else q
theorem mSe1_pos {s : MS} {g : Int} {q : (Int → Int) × Int} (h : 1 < g ∧ ¬ mMost s g (s 29 0).toNat = -1) : mSe1 s g q = (gupd q.1 (mMost s g (s 29 0).toNat) (g - 1), q.2 + 1) := if_pos h
theorem mSe1_neg {s : MS} {g : Int} {q : (Int → Int) × Int} (h : ¬ (1 < g ∧ ¬ mMost s g (s 29 0).toNat = -1)) : mSe1 s g q = q := if_neg h
theorem mSe2_pos {s : MS} {g : Int} {q : (Int → Int) × Int} (h : g < 5 ∧ 1 < mOg s g (s 29 0).toNat) : mSe2 s g q = (gupd q.1 (mFew s g (s 29 0).toNat) (g + 1), q.2 + 1) := if_pos h
theorem mSe2_neg {s : MS} {g : Int} {q : (Int → Int) × Int} (h : ¬ (g < 5 ∧ 1 < mOg s g (s 29 0).toNat)) : mSe2 s g q = q := if_neg h
def cpN (s : MS) : Nat → Int → Int
  | 0 => s 35
  | k + 1 => gupd (cpN s k) k (s 30 k)
def mSeaG (s : MS) : Nat → (Int → Int) × Int
  | 0 => (cpN s (s 29 0).toNat, 0)
  | g + 1 => mSe2 s ((g + 1 : Nat) : Int) (mSe1 s ((g + 1 : Nat) : Int) (mSeaG s g))
def grN (s : MS) (f : Int → Int) : Nat → Int → Int
  | 0 => s 30
  | k + 1 => gupd (grN s f k) k (f k)
def ptN (s : MS) : Nat → Int → Int
  | 0 => s 31
  | k + 1 => gupd (ptN s k) k 0
def MSeason (s : MS) (r : Int) (s2 : MS) : Prop :=
  (s 36 0 = 1 ∧ r = 0 ∧ s2 = moS s 39 (fun _ => 1)) ∨ (¬ s 36 0 = 1 ∧ ∃ s0 : MS, s0 = moS s 39 (fun _ => 0) ∧ r = (mSeaG s0 5).2 ∧ s2 = moS (moS (moS s0 35 (mSeaG s0 5).1) 30 (grN s0 (mSeaG s0 5).1 (s 29 0).toNat)) 31 (ptN s0 (s 29 0).toNat))
theorem gupd_b3 {f : Int → Int} {i v lo hi : Int} (h : ∀ i, lo ≤ f i ∧ f i ≤ hi) (hv : lo ≤ v ∧ v ≤ hi) : ∀ j, lo ≤ gupd f i v j ∧ gupd f i v j ≤ hi := by
  intro j
  by_cases c : j = i
  · rw [c, gupd_eq]; exact hv
  · rw [gupd_ne c]; exact h j
theorem cpN_bd {s : MS} (V : VM s) : ∀ (k : Nat) (i : Int), 0 ≤ cpN s k i ∧ cpN s k i ≤ 6
  | 0, i => V.at 35 i rfl
  | k + 1, i => gupd_b3 (cpN_bd V k) (by have := V.at 30 (k : Int) rfl; omega) i
theorem mSeaG_bd {s : MS} (V : VM s) : ∀ (g : Nat), g ≤ 5 → ∀ i, 0 ≤ (mSeaG s g).1 i ∧ (mSeaG s g).1 i ≤ 6
  | 0, _ => cpN_bd V _
  | g + 1, h => by
    have ih := mSeaG_bd V g (by omega)
    have h1 : ∀ i, 0 ≤ (mSe1 s ((g + 1 : Nat) : Int) (mSeaG s g)).1 i ∧ (mSe1 s ((g + 1 : Nat) : Int) (mSeaG s g)).1 i ≤ 6 := by
      by_cases c : 1 < ((g + 1 : Nat) : Int) ∧ ¬ mMost s ((g + 1 : Nat) : Int) (s 29 0).toNat = -1
      · rw [mSe1_pos c]; exact gupd_b3 ih (by omega)
      · rw [mSe1_neg c]; exact ih
    show ∀ i, 0 ≤ (mSe2 s ((g + 1 : Nat) : Int) (mSe1 s ((g + 1 : Nat) : Int) (mSeaG s g))).1 i ∧ (mSe2 s ((g + 1 : Nat) : Int) (mSe1 s ((g + 1 : Nat) : Int) (mSeaG s g))).1 i ≤ 6
    by_cases c : ((g + 1 : Nat) : Int) < 5 ∧ 1 < mOg s ((g + 1 : Nat) : Int) (s 29 0).toNat
    · rw [mSe2_pos c]; exact gupd_b3 h1 (by omega)
    · rw [mSe2_neg c]; exact h1
theorem moS_z2 {s : MS} {a b : Nat} {f g f2 g2 : Int → Int} (c : b ≠ a) : moS (moS (moS (moS s a f) b g) a f2) b g2 = moS (moS s a f2) b g2 := by
  rw [moS_comm c, moS_moS, moS_moS]

set_option maxRecDepth 100000 in
set_option maxHeartbeats 4000000 in
theorem m_season {l : Launch} {Γ : GA} (hfl : l.stackTraces = false) {ad : Nat → Nat} (I : IM ad) {s : MS} (V : VM s) : Ct l Γ m_X5_season [.ref (ad 40)] (HM ad s) (fun v h' => ∃ (r : Int) (s2 : MS), v = some (iv r) ∧ h' = HM ad s2 ∧ MSeason s r s2) (fun _ _ => False) := by
  have b0 := V.at 29 0 rfl
  have b36 := V.at 36 0 rfl
  refine Ct.intro hfl (by decide +kernel) rfl (Nat.le_of_ble_eq_true rfl) ?_
  intro G C R T
  show G 0 [some (.ref (ad 40)), none, none, none, none, none, none] [] (HM ad s) 0 0
  refine gk_aload_n C dX5_season_0 rfl ?_
  refine gk_aload_n C dX5_season_1 rfl ?_
  refine mo_getf C I f_X5_203.r dX5_season_2 (by rfl) ?_
  refine gk_if_eq C (tgt := 12) (by omega) dX5_season_5 (by decide) (fun c_5 => ?_) (fun c_5 => ?_)
  · refine gk_iconst C dX5_season_12 ?_
    refine mo_putf C I f_X5_107 (by decide) dX5_season_13 ?_
    refine gk_aload_n C dX5_season_16 rfl ?_
    refine mo_getf C I f_X5_107.r dX5_season_17 (by rfl) ?_
    try simp only [moS3_ap, moS_ap, Nat.reduceEqDiff, if_true, if_false, reduceIte]
    refine gk_if_le C (tgt := 25) (by omega) dX5_season_20 (by decide) (fun c_20 => ?_) (fun c_20 => ?_)
    · obtain ⟨s0, es0⟩ : ∃ s0 : MS, s0 = moS s 39 (fun _ => 0) := ⟨_, rfl⟩
      rw [← es0]
      have V0 : VM s0 := by rw [es0]; exact VM_th V 0 (by omega)
      have e29 : s0 29 = s 29 := by rw [es0]; rfl
      refine gk_iconst C dX5_season_25 ?_
      refine gk_istore_n_1 C rfl (by decide) dX5_season_26 ?_
      have key : ∀ (n k : Nat) x2 x3 x4 x5 x6, s 29 0 - k < n → k ≤ s 29 0 → G 27 [some (.ref (ad 40)), some (iv (k : Int)), x2, x3, x4, x5, x6] [] (HM ad (moS s0 35 (cpN s0 k))) 0 0 := by
        intro n
        induction n with
        | zero => intro k x2 x3 x4 x5 x6 h1; omega
        | succ n ih =>
          intro k x2 x3 x4 x5 x6 hn hk
          refine gk_iload_n C dX5_season_27 rfl ?_
          refine gk_aload_n C dX5_season_28 rfl ?_
          refine mo_getf C I f_X5_200.r dX5_season_29 (by rfl) ?_
          try simp only [moS3_ap, moS_ap, Nat.reduceEqDiff, if_true, if_false, reduceIte]
          first | rw [e29] | skip
          refine gk_icmp_ge C (tgt := 53) (by omega) (by omega) dX5_season_32 (by decide) (fun c_32 => ?_) (fun c_32 => ?_)
          · refine gk_iconst C dX5_season_53 ?_
            refine gk_istore_n_1 C rfl (by decide) dX5_season_54 ?_
            refine gk_iconst C dX5_season_55 ?_
            refine gk_istore_n_2 C rfl (by decide) dX5_season_56 ?_
            have ekn : k = (s 29 0).toNat := by omega
            rw [show cpN s0 k = (mSeaG s0 0).1 from by show cpN s0 k = cpN s0 (s0 29 0).toNat; rw [ekn, e29]]
            have key2 : ∀ (n g : Nat) x3 x4 x5 x6, 5 - g < n → g ≤ 5 → G 57 [some (.ref (ad 40)), some (iv (mSeaG s0 g).2), some (iv ((g + 1 : Nat) : Int)), x3, x4, x5, x6] [] (HM ad (moS s0 35 (mSeaG s0 g).1)) 0 0 := by
              intro n
              induction n with
              | zero => intro g x3 x4 x5 x6 h1; omega
              | succ n ih2 =>
                intro g x3 x4 x5 x6 hn hg
                have bM := mMost_bd s0 ((g + 1 : Nat) : Int) (s0 29 0).toNat
                have bF := mFew_bd s0 ((g + 1 : Nat) : Int) (s0 29 0).toNat
                have bO := mOg_bd s0 ((g + 1 : Nat) : Int) (s0 29 0).toNat
                have e290 : s0 29 0 = s 29 0 := by rw [e29]
                have fin3 : ∀ (f : Int → Int) (mv : Int) x3 x4 x5 x6, g < 5 → (f, mv) = mSeaG s0 (g + 1) → G 57 [some (.ref (ad 40)), some (iv mv), some (iv (((g + 1 : Nat) : Int) + 1)), x3, x4, x5, x6] [] (HM ad (moS s0 35 f)) 0 0 := by
                  intro f mv x3 x4 x5 x6 h1 h2
                  have h9 := ih2 (g + 1) x3 x4 x5 x6 (by omega) (by omega)
                  rw [← h2] at h9
                  exact h9
                refine gk_iload_n C dX5_season_57 rfl ?_
                refine gk_bipush C dX5_season_58 (by decide) ?_
                refine gk_icmp_ge C (tgt := 239) (by omega) (by omega) dX5_season_60 (by decide) (fun c_60 => ?_) (fun c_60 => ?_)
                · refine gk_iconst C dX5_season_239 ?_
                  refine gk_istore_n_2 C rfl (by decide) dX5_season_240 ?_
                  have eg : g = 5 := by omega
                  rw [eg]
                  have key4 : ∀ (n k : Nat), s0 29 0 - k < n → k ≤ s0 29 0 → G 241 [some (.ref (ad 40)), some (iv (mSeaG s0 5).2), some (iv (k : Int)), x3, x4, x5, x6] [] (HM ad (moS (moS (moS s0 35 (mSeaG s0 5).1) 30 (grN s0 (mSeaG s0 5).1 k)) 31 (ptN s0 k))) 0 0 := by
                    intro n
                    induction n with
                    | zero => intro k h1; omega
                    | succ n ih4 =>
                      intro k hn hk
                      refine gk_iload_n C dX5_season_241 rfl ?_
                      refine gk_aload_n C dX5_season_242 rfl ?_
                      refine mo_getf C I f_X5_200.r dX5_season_243 (by rfl) ?_
                      try simp only [moS3_ap, moS_ap, Nat.reduceEqDiff, if_true, if_false, reduceIte]
                      refine gk_icmp_ge C (tgt := 274) (by omega) (by omega) dX5_season_246 (by decide) (fun c_246 => ?_) (fun c_246 => ?_)
                      · refine gk_iload_n C dX5_season_274 rfl ?_
                        refine (R _ _ _ _ _ (by decide) (by decide)).1 _ rfl dX5_season_275 ?_
                        rw [show k = (s 29 0).toNat by rw [← e29]; omega]
                        exact ⟨_, _, rfl, rfl, Or.inr ⟨by omega, s0, es0, rfl, rfl⟩⟩
                      · refine gk_aload_n C dX5_season_249 rfl ?_
                        refine mo_getf C I f_X5_86.r dX5_season_250 (by rfl) ?_
                        try simp only [moS3_ap, moS_ap, Nat.reduceEqDiff, if_true, if_false, reduceIte]
                        refine gk_iload_n C dX5_season_253 rfl ?_
                        refine gk_aload_n C dX5_season_254 rfl ?_
                        refine mo_getf C I f_X5_101.r dX5_season_255 (by rfl) ?_
                        try simp only [moS3_ap, moS_ap, Nat.reduceEqDiff, if_true, if_false, reduceIte]
                        refine gk_iload_n C dX5_season_258 rfl ?_
                        refine mo_iald C I (by rfl) dX5_season_259 (by omega) (by omega) ?_
                        try simp only [moS3_ap, moS_ap, Nat.reduceEqDiff, if_true, if_false, reduceIte]
                        refine mo_iast C I (by rfl) dX5_season_260 (by omega) (by omega) ?_
                        refine gk_aload_n C dX5_season_261 rfl ?_
                        refine mo_getf C I f_X5_89.r dX5_season_262 (by rfl) ?_
                        try simp only [moS3_ap, moS_ap, Nat.reduceEqDiff, if_true, if_false, reduceIte]
                        refine gk_iload_n C dX5_season_265 rfl ?_
                        refine gk_iconst C dX5_season_266 ?_
                        refine mo_iast C I (by rfl) dX5_season_267 (by omega) (by omega) ?_
                        refine gk_iinc_2 C rfl (by decide) dX5_season_268 ?_
                        refine gk_goto C (tgt := 241) dX5_season_271 (by decide) ?_
                        rw [moS_z2 (by decide)]
                        exact ih4 (k + 1) (by omega) (by omega)
                  have h9 := key4 9 0 (by omega) (by omega)
                  rw [show grN s0 (mSeaG s0 5).1 0 = moS s0 35 (mSeaG s0 5).1 30 from rfl, moS_self, show ptN s0 0 = moS s0 35 (mSeaG s0 5).1 31 from rfl, moS_self] at h9
                  exact h9
                · refine gk_iconst C dX5_season_63 ?_
                  refine gk_istore_n_3 C rfl (by decide) dX5_season_64 ?_
                  refine gk_iconst C dX5_season_65 ?_
                  refine gk_istore_4 C rfl (by decide) dX5_season_66 ?_
                  refine gk_iconst C dX5_season_68 ?_
                  refine gk_istore_5 C rfl (by decide) dX5_season_69 ?_
                  have key3 : ∀ (n k : Nat) x6, s0 29 0 - k < n → k ≤ s0 29 0 → G 71 [some (.ref (ad 40)), some (iv (mSeaG s0 g).2), some (iv ((g + 1 : Nat) : Int)), some (iv (mMost s0 ((g + 1 : Nat) : Int) k)), some (iv (mFew s0 ((g + 1 : Nat) : Int) k)), some (iv (k : Int)), x6] [] (HM ad (moS s0 35 (mSeaG s0 g).1)) 0 0 := by
                    intro n
                    induction n with
                    | zero => intro k x6 h1; omega
                    | succ n ih3 =>
                      intro k x6 hn hk
                      have cM := mMost_bd s0 ((g + 1 : Nat) : Int) k
                      have cF := mFew_bd s0 ((g + 1 : Nat) : Int) k
                      have d30 := V0.at 30 (k : Int) rfl
                      have d31 := V0.at 31 (k : Int) rfl
                      have d32 := V0.at 31 (mMost s0 ((g + 1 : Nat) : Int) k) rfl
                      have d33 := V0.at 31 (mFew s0 ((g + 1 : Nat) : Int) k) rfl
                      have em : mMost s0 ((g + 1 : Nat) : Int) (k + 1) = if s0 30 k = ((g + 1 : Nat) : Int) ∧ 0 < s0 31 k ∧ (mMost s0 ((g + 1 : Nat) : Int) k = -1 ∨ s0 31 (mMost s0 ((g + 1 : Nat) : Int) k) < s0 31 k) then (k : Int) else mMost s0 ((g + 1 : Nat) : Int) k := rfl
                      have ef : mFew s0 ((g + 1 : Nat) : Int) (k + 1) = if s0 30 k = ((g + 1 : Nat) : Int) ∧ (mFew s0 ((g + 1 : Nat) : Int) k = -1 ∨ s0 31 k ≤ s0 31 (mFew s0 ((g + 1 : Nat) : Int) k)) then (k : Int) else mFew s0 ((g + 1 : Nat) : Int) k := rfl
                      have fin : ∀ (x y : Int) x6, k < s0 29 0 → x = mMost s0 ((g + 1 : Nat) : Int) (k + 1) → y = mFew s0 ((g + 1 : Nat) : Int) (k + 1) → G 71 [some (.ref (ad 40)), some (iv (mSeaG s0 g).2), some (iv ((g + 1 : Nat) : Int)), some (iv x), some (iv y), some (iv ((k : Int) + 1)), x6] [] (HM ad (moS s0 35 (mSeaG s0 g).1)) 0 0 := by
                        intro x y x6 h1 hx hy
                        rw [hx, hy]
                        exact ih3 (k + 1) x6 (by omega) (by omega)
                      refine gk_iload C dX5_season_71 rfl ?_
                      refine gk_aload_n C dX5_season_73 rfl ?_
                      refine mo_getf C I f_X5_200.r dX5_season_74 (by rfl) ?_
                      try simp only [moS3_ap, moS_ap, Nat.reduceEqDiff, if_true, if_false, reduceIte]
                      refine gk_icmp_ge C (tgt := 184) (by omega) (by omega) dX5_season_77 (by decide) (fun c_77 => ?_) (fun c_77 => ?_)
                      · have ek3 : k = (s0 29 0).toNat := by omega
                        rw [ek3]
                        refine gk_iload_n C dX5_season_184 rfl ?_
                        refine gk_iconst C dX5_season_185 ?_
                        refine gk_icmp_le C (tgt := 206) (by omega) (by omega) dX5_season_186 (by decide) (fun c_186 => ?_) (fun c_186 => ?_)
                        · refine gk_iload_n C dX5_season_206 rfl ?_
                          refine gk_iconst C dX5_season_207 ?_
                          refine gk_icmp_ge C (tgt := 233) (by omega) (by omega) dX5_season_208 (by decide) (fun c_208 => ?_) (fun c_208 => ?_)
                          · refine gk_iinc_2 C rfl (by decide) dX5_season_233 ?_
                            refine gk_goto C (tgt := 57) dX5_season_236 (by decide) ?_
                            try simp only [moS_moS, moS_ap, if_true, reduceIte]
                            refine fin3 _ _ _ _ _ _ (by omega) ?_
                            show _ = mSe2 s0 ((g + 1 : Nat) : Int) (mSe1 s0 ((g + 1 : Nat) : Int) (mSeaG s0 g))
                            by_cases c1 : 1 < ((g + 1 : Nat) : Int) ∧ ¬ mMost s0 ((g + 1 : Nat) : Int) (s0 29 0).toNat = -1
                            · by_cases c2 : ((g + 1 : Nat) : Int) < 5 ∧ 1 < mOg s0 ((g + 1 : Nat) : Int) (s0 29 0).toNat
                              · first | (exfalso; omega) | rw [mSe1_pos c1, mSe2_pos c2]
                              · first | (exfalso; omega) | rw [mSe1_pos c1, mSe2_neg c2]
                            · by_cases c2 : ((g + 1 : Nat) : Int) < 5 ∧ 1 < mOg s0 ((g + 1 : Nat) : Int) (s0 29 0).toNat
                              · first | (exfalso; omega) | rw [mSe1_neg c1, mSe2_pos c2]
                              · first | (exfalso; omega) | rw [mSe1_neg c1, mSe2_neg c2]
                          · refine gk_aload_n C dX5_season_211 rfl ?_
                            refine gk_iload_n C dX5_season_212 rfl ?_
                            try simp only [moS_moS, moS_ap, if_true, reduceIte]
                            have bG := mSeaG_bd V0 g (by omega)
                            have VFa : VM (moS s0 35 (mSeaG s0 g).1) := V0.set rfl bG
                            have VFb : VM (moS s0 35 (gupd (mSeaG s0 g).1 (mMost s0 ((g + 1 : Nat) : Int) (s0 29 0).toNat) (((g + 1 : Nat) : Int) - 1))) := V0.set rfl (gupd_b3 bG (by omega))
                            have eO : ∀ F, mOg (moS s0 35 F) ((g + 1 : Nat) : Int) (moS s0 35 F 29 0).toNat = mOg s0 ((g + 1 : Nat) : Int) (s0 29 0).toNat := fun _ => rfl
                            refine gk_callV C o_X5_ofGrade k_X5_207 dX5_season_213 (m_ofGrade hfl I (by first | exact VFa | exact VFb) (g := ((g + 1 : Nat) : Int)) (by omega)) (mo_obj I) rfl rfl rfl (by decide) (by decide) (by exact Nat.le_of_ble_eq_true rfl) (fun _ _ z => z.elim) (fun v_213 h_213 p_213 => ?_)
                            obtain ⟨rfl, rfl⟩ := p_213
                            dsimp only [gk_push]
                            rw [eO]
                            refine gk_iconst C dX5_season_216 ?_
                            refine gk_icmp_le C (tgt := 233) (by omega) (by omega) dX5_season_217 (by decide) (fun c_217 => ?_) (fun c_217 => ?_)
                            · refine gk_iinc_2 C rfl (by decide) dX5_season_233 ?_
                              refine gk_goto C (tgt := 57) dX5_season_236 (by decide) ?_
                              try simp only [moS_moS, moS_ap, if_true, reduceIte]
                              refine fin3 _ _ _ _ _ _ (by omega) ?_
                              show _ = mSe2 s0 ((g + 1 : Nat) : Int) (mSe1 s0 ((g + 1 : Nat) : Int) (mSeaG s0 g))
                              by_cases c1 : 1 < ((g + 1 : Nat) : Int) ∧ ¬ mMost s0 ((g + 1 : Nat) : Int) (s0 29 0).toNat = -1
                              · by_cases c2 : ((g + 1 : Nat) : Int) < 5 ∧ 1 < mOg s0 ((g + 1 : Nat) : Int) (s0 29 0).toNat
                                · first | (exfalso; omega) | rw [mSe1_pos c1, mSe2_pos c2]
                                · first | (exfalso; omega) | rw [mSe1_pos c1, mSe2_neg c2]
                              · by_cases c2 : ((g + 1 : Nat) : Int) < 5 ∧ 1 < mOg s0 ((g + 1 : Nat) : Int) (s0 29 0).toNat
                                · first | (exfalso; omega) | rw [mSe1_neg c1, mSe2_pos c2]
                                · first | (exfalso; omega) | rw [mSe1_neg c1, mSe2_neg c2]
                            · refine gk_aload_n C dX5_season_220 rfl ?_
                              refine mo_getf C I f_X5_101.r dX5_season_221 (by rfl) ?_
                              try simp only [moS3_ap, moS_ap, Nat.reduceEqDiff, if_true, if_false, reduceIte]
                              refine gk_iload C dX5_season_224 rfl ?_
                              refine gk_iload_n C dX5_season_226 rfl ?_
                              refine gk_iconst C dX5_season_227 ?_
                              refine gk_iadd C dX5_season_228 ?_
                              refine mo_iast C I (by rfl) dX5_season_229 (by omega) (by omega) ?_
                              refine gk_iinc_1 C rfl (by decide) dX5_season_230 ?_
                              refine gk_iinc_2 C rfl (by decide) dX5_season_233 ?_
                              refine gk_goto C (tgt := 57) dX5_season_236 (by decide) ?_
                              try simp only [moS_moS, moS_ap, if_true, reduceIte]
                              refine fin3 _ _ _ _ _ _ (by omega) ?_
                              show _ = mSe2 s0 ((g + 1 : Nat) : Int) (mSe1 s0 ((g + 1 : Nat) : Int) (mSeaG s0 g))
                              by_cases c1 : 1 < ((g + 1 : Nat) : Int) ∧ ¬ mMost s0 ((g + 1 : Nat) : Int) (s0 29 0).toNat = -1
                              · by_cases c2 : ((g + 1 : Nat) : Int) < 5 ∧ 1 < mOg s0 ((g + 1 : Nat) : Int) (s0 29 0).toNat
                                · first | (exfalso; omega) | rw [mSe1_pos c1, mSe2_pos c2]
                                · first | (exfalso; omega) | rw [mSe1_pos c1, mSe2_neg c2]
                              · by_cases c2 : ((g + 1 : Nat) : Int) < 5 ∧ 1 < mOg s0 ((g + 1 : Nat) : Int) (s0 29 0).toNat
                                · first | (exfalso; omega) | rw [mSe1_neg c1, mSe2_pos c2]
                                · first | (exfalso; omega) | rw [mSe1_neg c1, mSe2_neg c2]
                        · refine gk_iload_n C dX5_season_189 rfl ?_
                          refine gk_iconst C dX5_season_190 ?_
                          refine gk_icmp_eq C (tgt := 206) (by omega) (by omega) dX5_season_191 (by decide) (fun c_191 => ?_) (fun c_191 => ?_)
                          · refine gk_iload_n C dX5_season_206 rfl ?_
                            refine gk_iconst C dX5_season_207 ?_
                            refine gk_icmp_ge C (tgt := 233) (by omega) (by omega) dX5_season_208 (by decide) (fun c_208 => ?_) (fun c_208 => ?_)
                            · refine gk_iinc_2 C rfl (by decide) dX5_season_233 ?_
                              refine gk_goto C (tgt := 57) dX5_season_236 (by decide) ?_
                              try simp only [moS_moS, moS_ap, if_true, reduceIte]
                              refine fin3 _ _ _ _ _ _ (by omega) ?_
                              show _ = mSe2 s0 ((g + 1 : Nat) : Int) (mSe1 s0 ((g + 1 : Nat) : Int) (mSeaG s0 g))
                              by_cases c1 : 1 < ((g + 1 : Nat) : Int) ∧ ¬ mMost s0 ((g + 1 : Nat) : Int) (s0 29 0).toNat = -1
                              · by_cases c2 : ((g + 1 : Nat) : Int) < 5 ∧ 1 < mOg s0 ((g + 1 : Nat) : Int) (s0 29 0).toNat
                                · first | (exfalso; omega) | rw [mSe1_pos c1, mSe2_pos c2]
                                · first | (exfalso; omega) | rw [mSe1_pos c1, mSe2_neg c2]
                              · by_cases c2 : ((g + 1 : Nat) : Int) < 5 ∧ 1 < mOg s0 ((g + 1 : Nat) : Int) (s0 29 0).toNat
                                · first | (exfalso; omega) | rw [mSe1_neg c1, mSe2_pos c2]
                                · first | (exfalso; omega) | rw [mSe1_neg c1, mSe2_neg c2]
                            · refine gk_aload_n C dX5_season_211 rfl ?_
                              refine gk_iload_n C dX5_season_212 rfl ?_
                              try simp only [moS_moS, moS_ap, if_true, reduceIte]
                              have bG := mSeaG_bd V0 g (by omega)
                              have VFa : VM (moS s0 35 (mSeaG s0 g).1) := V0.set rfl bG
                              have VFb : VM (moS s0 35 (gupd (mSeaG s0 g).1 (mMost s0 ((g + 1 : Nat) : Int) (s0 29 0).toNat) (((g + 1 : Nat) : Int) - 1))) := V0.set rfl (gupd_b3 bG (by omega))
                              have eO : ∀ F, mOg (moS s0 35 F) ((g + 1 : Nat) : Int) (moS s0 35 F 29 0).toNat = mOg s0 ((g + 1 : Nat) : Int) (s0 29 0).toNat := fun _ => rfl
                              refine gk_callV C o_X5_ofGrade k_X5_207 dX5_season_213 (m_ofGrade hfl I (by first | exact VFa | exact VFb) (g := ((g + 1 : Nat) : Int)) (by omega)) (mo_obj I) rfl rfl rfl (by decide) (by decide) (by exact Nat.le_of_ble_eq_true rfl) (fun _ _ z => z.elim) (fun v_213 h_213 p_213 => ?_)
                              obtain ⟨rfl, rfl⟩ := p_213
                              dsimp only [gk_push]
                              rw [eO]
                              refine gk_iconst C dX5_season_216 ?_
                              refine gk_icmp_le C (tgt := 233) (by omega) (by omega) dX5_season_217 (by decide) (fun c_217 => ?_) (fun c_217 => ?_)
                              · refine gk_iinc_2 C rfl (by decide) dX5_season_233 ?_
                                refine gk_goto C (tgt := 57) dX5_season_236 (by decide) ?_
                                try simp only [moS_moS, moS_ap, if_true, reduceIte]
                                refine fin3 _ _ _ _ _ _ (by omega) ?_
                                show _ = mSe2 s0 ((g + 1 : Nat) : Int) (mSe1 s0 ((g + 1 : Nat) : Int) (mSeaG s0 g))
                                by_cases c1 : 1 < ((g + 1 : Nat) : Int) ∧ ¬ mMost s0 ((g + 1 : Nat) : Int) (s0 29 0).toNat = -1
                                · by_cases c2 : ((g + 1 : Nat) : Int) < 5 ∧ 1 < mOg s0 ((g + 1 : Nat) : Int) (s0 29 0).toNat
                                  · first | (exfalso; omega) | rw [mSe1_pos c1, mSe2_pos c2]
                                  · first | (exfalso; omega) | rw [mSe1_pos c1, mSe2_neg c2]
                                · by_cases c2 : ((g + 1 : Nat) : Int) < 5 ∧ 1 < mOg s0 ((g + 1 : Nat) : Int) (s0 29 0).toNat
                                  · first | (exfalso; omega) | rw [mSe1_neg c1, mSe2_pos c2]
                                  · first | (exfalso; omega) | rw [mSe1_neg c1, mSe2_neg c2]
                              · refine gk_aload_n C dX5_season_220 rfl ?_
                                refine mo_getf C I f_X5_101.r dX5_season_221 (by rfl) ?_
                                try simp only [moS3_ap, moS_ap, Nat.reduceEqDiff, if_true, if_false, reduceIte]
                                refine gk_iload C dX5_season_224 rfl ?_
                                refine gk_iload_n C dX5_season_226 rfl ?_
                                refine gk_iconst C dX5_season_227 ?_
                                refine gk_iadd C dX5_season_228 ?_
                                refine mo_iast C I (by rfl) dX5_season_229 (by omega) (by omega) ?_
                                refine gk_iinc_1 C rfl (by decide) dX5_season_230 ?_
                                refine gk_iinc_2 C rfl (by decide) dX5_season_233 ?_
                                refine gk_goto C (tgt := 57) dX5_season_236 (by decide) ?_
                                try simp only [moS_moS, moS_ap, if_true, reduceIte]
                                refine fin3 _ _ _ _ _ _ (by omega) ?_
                                show _ = mSe2 s0 ((g + 1 : Nat) : Int) (mSe1 s0 ((g + 1 : Nat) : Int) (mSeaG s0 g))
                                by_cases c1 : 1 < ((g + 1 : Nat) : Int) ∧ ¬ mMost s0 ((g + 1 : Nat) : Int) (s0 29 0).toNat = -1
                                · by_cases c2 : ((g + 1 : Nat) : Int) < 5 ∧ 1 < mOg s0 ((g + 1 : Nat) : Int) (s0 29 0).toNat
                                  · first | (exfalso; omega) | rw [mSe1_pos c1, mSe2_pos c2]
                                  · first | (exfalso; omega) | rw [mSe1_pos c1, mSe2_neg c2]
                                · by_cases c2 : ((g + 1 : Nat) : Int) < 5 ∧ 1 < mOg s0 ((g + 1 : Nat) : Int) (s0 29 0).toNat
                                  · first | (exfalso; omega) | rw [mSe1_neg c1, mSe2_pos c2]
                                  · first | (exfalso; omega) | rw [mSe1_neg c1, mSe2_neg c2]
                          · refine gk_aload_n C dX5_season_194 rfl ?_
                            refine mo_getf C I f_X5_101.r dX5_season_195 (by rfl) ?_
                            try simp only [moS3_ap, moS_ap, Nat.reduceEqDiff, if_true, if_false, reduceIte]
                            refine gk_iload_n C dX5_season_198 rfl ?_
                            refine gk_iload_n C dX5_season_199 rfl ?_
                            refine gk_iconst C dX5_season_200 ?_
                            refine gk_isub C dX5_season_201 ?_
                            refine mo_iast C I (by rfl) dX5_season_202 (by omega) (by omega) ?_
                            refine gk_iinc_1 C rfl (by decide) dX5_season_203 ?_
                            refine gk_iload_n C dX5_season_206 rfl ?_
                            refine gk_iconst C dX5_season_207 ?_
                            refine gk_icmp_ge C (tgt := 233) (by omega) (by omega) dX5_season_208 (by decide) (fun c_208 => ?_) (fun c_208 => ?_)
                            · refine gk_iinc_2 C rfl (by decide) dX5_season_233 ?_
                              refine gk_goto C (tgt := 57) dX5_season_236 (by decide) ?_
                              try simp only [moS_moS, moS_ap, if_true, reduceIte]
                              refine fin3 _ _ _ _ _ _ (by omega) ?_
                              show _ = mSe2 s0 ((g + 1 : Nat) : Int) (mSe1 s0 ((g + 1 : Nat) : Int) (mSeaG s0 g))
                              by_cases c1 : 1 < ((g + 1 : Nat) : Int) ∧ ¬ mMost s0 ((g + 1 : Nat) : Int) (s0 29 0).toNat = -1
                              · by_cases c2 : ((g + 1 : Nat) : Int) < 5 ∧ 1 < mOg s0 ((g + 1 : Nat) : Int) (s0 29 0).toNat
                                · first | (exfalso; omega) | rw [mSe1_pos c1, mSe2_pos c2]
                                · first | (exfalso; omega) | rw [mSe1_pos c1, mSe2_neg c2]
                              · by_cases c2 : ((g + 1 : Nat) : Int) < 5 ∧ 1 < mOg s0 ((g + 1 : Nat) : Int) (s0 29 0).toNat
                                · first | (exfalso; omega) | rw [mSe1_neg c1, mSe2_pos c2]
                                · first | (exfalso; omega) | rw [mSe1_neg c1, mSe2_neg c2]
                            · refine gk_aload_n C dX5_season_211 rfl ?_
                              refine gk_iload_n C dX5_season_212 rfl ?_
                              try simp only [moS_moS, moS_ap, if_true, reduceIte]
                              have bG := mSeaG_bd V0 g (by omega)
                              have VFa : VM (moS s0 35 (mSeaG s0 g).1) := V0.set rfl bG
                              have VFb : VM (moS s0 35 (gupd (mSeaG s0 g).1 (mMost s0 ((g + 1 : Nat) : Int) (s0 29 0).toNat) (((g + 1 : Nat) : Int) - 1))) := V0.set rfl (gupd_b3 bG (by omega))
                              have eO : ∀ F, mOg (moS s0 35 F) ((g + 1 : Nat) : Int) (moS s0 35 F 29 0).toNat = mOg s0 ((g + 1 : Nat) : Int) (s0 29 0).toNat := fun _ => rfl
                              refine gk_callV C o_X5_ofGrade k_X5_207 dX5_season_213 (m_ofGrade hfl I (by first | exact VFa | exact VFb) (g := ((g + 1 : Nat) : Int)) (by omega)) (mo_obj I) rfl rfl rfl (by decide) (by decide) (by exact Nat.le_of_ble_eq_true rfl) (fun _ _ z => z.elim) (fun v_213 h_213 p_213 => ?_)
                              obtain ⟨rfl, rfl⟩ := p_213
                              dsimp only [gk_push]
                              rw [eO]
                              refine gk_iconst C dX5_season_216 ?_
                              refine gk_icmp_le C (tgt := 233) (by omega) (by omega) dX5_season_217 (by decide) (fun c_217 => ?_) (fun c_217 => ?_)
                              · refine gk_iinc_2 C rfl (by decide) dX5_season_233 ?_
                                refine gk_goto C (tgt := 57) dX5_season_236 (by decide) ?_
                                try simp only [moS_moS, moS_ap, if_true, reduceIte]
                                refine fin3 _ _ _ _ _ _ (by omega) ?_
                                show _ = mSe2 s0 ((g + 1 : Nat) : Int) (mSe1 s0 ((g + 1 : Nat) : Int) (mSeaG s0 g))
                                by_cases c1 : 1 < ((g + 1 : Nat) : Int) ∧ ¬ mMost s0 ((g + 1 : Nat) : Int) (s0 29 0).toNat = -1
                                · by_cases c2 : ((g + 1 : Nat) : Int) < 5 ∧ 1 < mOg s0 ((g + 1 : Nat) : Int) (s0 29 0).toNat
                                  · first | (exfalso; omega) | rw [mSe1_pos c1, mSe2_pos c2]
                                  · first | (exfalso; omega) | rw [mSe1_pos c1, mSe2_neg c2]
                                · by_cases c2 : ((g + 1 : Nat) : Int) < 5 ∧ 1 < mOg s0 ((g + 1 : Nat) : Int) (s0 29 0).toNat
                                  · first | (exfalso; omega) | rw [mSe1_neg c1, mSe2_pos c2]
                                  · first | (exfalso; omega) | rw [mSe1_neg c1, mSe2_neg c2]
                              · refine gk_aload_n C dX5_season_220 rfl ?_
                                refine mo_getf C I f_X5_101.r dX5_season_221 (by rfl) ?_
                                try simp only [moS3_ap, moS_ap, Nat.reduceEqDiff, if_true, if_false, reduceIte]
                                refine gk_iload C dX5_season_224 rfl ?_
                                refine gk_iload_n C dX5_season_226 rfl ?_
                                refine gk_iconst C dX5_season_227 ?_
                                refine gk_iadd C dX5_season_228 ?_
                                refine mo_iast C I (by rfl) dX5_season_229 (by omega) (by omega) ?_
                                refine gk_iinc_1 C rfl (by decide) dX5_season_230 ?_
                                refine gk_iinc_2 C rfl (by decide) dX5_season_233 ?_
                                refine gk_goto C (tgt := 57) dX5_season_236 (by decide) ?_
                                try simp only [moS_moS, moS_ap, if_true, reduceIte]
                                refine fin3 _ _ _ _ _ _ (by omega) ?_
                                show _ = mSe2 s0 ((g + 1 : Nat) : Int) (mSe1 s0 ((g + 1 : Nat) : Int) (mSeaG s0 g))
                                by_cases c1 : 1 < ((g + 1 : Nat) : Int) ∧ ¬ mMost s0 ((g + 1 : Nat) : Int) (s0 29 0).toNat = -1
                                · by_cases c2 : ((g + 1 : Nat) : Int) < 5 ∧ 1 < mOg s0 ((g + 1 : Nat) : Int) (s0 29 0).toNat
                                  · first | (exfalso; omega) | rw [mSe1_pos c1, mSe2_pos c2]
                                  · first | (exfalso; omega) | rw [mSe1_pos c1, mSe2_neg c2]
                                · by_cases c2 : ((g + 1 : Nat) : Int) < 5 ∧ 1 < mOg s0 ((g + 1 : Nat) : Int) (s0 29 0).toNat
                                  · first | (exfalso; omega) | rw [mSe1_neg c1, mSe2_pos c2]
                                  · first | (exfalso; omega) | rw [mSe1_neg c1, mSe2_neg c2]
                      · refine gk_aload_n C dX5_season_80 rfl ?_
                        refine mo_getf C I f_X5_86.r dX5_season_81 (by rfl) ?_
                        try simp only [moS3_ap, moS_ap, Nat.reduceEqDiff, if_true, if_false, reduceIte]
                        refine gk_iload C dX5_season_84 rfl ?_
                        refine mo_iald C I (by rfl) dX5_season_86 (by omega) (by omega) ?_
                        try simp only [moS3_ap, moS_ap, Nat.reduceEqDiff, if_true, if_false, reduceIte]
                        refine gk_iload_n C dX5_season_87 rfl ?_
                        refine gk_icmp_ne C (tgt := 95) (by omega) (by omega) dX5_season_88 (by decide) (fun c_88 => ?_) (fun c_88 => ?_)
                        · refine gk_iconst C dX5_season_95 ?_
                          refine gk_istore_6 C rfl (by decide) dX5_season_96 ?_
                          refine gk_iload C dX5_season_98 rfl ?_
                          refine gk_if_eq C (tgt := 139) (by omega) dX5_season_100 (by decide) (fun c_100 => ?_) (fun c_100 => ?_)
                          · refine gk_iload_n C dX5_season_139 rfl ?_
                            refine gk_istore_n_3 C rfl (by decide) dX5_season_140 ?_
                            refine gk_iload C dX5_season_141 rfl ?_
                            refine gk_if_eq C (tgt := 174) (by omega) dX5_season_143 (by decide) (fun c_143 => ?_) (fun c_143 => ?_)
                            · refine gk_iload C dX5_season_174 rfl ?_
                              refine gk_istore_4 C rfl (by decide) dX5_season_176 ?_
                              refine gk_iinc_5 C rfl (by decide) dX5_season_178 ?_
                              refine gk_goto C (tgt := 71) dX5_season_181 (by decide) ?_
                              exact fin _ _ _ (by omega) (by rw [em]; split <;> omega) (by rw [ef]; split <;> omega)
                            · exact absurd c_143 (by omega)
                          · exact absurd c_100 (by omega)
                        · refine gk_iconst C dX5_season_91 ?_
                          refine gk_goto C (tgt := 96) dX5_season_92 (by decide) ?_
                          refine gk_istore_6 C rfl (by decide) dX5_season_96 ?_
                          refine gk_iload C dX5_season_98 rfl ?_
                          refine gk_if_eq C (tgt := 139) (by omega) dX5_season_100 (by decide) (fun c_100 => ?_) (fun c_100 => ?_)
                          · exact absurd c_100 (by omega)
                          · refine gk_aload_n C dX5_season_103 rfl ?_
                            refine mo_getf C I f_X5_89.r dX5_season_104 (by rfl) ?_
                            try simp only [moS3_ap, moS_ap, Nat.reduceEqDiff, if_true, if_false, reduceIte]
                            refine gk_iload C dX5_season_107 rfl ?_
                            refine mo_iald C I (by rfl) dX5_season_109 (by omega) (by omega) ?_
                            try simp only [moS3_ap, moS_ap, Nat.reduceEqDiff, if_true, if_false, reduceIte]
                            refine gk_if_le C (tgt := 139) (by omega) dX5_season_110 (by decide) (fun c_110 => ?_) (fun c_110 => ?_)
                            · refine gk_iload_n C dX5_season_139 rfl ?_
                              refine gk_istore_n_3 C rfl (by decide) dX5_season_140 ?_
                              refine gk_iload C dX5_season_141 rfl ?_
                              refine gk_if_eq C (tgt := 174) (by omega) dX5_season_143 (by decide) (fun c_143 => ?_) (fun c_143 => ?_)
                              · exact absurd c_143 (by omega)
                              · refine gk_iload C dX5_season_146 rfl ?_
                                refine gk_iconst C dX5_season_148 ?_
                                refine gk_icmp_eq C (tgt := 169) (by omega) (by omega) dX5_season_149 (by decide) (fun c_149 => ?_) (fun c_149 => ?_)
                                · refine gk_iload C dX5_season_169 rfl ?_
                                  refine gk_goto C (tgt := 176) dX5_season_171 (by decide) ?_
                                  refine gk_istore_4 C rfl (by decide) dX5_season_176 ?_
                                  refine gk_iinc_5 C rfl (by decide) dX5_season_178 ?_
                                  refine gk_goto C (tgt := 71) dX5_season_181 (by decide) ?_
                                  exact fin _ _ _ (by omega) (by rw [em]; split <;> omega) (by rw [ef]; split <;> omega)
                                · refine gk_aload_n C dX5_season_152 rfl ?_
                                  refine mo_getf C I f_X5_89.r dX5_season_153 (by rfl) ?_
                                  try simp only [moS3_ap, moS_ap, Nat.reduceEqDiff, if_true, if_false, reduceIte]
                                  refine gk_iload C dX5_season_156 rfl ?_
                                  refine mo_iald C I (by rfl) dX5_season_158 (by omega) (by omega) ?_
                                  try simp only [moS3_ap, moS_ap, Nat.reduceEqDiff, if_true, if_false, reduceIte]
                                  refine gk_aload_n C dX5_season_159 rfl ?_
                                  refine mo_getf C I f_X5_89.r dX5_season_160 (by rfl) ?_
                                  try simp only [moS3_ap, moS_ap, Nat.reduceEqDiff, if_true, if_false, reduceIte]
                                  refine gk_iload C dX5_season_163 rfl ?_
                                  refine mo_iald C I (by rfl) dX5_season_165 (by omega) (by omega) ?_
                                  try simp only [moS3_ap, moS_ap, Nat.reduceEqDiff, if_true, if_false, reduceIte]
                                  refine gk_icmp_gt C (tgt := 174) (by omega) (by omega) dX5_season_166 (by decide) (fun c_166 => ?_) (fun c_166 => ?_)
                                  · refine gk_iload C dX5_season_174 rfl ?_
                                    refine gk_istore_4 C rfl (by decide) dX5_season_176 ?_
                                    refine gk_iinc_5 C rfl (by decide) dX5_season_178 ?_
                                    refine gk_goto C (tgt := 71) dX5_season_181 (by decide) ?_
                                    exact fin _ _ _ (by omega) (by rw [em]; split <;> omega) (by rw [ef]; split <;> omega)
                                  · refine gk_iload C dX5_season_169 rfl ?_
                                    refine gk_goto C (tgt := 176) dX5_season_171 (by decide) ?_
                                    refine gk_istore_4 C rfl (by decide) dX5_season_176 ?_
                                    refine gk_iinc_5 C rfl (by decide) dX5_season_178 ?_
                                    refine gk_goto C (tgt := 71) dX5_season_181 (by decide) ?_
                                    exact fin _ _ _ (by omega) (by rw [em]; split <;> omega) (by rw [ef]; split <;> omega)
                            · refine gk_iload_n C dX5_season_113 rfl ?_
                              refine gk_iconst C dX5_season_114 ?_
                              refine gk_icmp_eq C (tgt := 134) (by omega) (by omega) dX5_season_115 (by decide) (fun c_115 => ?_) (fun c_115 => ?_)
                              · refine gk_iload C dX5_season_134 rfl ?_
                                refine gk_goto C (tgt := 140) dX5_season_136 (by decide) ?_
                                refine gk_istore_n_3 C rfl (by decide) dX5_season_140 ?_
                                refine gk_iload C dX5_season_141 rfl ?_
                                refine gk_if_eq C (tgt := 174) (by omega) dX5_season_143 (by decide) (fun c_143 => ?_) (fun c_143 => ?_)
                                · exact absurd c_143 (by omega)
                                · refine gk_iload C dX5_season_146 rfl ?_
                                  refine gk_iconst C dX5_season_148 ?_
                                  refine gk_icmp_eq C (tgt := 169) (by omega) (by omega) dX5_season_149 (by decide) (fun c_149 => ?_) (fun c_149 => ?_)
                                  · refine gk_iload C dX5_season_169 rfl ?_
                                    refine gk_goto C (tgt := 176) dX5_season_171 (by decide) ?_
                                    refine gk_istore_4 C rfl (by decide) dX5_season_176 ?_
                                    refine gk_iinc_5 C rfl (by decide) dX5_season_178 ?_
                                    refine gk_goto C (tgt := 71) dX5_season_181 (by decide) ?_
                                    exact fin _ _ _ (by omega) (by rw [em]; split <;> omega) (by rw [ef]; split <;> omega)
                                  · refine gk_aload_n C dX5_season_152 rfl ?_
                                    refine mo_getf C I f_X5_89.r dX5_season_153 (by rfl) ?_
                                    try simp only [moS3_ap, moS_ap, Nat.reduceEqDiff, if_true, if_false, reduceIte]
                                    refine gk_iload C dX5_season_156 rfl ?_
                                    refine mo_iald C I (by rfl) dX5_season_158 (by omega) (by omega) ?_
                                    try simp only [moS3_ap, moS_ap, Nat.reduceEqDiff, if_true, if_false, reduceIte]
                                    refine gk_aload_n C dX5_season_159 rfl ?_
                                    refine mo_getf C I f_X5_89.r dX5_season_160 (by rfl) ?_
                                    try simp only [moS3_ap, moS_ap, Nat.reduceEqDiff, if_true, if_false, reduceIte]
                                    refine gk_iload C dX5_season_163 rfl ?_
                                    refine mo_iald C I (by rfl) dX5_season_165 (by omega) (by omega) ?_
                                    try simp only [moS3_ap, moS_ap, Nat.reduceEqDiff, if_true, if_false, reduceIte]
                                    refine gk_icmp_gt C (tgt := 174) (by omega) (by omega) dX5_season_166 (by decide) (fun c_166 => ?_) (fun c_166 => ?_)
                                    · refine gk_iload C dX5_season_174 rfl ?_
                                      refine gk_istore_4 C rfl (by decide) dX5_season_176 ?_
                                      refine gk_iinc_5 C rfl (by decide) dX5_season_178 ?_
                                      refine gk_goto C (tgt := 71) dX5_season_181 (by decide) ?_
                                      exact fin _ _ _ (by omega) (by rw [em]; split <;> omega) (by rw [ef]; split <;> omega)
                                    · refine gk_iload C dX5_season_169 rfl ?_
                                      refine gk_goto C (tgt := 176) dX5_season_171 (by decide) ?_
                                      refine gk_istore_4 C rfl (by decide) dX5_season_176 ?_
                                      refine gk_iinc_5 C rfl (by decide) dX5_season_178 ?_
                                      refine gk_goto C (tgt := 71) dX5_season_181 (by decide) ?_
                                      exact fin _ _ _ (by omega) (by rw [em]; split <;> omega) (by rw [ef]; split <;> omega)
                              · refine gk_aload_n C dX5_season_118 rfl ?_
                                refine mo_getf C I f_X5_89.r dX5_season_119 (by rfl) ?_
                                try simp only [moS3_ap, moS_ap, Nat.reduceEqDiff, if_true, if_false, reduceIte]
                                refine gk_iload C dX5_season_122 rfl ?_
                                refine mo_iald C I (by rfl) dX5_season_124 (by omega) (by omega) ?_
                                try simp only [moS3_ap, moS_ap, Nat.reduceEqDiff, if_true, if_false, reduceIte]
                                refine gk_aload_n C dX5_season_125 rfl ?_
                                refine mo_getf C I f_X5_89.r dX5_season_126 (by rfl) ?_
                                try simp only [moS3_ap, moS_ap, Nat.reduceEqDiff, if_true, if_false, reduceIte]
                                refine gk_iload_n C dX5_season_129 rfl ?_
                                refine mo_iald C I (by rfl) dX5_season_130 (by omega) (by omega) ?_
                                try simp only [moS3_ap, moS_ap, Nat.reduceEqDiff, if_true, if_false, reduceIte]
                                refine gk_icmp_le C (tgt := 139) (by omega) (by omega) dX5_season_131 (by decide) (fun c_131 => ?_) (fun c_131 => ?_)
                                · refine gk_iload_n C dX5_season_139 rfl ?_
                                  refine gk_istore_n_3 C rfl (by decide) dX5_season_140 ?_
                                  refine gk_iload C dX5_season_141 rfl ?_
                                  refine gk_if_eq C (tgt := 174) (by omega) dX5_season_143 (by decide) (fun c_143 => ?_) (fun c_143 => ?_)
                                  · exact absurd c_143 (by omega)
                                  · refine gk_iload C dX5_season_146 rfl ?_
                                    refine gk_iconst C dX5_season_148 ?_
                                    refine gk_icmp_eq C (tgt := 169) (by omega) (by omega) dX5_season_149 (by decide) (fun c_149 => ?_) (fun c_149 => ?_)
                                    · refine gk_iload C dX5_season_169 rfl ?_
                                      refine gk_goto C (tgt := 176) dX5_season_171 (by decide) ?_
                                      refine gk_istore_4 C rfl (by decide) dX5_season_176 ?_
                                      refine gk_iinc_5 C rfl (by decide) dX5_season_178 ?_
                                      refine gk_goto C (tgt := 71) dX5_season_181 (by decide) ?_
                                      exact fin _ _ _ (by omega) (by rw [em]; split <;> omega) (by rw [ef]; split <;> omega)
                                    · refine gk_aload_n C dX5_season_152 rfl ?_
                                      refine mo_getf C I f_X5_89.r dX5_season_153 (by rfl) ?_
                                      try simp only [moS3_ap, moS_ap, Nat.reduceEqDiff, if_true, if_false, reduceIte]
                                      refine gk_iload C dX5_season_156 rfl ?_
                                      refine mo_iald C I (by rfl) dX5_season_158 (by omega) (by omega) ?_
                                      try simp only [moS3_ap, moS_ap, Nat.reduceEqDiff, if_true, if_false, reduceIte]
                                      refine gk_aload_n C dX5_season_159 rfl ?_
                                      refine mo_getf C I f_X5_89.r dX5_season_160 (by rfl) ?_
                                      try simp only [moS3_ap, moS_ap, Nat.reduceEqDiff, if_true, if_false, reduceIte]
                                      refine gk_iload C dX5_season_163 rfl ?_
                                      refine mo_iald C I (by rfl) dX5_season_165 (by omega) (by omega) ?_
                                      try simp only [moS3_ap, moS_ap, Nat.reduceEqDiff, if_true, if_false, reduceIte]
                                      refine gk_icmp_gt C (tgt := 174) (by omega) (by omega) dX5_season_166 (by decide) (fun c_166 => ?_) (fun c_166 => ?_)
                                      · refine gk_iload C dX5_season_174 rfl ?_
                                        refine gk_istore_4 C rfl (by decide) dX5_season_176 ?_
                                        refine gk_iinc_5 C rfl (by decide) dX5_season_178 ?_
                                        refine gk_goto C (tgt := 71) dX5_season_181 (by decide) ?_
                                        exact fin _ _ _ (by omega) (by rw [em]; split <;> omega) (by rw [ef]; split <;> omega)
                                      · refine gk_iload C dX5_season_169 rfl ?_
                                        refine gk_goto C (tgt := 176) dX5_season_171 (by decide) ?_
                                        refine gk_istore_4 C rfl (by decide) dX5_season_176 ?_
                                        refine gk_iinc_5 C rfl (by decide) dX5_season_178 ?_
                                        refine gk_goto C (tgt := 71) dX5_season_181 (by decide) ?_
                                        exact fin _ _ _ (by omega) (by rw [em]; split <;> omega) (by rw [ef]; split <;> omega)
                                · refine gk_iload C dX5_season_134 rfl ?_
                                  refine gk_goto C (tgt := 140) dX5_season_136 (by decide) ?_
                                  refine gk_istore_n_3 C rfl (by decide) dX5_season_140 ?_
                                  refine gk_iload C dX5_season_141 rfl ?_
                                  refine gk_if_eq C (tgt := 174) (by omega) dX5_season_143 (by decide) (fun c_143 => ?_) (fun c_143 => ?_)
                                  · exact absurd c_143 (by omega)
                                  · refine gk_iload C dX5_season_146 rfl ?_
                                    refine gk_iconst C dX5_season_148 ?_
                                    refine gk_icmp_eq C (tgt := 169) (by omega) (by omega) dX5_season_149 (by decide) (fun c_149 => ?_) (fun c_149 => ?_)
                                    · refine gk_iload C dX5_season_169 rfl ?_
                                      refine gk_goto C (tgt := 176) dX5_season_171 (by decide) ?_
                                      refine gk_istore_4 C rfl (by decide) dX5_season_176 ?_
                                      refine gk_iinc_5 C rfl (by decide) dX5_season_178 ?_
                                      refine gk_goto C (tgt := 71) dX5_season_181 (by decide) ?_
                                      exact fin _ _ _ (by omega) (by rw [em]; split <;> omega) (by rw [ef]; split <;> omega)
                                    · refine gk_aload_n C dX5_season_152 rfl ?_
                                      refine mo_getf C I f_X5_89.r dX5_season_153 (by rfl) ?_
                                      try simp only [moS3_ap, moS_ap, Nat.reduceEqDiff, if_true, if_false, reduceIte]
                                      refine gk_iload C dX5_season_156 rfl ?_
                                      refine mo_iald C I (by rfl) dX5_season_158 (by omega) (by omega) ?_
                                      try simp only [moS3_ap, moS_ap, Nat.reduceEqDiff, if_true, if_false, reduceIte]
                                      refine gk_aload_n C dX5_season_159 rfl ?_
                                      refine mo_getf C I f_X5_89.r dX5_season_160 (by rfl) ?_
                                      try simp only [moS3_ap, moS_ap, Nat.reduceEqDiff, if_true, if_false, reduceIte]
                                      refine gk_iload C dX5_season_163 rfl ?_
                                      refine mo_iald C I (by rfl) dX5_season_165 (by omega) (by omega) ?_
                                      try simp only [moS3_ap, moS_ap, Nat.reduceEqDiff, if_true, if_false, reduceIte]
                                      refine gk_icmp_gt C (tgt := 174) (by omega) (by omega) dX5_season_166 (by decide) (fun c_166 => ?_) (fun c_166 => ?_)
                                      · refine gk_iload C dX5_season_174 rfl ?_
                                        refine gk_istore_4 C rfl (by decide) dX5_season_176 ?_
                                        refine gk_iinc_5 C rfl (by decide) dX5_season_178 ?_
                                        refine gk_goto C (tgt := 71) dX5_season_181 (by decide) ?_
                                        exact fin _ _ _ (by omega) (by rw [em]; split <;> omega) (by rw [ef]; split <;> omega)
                                      · refine gk_iload C dX5_season_169 rfl ?_
                                        refine gk_goto C (tgt := 176) dX5_season_171 (by decide) ?_
                                        refine gk_istore_4 C rfl (by decide) dX5_season_176 ?_
                                        refine gk_iinc_5 C rfl (by decide) dX5_season_178 ?_
                                        refine gk_goto C (tgt := 71) dX5_season_181 (by decide) ?_
                                        exact fin _ _ _ (by omega) (by rw [em]; split <;> omega) (by rw [ef]; split <;> omega)
                  exact key3 9 0 _ (by omega) (by omega)
            exact key2 6 0 _ _ _ _ (by omega) (by omega)
          · refine gk_aload_n C dX5_season_35 rfl ?_
            refine mo_getf C I f_X5_101.r dX5_season_36 (by rfl) ?_
            try simp only [moS3_ap, moS_ap, Nat.reduceEqDiff, if_true, if_false, reduceIte]
            refine gk_iload_n C dX5_season_39 rfl ?_
            refine gk_aload_n C dX5_season_40 rfl ?_
            refine mo_getf C I f_X5_86.r dX5_season_41 (by rfl) ?_
            try simp only [moS3_ap, moS_ap, Nat.reduceEqDiff, if_true, if_false, reduceIte]
            refine gk_iload_n C dX5_season_44 rfl ?_
            refine mo_iald C I (by rfl) dX5_season_45 (by omega) (by omega) ?_
            try simp only [moS3_ap, moS_ap, Nat.reduceEqDiff, if_true, if_false, reduceIte]
            refine mo_iast C I (by rfl) dX5_season_46 (by omega) (by omega) ?_
            refine gk_iinc_1 C rfl (by decide) dX5_season_47 ?_
            refine gk_goto C (tgt := 27) dX5_season_50 (by decide) ?_
            rw [moS_moS]
            exact ih (k + 1) _ _ _ _ _ (by omega) (by omega)
      have h9 := key 9 0 none none none none none (by omega) (by omega)
      rw [show cpN s0 0 = s0 35 from rfl, moS_self] at h9
      exact h9
    · exact absurd c_20 (by omega)
  · refine gk_iconst C dX5_season_8 ?_
    refine gk_goto C (tgt := 13) dX5_season_9 (by decide) ?_
    refine mo_putf C I f_X5_107 (by decide) dX5_season_13 ?_
    refine gk_aload_n C dX5_season_16 rfl ?_
    refine mo_getf C I f_X5_107.r dX5_season_17 (by rfl) ?_
    try simp only [moS3_ap, moS_ap, Nat.reduceEqDiff, if_true, if_false, reduceIte]
    refine gk_if_le C (tgt := 25) (by omega) dX5_season_20 (by decide) (fun c_20 => ?_) (fun c_20 => ?_)
    · exact absurd c_20 (by omega)
    · refine gk_iconst C dX5_season_23 ?_
      refine (R _ _ _ _ _ (by decide) (by decide)).1 _ rfl dX5_season_24 ?_
      exact ⟨_, _, rfl, rfl, Or.inl ⟨by omega, rfl, rfl⟩⟩
