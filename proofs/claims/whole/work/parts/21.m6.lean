/-! the reference: pipers -/
def mPit (s : MS) (i : Int) : Int := s 18 i + s 21 i + 2 * s 19 i + 3 * s 22 i - s 23 i
theorem mPit_bd {s : MS} (V : VM s) (i : Int) : -400 ≤ mPit s i ∧ mPit s i ≤ 600 := by
  have h1 := V.at 18 i rfl
  have h2 := V.at 21 i rfl
  have h3 := V.at 19 i rfl
  have h4 := V.at 22 i rfl
  have h5 := V.at 23 i rfl
  unfold mPit
  omega
def mLo (s : MS) (w : Int) : Nat → Int
  | 0 => 1000000
  | k + 1 => if s 24 k = 0 ∧ ¬ (k : Int) = w then (if mPit s k < mLo s w k then mPit s k else mLo s w k) else mLo s w k
def mHi (s : MS) (w : Int) : Nat → Int
  | 0 => -1000000
  | k + 1 => if s 24 k = 0 ∧ ¬ (k : Int) = w then (if mHi s w k < mPit s k then mPit s k else mHi s w k) else mHi s w k
theorem mLo_bd {s : MS} (V : VM s) (w : Int) : ∀ k : Nat, -400 ≤ mLo s w k ∧ mLo s w k ≤ 1000000
  | 0 => ⟨by show (-400 : Int) ≤ 1000000; omega, Int.le_refl _⟩
  | k + 1 => by
    have h1 := mLo_bd V w k
    have h2 := mPit_bd V k
    unfold mLo
    (repeat' split) <;> omega
theorem mHi_bd {s : MS} (V : VM s) (w : Int) : ∀ k : Nat, -1000000 ≤ mHi s w k ∧ mHi s w k ≤ 600
  | 0 => ⟨Int.le_refl _, by show (-1000000 : Int) ≤ 600; omega⟩
  | k + 1 => by
    have h1 := mHi_bd V w k
    have h2 := mPit_bd V k
    unfold mHi
    (repeat' split) <;> omega
def mSpr (s : MS) (w : Int) : Int := if mHi s w (s 17 0).toNat < mLo s w (s 17 0).toNat then 0 else mHi s w (s 17 0).toNat - mLo s w (s 17 0).toNat
theorem gupd_self {f : Int → Int} {i : Int} : gupd f i (f i) = f := by
  funext j
  by_cases c : j = i
  · rw [c, gupd_eq]
  · rw [gupd_ne c]
/-- a minute of piper i -/
def mQ (s : MS) (i rain heat : Int) : Int × Int × Int := pStep (s 20 i) (s 24 i) rain heat (s 18 i, s 22 i, s 23 i)
def mGo (s : MS) (i rain heat : Int) : MS := moS (moS (moS s 23 (gupd (s 23) i (mQ s i rain heat).2.2)) 22 (gupd (s 22) i (mQ s i rain heat).2.1)) 18 (gupd (s 18) i (mQ s i rain heat).1)
theorem mQ_ok {s : MS} (V : VM s) (i : Int) {rain heat : Int} (hr : 0 ≤ rain ∧ rain ≤ 9) (hh : 0 ≤ heat ∧ heat ≤ 40) : pOk (mQ s i rain heat) :=
  pStep_ok ⟨V.at 18 i rfl, V.at 22 i rfl, V.at 23 i rfl⟩ (V.at 20 i rfl) hr hh
theorem VM_go {s : MS} (V : VM s) (i : Int) {rain heat : Int} (hr : 0 ≤ rain ∧ rain ≤ 9) (hh : 0 ≤ heat ∧ heat ≤ 40) : VM (mGo s i rain heat) := by
  have h := mQ_ok V i hr hh
  have V1 := V.one (j := 23) (z := i) rfl h.2.2
  have V2 := V1.one (j := 22) (z := i) rfl h.2.1
  exact V2.one (j := 18) (z := i) rfl h.1
def mGoK (s : MS) (rain heat : Int) : Nat → MS
  | 0 => s
  | k + 1 => mGo (mGoK s rain heat k) k rain heat
theorem VM_goK {s : MS} (V : VM s) {rain heat : Int} (hr : 0 ≤ rain ∧ rain ≤ 9) (hh : 0 ≤ heat ∧ heat ≤ 40) : ∀ k : Nat, VM (mGoK s rain heat k)
  | 0 => V
  | k + 1 => VM_go (VM_goK V hr hh k) k hr hh
/-- these rows alone change -/
def mP3 (k : Nat) : Bool := [18, 22, 23].contains k
theorem mGoK_ne {s : MS} {rain heat : Int} {j : Nat} (hj : mP3 j = false) : ∀ k : Nat, mGoK s rain heat k j = s j
  | 0 => rfl
  | k + 1 => by
    have ih := mGoK_ne (s := s) (rain := rain) (heat := heat) hj k
    show mGo (mGoK s rain heat k) k rain heat j = _
    unfold mGo
    rw [moS_ne (fun z => by rw [z] at hj; cases hj), moS_ne (fun z => by rw [z] at hj; cases hj), moS_ne (fun z => by rw [z] at hj; cases hj), ih]
def mGoM (s : MS) (rain heat : Int) : Nat → MS
  | 0 => s
  | m + 1 => mGoK (mGoM s rain heat m) rain heat (s 17 0).toNat
theorem VM_goM {s : MS} (V : VM s) {rain heat : Int} (hr : 0 ≤ rain ∧ rain ≤ 9) (hh : 0 ≤ heat ∧ heat ≤ 40) : ∀ m : Nat, VM (mGoM s rain heat m)
  | 0 => V
  | m + 1 => VM_goK (VM_goM V hr hh m) hr hh _
theorem mGoM_ne {s : MS} {rain heat : Int} {j : Nat} (hj : mP3 j = false) : ∀ m : Nat, mGoM s rain heat m j = s j
  | 0 => rfl
  | m + 1 => (mGoK_ne hj _).trans (mGoM_ne hj m)
def MPiper (s : MS) (a b c r : Int) (s2 : MS) : Prop :=
  (¬ ((-100 ≤ a ∧ a ≤ 100) ∧ (10 ≤ b ∧ b ≤ 40) ∧ (0 ≤ c ∧ c ≤ 9)) ∧ r = 0 ∧ s2 = moS s 39 (fun _ => 1)) ∨
  (((-100 ≤ a ∧ a ≤ 100) ∧ (10 ≤ b ∧ b ≤ 40) ∧ (0 ≤ c ∧ c ≤ 9)) ∧ s 17 0 = 8 ∧ r = 0 ∧ s2 = moS s 39 (fun _ => 2)) ∨
  (((-100 ≤ a ∧ a ≤ 100) ∧ (10 ≤ b ∧ b ≤ 40) ∧ (0 ≤ c ∧ c ≤ 9)) ∧ ¬ s 17 0 = 8 ∧ r = s 17 0 ∧
    s2 = moS (moS (moS (moS (moS s 39 (fun _ => 0)) 18 (gupd (s 18) (s 17 0) a)) 19 (gupd (s 19) (s 17 0) b)) 20 (gupd (s 20) (s 17 0) c)) 17 (fun _ => s 17 0 + 1))
def MSeat (s : MS) (p b r : Int) (s2 : MS) : Prop :=
  (¬ (0 ≤ p ∧ p < s 17 0) ∧ r = 0 ∧ s2 = moS s 39 (fun _ => 1)) ∨ ((0 ≤ p ∧ p < s 17 0) ∧ ¬ ((-100 ≤ b ∧ b ≤ 100) ∧ (-100 ≤ s 21 p + b ∧ s 21 p + b ≤ 100)) ∧ r = 0 ∧ s2 = moS s 39 (fun _ => 2)) ∨
  ((0 ≤ p ∧ p < s 17 0) ∧ ((-100 ≤ b ∧ b ≤ 100) ∧ (-100 ≤ s 21 p + b ∧ s 21 p + b ≤ 100)) ∧ r = s 21 p + b ∧ s2 = moS (moS s 39 (fun _ => 0)) 21 (gupd (s 21) p (s 21 p + b)))
def MRest (s : MS) (p b r : Int) (s2 : MS) : Prop :=
  (¬ (0 ≤ p ∧ p < s 17 0) ∧ r = 0 ∧ s2 = moS s 39 (fun _ => 1)) ∨ ((0 ≤ p ∧ p < s 17 0) ∧ r = s 24 p ∧ s2 = moS (moS s 39 (fun _ => 0)) 24 (gupd (s 24) p b))
def isMin (m rain heat : Int) : Prop := (1 ≤ m ∧ m ≤ 120) ∧ (0 ≤ rain ∧ rain ≤ 9) ∧ (0 ≤ heat ∧ heat ≤ 40)
def MPlay (s : MS) (m rain heat r : Int) (s2 : MS) : Prop :=
  (¬ isMin m rain heat ∧ r = 0 ∧ s2 = moS s 39 (fun _ => 1)) ∨ (isMin m rain heat ∧ r = mSpr (mGoM (moS s 39 (fun _ => 0)) rain heat m.toNat) (-1) ∧ s2 = mGoM (moS s 39 (fun _ => 0)) rain heat m.toNat)

set_option maxRecDepth 100000 in
set_option maxHeartbeats 4000000 in
theorem m_isPiper {l : Launch} {Γ : GA} (hfl : l.stackTraces = false) {ad : Nat → Nat} (I : IM ad) {s : MS} (V : VM s) {z : Int} (hz : -2147483648 ≤ z ∧ z ≤ 2147483647) : Ct l Γ m_X5_isPiper [.ref (ad 40), iv z] (HM ad s) (fun v h' => ∃ r : Int, v = some (iv r) ∧ (r = 0 ∨ r = 1) ∧ (r = 1 ↔ 0 ≤ z ∧ z < s 17 0) ∧ h' = HM ad s) (fun _ _ => False) := by
  have b0 := V.at 17 0 rfl
  refine Ct.intro hfl (by decide +kernel) rfl (Nat.le_of_ble_eq_true rfl) ?_
  intro G C R T
  show G 0 [some (.ref (ad 40)), some (iv z)] [] (HM ad s) 0 0
  refine gk_iload_n C dX5_isPiper_0 rfl ?_
  refine gk_iconst C dX5_isPiper_1 ?_
  refine gk_aload_n C dX5_isPiper_2 rfl ?_
  refine mo_getf C I f_X5_168.r dX5_isPiper_3 (by rfl) ?_
  refine gk_iconst C dX5_isPiper_6 ?_
  refine gk_isub C dX5_isPiper_7 ?_
  refine gk_callS C o_X5_isIn k_X5_114 dX5_isPiper_8 (m_X5_isIn_c hfl hz (by omega) (by omega)) rfl rfl (by decide) (by decide) (by exact Nat.le_of_ble_eq_true rfl) (fun _ _ z => z.elim) (fun v_8 h_8 p_8 => ?_)
  obtain ⟨r_8, rfl, rb_8, rc_8, rfl⟩ := p_8
  dsimp only [gk_push]
  refine (R _ _ _ _ _ (by decide) (by decide)).2.1 _ rfl (by omega) dX5_isPiper_11 ?_
  exact ⟨_, rfl, by omega, by omega, rfl⟩

set_option maxRecDepth 100000 in
set_option maxHeartbeats 4000000 in
theorem m_piper {l : Launch} {Γ : GA} (hfl : l.stackTraces = false) {ad : Nat → Nat} (I : IM ad) {s : MS} (V : VM s) {a b c : Int} (ha : -2147483648 ≤ a ∧ a ≤ 2147483647) (hb : -2147483648 ≤ b ∧ b ≤ 2147483647) (hc : -2147483648 ≤ c ∧ c ≤ 2147483647) : Ct l Γ m_X5_piper [.ref (ad 40), iv a, iv b, iv c] (HM ad s) (fun v h' => ∃ (r : Int) (s2 : MS), v = some (iv r) ∧ h' = HM ad s2 ∧ MPiper s a b c r s2) (fun _ _ => False) := by
  have b0 := V.at 17 0 rfl
  refine Ct.intro hfl (by decide +kernel) rfl (Nat.le_of_ble_eq_true rfl) ?_
  intro G C R T
  show G 0 [some (.ref (ad 40)), some (iv a), some (iv b), some (iv c)] [] (HM ad s) 0 0
  refine gk_aload_n C dX5_piper_0 rfl ?_
  refine gk_iload_n C dX5_piper_1 rfl ?_
  refine gk_bipush C dX5_piper_2 (by decide) ?_
  refine gk_bipush C dX5_piper_4 (by decide) ?_
  refine gk_callS C o_X5_isIn k_X5_114 dX5_piper_6 (m_X5_isIn_c hfl ha (by omega) (by omega)) rfl rfl (by decide) (by decide) (by exact Nat.le_of_ble_eq_true rfl) (fun _ _ z => z.elim) (fun v_6 h_6 p_6 => ?_)
  obtain ⟨r_6, rfl, rb_6, rc_6, rfl⟩ := p_6
  dsimp only [gk_push]
  refine gk_if_eq C (tgt := 33) (by omega) dX5_piper_9 (by decide) (fun c_9 => ?_) (fun c_9 => ?_)
  · refine gk_iconst C dX5_piper_33 ?_
    refine gk_goto C (tgt := 51) dX5_piper_34 (by decide) ?_
    refine mo_putf C I f_X5_107 (by decide) dX5_piper_51 ?_
    refine gk_aload_n C dX5_piper_54 rfl ?_
    refine mo_getf C I f_X5_107.r dX5_piper_55 (by rfl) ?_
    try simp only [moS3_ap, moS_ap, Nat.reduceEqDiff, if_true, if_false, reduceIte]
    refine gk_if_le C (tgt := 63) (by omega) dX5_piper_58 (by decide) (fun c_58 => ?_) (fun c_58 => ?_)
    · exact absurd c_58 (by omega)
    · refine gk_iconst C dX5_piper_61 ?_
      refine (R _ _ _ _ _ (by decide) (by decide)).1 _ rfl dX5_piper_62 ?_
      first | exact ⟨_, _, rfl, rfl, Or.inl ⟨by omega, rfl, rfl⟩⟩ | exact ⟨_, _, rfl, rfl, Or.inr (Or.inl ⟨by omega, by omega, rfl, rfl⟩)⟩
  · refine gk_iload_n C dX5_piper_12 rfl ?_
    refine gk_bipush C dX5_piper_13 (by decide) ?_
    refine gk_bipush C dX5_piper_15 (by decide) ?_
    refine gk_callS C o_X5_isIn k_X5_114 dX5_piper_17 (m_X5_isIn_c hfl hb (by omega) (by omega)) rfl rfl (by decide) (by decide) (by exact Nat.le_of_ble_eq_true rfl) (fun _ _ z => z.elim) (fun v_17 h_17 p_17 => ?_)
    obtain ⟨r_17, rfl, rb_17, rc_17, rfl⟩ := p_17
    dsimp only [gk_push]
    refine gk_if_eq C (tgt := 33) (by omega) dX5_piper_20 (by decide) (fun c_20 => ?_) (fun c_20 => ?_)
    · refine gk_iconst C dX5_piper_33 ?_
      refine gk_goto C (tgt := 51) dX5_piper_34 (by decide) ?_
      refine mo_putf C I f_X5_107 (by decide) dX5_piper_51 ?_
      refine gk_aload_n C dX5_piper_54 rfl ?_
      refine mo_getf C I f_X5_107.r dX5_piper_55 (by rfl) ?_
      try simp only [moS3_ap, moS_ap, Nat.reduceEqDiff, if_true, if_false, reduceIte]
      refine gk_if_le C (tgt := 63) (by omega) dX5_piper_58 (by decide) (fun c_58 => ?_) (fun c_58 => ?_)
      · exact absurd c_58 (by omega)
      · refine gk_iconst C dX5_piper_61 ?_
        refine (R _ _ _ _ _ (by decide) (by decide)).1 _ rfl dX5_piper_62 ?_
        first | exact ⟨_, _, rfl, rfl, Or.inl ⟨by omega, rfl, rfl⟩⟩ | exact ⟨_, _, rfl, rfl, Or.inr (Or.inl ⟨by omega, by omega, rfl, rfl⟩)⟩
    · refine gk_iload_n C dX5_piper_23 rfl ?_
      refine gk_iconst C dX5_piper_24 ?_
      refine gk_bipush C dX5_piper_25 (by decide) ?_
      refine gk_callS C o_X5_isIn k_X5_114 dX5_piper_27 (m_X5_isIn_c hfl hc (by omega) (by omega)) rfl rfl (by decide) (by decide) (by exact Nat.le_of_ble_eq_true rfl) (fun _ _ z => z.elim) (fun v_27 h_27 p_27 => ?_)
      obtain ⟨r_27, rfl, rb_27, rc_27, rfl⟩ := p_27
      dsimp only [gk_push]
      refine gk_if_ne C (tgt := 37) (by omega) dX5_piper_30 (by decide) (fun c_30 => ?_) (fun c_30 => ?_)
      · refine gk_aload_n C dX5_piper_37 rfl ?_
        refine mo_getf C I f_X5_168.r dX5_piper_38 (by rfl) ?_
        refine gk_bipush C dX5_piper_41 (by decide) ?_
        refine gk_icmp_ne C (tgt := 50) (by omega) (by omega) dX5_piper_43 (by decide) (fun c_43 => ?_) (fun c_43 => ?_)
        · refine gk_iconst C dX5_piper_50 ?_
          refine mo_putf C I f_X5_107 (by decide) dX5_piper_51 ?_
          refine gk_aload_n C dX5_piper_54 rfl ?_
          refine mo_getf C I f_X5_107.r dX5_piper_55 (by rfl) ?_
          try simp only [moS3_ap, moS_ap, Nat.reduceEqDiff, if_true, if_false, reduceIte]
          refine gk_if_le C (tgt := 63) (by omega) dX5_piper_58 (by decide) (fun c_58 => ?_) (fun c_58 => ?_)
          · refine gk_aload_n C dX5_piper_63 rfl ?_
            refine mo_getf C I f_X5_53.r dX5_piper_64 (by rfl) ?_
            try simp only [moS3_ap, moS_ap, Nat.reduceEqDiff, if_true, if_false, reduceIte]
            refine gk_aload_n C dX5_piper_67 rfl ?_
            refine mo_getf C I f_X5_168.r dX5_piper_68 (by rfl) ?_
            try simp only [moS3_ap, moS_ap, Nat.reduceEqDiff, if_true, if_false, reduceIte]
            refine gk_iload_n C dX5_piper_71 rfl ?_
            refine mo_iast C I (by rfl) dX5_piper_72 (by omega) (by omega) ?_
            refine gk_aload_n C dX5_piper_73 rfl ?_
            refine mo_getf C I f_X5_56.r dX5_piper_74 (by rfl) ?_
            try simp only [moS3_ap, moS_ap, Nat.reduceEqDiff, if_true, if_false, reduceIte]
            refine gk_aload_n C dX5_piper_77 rfl ?_
            refine mo_getf C I f_X5_168.r dX5_piper_78 (by rfl) ?_
            try simp only [moS3_ap, moS_ap, Nat.reduceEqDiff, if_true, if_false, reduceIte]
            refine gk_iload_n C dX5_piper_81 rfl ?_
            refine mo_iast C I (by rfl) dX5_piper_82 (by omega) (by omega) ?_
            refine gk_aload_n C dX5_piper_83 rfl ?_
            refine mo_getf C I f_X5_59.r dX5_piper_84 (by rfl) ?_
            try simp only [moS3_ap, moS_ap, Nat.reduceEqDiff, if_true, if_false, reduceIte]
            refine gk_aload_n C dX5_piper_87 rfl ?_
            refine mo_getf C I f_X5_168.r dX5_piper_88 (by rfl) ?_
            try simp only [moS3_ap, moS_ap, Nat.reduceEqDiff, if_true, if_false, reduceIte]
            refine gk_iload_n C dX5_piper_91 rfl ?_
            refine mo_iast C I (by rfl) dX5_piper_92 (by omega) (by omega) ?_
            refine gk_aload_n C dX5_piper_93 rfl ?_
            refine gk_dup C rfl dX5_piper_94 ?_
            refine mo_getf C I f_X5_168.r dX5_piper_95 (by rfl) ?_
            try simp only [moS3_ap, moS_ap, Nat.reduceEqDiff, if_true, if_false, reduceIte]
            refine gk_iconst C dX5_piper_98 ?_
            refine gk_iadd C dX5_piper_99 ?_
            refine mo_putf C I f_X5_168 (by decide) dX5_piper_100 ?_
            refine gk_aload_n C dX5_piper_103 rfl ?_
            refine mo_getf C I f_X5_168.r dX5_piper_104 (by rfl) ?_
            try simp only [moS3_ap, moS_ap, Nat.reduceEqDiff, if_true, if_false, reduceIte]
            refine gk_iconst C dX5_piper_107 ?_
            refine gk_isub C dX5_piper_108 ?_
            refine (R _ _ _ _ _ (by decide) (by decide)).1 _ rfl dX5_piper_109 ?_
            exact ⟨_, _, rfl, rfl, Or.inr (Or.inr ⟨by omega, by omega, by omega, rfl⟩)⟩
          · exact absurd c_58 (by omega)
        · refine gk_iconst C dX5_piper_46 ?_
          refine gk_goto C (tgt := 51) dX5_piper_47 (by decide) ?_
          refine mo_putf C I f_X5_107 (by decide) dX5_piper_51 ?_
          refine gk_aload_n C dX5_piper_54 rfl ?_
          refine mo_getf C I f_X5_107.r dX5_piper_55 (by rfl) ?_
          try simp only [moS3_ap, moS_ap, Nat.reduceEqDiff, if_true, if_false, reduceIte]
          refine gk_if_le C (tgt := 63) (by omega) dX5_piper_58 (by decide) (fun c_58 => ?_) (fun c_58 => ?_)
          · exact absurd c_58 (by omega)
          · refine gk_iconst C dX5_piper_61 ?_
            refine (R _ _ _ _ _ (by decide) (by decide)).1 _ rfl dX5_piper_62 ?_
            first | exact ⟨_, _, rfl, rfl, Or.inl ⟨by omega, rfl, rfl⟩⟩ | exact ⟨_, _, rfl, rfl, Or.inr (Or.inl ⟨by omega, by omega, rfl, rfl⟩)⟩
      · refine gk_iconst C dX5_piper_33 ?_
        refine gk_goto C (tgt := 51) dX5_piper_34 (by decide) ?_
        refine mo_putf C I f_X5_107 (by decide) dX5_piper_51 ?_
        refine gk_aload_n C dX5_piper_54 rfl ?_
        refine mo_getf C I f_X5_107.r dX5_piper_55 (by rfl) ?_
        try simp only [moS3_ap, moS_ap, Nat.reduceEqDiff, if_true, if_false, reduceIte]
        refine gk_if_le C (tgt := 63) (by omega) dX5_piper_58 (by decide) (fun c_58 => ?_) (fun c_58 => ?_)
        · exact absurd c_58 (by omega)
        · refine gk_iconst C dX5_piper_61 ?_
          refine (R _ _ _ _ _ (by decide) (by decide)).1 _ rfl dX5_piper_62 ?_
          first | exact ⟨_, _, rfl, rfl, Or.inl ⟨by omega, rfl, rfl⟩⟩ | exact ⟨_, _, rfl, rfl, Or.inr (Or.inl ⟨by omega, by omega, rfl, rfl⟩)⟩

set_option maxRecDepth 100000 in
set_option maxHeartbeats 4000000 in
theorem m_seat {l : Launch} {Γ : GA} (hfl : l.stackTraces = false) {ad : Nat → Nat} (I : IM ad) {s : MS} (V : VM s) {p b : Int} (hp : -2147483648 ≤ p ∧ p ≤ 2147483647) (hb : -2147483648 ≤ b ∧ b ≤ 2147483647) : Ct l Γ m_X5_seat [.ref (ad 40), iv p, iv b] (HM ad s) (fun v h' => ∃ (r : Int) (s2 : MS), v = some (iv r) ∧ h' = HM ad s2 ∧ MSeat s p b r s2) (fun _ _ => False) := by
  have b0 := V.at 17 0 rfl
  have b21 := V.at 21 p rfl
  refine Ct.intro hfl (by decide +kernel) rfl (Nat.le_of_ble_eq_true rfl) ?_
  intro G C R T
  show G 0 [some (.ref (ad 40)), some (iv p), some (iv b)] [] (HM ad s) 0 0
  refine gk_aload_n C dX5_seat_0 rfl ?_
  refine gk_aload_n C dX5_seat_1 rfl ?_
  refine gk_iload_n C dX5_seat_2 rfl ?_
  refine gk_callV C o_X5_isPiper k_X5_171 dX5_seat_3 (m_isPiper hfl I V hp) (mo_obj I) rfl rfl rfl (by decide) (by decide) (by exact Nat.le_of_ble_eq_true rfl) (fun _ _ z => z.elim) (fun v_3 h_3 p_3 => ?_)
  obtain ⟨r_3, rfl, rb_3, rc_3, rfl⟩ := p_3
  dsimp only [gk_push]
  refine gk_if_ne C (tgt := 13) (by omega) dX5_seat_6 (by decide) (fun c_6 => ?_) (fun c_6 => ?_)
  · refine gk_iload_n C dX5_seat_13 rfl ?_
    refine gk_bipush C dX5_seat_14 (by decide) ?_
    refine gk_bipush C dX5_seat_16 (by decide) ?_
    refine gk_callS C o_X5_isIn k_X5_114 dX5_seat_18 (m_X5_isIn_c hfl hb (by omega) (by omega)) rfl rfl (by decide) (by decide) (by exact Nat.le_of_ble_eq_true rfl) (fun _ _ z => z.elim) (fun v_18 h_18 p_18 => ?_)
    obtain ⟨r_18, rfl, rb_18, rc_18, rfl⟩ := p_18
    dsimp only [gk_push]
    refine gk_if_eq C (tgt := 42) (by omega) dX5_seat_21 (by decide) (fun c_21 => ?_) (fun c_21 => ?_)
    · refine gk_iconst C dX5_seat_42 ?_
      refine gk_goto C (tgt := 47) dX5_seat_43 (by decide) ?_
      refine mo_putf C I f_X5_107 (by decide) dX5_seat_47 ?_
      refine gk_aload_n C dX5_seat_50 rfl ?_
      refine mo_getf C I f_X5_107.r dX5_seat_51 (by rfl) ?_
      try simp only [moS3_ap, moS_ap, Nat.reduceEqDiff, if_true, if_false, reduceIte]
      refine gk_if_le C (tgt := 59) (by omega) dX5_seat_54 (by decide) (fun c_54 => ?_) (fun c_54 => ?_)
      · exact absurd c_54 (by omega)
      · refine gk_iconst C dX5_seat_57 ?_
        refine (R _ _ _ _ _ (by decide) (by decide)).1 _ rfl dX5_seat_58 ?_
        first | exact ⟨_, _, rfl, rfl, Or.inl ⟨by omega, rfl, rfl⟩⟩ | exact ⟨_, _, rfl, rfl, Or.inr (Or.inl ⟨by omega, by omega, rfl, rfl⟩)⟩
    · refine gk_aload_n C dX5_seat_24 rfl ?_
      refine mo_getf C I f_X5_62.r dX5_seat_25 (by rfl) ?_
      refine gk_iload_n C dX5_seat_28 rfl ?_
      refine mo_iald C I (by rfl) dX5_seat_29 (by omega) (by omega) ?_
      refine gk_iload_n C dX5_seat_30 rfl ?_
      refine gk_iadd C dX5_seat_31 ?_
      refine gk_bipush C dX5_seat_32 (by decide) ?_
      refine gk_bipush C dX5_seat_34 (by decide) ?_
      refine gk_callS C o_X5_isIn k_X5_114 dX5_seat_36 (m_X5_isIn_c hfl (z := s 21 p + b) (by omega) (by omega) (by omega)) rfl rfl (by decide) (by decide) (by exact Nat.le_of_ble_eq_true rfl) (fun _ _ z => z.elim) (fun v_36 h_36 p_36 => ?_)
      obtain ⟨r_36, rfl, rb_36, rc_36, rfl⟩ := p_36
      dsimp only [gk_push]
      refine gk_if_ne C (tgt := 46) (by omega) dX5_seat_39 (by decide) (fun c_39 => ?_) (fun c_39 => ?_)
      · refine gk_iconst C dX5_seat_46 ?_
        refine mo_putf C I f_X5_107 (by decide) dX5_seat_47 ?_
        refine gk_aload_n C dX5_seat_50 rfl ?_
        refine mo_getf C I f_X5_107.r dX5_seat_51 (by rfl) ?_
        try simp only [moS3_ap, moS_ap, Nat.reduceEqDiff, if_true, if_false, reduceIte]
        refine gk_if_le C (tgt := 59) (by omega) dX5_seat_54 (by decide) (fun c_54 => ?_) (fun c_54 => ?_)
        · refine gk_aload_n C dX5_seat_59 rfl ?_
          refine mo_getf C I f_X5_62.r dX5_seat_60 (by rfl) ?_
          try simp only [moS3_ap, moS_ap, Nat.reduceEqDiff, if_true, if_false, reduceIte]
          refine gk_iload_n C dX5_seat_63 rfl ?_
          refine gk_dup2 C rfl rfl dX5_seat_64 ?_
          refine mo_iald C I (by rfl) dX5_seat_65 (by omega) (by omega) ?_
          try simp only [moS3_ap, moS_ap, Nat.reduceEqDiff, if_true, if_false, reduceIte]
          refine gk_iload_n C dX5_seat_66 rfl ?_
          refine gk_iadd C dX5_seat_67 ?_
          refine mo_iast C I (by rfl) dX5_seat_68 (by omega) (by omega) ?_
          refine gk_aload_n C dX5_seat_69 rfl ?_
          refine mo_getf C I f_X5_62.r dX5_seat_70 (by rfl) ?_
          try simp only [moS3_ap, moS_ap, Nat.reduceEqDiff, if_true, if_false, reduceIte]
          refine gk_iload_n C dX5_seat_73 rfl ?_
          refine mo_iald C I (by rfl) dX5_seat_74 (by omega) (by omega) ?_
          try simp only [moS3_ap, moS_ap, Nat.reduceEqDiff, if_true, if_false, reduceIte]
          refine (R _ _ _ _ _ (by decide) (by decide)).1 _ rfl dX5_seat_75 ?_
          exact ⟨_, _, rfl, rfl, Or.inr (Or.inr ⟨by omega, by omega, by rw [gupd_eq], rfl⟩)⟩
        · exact absurd c_54 (by omega)
      · refine gk_iconst C dX5_seat_42 ?_
        refine gk_goto C (tgt := 47) dX5_seat_43 (by decide) ?_
        refine mo_putf C I f_X5_107 (by decide) dX5_seat_47 ?_
        refine gk_aload_n C dX5_seat_50 rfl ?_
        refine mo_getf C I f_X5_107.r dX5_seat_51 (by rfl) ?_
        try simp only [moS3_ap, moS_ap, Nat.reduceEqDiff, if_true, if_false, reduceIte]
        refine gk_if_le C (tgt := 59) (by omega) dX5_seat_54 (by decide) (fun c_54 => ?_) (fun c_54 => ?_)
        · exact absurd c_54 (by omega)
        · refine gk_iconst C dX5_seat_57 ?_
          refine (R _ _ _ _ _ (by decide) (by decide)).1 _ rfl dX5_seat_58 ?_
          first | exact ⟨_, _, rfl, rfl, Or.inl ⟨by omega, rfl, rfl⟩⟩ | exact ⟨_, _, rfl, rfl, Or.inr (Or.inl ⟨by omega, by omega, rfl, rfl⟩)⟩
  · refine gk_iconst C dX5_seat_9 ?_
    refine gk_goto C (tgt := 47) dX5_seat_10 (by decide) ?_
    refine mo_putf C I f_X5_107 (by decide) dX5_seat_47 ?_
    refine gk_aload_n C dX5_seat_50 rfl ?_
    refine mo_getf C I f_X5_107.r dX5_seat_51 (by rfl) ?_
    try simp only [moS3_ap, moS_ap, Nat.reduceEqDiff, if_true, if_false, reduceIte]
    refine gk_if_le C (tgt := 59) (by omega) dX5_seat_54 (by decide) (fun c_54 => ?_) (fun c_54 => ?_)
    · exact absurd c_54 (by omega)
    · refine gk_iconst C dX5_seat_57 ?_
      refine (R _ _ _ _ _ (by decide) (by decide)).1 _ rfl dX5_seat_58 ?_
      first | exact ⟨_, _, rfl, rfl, Or.inl ⟨by omega, rfl, rfl⟩⟩ | exact ⟨_, _, rfl, rfl, Or.inr (Or.inl ⟨by omega, by omega, rfl, rfl⟩)⟩

set_option maxRecDepth 100000 in
set_option maxHeartbeats 4000000 in
theorem m_rest {l : Launch} {Γ : GA} (hfl : l.stackTraces = false) {ad : Nat → Nat} (I : IM ad) {s : MS} (V : VM s) {p b : Int} (hp : -2147483648 ≤ p ∧ p ≤ 2147483647) (hb : b = 0 ∨ b = 1) : Ct l Γ m_X5_rest [.ref (ad 40), iv p, iv b] (HM ad s) (fun v h' => ∃ (r : Int) (s2 : MS), v = some (iv r) ∧ h' = HM ad s2 ∧ MRest s p b r s2) (fun _ _ => False) := by
  have b0 := V.at 17 0 rfl
  have b24 := V.at 24 p rfl
  refine Ct.intro hfl (by decide +kernel) rfl (Nat.le_of_ble_eq_true rfl) ?_
  intro G C R T
  show G 0 [some (.ref (ad 40)), some (iv p), some (iv b), none] [] (HM ad s) 0 0
  refine gk_aload_n C dX5_rest_0 rfl ?_
  refine gk_aload_n C dX5_rest_1 rfl ?_
  refine gk_iload_n C dX5_rest_2 rfl ?_
  refine gk_callV C o_X5_isPiper k_X5_171 dX5_rest_3 (m_isPiper hfl I V hp) (mo_obj I) rfl rfl rfl (by decide) (by decide) (by exact Nat.le_of_ble_eq_true rfl) (fun _ _ z => z.elim) (fun v_3 h_3 p_3 => ?_)
  obtain ⟨r_3, rfl, rb_3, rc_3, rfl⟩ := p_3
  dsimp only [gk_push]
  refine gk_if_eq C (tgt := 13) (by omega) dX5_rest_6 (by decide) (fun c_6 => ?_) (fun c_6 => ?_)
  · refine gk_iconst C dX5_rest_13 ?_
    refine mo_putf C I f_X5_107 (by decide) dX5_rest_14 ?_
    refine gk_aload_n C dX5_rest_17 rfl ?_
    refine mo_getf C I f_X5_107.r dX5_rest_18 (by rfl) ?_
    try simp only [moS3_ap, moS_ap, Nat.reduceEqDiff, if_true, if_false, reduceIte]
    refine gk_if_le C (tgt := 26) (by omega) dX5_rest_21 (by decide) (fun c_21 => ?_) (fun c_21 => ?_)
    · exact absurd c_21 (by omega)
    · refine gk_iconst C dX5_rest_24 ?_
      refine (R _ _ _ _ _ (by decide) (by decide)).2.1 _ rfl (by omega) dX5_rest_25 ?_
      exact ⟨_, _, rfl, rfl, Or.inl ⟨by omega, rfl, rfl⟩⟩
  · refine gk_iconst C dX5_rest_9 ?_
    refine gk_goto C (tgt := 14) dX5_rest_10 (by decide) ?_
    refine mo_putf C I f_X5_107 (by decide) dX5_rest_14 ?_
    refine gk_aload_n C dX5_rest_17 rfl ?_
    refine mo_getf C I f_X5_107.r dX5_rest_18 (by rfl) ?_
    try simp only [moS3_ap, moS_ap, Nat.reduceEqDiff, if_true, if_false, reduceIte]
    refine gk_if_le C (tgt := 26) (by omega) dX5_rest_21 (by decide) (fun c_21 => ?_) (fun c_21 => ?_)
    · refine gk_aload_n C dX5_rest_26 rfl ?_
      refine mo_getf C I f_X5_71.r dX5_rest_27 (by rfl) ?_
      try simp only [moS3_ap, moS_ap, Nat.reduceEqDiff, if_true, if_false, reduceIte]
      refine gk_iload_n C dX5_rest_30 rfl ?_
      refine mo_zald C I (by rfl) dX5_rest_31 (by omega) (by omega) ?_
      try simp only [moS3_ap, moS_ap, Nat.reduceEqDiff, if_true, if_false, reduceIte]
      refine gk_istore_n_3 C rfl (by decide) dX5_rest_32 ?_
      refine gk_aload_n C dX5_rest_33 rfl ?_
      refine mo_getf C I f_X5_71.r dX5_rest_34 (by rfl) ?_
      try simp only [moS3_ap, moS_ap, Nat.reduceEqDiff, if_true, if_false, reduceIte]
      refine gk_iload_n C dX5_rest_37 rfl ?_
      refine gk_iload_n C dX5_rest_38 rfl ?_
      refine mo_zast C I hb (by rfl) dX5_rest_39 (by omega) (by omega) ?_
      refine gk_iload_n C dX5_rest_40 rfl ?_
      refine (R _ _ _ _ _ (by decide) (by decide)).2.1 _ rfl (by omega) dX5_rest_41 ?_
      exact ⟨_, _, rfl, rfl, Or.inr ⟨by omega, rfl, rfl⟩⟩
    · exact absurd c_21 (by omega)

set_option maxRecDepth 100000 in
set_option maxHeartbeats 4000000 in
theorem m_pitch {l : Launch} {Γ : GA} (hfl : l.stackTraces = false) {ad : Nat → Nat} (I : IM ad) {s : MS} (V : VM s) {i : Int} (hi : 0 ≤ i ∧ i < 8) : Ct l Γ m_X5_pitch [.ref (ad 40), iv i] (HM ad s) (fun v h' => v = some (iv (mPit s i)) ∧ h' = HM ad s) (fun _ _ => False) := by
  refine Ct.intro hfl (by decide +kernel) rfl (Nat.le_of_ble_eq_true rfl) ?_
  intro G C R T
  show G 0 [some (.ref (ad 40)), some (iv i)] [] (HM ad s) 0 0
  refine gk_aload_n C dX5_pitch_0 rfl ?_
  refine mo_getf C I f_X5_53.r dX5_pitch_1 (by rfl) ?_
  refine gk_iload_n C dX5_pitch_4 rfl ?_
  refine mo_iald C I (by rfl) dX5_pitch_5 (by omega) (by omega) ?_
  refine gk_aload_n C dX5_pitch_6 rfl ?_
  refine mo_getf C I f_X5_62.r dX5_pitch_7 (by rfl) ?_
  refine gk_iload_n C dX5_pitch_10 rfl ?_
  refine mo_iald C I (by rfl) dX5_pitch_11 (by omega) (by omega) ?_
  refine gk_iadd C dX5_pitch_12 ?_
  refine gk_iconst C dX5_pitch_13 ?_
  refine gk_aload_n C dX5_pitch_14 rfl ?_
  refine mo_getf C I f_X5_56.r dX5_pitch_15 (by rfl) ?_
  refine gk_iload_n C dX5_pitch_18 rfl ?_
  refine mo_iald C I (by rfl) dX5_pitch_19 (by omega) (by omega) ?_
  refine gk_imul C dX5_pitch_20 ?_
  refine gk_iadd C dX5_pitch_21 ?_
  refine gk_iconst C dX5_pitch_22 ?_
  refine gk_aload_n C dX5_pitch_23 rfl ?_
  refine mo_getf C I f_X5_65.r dX5_pitch_24 (by rfl) ?_
  refine gk_iload_n C dX5_pitch_27 rfl ?_
  refine mo_iald C I (by rfl) dX5_pitch_28 (by omega) (by omega) ?_
  refine gk_imul C dX5_pitch_29 ?_
  refine gk_iadd C dX5_pitch_30 ?_
  refine gk_aload_n C dX5_pitch_31 rfl ?_
  refine mo_getf C I f_X5_68.r dX5_pitch_32 (by rfl) ?_
  refine gk_iload_n C dX5_pitch_35 rfl ?_
  refine mo_iald C I (by rfl) dX5_pitch_36 (by omega) (by omega) ?_
  refine gk_isub C dX5_pitch_37 ?_
  refine (R _ _ _ _ _ (by decide) (by decide)).1 _ rfl dX5_pitch_38 ?_
  exact ⟨rfl, rfl⟩

set_option maxRecDepth 100000 in
set_option maxHeartbeats 4000000 in
theorem m_spreadBut {l : Launch} {Γ : GA} (hfl : l.stackTraces = false) {ad : Nat → Nat} (I : IM ad) {s : MS} (V : VM s) {w : Int} (hw : -2147483648 ≤ w ∧ w ≤ 2147483647) : Ct l Γ m_X5_spreadBut [.ref (ad 40), iv w] (HM ad s) (fun v h' => v = some (iv (mSpr s w)) ∧ h' = HM ad s) (fun _ _ => False) := by
  have b0 := V.at 17 0 rfl
  refine Ct.intro hfl (by decide +kernel) rfl (Nat.le_of_ble_eq_true rfl) ?_
  intro G C R T
  show G 0 [some (.ref (ad 40)), some (iv w), none, none, none] [] (HM ad s) 0 0
  refine gk_ldc C cn_X5_174 dX5_spreadBut_0 ?_
  refine gk_istore_n_2 C rfl (by decide) dX5_spreadBut_2 ?_
  refine gk_ldc C cn_X5_175 dX5_spreadBut_3 ?_
  refine gk_istore_n_3 C rfl (by decide) dX5_spreadBut_5 ?_
  refine gk_iconst C dX5_spreadBut_6 ?_
  refine gk_istore_4 C rfl (by decide) dX5_spreadBut_7 ?_
  have key : ∀ (n k : Nat), s 17 0 - k < n → k ≤ s 17 0 → G 9 [some (.ref (ad 40)), some (iv w), some (iv (mLo s w k)), some (iv (mHi s w k)), some (iv (k : Int))] [] (HM ad s) 0 0 := by
    intro n
    induction n with
    | zero => intro k h1; omega
    | succ n ih =>
      intro k hn hk
      have bl := mLo_bd V w k
      have bh := mHi_bd V w k
      have bp := mPit_bd V k
      have b24 := V.at 24 (k : Int) rfl
      have el : mLo s w (k + 1) = if s 24 k = 0 ∧ ¬ (k : Int) = w then (if mPit s k < mLo s w k then mPit s k else mLo s w k) else mLo s w k := rfl
      have eh : mHi s w (k + 1) = if s 24 k = 0 ∧ ¬ (k : Int) = w then (if mHi s w k < mPit s k then mPit s k else mHi s w k) else mHi s w k := rfl
      have fin : ∀ x y : Int, k < s 17 0 → x = mLo s w (k + 1) → y = mHi s w (k + 1) → G 9 [some (.ref (ad 40)), some (iv w), some (iv x), some (iv y), some (iv ((k : Int) + 1))] [] (HM ad s) 0 0 := by
        intro x y hk1 hx hy
        rw [hx, hy]
        exact ih (k + 1) (by omega) (by omega)
      refine gk_iload C dX5_spreadBut_9 rfl ?_
      refine gk_aload_n C dX5_spreadBut_11 rfl ?_
      refine mo_getf C I f_X5_168.r dX5_spreadBut_12 (by rfl) ?_
      refine gk_icmp_ge C (tgt := 82) (by omega) (by omega) dX5_spreadBut_15 (by decide) (fun c_15 => ?_) (fun c_15 => ?_)
      · refine gk_iload_n C dX5_spreadBut_82 rfl ?_
        refine gk_iload_n C dX5_spreadBut_83 rfl ?_
        refine gk_icmp_ge C (tgt := 91) (by omega) (by omega) dX5_spreadBut_84 (by decide) (fun c_84 => ?_) (fun c_84 => ?_)
        · refine gk_iload_n C dX5_spreadBut_91 rfl ?_
          refine gk_iload_n C dX5_spreadBut_92 rfl ?_
          refine gk_isub C dX5_spreadBut_93 ?_
          refine (R _ _ _ _ _ (by decide) (by decide)).1 _ rfl dX5_spreadBut_94 ?_
          refine ⟨congrArg (fun q => some (iv q)) ?_, rfl⟩
          unfold mSpr
          rw [show (s 17 0).toNat = k by omega]
          split <;> omega
        · refine gk_iconst C dX5_spreadBut_87 ?_
          refine gk_goto C (tgt := 94) dX5_spreadBut_88 (by decide) ?_
          refine (R _ _ _ _ _ (by decide) (by decide)).1 _ rfl dX5_spreadBut_94 ?_
          refine ⟨congrArg (fun q => some (iv q)) ?_, rfl⟩
          unfold mSpr
          rw [show (s 17 0).toNat = k by omega]
          split <;> omega
      · refine gk_aload_n C dX5_spreadBut_18 rfl ?_
        refine mo_getf C I f_X5_71.r dX5_spreadBut_19 (by rfl) ?_
        refine gk_iload C dX5_spreadBut_22 rfl ?_
        refine mo_zald C I (by rfl) dX5_spreadBut_24 (by omega) (by omega) ?_
        refine gk_if_ne C (tgt := 76) (by omega) dX5_spreadBut_25 (by decide) (fun c_25 => ?_) (fun c_25 => ?_)
        · refine gk_iinc_4 C rfl (by decide) dX5_spreadBut_76 ?_
          refine gk_goto C (tgt := 9) dX5_spreadBut_79 (by decide) ?_
          exact fin _ _ (by omega) (by rw [el]; (repeat' split) <;> omega) (by rw [eh]; (repeat' split) <;> omega)
        · refine gk_iload C dX5_spreadBut_28 rfl ?_
          refine gk_iload_n C dX5_spreadBut_30 rfl ?_
          refine gk_icmp_eq C (tgt := 76) (by omega) (by omega) dX5_spreadBut_31 (by decide) (fun c_31 => ?_) (fun c_31 => ?_)
          · refine gk_iinc_4 C rfl (by decide) dX5_spreadBut_76 ?_
            refine gk_goto C (tgt := 9) dX5_spreadBut_79 (by decide) ?_
            exact fin _ _ (by omega) (by rw [el]; (repeat' split) <;> omega) (by rw [eh]; (repeat' split) <;> omega)
          · refine gk_aload_n C dX5_spreadBut_34 rfl ?_
            refine gk_iload C dX5_spreadBut_35 rfl ?_
            refine gk_callV C o_X5_pitch k_X5_176 dX5_spreadBut_37 (m_pitch hfl I V (i := (k : Int)) (by omega)) (mo_obj I) rfl rfl rfl (by decide) (by decide) (by exact Nat.le_of_ble_eq_true rfl) (fun _ _ z => z.elim) (fun v_37 h_37 p_37 => ?_)
            obtain ⟨rfl, rfl⟩ := p_37
            dsimp only [gk_push]
            refine gk_iload_n C dX5_spreadBut_40 rfl ?_
            refine gk_icmp_ge C (tgt := 53) (by omega) (by omega) dX5_spreadBut_41 (by decide) (fun c_41 => ?_) (fun c_41 => ?_)
            · refine gk_iload_n C dX5_spreadBut_53 rfl ?_
              refine gk_istore_n_2 C rfl (by decide) dX5_spreadBut_54 ?_
              refine gk_aload_n C dX5_spreadBut_55 rfl ?_
              refine gk_iload C dX5_spreadBut_56 rfl ?_
              refine gk_callV C o_X5_pitch k_X5_176 dX5_spreadBut_58 (m_pitch hfl I V (i := (k : Int)) (by omega)) (mo_obj I) rfl rfl rfl (by decide) (by decide) (by exact Nat.le_of_ble_eq_true rfl) (fun _ _ z => z.elim) (fun v_58 h_58 p_58 => ?_)
              obtain ⟨rfl, rfl⟩ := p_58
              dsimp only [gk_push]
              refine gk_iload_n C dX5_spreadBut_61 rfl ?_
              refine gk_icmp_le C (tgt := 74) (by omega) (by omega) dX5_spreadBut_62 (by decide) (fun c_62 => ?_) (fun c_62 => ?_)
              · refine gk_iload_n C dX5_spreadBut_74 rfl ?_
                refine gk_istore_n_3 C rfl (by decide) dX5_spreadBut_75 ?_
                refine gk_iinc_4 C rfl (by decide) dX5_spreadBut_76 ?_
                refine gk_goto C (tgt := 9) dX5_spreadBut_79 (by decide) ?_
                exact fin _ _ (by omega) (by rw [el]; (repeat' split) <;> omega) (by rw [eh]; (repeat' split) <;> omega)
              · refine gk_aload_n C dX5_spreadBut_65 rfl ?_
                refine gk_iload C dX5_spreadBut_66 rfl ?_
                refine gk_callV C o_X5_pitch k_X5_176 dX5_spreadBut_68 (m_pitch hfl I V (i := (k : Int)) (by omega)) (mo_obj I) rfl rfl rfl (by decide) (by decide) (by exact Nat.le_of_ble_eq_true rfl) (fun _ _ z => z.elim) (fun v_68 h_68 p_68 => ?_)
                obtain ⟨rfl, rfl⟩ := p_68
                dsimp only [gk_push]
                refine gk_goto C (tgt := 75) dX5_spreadBut_71 (by decide) ?_
                refine gk_istore_n_3 C rfl (by decide) dX5_spreadBut_75 ?_
                refine gk_iinc_4 C rfl (by decide) dX5_spreadBut_76 ?_
                refine gk_goto C (tgt := 9) dX5_spreadBut_79 (by decide) ?_
                exact fin _ _ (by omega) (by rw [el]; (repeat' split) <;> omega) (by rw [eh]; (repeat' split) <;> omega)
            · refine gk_aload_n C dX5_spreadBut_44 rfl ?_
              refine gk_iload C dX5_spreadBut_45 rfl ?_
              refine gk_callV C o_X5_pitch k_X5_176 dX5_spreadBut_47 (m_pitch hfl I V (i := (k : Int)) (by omega)) (mo_obj I) rfl rfl rfl (by decide) (by decide) (by exact Nat.le_of_ble_eq_true rfl) (fun _ _ z => z.elim) (fun v_47 h_47 p_47 => ?_)
              obtain ⟨rfl, rfl⟩ := p_47
              dsimp only [gk_push]
              refine gk_goto C (tgt := 54) dX5_spreadBut_50 (by decide) ?_
              refine gk_istore_n_2 C rfl (by decide) dX5_spreadBut_54 ?_
              refine gk_aload_n C dX5_spreadBut_55 rfl ?_
              refine gk_iload C dX5_spreadBut_56 rfl ?_
              refine gk_callV C o_X5_pitch k_X5_176 dX5_spreadBut_58 (m_pitch hfl I V (i := (k : Int)) (by omega)) (mo_obj I) rfl rfl rfl (by decide) (by decide) (by exact Nat.le_of_ble_eq_true rfl) (fun _ _ z => z.elim) (fun v_58 h_58 p_58 => ?_)
              obtain ⟨rfl, rfl⟩ := p_58
              dsimp only [gk_push]
              refine gk_iload_n C dX5_spreadBut_61 rfl ?_
              refine gk_icmp_le C (tgt := 74) (by omega) (by omega) dX5_spreadBut_62 (by decide) (fun c_62 => ?_) (fun c_62 => ?_)
              · refine gk_iload_n C dX5_spreadBut_74 rfl ?_
                refine gk_istore_n_3 C rfl (by decide) dX5_spreadBut_75 ?_
                refine gk_iinc_4 C rfl (by decide) dX5_spreadBut_76 ?_
                refine gk_goto C (tgt := 9) dX5_spreadBut_79 (by decide) ?_
                exact fin _ _ (by omega) (by rw [el]; (repeat' split) <;> omega) (by rw [eh]; (repeat' split) <;> omega)
              · refine gk_aload_n C dX5_spreadBut_65 rfl ?_
                refine gk_iload C dX5_spreadBut_66 rfl ?_
                refine gk_callV C o_X5_pitch k_X5_176 dX5_spreadBut_68 (m_pitch hfl I V (i := (k : Int)) (by omega)) (mo_obj I) rfl rfl rfl (by decide) (by decide) (by exact Nat.le_of_ble_eq_true rfl) (fun _ _ z => z.elim) (fun v_68 h_68 p_68 => ?_)
                obtain ⟨rfl, rfl⟩ := p_68
                dsimp only [gk_push]
                refine gk_goto C (tgt := 75) dX5_spreadBut_71 (by decide) ?_
                refine gk_istore_n_3 C rfl (by decide) dX5_spreadBut_75 ?_
                refine gk_iinc_4 C rfl (by decide) dX5_spreadBut_76 ?_
                refine gk_goto C (tgt := 9) dX5_spreadBut_79 (by decide) ?_
                exact fin _ _ (by omega) (by rw [el]; (repeat' split) <;> omega) (by rw [eh]; (repeat' split) <;> omega)
  exact key 9 0 (by omega) (by omega)

set_option maxRecDepth 100000 in
set_option maxHeartbeats 4000000 in
theorem m_isMinute {l : Launch} {Γ : GA} (hfl : l.stackTraces = false) {h : Hp} {m rain heat : Int} (hm : -2147483648 ≤ m ∧ m ≤ 2147483647)(hrain : -2147483648 ≤ rain ∧ rain ≤ 2147483647)(hheat : -2147483648 ≤ heat ∧ heat ≤ 2147483647) : Ct l Γ m_X5_isMinute [iv m, iv rain, iv heat] h (fun v h' => ∃ r : Int, v = some (iv r) ∧ (r = 0 ∨ r = 1) ∧ (r = 1 ↔ isMin m rain heat) ∧ h' = h) (fun _ _ => False) := by
  refine Ct.intro hfl (by decide +kernel) rfl (Nat.le_of_ble_eq_true rfl) ?_
  intro G C R T
  show G 0 [some (iv m), some (iv rain), some (iv heat)] [] h 0 0
  refine gk_iload_n C dX5_isMinute_0 rfl ?_
  refine gk_iconst C dX5_isMinute_1 ?_
  refine gk_bipush C dX5_isMinute_2 (by decide) ?_
  refine gk_callS C o_X5_isIn k_X5_114 dX5_isMinute_4 (m_X5_isIn_c hfl hm (by omega) (by omega)) rfl rfl (by decide) (by decide) (by exact Nat.le_of_ble_eq_true rfl) (fun _ _ z => z.elim) (fun v_4 h_4 p_4 => ?_)
  obtain ⟨r_4, rfl, rb_4, rc_4, rfl⟩ := p_4
  dsimp only [gk_push]
  refine gk_if_eq C (tgt := 34) (by omega) dX5_isMinute_7 (by decide) (fun c_7 => ?_) (fun c_7 => ?_)
  · refine gk_iconst C dX5_isMinute_34 ?_
    refine (R _ _ _ _ _ (by decide) (by decide)).2.1 _ rfl (by omega) dX5_isMinute_35 ?_
    unfold isMin
    first | exact ⟨1, rfl, by omega, by omega, rfl⟩ | exact ⟨0, rfl, by omega, by omega, rfl⟩
  · refine gk_iload_n C dX5_isMinute_10 rfl ?_
    refine gk_iconst C dX5_isMinute_11 ?_
    refine gk_bipush C dX5_isMinute_12 (by decide) ?_
    refine gk_callS C o_X5_isIn k_X5_114 dX5_isMinute_14 (m_X5_isIn_c hfl hrain (by omega) (by omega)) rfl rfl (by decide) (by decide) (by exact Nat.le_of_ble_eq_true rfl) (fun _ _ z => z.elim) (fun v_14 h_14 p_14 => ?_)
    obtain ⟨r_14, rfl, rb_14, rc_14, rfl⟩ := p_14
    dsimp only [gk_push]
    refine gk_if_eq C (tgt := 34) (by omega) dX5_isMinute_17 (by decide) (fun c_17 => ?_) (fun c_17 => ?_)
    · refine gk_iconst C dX5_isMinute_34 ?_
      refine (R _ _ _ _ _ (by decide) (by decide)).2.1 _ rfl (by omega) dX5_isMinute_35 ?_
      unfold isMin
      first | exact ⟨1, rfl, by omega, by omega, rfl⟩ | exact ⟨0, rfl, by omega, by omega, rfl⟩
    · refine gk_iload_n C dX5_isMinute_20 rfl ?_
      refine gk_iconst C dX5_isMinute_21 ?_
      refine gk_bipush C dX5_isMinute_22 (by decide) ?_
      refine gk_callS C o_X5_isIn k_X5_114 dX5_isMinute_24 (m_X5_isIn_c hfl hheat (by omega) (by omega)) rfl rfl (by decide) (by decide) (by exact Nat.le_of_ble_eq_true rfl) (fun _ _ z => z.elim) (fun v_24 h_24 p_24 => ?_)
      obtain ⟨r_24, rfl, rb_24, rc_24, rfl⟩ := p_24
      dsimp only [gk_push]
      refine gk_if_eq C (tgt := 34) (by omega) dX5_isMinute_27 (by decide) (fun c_27 => ?_) (fun c_27 => ?_)
      · refine gk_iconst C dX5_isMinute_34 ?_
        refine (R _ _ _ _ _ (by decide) (by decide)).2.1 _ rfl (by omega) dX5_isMinute_35 ?_
        unfold isMin
        first | exact ⟨1, rfl, by omega, by omega, rfl⟩ | exact ⟨0, rfl, by omega, by omega, rfl⟩
      · refine gk_iconst C dX5_isMinute_30 ?_
        refine gk_goto C (tgt := 35) dX5_isMinute_31 (by decide) ?_
        refine (R _ _ _ _ _ (by decide) (by decide)).2.1 _ rfl (by omega) dX5_isMinute_35 ?_
        unfold isMin
        first | exact ⟨1, rfl, by omega, by omega, rfl⟩ | exact ⟨0, rfl, by omega, by omega, rfl⟩

set_option maxRecDepth 100000 in
set_option maxHeartbeats 4000000 in
theorem m_goesOn {l : Launch} {Γ : GA} (hfl : l.stackTraces = false) {ad : Nat → Nat} (I : IM ad) {s : MS} (V : VM s) {i rain heat : Int} (hi : 0 ≤ i ∧ i < 8) (hr : 0 ≤ rain ∧ rain ≤ 9) (hh : 0 ≤ heat ∧ heat ≤ 40) : Ct l Γ m_X5_goesOn [.ref (ad 40), iv i, iv rain, iv heat] (HM ad s) (fun v h' => v = none ∧ h' = HM ad (mGo s i rain heat)) (fun _ _ => False) := by
  have b18 := V.at 18 i rfl
  have b20 := V.at 20 i rfl
  have b22 := V.at 22 i rfl
  have b23 := V.at 23 i rfl
  have b24 := V.at 24 i rfl
  have fin : ∀ x y z : Int, x = (mQ s i rain heat).2.2 → y = (mQ s i rain heat).2.1 → z = (mQ s i rain heat).1 → HM ad (moS (moS (moS s 23 (gupd (s 23) i x)) 22 (gupd (s 22) i y)) 18 (gupd (s 18) i z)) = HM ad (mGo s i rain heat) := by
    intro x y z hx hy hz
    rw [hx, hy, hz]
    rfl
  have fin2 : ∀ x y : Int, x = (mQ s i rain heat).2.2 → y = (mQ s i rain heat).2.1 → s 18 i = (mQ s i rain heat).1 → HM ad (moS (moS s 23 (gupd (s 23) i x)) 22 (gupd (s 22) i y)) = HM ad (mGo s i rain heat) := by
    intro x y hx hy hz
    rw [← fin x y _ hx hy hz, gupd_self]
    exact congrArg (HM ad) (moS_self (s := moS (moS s 23 (gupd (s 23) i x)) 22 (gupd (s 22) i y)) (j := 18)).symm
  have eR : ¬ s 24 i = 0 → mQ s i rain heat = pRest (s 18 i, s 22 i, s 23 i) := fun z => by unfold mQ pStep; rw [if_neg z]
  have eP : s 24 i = 0 → mQ s i rain heat = pPlay (s 20 i) rain heat (s 18 i, s 22 i, s 23 i) := fun z => by unfold mQ pStep; rw [if_pos z]
  refine Ct.intro hfl (by decide +kernel) rfl (Nat.le_of_ble_eq_true rfl) ?_
  intro G C R T
  show G 0 [some (.ref (ad 40)), some (iv i), some (iv rain), some (iv heat), none] [] (HM ad s) 0 0
  refine gk_aload_n C dX5_goesOn_0 rfl ?_
  refine mo_getf C I f_X5_71.r dX5_goesOn_1 (by rfl) ?_
  refine gk_iload_n C dX5_goesOn_4 rfl ?_
  refine mo_zald C I (by rfl) dX5_goesOn_5 (by omega) (by omega) ?_
  refine gk_if_eq C (tgt := 63) (by omega) dX5_goesOn_6 (by decide) (fun c_6 => ?_) (fun c_6 => ?_)
  · refine gk_aload_n C dX5_goesOn_63 rfl ?_
    refine mo_getf C I f_X5_68.r dX5_goesOn_64 (by rfl) ?_
    try simp only [moS3_ap, moS_ap, Nat.reduceEqDiff, if_true, if_false, reduceIte]
    refine gk_iload_n C dX5_goesOn_67 rfl ?_
    refine mo_iald C I (by rfl) dX5_goesOn_68 (by omega) (by omega) ?_
    try simp only [moS3_ap, moS_ap, Nat.reduceEqDiff, if_true, if_false, reduceIte]
    refine gk_aload_n C dX5_goesOn_69 rfl ?_
    refine mo_getf C I f_X5_59.r dX5_goesOn_70 (by rfl) ?_
    try simp only [moS3_ap, moS_ap, Nat.reduceEqDiff, if_true, if_false, reduceIte]
    refine gk_iload_n C dX5_goesOn_73 rfl ?_
    refine mo_iald C I (by rfl) dX5_goesOn_74 (by omega) (by omega) ?_
    try simp only [moS3_ap, moS_ap, Nat.reduceEqDiff, if_true, if_false, reduceIte]
    refine gk_iadd C dX5_goesOn_75 ?_
    refine gk_iload_n C dX5_goesOn_76 rfl ?_
    refine gk_iadd C dX5_goesOn_77 ?_
    refine gk_istore_4 C rfl (by decide) dX5_goesOn_78 ?_
    refine gk_aload_n C dX5_goesOn_80 rfl ?_
    refine mo_getf C I f_X5_68.r dX5_goesOn_81 (by rfl) ?_
    try simp only [moS3_ap, moS_ap, Nat.reduceEqDiff, if_true, if_false, reduceIte]
    refine gk_iload_n C dX5_goesOn_84 rfl ?_
    refine gk_iload C dX5_goesOn_85 rfl ?_
    refine gk_bipush C dX5_goesOn_87 (by decide) ?_
    refine gk_icmp_le C (tgt := 97) (by omega) (by omega) dX5_goesOn_89 (by decide) (fun c_89 => ?_) (fun c_89 => ?_)
    · refine gk_iload C dX5_goesOn_97 rfl ?_
      refine mo_iast C I (by rfl) dX5_goesOn_99 (by omega) (by omega) ?_
      refine gk_aload_n C dX5_goesOn_100 rfl ?_
      refine mo_getf C I f_X5_65.r dX5_goesOn_101 (by rfl) ?_
      try simp only [moS3_ap, moS_ap, Nat.reduceEqDiff, if_true, if_false, reduceIte]
      refine gk_iload_n C dX5_goesOn_104 rfl ?_
      refine gk_dup2 C rfl rfl dX5_goesOn_105 ?_
      refine mo_iald C I (by rfl) dX5_goesOn_106 (by omega) (by omega) ?_
      try simp only [moS3_ap, moS_ap, Nat.reduceEqDiff, if_true, if_false, reduceIte]
      refine gk_aload_n C dX5_goesOn_107 rfl ?_
      refine mo_getf C I f_X5_65.r dX5_goesOn_108 (by rfl) ?_
      try simp only [moS3_ap, moS_ap, Nat.reduceEqDiff, if_true, if_false, reduceIte]
      refine gk_iload_n C dX5_goesOn_111 rfl ?_
      refine mo_iald C I (by rfl) dX5_goesOn_112 (by omega) (by omega) ?_
      try simp only [moS3_ap, moS_ap, Nat.reduceEqDiff, if_true, if_false, reduceIte]
      refine gk_iload_n C dX5_goesOn_113 rfl ?_
      refine gk_icmp_ge C (tgt := 121) (by omega) (by omega) dX5_goesOn_114 (by decide) (fun c_114 => ?_) (fun c_114 => ?_)
      · refine gk_aload_n C dX5_goesOn_121 rfl ?_
        refine mo_getf C I f_X5_65.r dX5_goesOn_122 (by rfl) ?_
        try simp only [moS3_ap, moS_ap, Nat.reduceEqDiff, if_true, if_false, reduceIte]
        refine gk_iload_n C dX5_goesOn_125 rfl ?_
        refine mo_iald C I (by rfl) dX5_goesOn_126 (by omega) (by omega) ?_
        try simp only [moS3_ap, moS_ap, Nat.reduceEqDiff, if_true, if_false, reduceIte]
        refine gk_iload_n C dX5_goesOn_127 rfl ?_
        refine gk_icmp_le C (tgt := 135) (by omega) (by omega) dX5_goesOn_128 (by decide) (fun c_128 => ?_) (fun c_128 => ?_)
        · refine gk_iconst C dX5_goesOn_135 ?_
          refine gk_iadd C dX5_goesOn_136 ?_
          refine mo_iast C I (by rfl) dX5_goesOn_137 (by omega) (by omega) ?_
          refine gk_aload_n C dX5_goesOn_138 rfl ?_
          refine mo_getf C I f_X5_53.r dX5_goesOn_139 (by rfl) ?_
          try simp only [moS3_ap, moS_ap, Nat.reduceEqDiff, if_true, if_false, reduceIte]
          refine gk_iload_n C dX5_goesOn_142 rfl ?_
          refine gk_dup2 C rfl rfl dX5_goesOn_143 ?_
          refine mo_iald C I (by rfl) dX5_goesOn_144 (by omega) (by omega) ?_
          try simp only [moS3_ap, moS_ap, Nat.reduceEqDiff, if_true, if_false, reduceIte]
          refine gk_aload_n C dX5_goesOn_145 rfl ?_
          refine mo_getf C I f_X5_68.r dX5_goesOn_146 (by rfl) ?_
          try simp only [moS3_ap, moS_ap, Nat.reduceEqDiff, if_true, if_false, reduceIte]
          refine gk_iload_n C dX5_goesOn_149 rfl ?_
          refine mo_iald C I (by rfl) dX5_goesOn_150 (by omega) (by omega) ?_
          try simp only [moS3_ap, moS_ap, Nat.reduceEqDiff, if_true, if_false, reduceIte]
          rw [gupd_eq]
          refine gk_bipush C dX5_goesOn_151 (by decide) ?_
          refine gk_icmp_ne C (tgt := 171) (by omega) (by omega) dX5_goesOn_153 (by decide) (fun c_153 => ?_) (fun c_153 => ?_)
          · refine gk_iconst C dX5_goesOn_171 ?_
            refine gk_isub C dX5_goesOn_172 ?_
            refine mo_iast C I (by rfl) dX5_goesOn_173 (by omega) (by omega) ?_
            refine (R _ _ _ _ _ (by decide) (by decide)).2.2.1 rfl dX5_goesOn_174 ?_
            refine ⟨rfl, ?_⟩
            first
              | exact fin2 _ _ (by rw [eR (by omega)]; unfold pRest; dsimp only; omega) (by rw [eR (by omega)]; unfold pRest; dsimp only; omega) (by rw [eR (by omega)]; rfl)
              | exact fin _ _ _ (by rw [eP (by omega)]; unfold pPlay; dsimp only; omega) (by rw [eP (by omega)]; unfold pPlay; dsimp only; (repeat' split) <;> omega) (by rw [eP (by omega)]; unfold pPlay; dsimp only; (repeat' split) <;> omega)
          · refine gk_aload_n C dX5_goesOn_156 rfl ?_
            refine mo_getf C I f_X5_53.r dX5_goesOn_157 (by rfl) ?_
            try simp only [moS3_ap, moS_ap, Nat.reduceEqDiff, if_true, if_false, reduceIte]
            refine gk_iload_n C dX5_goesOn_160 rfl ?_
            refine mo_iald C I (by rfl) dX5_goesOn_161 (by omega) (by omega) ?_
            try simp only [moS3_ap, moS_ap, Nat.reduceEqDiff, if_true, if_false, reduceIte]
            refine gk_bipush C dX5_goesOn_162 (by decide) ?_
            refine gk_icmp_le C (tgt := 171) (by omega) (by omega) dX5_goesOn_164 (by decide) (fun c_164 => ?_) (fun c_164 => ?_)
            · refine gk_iconst C dX5_goesOn_171 ?_
              refine gk_isub C dX5_goesOn_172 ?_
              refine mo_iast C I (by rfl) dX5_goesOn_173 (by omega) (by omega) ?_
              refine (R _ _ _ _ _ (by decide) (by decide)).2.2.1 rfl dX5_goesOn_174 ?_
              refine ⟨rfl, ?_⟩
              first
                | exact fin2 _ _ (by rw [eR (by omega)]; unfold pRest; dsimp only; omega) (by rw [eR (by omega)]; unfold pRest; dsimp only; omega) (by rw [eR (by omega)]; rfl)
                | exact fin _ _ _ (by rw [eP (by omega)]; unfold pPlay; dsimp only; omega) (by rw [eP (by omega)]; unfold pPlay; dsimp only; (repeat' split) <;> omega) (by rw [eP (by omega)]; unfold pPlay; dsimp only; (repeat' split) <;> omega)
            · refine gk_iconst C dX5_goesOn_167 ?_
              refine gk_goto C (tgt := 172) dX5_goesOn_168 (by decide) ?_
              refine gk_isub C dX5_goesOn_172 ?_
              refine mo_iast C I (by rfl) dX5_goesOn_173 (by omega) (by omega) ?_
              refine (R _ _ _ _ _ (by decide) (by decide)).2.2.1 rfl dX5_goesOn_174 ?_
              refine ⟨rfl, ?_⟩
              first
                | exact fin2 _ _ (by rw [eR (by omega)]; unfold pRest; dsimp only; omega) (by rw [eR (by omega)]; unfold pRest; dsimp only; omega) (by rw [eR (by omega)]; rfl)
                | exact fin _ _ _ (by rw [eP (by omega)]; unfold pPlay; dsimp only; omega) (by rw [eP (by omega)]; unfold pPlay; dsimp only; (repeat' split) <;> omega) (by rw [eP (by omega)]; unfold pPlay; dsimp only; (repeat' split) <;> omega)
        · refine gk_iconst C dX5_goesOn_131 ?_
          refine gk_goto C (tgt := 136) dX5_goesOn_132 (by decide) ?_
          refine gk_iadd C dX5_goesOn_136 ?_
          refine mo_iast C I (by rfl) dX5_goesOn_137 (by omega) (by omega) ?_
          refine gk_aload_n C dX5_goesOn_138 rfl ?_
          refine mo_getf C I f_X5_53.r dX5_goesOn_139 (by rfl) ?_
          try simp only [moS3_ap, moS_ap, Nat.reduceEqDiff, if_true, if_false, reduceIte]
          refine gk_iload_n C dX5_goesOn_142 rfl ?_
          refine gk_dup2 C rfl rfl dX5_goesOn_143 ?_
          refine mo_iald C I (by rfl) dX5_goesOn_144 (by omega) (by omega) ?_
          try simp only [moS3_ap, moS_ap, Nat.reduceEqDiff, if_true, if_false, reduceIte]
          refine gk_aload_n C dX5_goesOn_145 rfl ?_
          refine mo_getf C I f_X5_68.r dX5_goesOn_146 (by rfl) ?_
          try simp only [moS3_ap, moS_ap, Nat.reduceEqDiff, if_true, if_false, reduceIte]
          refine gk_iload_n C dX5_goesOn_149 rfl ?_
          refine mo_iald C I (by rfl) dX5_goesOn_150 (by omega) (by omega) ?_
          try simp only [moS3_ap, moS_ap, Nat.reduceEqDiff, if_true, if_false, reduceIte]
          rw [gupd_eq]
          refine gk_bipush C dX5_goesOn_151 (by decide) ?_
          refine gk_icmp_ne C (tgt := 171) (by omega) (by omega) dX5_goesOn_153 (by decide) (fun c_153 => ?_) (fun c_153 => ?_)
          · refine gk_iconst C dX5_goesOn_171 ?_
            refine gk_isub C dX5_goesOn_172 ?_
            refine mo_iast C I (by rfl) dX5_goesOn_173 (by omega) (by omega) ?_
            refine (R _ _ _ _ _ (by decide) (by decide)).2.2.1 rfl dX5_goesOn_174 ?_
            refine ⟨rfl, ?_⟩
            first
              | exact fin2 _ _ (by rw [eR (by omega)]; unfold pRest; dsimp only; omega) (by rw [eR (by omega)]; unfold pRest; dsimp only; omega) (by rw [eR (by omega)]; rfl)
              | exact fin _ _ _ (by rw [eP (by omega)]; unfold pPlay; dsimp only; omega) (by rw [eP (by omega)]; unfold pPlay; dsimp only; (repeat' split) <;> omega) (by rw [eP (by omega)]; unfold pPlay; dsimp only; (repeat' split) <;> omega)
          · refine gk_aload_n C dX5_goesOn_156 rfl ?_
            refine mo_getf C I f_X5_53.r dX5_goesOn_157 (by rfl) ?_
            try simp only [moS3_ap, moS_ap, Nat.reduceEqDiff, if_true, if_false, reduceIte]
            refine gk_iload_n C dX5_goesOn_160 rfl ?_
            refine mo_iald C I (by rfl) dX5_goesOn_161 (by omega) (by omega) ?_
            try simp only [moS3_ap, moS_ap, Nat.reduceEqDiff, if_true, if_false, reduceIte]
            refine gk_bipush C dX5_goesOn_162 (by decide) ?_
            refine gk_icmp_le C (tgt := 171) (by omega) (by omega) dX5_goesOn_164 (by decide) (fun c_164 => ?_) (fun c_164 => ?_)
            · refine gk_iconst C dX5_goesOn_171 ?_
              refine gk_isub C dX5_goesOn_172 ?_
              refine mo_iast C I (by rfl) dX5_goesOn_173 (by omega) (by omega) ?_
              refine (R _ _ _ _ _ (by decide) (by decide)).2.2.1 rfl dX5_goesOn_174 ?_
              refine ⟨rfl, ?_⟩
              first
                | exact fin2 _ _ (by rw [eR (by omega)]; unfold pRest; dsimp only; omega) (by rw [eR (by omega)]; unfold pRest; dsimp only; omega) (by rw [eR (by omega)]; rfl)
                | exact fin _ _ _ (by rw [eP (by omega)]; unfold pPlay; dsimp only; omega) (by rw [eP (by omega)]; unfold pPlay; dsimp only; (repeat' split) <;> omega) (by rw [eP (by omega)]; unfold pPlay; dsimp only; (repeat' split) <;> omega)
            · refine gk_iconst C dX5_goesOn_167 ?_
              refine gk_goto C (tgt := 172) dX5_goesOn_168 (by decide) ?_
              refine gk_isub C dX5_goesOn_172 ?_
              refine mo_iast C I (by rfl) dX5_goesOn_173 (by omega) (by omega) ?_
              refine (R _ _ _ _ _ (by decide) (by decide)).2.2.1 rfl dX5_goesOn_174 ?_
              refine ⟨rfl, ?_⟩
              first
                | exact fin2 _ _ (by rw [eR (by omega)]; unfold pRest; dsimp only; omega) (by rw [eR (by omega)]; unfold pRest; dsimp only; omega) (by rw [eR (by omega)]; rfl)
                | exact fin _ _ _ (by rw [eP (by omega)]; unfold pPlay; dsimp only; omega) (by rw [eP (by omega)]; unfold pPlay; dsimp only; (repeat' split) <;> omega) (by rw [eP (by omega)]; unfold pPlay; dsimp only; (repeat' split) <;> omega)
      · refine gk_iconst C dX5_goesOn_117 ?_
        refine gk_goto C (tgt := 136) dX5_goesOn_118 (by decide) ?_
        refine gk_iadd C dX5_goesOn_136 ?_
        refine mo_iast C I (by rfl) dX5_goesOn_137 (by omega) (by omega) ?_
        refine gk_aload_n C dX5_goesOn_138 rfl ?_
        refine mo_getf C I f_X5_53.r dX5_goesOn_139 (by rfl) ?_
        try simp only [moS3_ap, moS_ap, Nat.reduceEqDiff, if_true, if_false, reduceIte]
        refine gk_iload_n C dX5_goesOn_142 rfl ?_
        refine gk_dup2 C rfl rfl dX5_goesOn_143 ?_
        refine mo_iald C I (by rfl) dX5_goesOn_144 (by omega) (by omega) ?_
        try simp only [moS3_ap, moS_ap, Nat.reduceEqDiff, if_true, if_false, reduceIte]
        refine gk_aload_n C dX5_goesOn_145 rfl ?_
        refine mo_getf C I f_X5_68.r dX5_goesOn_146 (by rfl) ?_
        try simp only [moS3_ap, moS_ap, Nat.reduceEqDiff, if_true, if_false, reduceIte]
        refine gk_iload_n C dX5_goesOn_149 rfl ?_
        refine mo_iald C I (by rfl) dX5_goesOn_150 (by omega) (by omega) ?_
        try simp only [moS3_ap, moS_ap, Nat.reduceEqDiff, if_true, if_false, reduceIte]
        rw [gupd_eq]
        refine gk_bipush C dX5_goesOn_151 (by decide) ?_
        refine gk_icmp_ne C (tgt := 171) (by omega) (by omega) dX5_goesOn_153 (by decide) (fun c_153 => ?_) (fun c_153 => ?_)
        · refine gk_iconst C dX5_goesOn_171 ?_
          refine gk_isub C dX5_goesOn_172 ?_
          refine mo_iast C I (by rfl) dX5_goesOn_173 (by omega) (by omega) ?_
          refine (R _ _ _ _ _ (by decide) (by decide)).2.2.1 rfl dX5_goesOn_174 ?_
          refine ⟨rfl, ?_⟩
          first
            | exact fin2 _ _ (by rw [eR (by omega)]; unfold pRest; dsimp only; omega) (by rw [eR (by omega)]; unfold pRest; dsimp only; omega) (by rw [eR (by omega)]; rfl)
            | exact fin _ _ _ (by rw [eP (by omega)]; unfold pPlay; dsimp only; omega) (by rw [eP (by omega)]; unfold pPlay; dsimp only; (repeat' split) <;> omega) (by rw [eP (by omega)]; unfold pPlay; dsimp only; (repeat' split) <;> omega)
        · refine gk_aload_n C dX5_goesOn_156 rfl ?_
          refine mo_getf C I f_X5_53.r dX5_goesOn_157 (by rfl) ?_
          try simp only [moS3_ap, moS_ap, Nat.reduceEqDiff, if_true, if_false, reduceIte]
          refine gk_iload_n C dX5_goesOn_160 rfl ?_
          refine mo_iald C I (by rfl) dX5_goesOn_161 (by omega) (by omega) ?_
          try simp only [moS3_ap, moS_ap, Nat.reduceEqDiff, if_true, if_false, reduceIte]
          refine gk_bipush C dX5_goesOn_162 (by decide) ?_
          refine gk_icmp_le C (tgt := 171) (by omega) (by omega) dX5_goesOn_164 (by decide) (fun c_164 => ?_) (fun c_164 => ?_)
          · refine gk_iconst C dX5_goesOn_171 ?_
            refine gk_isub C dX5_goesOn_172 ?_
            refine mo_iast C I (by rfl) dX5_goesOn_173 (by omega) (by omega) ?_
            refine (R _ _ _ _ _ (by decide) (by decide)).2.2.1 rfl dX5_goesOn_174 ?_
            refine ⟨rfl, ?_⟩
            first
              | exact fin2 _ _ (by rw [eR (by omega)]; unfold pRest; dsimp only; omega) (by rw [eR (by omega)]; unfold pRest; dsimp only; omega) (by rw [eR (by omega)]; rfl)
              | exact fin _ _ _ (by rw [eP (by omega)]; unfold pPlay; dsimp only; omega) (by rw [eP (by omega)]; unfold pPlay; dsimp only; (repeat' split) <;> omega) (by rw [eP (by omega)]; unfold pPlay; dsimp only; (repeat' split) <;> omega)
          · refine gk_iconst C dX5_goesOn_167 ?_
            refine gk_goto C (tgt := 172) dX5_goesOn_168 (by decide) ?_
            refine gk_isub C dX5_goesOn_172 ?_
            refine mo_iast C I (by rfl) dX5_goesOn_173 (by omega) (by omega) ?_
            refine (R _ _ _ _ _ (by decide) (by decide)).2.2.1 rfl dX5_goesOn_174 ?_
            refine ⟨rfl, ?_⟩
            first
              | exact fin2 _ _ (by rw [eR (by omega)]; unfold pRest; dsimp only; omega) (by rw [eR (by omega)]; unfold pRest; dsimp only; omega) (by rw [eR (by omega)]; rfl)
              | exact fin _ _ _ (by rw [eP (by omega)]; unfold pPlay; dsimp only; omega) (by rw [eP (by omega)]; unfold pPlay; dsimp only; (repeat' split) <;> omega) (by rw [eP (by omega)]; unfold pPlay; dsimp only; (repeat' split) <;> omega)
    · refine gk_bipush C dX5_goesOn_92 (by decide) ?_
      refine gk_goto C (tgt := 99) dX5_goesOn_94 (by decide) ?_
      refine mo_iast C I (by rfl) dX5_goesOn_99 (by omega) (by omega) ?_
      refine gk_aload_n C dX5_goesOn_100 rfl ?_
      refine mo_getf C I f_X5_65.r dX5_goesOn_101 (by rfl) ?_
      try simp only [moS3_ap, moS_ap, Nat.reduceEqDiff, if_true, if_false, reduceIte]
      refine gk_iload_n C dX5_goesOn_104 rfl ?_
      refine gk_dup2 C rfl rfl dX5_goesOn_105 ?_
      refine mo_iald C I (by rfl) dX5_goesOn_106 (by omega) (by omega) ?_
      try simp only [moS3_ap, moS_ap, Nat.reduceEqDiff, if_true, if_false, reduceIte]
      refine gk_aload_n C dX5_goesOn_107 rfl ?_
      refine mo_getf C I f_X5_65.r dX5_goesOn_108 (by rfl) ?_
      try simp only [moS3_ap, moS_ap, Nat.reduceEqDiff, if_true, if_false, reduceIte]
      refine gk_iload_n C dX5_goesOn_111 rfl ?_
      refine mo_iald C I (by rfl) dX5_goesOn_112 (by omega) (by omega) ?_
      try simp only [moS3_ap, moS_ap, Nat.reduceEqDiff, if_true, if_false, reduceIte]
      refine gk_iload_n C dX5_goesOn_113 rfl ?_
      refine gk_icmp_ge C (tgt := 121) (by omega) (by omega) dX5_goesOn_114 (by decide) (fun c_114 => ?_) (fun c_114 => ?_)
      · refine gk_aload_n C dX5_goesOn_121 rfl ?_
        refine mo_getf C I f_X5_65.r dX5_goesOn_122 (by rfl) ?_
        try simp only [moS3_ap, moS_ap, Nat.reduceEqDiff, if_true, if_false, reduceIte]
        refine gk_iload_n C dX5_goesOn_125 rfl ?_
        refine mo_iald C I (by rfl) dX5_goesOn_126 (by omega) (by omega) ?_
        try simp only [moS3_ap, moS_ap, Nat.reduceEqDiff, if_true, if_false, reduceIte]
        refine gk_iload_n C dX5_goesOn_127 rfl ?_
        refine gk_icmp_le C (tgt := 135) (by omega) (by omega) dX5_goesOn_128 (by decide) (fun c_128 => ?_) (fun c_128 => ?_)
        · refine gk_iconst C dX5_goesOn_135 ?_
          refine gk_iadd C dX5_goesOn_136 ?_
          refine mo_iast C I (by rfl) dX5_goesOn_137 (by omega) (by omega) ?_
          refine gk_aload_n C dX5_goesOn_138 rfl ?_
          refine mo_getf C I f_X5_53.r dX5_goesOn_139 (by rfl) ?_
          try simp only [moS3_ap, moS_ap, Nat.reduceEqDiff, if_true, if_false, reduceIte]
          refine gk_iload_n C dX5_goesOn_142 rfl ?_
          refine gk_dup2 C rfl rfl dX5_goesOn_143 ?_
          refine mo_iald C I (by rfl) dX5_goesOn_144 (by omega) (by omega) ?_
          try simp only [moS3_ap, moS_ap, Nat.reduceEqDiff, if_true, if_false, reduceIte]
          refine gk_aload_n C dX5_goesOn_145 rfl ?_
          refine mo_getf C I f_X5_68.r dX5_goesOn_146 (by rfl) ?_
          try simp only [moS3_ap, moS_ap, Nat.reduceEqDiff, if_true, if_false, reduceIte]
          refine gk_iload_n C dX5_goesOn_149 rfl ?_
          refine mo_iald C I (by rfl) dX5_goesOn_150 (by omega) (by omega) ?_
          try simp only [moS3_ap, moS_ap, Nat.reduceEqDiff, if_true, if_false, reduceIte]
          rw [gupd_eq]
          refine gk_bipush C dX5_goesOn_151 (by decide) ?_
          refine gk_icmp_ne C (tgt := 171) (by omega) (by omega) dX5_goesOn_153 (by decide) (fun c_153 => ?_) (fun c_153 => ?_)
          · refine gk_iconst C dX5_goesOn_171 ?_
            refine gk_isub C dX5_goesOn_172 ?_
            refine mo_iast C I (by rfl) dX5_goesOn_173 (by omega) (by omega) ?_
            refine (R _ _ _ _ _ (by decide) (by decide)).2.2.1 rfl dX5_goesOn_174 ?_
            refine ⟨rfl, ?_⟩
            first
              | exact fin2 _ _ (by rw [eR (by omega)]; unfold pRest; dsimp only; omega) (by rw [eR (by omega)]; unfold pRest; dsimp only; omega) (by rw [eR (by omega)]; rfl)
              | exact fin _ _ _ (by rw [eP (by omega)]; unfold pPlay; dsimp only; omega) (by rw [eP (by omega)]; unfold pPlay; dsimp only; (repeat' split) <;> omega) (by rw [eP (by omega)]; unfold pPlay; dsimp only; (repeat' split) <;> omega)
          · refine gk_aload_n C dX5_goesOn_156 rfl ?_
            refine mo_getf C I f_X5_53.r dX5_goesOn_157 (by rfl) ?_
            try simp only [moS3_ap, moS_ap, Nat.reduceEqDiff, if_true, if_false, reduceIte]
            refine gk_iload_n C dX5_goesOn_160 rfl ?_
            refine mo_iald C I (by rfl) dX5_goesOn_161 (by omega) (by omega) ?_
            try simp only [moS3_ap, moS_ap, Nat.reduceEqDiff, if_true, if_false, reduceIte]
            refine gk_bipush C dX5_goesOn_162 (by decide) ?_
            refine gk_icmp_le C (tgt := 171) (by omega) (by omega) dX5_goesOn_164 (by decide) (fun c_164 => ?_) (fun c_164 => ?_)
            · refine gk_iconst C dX5_goesOn_171 ?_
              refine gk_isub C dX5_goesOn_172 ?_
              refine mo_iast C I (by rfl) dX5_goesOn_173 (by omega) (by omega) ?_
              refine (R _ _ _ _ _ (by decide) (by decide)).2.2.1 rfl dX5_goesOn_174 ?_
              refine ⟨rfl, ?_⟩
              first
                | exact fin2 _ _ (by rw [eR (by omega)]; unfold pRest; dsimp only; omega) (by rw [eR (by omega)]; unfold pRest; dsimp only; omega) (by rw [eR (by omega)]; rfl)
                | exact fin _ _ _ (by rw [eP (by omega)]; unfold pPlay; dsimp only; omega) (by rw [eP (by omega)]; unfold pPlay; dsimp only; (repeat' split) <;> omega) (by rw [eP (by omega)]; unfold pPlay; dsimp only; (repeat' split) <;> omega)
            · refine gk_iconst C dX5_goesOn_167 ?_
              refine gk_goto C (tgt := 172) dX5_goesOn_168 (by decide) ?_
              refine gk_isub C dX5_goesOn_172 ?_
              refine mo_iast C I (by rfl) dX5_goesOn_173 (by omega) (by omega) ?_
              refine (R _ _ _ _ _ (by decide) (by decide)).2.2.1 rfl dX5_goesOn_174 ?_
              refine ⟨rfl, ?_⟩
              first
                | exact fin2 _ _ (by rw [eR (by omega)]; unfold pRest; dsimp only; omega) (by rw [eR (by omega)]; unfold pRest; dsimp only; omega) (by rw [eR (by omega)]; rfl)
                | exact fin _ _ _ (by rw [eP (by omega)]; unfold pPlay; dsimp only; omega) (by rw [eP (by omega)]; unfold pPlay; dsimp only; (repeat' split) <;> omega) (by rw [eP (by omega)]; unfold pPlay; dsimp only; (repeat' split) <;> omega)
        · refine gk_iconst C dX5_goesOn_131 ?_
          refine gk_goto C (tgt := 136) dX5_goesOn_132 (by decide) ?_
          refine gk_iadd C dX5_goesOn_136 ?_
          refine mo_iast C I (by rfl) dX5_goesOn_137 (by omega) (by omega) ?_
          refine gk_aload_n C dX5_goesOn_138 rfl ?_
          refine mo_getf C I f_X5_53.r dX5_goesOn_139 (by rfl) ?_
          try simp only [moS3_ap, moS_ap, Nat.reduceEqDiff, if_true, if_false, reduceIte]
          refine gk_iload_n C dX5_goesOn_142 rfl ?_
          refine gk_dup2 C rfl rfl dX5_goesOn_143 ?_
          refine mo_iald C I (by rfl) dX5_goesOn_144 (by omega) (by omega) ?_
          try simp only [moS3_ap, moS_ap, Nat.reduceEqDiff, if_true, if_false, reduceIte]
          refine gk_aload_n C dX5_goesOn_145 rfl ?_
          refine mo_getf C I f_X5_68.r dX5_goesOn_146 (by rfl) ?_
          try simp only [moS3_ap, moS_ap, Nat.reduceEqDiff, if_true, if_false, reduceIte]
          refine gk_iload_n C dX5_goesOn_149 rfl ?_
          refine mo_iald C I (by rfl) dX5_goesOn_150 (by omega) (by omega) ?_
          try simp only [moS3_ap, moS_ap, Nat.reduceEqDiff, if_true, if_false, reduceIte]
          rw [gupd_eq]
          refine gk_bipush C dX5_goesOn_151 (by decide) ?_
          refine gk_icmp_ne C (tgt := 171) (by omega) (by omega) dX5_goesOn_153 (by decide) (fun c_153 => ?_) (fun c_153 => ?_)
          · refine gk_iconst C dX5_goesOn_171 ?_
            refine gk_isub C dX5_goesOn_172 ?_
            refine mo_iast C I (by rfl) dX5_goesOn_173 (by omega) (by omega) ?_
            refine (R _ _ _ _ _ (by decide) (by decide)).2.2.1 rfl dX5_goesOn_174 ?_
            refine ⟨rfl, ?_⟩
            first
              | exact fin2 _ _ (by rw [eR (by omega)]; unfold pRest; dsimp only; omega) (by rw [eR (by omega)]; unfold pRest; dsimp only; omega) (by rw [eR (by omega)]; rfl)
              | exact fin _ _ _ (by rw [eP (by omega)]; unfold pPlay; dsimp only; omega) (by rw [eP (by omega)]; unfold pPlay; dsimp only; (repeat' split) <;> omega) (by rw [eP (by omega)]; unfold pPlay; dsimp only; (repeat' split) <;> omega)
          · refine gk_aload_n C dX5_goesOn_156 rfl ?_
            refine mo_getf C I f_X5_53.r dX5_goesOn_157 (by rfl) ?_
            try simp only [moS3_ap, moS_ap, Nat.reduceEqDiff, if_true, if_false, reduceIte]
            refine gk_iload_n C dX5_goesOn_160 rfl ?_
            refine mo_iald C I (by rfl) dX5_goesOn_161 (by omega) (by omega) ?_
            try simp only [moS3_ap, moS_ap, Nat.reduceEqDiff, if_true, if_false, reduceIte]
            refine gk_bipush C dX5_goesOn_162 (by decide) ?_
            refine gk_icmp_le C (tgt := 171) (by omega) (by omega) dX5_goesOn_164 (by decide) (fun c_164 => ?_) (fun c_164 => ?_)
            · refine gk_iconst C dX5_goesOn_171 ?_
              refine gk_isub C dX5_goesOn_172 ?_
              refine mo_iast C I (by rfl) dX5_goesOn_173 (by omega) (by omega) ?_
              refine (R _ _ _ _ _ (by decide) (by decide)).2.2.1 rfl dX5_goesOn_174 ?_
              refine ⟨rfl, ?_⟩
              first
                | exact fin2 _ _ (by rw [eR (by omega)]; unfold pRest; dsimp only; omega) (by rw [eR (by omega)]; unfold pRest; dsimp only; omega) (by rw [eR (by omega)]; rfl)
                | exact fin _ _ _ (by rw [eP (by omega)]; unfold pPlay; dsimp only; omega) (by rw [eP (by omega)]; unfold pPlay; dsimp only; (repeat' split) <;> omega) (by rw [eP (by omega)]; unfold pPlay; dsimp only; (repeat' split) <;> omega)
            · refine gk_iconst C dX5_goesOn_167 ?_
              refine gk_goto C (tgt := 172) dX5_goesOn_168 (by decide) ?_
              refine gk_isub C dX5_goesOn_172 ?_
              refine mo_iast C I (by rfl) dX5_goesOn_173 (by omega) (by omega) ?_
              refine (R _ _ _ _ _ (by decide) (by decide)).2.2.1 rfl dX5_goesOn_174 ?_
              refine ⟨rfl, ?_⟩
              first
                | exact fin2 _ _ (by rw [eR (by omega)]; unfold pRest; dsimp only; omega) (by rw [eR (by omega)]; unfold pRest; dsimp only; omega) (by rw [eR (by omega)]; rfl)
                | exact fin _ _ _ (by rw [eP (by omega)]; unfold pPlay; dsimp only; omega) (by rw [eP (by omega)]; unfold pPlay; dsimp only; (repeat' split) <;> omega) (by rw [eP (by omega)]; unfold pPlay; dsimp only; (repeat' split) <;> omega)
      · refine gk_iconst C dX5_goesOn_117 ?_
        refine gk_goto C (tgt := 136) dX5_goesOn_118 (by decide) ?_
        refine gk_iadd C dX5_goesOn_136 ?_
        refine mo_iast C I (by rfl) dX5_goesOn_137 (by omega) (by omega) ?_
        refine gk_aload_n C dX5_goesOn_138 rfl ?_
        refine mo_getf C I f_X5_53.r dX5_goesOn_139 (by rfl) ?_
        try simp only [moS3_ap, moS_ap, Nat.reduceEqDiff, if_true, if_false, reduceIte]
        refine gk_iload_n C dX5_goesOn_142 rfl ?_
        refine gk_dup2 C rfl rfl dX5_goesOn_143 ?_
        refine mo_iald C I (by rfl) dX5_goesOn_144 (by omega) (by omega) ?_
        try simp only [moS3_ap, moS_ap, Nat.reduceEqDiff, if_true, if_false, reduceIte]
        refine gk_aload_n C dX5_goesOn_145 rfl ?_
        refine mo_getf C I f_X5_68.r dX5_goesOn_146 (by rfl) ?_
        try simp only [moS3_ap, moS_ap, Nat.reduceEqDiff, if_true, if_false, reduceIte]
        refine gk_iload_n C dX5_goesOn_149 rfl ?_
        refine mo_iald C I (by rfl) dX5_goesOn_150 (by omega) (by omega) ?_
        try simp only [moS3_ap, moS_ap, Nat.reduceEqDiff, if_true, if_false, reduceIte]
        rw [gupd_eq]
        refine gk_bipush C dX5_goesOn_151 (by decide) ?_
        refine gk_icmp_ne C (tgt := 171) (by omega) (by omega) dX5_goesOn_153 (by decide) (fun c_153 => ?_) (fun c_153 => ?_)
        · refine gk_iconst C dX5_goesOn_171 ?_
          refine gk_isub C dX5_goesOn_172 ?_
          refine mo_iast C I (by rfl) dX5_goesOn_173 (by omega) (by omega) ?_
          refine (R _ _ _ _ _ (by decide) (by decide)).2.2.1 rfl dX5_goesOn_174 ?_
          refine ⟨rfl, ?_⟩
          first
            | exact fin2 _ _ (by rw [eR (by omega)]; unfold pRest; dsimp only; omega) (by rw [eR (by omega)]; unfold pRest; dsimp only; omega) (by rw [eR (by omega)]; rfl)
            | exact fin _ _ _ (by rw [eP (by omega)]; unfold pPlay; dsimp only; omega) (by rw [eP (by omega)]; unfold pPlay; dsimp only; (repeat' split) <;> omega) (by rw [eP (by omega)]; unfold pPlay; dsimp only; (repeat' split) <;> omega)
        · refine gk_aload_n C dX5_goesOn_156 rfl ?_
          refine mo_getf C I f_X5_53.r dX5_goesOn_157 (by rfl) ?_
          try simp only [moS3_ap, moS_ap, Nat.reduceEqDiff, if_true, if_false, reduceIte]
          refine gk_iload_n C dX5_goesOn_160 rfl ?_
          refine mo_iald C I (by rfl) dX5_goesOn_161 (by omega) (by omega) ?_
          try simp only [moS3_ap, moS_ap, Nat.reduceEqDiff, if_true, if_false, reduceIte]
          refine gk_bipush C dX5_goesOn_162 (by decide) ?_
          refine gk_icmp_le C (tgt := 171) (by omega) (by omega) dX5_goesOn_164 (by decide) (fun c_164 => ?_) (fun c_164 => ?_)
          · refine gk_iconst C dX5_goesOn_171 ?_
            refine gk_isub C dX5_goesOn_172 ?_
            refine mo_iast C I (by rfl) dX5_goesOn_173 (by omega) (by omega) ?_
            refine (R _ _ _ _ _ (by decide) (by decide)).2.2.1 rfl dX5_goesOn_174 ?_
            refine ⟨rfl, ?_⟩
            first
              | exact fin2 _ _ (by rw [eR (by omega)]; unfold pRest; dsimp only; omega) (by rw [eR (by omega)]; unfold pRest; dsimp only; omega) (by rw [eR (by omega)]; rfl)
              | exact fin _ _ _ (by rw [eP (by omega)]; unfold pPlay; dsimp only; omega) (by rw [eP (by omega)]; unfold pPlay; dsimp only; (repeat' split) <;> omega) (by rw [eP (by omega)]; unfold pPlay; dsimp only; (repeat' split) <;> omega)
          · refine gk_iconst C dX5_goesOn_167 ?_
            refine gk_goto C (tgt := 172) dX5_goesOn_168 (by decide) ?_
            refine gk_isub C dX5_goesOn_172 ?_
            refine mo_iast C I (by rfl) dX5_goesOn_173 (by omega) (by omega) ?_
            refine (R _ _ _ _ _ (by decide) (by decide)).2.2.1 rfl dX5_goesOn_174 ?_
            refine ⟨rfl, ?_⟩
            first
              | exact fin2 _ _ (by rw [eR (by omega)]; unfold pRest; dsimp only; omega) (by rw [eR (by omega)]; unfold pRest; dsimp only; omega) (by rw [eR (by omega)]; rfl)
              | exact fin _ _ _ (by rw [eP (by omega)]; unfold pPlay; dsimp only; omega) (by rw [eP (by omega)]; unfold pPlay; dsimp only; (repeat' split) <;> omega) (by rw [eP (by omega)]; unfold pPlay; dsimp only; (repeat' split) <;> omega)
  · refine gk_aload_n C dX5_goesOn_9 rfl ?_
    refine mo_getf C I f_X5_68.r dX5_goesOn_10 (by rfl) ?_
    refine gk_iload_n C dX5_goesOn_13 rfl ?_
    refine gk_aload_n C dX5_goesOn_14 rfl ?_
    refine mo_getf C I f_X5_68.r dX5_goesOn_15 (by rfl) ?_
    refine gk_iload_n C dX5_goesOn_18 rfl ?_
    refine mo_iald C I (by rfl) dX5_goesOn_19 (by omega) (by omega) ?_
    refine gk_iconst C dX5_goesOn_20 ?_
    refine gk_icmp_ge C (tgt := 28) (by omega) (by omega) dX5_goesOn_21 (by decide) (fun c_21 => ?_) (fun c_21 => ?_)
    · refine gk_aload_n C dX5_goesOn_28 rfl ?_
      refine mo_getf C I f_X5_68.r dX5_goesOn_29 (by rfl) ?_
      refine gk_iload_n C dX5_goesOn_32 rfl ?_
      refine mo_iald C I (by rfl) dX5_goesOn_33 (by omega) (by omega) ?_
      refine gk_iconst C dX5_goesOn_34 ?_
      refine gk_isub C dX5_goesOn_35 ?_
      refine mo_iast C I (by rfl) dX5_goesOn_36 (by omega) (by omega) ?_
      refine gk_aload_n C dX5_goesOn_37 rfl ?_
      refine mo_getf C I f_X5_65.r dX5_goesOn_38 (by rfl) ?_
      try simp only [moS3_ap, moS_ap, Nat.reduceEqDiff, if_true, if_false, reduceIte]
      refine gk_iload_n C dX5_goesOn_41 rfl ?_
      refine gk_dup2 C rfl rfl dX5_goesOn_42 ?_
      refine mo_iald C I (by rfl) dX5_goesOn_43 (by omega) (by omega) ?_
      try simp only [moS3_ap, moS_ap, Nat.reduceEqDiff, if_true, if_false, reduceIte]
      refine gk_aload_n C dX5_goesOn_44 rfl ?_
      refine mo_getf C I f_X5_65.r dX5_goesOn_45 (by rfl) ?_
      try simp only [moS3_ap, moS_ap, Nat.reduceEqDiff, if_true, if_false, reduceIte]
      refine gk_iload_n C dX5_goesOn_48 rfl ?_
      refine mo_iald C I (by rfl) dX5_goesOn_49 (by omega) (by omega) ?_
      try simp only [moS3_ap, moS_ap, Nat.reduceEqDiff, if_true, if_false, reduceIte]
      refine gk_if_le C (tgt := 57) (by omega) dX5_goesOn_50 (by decide) (fun c_50 => ?_) (fun c_50 => ?_)
      · refine gk_iconst C dX5_goesOn_57 ?_
        refine gk_isub C dX5_goesOn_58 ?_
        refine mo_iast C I (by rfl) dX5_goesOn_59 (by omega) (by omega) ?_
        refine gk_goto C (tgt := 174) dX5_goesOn_60 (by decide) ?_
        refine (R _ _ _ _ _ (by decide) (by decide)).2.2.1 rfl dX5_goesOn_174 ?_
        refine ⟨rfl, ?_⟩
        first
          | exact fin2 _ _ (by rw [eR (by omega)]; unfold pRest; dsimp only; omega) (by rw [eR (by omega)]; unfold pRest; dsimp only; omega) (by rw [eR (by omega)]; rfl)
          | exact fin _ _ _ (by rw [eP (by omega)]; unfold pPlay; dsimp only; omega) (by rw [eP (by omega)]; unfold pPlay; dsimp only; (repeat' split) <;> omega) (by rw [eP (by omega)]; unfold pPlay; dsimp only; (repeat' split) <;> omega)
      · refine gk_iconst C dX5_goesOn_53 ?_
        refine gk_goto C (tgt := 58) dX5_goesOn_54 (by decide) ?_
        refine gk_isub C dX5_goesOn_58 ?_
        refine mo_iast C I (by rfl) dX5_goesOn_59 (by omega) (by omega) ?_
        refine gk_goto C (tgt := 174) dX5_goesOn_60 (by decide) ?_
        refine (R _ _ _ _ _ (by decide) (by decide)).2.2.1 rfl dX5_goesOn_174 ?_
        refine ⟨rfl, ?_⟩
        first
          | exact fin2 _ _ (by rw [eR (by omega)]; unfold pRest; dsimp only; omega) (by rw [eR (by omega)]; unfold pRest; dsimp only; omega) (by rw [eR (by omega)]; rfl)
          | exact fin _ _ _ (by rw [eP (by omega)]; unfold pPlay; dsimp only; omega) (by rw [eP (by omega)]; unfold pPlay; dsimp only; (repeat' split) <;> omega) (by rw [eP (by omega)]; unfold pPlay; dsimp only; (repeat' split) <;> omega)
    · refine gk_iconst C dX5_goesOn_24 ?_
      refine gk_goto C (tgt := 36) dX5_goesOn_25 (by decide) ?_
      refine mo_iast C I (by rfl) dX5_goesOn_36 (by omega) (by omega) ?_
      refine gk_aload_n C dX5_goesOn_37 rfl ?_
      refine mo_getf C I f_X5_65.r dX5_goesOn_38 (by rfl) ?_
      try simp only [moS3_ap, moS_ap, Nat.reduceEqDiff, if_true, if_false, reduceIte]
      refine gk_iload_n C dX5_goesOn_41 rfl ?_
      refine gk_dup2 C rfl rfl dX5_goesOn_42 ?_
      refine mo_iald C I (by rfl) dX5_goesOn_43 (by omega) (by omega) ?_
      try simp only [moS3_ap, moS_ap, Nat.reduceEqDiff, if_true, if_false, reduceIte]
      refine gk_aload_n C dX5_goesOn_44 rfl ?_
      refine mo_getf C I f_X5_65.r dX5_goesOn_45 (by rfl) ?_
      try simp only [moS3_ap, moS_ap, Nat.reduceEqDiff, if_true, if_false, reduceIte]
      refine gk_iload_n C dX5_goesOn_48 rfl ?_
      refine mo_iald C I (by rfl) dX5_goesOn_49 (by omega) (by omega) ?_
      try simp only [moS3_ap, moS_ap, Nat.reduceEqDiff, if_true, if_false, reduceIte]
      refine gk_if_le C (tgt := 57) (by omega) dX5_goesOn_50 (by decide) (fun c_50 => ?_) (fun c_50 => ?_)
      · refine gk_iconst C dX5_goesOn_57 ?_
        refine gk_isub C dX5_goesOn_58 ?_
        refine mo_iast C I (by rfl) dX5_goesOn_59 (by omega) (by omega) ?_
        refine gk_goto C (tgt := 174) dX5_goesOn_60 (by decide) ?_
        refine (R _ _ _ _ _ (by decide) (by decide)).2.2.1 rfl dX5_goesOn_174 ?_
        refine ⟨rfl, ?_⟩
        first
          | exact fin2 _ _ (by rw [eR (by omega)]; unfold pRest; dsimp only; omega) (by rw [eR (by omega)]; unfold pRest; dsimp only; omega) (by rw [eR (by omega)]; rfl)
          | exact fin _ _ _ (by rw [eP (by omega)]; unfold pPlay; dsimp only; omega) (by rw [eP (by omega)]; unfold pPlay; dsimp only; (repeat' split) <;> omega) (by rw [eP (by omega)]; unfold pPlay; dsimp only; (repeat' split) <;> omega)
      · refine gk_iconst C dX5_goesOn_53 ?_
        refine gk_goto C (tgt := 58) dX5_goesOn_54 (by decide) ?_
        refine gk_isub C dX5_goesOn_58 ?_
        refine mo_iast C I (by rfl) dX5_goesOn_59 (by omega) (by omega) ?_
        refine gk_goto C (tgt := 174) dX5_goesOn_60 (by decide) ?_
        refine (R _ _ _ _ _ (by decide) (by decide)).2.2.1 rfl dX5_goesOn_174 ?_
        refine ⟨rfl, ?_⟩
        first
          | exact fin2 _ _ (by rw [eR (by omega)]; unfold pRest; dsimp only; omega) (by rw [eR (by omega)]; unfold pRest; dsimp only; omega) (by rw [eR (by omega)]; rfl)
          | exact fin _ _ _ (by rw [eP (by omega)]; unfold pPlay; dsimp only; omega) (by rw [eP (by omega)]; unfold pPlay; dsimp only; (repeat' split) <;> omega) (by rw [eP (by omega)]; unfold pPlay; dsimp only; (repeat' split) <;> omega)
