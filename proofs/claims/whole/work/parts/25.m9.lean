/-! the reference: bands -/
/-- 1 where a band takes part in the open contest -/
def mTb (s : MS) (i : Int) : Int := if s 36 0 = 1 then (((s 37 0).toNat / 2 ^ i.toNat % 2 : Nat) : Int) else 0
theorem mTb_01 (s : MS) (i : Int) : mTb s i = 0 ∨ mTb s i = 1 := by
  unfold mTb
  split
  · omega
  · exact Or.inl rfl
def mMis (s : MS) : Int := usum (fun k => if mTb s (k % 8) = 1 ∧ s 38 k = -1 then 1 else 0) 32
def mPlc (s : MS) (j i : Int) : Int := 1 + usum (fun k => if mTb s k = 1 ∧ s 38 (8 * j + i) < s 38 (8 * j + k) then 1 else 0) (s 29 0).toNat
def mSumO (s : MS) (i : Int) : Int := mPlc s 0 i + mPlc s 1 i + mPlc s 2 i + mPlc s 3 i
theorem usum_01 {f : Int → Int} (h : ∀ i, 0 ≤ f i ∧ f i ≤ 1) (n : Nat) : 0 ≤ usum f n ∧ usum f n ≤ n := by
  have := usum_bound (f := f) (b := 1) (by omega) (n := n) (fun i _ _ => h i)
  omega
theorem mPlc_bd {s : MS} (V : VM s) (j i : Int) : 1 ≤ mPlc s j i ∧ mPlc s j i ≤ 9 := by
  have b29 := V.at 29 0 rfl
  have h := usum_01 (f := fun k => if mTb s k = 1 ∧ s 38 (8 * j + i) < s 38 (8 * j + k) then 1 else 0) (fun k => by split <;> omega) (s 29 0).toNat
  unfold mPlc
  omega
def mOg (s : MS) (g : Int) (n : Nat) : Int := usum (fun k => if s 30 k = g then 1 else 0) n
theorem mOg_bd (s : MS) (g : Int) (n : Nat) : 0 ≤ mOg s g n ∧ mOg s g n ≤ n := usum_01 (fun k => by split <;> omega) n
def MBand (s : MS) (g r : Int) (s2 : MS) : Prop :=
  (¬ (1 ≤ g ∧ g ≤ 5) ∧ r = 0 ∧ s2 = moS s 39 (fun _ => 1)) ∨ ((1 ≤ g ∧ g ≤ 5) ∧ s 29 0 = 8 ∧ r = 0 ∧ s2 = moS s 39 (fun _ => 2)) ∨
  ((1 ≤ g ∧ g ≤ 5) ∧ ¬ s 29 0 = 8 ∧ r = s 29 0 ∧ s2 = moS (moS (moS (moS (moS s 39 (fun _ => 0)) 30 (gupd (s 30) (s 29 0) g)) 32 (gupd (s 32) (s 29 0) (-1))) 33 (gupd (s 33) (s 29 0) (-1))) 29 (fun _ => s 29 0 + 1))
def MOfBand (s : MS) (b w r : Int) (s2 : MS) : Prop :=
  (¬ (0 ≤ b ∧ b < s 29 0) ∧ r = 0 ∧ s2 = moS s 39 (fun _ => 1)) ∨ ((0 ≤ b ∧ b < s 29 0) ∧ ¬ (0 ≤ w ∧ w ≤ 4) ∧ r = 0 ∧ s2 = moS s 39 (fun _ => 2)) ∨
  ((0 ≤ b ∧ b < s 29 0) ∧ (0 ≤ w ∧ w ≤ 4) ∧ (r = if w = 0 then s 30 b else if w = 1 then s 31 b else if w = 2 then s 32 b else if w = 3 then s 33 b else s 34 b) ∧ s2 = moS s 39 (fun _ => 0))
def MMark (s : MS) (j b m r : Int) (s2 : MS) : Prop :=
  (¬ ((0 ≤ j ∧ j ≤ 3) ∧ (0 ≤ b ∧ b < s 29 0)) ∧ r = 0 ∧ s2 = moS s 39 (fun _ => 1)) ∨ (((0 ≤ j ∧ j ≤ 3) ∧ (0 ≤ b ∧ b < s 29 0)) ∧ ¬ (0 ≤ m ∧ m ≤ 100) ∧ r = 0 ∧ s2 = moS s 39 (fun _ => 2)) ∨
  (((0 ≤ j ∧ j ≤ 3) ∧ (0 ≤ b ∧ b < s 29 0)) ∧ (0 ≤ m ∧ m ≤ 100) ∧ ¬ (mTb s b = 1 ∧ s 38 (8 * j + b) = -1) ∧ r = 0 ∧ s2 = moS s 39 (fun _ => 3)) ∨
  (((0 ≤ j ∧ j ≤ 3) ∧ (0 ≤ b ∧ b < s 29 0)) ∧ (0 ≤ m ∧ m ≤ 100) ∧ (mTb s b = 1 ∧ s 38 (8 * j + b) = -1) ∧ r = mMis (moS (moS s 39 (fun _ => 0)) 38 (gupd (s 38) (8 * j + b) m)) ∧ s2 = moS (moS s 39 (fun _ => 0)) 38 (gupd (s 38) (8 * j + b) m))
/-- the bits of the bands of a grade -/
def pkS (s : MS) (g : Int) : Nat → Nat
  | 0 => 0
  | k + 1 => pkS s g k + if s 30 (k : Int) = g then 2 ^ k else 0
theorem pkS_lt (s : MS) (g : Int) : ∀ k : Nat, pkS s g k < 2 ^ k
  | 0 => by show 0 < 1; omega
  | k + 1 => by
    have ih := pkS_lt s g k
    have e : 2 ^ (k + 1) = 2 ^ k + 2 ^ k := by rw [Nat.pow_succ]; omega
    unfold pkS
    split <;> omega
def MContest (s : MS) (g r : Int) (s2 : MS) : Prop :=
  (¬ (1 ≤ g ∧ g ≤ 5) ∧ r = 0 ∧ s2 = moS s 39 (fun _ => 1)) ∨ ((1 ≤ g ∧ g ≤ 5) ∧ (s 36 0 = 1 ∨ mOg s g (s 29 0).toNat < 2) ∧ r = 0 ∧ s2 = moS s 39 (fun _ => 2)) ∨
  ((1 ≤ g ∧ g ≤ 5) ∧ ¬ (s 36 0 = 1 ∨ mOg s g (s 29 0).toNat < 2) ∧ r = mOg s g (s 29 0).toNat ∧ ∃ f : Int → Int, (∀ i : Int, 0 ≤ i → i < 32 → f i = -1) ∧ (∀ i, -1 ≤ f i ∧ f i ≤ 100) ∧
    s2 = moS (moS (moS (moS s 39 (fun _ => 0)) 36 (fun _ => 1)) 37 (fun _ => (pkS s g (s 29 0).toNat : Int))) 38 f)

set_option maxRecDepth 100000 in
set_option maxHeartbeats 4000000 in
theorem m_isBand {l : Launch} {Γ : GA} (hfl : l.stackTraces = false) {ad : Nat → Nat} (I : IM ad) {s : MS} (V : VM s) {z : Int} (hz : -2147483648 ≤ z ∧ z ≤ 2147483647) : Ct l Γ m_X5_isBand [.ref (ad 40), iv z] (HM ad s) (fun v h' => ∃ r : Int, v = some (iv r) ∧ (r = 0 ∨ r = 1) ∧ (r = 1 ↔ 0 ≤ z ∧ z < s 29 0) ∧ h' = HM ad s) (fun _ _ => False) := by
  have b0 := V.at 29 0 rfl
  refine Ct.intro hfl (by decide +kernel) rfl (Nat.le_of_ble_eq_true rfl) ?_
  intro G C R T
  show G 0 [some (.ref (ad 40)), some (iv z)] [] (HM ad s) 0 0
  refine gk_iload_n C dX5_isBand_0 rfl ?_
  refine gk_iconst C dX5_isBand_1 ?_
  refine gk_aload_n C dX5_isBand_2 rfl ?_
  refine mo_getf C I f_X5_200.r dX5_isBand_3 (by rfl) ?_
  refine gk_iconst C dX5_isBand_6 ?_
  refine gk_isub C dX5_isBand_7 ?_
  refine gk_callS C o_X5_isIn k_X5_114 dX5_isBand_8 (m_X5_isIn_c hfl hz (by omega) (by omega)) rfl rfl (by decide) (by decide) (by exact Nat.le_of_ble_eq_true rfl) (fun _ _ z => z.elim) (fun v_8 h_8 p_8 => ?_)
  obtain ⟨r_8, rfl, rb_8, rc_8, rfl⟩ := p_8
  dsimp only [gk_push]
  refine (R _ _ _ _ _ (by decide) (by decide)).2.1 _ rfl (by omega) dX5_isBand_11 ?_
  exact ⟨_, rfl, by omega, by omega, rfl⟩

set_option maxRecDepth 100000 in
set_option maxHeartbeats 4000000 in
theorem m_band {l : Launch} {Γ : GA} (hfl : l.stackTraces = false) {ad : Nat → Nat} (I : IM ad) {s : MS} (V : VM s) {g : Int} (hg : -2147483648 ≤ g ∧ g ≤ 2147483647) : Ct l Γ m_X5_band [.ref (ad 40), iv g] (HM ad s) (fun v h' => ∃ (r : Int) (s2 : MS), v = some (iv r) ∧ h' = HM ad s2 ∧ MBand s g r s2) (fun _ _ => False) := by
  have b0 := V.at 29 0 rfl
  refine Ct.intro hfl (by decide +kernel) rfl (Nat.le_of_ble_eq_true rfl) ?_
  intro G C R T
  show G 0 [some (.ref (ad 40)), some (iv g)] [] (HM ad s) 0 0
  refine gk_aload_n C dX5_band_0 rfl ?_
  refine gk_iload_n C dX5_band_1 rfl ?_
  refine gk_iconst C dX5_band_2 ?_
  refine gk_iconst C dX5_band_3 ?_
  refine gk_callS C o_X5_isIn k_X5_114 dX5_band_4 (m_X5_isIn_c hfl hg (by omega) (by omega)) rfl rfl (by decide) (by decide) (by exact Nat.le_of_ble_eq_true rfl) (fun _ _ z => z.elim) (fun v_4 h_4 p_4 => ?_)
  obtain ⟨r_4, rfl, rb_4, rc_4, rfl⟩ := p_4
  dsimp only [gk_push]
  refine gk_if_ne C (tgt := 14) (by omega) dX5_band_7 (by decide) (fun c_7 => ?_) (fun c_7 => ?_)
  · refine gk_aload_n C dX5_band_14 rfl ?_
    refine mo_getf C I f_X5_200.r dX5_band_15 (by rfl) ?_
    refine gk_bipush C dX5_band_18 (by decide) ?_
    refine gk_icmp_ne C (tgt := 27) (by omega) (by omega) dX5_band_20 (by decide) (fun c_20 => ?_) (fun c_20 => ?_)
    · refine gk_iconst C dX5_band_27 ?_
      refine mo_putf C I f_X5_107 (by decide) dX5_band_28 ?_
      refine gk_aload_n C dX5_band_31 rfl ?_
      refine mo_getf C I f_X5_107.r dX5_band_32 (by rfl) ?_
      try simp only [moS3_ap, moS_ap, Nat.reduceEqDiff, if_true, if_false, reduceIte]
      refine gk_if_le C (tgt := 40) (by omega) dX5_band_35 (by decide) (fun c_35 => ?_) (fun c_35 => ?_)
      · refine gk_aload_n C dX5_band_40 rfl ?_
        refine mo_getf C I f_X5_86.r dX5_band_41 (by rfl) ?_
        try simp only [moS3_ap, moS_ap, Nat.reduceEqDiff, if_true, if_false, reduceIte]
        refine gk_aload_n C dX5_band_44 rfl ?_
        refine mo_getf C I f_X5_200.r dX5_band_45 (by rfl) ?_
        try simp only [moS3_ap, moS_ap, Nat.reduceEqDiff, if_true, if_false, reduceIte]
        refine gk_iload_n C dX5_band_48 rfl ?_
        refine mo_iast C I (by rfl) dX5_band_49 (by omega) (by omega) ?_
        refine gk_aload_n C dX5_band_50 rfl ?_
        refine mo_getf C I f_X5_92.r dX5_band_51 (by rfl) ?_
        try simp only [moS3_ap, moS_ap, Nat.reduceEqDiff, if_true, if_false, reduceIte]
        refine gk_aload_n C dX5_band_54 rfl ?_
        refine mo_getf C I f_X5_200.r dX5_band_55 (by rfl) ?_
        try simp only [moS3_ap, moS_ap, Nat.reduceEqDiff, if_true, if_false, reduceIte]
        refine gk_iconst C dX5_band_58 ?_
        refine mo_iast C I (by rfl) dX5_band_59 (by omega) (by omega) ?_
        refine gk_aload_n C dX5_band_60 rfl ?_
        refine mo_getf C I f_X5_95.r dX5_band_61 (by rfl) ?_
        try simp only [moS3_ap, moS_ap, Nat.reduceEqDiff, if_true, if_false, reduceIte]
        refine gk_aload_n C dX5_band_64 rfl ?_
        refine mo_getf C I f_X5_200.r dX5_band_65 (by rfl) ?_
        try simp only [moS3_ap, moS_ap, Nat.reduceEqDiff, if_true, if_false, reduceIte]
        refine gk_iconst C dX5_band_68 ?_
        refine mo_iast C I (by rfl) dX5_band_69 (by omega) (by omega) ?_
        refine gk_aload_n C dX5_band_70 rfl ?_
        refine gk_dup C rfl dX5_band_71 ?_
        refine mo_getf C I f_X5_200.r dX5_band_72 (by rfl) ?_
        try simp only [moS3_ap, moS_ap, Nat.reduceEqDiff, if_true, if_false, reduceIte]
        refine gk_iconst C dX5_band_75 ?_
        refine gk_iadd C dX5_band_76 ?_
        refine mo_putf C I f_X5_200 (by decide) dX5_band_77 ?_
        refine gk_aload_n C dX5_band_80 rfl ?_
        refine mo_getf C I f_X5_200.r dX5_band_81 (by rfl) ?_
        try simp only [moS3_ap, moS_ap, Nat.reduceEqDiff, if_true, if_false, reduceIte]
        refine gk_iconst C dX5_band_84 ?_
        refine gk_isub C dX5_band_85 ?_
        refine (R _ _ _ _ _ (by decide) (by decide)).1 _ rfl dX5_band_86 ?_
        exact ⟨_, _, rfl, rfl, Or.inr (Or.inr ⟨by omega, by omega, by omega, rfl⟩)⟩
      · exact absurd c_35 (by omega)
    · refine gk_iconst C dX5_band_23 ?_
      refine gk_goto C (tgt := 28) dX5_band_24 (by decide) ?_
      refine mo_putf C I f_X5_107 (by decide) dX5_band_28 ?_
      refine gk_aload_n C dX5_band_31 rfl ?_
      refine mo_getf C I f_X5_107.r dX5_band_32 (by rfl) ?_
      try simp only [moS3_ap, moS_ap, Nat.reduceEqDiff, if_true, if_false, reduceIte]
      refine gk_if_le C (tgt := 40) (by omega) dX5_band_35 (by decide) (fun c_35 => ?_) (fun c_35 => ?_)
      · exact absurd c_35 (by omega)
      · refine gk_iconst C dX5_band_38 ?_
        refine (R _ _ _ _ _ (by decide) (by decide)).1 _ rfl dX5_band_39 ?_
        first | exact ⟨_, _, rfl, rfl, Or.inl ⟨by omega, rfl, rfl⟩⟩ | exact ⟨_, _, rfl, rfl, Or.inr (Or.inl ⟨by omega, by omega, rfl, rfl⟩)⟩
  · refine gk_iconst C dX5_band_10 ?_
    refine gk_goto C (tgt := 28) dX5_band_11 (by decide) ?_
    refine mo_putf C I f_X5_107 (by decide) dX5_band_28 ?_
    refine gk_aload_n C dX5_band_31 rfl ?_
    refine mo_getf C I f_X5_107.r dX5_band_32 (by rfl) ?_
    try simp only [moS3_ap, moS_ap, Nat.reduceEqDiff, if_true, if_false, reduceIte]
    refine gk_if_le C (tgt := 40) (by omega) dX5_band_35 (by decide) (fun c_35 => ?_) (fun c_35 => ?_)
    · exact absurd c_35 (by omega)
    · refine gk_iconst C dX5_band_38 ?_
      refine (R _ _ _ _ _ (by decide) (by decide)).1 _ rfl dX5_band_39 ?_
      first | exact ⟨_, _, rfl, rfl, Or.inl ⟨by omega, rfl, rfl⟩⟩ | exact ⟨_, _, rfl, rfl, Or.inr (Or.inl ⟨by omega, by omega, rfl, rfl⟩)⟩

set_option maxRecDepth 100000 in
set_option maxHeartbeats 4000000 in
theorem m_ofGrade {l : Launch} {Γ : GA} (hfl : l.stackTraces = false) {ad : Nat → Nat} (I : IM ad) {s : MS} (V : VM s) {g : Int} (hg : -2147483648 ≤ g ∧ g ≤ 2147483647) : Ct l Γ m_X5_ofGrade [.ref (ad 40), iv g] (HM ad s) (fun v h' => v = some (iv (mOg s g (s 29 0).toNat)) ∧ h' = HM ad s) (fun _ _ => False) := by
  have b0 := V.at 29 0 rfl
  refine Ct.intro hfl (by decide +kernel) rfl (Nat.le_of_ble_eq_true rfl) ?_
  intro G C R T
  show G 0 [some (.ref (ad 40)), some (iv g), none, none] [] (HM ad s) 0 0
  refine gk_iconst C dX5_ofGrade_0 ?_
  refine gk_istore_n_2 C rfl (by decide) dX5_ofGrade_1 ?_
  refine gk_iconst C dX5_ofGrade_2 ?_
  refine gk_istore_n_3 C rfl (by decide) dX5_ofGrade_3 ?_
  have key : ∀ (n k : Nat), s 29 0 - k < n → k ≤ s 29 0 → G 4 [some (.ref (ad 40)), some (iv g), some (iv (mOg s g k)), some (iv (k : Int))] [] (HM ad s) 0 0 := by
    intro n
    induction n with
    | zero => intro k h1; omega
    | succ n ih =>
      intro k hn hk
      have b30 := V.at 30 (k : Int) rfl
      have fin : ∀ y : Int, k < s 29 0 → y = (if s 30 k = g then 1 else 0) → G 4 [some (.ref (ad 40)), some (iv g), some (iv (mOg s g k + y)), some (iv ((k : Int) + 1))] [] (HM ad s) 0 0 := by
        intro y hk1 hy
        rw [hy]
        exact ih (k + 1) (by omega) (by omega)
      refine gk_iload_n C dX5_ofGrade_4 rfl ?_
      refine gk_aload_n C dX5_ofGrade_5 rfl ?_
      refine mo_getf C I f_X5_200.r dX5_ofGrade_6 (by rfl) ?_
      refine gk_icmp_ge C (tgt := 36) (by omega) (by omega) dX5_ofGrade_9 (by decide) (fun c_9 => ?_) (fun c_9 => ?_)
      · refine gk_iload_n C dX5_ofGrade_36 rfl ?_
        refine (R _ _ _ _ _ (by decide) (by decide)).1 _ rfl dX5_ofGrade_37 ?_
        rw [show (s 29 0).toNat = k by omega]
        exact ⟨rfl, rfl⟩
      · refine gk_iload_n C dX5_ofGrade_12 rfl ?_
        refine gk_aload_n C dX5_ofGrade_13 rfl ?_
        refine mo_getf C I f_X5_86.r dX5_ofGrade_14 (by rfl) ?_
        refine gk_iload_n C dX5_ofGrade_17 rfl ?_
        refine mo_iald C I (by rfl) dX5_ofGrade_18 (by omega) (by omega) ?_
        refine gk_iload_n C dX5_ofGrade_19 rfl ?_
        refine gk_icmp_ne C (tgt := 27) (by omega) (by omega) dX5_ofGrade_20 (by decide) (fun c_20 => ?_) (fun c_20 => ?_)
        · refine gk_iconst C dX5_ofGrade_27 ?_
          refine gk_iadd C dX5_ofGrade_28 ?_
          refine gk_istore_n_2 C rfl (by decide) dX5_ofGrade_29 ?_
          refine gk_iinc_3 C rfl (by decide) dX5_ofGrade_30 ?_
          refine gk_goto C (tgt := 4) dX5_ofGrade_33 (by decide) ?_
          exact fin _ (by omega) (by split <;> omega)
        · refine gk_iconst C dX5_ofGrade_23 ?_
          refine gk_goto C (tgt := 28) dX5_ofGrade_24 (by decide) ?_
          refine gk_iadd C dX5_ofGrade_28 ?_
          refine gk_istore_n_2 C rfl (by decide) dX5_ofGrade_29 ?_
          refine gk_iinc_3 C rfl (by decide) dX5_ofGrade_30 ?_
          refine gk_goto C (tgt := 4) dX5_ofGrade_33 (by decide) ?_
          exact fin _ (by omega) (by split <;> omega)
  exact key 9 0 (by omega) (by omega)

set_option maxRecDepth 100000 in
set_option maxHeartbeats 4000000 in
theorem m_takesPart {l : Launch} {Γ : GA} (hfl : l.stackTraces = false) {ad : Nat → Nat} (I : IM ad) {s : MS} (V : VM s) {i : Int} (hi : 0 ≤ i ∧ i < 8) : Ct l Γ m_X5_takesPart [.ref (ad 40), iv i] (HM ad s) (fun v h' => v = some (iv (mTb s i)) ∧ h' = HM ad s) (fun _ _ => False) := by
  have b36 := V.at 36 0 rfl
  have b37 := V.at 37 0 rfl
  obtain ⟨q, hq⟩ : ∃ q : Nat, i = (q : Int) := ⟨i.toNat, by omega⟩
  obtain ⟨P, hP⟩ : ∃ P : Nat, s 37 0 = (P : Int) := ⟨(s 37 0).toNat, by omega⟩
  have hQ : P / 2 ^ q < 256 := Nat.lt_of_le_of_lt (Nat.div_le_self _ _) (by omega)
  have e1 : Int32.ofInt (P : Int) >>> (Int32.ofInt (q : Int) &&& 31) = Int32.ofInt ((P / 2 ^ q : Nat) : Int) := bt_shr ⟨P, by omega⟩ ⟨q, by omega⟩
  have e2 : Int32.ofInt ((P / 2 ^ q : Nat) : Int) &&& Int32.ofInt 1 = Int32.ofInt ((P / 2 ^ q % 2 : Nat) : Int) := bt_and ⟨P / 2 ^ q, hQ⟩
  have eT : s 36 0 = 1 → mTb s i = ((P / 2 ^ q % 2 : Nat) : Int) := fun z => by unfold mTb; rw [if_pos z, hP, hq]; rfl
  refine Ct.intro hfl (by decide +kernel) rfl (Nat.le_of_ble_eq_true rfl) ?_
  intro G C R T
  show G 0 [some (.ref (ad 40)), some (iv i)] [] (HM ad s) 0 0
  refine gk_aload_n C dX5_takesPart_0 rfl ?_
  refine mo_getf C I f_X5_203.r dX5_takesPart_1 (by rfl) ?_
  refine gk_if_eq C (tgt := 23) (by omega) dX5_takesPart_4 (by decide) (fun c_4 => ?_) (fun c_4 => ?_)
  · refine gk_iconst C dX5_takesPart_23 ?_
    refine (R _ _ _ _ _ (by decide) (by decide)).2.1 _ rfl (by omega) dX5_takesPart_24 ?_
    refine ⟨congrArg (fun q => some (iv q)) ?_, rfl⟩
    first | (rw [eT (by omega)]; omega) | (unfold mTb; rw [if_neg (by omega)])
  · refine gk_aload_n C dX5_takesPart_7 rfl ?_
    refine mo_getf C I f_X5_210.r dX5_takesPart_8 (by rfl) ?_
    refine gk_iload_n C dX5_takesPart_11 rfl ?_
    refine gk_ishr C dX5_takesPart_12 (by rw [hP, hq]; exact e1) ?_
    refine gk_iconst C dX5_takesPart_13 ?_
    refine gk_iand C dX5_takesPart_14 e2 ?_
    refine gk_iconst C dX5_takesPart_15 ?_
    refine gk_icmp_ne C (tgt := 23) (by omega) (by omega) dX5_takesPart_16 (by decide) (fun c_16 => ?_) (fun c_16 => ?_)
    · refine gk_iconst C dX5_takesPart_23 ?_
      refine (R _ _ _ _ _ (by decide) (by decide)).2.1 _ rfl (by omega) dX5_takesPart_24 ?_
      refine ⟨congrArg (fun q => some (iv q)) ?_, rfl⟩
      first | (rw [eT (by omega)]; omega) | (unfold mTb; rw [if_neg (by omega)])
    · refine gk_iconst C dX5_takesPart_19 ?_
      refine gk_goto C (tgt := 24) dX5_takesPart_20 (by decide) ?_
      refine (R _ _ _ _ _ (by decide) (by decide)).2.1 _ rfl (by omega) dX5_takesPart_24 ?_
      refine ⟨congrArg (fun q => some (iv q)) ?_, rfl⟩
      first | (rw [eT (by omega)]; omega) | (unfold mTb; rw [if_neg (by omega)])

set_option maxRecDepth 100000 in
set_option maxHeartbeats 4000000 in
theorem m_missing {l : Launch} {Γ : GA} (hfl : l.stackTraces = false) {ad : Nat → Nat} (I : IM ad) {s : MS} (V : VM s) : Ct l Γ m_X5_missing [.ref (ad 40)] (HM ad s) (fun v h' => v = some (iv (mMis s)) ∧ h' = HM ad s) (fun _ _ => False) := by
  refine Ct.intro hfl (by decide +kernel) rfl (Nat.le_of_ble_eq_true rfl) ?_
  intro G C R T
  show G 0 [some (.ref (ad 40)), none, none] [] (HM ad s) 0 0
  refine gk_iconst C dX5_missing_0 ?_
  refine gk_istore_n_1 C rfl (by decide) dX5_missing_1 ?_
  refine gk_iconst C dX5_missing_2 ?_
  refine gk_istore_n_2 C rfl (by decide) dX5_missing_3 ?_
  have key : ∀ (n k : Nat), 32 - k < n → k ≤ 32 → G 4 [some (.ref (ad 40)), some (iv (usum (fun k => if mTb s (k % 8) = 1 ∧ s 38 k = -1 then 1 else 0) k)), some (iv (k : Int))] [] (HM ad s) 0 0 := by
    intro n
    induction n with
    | zero => intro k h1; omega
    | succ n ih =>
      intro k hn hk
      have b38 := V.at 38 (k : Int) rfl
      have bt := mTb_01 s ((k : Int) % 8)
      have fin : ∀ y : Int, k < 32 → y = (if mTb s ((k : Int) % 8) = 1 ∧ s 38 k = -1 then 1 else 0) → G 4 [some (.ref (ad 40)), some (iv (usum (fun k => if mTb s (k % 8) = 1 ∧ s 38 k = -1 then 1 else 0) k + y)), some (iv ((k : Int) + 1))] [] (HM ad s) 0 0 := by
        intro y hk1 hy
        rw [hy]
        exact ih (k + 1) (by omega) (by omega)
      refine gk_iload_n C dX5_missing_4 rfl ?_
      refine gk_bipush C dX5_missing_5 (by decide) ?_
      refine gk_icmp_ge C (tgt := 45) (by omega) (by omega) dX5_missing_7 (by decide) (fun c_7 => ?_) (fun c_7 => ?_)
      · refine gk_iload_n C dX5_missing_45 rfl ?_
        refine (R _ _ _ _ _ (by decide) (by decide)).1 _ rfl dX5_missing_46 ?_
        have e : k = 32 := by omega
        rw [e]
        exact ⟨rfl, rfl⟩
      · refine gk_iload_n C dX5_missing_10 rfl ?_
        refine gk_aload_n C dX5_missing_11 rfl ?_
        refine gk_iload_n C dX5_missing_12 rfl ?_
        refine gk_bipush C dX5_missing_13 (by decide) ?_
        refine gk_irem C (by omega) (by omega) dX5_missing_15 ?_
        refine gk_callV C o_X5_takesPart k_X5_213 dX5_missing_16 (m_takesPart hfl I V (i := (k : Int) % 8) (by omega)) (mo_obj I) rfl rfl rfl (by decide) (by decide) (by exact Nat.le_of_ble_eq_true rfl) (fun _ _ z => z.elim) (fun v_16 h_16 p_16 => ?_)
        obtain ⟨rfl, rfl⟩ := p_16
        dsimp only [gk_push]
        refine gk_if_eq C (tgt := 36) (by omega) dX5_missing_19 (by decide) (fun c_19 => ?_) (fun c_19 => ?_)
        · refine gk_iconst C dX5_missing_36 ?_
          refine gk_iadd C dX5_missing_37 ?_
          refine gk_istore_n_1 C rfl (by decide) dX5_missing_38 ?_
          refine gk_iinc_2 C rfl (by decide) dX5_missing_39 ?_
          refine gk_goto C (tgt := 4) dX5_missing_42 (by decide) ?_
          exact fin _ (by omega) (by split <;> omega)
        · refine gk_aload_n C dX5_missing_22 rfl ?_
          refine mo_getf C I f_X5_104.r dX5_missing_23 (by rfl) ?_
          refine gk_iload_n C dX5_missing_26 rfl ?_
          refine mo_iald C I (by rfl) dX5_missing_27 (by omega) (by omega) ?_
          refine gk_iconst C dX5_missing_28 ?_
          refine gk_icmp_ne C (tgt := 36) (by omega) (by omega) dX5_missing_29 (by decide) (fun c_29 => ?_) (fun c_29 => ?_)
          · refine gk_iconst C dX5_missing_36 ?_
            refine gk_iadd C dX5_missing_37 ?_
            refine gk_istore_n_1 C rfl (by decide) dX5_missing_38 ?_
            refine gk_iinc_2 C rfl (by decide) dX5_missing_39 ?_
            refine gk_goto C (tgt := 4) dX5_missing_42 (by decide) ?_
            exact fin _ (by omega) (by split <;> omega)
          · refine gk_iconst C dX5_missing_32 ?_
            refine gk_goto C (tgt := 37) dX5_missing_33 (by decide) ?_
            refine gk_iadd C dX5_missing_37 ?_
            refine gk_istore_n_1 C rfl (by decide) dX5_missing_38 ?_
            refine gk_iinc_2 C rfl (by decide) dX5_missing_39 ?_
            refine gk_goto C (tgt := 4) dX5_missing_42 (by decide) ?_
            exact fin _ (by omega) (by split <;> omega)
  exact key 33 0 (by omega) (by omega)

set_option maxRecDepth 100000 in
set_option maxHeartbeats 4000000 in
theorem m_place {l : Launch} {Γ : GA} (hfl : l.stackTraces = false) {ad : Nat → Nat} (I : IM ad) {s : MS} (V : VM s) {j i : Int} (hj : 0 ≤ j ∧ j ≤ 3) (hi : 0 ≤ i ∧ i < 8) : Ct l Γ m_X5_place [.ref (ad 40), iv j, iv i] (HM ad s) (fun v h' => v = some (iv (mPlc s j i)) ∧ h' = HM ad s) (fun _ _ => False) := by
  have b0 := V.at 29 0 rfl
  have b38 := V.at 38 (8 * j + i) rfl
  refine Ct.intro hfl (by decide +kernel) rfl (Nat.le_of_ble_eq_true rfl) ?_
  intro G C R T
  show G 0 [some (.ref (ad 40)), some (iv j), some (iv i), none, none] [] (HM ad s) 0 0
  refine gk_iconst C dX5_place_0 ?_
  refine gk_istore_n_3 C rfl (by decide) dX5_place_1 ?_
  refine gk_iconst C dX5_place_2 ?_
  refine gk_istore_4 C rfl (by decide) dX5_place_3 ?_
  have key : ∀ (n k : Nat), s 29 0 - k < n → k ≤ s 29 0 → G 5 [some (.ref (ad 40)), some (iv j), some (iv i), some (iv (1 + usum (fun k => if mTb s k = 1 ∧ s 38 (8 * j + i) < s 38 (8 * j + k) then 1 else 0) k)), some (iv (k : Int))] [] (HM ad s) 0 0 := by
    intro n
    induction n with
    | zero => intro k h1; omega
    | succ n ih =>
      intro k hn hk
      have b39 := V.at 38 (8 * j + (k : Int)) rfl
      have bt := mTb_01 s (k : Int)
      have fin : ∀ y : Int, k < s 29 0 → y = (if mTb s (k : Int) = 1 ∧ s 38 (8 * j + i) < s 38 (8 * j + k) then 1 else 0) → G 5 [some (.ref (ad 40)), some (iv j), some (iv i), some (iv (1 + usum (fun k => if mTb s k = 1 ∧ s 38 (8 * j + i) < s 38 (8 * j + k) then 1 else 0) k + y)), some (iv ((k : Int) + 1))] [] (HM ad s) 0 0 := by
        intro y hk1 hy
        rw [hy, Int.add_assoc]
        exact ih (k + 1) (by omega) (by omega)
      refine gk_iload C dX5_place_5 rfl ?_
      refine gk_aload_n C dX5_place_7 rfl ?_
      refine mo_getf C I f_X5_200.r dX5_place_8 (by rfl) ?_
      refine gk_icmp_ge C (tgt := 63) (by omega) (by omega) dX5_place_11 (by decide) (fun c_11 => ?_) (fun c_11 => ?_)
      · refine gk_iload_n C dX5_place_63 rfl ?_
        refine (R _ _ _ _ _ (by decide) (by decide)).1 _ rfl dX5_place_64 ?_
        unfold mPlc
        rw [show (s 29 0).toNat = k by omega]
        exact ⟨rfl, rfl⟩
      · refine gk_iload_n C dX5_place_14 rfl ?_
        refine gk_aload_n C dX5_place_15 rfl ?_
        refine gk_iload C dX5_place_16 rfl ?_
        refine gk_callV C o_X5_takesPart k_X5_213 dX5_place_18 (m_takesPart hfl I V (i := (k : Int)) (by omega)) (mo_obj I) rfl rfl rfl (by decide) (by decide) (by exact Nat.le_of_ble_eq_true rfl) (fun _ _ z => z.elim) (fun v_18 h_18 p_18 => ?_)
        obtain ⟨rfl, rfl⟩ := p_18
        dsimp only [gk_push]
        refine gk_if_eq C (tgt := 54) (by omega) dX5_place_21 (by decide) (fun c_21 => ?_) (fun c_21 => ?_)
        · refine gk_iconst C dX5_place_54 ?_
          refine gk_iadd C dX5_place_55 ?_
          refine gk_istore_n_3 C rfl (by decide) dX5_place_56 ?_
          refine gk_iinc_4 C rfl (by decide) dX5_place_57 ?_
          refine gk_goto C (tgt := 5) dX5_place_60 (by decide) ?_
          exact fin _ (by omega) (by split <;> omega)
        · refine gk_aload_n C dX5_place_24 rfl ?_
          refine mo_getf C I f_X5_104.r dX5_place_25 (by rfl) ?_
          refine gk_bipush C dX5_place_28 (by decide) ?_
          refine gk_iload_n C dX5_place_30 rfl ?_
          refine gk_imul C dX5_place_31 ?_
          refine gk_iload C dX5_place_32 rfl ?_
          refine gk_iadd C dX5_place_34 ?_
          refine mo_iald C I (by rfl) dX5_place_35 (by omega) (by omega) ?_
          refine gk_aload_n C dX5_place_36 rfl ?_
          refine mo_getf C I f_X5_104.r dX5_place_37 (by rfl) ?_
          refine gk_bipush C dX5_place_40 (by decide) ?_
          refine gk_iload_n C dX5_place_42 rfl ?_
          refine gk_imul C dX5_place_43 ?_
          refine gk_iload_n C dX5_place_44 rfl ?_
          refine gk_iadd C dX5_place_45 ?_
          refine mo_iald C I (by rfl) dX5_place_46 (by omega) (by omega) ?_
          refine gk_icmp_le C (tgt := 54) (by omega) (by omega) dX5_place_47 (by decide) (fun c_47 => ?_) (fun c_47 => ?_)
          · refine gk_iconst C dX5_place_54 ?_
            refine gk_iadd C dX5_place_55 ?_
            refine gk_istore_n_3 C rfl (by decide) dX5_place_56 ?_
            refine gk_iinc_4 C rfl (by decide) dX5_place_57 ?_
            refine gk_goto C (tgt := 5) dX5_place_60 (by decide) ?_
            exact fin _ (by omega) (by split <;> omega)
          · refine gk_iconst C dX5_place_50 ?_
            refine gk_goto C (tgt := 55) dX5_place_51 (by decide) ?_
            refine gk_iadd C dX5_place_55 ?_
            refine gk_istore_n_3 C rfl (by decide) dX5_place_56 ?_
            refine gk_iinc_4 C rfl (by decide) dX5_place_57 ?_
            refine gk_goto C (tgt := 5) dX5_place_60 (by decide) ?_
            exact fin _ (by omega) (by split <;> omega)
  exact key 9 0 (by omega) (by omega)

set_option maxRecDepth 100000 in
set_option maxHeartbeats 4000000 in
theorem m_sumOf {l : Launch} {Γ : GA} (hfl : l.stackTraces = false) {ad : Nat → Nat} (I : IM ad) {s : MS} (V : VM s) {i : Int} (hi : 0 ≤ i ∧ i < 8) : Ct l Γ m_X5_sumOf [.ref (ad 40), iv i] (HM ad s) (fun v h' => v = some (iv (mSumO s i)) ∧ h' = HM ad s) (fun _ _ => False) := by
  refine Ct.intro hfl (by decide +kernel) rfl (Nat.le_of_ble_eq_true rfl) ?_
  intro G C R T
  show G 0 [some (.ref (ad 40)), some (iv i)] [] (HM ad s) 0 0
  refine gk_aload_n C dX5_sumOf_0 rfl ?_
  refine gk_iconst C dX5_sumOf_1 ?_
  refine gk_iload_n C dX5_sumOf_2 rfl ?_
  refine gk_callV C o_X5_place k_X5_222 dX5_sumOf_3 (m_place hfl I V (j := 0) (i := i) (by omega) hi) (mo_obj I) rfl rfl rfl (by decide) (by decide) (by exact Nat.le_of_ble_eq_true rfl) (fun _ _ z => z.elim) (fun v_3 h_3 p_3 => ?_)
  obtain ⟨rfl, rfl⟩ := p_3
  dsimp only [gk_push]
  refine gk_aload_n C dX5_sumOf_6 rfl ?_
  refine gk_iconst C dX5_sumOf_7 ?_
  refine gk_iload_n C dX5_sumOf_8 rfl ?_
  refine gk_callV C o_X5_place k_X5_222 dX5_sumOf_9 (m_place hfl I V (j := 1) (i := i) (by omega) hi) (mo_obj I) rfl rfl rfl (by decide) (by decide) (by exact Nat.le_of_ble_eq_true rfl) (fun _ _ z => z.elim) (fun v_9 h_9 p_9 => ?_)
  obtain ⟨rfl, rfl⟩ := p_9
  dsimp only [gk_push]
  refine gk_iadd C dX5_sumOf_12 ?_
  refine gk_aload_n C dX5_sumOf_13 rfl ?_
  refine gk_iconst C dX5_sumOf_14 ?_
  refine gk_iload_n C dX5_sumOf_15 rfl ?_
  refine gk_callV C o_X5_place k_X5_222 dX5_sumOf_16 (m_place hfl I V (j := 2) (i := i) (by omega) hi) (mo_obj I) rfl rfl rfl (by decide) (by decide) (by exact Nat.le_of_ble_eq_true rfl) (fun _ _ z => z.elim) (fun v_16 h_16 p_16 => ?_)
  obtain ⟨rfl, rfl⟩ := p_16
  dsimp only [gk_push]
  refine gk_iadd C dX5_sumOf_19 ?_
  refine gk_aload_n C dX5_sumOf_20 rfl ?_
  refine gk_iconst C dX5_sumOf_21 ?_
  refine gk_iload_n C dX5_sumOf_22 rfl ?_
  refine gk_callV C o_X5_place k_X5_222 dX5_sumOf_23 (m_place hfl I V (j := 3) (i := i) (by omega) hi) (mo_obj I) rfl rfl rfl (by decide) (by decide) (by exact Nat.le_of_ble_eq_true rfl) (fun _ _ z => z.elim) (fun v_23 h_23 p_23 => ?_)
  obtain ⟨rfl, rfl⟩ := p_23
  dsimp only [gk_push]
  refine gk_iadd C dX5_sumOf_26 ?_
  refine (R _ _ _ _ _ (by decide) (by decide)).1 _ rfl dX5_sumOf_27 ?_
  exact ⟨rfl, rfl⟩

set_option maxRecDepth 100000 in
set_option maxHeartbeats 4000000 in
theorem m_isAhead {l : Launch} {Γ : GA} (hfl : l.stackTraces = false) {ad : Nat → Nat} (I : IM ad) {s : MS} (V : VM s) {x y : Int} (hx : 0 ≤ x ∧ x < 8) (hy : 0 ≤ y ∧ y < 8) : Ct l Γ m_X5_isAhead [.ref (ad 40), iv x, iv y] (HM ad s) (fun v h' => ∃ r : Int, v = some (iv r) ∧ (r = 0 ∨ r = 1) ∧ (r = 1 ↔ isBf (mSumO s x) (mSumO s y) (fun j => mPlc s j x) (fun j => mPlc s j y) x y) ∧ h' = HM ad s) (fun _ _ => False) := by
  have px0 := mPlc_bd V 0 x
  have px1 := mPlc_bd V 1 x
  have px2 := mPlc_bd V 2 x
  have px3 := mPlc_bd V 3 x
  have py0 := mPlc_bd V 0 y
  have py1 := mPlc_bd V 1 y
  have py2 := mPlc_bd V 2 y
  have py3 := mPlc_bd V 3 y
  have ex : mSumO s x = mPlc s 0 x + mPlc s 1 x + mPlc s 2 x + mPlc s 3 x := rfl
  have ey : mSumO s y = mPlc s 0 y + mPlc s 1 y + mPlc s 2 y + mPlc s 3 y := rfl
  refine Ct.intro hfl (by decide +kernel) rfl (Nat.le_of_ble_eq_true rfl) ?_
  intro G C R T
  show G 0 [some (.ref (ad 40)), some (iv x), some (iv y), none, none, none] [] (HM ad s) 0 0
  refine gk_aload_n C dX5_isAhead_0 rfl ?_
  refine gk_iload_n C dX5_isAhead_1 rfl ?_
  refine gk_callV C o_X5_sumOf k_X5_225 dX5_isAhead_2 (m_sumOf hfl I V hx) (mo_obj I) rfl rfl rfl (by decide) (by decide) (by exact Nat.le_of_ble_eq_true rfl) (fun _ _ z => z.elim) (fun v_2 h_2 p_2 => ?_)
  obtain ⟨rfl, rfl⟩ := p_2
  dsimp only [gk_push]
  refine gk_aload_n C dX5_isAhead_5 rfl ?_
  refine gk_iload_n C dX5_isAhead_6 rfl ?_
  refine gk_callV C o_X5_sumOf k_X5_225 dX5_isAhead_7 (m_sumOf hfl I V hy) (mo_obj I) rfl rfl rfl (by decide) (by decide) (by exact Nat.le_of_ble_eq_true rfl) (fun _ _ z => z.elim) (fun v_7 h_7 p_7 => ?_)
  obtain ⟨rfl, rfl⟩ := p_7
  dsimp only [gk_push]
  refine gk_isub C dX5_isAhead_10 ?_
  refine gk_istore_n_3 C rfl (by decide) dX5_isAhead_11 ?_
  refine gk_aload_n C dX5_isAhead_12 rfl ?_
  refine gk_iconst C dX5_isAhead_13 ?_
  refine gk_iload_n C dX5_isAhead_14 rfl ?_
  refine gk_callV C o_X5_place k_X5_222 dX5_isAhead_15 (m_place hfl I V (j := 3) (i := x) (by omega) hx) (mo_obj I) rfl rfl rfl (by decide) (by decide) (by exact Nat.le_of_ble_eq_true rfl) (fun _ _ z => z.elim) (fun v_15 h_15 p_15 => ?_)
  obtain ⟨rfl, rfl⟩ := p_15
  dsimp only [gk_push]
  refine gk_aload_n C dX5_isAhead_18 rfl ?_
  refine gk_iconst C dX5_isAhead_19 ?_
  refine gk_iload_n C dX5_isAhead_20 rfl ?_
  refine gk_callV C o_X5_place k_X5_222 dX5_isAhead_21 (m_place hfl I V (j := 3) (i := y) (by omega) hy) (mo_obj I) rfl rfl rfl (by decide) (by decide) (by exact Nat.le_of_ble_eq_true rfl) (fun _ _ z => z.elim) (fun v_21 h_21 p_21 => ?_)
  obtain ⟨rfl, rfl⟩ := p_21
  dsimp only [gk_push]
  refine gk_isub C dX5_isAhead_24 ?_
  refine gk_istore_4 C rfl (by decide) dX5_isAhead_25 ?_
  refine gk_aload_n C dX5_isAhead_27 rfl ?_
  refine gk_iconst C dX5_isAhead_28 ?_
  refine gk_iload_n C dX5_isAhead_29 rfl ?_
  refine gk_callV C o_X5_place k_X5_222 dX5_isAhead_30 (m_place hfl I V (j := 0) (i := x) (by omega) hx) (mo_obj I) rfl rfl rfl (by decide) (by decide) (by exact Nat.le_of_ble_eq_true rfl) (fun _ _ z => z.elim) (fun v_30 h_30 p_30 => ?_)
  obtain ⟨rfl, rfl⟩ := p_30
  dsimp only [gk_push]
  refine gk_aload_n C dX5_isAhead_33 rfl ?_
  refine gk_iconst C dX5_isAhead_34 ?_
  refine gk_iload_n C dX5_isAhead_35 rfl ?_
  refine gk_callV C o_X5_place k_X5_222 dX5_isAhead_36 (m_place hfl I V (j := 1) (i := x) (by omega) hx) (mo_obj I) rfl rfl rfl (by decide) (by decide) (by exact Nat.le_of_ble_eq_true rfl) (fun _ _ z => z.elim) (fun v_36 h_36 p_36 => ?_)
  obtain ⟨rfl, rfl⟩ := p_36
  dsimp only [gk_push]
  refine gk_iadd C dX5_isAhead_39 ?_
  refine gk_aload_n C dX5_isAhead_40 rfl ?_
  refine gk_iconst C dX5_isAhead_41 ?_
  refine gk_iload_n C dX5_isAhead_42 rfl ?_
  refine gk_callV C o_X5_place k_X5_222 dX5_isAhead_43 (m_place hfl I V (j := 0) (i := y) (by omega) hy) (mo_obj I) rfl rfl rfl (by decide) (by decide) (by exact Nat.le_of_ble_eq_true rfl) (fun _ _ z => z.elim) (fun v_43 h_43 p_43 => ?_)
  obtain ⟨rfl, rfl⟩ := p_43
  dsimp only [gk_push]
  refine gk_isub C dX5_isAhead_46 ?_
  refine gk_aload_n C dX5_isAhead_47 rfl ?_
  refine gk_iconst C dX5_isAhead_48 ?_
  refine gk_iload_n C dX5_isAhead_49 rfl ?_
  refine gk_callV C o_X5_place k_X5_222 dX5_isAhead_50 (m_place hfl I V (j := 1) (i := y) (by omega) hy) (mo_obj I) rfl rfl rfl (by decide) (by decide) (by exact Nat.le_of_ble_eq_true rfl) (fun _ _ z => z.elim) (fun v_50 h_50 p_50 => ?_)
  obtain ⟨rfl, rfl⟩ := p_50
  dsimp only [gk_push]
  refine gk_isub C dX5_isAhead_53 ?_
  refine gk_istore_5 C rfl (by decide) dX5_isAhead_54 ?_
  refine gk_iload_n C dX5_isAhead_56 rfl ?_
  refine gk_if_eq C (tgt := 72) (by omega) dX5_isAhead_57 (by decide) (fun c_57 => ?_) (fun c_57 => ?_)
  · refine gk_iload C dX5_isAhead_72 rfl ?_
    refine gk_if_eq C (tgt := 90) (by omega) dX5_isAhead_74 (by decide) (fun c_74 => ?_) (fun c_74 => ?_)
    · refine gk_iload C dX5_isAhead_90 rfl ?_
      refine gk_if_eq C (tgt := 108) (by omega) dX5_isAhead_92 (by decide) (fun c_92 => ?_) (fun c_92 => ?_)
      · refine gk_iload_n C dX5_isAhead_108 rfl ?_
        refine gk_iload_n C dX5_isAhead_109 rfl ?_
        refine gk_icmp_ge C (tgt := 117) (by omega) (by omega) dX5_isAhead_110 (by decide) (fun c_110 => ?_) (fun c_110 => ?_)
        · refine gk_iconst C dX5_isAhead_117 ?_
          refine (R _ _ _ _ _ (by decide) (by decide)).2.1 _ rfl (by omega) dX5_isAhead_118 ?_
          first | exact ⟨1, rfl, by omega, by unfold isBf; dsimp only; omega, rfl⟩ | exact ⟨0, rfl, by omega, by unfold isBf; dsimp only; omega, rfl⟩
        · refine gk_iconst C dX5_isAhead_113 ?_
          refine gk_goto C (tgt := 118) dX5_isAhead_114 (by decide) ?_
          refine (R _ _ _ _ _ (by decide) (by decide)).2.1 _ rfl (by omega) dX5_isAhead_118 ?_
          first | exact ⟨1, rfl, by omega, by unfold isBf; dsimp only; omega, rfl⟩ | exact ⟨0, rfl, by omega, by unfold isBf; dsimp only; omega, rfl⟩
      · refine gk_iload C dX5_isAhead_95 rfl ?_
        refine gk_if_ge C (tgt := 104) (by omega) dX5_isAhead_97 (by decide) (fun c_97 => ?_) (fun c_97 => ?_)
        · refine gk_iconst C dX5_isAhead_104 ?_
          refine gk_goto C (tgt := 118) dX5_isAhead_105 (by decide) ?_
          refine (R _ _ _ _ _ (by decide) (by decide)).2.1 _ rfl (by omega) dX5_isAhead_118 ?_
          first | exact ⟨1, rfl, by omega, by unfold isBf; dsimp only; omega, rfl⟩ | exact ⟨0, rfl, by omega, by unfold isBf; dsimp only; omega, rfl⟩
        · refine gk_iconst C dX5_isAhead_100 ?_
          refine gk_goto C (tgt := 118) dX5_isAhead_101 (by decide) ?_
          refine (R _ _ _ _ _ (by decide) (by decide)).2.1 _ rfl (by omega) dX5_isAhead_118 ?_
          first | exact ⟨1, rfl, by omega, by unfold isBf; dsimp only; omega, rfl⟩ | exact ⟨0, rfl, by omega, by unfold isBf; dsimp only; omega, rfl⟩
    · refine gk_iload C dX5_isAhead_77 rfl ?_
      refine gk_if_ge C (tgt := 86) (by omega) dX5_isAhead_79 (by decide) (fun c_79 => ?_) (fun c_79 => ?_)
      · refine gk_iconst C dX5_isAhead_86 ?_
        refine gk_goto C (tgt := 118) dX5_isAhead_87 (by decide) ?_
        refine (R _ _ _ _ _ (by decide) (by decide)).2.1 _ rfl (by omega) dX5_isAhead_118 ?_
        first | exact ⟨1, rfl, by omega, by unfold isBf; dsimp only; omega, rfl⟩ | exact ⟨0, rfl, by omega, by unfold isBf; dsimp only; omega, rfl⟩
      · refine gk_iconst C dX5_isAhead_82 ?_
        refine gk_goto C (tgt := 118) dX5_isAhead_83 (by decide) ?_
        refine (R _ _ _ _ _ (by decide) (by decide)).2.1 _ rfl (by omega) dX5_isAhead_118 ?_
        first | exact ⟨1, rfl, by omega, by unfold isBf; dsimp only; omega, rfl⟩ | exact ⟨0, rfl, by omega, by unfold isBf; dsimp only; omega, rfl⟩
  · refine gk_iload_n C dX5_isAhead_60 rfl ?_
    refine gk_if_ge C (tgt := 68) (by omega) dX5_isAhead_61 (by decide) (fun c_61 => ?_) (fun c_61 => ?_)
    · refine gk_iconst C dX5_isAhead_68 ?_
      refine gk_goto C (tgt := 118) dX5_isAhead_69 (by decide) ?_
      refine (R _ _ _ _ _ (by decide) (by decide)).2.1 _ rfl (by omega) dX5_isAhead_118 ?_
      first | exact ⟨1, rfl, by omega, by unfold isBf; dsimp only; omega, rfl⟩ | exact ⟨0, rfl, by omega, by unfold isBf; dsimp only; omega, rfl⟩
    · refine gk_iconst C dX5_isAhead_64 ?_
      refine gk_goto C (tgt := 118) dX5_isAhead_65 (by decide) ?_
      refine (R _ _ _ _ _ (by decide) (by decide)).2.1 _ rfl (by omega) dX5_isAhead_118 ?_
      first | exact ⟨1, rfl, by omega, by unfold isBf; dsimp only; omega, rfl⟩ | exact ⟨0, rfl, by omega, by unfold isBf; dsimp only; omega, rfl⟩

set_option maxRecDepth 100000 in
set_option maxHeartbeats 4000000 in
theorem m_ofBand {l : Launch} {Γ : GA} (hfl : l.stackTraces = false) {ad : Nat → Nat} (I : IM ad) {s : MS} (V : VM s) {b w : Int} (hb : -2147483648 ≤ b ∧ b ≤ 2147483647)(hw : -2147483648 ≤ w ∧ w ≤ 2147483647) : Ct l Γ m_X5_ofBand [.ref (ad 40), iv b, iv w] (HM ad s) (fun v h' => ∃ (r : Int) (s2 : MS), v = some (iv r) ∧ h' = HM ad s2 ∧ MOfBand s b w r s2) (fun _ _ => False) := by
  have b0 := V.at 29 0 rfl
  refine Ct.intro hfl (by decide +kernel) rfl (Nat.le_of_ble_eq_true rfl) ?_
  intro G C R T
  show G 0 [some (.ref (ad 40)), some (iv b), some (iv w)] [] (HM ad s) 0 0
  refine gk_aload_n C dX5_ofBand_0 rfl ?_
  refine gk_aload_n C dX5_ofBand_1 rfl ?_
  refine gk_iload_n C dX5_ofBand_2 rfl ?_
  refine gk_callV C o_X5_isBand k_X5_216 dX5_ofBand_3 (m_isBand hfl I V hb) (mo_obj I) rfl rfl rfl (by decide) (by decide) (by exact Nat.le_of_ble_eq_true rfl) (fun _ _ z => z.elim) (fun v_3 h_3 p_3 => ?_)
  obtain ⟨r_3, rfl, rb_3, rc_3, rfl⟩ := p_3
  dsimp only [gk_push]
  refine gk_if_ne C (tgt := 13) (by omega) dX5_ofBand_6 (by decide) (fun c_6 => ?_) (fun c_6 => ?_)
  · refine gk_iload_n C dX5_ofBand_13 rfl ?_
    refine gk_iconst C dX5_ofBand_14 ?_
    refine gk_iconst C dX5_ofBand_15 ?_
    refine gk_callS C o_X5_isIn k_X5_114 dX5_ofBand_16 (m_X5_isIn_c hfl hw (by omega) (by omega)) rfl rfl (by decide) (by decide) (by exact Nat.le_of_ble_eq_true rfl) (fun _ _ z => z.elim) (fun v_16 h_16 p_16 => ?_)
    obtain ⟨r_16, rfl, rb_16, rc_16, rfl⟩ := p_16
    dsimp only [gk_push]
    refine gk_if_ne C (tgt := 26) (by omega) dX5_ofBand_19 (by decide) (fun c_19 => ?_) (fun c_19 => ?_)
    · refine gk_iconst C dX5_ofBand_26 ?_
      refine mo_putf C I f_X5_107 (by decide) dX5_ofBand_27 ?_
      refine gk_aload_n C dX5_ofBand_30 rfl ?_
      refine mo_getf C I f_X5_107.r dX5_ofBand_31 (by rfl) ?_
      try simp only [moS3_ap, moS_ap, Nat.reduceEqDiff, if_true, if_false, reduceIte]
      refine gk_if_le C (tgt := 39) (by omega) dX5_ofBand_34 (by decide) (fun c_34 => ?_) (fun c_34 => ?_)
      · refine gk_iload_n C dX5_ofBand_39 rfl ?_
        refine gk_if_ne C (tgt := 52) (by omega) dX5_ofBand_40 (by decide) (fun c_40 => ?_) (fun c_40 => ?_)
        · refine gk_iload_n C dX5_ofBand_52 rfl ?_
          refine gk_iconst C dX5_ofBand_53 ?_
          refine gk_icmp_ne C (tgt := 66) (by omega) (by omega) dX5_ofBand_54 (by decide) (fun c_54 => ?_) (fun c_54 => ?_)
          · refine gk_iload_n C dX5_ofBand_66 rfl ?_
            refine gk_iconst C dX5_ofBand_67 ?_
            refine gk_icmp_ne C (tgt := 80) (by omega) (by omega) dX5_ofBand_68 (by decide) (fun c_68 => ?_) (fun c_68 => ?_)
            · refine gk_iload_n C dX5_ofBand_80 rfl ?_
              refine gk_iconst C dX5_ofBand_81 ?_
              refine gk_icmp_ne C (tgt := 94) (by omega) (by omega) dX5_ofBand_82 (by decide) (fun c_82 => ?_) (fun c_82 => ?_)
              · refine gk_aload_n C dX5_ofBand_94 rfl ?_
                refine mo_getf C I f_X5_98.r dX5_ofBand_95 (by rfl) ?_
                try simp only [moS3_ap, moS_ap, Nat.reduceEqDiff, if_true, if_false, reduceIte]
                refine gk_iload_n C dX5_ofBand_98 rfl ?_
                refine mo_iald C I (by rfl) dX5_ofBand_99 (by omega) (by omega) ?_
                try simp only [moS3_ap, moS_ap, Nat.reduceEqDiff, if_true, if_false, reduceIte]
                refine (R _ _ _ _ _ (by decide) (by decide)).1 _ rfl dX5_ofBand_100 ?_
                refine ⟨_, _, rfl, rfl, Or.inr (Or.inr ⟨by omega, by omega, ?_, rfl⟩)⟩
                (repeat' split) <;> first | rfl | omega
              · refine gk_aload_n C dX5_ofBand_85 rfl ?_
                refine mo_getf C I f_X5_95.r dX5_ofBand_86 (by rfl) ?_
                try simp only [moS3_ap, moS_ap, Nat.reduceEqDiff, if_true, if_false, reduceIte]
                refine gk_iload_n C dX5_ofBand_89 rfl ?_
                refine mo_iald C I (by rfl) dX5_ofBand_90 (by omega) (by omega) ?_
                try simp only [moS3_ap, moS_ap, Nat.reduceEqDiff, if_true, if_false, reduceIte]
                refine gk_goto C (tgt := 100) dX5_ofBand_91 (by decide) ?_
                refine (R _ _ _ _ _ (by decide) (by decide)).1 _ rfl dX5_ofBand_100 ?_
                refine ⟨_, _, rfl, rfl, Or.inr (Or.inr ⟨by omega, by omega, ?_, rfl⟩)⟩
                (repeat' split) <;> first | rfl | omega
            · refine gk_aload_n C dX5_ofBand_71 rfl ?_
              refine mo_getf C I f_X5_92.r dX5_ofBand_72 (by rfl) ?_
              try simp only [moS3_ap, moS_ap, Nat.reduceEqDiff, if_true, if_false, reduceIte]
              refine gk_iload_n C dX5_ofBand_75 rfl ?_
              refine mo_iald C I (by rfl) dX5_ofBand_76 (by omega) (by omega) ?_
              try simp only [moS3_ap, moS_ap, Nat.reduceEqDiff, if_true, if_false, reduceIte]
              refine gk_goto C (tgt := 100) dX5_ofBand_77 (by decide) ?_
              refine (R _ _ _ _ _ (by decide) (by decide)).1 _ rfl dX5_ofBand_100 ?_
              refine ⟨_, _, rfl, rfl, Or.inr (Or.inr ⟨by omega, by omega, ?_, rfl⟩)⟩
              (repeat' split) <;> first | rfl | omega
          · refine gk_aload_n C dX5_ofBand_57 rfl ?_
            refine mo_getf C I f_X5_89.r dX5_ofBand_58 (by rfl) ?_
            try simp only [moS3_ap, moS_ap, Nat.reduceEqDiff, if_true, if_false, reduceIte]
            refine gk_iload_n C dX5_ofBand_61 rfl ?_
            refine mo_iald C I (by rfl) dX5_ofBand_62 (by omega) (by omega) ?_
            try simp only [moS3_ap, moS_ap, Nat.reduceEqDiff, if_true, if_false, reduceIte]
            refine gk_goto C (tgt := 100) dX5_ofBand_63 (by decide) ?_
            refine (R _ _ _ _ _ (by decide) (by decide)).1 _ rfl dX5_ofBand_100 ?_
            refine ⟨_, _, rfl, rfl, Or.inr (Or.inr ⟨by omega, by omega, ?_, rfl⟩)⟩
            (repeat' split) <;> first | rfl | omega
        · refine gk_aload_n C dX5_ofBand_43 rfl ?_
          refine mo_getf C I f_X5_86.r dX5_ofBand_44 (by rfl) ?_
          try simp only [moS3_ap, moS_ap, Nat.reduceEqDiff, if_true, if_false, reduceIte]
          refine gk_iload_n C dX5_ofBand_47 rfl ?_
          refine mo_iald C I (by rfl) dX5_ofBand_48 (by omega) (by omega) ?_
          try simp only [moS3_ap, moS_ap, Nat.reduceEqDiff, if_true, if_false, reduceIte]
          refine gk_goto C (tgt := 100) dX5_ofBand_49 (by decide) ?_
          refine (R _ _ _ _ _ (by decide) (by decide)).1 _ rfl dX5_ofBand_100 ?_
          refine ⟨_, _, rfl, rfl, Or.inr (Or.inr ⟨by omega, by omega, ?_, rfl⟩)⟩
          (repeat' split) <;> first | rfl | omega
      · exact absurd c_34 (by omega)
    · refine gk_iconst C dX5_ofBand_22 ?_
      refine gk_goto C (tgt := 27) dX5_ofBand_23 (by decide) ?_
      refine mo_putf C I f_X5_107 (by decide) dX5_ofBand_27 ?_
      refine gk_aload_n C dX5_ofBand_30 rfl ?_
      refine mo_getf C I f_X5_107.r dX5_ofBand_31 (by rfl) ?_
      try simp only [moS3_ap, moS_ap, Nat.reduceEqDiff, if_true, if_false, reduceIte]
      refine gk_if_le C (tgt := 39) (by omega) dX5_ofBand_34 (by decide) (fun c_34 => ?_) (fun c_34 => ?_)
      · exact absurd c_34 (by omega)
      · refine gk_iconst C dX5_ofBand_37 ?_
        refine (R _ _ _ _ _ (by decide) (by decide)).1 _ rfl dX5_ofBand_38 ?_
        first | exact ⟨_, _, rfl, rfl, Or.inl ⟨by omega, rfl, rfl⟩⟩ | exact ⟨_, _, rfl, rfl, Or.inr (Or.inl ⟨by omega, by omega, rfl, rfl⟩)⟩
  · refine gk_iconst C dX5_ofBand_9 ?_
    refine gk_goto C (tgt := 27) dX5_ofBand_10 (by decide) ?_
    refine mo_putf C I f_X5_107 (by decide) dX5_ofBand_27 ?_
    refine gk_aload_n C dX5_ofBand_30 rfl ?_
    refine mo_getf C I f_X5_107.r dX5_ofBand_31 (by rfl) ?_
    try simp only [moS3_ap, moS_ap, Nat.reduceEqDiff, if_true, if_false, reduceIte]
    refine gk_if_le C (tgt := 39) (by omega) dX5_ofBand_34 (by decide) (fun c_34 => ?_) (fun c_34 => ?_)
    · exact absurd c_34 (by omega)
    · refine gk_iconst C dX5_ofBand_37 ?_
      refine (R _ _ _ _ _ (by decide) (by decide)).1 _ rfl dX5_ofBand_38 ?_
      first | exact ⟨_, _, rfl, rfl, Or.inl ⟨by omega, rfl, rfl⟩⟩ | exact ⟨_, _, rfl, rfl, Or.inr (Or.inl ⟨by omega, by omega, rfl, rfl⟩)⟩

set_option maxRecDepth 100000 in
set_option maxHeartbeats 4000000 in
theorem m_mark {l : Launch} {Γ : GA} (hfl : l.stackTraces = false) {ad : Nat → Nat} (I : IM ad) {s : MS} (V : VM s) {j b m : Int} (hj : -2147483648 ≤ j ∧ j ≤ 2147483647)(hb : -2147483648 ≤ b ∧ b ≤ 2147483647)(hm : -2147483648 ≤ m ∧ m ≤ 2147483647) : Ct l Γ m_X5_mark [.ref (ad 40), iv j, iv b, iv m] (HM ad s) (fun v h' => ∃ (r : Int) (s2 : MS), v = some (iv r) ∧ h' = HM ad s2 ∧ MMark s j b m r s2) (fun _ _ => False) := by
  have b0 := V.at 29 0 rfl
  have b38 := V.at 38 (8 * j + b) rfl
  have bt := mTb_01 s b
  have V0 := VM_th V 0 (by omega)
  refine Ct.intro hfl (by decide +kernel) rfl (Nat.le_of_ble_eq_true rfl) ?_
  intro G C R T
  show G 0 [some (.ref (ad 40)), some (iv j), some (iv b), some (iv m)] [] (HM ad s) 0 0
  refine gk_aload_n C dX5_mark_0 rfl ?_
  refine gk_iload_n C dX5_mark_1 rfl ?_
  refine gk_iconst C dX5_mark_2 ?_
  refine gk_iconst C dX5_mark_3 ?_
  refine gk_callS C o_X5_isIn k_X5_114 dX5_mark_4 (m_X5_isIn_c hfl hj (by omega) (by omega)) rfl rfl (by decide) (by decide) (by exact Nat.le_of_ble_eq_true rfl) (fun _ _ z => z.elim) (fun v_4 h_4 p_4 => ?_)
  obtain ⟨r_4, rfl, rb_4, rc_4, rfl⟩ := p_4
  dsimp only [gk_push]
  refine gk_if_eq C (tgt := 18) (by omega) dX5_mark_7 (by decide) (fun c_7 => ?_) (fun c_7 => ?_)
  · refine gk_iconst C dX5_mark_18 ?_
    refine gk_goto C (tgt := 64) dX5_mark_19 (by decide) ?_
    refine mo_putf C I f_X5_107 (by decide) dX5_mark_64 ?_
    refine gk_aload_n C dX5_mark_67 rfl ?_
    refine mo_getf C I f_X5_107.r dX5_mark_68 (by rfl) ?_
    try simp only [moS3_ap, moS_ap, Nat.reduceEqDiff, if_true, if_false, reduceIte]
    refine gk_if_le C (tgt := 76) (by omega) dX5_mark_71 (by decide) (fun c_71 => ?_) (fun c_71 => ?_)
    · exact absurd c_71 (by omega)
    · refine gk_iconst C dX5_mark_74 ?_
      refine (R _ _ _ _ _ (by decide) (by decide)).1 _ rfl dX5_mark_75 ?_
      first | exact ⟨_, _, rfl, rfl, Or.inl ⟨by omega, rfl, rfl⟩⟩ | exact ⟨_, _, rfl, rfl, Or.inr (Or.inl ⟨by omega, by omega, rfl, rfl⟩)⟩ | exact ⟨_, _, rfl, rfl, Or.inr (Or.inr (Or.inl ⟨by omega, by omega, by omega, rfl, rfl⟩))⟩
  · refine gk_aload_n C dX5_mark_10 rfl ?_
    refine gk_iload_n C dX5_mark_11 rfl ?_
    refine gk_callV C o_X5_isBand k_X5_216 dX5_mark_12 (m_isBand hfl I V hb) (mo_obj I) rfl rfl rfl (by decide) (by decide) (by exact Nat.le_of_ble_eq_true rfl) (fun _ _ z => z.elim) (fun v_12 h_12 p_12 => ?_)
    obtain ⟨r_12, rfl, rb_12, rc_12, rfl⟩ := p_12
    dsimp only [gk_push]
    refine gk_if_ne C (tgt := 22) (by omega) dX5_mark_15 (by decide) (fun c_15 => ?_) (fun c_15 => ?_)
    · refine gk_iload_n C dX5_mark_22 rfl ?_
      refine gk_iconst C dX5_mark_23 ?_
      refine gk_bipush C dX5_mark_24 (by decide) ?_
      refine gk_callS C o_X5_isIn k_X5_114 dX5_mark_26 (m_X5_isIn_c hfl hm (by omega) (by omega)) rfl rfl (by decide) (by decide) (by exact Nat.le_of_ble_eq_true rfl) (fun _ _ z => z.elim) (fun v_26 h_26 p_26 => ?_)
      obtain ⟨r_26, rfl, rb_26, rc_26, rfl⟩ := p_26
      dsimp only [gk_push]
      refine gk_if_ne C (tgt := 36) (by omega) dX5_mark_29 (by decide) (fun c_29 => ?_) (fun c_29 => ?_)
      · refine gk_aload_n C dX5_mark_36 rfl ?_
        refine gk_iload_n C dX5_mark_37 rfl ?_
        refine gk_callV C o_X5_takesPart k_X5_213 dX5_mark_38 (m_takesPart hfl I V (i := b) (by omega)) (mo_obj I) rfl rfl rfl (by decide) (by decide) (by exact Nat.le_of_ble_eq_true rfl) (fun _ _ z => z.elim) (fun v_38 h_38 p_38 => ?_)
        obtain ⟨rfl, rfl⟩ := p_38
        dsimp only [gk_push]
        refine gk_if_eq C (tgt := 59) (by omega) dX5_mark_41 (by decide) (fun c_41 => ?_) (fun c_41 => ?_)
        · refine gk_iconst C dX5_mark_59 ?_
          refine gk_goto C (tgt := 64) dX5_mark_60 (by decide) ?_
          refine mo_putf C I f_X5_107 (by decide) dX5_mark_64 ?_
          refine gk_aload_n C dX5_mark_67 rfl ?_
          refine mo_getf C I f_X5_107.r dX5_mark_68 (by rfl) ?_
          try simp only [moS3_ap, moS_ap, Nat.reduceEqDiff, if_true, if_false, reduceIte]
          refine gk_if_le C (tgt := 76) (by omega) dX5_mark_71 (by decide) (fun c_71 => ?_) (fun c_71 => ?_)
          · exact absurd c_71 (by omega)
          · refine gk_iconst C dX5_mark_74 ?_
            refine (R _ _ _ _ _ (by decide) (by decide)).1 _ rfl dX5_mark_75 ?_
            first | exact ⟨_, _, rfl, rfl, Or.inl ⟨by omega, rfl, rfl⟩⟩ | exact ⟨_, _, rfl, rfl, Or.inr (Or.inl ⟨by omega, by omega, rfl, rfl⟩)⟩ | exact ⟨_, _, rfl, rfl, Or.inr (Or.inr (Or.inl ⟨by omega, by omega, by omega, rfl, rfl⟩))⟩
        · refine gk_aload_n C dX5_mark_44 rfl ?_
          refine mo_getf C I f_X5_104.r dX5_mark_45 (by rfl) ?_
          refine gk_bipush C dX5_mark_48 (by decide) ?_
          refine gk_iload_n C dX5_mark_50 rfl ?_
          refine gk_imul C dX5_mark_51 ?_
          refine gk_iload_n C dX5_mark_52 rfl ?_
          refine gk_iadd C dX5_mark_53 ?_
          refine mo_iald C I (by rfl) dX5_mark_54 (by omega) (by omega) ?_
          refine gk_iconst C dX5_mark_55 ?_
          refine gk_icmp_eq C (tgt := 63) (by omega) (by omega) dX5_mark_56 (by decide) (fun c_56 => ?_) (fun c_56 => ?_)
          · refine gk_iconst C dX5_mark_63 ?_
            refine mo_putf C I f_X5_107 (by decide) dX5_mark_64 ?_
            refine gk_aload_n C dX5_mark_67 rfl ?_
            refine mo_getf C I f_X5_107.r dX5_mark_68 (by rfl) ?_
            try simp only [moS3_ap, moS_ap, Nat.reduceEqDiff, if_true, if_false, reduceIte]
            refine gk_if_le C (tgt := 76) (by omega) dX5_mark_71 (by decide) (fun c_71 => ?_) (fun c_71 => ?_)
            · refine gk_aload_n C dX5_mark_76 rfl ?_
              refine mo_getf C I f_X5_104.r dX5_mark_77 (by rfl) ?_
              try simp only [moS3_ap, moS_ap, Nat.reduceEqDiff, if_true, if_false, reduceIte]
              refine gk_bipush C dX5_mark_80 (by decide) ?_
              refine gk_iload_n C dX5_mark_82 rfl ?_
              refine gk_imul C dX5_mark_83 ?_
              refine gk_iload_n C dX5_mark_84 rfl ?_
              refine gk_iadd C dX5_mark_85 ?_
              refine gk_iload_n C dX5_mark_86 rfl ?_
              refine mo_iast C I (by rfl) dX5_mark_87 (by omega) (by omega) ?_
              refine gk_aload_n C dX5_mark_88 rfl ?_
              refine gk_callV C o_X5_missing k_X5_219 dX5_mark_89 (m_missing hfl I (V0.one (j := 38) (z := 8 * j + b) rfl (by omega))) (mo_obj I) rfl rfl rfl (by decide) (by decide) (by exact Nat.le_of_ble_eq_true rfl) (fun _ _ z => z.elim) (fun v_89 h_89 p_89 => ?_)
              obtain ⟨rfl, rfl⟩ := p_89
              dsimp only [gk_push]
              refine (R _ _ _ _ _ (by decide) (by decide)).1 _ rfl dX5_mark_92 ?_
              exact ⟨_, _, rfl, rfl, Or.inr (Or.inr (Or.inr ⟨by omega, by omega, by omega, rfl, rfl⟩))⟩
            · exact absurd c_71 (by omega)
          · refine gk_iconst C dX5_mark_59 ?_
            refine gk_goto C (tgt := 64) dX5_mark_60 (by decide) ?_
            refine mo_putf C I f_X5_107 (by decide) dX5_mark_64 ?_
            refine gk_aload_n C dX5_mark_67 rfl ?_
            refine mo_getf C I f_X5_107.r dX5_mark_68 (by rfl) ?_
            try simp only [moS3_ap, moS_ap, Nat.reduceEqDiff, if_true, if_false, reduceIte]
            refine gk_if_le C (tgt := 76) (by omega) dX5_mark_71 (by decide) (fun c_71 => ?_) (fun c_71 => ?_)
            · exact absurd c_71 (by omega)
            · refine gk_iconst C dX5_mark_74 ?_
              refine (R _ _ _ _ _ (by decide) (by decide)).1 _ rfl dX5_mark_75 ?_
              first | exact ⟨_, _, rfl, rfl, Or.inl ⟨by omega, rfl, rfl⟩⟩ | exact ⟨_, _, rfl, rfl, Or.inr (Or.inl ⟨by omega, by omega, rfl, rfl⟩)⟩ | exact ⟨_, _, rfl, rfl, Or.inr (Or.inr (Or.inl ⟨by omega, by omega, by omega, rfl, rfl⟩))⟩
      · refine gk_iconst C dX5_mark_32 ?_
        refine gk_goto C (tgt := 64) dX5_mark_33 (by decide) ?_
        refine mo_putf C I f_X5_107 (by decide) dX5_mark_64 ?_
        refine gk_aload_n C dX5_mark_67 rfl ?_
        refine mo_getf C I f_X5_107.r dX5_mark_68 (by rfl) ?_
        try simp only [moS3_ap, moS_ap, Nat.reduceEqDiff, if_true, if_false, reduceIte]
        refine gk_if_le C (tgt := 76) (by omega) dX5_mark_71 (by decide) (fun c_71 => ?_) (fun c_71 => ?_)
        · exact absurd c_71 (by omega)
        · refine gk_iconst C dX5_mark_74 ?_
          refine (R _ _ _ _ _ (by decide) (by decide)).1 _ rfl dX5_mark_75 ?_
          first | exact ⟨_, _, rfl, rfl, Or.inl ⟨by omega, rfl, rfl⟩⟩ | exact ⟨_, _, rfl, rfl, Or.inr (Or.inl ⟨by omega, by omega, rfl, rfl⟩)⟩ | exact ⟨_, _, rfl, rfl, Or.inr (Or.inr (Or.inl ⟨by omega, by omega, by omega, rfl, rfl⟩))⟩
    · refine gk_iconst C dX5_mark_18 ?_
      refine gk_goto C (tgt := 64) dX5_mark_19 (by decide) ?_
      refine mo_putf C I f_X5_107 (by decide) dX5_mark_64 ?_
      refine gk_aload_n C dX5_mark_67 rfl ?_
      refine mo_getf C I f_X5_107.r dX5_mark_68 (by rfl) ?_
      try simp only [moS3_ap, moS_ap, Nat.reduceEqDiff, if_true, if_false, reduceIte]
      refine gk_if_le C (tgt := 76) (by omega) dX5_mark_71 (by decide) (fun c_71 => ?_) (fun c_71 => ?_)
      · exact absurd c_71 (by omega)
      · refine gk_iconst C dX5_mark_74 ?_
        refine (R _ _ _ _ _ (by decide) (by decide)).1 _ rfl dX5_mark_75 ?_
        first | exact ⟨_, _, rfl, rfl, Or.inl ⟨by omega, rfl, rfl⟩⟩ | exact ⟨_, _, rfl, rfl, Or.inr (Or.inl ⟨by omega, by omega, rfl, rfl⟩)⟩ | exact ⟨_, _, rfl, rfl, Or.inr (Or.inr (Or.inl ⟨by omega, by omega, by omega, rfl, rfl⟩))⟩
