/-! the reference: bounds, tunes -/
def moS3 (s : MS) (q : Int × (Int → Int) × (Int → Int)) : MS := moS (moS (moS s 9 (fun _ => q.1)) 10 q.2.1) 11 q.2.2
theorem moS3_ap {s : MS} {q : Int × (Int → Int) × (Int → Int)} {k : Nat} : moS3 s q k = if k = 11 then q.2.2 else if k = 10 then q.2.1 else if k = 9 then (fun _ => q.1) else s k := rfl
def mBd : List (Int × Int) := [(0, 10), (0, 3), (0, 64), (0, 8), (0, 8), (0, 16), (0, 8), (0, 64), (0, 1), (0, 128), (0, 639), (0, 8), (-1, 8), (0, 128), (0, 8), (0, 9), (0, 600), (0, 8), (-100, 100), (0, 40), (0, 9), (-100, 100), (0, 40), (0, 100), (0, 1), (-100, 100), (0, 40), (0, 100), (-1000000, 1000000), (0, 8), (0, 5), (0, 1000000), (-1, 9), (-1, 100), (0, 1000000), (0, 6), (0, 1), (0, 255), (-1, 100), (0, 3)]
def mB (j : Nat) : Int × Int := mBd.getD j (-2147483648, 2147483647)
/-- every row and number of the reference keeps its bounds -/
def VM (s : MS) : Prop := ∀ (j : Nat) (i : Int), (mB j).1 ≤ s j i ∧ s j i ≤ (mB j).2
theorem VM.at {s : MS} (V : VM s) (j : Nat) (i : Int) {lo hi : Int} (h : mB j = (lo, hi)) : lo ≤ s j i ∧ s j i ≤ hi := by
  have k := V j i
  rw [h] at k
  exact k
theorem VM.set {s : MS} (V : VM s) {j : Nat} {f : Int → Int} {lo hi : Int} (h : mB j = (lo, hi)) (hf : ∀ i, lo ≤ f i ∧ f i ≤ hi) : VM (moS s j f) := by
  intro k i
  by_cases c : k = j
  · rw [c, moS_eq, h]
    exact hf i
  · rw [moS_ne c]
    exact V k i
theorem VM.one {s : MS} (V : VM s) {j : Nat} {z v : Int} {lo hi : Int} (h : mB j = (lo, hi)) (hv : lo ≤ v ∧ v ≤ hi) : VM (moS s j (gupd (s j) z v)) := by
  refine V.set h (fun i => ?_)
  by_cases c : i = z
  · rw [c, gupd_eq]; exact hv
  · rw [gupd_ne c]; exact V.at j i h

set_option maxRecDepth 100000 in
set_option maxHeartbeats 4000000 in
theorem m_X5_isIn_c {l : Launch} {Γ : GA} (hfl : l.stackTraces = false) {h : Hp} {z a b : Int} (hz : -2147483648 ≤ z ∧ z ≤ 2147483647) (ha : -2147483648 ≤ a ∧ a ≤ 2147483647) (hb : -2147483648 ≤ b ∧ b ≤ 2147483647) : Ct l Γ m_X5_isIn [iv z, iv a, iv b] h (fun v h' => ∃ r : Int, v = some (iv r) ∧ (r = 0 ∨ r = 1) ∧ (r = 1 ↔ a ≤ z ∧ z ≤ b) ∧ h' = h) (fun _ _ => False) := by
  refine Ct.intro hfl (by decide +kernel) rfl (Nat.le_of_ble_eq_true rfl) ?_
  intro G C R T
  show G 0 [some (iv z), some (iv a), some (iv b)] [] h 0 0
  refine gk_iload_n C dX5_isIn_0 rfl ?_
  refine gk_iload_n C dX5_isIn_1 rfl ?_
  refine gk_icmp_lt C (tgt := 14) (by omega) (by omega) dX5_isIn_2 (by decide) (fun c_2 => ?_) (fun c_2 => ?_)
  · refine gk_iconst C dX5_isIn_14 ?_
    refine (R _ _ _ _ _ (by decide) (by decide)).2.1 _ rfl (by omega) dX5_isIn_15 ?_
    first | exact ⟨1, rfl, by omega, by omega, rfl⟩ | exact ⟨0, rfl, by omega, by omega, rfl⟩
  · refine gk_iload_n C dX5_isIn_5 rfl ?_
    refine gk_iload_n C dX5_isIn_6 rfl ?_
    refine gk_icmp_gt C (tgt := 14) (by omega) (by omega) dX5_isIn_7 (by decide) (fun c_7 => ?_) (fun c_7 => ?_)
    · refine gk_iconst C dX5_isIn_14 ?_
      refine (R _ _ _ _ _ (by decide) (by decide)).2.1 _ rfl (by omega) dX5_isIn_15 ?_
      first | exact ⟨1, rfl, by omega, by omega, rfl⟩ | exact ⟨0, rfl, by omega, by omega, rfl⟩
    · refine gk_iconst C dX5_isIn_10 ?_
      refine gk_goto C (tgt := 15) dX5_isIn_11 (by decide) ?_
      refine (R _ _ _ _ _ (by decide) (by decide)).2.1 _ rfl (by omega) dX5_isIn_15 ?_
      first | exact ⟨1, rfl, by omega, by omega, rfl⟩ | exact ⟨0, rfl, by omega, by omega, rfl⟩

set_option maxRecDepth 100000 in
set_option maxHeartbeats 4000000 in
theorem m_isTune {l : Launch} {Γ : GA} (hfl : l.stackTraces = false) {ad : Nat → Nat} (I : IM ad) {s : MS} (V : VM s) {z : Int} (hz : -2147483648 ≤ z ∧ z ≤ 2147483647) : Ct l Γ m_X5_isTune [.ref (ad 40), iv z] (HM ad s) (fun v h' => ∃ r : Int, v = some (iv r) ∧ (r = 0 ∨ r = 1) ∧ (r = 1 ↔ 0 ≤ z ∧ z < s 0 0) ∧ h' = HM ad s) (fun _ _ => False) := by
  have b0 := V.at 0 0 rfl
  refine Ct.intro hfl (by decide +kernel) rfl (Nat.le_of_ble_eq_true rfl) ?_
  intro G C R T
  show G 0 [some (.ref (ad 40)), some (iv z)] [] (HM ad s) 0 0
  refine gk_iload_n C dX5_isTune_0 rfl ?_
  refine gk_iconst C dX5_isTune_1 ?_
  refine gk_aload_n C dX5_isTune_2 rfl ?_
  refine mo_getf C I f_X5_111.r dX5_isTune_3 (by rfl) ?_
  refine gk_iconst C dX5_isTune_6 ?_
  refine gk_isub C dX5_isTune_7 ?_
  refine gk_callS C o_X5_isIn k_X5_114 dX5_isTune_8 (m_X5_isIn_c hfl hz (by omega) (by omega)) rfl rfl (by decide) (by decide) (by exact Nat.le_of_ble_eq_true rfl) (fun _ _ z => z.elim) (fun v_8 h_8 p_8 => ?_)
  obtain ⟨r_8, rfl, rb_8, rc_8, rfl⟩ := p_8
  dsimp only [gk_push]
  refine (R _ _ _ _ _ (by decide) (by decide)).2.1 _ rfl (by omega) dX5_isTune_11 ?_
  exact ⟨_, rfl, by omega, by omega, rfl⟩

set_option maxRecDepth 100000 in
set_option maxHeartbeats 4000000 in
theorem m_barOf {l : Launch} {Γ : GA} (hfl : l.stackTraces = false) {h : Hp} {kd : Int} (hk : 0 ≤ kd ∧ kd ≤ 3) : Ct l Γ m_X5_barOf [iv kd] h (fun v h' => v = some (iv (barU kd)) ∧ h' = h) (fun _ _ => False) := by
  refine Ct.intro hfl (by decide +kernel) rfl (Nat.le_of_ble_eq_true rfl) ?_
  intro G C R T
  show G 0 [some (iv kd)] [] h 0 0
  refine gk_iload_n C dX5_barOf_0 rfl ?_
  refine gk_iconst C dX5_barOf_1 ?_
  refine gk_icmp_ne C (tgt := 10) (by omega) (by omega) dX5_barOf_2 (by decide) (fun c_2 => ?_) (fun c_2 => ?_)
  · refine gk_iload_n C dX5_barOf_10 rfl ?_
    refine gk_iconst C dX5_barOf_11 ?_
    refine gk_icmp_ne C (tgt := 20) (by omega) (by omega) dX5_barOf_12 (by decide) (fun c_12 => ?_) (fun c_12 => ?_)
    · refine gk_bipush C dX5_barOf_20 (by decide) ?_
      refine (R _ _ _ _ _ (by decide) (by decide)).1 _ rfl dX5_barOf_22 ?_
      refine ⟨congrArg (fun q => some (iv q)) ?_, rfl⟩
      unfold barU
      (repeat' split) <;> omega
    · refine gk_bipush C dX5_barOf_15 (by decide) ?_
      refine gk_goto C (tgt := 22) dX5_barOf_17 (by decide) ?_
      refine (R _ _ _ _ _ (by decide) (by decide)).1 _ rfl dX5_barOf_22 ?_
      refine ⟨congrArg (fun q => some (iv q)) ?_, rfl⟩
      unfold barU
      (repeat' split) <;> omega
  · refine gk_bipush C dX5_barOf_5 (by decide) ?_
    refine gk_goto C (tgt := 22) dX5_barOf_7 (by decide) ?_
    refine (R _ _ _ _ _ (by decide) (by decide)).1 _ rfl dX5_barOf_22 ?_
    refine ⟨congrArg (fun q => some (iv q)) ?_, rfl⟩
    unfold barU
    (repeat' split) <;> omega

set_option maxRecDepth 100000 in
set_option maxHeartbeats 4000000 in
theorem m_thrown {l : Launch} {Γ : GA} (hfl : l.stackTraces = false) {ad : Nat → Nat} (I : IM ad) {s : MS} : Ct l Γ m_X5_thrown [.ref (ad 40)] (HM ad s) (fun v h' => v = some (iv (s 39 0)) ∧ h' = HM ad s) (fun _ _ => False) := by
  refine Ct.intro hfl (by decide +kernel) rfl (Nat.le_of_ble_eq_true rfl) ?_
  intro G C R T
  show G 0 [some (.ref (ad 40))] [] (HM ad s) 0 0
  refine gk_aload_n C dX5_thrown_0 rfl ?_
  refine mo_getf C I f_X5_107.r dX5_thrown_1 (by rfl) ?_
  refine (R _ _ _ _ _ (by decide) (by decide)).1 _ rfl dX5_thrown_4 ?_
  exact ⟨rfl, rfl⟩

/-- what the reference makes of tune -/
def MTune (s : MS) (z r : Int) (s2 : MS) : Prop :=
  (¬ (0 ≤ z ∧ z ≤ 3) ∧ r = 0 ∧ s2 = moS s 39 (fun _ => 1)) ∨ ((0 ≤ z ∧ z ≤ 3) ∧ s 0 0 = 10 ∧ r = 0 ∧ s2 = moS s 39 (fun _ => 2)) ∨
  ((0 ≤ z ∧ z ≤ 3) ∧ s 0 0 < 10 ∧ r = s 0 0 ∧ s2 = moS (moS (moS s 39 (fun _ => 0)) 1 (gupd (s 1) (s 0 0) z)) 0 (fun _ => s 0 0 + 1))

set_option maxRecDepth 100000 in
set_option maxHeartbeats 4000000 in
theorem m_tune {l : Launch} {Γ : GA} (hfl : l.stackTraces = false) {ad : Nat → Nat} (I : IM ad) {s : MS} (V : VM s) {z : Int} (hz : -2147483648 ≤ z ∧ z ≤ 2147483647) : Ct l Γ m_X5_tune [.ref (ad 40), iv z] (HM ad s) (fun v h' => ∃ (r : Int) (s2 : MS), v = some (iv r) ∧ h' = HM ad s2 ∧ MTune s z r s2) (fun _ _ => False) := by
  have b0 := V.at 0 0 rfl
  refine Ct.intro hfl (by decide +kernel) rfl (Nat.le_of_ble_eq_true rfl) ?_
  intro G C R T
  show G 0 [some (.ref (ad 40)), some (iv z)] [] (HM ad s) 0 0
  refine gk_aload_n C dX5_tune_0 rfl ?_
  refine gk_iload_n C dX5_tune_1 rfl ?_
  refine gk_iconst C dX5_tune_2 ?_
  refine gk_iconst C dX5_tune_3 ?_
  refine gk_callS C o_X5_isIn k_X5_114 dX5_tune_4 (m_X5_isIn_c hfl hz (by omega) (by omega)) rfl rfl (by decide) (by decide) (by exact Nat.le_of_ble_eq_true rfl) (fun _ _ z => z.elim) (fun v_4 h_4 p_4 => ?_)
  obtain ⟨r_4, rfl, rb_4, rc_4, rfl⟩ := p_4
  dsimp only [gk_push]
  refine gk_if_ne C (tgt := 14) (by omega) dX5_tune_7 (by decide) (fun c_7 => ?_) (fun c_7 => ?_)
  · refine gk_aload_n C dX5_tune_14 rfl ?_
    refine mo_getf C I f_X5_111.r dX5_tune_15 (by rfl) ?_
    refine gk_bipush C dX5_tune_18 (by decide) ?_
    refine gk_icmp_ne C (tgt := 27) (by omega) (by omega) dX5_tune_20 (by decide) (fun c_20 => ?_) (fun c_20 => ?_)
    · refine gk_iconst C dX5_tune_27 ?_
      refine mo_putf C I f_X5_107 (by decide) dX5_tune_28 ?_
      refine gk_aload_n C dX5_tune_31 rfl ?_
      refine mo_getf C I f_X5_107.r dX5_tune_32 (by rfl) ?_
      try simp only [moS3_ap, moS_ap, Nat.reduceEqDiff, if_true, if_false, reduceIte]
      refine gk_if_le C (tgt := 40) (by omega) dX5_tune_35 (by decide) (fun c_35 => ?_) (fun c_35 => ?_)
      · refine gk_aload_n C dX5_tune_40 rfl ?_
        refine mo_getf C I f_X5_7.r dX5_tune_41 (by rfl) ?_
        try simp only [moS3_ap, moS_ap, Nat.reduceEqDiff, if_true, if_false, reduceIte]
        refine gk_aload_n C dX5_tune_44 rfl ?_
        refine mo_getf C I f_X5_111.r dX5_tune_45 (by rfl) ?_
        try simp only [moS3_ap, moS_ap, Nat.reduceEqDiff, if_true, if_false, reduceIte]
        refine gk_iload_n C dX5_tune_48 rfl ?_
        refine mo_iast C I (by rfl) dX5_tune_49 (by omega) (by omega) ?_
        refine gk_aload_n C dX5_tune_50 rfl ?_
        refine gk_dup C rfl dX5_tune_51 ?_
        refine mo_getf C I f_X5_111.r dX5_tune_52 (by rfl) ?_
        try simp only [moS3_ap, moS_ap, Nat.reduceEqDiff, if_true, if_false, reduceIte]
        refine gk_iconst C dX5_tune_55 ?_
        refine gk_iadd C dX5_tune_56 ?_
        refine mo_putf C I f_X5_111 (by decide) dX5_tune_57 ?_
        refine gk_aload_n C dX5_tune_60 rfl ?_
        refine mo_getf C I f_X5_111.r dX5_tune_61 (by rfl) ?_
        try simp only [moS3_ap, moS_ap, Nat.reduceEqDiff, if_true, if_false, reduceIte]
        refine gk_iconst C dX5_tune_64 ?_
        refine gk_isub C dX5_tune_65 ?_
        refine (R _ _ _ _ _ (by decide) (by decide)).1 _ rfl dX5_tune_66 ?_
        first | exact absurd c_35 (by omega) | exact ⟨_, _, rfl, rfl, Or.inr (Or.inr ⟨by omega, by omega, by omega, rfl⟩)⟩
      · exact absurd c_35 (by omega)
    · refine gk_iconst C dX5_tune_23 ?_
      refine gk_goto C (tgt := 28) dX5_tune_24 (by decide) ?_
      refine mo_putf C I f_X5_107 (by decide) dX5_tune_28 ?_
      refine gk_aload_n C dX5_tune_31 rfl ?_
      refine mo_getf C I f_X5_107.r dX5_tune_32 (by rfl) ?_
      try simp only [moS3_ap, moS_ap, Nat.reduceEqDiff, if_true, if_false, reduceIte]
      refine gk_if_le C (tgt := 40) (by omega) dX5_tune_35 (by decide) (fun c_35 => ?_) (fun c_35 => ?_)
      · exact absurd c_35 (by omega)
      · refine gk_iconst C dX5_tune_38 ?_
        refine (R _ _ _ _ _ (by decide) (by decide)).1 _ rfl dX5_tune_39 ?_
        first | exact ⟨_, _, rfl, rfl, Or.inl ⟨by omega, rfl, rfl⟩⟩ | exact ⟨_, _, rfl, rfl, Or.inr (Or.inl ⟨by omega, by omega, rfl, rfl⟩)⟩ | exact absurd c_35 (by omega)
  · refine gk_iconst C dX5_tune_10 ?_
    refine gk_goto C (tgt := 28) dX5_tune_11 (by decide) ?_
    refine mo_putf C I f_X5_107 (by decide) dX5_tune_28 ?_
    refine gk_aload_n C dX5_tune_31 rfl ?_
    refine mo_getf C I f_X5_107.r dX5_tune_32 (by rfl) ?_
    try simp only [moS3_ap, moS_ap, Nat.reduceEqDiff, if_true, if_false, reduceIte]
    refine gk_if_le C (tgt := 40) (by omega) dX5_tune_35 (by decide) (fun c_35 => ?_) (fun c_35 => ?_)
    · exact absurd c_35 (by omega)
    · refine gk_iconst C dX5_tune_38 ?_
      refine (R _ _ _ _ _ (by decide) (by decide)).1 _ rfl dX5_tune_39 ?_
      first | exact ⟨_, _, rfl, rfl, Or.inl ⟨by omega, rfl, rfl⟩⟩ | exact ⟨_, _, rfl, rfl, Or.inr (Or.inl ⟨by omega, by omega, rfl, rfl⟩)⟩ | exact absurd c_35 (by omega)

def rsum (f : Int → Int) (a : Int) : Nat → Int
  | 0 => 0
  | n + 1 => rsum f a n + f (a + n)
theorem rsum_bd {f : Int → Int} {a b : Int} (hb : 0 ≤ b) (hf : ∀ i, 0 ≤ f i ∧ f i ≤ b) : ∀ n : Nat, 0 ≤ rsum f a n ∧ rsum f a n ≤ b * n
  | 0 => by simp [rsum]
  | n + 1 => by
    have h1 := rsum_bd (a := a) hb hf n
    have h2 := hf (a + n)
    show 0 ≤ rsum f a n + f (a + n) ∧ rsum f a n + f (a + n) ≤ b * ((n + 1 : Nat) : Int)
    rw [Int.natCast_succ, Int.mul_add, Int.mul_one]
    omega
def mFo (s : MS) (t : Int) : Int := if s 3 t = 0 then 0 else s 7 (8 * t + s 3 t - 1)
def mOu (s : MS) (t : Int) : Int := rsum (fun k => s 5 (64 * t + k)) (mFo s t) (s 2 t - mFo s t).toNat
def mLast (s : MS) (t : Int) : Int := if s 2 t = 0 then -1 else s 4 (64 * t + s 2 t - 1)
theorem mFo_bd {s : MS} (V : VM s) (t : Int) : 0 ≤ mFo s t ∧ mFo s t ≤ 64 := by
  unfold mFo
  have := V.at 7 (8 * t + s 3 t - 1) rfl
  split <;> omega
theorem mOu_bd {s : MS} (V : VM s) (t : Int) : 0 ≤ mOu s t ∧ mOu s t ≤ 1024 := by
  unfold mOu
  have h1 := rsum_bd (f := fun k => s 5 (64 * t + k)) (a := mFo s t) (b := 16) (by omega) (fun i => V.at 5 _ rfl) (s 2 t - mFo s t).toNat
  have h2 := mFo_bd V t
  have h3 := V.at 2 t rfl
  omega
/-- what the reference makes of note -/
def MNote (s : MS) (t h l g r : Int) (s2 : MS) : Prop :=
  (¬ (0 ≤ t ∧ t < s 0 0) ∧ r = 0 ∧ s2 = moS s 39 (fun _ => 1)) ∨ ((0 ≤ t ∧ t < s 0 0) ∧ ¬ ((0 ≤ h ∧ h ≤ 8) ∧ (1 ≤ l ∧ l ≤ 16) ∧ (0 ≤ g ∧ g ≤ 8)) ∧ r = 0 ∧ s2 = moS s 39 (fun _ => 2)) ∨
  ((0 ≤ t ∧ t < s 0 0) ∧ ((0 ≤ h ∧ h ≤ 8) ∧ (1 ≤ l ∧ l ≤ 16) ∧ (0 ≤ g ∧ g ≤ 8)) ∧ ¬ (lawf (mLast s t) h g ∧ mOu s t % barU (s 1 t) + l ≤ barU (s 1 t) ∧ s 2 t < 64) ∧ r = 0 ∧ s2 = moS s 39 (fun _ => 3)) ∨
  ((0 ≤ t ∧ t < s 0 0) ∧ ((0 ≤ h ∧ h ≤ 8) ∧ (1 ≤ l ∧ l ≤ 16) ∧ (0 ≤ g ∧ g ≤ 8)) ∧ (lawf (mLast s t) h g ∧ mOu s t % barU (s 1 t) + l ≤ barU (s 1 t) ∧ s 2 t < 64) ∧ r = s 2 t + 1 ∧
    s2 = moS (moS (moS (moS (moS s 39 (fun _ => 0)) 4 (gupd (s 4) (64 * t + s 2 t) h)) 5 (gupd (s 5) (64 * t + s 2 t) l)) 6 (gupd (s 6) (64 * t + s 2 t) g)) 2 (gupd (s 2) t (s 2 t + 1)))
/-- what the reference makes of part -/
def MPart (s : MS) (t tw r : Int) (s2 : MS) : Prop :=
  (¬ (0 ≤ t ∧ t < s 0 0) ∧ r = 0 ∧ s2 = moS s 39 (fun _ => 1)) ∨
  ((0 ≤ t ∧ t < s 0 0) ∧ (mOu s t = 0 ∨ 0 < mOu s t % barU (s 1 t) ∨ s 3 t = 8) ∧ r = 0 ∧ s2 = moS s 39 (fun _ => 2)) ∨
  ((0 ≤ t ∧ t < s 0 0) ∧ ¬ (mOu s t = 0 ∨ 0 < mOu s t % barU (s 1 t) ∨ s 3 t = 8) ∧ r = mOu s t / barU (s 1 t) ∧
    s2 = moS (moS (moS (moS s 39 (fun _ => 0)) 7 (gupd (s 7) (8 * t + s 3 t) (s 2 t))) 8 (gupd (s 8) (8 * t + s 3 t) tw)) 3 (gupd (s 3) t (s 3 t + 1)))

set_option maxRecDepth 100000 in
set_option maxHeartbeats 4000000 in
theorem m_openFrom {l : Launch} {Γ : GA} (hfl : l.stackTraces = false) {ad : Nat → Nat} (I : IM ad) {s : MS} (V : VM s) {t : Int} (ht : 0 ≤ t ∧ t < 10) : Ct l Γ m_X5_openFrom [.ref (ad 40), iv t] (HM ad s) (fun v h' => v = some (iv (mFo s t)) ∧ h' = HM ad s) (fun _ _ => False) := by
  have b3 := V.at 3 t rfl
  have b7 := V.at 7 (8 * t + s 3 t - 1) rfl
  refine Ct.intro hfl (by decide +kernel) rfl (Nat.le_of_ble_eq_true rfl) ?_
  intro G C R T
  show G 0 [some (.ref (ad 40)), some (iv t)] [] (HM ad s) 0 0
  refine gk_aload_n C dX5_openFrom_0 rfl ?_
  refine mo_getf C I f_X5_16.r dX5_openFrom_1 (by rfl) ?_
  refine gk_iload_n C dX5_openFrom_4 rfl ?_
  refine mo_iald C I (by rfl) dX5_openFrom_5 (by omega) (by omega) ?_
  refine gk_if_ne C (tgt := 13) (by omega) dX5_openFrom_6 (by decide) (fun c_6 => ?_) (fun c_6 => ?_)
  · refine gk_aload_n C dX5_openFrom_13 rfl ?_
    refine mo_getf C I f_X5_28.r dX5_openFrom_14 (by rfl) ?_
    refine gk_bipush C dX5_openFrom_17 (by decide) ?_
    refine gk_iload_n C dX5_openFrom_19 rfl ?_
    refine gk_imul C dX5_openFrom_20 ?_
    refine gk_aload_n C dX5_openFrom_21 rfl ?_
    refine mo_getf C I f_X5_16.r dX5_openFrom_22 (by rfl) ?_
    refine gk_iload_n C dX5_openFrom_25 rfl ?_
    refine mo_iald C I (by rfl) dX5_openFrom_26 (by omega) (by omega) ?_
    refine gk_iadd C dX5_openFrom_27 ?_
    refine gk_iconst C dX5_openFrom_28 ?_
    refine gk_isub C dX5_openFrom_29 ?_
    refine mo_iald C I (by rfl) dX5_openFrom_30 (by omega) (by omega) ?_
    refine (R _ _ _ _ _ (by decide) (by decide)).1 _ rfl dX5_openFrom_31 ?_
    refine ⟨congrArg (fun q => some (iv q)) ?_, rfl⟩
    unfold mFo
    split <;> first | rfl | omega
  · refine gk_iconst C dX5_openFrom_9 ?_
    refine gk_goto C (tgt := 31) dX5_openFrom_10 (by decide) ?_
    refine (R _ _ _ _ _ (by decide) (by decide)).1 _ rfl dX5_openFrom_31 ?_
    refine ⟨congrArg (fun q => some (iv q)) ?_, rfl⟩
    unfold mFo
    split <;> first | rfl | omega

set_option maxRecDepth 100000 in
set_option maxHeartbeats 4000000 in
theorem m_openUnits {l : Launch} {Γ : GA} (hfl : l.stackTraces = false) {ad : Nat → Nat} (I : IM ad) {s : MS} (V : VM s) {t : Int} (ht : 0 ≤ t ∧ t < 10) : Ct l Γ m_X5_openUnits [.ref (ad 40), iv t] (HM ad s) (fun v h' => v = some (iv (mOu s t)) ∧ h' = HM ad s) (fun _ _ => False) := by
  have b2 := V.at 2 t rfl
  have bf := mFo_bd V t
  refine Ct.intro hfl (by decide +kernel) rfl (Nat.le_of_ble_eq_true rfl) ?_
  intro G C R T
  show G 0 [some (.ref (ad 40)), some (iv t), none, none] [] (HM ad s) 0 0
  refine gk_iconst C dX5_openUnits_0 ?_
  refine gk_istore_n_2 C rfl (by decide) dX5_openUnits_1 ?_
  refine gk_aload_n C dX5_openUnits_2 rfl ?_
  refine gk_iload_n C dX5_openUnits_3 rfl ?_
  refine gk_callV C o_X5_openFrom k_X5_118 dX5_openUnits_4 (m_openFrom hfl I V ht) (mo_obj I) rfl rfl rfl (by decide) (by decide) (by exact Nat.le_of_ble_eq_true rfl) (fun _ _ z => z.elim) (fun v_4 h_4 p_4 => ?_)
  obtain ⟨rfl, rfl⟩ := p_4
  dsimp only [gk_push]
  refine gk_istore_n_3 C rfl (by decide) dX5_openUnits_7 ?_
  have key : ∀ (n i : Nat), (65 : Int) - i < n → (mFo s t + i ≤ s 2 t ∨ i = 0) → G 8 [some (.ref (ad 40)), some (iv t), some (iv (rsum (fun k => s 5 (64 * t + k)) (mFo s t) i)), some (iv (mFo s t + i))] [] (HM ad s) 0 0 := by
    intro n
    induction n with
    | zero => intro i h1; omega
    | succ n ih =>
      intro i hn hi
      refine gk_iload_n C dX5_openUnits_8 rfl ?_
      refine gk_aload_n C dX5_openUnits_9 rfl ?_
      refine mo_getf C I f_X5_13.r dX5_openUnits_10 (by rfl) ?_
      refine gk_iload_n C dX5_openUnits_13 rfl ?_
      refine mo_iald C I (by rfl) dX5_openUnits_14 (by omega) (by omega) ?_
      refine gk_icmp_ge C (tgt := 38) (by omega) (by omega) dX5_openUnits_15 (by decide) (fun c_15 => ?_) (fun c_15 => ?_)
      · refine gk_iload_n C dX5_openUnits_38 rfl ?_
        refine (R _ _ _ _ _ (by decide) (by decide)).1 _ rfl dX5_openUnits_39 ?_
        have e : i = (s 2 t - mFo s t).toNat := by omega
        rw [e]
        exact ⟨rfl, rfl⟩
      · refine gk_iload_n C dX5_openUnits_18 rfl ?_
        refine gk_aload_n C dX5_openUnits_19 rfl ?_
        refine mo_getf C I f_X5_22.r dX5_openUnits_20 (by rfl) ?_
        refine gk_bipush C dX5_openUnits_23 (by decide) ?_
        refine gk_iload_n C dX5_openUnits_25 rfl ?_
        refine gk_imul C dX5_openUnits_26 ?_
        refine gk_iload_n C dX5_openUnits_27 rfl ?_
        refine gk_iadd C dX5_openUnits_28 ?_
        refine mo_iald C I (by rfl) dX5_openUnits_29 (by omega) (by omega) ?_
        refine gk_iadd C dX5_openUnits_30 ?_
        refine gk_istore_n_2 C rfl (by decide) dX5_openUnits_31 ?_
        refine gk_iinc_3 C rfl (by decide) dX5_openUnits_32 ?_
        refine gk_goto C (tgt := 8) dX5_openUnits_35 (by decide) ?_
        have h2 := ih (i + 1) (by omega) (by omega)
        rw [show mFo s t + ((i + 1 : Nat) : Int) = mFo s t + i + 1 by omega] at h2
        exact h2
  have h1 := key 66 0 (by omega) (by omega)
  rw [show mFo s t + ((0 : Nat) : Int) = mFo s t by omega] at h1
  exact h1

set_option maxRecDepth 100000 in
set_option maxHeartbeats 4000000 in
theorem m_heightOf {l : Launch} {Γ : GA} (hfl : l.stackTraces = false) {h : Hp} {g : Int} (hg : 0 ≤ g ∧ g ≤ 8) : Ct l Γ m_X5_heightOf [iv g] h (fun v h' => v = some (iv (if g < 3 then 3 + g else 4 + g)) ∧ h' = h) (fun _ _ => False) := by
  refine Ct.intro hfl (by decide +kernel) rfl (Nat.le_of_ble_eq_true rfl) ?_
  intro G C R T
  show G 0 [some (iv g)] [] h 0 0
  refine gk_iload_n C dX5_heightOf_0 rfl ?_
  refine gk_iconst C dX5_heightOf_1 ?_
  refine gk_icmp_ge C (tgt := 11) (by omega) (by omega) dX5_heightOf_2 (by decide) (fun c_2 => ?_) (fun c_2 => ?_)
  · refine gk_iconst C dX5_heightOf_11 ?_
    refine gk_iload_n C dX5_heightOf_12 rfl ?_
    refine gk_iadd C dX5_heightOf_13 ?_
    refine (R _ _ _ _ _ (by decide) (by decide)).1 _ rfl dX5_heightOf_14 ?_
    refine ⟨congrArg (fun q => some (iv q)) ?_, rfl⟩
    split <;> omega
  · refine gk_iconst C dX5_heightOf_5 ?_
    refine gk_iload_n C dX5_heightOf_6 rfl ?_
    refine gk_iadd C dX5_heightOf_7 ?_
    refine gk_goto C (tgt := 14) dX5_heightOf_8 (by decide) ?_
    refine (R _ _ _ _ _ (by decide) (by decide)).1 _ rfl dX5_heightOf_14 ?_
    refine ⟨congrArg (fun q => some (iv q)) ?_, rfl⟩
    split <;> omega

set_option maxRecDepth 100000 in
set_option maxHeartbeats 4000000 in
theorem m_isLawful {l : Launch} {Γ : GA} (hfl : l.stackTraces = false) {ad : Nat → Nat} (I : IM ad) {s : MS} (V : VM s) {t : Int} (ht : 0 ≤ t ∧ t < 10) {ht2 g : Int} (hht : 0 ≤ ht2 ∧ ht2 ≤ 8) (hg : 0 ≤ g ∧ g ≤ 8) : Ct l Γ m_X5_isLawful [.ref (ad 40), iv t, iv ht2, iv g] (HM ad s) (fun v h' => ∃ r : Int, v = some (iv r) ∧ (r = 0 ∨ r = 1) ∧ (r = 1 ↔ lawf (mLast s t) ht2 g) ∧ h' = HM ad s) (fun _ _ => False) := by
  have b2 := V.at 2 t rfl
  have b4 := V.at 4 (64 * t + s 2 t - 1) rfl
  have el : mLast s t = if s 2 t = 0 then -1 else s 4 (64 * t + s 2 t - 1) := rfl
  refine Ct.intro hfl (by decide +kernel) rfl (Nat.le_of_ble_eq_true rfl) ?_
  intro G C R T
  show G 0 [some (.ref (ad 40)), some (iv t), some (iv ht2), some (iv g)] [] (HM ad s) 0 0
  refine gk_iload_n C dX5_isLawful_0 rfl ?_
  refine gk_if_ne C (tgt := 41) (by omega) dX5_isLawful_1 (by decide) (fun c_1 => ?_) (fun c_1 => ?_)
  · refine gk_iload_n C dX5_isLawful_41 rfl ?_
    refine gk_iconst C dX5_isLawful_42 ?_
    refine gk_icmp_gt C (tgt := 62) (by omega) (by omega) dX5_isLawful_43 (by decide) (fun c_43 => ?_) (fun c_43 => ?_)
    · refine gk_iload_n C dX5_isLawful_62 rfl ?_
      refine gk_iconst C dX5_isLawful_63 ?_
      refine gk_icmp_ne C (tgt := 81) (by omega) (by omega) dX5_isLawful_64 (by decide) (fun c_64 => ?_) (fun c_64 => ?_)
      · refine gk_iload_n C dX5_isLawful_81 rfl ?_
        refine gk_bipush C dX5_isLawful_82 (by decide) ?_
        refine gk_icmp_ne C (tgt := 100) (by omega) (by omega) dX5_isLawful_84 (by decide) (fun c_84 => ?_) (fun c_84 => ?_)
        · refine gk_iload_n C dX5_isLawful_100 rfl ?_
          refine gk_bipush C dX5_isLawful_101 (by decide) ?_
          refine gk_icmp_ne C (tgt := 119) (by omega) (by omega) dX5_isLawful_103 (by decide) (fun c_103 => ?_) (fun c_103 => ?_)
          · refine gk_iload_n C dX5_isLawful_119 rfl ?_
            refine gk_iconst C dX5_isLawful_120 ?_
            refine gk_icmp_ne C (tgt := 128) (by omega) (by omega) dX5_isLawful_121 (by decide) (fun c_121 => ?_) (fun c_121 => ?_)
            · refine gk_iconst C dX5_isLawful_128 ?_
              refine (R _ _ _ _ _ (by decide) (by decide)).2.1 _ rfl (by omega) dX5_isLawful_129 ?_
              unfold lawf
              rw [el]
              first | exact ⟨1, rfl, by omega, by omega, rfl⟩ | exact ⟨0, rfl, by omega, by omega, rfl⟩
            · refine gk_iconst C dX5_isLawful_124 ?_
              refine gk_goto C (tgt := 129) dX5_isLawful_125 (by decide) ?_
              refine (R _ _ _ _ _ (by decide) (by decide)).2.1 _ rfl (by omega) dX5_isLawful_129 ?_
              unfold lawf
              rw [el]
              first | exact ⟨1, rfl, by omega, by omega, rfl⟩ | exact ⟨0, rfl, by omega, by omega, rfl⟩
          · refine gk_iload_n C dX5_isLawful_106 rfl ?_
            refine gk_iconst C dX5_isLawful_107 ?_
            refine gk_icmp_ne C (tgt := 115) (by omega) (by omega) dX5_isLawful_108 (by decide) (fun c_108 => ?_) (fun c_108 => ?_)
            · refine gk_iconst C dX5_isLawful_115 ?_
              refine gk_goto C (tgt := 129) dX5_isLawful_116 (by decide) ?_
              refine (R _ _ _ _ _ (by decide) (by decide)).2.1 _ rfl (by omega) dX5_isLawful_129 ?_
              unfold lawf
              rw [el]
              first | exact ⟨1, rfl, by omega, by omega, rfl⟩ | exact ⟨0, rfl, by omega, by omega, rfl⟩
            · refine gk_iconst C dX5_isLawful_111 ?_
              refine gk_goto C (tgt := 129) dX5_isLawful_112 (by decide) ?_
              refine (R _ _ _ _ _ (by decide) (by decide)).2.1 _ rfl (by omega) dX5_isLawful_129 ?_
              unfold lawf
              rw [el]
              first | exact ⟨1, rfl, by omega, by omega, rfl⟩ | exact ⟨0, rfl, by omega, by omega, rfl⟩
        · refine gk_iload_n C dX5_isLawful_87 rfl ?_
          refine gk_iconst C dX5_isLawful_88 ?_
          refine gk_icmp_lt C (tgt := 96) (by omega) (by omega) dX5_isLawful_89 (by decide) (fun c_89 => ?_) (fun c_89 => ?_)
          · refine gk_iconst C dX5_isLawful_96 ?_
            refine gk_goto C (tgt := 129) dX5_isLawful_97 (by decide) ?_
            refine (R _ _ _ _ _ (by decide) (by decide)).2.1 _ rfl (by omega) dX5_isLawful_129 ?_
            unfold lawf
            rw [el]
            first | exact ⟨1, rfl, by omega, by omega, rfl⟩ | exact ⟨0, rfl, by omega, by omega, rfl⟩
          · refine gk_iconst C dX5_isLawful_92 ?_
            refine gk_goto C (tgt := 129) dX5_isLawful_93 (by decide) ?_
            refine (R _ _ _ _ _ (by decide) (by decide)).2.1 _ rfl (by omega) dX5_isLawful_129 ?_
            unfold lawf
            rw [el]
            first | exact ⟨1, rfl, by omega, by omega, rfl⟩ | exact ⟨0, rfl, by omega, by omega, rfl⟩
      · refine gk_iload_n C dX5_isLawful_67 rfl ?_
        refine gk_bipush C dX5_isLawful_68 (by decide) ?_
        refine gk_icmp_gt C (tgt := 77) (by omega) (by omega) dX5_isLawful_70 (by decide) (fun c_70 => ?_) (fun c_70 => ?_)
        · refine gk_iconst C dX5_isLawful_77 ?_
          refine gk_goto C (tgt := 129) dX5_isLawful_78 (by decide) ?_
          refine (R _ _ _ _ _ (by decide) (by decide)).2.1 _ rfl (by omega) dX5_isLawful_129 ?_
          unfold lawf
          rw [el]
          first | exact ⟨1, rfl, by omega, by omega, rfl⟩ | exact ⟨0, rfl, by omega, by omega, rfl⟩
        · refine gk_iconst C dX5_isLawful_73 ?_
          refine gk_goto C (tgt := 129) dX5_isLawful_74 (by decide) ?_
          refine (R _ _ _ _ _ (by decide) (by decide)).2.1 _ rfl (by omega) dX5_isLawful_129 ?_
          unfold lawf
          rw [el]
          first | exact ⟨1, rfl, by omega, by omega, rfl⟩ | exact ⟨0, rfl, by omega, by omega, rfl⟩
    · refine gk_iload_n C dX5_isLawful_46 rfl ?_
      refine gk_callS C o_X5_heightOf k_X5_122 dX5_isLawful_47 (m_heightOf hfl hg) rfl rfl (by decide) (by decide) (by exact Nat.le_of_ble_eq_true rfl) (fun _ _ z => z.elim) (fun v_47 h_47 p_47 => ?_)
      obtain ⟨rfl, rfl⟩ := p_47
      dsimp only [gk_push]
      have e9 : (if g < 3 then 3 + g else 4 + g) = if g < 3 then 3 + g else 4 + g := rfl
      refine gk_iload_n C dX5_isLawful_50 rfl ?_
      refine gk_icmp_le C (tgt := 58) (by split <;> omega) (by omega) dX5_isLawful_51 (by decide) (fun c_51 => ?_) (fun c_51 => ?_)
      · refine gk_iconst C dX5_isLawful_58 ?_
        refine gk_goto C (tgt := 129) dX5_isLawful_59 (by decide) ?_
        refine (R _ _ _ _ _ (by decide) (by decide)).2.1 _ rfl (by omega) dX5_isLawful_129 ?_
        unfold lawf
        rw [el]
        first | exact ⟨1, rfl, by omega, by omega, rfl⟩ | exact ⟨0, rfl, by omega, by omega, rfl⟩
      · refine gk_iconst C dX5_isLawful_54 ?_
        refine gk_goto C (tgt := 129) dX5_isLawful_55 (by decide) ?_
        refine (R _ _ _ _ _ (by decide) (by decide)).2.1 _ rfl (by omega) dX5_isLawful_129 ?_
        unfold lawf
        rw [el]
        first | exact ⟨1, rfl, by omega, by omega, rfl⟩ | exact ⟨0, rfl, by omega, by omega, rfl⟩
  · refine gk_aload_n C dX5_isLawful_4 rfl ?_
    refine mo_getf C I f_X5_13.r dX5_isLawful_5 (by rfl) ?_
    refine gk_iload_n C dX5_isLawful_8 rfl ?_
    refine mo_iald C I (by rfl) dX5_isLawful_9 (by omega) (by omega) ?_
    refine gk_if_eq C (tgt := 35) (by omega) dX5_isLawful_10 (by decide) (fun c_10 => ?_) (fun c_10 => ?_)
    · refine gk_iconst C dX5_isLawful_35 ?_
      refine gk_goto C (tgt := 40) dX5_isLawful_36 (by decide) ?_
      refine (R _ _ _ _ _ (by decide) (by decide)).2.1 _ rfl (by omega) dX5_isLawful_40 ?_
      unfold lawf
      rw [el]
      first | exact ⟨1, rfl, by omega, by omega, rfl⟩ | exact ⟨0, rfl, by omega, by omega, rfl⟩
    · refine gk_aload_n C dX5_isLawful_13 rfl ?_
      refine mo_getf C I f_X5_19.r dX5_isLawful_14 (by rfl) ?_
      refine gk_bipush C dX5_isLawful_17 (by decide) ?_
      refine gk_iload_n C dX5_isLawful_19 rfl ?_
      refine gk_imul C dX5_isLawful_20 ?_
      refine gk_aload_n C dX5_isLawful_21 rfl ?_
      refine mo_getf C I f_X5_13.r dX5_isLawful_22 (by rfl) ?_
      refine gk_iload_n C dX5_isLawful_25 rfl ?_
      refine mo_iald C I (by rfl) dX5_isLawful_26 (by omega) (by omega) ?_
      refine gk_iadd C dX5_isLawful_27 ?_
      refine gk_iconst C dX5_isLawful_28 ?_
      refine gk_isub C dX5_isLawful_29 ?_
      refine mo_iald C I (by rfl) dX5_isLawful_30 (by omega) (by omega) ?_
      refine gk_iload_n C dX5_isLawful_31 rfl ?_
      refine gk_icmp_eq C (tgt := 39) (by omega) (by omega) dX5_isLawful_32 (by decide) (fun c_32 => ?_) (fun c_32 => ?_)
      · refine gk_iconst C dX5_isLawful_39 ?_
        refine (R _ _ _ _ _ (by decide) (by decide)).2.1 _ rfl (by omega) dX5_isLawful_40 ?_
        unfold lawf
        rw [el]
        first | exact ⟨1, rfl, by omega, by omega, rfl⟩ | exact ⟨0, rfl, by omega, by omega, rfl⟩
      · refine gk_iconst C dX5_isLawful_35 ?_
        refine gk_goto C (tgt := 40) dX5_isLawful_36 (by decide) ?_
        refine (R _ _ _ _ _ (by decide) (by decide)).2.1 _ rfl (by omega) dX5_isLawful_40 ?_
        unfold lawf
        rw [el]
        first | exact ⟨1, rfl, by omega, by omega, rfl⟩ | exact ⟨0, rfl, by omega, by omega, rfl⟩

set_option maxRecDepth 100000 in
set_option maxHeartbeats 4000000 in
theorem m_note {l : Launch} {Γ : GA} (hfl : l.stackTraces = false) {ad : Nat → Nat} (I : IM ad) {s : MS} (V : VM s) {t h l2 g : Int} (ht : -2147483648 ≤ t ∧ t ≤ 2147483647) (hh : -2147483648 ≤ h ∧ h ≤ 2147483647) (hl2 : -2147483648 ≤ l2 ∧ l2 ≤ 2147483647) (hg : -2147483648 ≤ g ∧ g ≤ 2147483647) : Ct l Γ m_X5_note [.ref (ad 40), iv t, iv h, iv l2, iv g] (HM ad s) (fun v h' => ∃ (r : Int) (s2 : MS), v = some (iv r) ∧ h' = HM ad s2 ∧ MNote s t h l2 g r s2) (fun _ _ => False) := by
  have b0 := V.at 0 0 rfl
  have b1 := V.at 1 t rfl
  have b2 := V.at 2 t rfl
  have bU := barU_r (s 1 t)
  have bO := mOu_bd V t
  have bM := Int.emod_nonneg (mOu s t) (show barU (s 1 t) ≠ 0 by omega)
  have bN := Int.emod_lt_of_pos (mOu s t) (show 0 < barU (s 1 t) by omega)
  have V0 : VM (moS s 39 (fun _ => 0)) := V.set rfl (fun _ => by omega)
  refine Ct.intro hfl (by decide +kernel) rfl (Nat.le_of_ble_eq_true rfl) ?_
  intro G C R T
  show G 0 [some (.ref (ad 40)), some (iv t), some (iv h), some (iv l2), some (iv g), none, none, none] [] (HM ad s) 0 0
  refine gk_aload_n C dX5_note_0 rfl ?_
  refine gk_aload_n C dX5_note_1 rfl ?_
  refine gk_iload_n C dX5_note_2 rfl ?_
  refine gk_callV C o_X5_isTune k_X5_125 dX5_note_3 (m_isTune hfl I V ht) (mo_obj I) rfl rfl rfl (by decide) (by decide) (by exact Nat.le_of_ble_eq_true rfl) (fun _ _ z => z.elim) (fun v_3 h_3 p_3 => ?_)
  obtain ⟨r_3, rfl, rb_3, rc_3, rfl⟩ := p_3
  dsimp only [gk_push]
  refine gk_if_ne C (tgt := 13) (by omega) dX5_note_6 (by decide) (fun c_6 => ?_) (fun c_6 => ?_)
  · refine gk_iload_n C dX5_note_13 rfl ?_
    refine gk_iconst C dX5_note_14 ?_
    refine gk_bipush C dX5_note_15 (by decide) ?_
    refine gk_callS C o_X5_isIn k_X5_114 dX5_note_17 (m_X5_isIn_c hfl hh (by omega) (by omega)) rfl rfl (by decide) (by decide) (by exact Nat.le_of_ble_eq_true rfl) (fun _ _ z => z.elim) (fun v_17 h_17 p_17 => ?_)
    obtain ⟨r_17, rfl, rb_17, rc_17, rfl⟩ := p_17
    dsimp only [gk_push]
    refine gk_if_eq C (tgt := 44) (by omega) dX5_note_20 (by decide) (fun c_20 => ?_) (fun c_20 => ?_)
    · refine gk_iconst C dX5_note_44 ?_
      refine gk_goto C (tgt := 49) dX5_note_45 (by decide) ?_
      refine mo_putf C I f_X5_107 (by decide) dX5_note_49 ?_
      refine gk_aload_n C dX5_note_52 rfl ?_
      refine mo_getf C I f_X5_107.r dX5_note_53 (by rfl) ?_
      try simp only [moS3_ap, moS_ap, Nat.reduceEqDiff, if_true, if_false, reduceIte]
      refine gk_if_le C (tgt := 61) (by omega) dX5_note_56 (by decide) (fun c_56 => ?_) (fun c_56 => ?_)
      · exact absurd c_56 (by omega)
      · refine gk_iconst C dX5_note_59 ?_
        refine (R _ _ _ _ _ (by decide) (by decide)).1 _ rfl dX5_note_60 ?_
        first | exact ⟨_, _, rfl, rfl, Or.inl ⟨by omega, rfl, rfl⟩⟩ | exact ⟨_, _, rfl, rfl, Or.inr (Or.inl ⟨by omega, by omega, rfl, rfl⟩)⟩
    · refine gk_iload_n C dX5_note_23 rfl ?_
      refine gk_iconst C dX5_note_24 ?_
      refine gk_bipush C dX5_note_25 (by decide) ?_
      refine gk_callS C o_X5_isIn k_X5_114 dX5_note_27 (m_X5_isIn_c hfl hl2 (by omega) (by omega)) rfl rfl (by decide) (by decide) (by exact Nat.le_of_ble_eq_true rfl) (fun _ _ z => z.elim) (fun v_27 h_27 p_27 => ?_)
      obtain ⟨r_27, rfl, rb_27, rc_27, rfl⟩ := p_27
      dsimp only [gk_push]
      refine gk_if_eq C (tgt := 44) (by omega) dX5_note_30 (by decide) (fun c_30 => ?_) (fun c_30 => ?_)
      · refine gk_iconst C dX5_note_44 ?_
        refine gk_goto C (tgt := 49) dX5_note_45 (by decide) ?_
        refine mo_putf C I f_X5_107 (by decide) dX5_note_49 ?_
        refine gk_aload_n C dX5_note_52 rfl ?_
        refine mo_getf C I f_X5_107.r dX5_note_53 (by rfl) ?_
        try simp only [moS3_ap, moS_ap, Nat.reduceEqDiff, if_true, if_false, reduceIte]
        refine gk_if_le C (tgt := 61) (by omega) dX5_note_56 (by decide) (fun c_56 => ?_) (fun c_56 => ?_)
        · exact absurd c_56 (by omega)
        · refine gk_iconst C dX5_note_59 ?_
          refine (R _ _ _ _ _ (by decide) (by decide)).1 _ rfl dX5_note_60 ?_
          first | exact ⟨_, _, rfl, rfl, Or.inl ⟨by omega, rfl, rfl⟩⟩ | exact ⟨_, _, rfl, rfl, Or.inr (Or.inl ⟨by omega, by omega, rfl, rfl⟩)⟩
      · refine gk_iload C dX5_note_33 rfl ?_
        refine gk_iconst C dX5_note_35 ?_
        refine gk_bipush C dX5_note_36 (by decide) ?_
        refine gk_callS C o_X5_isIn k_X5_114 dX5_note_38 (m_X5_isIn_c hfl hg (by omega) (by omega)) rfl rfl (by decide) (by decide) (by exact Nat.le_of_ble_eq_true rfl) (fun _ _ z => z.elim) (fun v_38 h_38 p_38 => ?_)
        obtain ⟨r_38, rfl, rb_38, rc_38, rfl⟩ := p_38
        dsimp only [gk_push]
        refine gk_if_ne C (tgt := 48) (by omega) dX5_note_41 (by decide) (fun c_41 => ?_) (fun c_41 => ?_)
        · refine gk_iconst C dX5_note_48 ?_
          refine mo_putf C I f_X5_107 (by decide) dX5_note_49 ?_
          refine gk_aload_n C dX5_note_52 rfl ?_
          refine mo_getf C I f_X5_107.r dX5_note_53 (by rfl) ?_
          try simp only [moS3_ap, moS_ap, Nat.reduceEqDiff, if_true, if_false, reduceIte]
          refine gk_if_le C (tgt := 61) (by omega) dX5_note_56 (by decide) (fun c_56 => ?_) (fun c_56 => ?_)
          · refine gk_aload_n C dX5_note_61 rfl ?_
            refine mo_getf C I f_X5_7.r dX5_note_62 (by rfl) ?_
            try simp only [moS3_ap, moS_ap, Nat.reduceEqDiff, if_true, if_false, reduceIte]
            refine gk_iload_n C dX5_note_65 rfl ?_
            refine mo_iald C I (by rfl) dX5_note_66 (by omega) (by omega) ?_
            try simp only [moS3_ap, moS_ap, Nat.reduceEqDiff, if_true, if_false, reduceIte]
            refine gk_callS C o_X5_barOf k_X5_129 dX5_note_67 (m_barOf hfl b1) rfl rfl (by decide) (by decide) (by exact Nat.le_of_ble_eq_true rfl) (fun _ _ z => z.elim) (fun v_67 h_67 p_67 => ?_)
            obtain ⟨rfl, rfl⟩ := p_67
            dsimp only [gk_push]
            refine gk_istore_5 C rfl (by decide) dX5_note_70 ?_
            refine gk_aload_n C dX5_note_72 rfl ?_
            refine gk_iload_n C dX5_note_73 rfl ?_
            refine gk_iload_n C dX5_note_74 rfl ?_
            refine gk_iload C dX5_note_75 rfl ?_
            refine gk_callV C o_X5_isLawful k_X5_132 dX5_note_77 (m_isLawful hfl I V0 (by omega) (by omega) (by omega)) (mo_obj I) rfl rfl rfl (by decide) (by decide) (by exact Nat.le_of_ble_eq_true rfl) (fun _ _ z => z.elim) (fun v_77 h_77 p_77 => ?_)
            obtain ⟨r_77, rfl, rb_77, rc_77, rfl⟩ := p_77
            dsimp only [gk_push]
            have rd_77 : r_77 = 1 ↔ lawf (mLast s t) h g := rc_77
            clear rc_77
            refine gk_if_eq C (tgt := 113) (by omega) dX5_note_80 (by decide) (fun c_80 => ?_) (fun c_80 => ?_)
            · refine gk_iconst C dX5_note_113 ?_
              refine gk_istore_6 C rfl (by decide) dX5_note_114 ?_
              refine gk_aload_n C dX5_note_116 rfl ?_
              refine gk_iload C dX5_note_117 rfl ?_
              refine gk_if_eq C (tgt := 126) (by omega) dX5_note_119 (by decide) (fun c_119 => ?_) (fun c_119 => ?_)
              · refine gk_iconst C dX5_note_126 ?_
                refine mo_putf C I f_X5_107 (by decide) dX5_note_127 ?_
                refine gk_aload_n C dX5_note_130 rfl ?_
                refine mo_getf C I f_X5_107.r dX5_note_131 (by rfl) ?_
                try simp only [moS3_ap, moS_ap, Nat.reduceEqDiff, if_true, if_false, reduceIte]
                refine gk_if_le C (tgt := 139) (by omega) dX5_note_134 (by decide) (fun c_134 => ?_) (fun c_134 => ?_)
                · exact absurd c_134 (by omega)
                · refine gk_iconst C dX5_note_137 ?_
                  refine (R _ _ _ _ _ (by decide) (by decide)).1 _ rfl dX5_note_138 ?_
                  refine ⟨_, _, rfl, rfl, Or.inr (Or.inr (Or.inl ⟨by omega, by omega, fun z => ?_, rfl, moS_moS⟩))⟩
                  first | exact absurd (rd_77.mpr z.1) (by omega) | omega
              · exact absurd c_119 (by omega)
            · refine gk_aload_n C dX5_note_83 rfl ?_
              refine gk_iload_n C dX5_note_84 rfl ?_
              refine gk_callV C o_X5_openUnits k_X5_135 dX5_note_85 (m_openUnits hfl I V0 (by omega)) (mo_obj I) rfl rfl rfl (by decide) (by decide) (by exact Nat.le_of_ble_eq_true rfl) (fun _ _ z => z.elim) (fun v_85 h_85 p_85 => ?_)
              obtain ⟨rfl, rfl⟩ := p_85
              dsimp only [gk_push]
              rw [show mOu (moS s 39 (fun _ => 0)) t = mOu s t from rfl]
              refine gk_iload C dX5_note_88 rfl ?_
              refine gk_irem C (by omega) (by omega) dX5_note_90 ?_
              refine gk_iload_n C dX5_note_91 rfl ?_
              refine gk_iadd C dX5_note_92 ?_
              refine gk_iload C dX5_note_93 rfl ?_
              refine gk_icmp_gt C (tgt := 113) (by omega) (by omega) dX5_note_95 (by decide) (fun c_95 => ?_) (fun c_95 => ?_)
              · refine gk_iconst C dX5_note_113 ?_
                refine gk_istore_6 C rfl (by decide) dX5_note_114 ?_
                refine gk_aload_n C dX5_note_116 rfl ?_
                refine gk_iload C dX5_note_117 rfl ?_
                refine gk_if_eq C (tgt := 126) (by omega) dX5_note_119 (by decide) (fun c_119 => ?_) (fun c_119 => ?_)
                · refine gk_iconst C dX5_note_126 ?_
                  refine mo_putf C I f_X5_107 (by decide) dX5_note_127 ?_
                  refine gk_aload_n C dX5_note_130 rfl ?_
                  refine mo_getf C I f_X5_107.r dX5_note_131 (by rfl) ?_
                  try simp only [moS3_ap, moS_ap, Nat.reduceEqDiff, if_true, if_false, reduceIte]
                  refine gk_if_le C (tgt := 139) (by omega) dX5_note_134 (by decide) (fun c_134 => ?_) (fun c_134 => ?_)
                  · exact absurd c_134 (by omega)
                  · refine gk_iconst C dX5_note_137 ?_
                    refine (R _ _ _ _ _ (by decide) (by decide)).1 _ rfl dX5_note_138 ?_
                    refine ⟨_, _, rfl, rfl, Or.inr (Or.inr (Or.inl ⟨by omega, by omega, fun z => ?_, rfl, moS_moS⟩))⟩
                    first | exact absurd (rd_77.mpr z.1) (by omega) | omega
                · exact absurd c_119 (by omega)
              · refine gk_aload_n C dX5_note_98 rfl ?_
                refine mo_getf C I f_X5_13.r dX5_note_99 (by rfl) ?_
                try simp only [moS3_ap, moS_ap, Nat.reduceEqDiff, if_true, if_false, reduceIte]
                refine gk_iload_n C dX5_note_102 rfl ?_
                refine mo_iald C I (by rfl) dX5_note_103 (by omega) (by omega) ?_
                try simp only [moS3_ap, moS_ap, Nat.reduceEqDiff, if_true, if_false, reduceIte]
                refine gk_bipush C dX5_note_104 (by decide) ?_
                refine gk_icmp_ge C (tgt := 113) (by omega) (by omega) dX5_note_106 (by decide) (fun c_106 => ?_) (fun c_106 => ?_)
                · refine gk_iconst C dX5_note_113 ?_
                  refine gk_istore_6 C rfl (by decide) dX5_note_114 ?_
                  refine gk_aload_n C dX5_note_116 rfl ?_
                  refine gk_iload C dX5_note_117 rfl ?_
                  refine gk_if_eq C (tgt := 126) (by omega) dX5_note_119 (by decide) (fun c_119 => ?_) (fun c_119 => ?_)
                  · refine gk_iconst C dX5_note_126 ?_
                    refine mo_putf C I f_X5_107 (by decide) dX5_note_127 ?_
                    refine gk_aload_n C dX5_note_130 rfl ?_
                    refine mo_getf C I f_X5_107.r dX5_note_131 (by rfl) ?_
                    try simp only [moS3_ap, moS_ap, Nat.reduceEqDiff, if_true, if_false, reduceIte]
                    refine gk_if_le C (tgt := 139) (by omega) dX5_note_134 (by decide) (fun c_134 => ?_) (fun c_134 => ?_)
                    · exact absurd c_134 (by omega)
                    · refine gk_iconst C dX5_note_137 ?_
                      refine (R _ _ _ _ _ (by decide) (by decide)).1 _ rfl dX5_note_138 ?_
                      refine ⟨_, _, rfl, rfl, Or.inr (Or.inr (Or.inl ⟨by omega, by omega, fun z => ?_, rfl, moS_moS⟩))⟩
                      first | exact absurd (rd_77.mpr z.1) (by omega) | omega
                  · exact absurd c_119 (by omega)
                · refine gk_iconst C dX5_note_109 ?_
                  refine gk_goto C (tgt := 114) dX5_note_110 (by decide) ?_
                  refine gk_istore_6 C rfl (by decide) dX5_note_114 ?_
                  refine gk_aload_n C dX5_note_116 rfl ?_
                  refine gk_iload C dX5_note_117 rfl ?_
                  refine gk_if_eq C (tgt := 126) (by omega) dX5_note_119 (by decide) (fun c_119 => ?_) (fun c_119 => ?_)
                  · exact absurd c_119 (by omega)
                  · refine gk_iconst C dX5_note_122 ?_
                    refine gk_goto C (tgt := 127) dX5_note_123 (by decide) ?_
                    refine mo_putf C I f_X5_107 (by decide) dX5_note_127 ?_
                    refine gk_aload_n C dX5_note_130 rfl ?_
                    refine mo_getf C I f_X5_107.r dX5_note_131 (by rfl) ?_
                    try simp only [moS3_ap, moS_ap, Nat.reduceEqDiff, if_true, if_false, reduceIte]
                    refine gk_if_le C (tgt := 139) (by omega) dX5_note_134 (by decide) (fun c_134 => ?_) (fun c_134 => ?_)
                    · refine gk_bipush C dX5_note_139 (by decide) ?_
                      refine gk_iload_n C dX5_note_141 rfl ?_
                      refine gk_imul C dX5_note_142 ?_
                      refine gk_aload_n C dX5_note_143 rfl ?_
                      refine mo_getf C I f_X5_13.r dX5_note_144 (by rfl) ?_
                      try simp only [moS3_ap, moS_ap, Nat.reduceEqDiff, if_true, if_false, reduceIte]
                      refine gk_iload_n C dX5_note_147 rfl ?_
                      refine mo_iald C I (by rfl) dX5_note_148 (by omega) (by omega) ?_
                      try simp only [moS3_ap, moS_ap, Nat.reduceEqDiff, if_true, if_false, reduceIte]
                      refine gk_iadd C dX5_note_149 ?_
                      refine gk_istore_7 C rfl (by decide) dX5_note_150 ?_
                      refine gk_aload_n C dX5_note_152 rfl ?_
                      refine mo_getf C I f_X5_19.r dX5_note_153 (by rfl) ?_
                      try simp only [moS3_ap, moS_ap, Nat.reduceEqDiff, if_true, if_false, reduceIte]
                      refine gk_iload C dX5_note_156 rfl ?_
                      refine gk_iload_n C dX5_note_158 rfl ?_
                      refine mo_iast C I (by rfl) dX5_note_159 (by omega) (by omega) ?_
                      refine gk_aload_n C dX5_note_160 rfl ?_
                      refine mo_getf C I f_X5_22.r dX5_note_161 (by rfl) ?_
                      try simp only [moS3_ap, moS_ap, Nat.reduceEqDiff, if_true, if_false, reduceIte]
                      refine gk_iload C dX5_note_164 rfl ?_
                      refine gk_iload_n C dX5_note_166 rfl ?_
                      refine mo_iast C I (by rfl) dX5_note_167 (by omega) (by omega) ?_
                      refine gk_aload_n C dX5_note_168 rfl ?_
                      refine mo_getf C I f_X5_25.r dX5_note_169 (by rfl) ?_
                      try simp only [moS3_ap, moS_ap, Nat.reduceEqDiff, if_true, if_false, reduceIte]
                      refine gk_iload C dX5_note_172 rfl ?_
                      refine gk_iload C dX5_note_174 rfl ?_
                      refine mo_iast C I (by rfl) dX5_note_176 (by omega) (by omega) ?_
                      refine gk_aload_n C dX5_note_177 rfl ?_
                      refine mo_getf C I f_X5_13.r dX5_note_178 (by rfl) ?_
                      try simp only [moS3_ap, moS_ap, Nat.reduceEqDiff, if_true, if_false, reduceIte]
                      refine gk_iload_n C dX5_note_181 rfl ?_
                      refine gk_dup2 C rfl rfl dX5_note_182 ?_
                      refine mo_iald C I (by rfl) dX5_note_183 (by omega) (by omega) ?_
                      try simp only [moS3_ap, moS_ap, Nat.reduceEqDiff, if_true, if_false, reduceIte]
                      refine gk_iconst C dX5_note_184 ?_
                      refine gk_iadd C dX5_note_185 ?_
                      refine mo_iast C I (by rfl) dX5_note_186 (by omega) (by omega) ?_
                      refine gk_aload_n C dX5_note_187 rfl ?_
                      refine mo_getf C I f_X5_13.r dX5_note_188 (by rfl) ?_
                      try simp only [moS3_ap, moS_ap, Nat.reduceEqDiff, if_true, if_false, reduceIte]
                      refine gk_iload_n C dX5_note_191 rfl ?_
                      refine mo_iald C I (by rfl) dX5_note_192 (by omega) (by omega) ?_
                      try simp only [moS3_ap, moS_ap, Nat.reduceEqDiff, if_true, if_false, reduceIte]
                      refine (R _ _ _ _ _ (by decide) (by decide)).1 _ rfl dX5_note_193 ?_
                      exact ⟨_, _, rfl, rfl, Or.inr (Or.inr (Or.inr ⟨by omega, by omega, ⟨rd_77.mp (by omega), by omega, by omega⟩, by rw [gupd_eq], by first | (rw [moS_moS]; done) | (rw [moS_moS]; rfl)⟩))⟩
                    · exact absurd c_134 (by omega)
          · exact absurd c_56 (by omega)
        · refine gk_iconst C dX5_note_44 ?_
          refine gk_goto C (tgt := 49) dX5_note_45 (by decide) ?_
          refine mo_putf C I f_X5_107 (by decide) dX5_note_49 ?_
          refine gk_aload_n C dX5_note_52 rfl ?_
          refine mo_getf C I f_X5_107.r dX5_note_53 (by rfl) ?_
          try simp only [moS3_ap, moS_ap, Nat.reduceEqDiff, if_true, if_false, reduceIte]
          refine gk_if_le C (tgt := 61) (by omega) dX5_note_56 (by decide) (fun c_56 => ?_) (fun c_56 => ?_)
          · exact absurd c_56 (by omega)
          · refine gk_iconst C dX5_note_59 ?_
            refine (R _ _ _ _ _ (by decide) (by decide)).1 _ rfl dX5_note_60 ?_
            first | exact ⟨_, _, rfl, rfl, Or.inl ⟨by omega, rfl, rfl⟩⟩ | exact ⟨_, _, rfl, rfl, Or.inr (Or.inl ⟨by omega, by omega, rfl, rfl⟩)⟩
  · refine gk_iconst C dX5_note_9 ?_
    refine gk_goto C (tgt := 49) dX5_note_10 (by decide) ?_
    refine mo_putf C I f_X5_107 (by decide) dX5_note_49 ?_
    refine gk_aload_n C dX5_note_52 rfl ?_
    refine mo_getf C I f_X5_107.r dX5_note_53 (by rfl) ?_
    try simp only [moS3_ap, moS_ap, Nat.reduceEqDiff, if_true, if_false, reduceIte]
    refine gk_if_le C (tgt := 61) (by omega) dX5_note_56 (by decide) (fun c_56 => ?_) (fun c_56 => ?_)
    · exact absurd c_56 (by omega)
    · refine gk_iconst C dX5_note_59 ?_
      refine (R _ _ _ _ _ (by decide) (by decide)).1 _ rfl dX5_note_60 ?_
      first | exact ⟨_, _, rfl, rfl, Or.inl ⟨by omega, rfl, rfl⟩⟩ | exact ⟨_, _, rfl, rfl, Or.inr (Or.inl ⟨by omega, by omega, rfl, rfl⟩)⟩

set_option maxRecDepth 100000 in
set_option maxHeartbeats 4000000 in
theorem m_part {l : Launch} {Γ : GA} (hfl : l.stackTraces = false) {ad : Nat → Nat} (I : IM ad) {s : MS} (V : VM s) {t tw : Int} (ht : -2147483648 ≤ t ∧ t ≤ 2147483647) (htw : tw = 0 ∨ tw = 1) : Ct l Γ m_X5_part [.ref (ad 40), iv t, iv tw] (HM ad s) (fun v h' => ∃ (r : Int) (s2 : MS), v = some (iv r) ∧ h' = HM ad s2 ∧ MPart s t tw r s2) (fun _ _ => False) := by
  have b0 := V.at 0 0 rfl
  have b1 := V.at 1 t rfl
  have b2 := V.at 2 t rfl
  have b3 := V.at 3 t rfl
  have bU := barU_r (s 1 t)
  have bO := mOu_bd V t
  have bM := Int.emod_nonneg (mOu s t) (show barU (s 1 t) ≠ 0 by omega)
  have bN := Int.emod_lt_of_pos (mOu s t) (show 0 < barU (s 1 t) by omega)
  have V0 : VM (moS s 39 (fun _ => 0)) := V.set rfl (fun _ => by omega)
  refine Ct.intro hfl (by decide +kernel) rfl (Nat.le_of_ble_eq_true rfl) ?_
  intro G C R T
  show G 0 [some (.ref (ad 40)), some (iv t), some (iv tw), none, none] [] (HM ad s) 0 0
  refine gk_aload_n C dX5_part_0 rfl ?_
  refine gk_aload_n C dX5_part_1 rfl ?_
  refine gk_iload_n C dX5_part_2 rfl ?_
  refine gk_callV C o_X5_isTune k_X5_125 dX5_part_3 (m_isTune hfl I V ht) (mo_obj I) rfl rfl rfl (by decide) (by decide) (by exact Nat.le_of_ble_eq_true rfl) (fun _ _ z => z.elim) (fun v_3 h_3 p_3 => ?_)
  obtain ⟨r_3, rfl, rb_3, rc_3, rfl⟩ := p_3
  dsimp only [gk_push]
  refine gk_if_eq C (tgt := 13) (by omega) dX5_part_6 (by decide) (fun c_6 => ?_) (fun c_6 => ?_)
  · refine gk_iconst C dX5_part_13 ?_
    refine mo_putf C I f_X5_107 (by decide) dX5_part_14 ?_
    refine gk_aload_n C dX5_part_17 rfl ?_
    refine mo_getf C I f_X5_107.r dX5_part_18 (by rfl) ?_
    try simp only [moS3_ap, moS_ap, Nat.reduceEqDiff, if_true, if_false, reduceIte]
    refine gk_if_le C (tgt := 26) (by omega) dX5_part_21 (by decide) (fun c_21 => ?_) (fun c_21 => ?_)
    · exact absurd c_21 (by omega)
    · refine gk_iconst C dX5_part_24 ?_
      refine (R _ _ _ _ _ (by decide) (by decide)).1 _ rfl dX5_part_25 ?_
      exact ⟨_, _, rfl, rfl, Or.inl ⟨by omega, rfl, rfl⟩⟩
  · refine gk_iconst C dX5_part_9 ?_
    refine gk_goto C (tgt := 14) dX5_part_10 (by decide) ?_
    refine mo_putf C I f_X5_107 (by decide) dX5_part_14 ?_
    refine gk_aload_n C dX5_part_17 rfl ?_
    refine mo_getf C I f_X5_107.r dX5_part_18 (by rfl) ?_
    try simp only [moS3_ap, moS_ap, Nat.reduceEqDiff, if_true, if_false, reduceIte]
    refine gk_if_le C (tgt := 26) (by omega) dX5_part_21 (by decide) (fun c_21 => ?_) (fun c_21 => ?_)
    · refine gk_aload_n C dX5_part_26 rfl ?_
      refine gk_iload_n C dX5_part_27 rfl ?_
      refine gk_callV C o_X5_openUnits k_X5_135 dX5_part_28 (m_openUnits hfl I V0 (by omega)) (mo_obj I) rfl rfl rfl (by decide) (by decide) (by exact Nat.le_of_ble_eq_true rfl) (fun _ _ z => z.elim) (fun v_28 h_28 p_28 => ?_)
      obtain ⟨rfl, rfl⟩ := p_28
      dsimp only [gk_push]
      rw [show mOu (moS s 39 (fun _ => 0)) t = mOu s t from rfl]
      refine gk_istore_n_3 C rfl (by decide) dX5_part_31 ?_
      refine gk_aload_n C dX5_part_32 rfl ?_
      refine mo_getf C I f_X5_7.r dX5_part_33 (by rfl) ?_
      try simp only [moS3_ap, moS_ap, Nat.reduceEqDiff, if_true, if_false, reduceIte]
      refine gk_iload_n C dX5_part_36 rfl ?_
      refine mo_iald C I (by rfl) dX5_part_37 (by omega) (by omega) ?_
      try simp only [moS3_ap, moS_ap, Nat.reduceEqDiff, if_true, if_false, reduceIte]
      refine gk_callS C o_X5_barOf k_X5_129 dX5_part_38 (m_barOf hfl b1) rfl rfl (by decide) (by decide) (by exact Nat.le_of_ble_eq_true rfl) (fun _ _ z => z.elim) (fun v_38 h_38 p_38 => ?_)
      obtain ⟨rfl, rfl⟩ := p_38
      dsimp only [gk_push]
      refine gk_istore_4 C rfl (by decide) dX5_part_41 ?_
      refine gk_aload_n C dX5_part_43 rfl ?_
      refine gk_iload_n C dX5_part_44 rfl ?_
      refine gk_if_eq C (tgt := 66) (by omega) dX5_part_45 (by decide) (fun c_45 => ?_) (fun c_45 => ?_)
      · refine gk_iconst C dX5_part_66 ?_
        refine gk_goto C (tgt := 71) dX5_part_67 (by decide) ?_
        refine mo_putf C I f_X5_107 (by decide) dX5_part_71 ?_
        refine gk_aload_n C dX5_part_74 rfl ?_
        refine mo_getf C I f_X5_107.r dX5_part_75 (by rfl) ?_
        try simp only [moS3_ap, moS_ap, Nat.reduceEqDiff, if_true, if_false, reduceIte]
        refine gk_if_le C (tgt := 83) (by omega) dX5_part_78 (by decide) (fun c_78 => ?_) (fun c_78 => ?_)
        · exact absurd c_78 (by omega)
        · refine gk_iconst C dX5_part_81 ?_
          refine (R _ _ _ _ _ (by decide) (by decide)).1 _ rfl dX5_part_82 ?_
          exact ⟨_, _, rfl, rfl, Or.inr (Or.inl ⟨by omega, by omega, rfl, moS_moS⟩)⟩
      · refine gk_iload_n C dX5_part_48 rfl ?_
        refine gk_iload C dX5_part_49 rfl ?_
        refine gk_irem C (by omega) (by omega) dX5_part_51 ?_
        refine gk_if_gt C (tgt := 66) (by omega) dX5_part_52 (by decide) (fun c_52 => ?_) (fun c_52 => ?_)
        · refine gk_iconst C dX5_part_66 ?_
          refine gk_goto C (tgt := 71) dX5_part_67 (by decide) ?_
          refine mo_putf C I f_X5_107 (by decide) dX5_part_71 ?_
          refine gk_aload_n C dX5_part_74 rfl ?_
          refine mo_getf C I f_X5_107.r dX5_part_75 (by rfl) ?_
          try simp only [moS3_ap, moS_ap, Nat.reduceEqDiff, if_true, if_false, reduceIte]
          refine gk_if_le C (tgt := 83) (by omega) dX5_part_78 (by decide) (fun c_78 => ?_) (fun c_78 => ?_)
          · exact absurd c_78 (by omega)
          · refine gk_iconst C dX5_part_81 ?_
            refine (R _ _ _ _ _ (by decide) (by decide)).1 _ rfl dX5_part_82 ?_
            exact ⟨_, _, rfl, rfl, Or.inr (Or.inl ⟨by omega, by omega, rfl, moS_moS⟩)⟩
        · refine gk_aload_n C dX5_part_55 rfl ?_
          refine mo_getf C I f_X5_16.r dX5_part_56 (by rfl) ?_
          try simp only [moS3_ap, moS_ap, Nat.reduceEqDiff, if_true, if_false, reduceIte]
          refine gk_iload_n C dX5_part_59 rfl ?_
          refine mo_iald C I (by rfl) dX5_part_60 (by omega) (by omega) ?_
          try simp only [moS3_ap, moS_ap, Nat.reduceEqDiff, if_true, if_false, reduceIte]
          refine gk_bipush C dX5_part_61 (by decide) ?_
          refine gk_icmp_ne C (tgt := 70) (by omega) (by omega) dX5_part_63 (by decide) (fun c_63 => ?_) (fun c_63 => ?_)
          · refine gk_iconst C dX5_part_70 ?_
            refine mo_putf C I f_X5_107 (by decide) dX5_part_71 ?_
            refine gk_aload_n C dX5_part_74 rfl ?_
            refine mo_getf C I f_X5_107.r dX5_part_75 (by rfl) ?_
            try simp only [moS3_ap, moS_ap, Nat.reduceEqDiff, if_true, if_false, reduceIte]
            refine gk_if_le C (tgt := 83) (by omega) dX5_part_78 (by decide) (fun c_78 => ?_) (fun c_78 => ?_)
            · refine gk_aload_n C dX5_part_83 rfl ?_
              refine mo_getf C I f_X5_28.r dX5_part_84 (by rfl) ?_
              try simp only [moS3_ap, moS_ap, Nat.reduceEqDiff, if_true, if_false, reduceIte]
              refine gk_bipush C dX5_part_87 (by decide) ?_
              refine gk_iload_n C dX5_part_89 rfl ?_
              refine gk_imul C dX5_part_90 ?_
              refine gk_aload_n C dX5_part_91 rfl ?_
              refine mo_getf C I f_X5_16.r dX5_part_92 (by rfl) ?_
              try simp only [moS3_ap, moS_ap, Nat.reduceEqDiff, if_true, if_false, reduceIte]
              refine gk_iload_n C dX5_part_95 rfl ?_
              refine mo_iald C I (by rfl) dX5_part_96 (by omega) (by omega) ?_
              try simp only [moS3_ap, moS_ap, Nat.reduceEqDiff, if_true, if_false, reduceIte]
              refine gk_iadd C dX5_part_97 ?_
              refine gk_aload_n C dX5_part_98 rfl ?_
              refine mo_getf C I f_X5_13.r dX5_part_99 (by rfl) ?_
              try simp only [moS3_ap, moS_ap, Nat.reduceEqDiff, if_true, if_false, reduceIte]
              refine gk_iload_n C dX5_part_102 rfl ?_
              refine mo_iald C I (by rfl) dX5_part_103 (by omega) (by omega) ?_
              try simp only [moS3_ap, moS_ap, Nat.reduceEqDiff, if_true, if_false, reduceIte]
              refine mo_iast C I (by rfl) dX5_part_104 (by omega) (by omega) ?_
              refine gk_aload_n C dX5_part_105 rfl ?_
              refine mo_getf C I f_X5_31.r dX5_part_106 (by rfl) ?_
              try simp only [moS3_ap, moS_ap, Nat.reduceEqDiff, if_true, if_false, reduceIte]
              refine gk_bipush C dX5_part_109 (by decide) ?_
              refine gk_iload_n C dX5_part_111 rfl ?_
              refine gk_imul C dX5_part_112 ?_
              refine gk_aload_n C dX5_part_113 rfl ?_
              refine mo_getf C I f_X5_16.r dX5_part_114 (by rfl) ?_
              try simp only [moS3_ap, moS_ap, Nat.reduceEqDiff, if_true, if_false, reduceIte]
              refine gk_iload_n C dX5_part_117 rfl ?_
              refine mo_iald C I (by rfl) dX5_part_118 (by omega) (by omega) ?_
              try simp only [moS3_ap, moS_ap, Nat.reduceEqDiff, if_true, if_false, reduceIte]
              refine gk_iadd C dX5_part_119 ?_
              refine gk_iload_n C dX5_part_120 rfl ?_
              refine mo_zast C I htw (by rfl) dX5_part_121 (by omega) (by omega) ?_
              refine gk_aload_n C dX5_part_122 rfl ?_
              refine mo_getf C I f_X5_16.r dX5_part_123 (by rfl) ?_
              try simp only [moS3_ap, moS_ap, Nat.reduceEqDiff, if_true, if_false, reduceIte]
              refine gk_iload_n C dX5_part_126 rfl ?_
              refine gk_dup2 C rfl rfl dX5_part_127 ?_
              refine mo_iald C I (by rfl) dX5_part_128 (by omega) (by omega) ?_
              try simp only [moS3_ap, moS_ap, Nat.reduceEqDiff, if_true, if_false, reduceIte]
              refine gk_iconst C dX5_part_129 ?_
              refine gk_iadd C dX5_part_130 ?_
              refine mo_iast C I (by rfl) dX5_part_131 (by omega) (by omega) ?_
              refine gk_iload_n C dX5_part_132 rfl ?_
              refine gk_iload C dX5_part_133 rfl ?_
              refine gk_idiv C (by omega) (by omega) dX5_part_135 ?_
              refine (R _ _ _ _ _ (by decide) (by decide)).1 _ rfl dX5_part_136 ?_
              exact ⟨_, _, rfl, rfl, Or.inr (Or.inr ⟨by omega, by omega, rfl, by first | (rw [moS_moS]; done) | (rw [moS_moS]; rfl)⟩)⟩
            · exact absurd c_78 (by omega)
          · refine gk_iconst C dX5_part_66 ?_
            refine gk_goto C (tgt := 71) dX5_part_67 (by decide) ?_
            refine mo_putf C I f_X5_107 (by decide) dX5_part_71 ?_
            refine gk_aload_n C dX5_part_74 rfl ?_
            refine mo_getf C I f_X5_107.r dX5_part_75 (by rfl) ?_
            try simp only [moS3_ap, moS_ap, Nat.reduceEqDiff, if_true, if_false, reduceIte]
            refine gk_if_le C (tgt := 83) (by omega) dX5_part_78 (by decide) (fun c_78 => ?_) (fun c_78 => ?_)
            · exact absurd c_78 (by omega)
            · refine gk_iconst C dX5_part_81 ?_
              refine (R _ _ _ _ _ (by decide) (by decide)).1 _ rfl dX5_part_82 ?_
              exact ⟨_, _, rfl, rfl, Or.inr (Or.inl ⟨by omega, by omega, rfl, moS_moS⟩)⟩
    · exact absurd c_21 (by omega)
