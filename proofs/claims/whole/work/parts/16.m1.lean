/-! the reference: bounds, tunes -/
def mBd : List (Int × Int) := [(0, 10), (0, 3), (0, 64), (0, 8), (0, 8), (0, 16), (0, 8), (0, 64), (0, 1), (0, 128), (0, 639), (0, 8), (-1, 8), (0, 128), (0, 8), (0, 9), (0, 600), (0, 8), (-100, 100), (0, 40), (0, 9), (-100, 100), (0, 40), (0, 100), (0, 1), (-100, 100), (0, 40), (0, 100), (-1000000, 1000000), (0, 8), (0, 5), (0, 1000000), (-1, 8), (-1, 100), (0, 1000000), (0, 6), (0, 1), (0, 255), (-1, 100), (0, 3)]
def mB (j : Nat) : Int × Int := mBd.getD j (-2147483648, 2147483647)
/-- every row and number of the reference keeps its bounds -/
def VM (s : MS) : Prop := ∀ (j : Nat) (i : Int), (mB j).1 ≤ s j i ∧ s j i ≤ (mB j).2
theorem VM.at {s : MS} (V : VM s) (j : Nat) (i : Int) {lo hi : Int} (h : mB j = (lo, hi)) : lo ≤ s j i ∧ s j i ≤ hi := by
  have k := V j i
  rw [h] at k
  exact k
theorem VM.set {s : MS} (V : VM s) {j : Nat} {f : Int → Int} {lo hi : Int} (h : mB j = (lo, hi)) (hf : ∀ i, lo ≤ f i ∧ f i ≤ hi) : VM (moS s j f) := by
  intro k i
  by_cases c : k = j
  · rw [c, moS_eq, h]
    exact hf i
  · rw [moS_ne c]
    exact V k i
theorem VM.one {s : MS} (V : VM s) {j : Nat} {z v : Int} {lo hi : Int} (h : mB j = (lo, hi)) (hv : lo ≤ v ∧ v ≤ hi) : VM (moS s j (gupd (s j) z v)) := by
  refine V.set h (fun i => ?_)
  by_cases c : i = z
  · rw [c, gupd_eq]; exact hv
  · rw [gupd_ne c]; exact V.at j i h

set_option maxRecDepth 100000 in
set_option maxHeartbeats 4000000 in
theorem m_X5_isIn_c {l : Launch} {Γ : GA} (hfl : l.stackTraces = false) {h : Hp} {z a b : Int} (hz : -2147483648 ≤ z ∧ z ≤ 2147483647) (ha : -2147483648 ≤ a ∧ a ≤ 2147483647) (hb : -2147483648 ≤ b ∧ b ≤ 2147483647) : Ct l Γ m_X5_isIn [iv z, iv a, iv b] h (fun v h' => ∃ r : Int, v = some (iv r) ∧ (r = 0 ∨ r = 1) ∧ (r = 1 ↔ a ≤ z ∧ z ≤ b) ∧ h' = h) (fun _ _ => False) := by
  refine Ct.intro hfl (by decide +kernel) rfl (Nat.le_of_ble_eq_true rfl) ?_
  intro G C R T
  show G 0 [some (iv z), some (iv a), some (iv b)] [] h 0 0
  refine gk_iload_n C dX5_isIn_0 rfl ?_
  refine gk_iload_n C dX5_isIn_1 rfl ?_
  refine gk_icmp_lt C (tgt := 14) (by omega) (by omega) dX5_isIn_2 (by decide) (fun c_2 => ?_) (fun c_2 => ?_)
  · refine gk_iconst C dX5_isIn_14 ?_
    refine (R _ _ _ _ _ (by decide) (by decide)).2.1 _ rfl (by omega) dX5_isIn_15 ?_
    first | exact ⟨1, rfl, by omega, by omega, rfl⟩ | exact ⟨0, rfl, by omega, by omega, rfl⟩
  · refine gk_iload_n C dX5_isIn_5 rfl ?_
    refine gk_iload_n C dX5_isIn_6 rfl ?_
    refine gk_icmp_gt C (tgt := 14) (by omega) (by omega) dX5_isIn_7 (by decide) (fun c_7 => ?_) (fun c_7 => ?_)
    · refine gk_iconst C dX5_isIn_14 ?_
      refine (R _ _ _ _ _ (by decide) (by decide)).2.1 _ rfl (by omega) dX5_isIn_15 ?_
      first | exact ⟨1, rfl, by omega, by omega, rfl⟩ | exact ⟨0, rfl, by omega, by omega, rfl⟩
    · refine gk_iconst C dX5_isIn_10 ?_
      refine gk_goto C (tgt := 15) dX5_isIn_11 (by decide) ?_
      refine (R _ _ _ _ _ (by decide) (by decide)).2.1 _ rfl (by omega) dX5_isIn_15 ?_
      first | exact ⟨1, rfl, by omega, by omega, rfl⟩ | exact ⟨0, rfl, by omega, by omega, rfl⟩

set_option maxRecDepth 100000 in
set_option maxHeartbeats 4000000 in
theorem m_isTune {l : Launch} {Γ : GA} (hfl : l.stackTraces = false) {ad : Nat → Nat} (I : IM ad) {s : MS} (V : VM s) {z : Int} (hz : -2147483648 ≤ z ∧ z ≤ 2147483647) : Ct l Γ m_X5_isTune [.ref (ad 40), iv z] (HM ad s) (fun v h' => ∃ r : Int, v = some (iv r) ∧ (r = 0 ∨ r = 1) ∧ (r = 1 ↔ 0 ≤ z ∧ z < s 0 0) ∧ h' = HM ad s) (fun _ _ => False) := by
  have b0 := V.at 0 0 rfl
  refine Ct.intro hfl (by decide +kernel) rfl (Nat.le_of_ble_eq_true rfl) ?_
  intro G C R T
  show G 0 [some (.ref (ad 40)), some (iv z)] [] (HM ad s) 0 0
  refine gk_iload_n C dX5_isTune_0 rfl ?_
  refine gk_iconst C dX5_isTune_1 ?_
  refine gk_aload_n C dX5_isTune_2 rfl ?_
  refine mo_getf C I f_X5_111.r dX5_isTune_3 (by rfl) ?_
  refine gk_iconst C dX5_isTune_6 ?_
  refine gk_isub C dX5_isTune_7 ?_
  refine gk_callS C o_X5_isIn k_X5_114 dX5_isTune_8 (m_X5_isIn_c hfl hz (by omega) (by omega)) rfl rfl (by decide) (by decide) (by exact Nat.le_of_ble_eq_true rfl) (fun _ _ z => z.elim) (fun v_8 h_8 p_8 => ?_)
  obtain ⟨r_8, rfl, rb_8, rc_8, rfl⟩ := p_8
  dsimp only [gk_push]
  refine (R _ _ _ _ _ (by decide) (by decide)).2.1 _ rfl (by omega) dX5_isTune_11 ?_
  exact ⟨_, rfl, by omega, by omega, rfl⟩

set_option maxRecDepth 100000 in
set_option maxHeartbeats 4000000 in
theorem m_barOf {l : Launch} {Γ : GA} (hfl : l.stackTraces = false) {h : Hp} {kd : Int} (hk : 0 ≤ kd ∧ kd ≤ 3) : Ct l Γ m_X5_barOf [iv kd] h (fun v h' => v = some (iv (barU kd)) ∧ h' = h) (fun _ _ => False) := by
  refine Ct.intro hfl (by decide +kernel) rfl (Nat.le_of_ble_eq_true rfl) ?_
  intro G C R T
  show G 0 [some (iv kd)] [] h 0 0
  refine gk_iload_n C dX5_barOf_0 rfl ?_
  refine gk_iconst C dX5_barOf_1 ?_
  refine gk_icmp_ne C (tgt := 10) (by omega) (by omega) dX5_barOf_2 (by decide) (fun c_2 => ?_) (fun c_2 => ?_)
  · refine gk_iload_n C dX5_barOf_10 rfl ?_
    refine gk_iconst C dX5_barOf_11 ?_
    refine gk_icmp_ne C (tgt := 20) (by omega) (by omega) dX5_barOf_12 (by decide) (fun c_12 => ?_) (fun c_12 => ?_)
    · refine gk_bipush C dX5_barOf_20 (by decide) ?_
      refine (R _ _ _ _ _ (by decide) (by decide)).1 _ rfl dX5_barOf_22 ?_
      refine ⟨congrArg (fun q => some (iv q)) ?_, rfl⟩
      unfold barU
      (repeat' split) <;> omega
    · refine gk_bipush C dX5_barOf_15 (by decide) ?_
      refine gk_goto C (tgt := 22) dX5_barOf_17 (by decide) ?_
      refine (R _ _ _ _ _ (by decide) (by decide)).1 _ rfl dX5_barOf_22 ?_
      refine ⟨congrArg (fun q => some (iv q)) ?_, rfl⟩
      unfold barU
      (repeat' split) <;> omega
  · refine gk_bipush C dX5_barOf_5 (by decide) ?_
    refine gk_goto C (tgt := 22) dX5_barOf_7 (by decide) ?_
    refine (R _ _ _ _ _ (by decide) (by decide)).1 _ rfl dX5_barOf_22 ?_
    refine ⟨congrArg (fun q => some (iv q)) ?_, rfl⟩
    unfold barU
    (repeat' split) <;> omega

set_option maxRecDepth 100000 in
set_option maxHeartbeats 4000000 in
theorem m_thrown {l : Launch} {Γ : GA} (hfl : l.stackTraces = false) {ad : Nat → Nat} (I : IM ad) {s : MS} : Ct l Γ m_X5_thrown [.ref (ad 40)] (HM ad s) (fun v h' => v = some (iv (s 39 0)) ∧ h' = HM ad s) (fun _ _ => False) := by
  refine Ct.intro hfl (by decide +kernel) rfl (Nat.le_of_ble_eq_true rfl) ?_
  intro G C R T
  show G 0 [some (.ref (ad 40))] [] (HM ad s) 0 0
  refine gk_aload_n C dX5_thrown_0 rfl ?_
  refine mo_getf C I f_X5_107.r dX5_thrown_1 (by rfl) ?_
  refine (R _ _ _ _ _ (by decide) (by decide)).1 _ rfl dX5_thrown_4 ?_
  exact ⟨rfl, rfl⟩

/-- what the reference makes of tune -/
def MTune (s : MS) (z r : Int) (s2 : MS) : Prop :=
  (¬ (0 ≤ z ∧ z ≤ 3) ∧ r = 0 ∧ s2 = moS s 39 (fun _ => 1)) ∨ ((0 ≤ z ∧ z ≤ 3) ∧ s 0 0 = 10 ∧ r = 0 ∧ s2 = moS s 39 (fun _ => 2)) ∨
  ((0 ≤ z ∧ z ≤ 3) ∧ s 0 0 < 10 ∧ r = s 0 0 ∧ s2 = moS (moS (moS s 39 (fun _ => 0)) 1 (gupd (s 1) (s 0 0) z)) 0 (fun _ => s 0 0 + 1))

set_option maxRecDepth 100000 in
set_option maxHeartbeats 4000000 in
theorem m_tune {l : Launch} {Γ : GA} (hfl : l.stackTraces = false) {ad : Nat → Nat} (I : IM ad) {s : MS} (V : VM s) {z : Int} (hz : -2147483648 ≤ z ∧ z ≤ 2147483647) : Ct l Γ m_X5_tune [.ref (ad 40), iv z] (HM ad s) (fun v h' => ∃ (r : Int) (s2 : MS), v = some (iv r) ∧ h' = HM ad s2 ∧ MTune s z r s2) (fun _ _ => False) := by
  have b0 := V.at 0 0 rfl
  refine Ct.intro hfl (by decide +kernel) rfl (Nat.le_of_ble_eq_true rfl) ?_
  intro G C R T
  show G 0 [some (.ref (ad 40)), some (iv z)] [] (HM ad s) 0 0
  refine gk_aload_n C dX5_tune_0 rfl ?_
  refine gk_iload_n C dX5_tune_1 rfl ?_
  refine gk_iconst C dX5_tune_2 ?_
  refine gk_iconst C dX5_tune_3 ?_
  refine gk_callS C o_X5_isIn k_X5_114 dX5_tune_4 (m_X5_isIn_c hfl hz (by omega) (by omega)) rfl rfl (by decide) (by decide) (by exact Nat.le_of_ble_eq_true rfl) (fun _ _ z => z.elim) (fun v_4 h_4 p_4 => ?_)
  obtain ⟨r_4, rfl, rb_4, rc_4, rfl⟩ := p_4
  dsimp only [gk_push]
  refine gk_if_ne C (tgt := 14) (by omega) dX5_tune_7 (by decide) (fun c_7 => ?_) (fun c_7 => ?_)
  · refine gk_aload_n C dX5_tune_14 rfl ?_
    refine mo_getf C I f_X5_111.r dX5_tune_15 (by rfl) ?_
    refine gk_bipush C dX5_tune_18 (by decide) ?_
    refine gk_icmp_ne C (tgt := 27) (by omega) (by omega) dX5_tune_20 (by decide) (fun c_20 => ?_) (fun c_20 => ?_)
    · refine gk_iconst C dX5_tune_27 ?_
      refine mo_putf C I f_X5_107 (by decide) dX5_tune_28 ?_
      refine gk_aload_n C dX5_tune_31 rfl ?_
      refine mo_getf C I f_X5_107.r dX5_tune_32 (by rfl) ?_
      try simp only [moS_ap, Nat.reduceEqDiff, if_true, if_false, reduceIte]
      refine gk_if_le C (tgt := 40) (by omega) dX5_tune_35 (by decide) (fun c_35 => ?_) (fun c_35 => ?_)
      · refine gk_aload_n C dX5_tune_40 rfl ?_
        refine mo_getf C I f_X5_7.r dX5_tune_41 (by rfl) ?_
        try simp only [moS_ap, Nat.reduceEqDiff, if_true, if_false, reduceIte]
        refine gk_aload_n C dX5_tune_44 rfl ?_
        refine mo_getf C I f_X5_111.r dX5_tune_45 (by rfl) ?_
        try simp only [moS_ap, Nat.reduceEqDiff, if_true, if_false, reduceIte]
        refine gk_iload_n C dX5_tune_48 rfl ?_
        refine mo_iast C I (by rfl) dX5_tune_49 (by omega) (by omega) ?_
        refine gk_aload_n C dX5_tune_50 rfl ?_
        refine gk_dup C rfl dX5_tune_51 ?_
        refine mo_getf C I f_X5_111.r dX5_tune_52 (by rfl) ?_
        try simp only [moS_ap, Nat.reduceEqDiff, if_true, if_false, reduceIte]
        refine gk_iconst C dX5_tune_55 ?_
        refine gk_iadd C dX5_tune_56 ?_
        refine mo_putf C I f_X5_111 (by decide) dX5_tune_57 ?_
        refine gk_aload_n C dX5_tune_60 rfl ?_
        refine mo_getf C I f_X5_111.r dX5_tune_61 (by rfl) ?_
        try simp only [moS_ap, Nat.reduceEqDiff, if_true, if_false, reduceIte]
        refine gk_iconst C dX5_tune_64 ?_
        refine gk_isub C dX5_tune_65 ?_
        refine (R _ _ _ _ _ (by decide) (by decide)).1 _ rfl dX5_tune_66 ?_
        first | exact absurd c_35 (by omega) | exact ⟨_, _, rfl, rfl, Or.inr (Or.inr ⟨by omega, by omega, by omega, rfl⟩)⟩
      · refine gk_iconst C dX5_tune_38 ?_
        refine (R _ _ _ _ _ (by decide) (by decide)).1 _ rfl dX5_tune_39 ?_
        first | exact ⟨_, _, rfl, rfl, Or.inl ⟨by omega, rfl, rfl⟩⟩ | exact ⟨_, _, rfl, rfl, Or.inr (Or.inl ⟨by omega, by omega, rfl, rfl⟩)⟩ | exact absurd c_35 (by omega)
    · refine gk_iconst C dX5_tune_23 ?_
      refine gk_goto C (tgt := 28) dX5_tune_24 (by decide) ?_
      refine mo_putf C I f_X5_107 (by decide) dX5_tune_28 ?_
      refine gk_aload_n C dX5_tune_31 rfl ?_
      refine mo_getf C I f_X5_107.r dX5_tune_32 (by rfl) ?_
      try simp only [moS_ap, Nat.reduceEqDiff, if_true, if_false, reduceIte]
      refine gk_if_le C (tgt := 40) (by omega) dX5_tune_35 (by decide) (fun c_35 => ?_) (fun c_35 => ?_)
      · refine gk_aload_n C dX5_tune_40 rfl ?_
        refine mo_getf C I f_X5_7.r dX5_tune_41 (by rfl) ?_
        try simp only [moS_ap, Nat.reduceEqDiff, if_true, if_false, reduceIte]
        refine gk_aload_n C dX5_tune_44 rfl ?_
        refine mo_getf C I f_X5_111.r dX5_tune_45 (by rfl) ?_
        try simp only [moS_ap, Nat.reduceEqDiff, if_true, if_false, reduceIte]
        refine gk_iload_n C dX5_tune_48 rfl ?_
        refine mo_iast C I (by rfl) dX5_tune_49 (by omega) (by omega) ?_
        refine gk_aload_n C dX5_tune_50 rfl ?_
        refine gk_dup C rfl dX5_tune_51 ?_
        refine mo_getf C I f_X5_111.r dX5_tune_52 (by rfl) ?_
        try simp only [moS_ap, Nat.reduceEqDiff, if_true, if_false, reduceIte]
        refine gk_iconst C dX5_tune_55 ?_
        refine gk_iadd C dX5_tune_56 ?_
        refine mo_putf C I f_X5_111 (by decide) dX5_tune_57 ?_
        refine gk_aload_n C dX5_tune_60 rfl ?_
        refine mo_getf C I f_X5_111.r dX5_tune_61 (by rfl) ?_
        try simp only [moS_ap, Nat.reduceEqDiff, if_true, if_false, reduceIte]
        refine gk_iconst C dX5_tune_64 ?_
        refine gk_isub C dX5_tune_65 ?_
        refine (R _ _ _ _ _ (by decide) (by decide)).1 _ rfl dX5_tune_66 ?_
        first | exact absurd c_35 (by omega) | exact ⟨_, _, rfl, rfl, Or.inr (Or.inr ⟨by omega, by omega, by omega, rfl⟩)⟩
      · refine gk_iconst C dX5_tune_38 ?_
        refine (R _ _ _ _ _ (by decide) (by decide)).1 _ rfl dX5_tune_39 ?_
        first | exact ⟨_, _, rfl, rfl, Or.inl ⟨by omega, rfl, rfl⟩⟩ | exact ⟨_, _, rfl, rfl, Or.inr (Or.inl ⟨by omega, by omega, rfl, rfl⟩)⟩ | exact absurd c_35 (by omega)
  · refine gk_iconst C dX5_tune_10 ?_
    refine gk_goto C (tgt := 28) dX5_tune_11 (by decide) ?_
    refine mo_putf C I f_X5_107 (by decide) dX5_tune_28 ?_
    refine gk_aload_n C dX5_tune_31 rfl ?_
    refine mo_getf C I f_X5_107.r dX5_tune_32 (by rfl) ?_
    try simp only [moS_ap, Nat.reduceEqDiff, if_true, if_false, reduceIte]
    refine gk_if_le C (tgt := 40) (by omega) dX5_tune_35 (by decide) (fun c_35 => ?_) (fun c_35 => ?_)
    · refine gk_aload_n C dX5_tune_40 rfl ?_
      refine mo_getf C I f_X5_7.r dX5_tune_41 (by rfl) ?_
      try simp only [moS_ap, Nat.reduceEqDiff, if_true, if_false, reduceIte]
      refine gk_aload_n C dX5_tune_44 rfl ?_
      refine mo_getf C I f_X5_111.r dX5_tune_45 (by rfl) ?_
      try simp only [moS_ap, Nat.reduceEqDiff, if_true, if_false, reduceIte]
      refine gk_iload_n C dX5_tune_48 rfl ?_
      refine mo_iast C I (by rfl) dX5_tune_49 (by omega) (by omega) ?_
      refine gk_aload_n C dX5_tune_50 rfl ?_
      refine gk_dup C rfl dX5_tune_51 ?_
      refine mo_getf C I f_X5_111.r dX5_tune_52 (by rfl) ?_
      try simp only [moS_ap, Nat.reduceEqDiff, if_true, if_false, reduceIte]
      refine gk_iconst C dX5_tune_55 ?_
      refine gk_iadd C dX5_tune_56 ?_
      refine mo_putf C I f_X5_111 (by decide) dX5_tune_57 ?_
      refine gk_aload_n C dX5_tune_60 rfl ?_
      refine mo_getf C I f_X5_111.r dX5_tune_61 (by rfl) ?_
      try simp only [moS_ap, Nat.reduceEqDiff, if_true, if_false, reduceIte]
      refine gk_iconst C dX5_tune_64 ?_
      refine gk_isub C dX5_tune_65 ?_
      refine (R _ _ _ _ _ (by decide) (by decide)).1 _ rfl dX5_tune_66 ?_
      first | exact absurd c_35 (by omega) | exact ⟨_, _, rfl, rfl, Or.inr (Or.inr ⟨by omega, by omega, by omega, rfl⟩)⟩
    · refine gk_iconst C dX5_tune_38 ?_
      refine (R _ _ _ _ _ (by decide) (by decide)).1 _ rfl dX5_tune_39 ?_
      first | exact ⟨_, _, rfl, rfl, Or.inl ⟨by omega, rfl, rfl⟩⟩ | exact ⟨_, _, rfl, rfl, Or.inr (Or.inl ⟨by omega, by omega, rfl, rfl⟩)⟩ | exact absurd c_35 (by omega)
