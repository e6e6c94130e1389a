/-! the reference: what is asked of tunes -/
/-- the rows that only serve a question, and the last call's mark -/
def mSc (k : Nat) : Bool := [9, 10, 11, 12, 13, 25, 26, 27, 28, 39].contains k
def mSame (s s2 : MS) : Prop := ∀ k, mSc k = false → s2 k = s k
theorem mSame.of {s : MS} : mSame s s := fun _ _ => Eq.refl _
theorem mSame.trans {s s2 s3 : MS} (h : mSame s s2) (h2 : mSame s2 s3) : mSame s s3 := fun k c => (h2 k c).trans (h k c)
theorem mSame.set {s s2 : MS} (h : mSame s s2) {j : Nat} {f : Int → Int} (hj : mSc j = true) : mSame s (moS s2 j f) := fun k c => (moS_ne (fun z => by rw [z, hj] at c; cases c)).trans (h k c)
theorem mSame.set3 {s s2 : MS} (h : mSame s s2) {q : Int × (Int → Int) × (Int → Int)} : mSame s (moS3 s2 q) := ((h.set rfl).set rfl).set rfl
def mRow (s : MS) (t : Int) : Int → Int := (mPl s t (s 3 t).toNat).2.1
def mMany (s : MS) (t : Int) : Int := (mPl s t (s 3 t).toNat).1
def mPart (s : MS) (t : Int) : Int → Int := (mPl s t (s 3 t).toNat).2.2
theorem mapp_bd {f : Int → Int} {c b n lo hi : Int} (hf : ∀ i, lo ≤ f i ∧ f i ≤ hi) (h1 : lo ≤ b) (h2 : b + n ≤ hi + 1) (i : Int) : lo ≤ mapp f c b n i ∧ mapp f c b n i ≤ hi := by
  unfold mapp
  split
  · omega
  · exact hf i
theorem mcon_bd {f : Int → Int} {c k n lo hi : Int} (hf : ∀ i, lo ≤ f i ∧ f i ≤ hi) (h1 : lo ≤ k ∧ k ≤ hi) (i : Int) : lo ≤ mcon f c k n i ∧ mcon f c k n i ≤ hi := by
  unfold mcon
  split
  · exact h1
  · exact hf i
theorem prep_bd {q : Int × (Int → Int) × (Int → Int)} {b k n lo hi lo2 hi2 : Int} (h1 : ∀ i, lo ≤ q.2.1 i ∧ q.2.1 i ≤ hi) (h2 : ∀ i, lo2 ≤ q.2.2 i ∧ q.2.2 i ≤ hi2) (hb : lo ≤ b) (hb2 : b + n ≤ hi + 1) (hk : lo2 ≤ k ∧ k ≤ hi2) : ∀ m : Nat, (∀ i, lo ≤ (prep q b k n m).2.1 i ∧ (prep q b k n m).2.1 i ≤ hi) ∧ (∀ i, lo2 ≤ (prep q b k n m).2.2 i ∧ (prep q b k n m).2.2 i ≤ hi2)
  | 0 => ⟨h1, h2⟩
  | m + 1 => by
    have ih := prep_bd h1 h2 hb hb2 hk m
    exact ⟨mapp_bd ih.1 hb hb2, mcon_bd ih.2 hk⟩
theorem mPl_rows {s : MS} {t : Int} (V : VM s) (ht : 0 ≤ t ∧ t < 10) : ∀ k : Nat, k ≤ s 3 t → (∀ i, 0 ≤ (mPl s t k).2.1 i ∧ (mPl s t k).2.1 i ≤ 639) ∧ (∀ i, 0 ≤ (mPl s t k).2.2 i ∧ (mPl s t k).2.2 i ≤ 8)
  | 0, _ => ⟨fun i => V.at 10 i rfl, fun i => V.at 11 i rfl⟩
  | k + 1, h => by
    have ih := mPl_rows V ht k (by omega)
    have h3 := V.at 3 t rfl
    have h7 := V.at 7 (8 * t + k) rfl
    have hf : 0 ≤ mFk s t k := by
      have h8 := V.at 7 (8 * t + k - 1) rfl
      unfold mFk
      split <;> omega
    exact prep_bd ih.1 ih.2 (by omega) (by omega) (by omega) (mTw s t k)
theorem VM_play {s : MS} {t : Int} (V : VM s) (VP : VPt s t) (ht : 0 ≤ t ∧ t < 10) : VM (mPlay s t) := by
  have h3 := V.at 3 t rfl
  have h1 := mPl_rows V ht (s 3 t).toNat (by omega)
  have h2 := mPl_bd V VP (s 3 t).toNat (by omega)
  have hf : mFk s t (s 3 t).toNat ≤ 64 := by
    have h8 := V.at 7 (8 * t + (s 3 t).toNat - 1) rfl
    unfold mFk
    split <;> omega
  exact ((V.set (j := 9) rfl (fun _ => by omega)).set (j := 10) rfl h1.1).set (j := 11) rfl h1.2
theorem mMany_bd {s : MS} {t : Int} (V : VM s) (VP : VPt s t) : 0 ≤ mMany s t ∧ mMany s t ≤ 128 := by
  have h3 := V.at 3 t rfl
  have h2 := mPl_bd V VP (s 3 t).toNat (by omega)
  have hf : mFk s t (s 3 t).toNat ≤ 64 := by
    have h8 := V.at 7 (8 * t + (s 3 t).toNat - 1) rfl
    unfold mFk
    split <;> omega
  unfold mMany
  omega
def mUn (s : MS) (z : Nat) : Int := usum (fun k => s 5 (s 10 k)) z
def mCl (s : MS) : Int := usum (clash1 (fun k => s 6 (s 10 k)) (fun k => s 4 (s 10 k))) (s 9 0).toNat
def mSm (s : MS) : Int := usum (fun k => smallOf (s 6 (s 10 k))) (s 9 0).toNat
/-- the answer, and the mark, of played -/
def MPlayed (s : MS) (t p w r c : Int) : Prop :=
  (¬ (0 ≤ t ∧ t < s 0 0) ∧ c = 1 ∧ r = 0) ∨ ((0 ≤ t ∧ t < s 0 0) ∧ ¬ (0 ≤ p ∧ p < mMany s t) ∧ c = 1 ∧ r = 0) ∨
  ((0 ≤ t ∧ t < s 0 0) ∧ (0 ≤ p ∧ p < mMany s t) ∧ ¬ (0 ≤ w ∧ w ≤ 4) ∧ c = 2 ∧ r = 0) ∨
  ((0 ≤ t ∧ t < s 0 0) ∧ (0 ≤ p ∧ p < mMany s t) ∧ (0 ≤ w ∧ w ≤ 4) ∧ c = 0 ∧ r = if w = 0 then s 4 (mRow s t p) else if w = 1 then s 5 (mRow s t p) else if w = 2 then s 6 (mRow s t p) else if w = 3 then usum (fun k => s 5 (mRow s t k)) p.toNat else mPart s t p)
def MOfTune (s : MS) (t w r c : Int) : Prop :=
  (¬ (0 ≤ t ∧ t < s 0 0) ∧ c = 1 ∧ r = 0) ∨ ((0 ≤ t ∧ t < s 0 0) ∧ ¬ (0 ≤ w ∧ w ≤ 6) ∧ c = 2 ∧ r = 0) ∨
  ((0 ≤ t ∧ t < s 0 0) ∧ (0 ≤ w ∧ w ≤ 6) ∧ c = 0 ∧ r = if w = 0 then s 1 t else if w = 1 then mMany s t else if w = 2 then usum (fun k => s 5 (mRow s t k)) (mMany s t).toNat else
    if w = 3 then usum (clash1 (fun k => s 6 (mRow s t k)) (fun k => s 4 (mRow s t k))) (mMany s t).toNat else if w = 4 then usum (fun k => smallOf (s 6 (mRow s t k))) (mMany s t).toNat else if w = 5 then s 3 t else s 2 t - mFo s t)

set_option maxRecDepth 100000 in
set_option maxHeartbeats 4000000 in
theorem m_unitsTo {l : Launch} {Γ : GA} (hfl : l.stackTraces = false) {ad : Nat → Nat} (I : IM ad) {s : MS} (V : VM s) {z : Nat} (hz : z ≤ 128) : Ct l Γ m_X5_unitsTo [.ref (ad 40), iv (z : Int)] (HM ad s) (fun v h' => v = some (iv (mUn s z)) ∧ h' = HM ad s) (fun _ _ => False) := by
  refine Ct.intro hfl (by decide +kernel) rfl (Nat.le_of_ble_eq_true rfl) ?_
  intro G C R T
  show G 0 [some (.ref (ad 40)), some (iv (z : Int)), none, none] [] (HM ad s) 0 0
  refine gk_iconst C dX5_unitsTo_0 ?_
  refine gk_istore_n_2 C rfl (by decide) dX5_unitsTo_1 ?_
  refine gk_iconst C dX5_unitsTo_2 ?_
  refine gk_istore_n_3 C rfl (by decide) dX5_unitsTo_3 ?_
  have key : ∀ (n i : Nat), z - i < n → i ≤ z → G 4 [some (.ref (ad 40)), some (iv (z : Int)), some (iv (usum (fun k => s 5 (s 10 k)) i)), some (iv (i : Int))] [] (HM ad s) 0 0 := by
    intro n
    induction n with
    | zero => intro i h1; omega
    | succ n ih =>
      intro i hn hi
      refine gk_iload_n C dX5_unitsTo_4 rfl ?_
      refine gk_iload_n C dX5_unitsTo_5 rfl ?_
      refine gk_icmp_ge C (tgt := 29) (by omega) (by omega) dX5_unitsTo_6 (by decide) (fun c_6 => ?_) (fun c_6 => ?_)
      · refine gk_iload_n C dX5_unitsTo_29 rfl ?_
        refine (R _ _ _ _ _ (by decide) (by decide)).1 _ rfl dX5_unitsTo_30 ?_
        have e : i = z := by omega
        rw [e]
        exact ⟨rfl, rfl⟩
      · refine gk_iload_n C dX5_unitsTo_9 rfl ?_
        refine gk_aload_n C dX5_unitsTo_10 rfl ?_
        refine mo_getf C I f_X5_22.r dX5_unitsTo_11 (by rfl) ?_
        refine gk_aload_n C dX5_unitsTo_14 rfl ?_
        refine mo_getf C I f_X5_35.r dX5_unitsTo_15 (by rfl) ?_
        refine gk_iload_n C dX5_unitsTo_18 rfl ?_
        have b10 := V.at 10 (i : Int) rfl
        refine mo_iald C I (by rfl) dX5_unitsTo_19 (by omega) (by omega) ?_
        refine mo_iald C I (by rfl) dX5_unitsTo_20 (by omega) (by omega) ?_
        refine gk_iadd C dX5_unitsTo_21 ?_
        refine gk_istore_n_2 C rfl (by decide) dX5_unitsTo_22 ?_
        refine gk_iinc_3 C rfl (by decide) dX5_unitsTo_23 ?_
        refine gk_goto C (tgt := 4) dX5_unitsTo_26 (by decide) ?_
        exact ih (i + 1) (by omega) (by omega)
  exact key (z + 1) 0 (by omega) (by omega)

set_option maxRecDepth 100000 in
set_option maxHeartbeats 4000000 in
theorem m_clashes {l : Launch} {Γ : GA} (hfl : l.stackTraces = false) {ad : Nat → Nat} (I : IM ad) {s : MS} (V : VM s) : Ct l Γ m_X5_clashes [.ref (ad 40)] (HM ad s) (fun v h' => v = some (iv (mCl s)) ∧ h' = HM ad s) (fun _ _ => False) := by
  have b9 := V.at 9 0 rfl
  refine Ct.intro hfl (by decide +kernel) rfl (Nat.le_of_ble_eq_true rfl) ?_
  intro G C R T
  show G 0 [some (.ref (ad 40)), none, none] [] (HM ad s) 0 0
  refine gk_iconst C dX5_clashes_0 ?_
  refine gk_istore_n_1 C rfl (by decide) dX5_clashes_1 ?_
  refine gk_iconst C dX5_clashes_2 ?_
  refine gk_istore_n_2 C rfl (by decide) dX5_clashes_3 ?_
  have key : ∀ (n i : Nat), (200 : Int) - i < n → 1 ≤ i → (i ≤ s 9 0 ∨ i = 1) → G 4 [some (.ref (ad 40)), some (iv (usum (clash1 (fun k => s 6 (s 10 k)) (fun k => s 4 (s 10 k))) i)), some (iv (i : Int))] [] (HM ad s) 0 0 := by
    intro n
    induction n with
    | zero => intro i h1; omega
    | succ n ih =>
      intro i hn hi hi2
      have b10 := V.at 10 (i : Int) rfl
      have b11 := V.at 10 ((i : Int) - 1) rfl
      have b6 := V.at 6 (s 10 i) rfl
      have b4 := V.at 4 (s 10 i) rfl
      have b5 := V.at 4 (s 10 ((i : Int) - 1)) rfl
      refine gk_iload_n C dX5_clashes_4 rfl ?_
      refine gk_aload_n C dX5_clashes_5 rfl ?_
      refine mo_getf C I f_X5_138.r dX5_clashes_6 (by rfl) ?_
      refine gk_icmp_ge C (tgt := 67) (by omega) (by omega) dX5_clashes_9 (by decide) (fun c_9 => ?_) (fun c_9 => ?_)
      · refine gk_iload_n C dX5_clashes_67 rfl ?_
        refine (R _ _ _ _ _ (by decide) (by decide)).1 _ rfl dX5_clashes_68 ?_
        refine ⟨congrArg (fun q => some (iv q)) ?_, rfl⟩
        unfold mCl
        by_cases q : s 9 0 = 0
        · have e : i = 1 := by omega
          rw [q, e]
          rfl
        · have e : i = (s 9 0).toNat := by omega
          rw [e]
      · refine gk_iload_n C dX5_clashes_12 rfl ?_
        refine gk_aload_n C dX5_clashes_13 rfl ?_
        refine mo_getf C I f_X5_25.r dX5_clashes_14 (by rfl) ?_
        refine gk_aload_n C dX5_clashes_17 rfl ?_
        refine mo_getf C I f_X5_35.r dX5_clashes_18 (by rfl) ?_
        refine gk_iload_n C dX5_clashes_21 rfl ?_
        refine mo_iald C I (by rfl) dX5_clashes_22 (by omega) (by omega) ?_
        refine mo_iald C I (by rfl) dX5_clashes_23 (by omega) (by omega) ?_
        refine gk_if_ne C (tgt := 58) (by omega) dX5_clashes_24 (by decide) (fun c_24 => ?_) (fun c_24 => ?_)
        · have e1 : usum (clash1 (fun k => s 6 (s 10 k)) (fun k => s 4 (s 10 k))) (i + 1) = usum (clash1 (fun k => s 6 (s 10 k)) (fun k => s 4 (s 10 k))) i + 0 := by
            show _ + clash1 _ _ (i : Int) = _
            congr 1
            unfold clash1
            exact if_neg (fun z => c_24 z.2.1)
          refine gk_iconst C dX5_clashes_58 ?_
          refine gk_iadd C dX5_clashes_59 ?_
          refine gk_istore_n_1 C rfl (by decide) dX5_clashes_60 ?_
          refine gk_iinc_2 C rfl (by decide) dX5_clashes_61 ?_
          refine gk_goto C (tgt := 4) dX5_clashes_64 (by decide) ?_
          have h9 := ih (i + 1) (by omega) (by omega) (by omega)
          rw [e1] at h9
          exact h9
        · refine gk_aload_n C dX5_clashes_27 rfl ?_
          refine mo_getf C I f_X5_19.r dX5_clashes_28 (by rfl) ?_
          refine gk_aload_n C dX5_clashes_31 rfl ?_
          refine mo_getf C I f_X5_35.r dX5_clashes_32 (by rfl) ?_
          refine gk_iload_n C dX5_clashes_35 rfl ?_
          refine mo_iald C I (by rfl) dX5_clashes_36 (by omega) (by omega) ?_
          refine mo_iald C I (by rfl) dX5_clashes_37 (by omega) (by omega) ?_
          refine gk_aload_n C dX5_clashes_38 rfl ?_
          refine mo_getf C I f_X5_19.r dX5_clashes_39 (by rfl) ?_
          refine gk_aload_n C dX5_clashes_42 rfl ?_
          refine mo_getf C I f_X5_35.r dX5_clashes_43 (by rfl) ?_
          refine gk_iload_n C dX5_clashes_46 rfl ?_
          refine gk_iconst C dX5_clashes_47 ?_
          refine gk_isub C dX5_clashes_48 ?_
          refine mo_iald C I (by rfl) dX5_clashes_49 (by omega) (by omega) ?_
          refine mo_iald C I (by rfl) dX5_clashes_50 (by omega) (by omega) ?_
          refine gk_icmp_ne C (tgt := 58) (by omega) (by omega) dX5_clashes_51 (by decide) (fun c_51 => ?_) (fun c_51 => ?_)
          · have e1 : usum (clash1 (fun k => s 6 (s 10 k)) (fun k => s 4 (s 10 k))) (i + 1) = usum (clash1 (fun k => s 6 (s 10 k)) (fun k => s 4 (s 10 k))) i + 0 := by
              show _ + clash1 _ _ (i : Int) = _
              congr 1
              unfold clash1
              exact if_neg (fun z => c_51 z.2.2)
            refine gk_iconst C dX5_clashes_58 ?_
            refine gk_iadd C dX5_clashes_59 ?_
            refine gk_istore_n_1 C rfl (by decide) dX5_clashes_60 ?_
            refine gk_iinc_2 C rfl (by decide) dX5_clashes_61 ?_
            refine gk_goto C (tgt := 4) dX5_clashes_64 (by decide) ?_
            have h9 := ih (i + 1) (by omega) (by omega) (by omega)
            rw [e1] at h9
            exact h9
          · have e1 : usum (clash1 (fun k => s 6 (s 10 k)) (fun k => s 4 (s 10 k))) (i + 1) = usum (clash1 (fun k => s 6 (s 10 k)) (fun k => s 4 (s 10 k))) i + 1 := by
              show _ + clash1 _ _ (i : Int) = _
              congr 1
              unfold clash1
              exact if_pos ⟨by omega, c_24, c_51⟩
            refine gk_iconst C dX5_clashes_54 ?_
            refine gk_goto C (tgt := 59) dX5_clashes_55 (by decide) ?_
            refine gk_iadd C dX5_clashes_59 ?_
            refine gk_istore_n_1 C rfl (by decide) dX5_clashes_60 ?_
            refine gk_iinc_2 C rfl (by decide) dX5_clashes_61 ?_
            refine gk_goto C (tgt := 4) dX5_clashes_64 (by decide) ?_
            have h9 := ih (i + 1) (by omega) (by omega) (by omega)
            rw [e1] at h9
            exact h9
  exact key 300 1 (by omega) (by omega) (by omega)

set_option maxRecDepth 100000 in
set_option maxHeartbeats 4000000 in
theorem m_small {l : Launch} {Γ : GA} (hfl : l.stackTraces = false) {ad : Nat → Nat} (I : IM ad) {s : MS} (V : VM s) : Ct l Γ m_X5_small [.ref (ad 40)] (HM ad s) (fun v h' => v = some (iv (mSm s)) ∧ h' = HM ad s) (fun _ _ => False) := by
  have b9 := V.at 9 0 rfl
  refine Ct.intro hfl (by decide +kernel) rfl (Nat.le_of_ble_eq_true rfl) ?_
  intro G C R T
  show G 0 [some (.ref (ad 40)), none, none, none] [] (HM ad s) 0 0
  refine gk_iconst C dX5_small_0 ?_
  refine gk_istore_n_1 C rfl (by decide) dX5_small_1 ?_
  refine gk_iconst C dX5_small_2 ?_
  refine gk_istore_n_2 C rfl (by decide) dX5_small_3 ?_
  have key : ∀ (n i : Nat), (s 9 0) - i < n → i ≤ s 9 0 → ∀ x3, G 4 [some (.ref (ad 40)), some (iv (usum (fun k => smallOf (s 6 (s 10 k))) i)), some (iv (i : Int)), x3] [] (HM ad s) 0 0 := by
    intro n
    induction n with
    | zero => intro i h1; omega
    | succ n ih =>
      intro i hn hi x3
      have b10 := V.at 10 (i : Int) rfl
      have b6 := V.at 6 (s 10 i) rfl
      have e7 : ∀ y : Int, i < s 9 0 → smallOf (s 6 (s 10 i)) = y → G 4 [some (.ref (ad 40)), some (iv (usum (fun k => smallOf (s 6 (s 10 k))) i + y)), some (iv ((i : Int) + 1)), some (iv (s 6 (s 10 i)))] [] (HM ad s) 0 0 := by
        intro y hl hy
        subst hy
        exact ih (i + 1) (by omega) (by omega) _
      refine gk_iload_n C dX5_small_4 rfl ?_
      refine gk_aload_n C dX5_small_5 rfl ?_
      refine mo_getf C I f_X5_138.r dX5_small_6 (by rfl) ?_
      refine gk_icmp_ge C (tgt := 61) (by omega) (by omega) dX5_small_9 (by decide) (fun c_9 => ?_) (fun c_9 => ?_)
      · refine gk_iload_n C dX5_small_61 rfl ?_
        refine (R _ _ _ _ _ (by decide) (by decide)).1 _ rfl dX5_small_62 ?_
        unfold mSm
        have e : i = (s 9 0).toNat := by omega
        rw [e]
        exact ⟨rfl, rfl⟩
      · refine gk_aload_n C dX5_small_12 rfl ?_
        refine mo_getf C I f_X5_25.r dX5_small_13 (by rfl) ?_
        refine gk_aload_n C dX5_small_16 rfl ?_
        refine mo_getf C I f_X5_35.r dX5_small_17 (by rfl) ?_
        refine gk_iload_n C dX5_small_20 rfl ?_
        refine mo_iald C I (by rfl) dX5_small_21 (by omega) (by omega) ?_
        refine mo_iald C I (by rfl) dX5_small_22 (by omega) (by omega) ?_
        refine gk_istore_n_3 C rfl (by decide) dX5_small_23 ?_
        refine gk_iload_n C dX5_small_24 rfl ?_
        refine gk_iload_n C dX5_small_25 rfl ?_
        refine gk_if_ne C (tgt := 33) (by omega) dX5_small_26 (by decide) (fun c_26 => ?_) (fun c_26 => ?_)
        · refine gk_iload_n C dX5_small_33 rfl ?_
          refine gk_iconst C dX5_small_34 ?_
          refine gk_icmp_gt C (tgt := 42) (by omega) (by omega) dX5_small_35 (by decide) (fun c_35 => ?_) (fun c_35 => ?_)
          · refine gk_iload_n C dX5_small_42 rfl ?_
            refine gk_bipush C dX5_small_43 (by decide) ?_
            refine gk_icmp_ne C (tgt := 52) (by omega) (by omega) dX5_small_45 (by decide) (fun c_45 => ?_) (fun c_45 => ?_)
            · refine gk_iconst C dX5_small_52 ?_
              refine gk_iadd C dX5_small_53 ?_
              refine gk_istore_n_1 C rfl (by decide) dX5_small_54 ?_
              refine gk_iinc_2 C rfl (by decide) dX5_small_55 ?_
              refine gk_goto C (tgt := 4) dX5_small_58 (by decide) ?_
              exact e7 _ (by omega) (by unfold smallOf; (repeat' split) <;> omega)
            · refine gk_iconst C dX5_small_48 ?_
              refine gk_goto C (tgt := 53) dX5_small_49 (by decide) ?_
              refine gk_iadd C dX5_small_53 ?_
              refine gk_istore_n_1 C rfl (by decide) dX5_small_54 ?_
              refine gk_iinc_2 C rfl (by decide) dX5_small_55 ?_
              refine gk_goto C (tgt := 4) dX5_small_58 (by decide) ?_
              exact e7 _ (by omega) (by unfold smallOf; (repeat' split) <;> omega)
          · refine gk_iconst C dX5_small_38 ?_
            refine gk_goto C (tgt := 53) dX5_small_39 (by decide) ?_
            refine gk_iadd C dX5_small_53 ?_
            refine gk_istore_n_1 C rfl (by decide) dX5_small_54 ?_
            refine gk_iinc_2 C rfl (by decide) dX5_small_55 ?_
            refine gk_goto C (tgt := 4) dX5_small_58 (by decide) ?_
            exact e7 _ (by omega) (by unfold smallOf; (repeat' split) <;> omega)
        · refine gk_iconst C dX5_small_29 ?_
          refine gk_goto C (tgt := 53) dX5_small_30 (by decide) ?_
          refine gk_iadd C dX5_small_53 ?_
          refine gk_istore_n_1 C rfl (by decide) dX5_small_54 ?_
          refine gk_iinc_2 C rfl (by decide) dX5_small_55 ?_
          refine gk_goto C (tgt := 4) dX5_small_58 (by decide) ?_
          exact e7 _ (by omega) (by unfold smallOf; (repeat' split) <;> omega)
  exact key 200 0 (by omega) (by omega) none

theorem mPl_congr {s s2 : MS} {t : Int} (h7 : s2 7 = s 7) (h8 : s2 8 = s 8) (h10 : s2 10 = s 10) (h11 : s2 11 = s 11) : ∀ n : Nat, mPl s2 t n = mPl s t n
  | 0 => by
    show ((0 : Int), s2 10, s2 11) = (0, s 10, s 11)
    rw [h10, h11]
  | n + 1 => by
    show prep (mPl s2 t n) (64 * t + mFk s2 t n) n (s2 7 (8 * t + n) - mFk s2 t n) (mTw s2 t n) = prep (mPl s t n) (64 * t + mFk s t n) n (s 7 (8 * t + n) - mFk s t n) (mTw s t n)
    unfold mFk mTw
    rw [mPl_congr h7 h8 h10 h11 n, h7, h8]
theorem mPlay_9 {s : MS} {t c : Int} : mPlay (moS s 39 (fun _ => c)) t 9 0 = mMany s t := by
  show (mPl (moS s 39 (fun _ => c)) t (s 3 t).toNat).1 = _
  rw [mPl_congr (s := s) (s2 := moS s 39 (fun _ => c)) rfl rfl rfl rfl]
  rfl
theorem mPlay_10 {s : MS} {t c : Int} : mPlay (moS s 39 (fun _ => c)) t 10 = mRow s t := by
  show (mPl (moS s 39 (fun _ => c)) t (s 3 t).toNat).2.1 = _
  rw [mPl_congr (s := s) (s2 := moS s 39 (fun _ => c)) rfl rfl rfl rfl]
  rfl
theorem mPlay_11 {s : MS} {t c : Int} : mPlay (moS s 39 (fun _ => c)) t 11 = mPart s t := by
  show (mPl (moS s 39 (fun _ => c)) t (s 3 t).toNat).2.2 = _
  rw [mPl_congr (s := s) (s2 := moS s 39 (fun _ => c)) rfl rfl rfl rfl]
  rfl
theorem VM_th {s : MS} (V : VM s) (c : Int) (hc : 0 ≤ c ∧ c ≤ 3) : VM (moS s 39 (fun _ => c)) := V.set (j := 39) rfl (fun _ => hc)

set_option maxRecDepth 100000 in
set_option maxHeartbeats 4000000 in
theorem m_played {l : Launch} {Γ : GA} (hfl : l.stackTraces = false) {ad : Nat → Nat} (I : IM ad) {s : MS} (V : VM s) (VP : ∀ t : Int, 0 ≤ t → t < s 0 0 → VPt s t) {t p w : Int} (ht : -2147483648 ≤ t ∧ t ≤ 2147483647) (hp : -2147483648 ≤ p ∧ p ≤ 2147483647) (hw : -2147483648 ≤ w ∧ w ≤ 2147483647) : Ct l Γ m_X5_played [.ref (ad 40), iv t, iv p, iv w] (HM ad s) (fun v h' => ∃ (r c : Int) (s2 : MS), v = some (iv r) ∧ h' = HM ad s2 ∧ MPlayed s t p w r c ∧ mSame s s2 ∧ VM s2 ∧ s2 39 0 = c) (fun _ _ => False) := by
  have b0 := V.at 0 0 rfl
  have V0 := VM_th V 0 (by omega)
  refine Ct.intro hfl (by decide +kernel) rfl (Nat.le_of_ble_eq_true rfl) ?_
  intro G C R T
  show G 0 [some (.ref (ad 40)), some (iv t), some (iv p), some (iv w), none] [] (HM ad s) 0 0
  refine gk_aload_n C dX5_played_0 rfl ?_
  refine gk_aload_n C dX5_played_1 rfl ?_
  refine gk_iload_n C dX5_played_2 rfl ?_
  refine gk_callV C o_X5_isTune k_X5_125 dX5_played_3 (m_isTune hfl I V ht) (mo_obj I) rfl rfl rfl (by decide) (by decide) (by exact Nat.le_of_ble_eq_true rfl) (fun _ _ z => z.elim) (fun v_3 h_3 p_3 => ?_)
  obtain ⟨r_3, rfl, rb_3, rc_3, rfl⟩ := p_3
  dsimp only [gk_push]
  refine gk_if_eq C (tgt := 13) (by omega) dX5_played_6 (by decide) (fun c_6 => ?_) (fun c_6 => ?_)
  · refine gk_iconst C dX5_played_13 ?_
    refine mo_putf C I f_X5_107 (by decide) dX5_played_14 ?_
    refine gk_aload_n C dX5_played_17 rfl ?_
    refine mo_getf C I f_X5_107.r dX5_played_18 (by rfl) ?_
    try simp only [moS3_ap, moS_ap, Nat.reduceEqDiff, if_true, if_false, reduceIte]
    refine gk_if_le C (tgt := 26) (by omega) dX5_played_21 (by decide) (fun c_21 => ?_) (fun c_21 => ?_)
    · exact absurd c_21 (by omega)
    · refine gk_iconst C dX5_played_24 ?_
      refine (R _ _ _ _ _ (by decide) (by decide)).1 _ rfl dX5_played_25 ?_
      exact ⟨_, _, _, rfl, rfl, Or.inl ⟨by omega, rfl, rfl⟩, (mSame.of.set (j := 39) rfl), (VM_th V 1 (by omega)), rfl⟩
  · refine gk_iconst C dX5_played_9 ?_
    refine gk_goto C (tgt := 14) dX5_played_10 (by decide) ?_
    refine mo_putf C I f_X5_107 (by decide) dX5_played_14 ?_
    refine gk_aload_n C dX5_played_17 rfl ?_
    refine mo_getf C I f_X5_107.r dX5_played_18 (by rfl) ?_
    try simp only [moS3_ap, moS_ap, Nat.reduceEqDiff, if_true, if_false, reduceIte]
    refine gk_if_le C (tgt := 26) (by omega) dX5_played_21 (by decide) (fun c_21 => ?_) (fun c_21 => ?_)
    · refine gk_aload_n C dX5_played_26 rfl ?_
      refine gk_iload_n C dX5_played_27 rfl ?_
      refine gk_callV C o_X5_plays k_X5_141 dX5_played_28 (m_plays hfl I V0 (t := t) (by omega) (VP t (by omega) (by omega))) (mo_obj I) rfl rfl rfl (by decide) (by decide) (by exact Nat.le_of_ble_eq_true rfl) (fun _ _ z => z.elim) (fun v_28 h_28 p_28 => ?_)
      obtain ⟨rfl, rfl⟩ := p_28
      dsimp only [gk_push]
      have VQ := VM_play V0 (VP t (by omega) (by omega)) (show 0 ≤ t ∧ t < 10 by omega)
      have bm := mMany_bd V (VP t (by omega) (by omega))
      have hS : mSame s (mPlay (moS s 39 (fun _ => 0)) t) := (mSame.of.set (j := 39) rfl).set3
      have e9 := mPlay_9 (s := s) (t := t) (c := 0)
      have e10 := mPlay_10 (s := s) (t := t) (c := 0)
      have e11 := mPlay_11 (s := s) (t := t) (c := 0)
      have e39 : mPlay (moS s 39 (fun _ => 0)) t 39 0 = 0 := rfl
      generalize mPlay (moS s 39 (fun _ => 0)) t = s2 at *
      refine gk_aload_n C dX5_played_31 rfl ?_
      refine gk_iload_n C dX5_played_32 rfl ?_
      refine gk_iconst C dX5_played_33 ?_
      refine gk_aload_n C dX5_played_34 rfl ?_
      refine mo_getf C I f_X5_138.r dX5_played_35 (by rfl) ?_
      try simp only [moS3_ap, moS_ap, Nat.reduceEqDiff, if_true, if_false, reduceIte]
      rw [e9]
      refine gk_iconst C dX5_played_38 ?_
      refine gk_isub C dX5_played_39 ?_
      refine gk_callS C o_X5_isIn k_X5_114 dX5_played_40 (m_X5_isIn_c hfl hp (by omega) (by omega)) rfl rfl (by decide) (by decide) (by exact Nat.le_of_ble_eq_true rfl) (fun _ _ z => z.elim) (fun v_40 h_40 p_40 => ?_)
      obtain ⟨r_40, rfl, rb_40, rc_40, rfl⟩ := p_40
      dsimp only [gk_push]
      refine gk_if_ne C (tgt := 50) (by omega) dX5_played_43 (by decide) (fun c_43 => ?_) (fun c_43 => ?_)
      · refine gk_iload_n C dX5_played_50 rfl ?_
        refine gk_iconst C dX5_played_51 ?_
        refine gk_iconst C dX5_played_52 ?_
        refine gk_callS C o_X5_isIn k_X5_114 dX5_played_53 (m_X5_isIn_c hfl hw (by omega) (by omega)) rfl rfl (by decide) (by decide) (by exact Nat.le_of_ble_eq_true rfl) (fun _ _ z => z.elim) (fun v_53 h_53 p_53 => ?_)
        obtain ⟨r_53, rfl, rb_53, rc_53, rfl⟩ := p_53
        dsimp only [gk_push]
        refine gk_if_ne C (tgt := 63) (by omega) dX5_played_56 (by decide) (fun c_56 => ?_) (fun c_56 => ?_)
        · refine gk_iconst C dX5_played_63 ?_
          refine mo_putf C I f_X5_107 (by decide) dX5_played_64 ?_
          refine gk_aload_n C dX5_played_67 rfl ?_
          refine mo_getf C I f_X5_107.r dX5_played_68 (by rfl) ?_
          try simp only [moS3_ap, moS_ap, Nat.reduceEqDiff, if_true, if_false, reduceIte]
          refine gk_if_le C (tgt := 76) (by omega) dX5_played_71 (by decide) (fun c_71 => ?_) (fun c_71 => ?_)
          · have VR : VM (moS s2 39 (fun _ => 0)) := VM_th VQ 0 (by omega)
            have br := VQ.at 10 p rfl
            obtain ⟨z, rfl⟩ : ∃ z : Nat, p = (z : Int) := ⟨p.toNat, by omega⟩
            have eU : mUn (moS s2 39 (fun _ => 0)) z = usum (fun k => s 5 (mRow s t k)) z := by
              unfold mUn
              rw [show moS s2 39 (fun _ => 0) 5 = s 5 from hS 5 rfl, show moS s2 39 (fun _ => 0) 10 = mRow s t from e10]
            refine gk_aload_n C dX5_played_76 rfl ?_
            refine mo_getf C I f_X5_35.r dX5_played_77 (by rfl) ?_
            try simp only [moS3_ap, moS_ap, Nat.reduceEqDiff, if_true, if_false, reduceIte]
            refine gk_iload_n C dX5_played_80 rfl ?_
            refine mo_iald C I (by rfl) dX5_played_81 (by omega) (by omega) ?_
            try simp only [moS3_ap, moS_ap, Nat.reduceEqDiff, if_true, if_false, reduceIte]
            refine gk_istore_4 C rfl (by decide) dX5_played_82 ?_
            refine gk_iload_n C dX5_played_84 rfl ?_
            refine gk_if_ne C (tgt := 98) (by omega) dX5_played_85 (by decide) (fun c_85 => ?_) (fun c_85 => ?_)
            · refine gk_iload_n C dX5_played_98 rfl ?_
              refine gk_iconst C dX5_played_99 ?_
              refine gk_icmp_ne C (tgt := 113) (by omega) (by omega) dX5_played_100 (by decide) (fun c_100 => ?_) (fun c_100 => ?_)
              · refine gk_iload_n C dX5_played_113 rfl ?_
                refine gk_iconst C dX5_played_114 ?_
                refine gk_icmp_ne C (tgt := 128) (by omega) (by omega) dX5_played_115 (by decide) (fun c_115 => ?_) (fun c_115 => ?_)
                · refine gk_iload_n C dX5_played_128 rfl ?_
                  refine gk_iconst C dX5_played_129 ?_
                  refine gk_icmp_ne C (tgt := 141) (by omega) (by omega) dX5_played_130 (by decide) (fun c_130 => ?_) (fun c_130 => ?_)
                  · refine gk_aload_n C dX5_played_141 rfl ?_
                    refine mo_getf C I f_X5_38.r dX5_played_142 (by rfl) ?_
                    try simp only [moS3_ap, moS_ap, Nat.reduceEqDiff, if_true, if_false, reduceIte]
                    refine gk_iload_n C dX5_played_145 rfl ?_
                    refine mo_iald C I (by rfl) dX5_played_146 (by omega) (by omega) ?_
                    try simp only [moS3_ap, moS_ap, Nat.reduceEqDiff, if_true, if_false, reduceIte]
                    refine (R _ _ _ _ _ (by decide) (by decide)).1 _ rfl dX5_played_147 ?_
                    refine ⟨_, _, _, rfl, rfl, Or.inr (Or.inr (Or.inr ⟨by omega, by omega, by omega, rfl, ?_⟩)), hS.set (j := 39) rfl, VR, rfl⟩
                    first | rw [eU] | rw [e11] | rw [e10, hS 4 rfl] | rw [e10, hS 5 rfl] | rw [e10, hS 6 rfl] | skip
                    (repeat' split) <;> first | rfl | omega | (rw [e10, hS 5 rfl]) | (rw [e10, hS 6 rfl])
                  · refine gk_aload_n C dX5_played_133 rfl ?_
                    refine gk_iload_n C dX5_played_134 rfl ?_
                    refine gk_callV C o_X5_unitsTo k_X5_145 dX5_played_135 (m_unitsTo hfl I VR (z := z) (by omega)) (mo_obj I) rfl rfl rfl (by decide) (by decide) (by exact Nat.le_of_ble_eq_true rfl) (fun _ _ z => z.elim) (fun v_135 h_135 p_135 => ?_)
                    obtain ⟨rfl, rfl⟩ := p_135
                    dsimp only [gk_push]
                    refine gk_goto C (tgt := 147) dX5_played_138 (by decide) ?_
                    refine (R _ _ _ _ _ (by decide) (by decide)).1 _ rfl dX5_played_147 ?_
                    refine ⟨_, _, _, rfl, rfl, Or.inr (Or.inr (Or.inr ⟨by omega, by omega, by omega, rfl, ?_⟩)), hS.set (j := 39) rfl, VR, rfl⟩
                    first | rw [eU] | rw [e11] | rw [e10, hS 4 rfl] | rw [e10, hS 5 rfl] | rw [e10, hS 6 rfl] | skip
                    (repeat' split) <;> first | rfl | omega | (rw [e10, hS 5 rfl]) | (rw [e10, hS 6 rfl])
                · refine gk_aload_n C dX5_played_118 rfl ?_
                  refine mo_getf C I f_X5_25.r dX5_played_119 (by rfl) ?_
                  try simp only [moS3_ap, moS_ap, Nat.reduceEqDiff, if_true, if_false, reduceIte]
                  refine gk_iload C dX5_played_122 rfl ?_
                  refine mo_iald C I (by rfl) dX5_played_124 (by omega) (by omega) ?_
                  try simp only [moS3_ap, moS_ap, Nat.reduceEqDiff, if_true, if_false, reduceIte]
                  refine gk_goto C (tgt := 147) dX5_played_125 (by decide) ?_
                  refine (R _ _ _ _ _ (by decide) (by decide)).1 _ rfl dX5_played_147 ?_
                  refine ⟨_, _, _, rfl, rfl, Or.inr (Or.inr (Or.inr ⟨by omega, by omega, by omega, rfl, ?_⟩)), hS.set (j := 39) rfl, VR, rfl⟩
                  first | rw [eU] | rw [e11] | rw [e10, hS 4 rfl] | rw [e10, hS 5 rfl] | rw [e10, hS 6 rfl] | skip
                  (repeat' split) <;> first | rfl | omega | (rw [e10, hS 5 rfl]) | (rw [e10, hS 6 rfl])
              · refine gk_aload_n C dX5_played_103 rfl ?_
                refine mo_getf C I f_X5_22.r dX5_played_104 (by rfl) ?_
                try simp only [moS3_ap, moS_ap, Nat.reduceEqDiff, if_true, if_false, reduceIte]
                refine gk_iload C dX5_played_107 rfl ?_
                refine mo_iald C I (by rfl) dX5_played_109 (by omega) (by omega) ?_
                try simp only [moS3_ap, moS_ap, Nat.reduceEqDiff, if_true, if_false, reduceIte]
                refine gk_goto C (tgt := 147) dX5_played_110 (by decide) ?_
                refine (R _ _ _ _ _ (by decide) (by decide)).1 _ rfl dX5_played_147 ?_
                refine ⟨_, _, _, rfl, rfl, Or.inr (Or.inr (Or.inr ⟨by omega, by omega, by omega, rfl, ?_⟩)), hS.set (j := 39) rfl, VR, rfl⟩
                first | rw [eU] | rw [e11] | rw [e10, hS 4 rfl] | rw [e10, hS 5 rfl] | rw [e10, hS 6 rfl] | skip
                (repeat' split) <;> first | rfl | omega | (rw [e10, hS 5 rfl]) | (rw [e10, hS 6 rfl])
            · refine gk_aload_n C dX5_played_88 rfl ?_
              refine mo_getf C I f_X5_19.r dX5_played_89 (by rfl) ?_
              try simp only [moS3_ap, moS_ap, Nat.reduceEqDiff, if_true, if_false, reduceIte]
              refine gk_iload C dX5_played_92 rfl ?_
              refine mo_iald C I (by rfl) dX5_played_94 (by omega) (by omega) ?_
              try simp only [moS3_ap, moS_ap, Nat.reduceEqDiff, if_true, if_false, reduceIte]
              refine gk_goto C (tgt := 147) dX5_played_95 (by decide) ?_
              refine (R _ _ _ _ _ (by decide) (by decide)).1 _ rfl dX5_played_147 ?_
              refine ⟨_, _, _, rfl, rfl, Or.inr (Or.inr (Or.inr ⟨by omega, by omega, by omega, rfl, ?_⟩)), hS.set (j := 39) rfl, VR, rfl⟩
              first | rw [eU] | rw [e11] | rw [e10, hS 4 rfl] | rw [e10, hS 5 rfl] | rw [e10, hS 6 rfl] | skip
              (repeat' split) <;> first | rfl | omega | (rw [e10, hS 5 rfl]) | (rw [e10, hS 6 rfl])
          · exact absurd c_71 (by omega)
        · refine gk_iconst C dX5_played_59 ?_
          refine gk_goto C (tgt := 64) dX5_played_60 (by decide) ?_
          refine mo_putf C I f_X5_107 (by decide) dX5_played_64 ?_
          refine gk_aload_n C dX5_played_67 rfl ?_
          refine mo_getf C I f_X5_107.r dX5_played_68 (by rfl) ?_
          try simp only [moS3_ap, moS_ap, Nat.reduceEqDiff, if_true, if_false, reduceIte]
          refine gk_if_le C (tgt := 76) (by omega) dX5_played_71 (by decide) (fun c_71 => ?_) (fun c_71 => ?_)
          · exact absurd c_71 (by omega)
          · refine gk_iconst C dX5_played_74 ?_
            refine (R _ _ _ _ _ (by decide) (by decide)).1 _ rfl dX5_played_75 ?_
            first | exact ⟨_, _, _, rfl, rfl, Or.inr (Or.inl ⟨by omega, by omega, rfl, rfl⟩), hS.set (j := 39) rfl, VM_th VQ 1 (by omega), rfl⟩ | exact ⟨_, _, _, rfl, rfl, Or.inr (Or.inr (Or.inl ⟨by omega, by omega, by omega, rfl, rfl⟩)), hS.set (j := 39) rfl, VM_th VQ 2 (by omega), rfl⟩
      · refine gk_iconst C dX5_played_46 ?_
        refine gk_goto C (tgt := 64) dX5_played_47 (by decide) ?_
        refine mo_putf C I f_X5_107 (by decide) dX5_played_64 ?_
        refine gk_aload_n C dX5_played_67 rfl ?_
        refine mo_getf C I f_X5_107.r dX5_played_68 (by rfl) ?_
        try simp only [moS3_ap, moS_ap, Nat.reduceEqDiff, if_true, if_false, reduceIte]
        refine gk_if_le C (tgt := 76) (by omega) dX5_played_71 (by decide) (fun c_71 => ?_) (fun c_71 => ?_)
        · exact absurd c_71 (by omega)
        · refine gk_iconst C dX5_played_74 ?_
          refine (R _ _ _ _ _ (by decide) (by decide)).1 _ rfl dX5_played_75 ?_
          first | exact ⟨_, _, _, rfl, rfl, Or.inr (Or.inl ⟨by omega, by omega, rfl, rfl⟩), hS.set (j := 39) rfl, VM_th VQ 1 (by omega), rfl⟩ | exact ⟨_, _, _, rfl, rfl, Or.inr (Or.inr (Or.inl ⟨by omega, by omega, by omega, rfl, rfl⟩)), hS.set (j := 39) rfl, VM_th VQ 2 (by omega), rfl⟩
    · exact absurd c_21 (by omega)

set_option maxRecDepth 100000 in
set_option maxHeartbeats 4000000 in
theorem m_ofTune {l : Launch} {Γ : GA} (hfl : l.stackTraces = false) {ad : Nat → Nat} (I : IM ad) {s : MS} (V : VM s) (VP : ∀ t : Int, 0 ≤ t → t < s 0 0 → VPt s t) {t w : Int} (ht : -2147483648 ≤ t ∧ t ≤ 2147483647) (hw : -2147483648 ≤ w ∧ w ≤ 2147483647) : Ct l Γ m_X5_ofTune [.ref (ad 40), iv t, iv w] (HM ad s) (fun v h' => ∃ (r c : Int) (s2 : MS), v = some (iv r) ∧ h' = HM ad s2 ∧ MOfTune s t w r c ∧ mSame s s2 ∧ VM s2 ∧ s2 39 0 = c) (fun _ _ => False) := by
  have b0 := V.at 0 0 rfl
  have V0 := VM_th V 0 (by omega)
  refine Ct.intro hfl (by decide +kernel) rfl (Nat.le_of_ble_eq_true rfl) ?_
  intro G C R T
  show G 0 [some (.ref (ad 40)), some (iv t), some (iv w)] [] (HM ad s) 0 0
  refine gk_aload_n C dX5_ofTune_0 rfl ?_
  refine gk_aload_n C dX5_ofTune_1 rfl ?_
  refine gk_iload_n C dX5_ofTune_2 rfl ?_
  refine gk_callV C o_X5_isTune k_X5_125 dX5_ofTune_3 (m_isTune hfl I V ht) (mo_obj I) rfl rfl rfl (by decide) (by decide) (by exact Nat.le_of_ble_eq_true rfl) (fun _ _ z => z.elim) (fun v_3 h_3 p_3 => ?_)
  obtain ⟨r_3, rfl, rb_3, rc_3, rfl⟩ := p_3
  dsimp only [gk_push]
  refine gk_if_ne C (tgt := 13) (by omega) dX5_ofTune_6 (by decide) (fun c_6 => ?_) (fun c_6 => ?_)
  · refine gk_iload_n C dX5_ofTune_13 rfl ?_
    refine gk_iconst C dX5_ofTune_14 ?_
    refine gk_bipush C dX5_ofTune_15 (by decide) ?_
    refine gk_callS C o_X5_isIn k_X5_114 dX5_ofTune_17 (m_X5_isIn_c hfl hw (by omega) (by omega)) rfl rfl (by decide) (by decide) (by exact Nat.le_of_ble_eq_true rfl) (fun _ _ z => z.elim) (fun v_17 h_17 p_17 => ?_)
    obtain ⟨r_17, rfl, rb_17, rc_17, rfl⟩ := p_17
    dsimp only [gk_push]
    refine gk_if_ne C (tgt := 27) (by omega) dX5_ofTune_20 (by decide) (fun c_20 => ?_) (fun c_20 => ?_)
    · refine gk_iconst C dX5_ofTune_27 ?_
      refine mo_putf C I f_X5_107 (by decide) dX5_ofTune_28 ?_
      refine gk_aload_n C dX5_ofTune_31 rfl ?_
      refine mo_getf C I f_X5_107.r dX5_ofTune_32 (by rfl) ?_
      try simp only [moS3_ap, moS_ap, Nat.reduceEqDiff, if_true, if_false, reduceIte]
      refine gk_if_le C (tgt := 40) (by omega) dX5_ofTune_35 (by decide) (fun c_35 => ?_) (fun c_35 => ?_)
      · refine gk_aload_n C dX5_ofTune_40 rfl ?_
        refine gk_iload_n C dX5_ofTune_41 rfl ?_
        refine gk_callV C o_X5_plays k_X5_141 dX5_ofTune_42 (m_plays hfl I V0 (t := t) (by omega) (VP t (by omega) (by omega))) (mo_obj I) rfl rfl rfl (by decide) (by decide) (by exact Nat.le_of_ble_eq_true rfl) (fun _ _ z => z.elim) (fun v_42 h_42 p_42 => ?_)
        obtain ⟨rfl, rfl⟩ := p_42
        dsimp only [gk_push]
        have VQ := VM_play V0 (VP t (by omega) (by omega)) (show 0 ≤ t ∧ t < 10 by omega)
        have bm := mMany_bd V (VP t (by omega) (by omega))
        have hS : mSame s (mPlay (moS s 39 (fun _ => 0)) t) := (mSame.of.set (j := 39) rfl).set3
        have e9 := mPlay_9 (s := s) (t := t) (c := 0)
        have e10 := mPlay_10 (s := s) (t := t) (c := 0)
        have e11 := mPlay_11 (s := s) (t := t) (c := 0)
        have e39 : mPlay (moS s 39 (fun _ => 0)) t 39 0 = 0 := rfl
        generalize mPlay (moS s 39 (fun _ => 0)) t = s2 at *
        refine gk_iload_n C dX5_ofTune_45 rfl ?_
        rcases (show (w < 0 ∨ 5 < w) ∨ w = 0 ∨ w = 1 ∨ w = 2 ∨ w = 3 ∨ w = 4 ∨ w = 5 from by omega) with c_46 | c_46 | c_46 | c_46 | c_46 | c_46 | c_46
        · refine gk_tableOut C (tgt := 122) (by omega) dX5_ofTune_46 c_46 (by decide) ?_
          refine gk_aload_n C dX5_ofTune_122 rfl ?_
          refine mo_getf C I f_X5_13.r dX5_ofTune_123 (by rfl) ?_
          try simp only [moS3_ap, moS_ap, Nat.reduceEqDiff, if_true, if_false, reduceIte]
          refine gk_iload_n C dX5_ofTune_126 rfl ?_
          refine mo_iald C I (by rfl) dX5_ofTune_127 (by omega) (by omega) ?_
          try simp only [moS3_ap, moS_ap, Nat.reduceEqDiff, if_true, if_false, reduceIte]
          refine gk_aload_n C dX5_ofTune_128 rfl ?_
          refine gk_iload_n C dX5_ofTune_129 rfl ?_
          refine gk_callV C o_X5_openFrom k_X5_118 dX5_ofTune_130 (m_openFrom hfl I VQ (by omega)) (mo_obj I) rfl rfl rfl (by decide) (by decide) (by exact Nat.le_of_ble_eq_true rfl) (fun _ _ z => z.elim) (fun v_130 h_130 p_130 => ?_)
          obtain ⟨rfl, rfl⟩ := p_130
          dsimp only [gk_push]
          refine gk_isub C dX5_ofTune_133 ?_
          refine (R _ _ _ _ _ (by decide) (by decide)).1 _ rfl dX5_ofTune_134 ?_
          refine ⟨_, 0, s2, rfl, rfl, Or.inr (Or.inr ⟨by omega, by omega, rfl, ?_⟩), hS, VQ, e39⟩
          try unfold mUn
          try unfold mCl
          try unfold mSm
          first | rw [e9] | skip
          first | rw [e10] | skip
          first | rw [hS 4 rfl] | skip
          first | rw [hS 5 rfl] | skip
          first | rw [hS 6 rfl] | skip
          first | rw [hS 1 rfl] | skip
          first | rw [hS 3 rfl] | skip
          first | rw [hS 2 rfl] | skip
          first | rw [show mFo s2 t = mFo s t from by unfold mFo; rw [hS 3 rfl, hS 7 rfl]] | skip
          (repeat' split) <;> first | rfl | omega
        · refine gk_tableIn C (tgt := 84) (by omega) dX5_ofTune_46 (by omega) (by omega) (by rw [c_46]; rfl) (by decide) ?_
          refine gk_aload_n C dX5_ofTune_84 rfl ?_
          refine mo_getf C I f_X5_7.r dX5_ofTune_85 (by rfl) ?_
          try simp only [moS3_ap, moS_ap, Nat.reduceEqDiff, if_true, if_false, reduceIte]
          refine gk_iload_n C dX5_ofTune_88 rfl ?_
          refine mo_iald C I (by rfl) dX5_ofTune_89 (by omega) (by omega) ?_
          try simp only [moS3_ap, moS_ap, Nat.reduceEqDiff, if_true, if_false, reduceIte]
          refine (R _ _ _ _ _ (by decide) (by decide)).1 _ rfl dX5_ofTune_90 ?_
          refine ⟨_, 0, s2, rfl, rfl, Or.inr (Or.inr ⟨by omega, by omega, rfl, ?_⟩), hS, VQ, e39⟩
          try unfold mUn
          try unfold mCl
          try unfold mSm
          first | rw [e9] | skip
          first | rw [e10] | skip
          first | rw [hS 4 rfl] | skip
          first | rw [hS 5 rfl] | skip
          first | rw [hS 6 rfl] | skip
          first | rw [hS 1 rfl] | skip
          first | rw [hS 3 rfl] | skip
          first | rw [hS 2 rfl] | skip
          first | rw [show mFo s2 t = mFo s t from by unfold mFo; rw [hS 3 rfl, hS 7 rfl]] | skip
          (repeat' split) <;> first | rfl | omega
        · refine gk_tableIn C (tgt := 91) (by omega) dX5_ofTune_46 (by omega) (by omega) (by rw [c_46]; rfl) (by decide) ?_
          refine gk_aload_n C dX5_ofTune_91 rfl ?_
          refine mo_getf C I f_X5_138.r dX5_ofTune_92 (by rfl) ?_
          try simp only [moS3_ap, moS_ap, Nat.reduceEqDiff, if_true, if_false, reduceIte]
          refine (R _ _ _ _ _ (by decide) (by decide)).1 _ rfl dX5_ofTune_95 ?_
          refine ⟨_, 0, s2, rfl, rfl, Or.inr (Or.inr ⟨by omega, by omega, rfl, ?_⟩), hS, VQ, e39⟩
          try unfold mUn
          try unfold mCl
          try unfold mSm
          first | rw [e9] | skip
          first | rw [e10] | skip
          first | rw [hS 4 rfl] | skip
          first | rw [hS 5 rfl] | skip
          first | rw [hS 6 rfl] | skip
          first | rw [hS 1 rfl] | skip
          first | rw [hS 3 rfl] | skip
          first | rw [hS 2 rfl] | skip
          first | rw [show mFo s2 t = mFo s t from by unfold mFo; rw [hS 3 rfl, hS 7 rfl]] | skip
          (repeat' split) <;> first | rfl | omega
        · refine gk_tableIn C (tgt := 96) (by omega) dX5_ofTune_46 (by omega) (by omega) (by rw [c_46]; rfl) (by decide) ?_
          refine gk_aload_n C dX5_ofTune_96 rfl ?_
          refine gk_aload_n C dX5_ofTune_97 rfl ?_
          refine mo_getf C I f_X5_138.r dX5_ofTune_98 (by rfl) ?_
          try simp only [moS3_ap, moS_ap, Nat.reduceEqDiff, if_true, if_false, reduceIte]
          rw [e9, show mMany s t = ((mMany s t).toNat : Int) by omega]
          refine gk_callV C o_X5_unitsTo k_X5_145 dX5_ofTune_101 (m_unitsTo hfl I VQ (z := (mMany s t).toNat) (by omega)) (mo_obj I) rfl rfl rfl (by decide) (by decide) (by exact Nat.le_of_ble_eq_true rfl) (fun _ _ z => z.elim) (fun v_101 h_101 p_101 => ?_)
          obtain ⟨rfl, rfl⟩ := p_101
          dsimp only [gk_push]
          refine (R _ _ _ _ _ (by decide) (by decide)).1 _ rfl dX5_ofTune_104 ?_
          refine ⟨_, 0, s2, rfl, rfl, Or.inr (Or.inr ⟨by omega, by omega, rfl, ?_⟩), hS, VQ, e39⟩
          try unfold mUn
          try unfold mCl
          try unfold mSm
          first | rw [e9] | skip
          first | rw [e10] | skip
          first | rw [hS 4 rfl] | skip
          first | rw [hS 5 rfl] | skip
          first | rw [hS 6 rfl] | skip
          first | rw [hS 1 rfl] | skip
          first | rw [hS 3 rfl] | skip
          first | rw [hS 2 rfl] | skip
          first | rw [show mFo s2 t = mFo s t from by unfold mFo; rw [hS 3 rfl, hS 7 rfl]] | skip
          (repeat' split) <;> first | rfl | omega
        · refine gk_tableIn C (tgt := 105) (by omega) dX5_ofTune_46 (by omega) (by omega) (by rw [c_46]; rfl) (by decide) ?_
          refine gk_aload_n C dX5_ofTune_105 rfl ?_
          refine gk_callV C o_X5_clashes k_X5_148 dX5_ofTune_106 (m_clashes hfl I VQ) (mo_obj I) rfl rfl rfl (by decide) (by decide) (by exact Nat.le_of_ble_eq_true rfl) (fun _ _ z => z.elim) (fun v_106 h_106 p_106 => ?_)
          obtain ⟨rfl, rfl⟩ := p_106
          dsimp only [gk_push]
          refine (R _ _ _ _ _ (by decide) (by decide)).1 _ rfl dX5_ofTune_109 ?_
          refine ⟨_, 0, s2, rfl, rfl, Or.inr (Or.inr ⟨by omega, by omega, rfl, ?_⟩), hS, VQ, e39⟩
          try unfold mUn
          try unfold mCl
          try unfold mSm
          first | rw [e9] | skip
          first | rw [e10] | skip
          first | rw [hS 4 rfl] | skip
          first | rw [hS 5 rfl] | skip
          first | rw [hS 6 rfl] | skip
          first | rw [hS 1 rfl] | skip
          first | rw [hS 3 rfl] | skip
          first | rw [hS 2 rfl] | skip
          first | rw [show mFo s2 t = mFo s t from by unfold mFo; rw [hS 3 rfl, hS 7 rfl]] | skip
          (repeat' split) <;> first | rfl | omega
        · refine gk_tableIn C (tgt := 110) (by omega) dX5_ofTune_46 (by omega) (by omega) (by rw [c_46]; rfl) (by decide) ?_
          refine gk_aload_n C dX5_ofTune_110 rfl ?_
          refine gk_callV C o_X5_small k_X5_152 dX5_ofTune_111 (m_small hfl I VQ) (mo_obj I) rfl rfl rfl (by decide) (by decide) (by exact Nat.le_of_ble_eq_true rfl) (fun _ _ z => z.elim) (fun v_111 h_111 p_111 => ?_)
          obtain ⟨rfl, rfl⟩ := p_111
          dsimp only [gk_push]
          refine (R _ _ _ _ _ (by decide) (by decide)).1 _ rfl dX5_ofTune_114 ?_
          refine ⟨_, 0, s2, rfl, rfl, Or.inr (Or.inr ⟨by omega, by omega, rfl, ?_⟩), hS, VQ, e39⟩
          try unfold mUn
          try unfold mCl
          try unfold mSm
          first | rw [e9] | skip
          first | rw [e10] | skip
          first | rw [hS 4 rfl] | skip
          first | rw [hS 5 rfl] | skip
          first | rw [hS 6 rfl] | skip
          first | rw [hS 1 rfl] | skip
          first | rw [hS 3 rfl] | skip
          first | rw [hS 2 rfl] | skip
          first | rw [show mFo s2 t = mFo s t from by unfold mFo; rw [hS 3 rfl, hS 7 rfl]] | skip
          (repeat' split) <;> first | rfl | omega
        · refine gk_tableIn C (tgt := 115) (by omega) dX5_ofTune_46 (by omega) (by omega) (by rw [c_46]; rfl) (by decide) ?_
          refine gk_aload_n C dX5_ofTune_115 rfl ?_
          refine mo_getf C I f_X5_16.r dX5_ofTune_116 (by rfl) ?_
          try simp only [moS3_ap, moS_ap, Nat.reduceEqDiff, if_true, if_false, reduceIte]
          refine gk_iload_n C dX5_ofTune_119 rfl ?_
          refine mo_iald C I (by rfl) dX5_ofTune_120 (by omega) (by omega) ?_
          try simp only [moS3_ap, moS_ap, Nat.reduceEqDiff, if_true, if_false, reduceIte]
          refine (R _ _ _ _ _ (by decide) (by decide)).1 _ rfl dX5_ofTune_121 ?_
          refine ⟨_, 0, s2, rfl, rfl, Or.inr (Or.inr ⟨by omega, by omega, rfl, ?_⟩), hS, VQ, e39⟩
          try unfold mUn
          try unfold mCl
          try unfold mSm
          first | rw [e9] | skip
          first | rw [e10] | skip
          first | rw [hS 4 rfl] | skip
          first | rw [hS 5 rfl] | skip
          first | rw [hS 6 rfl] | skip
          first | rw [hS 1 rfl] | skip
          first | rw [hS 3 rfl] | skip
          first | rw [hS 2 rfl] | skip
          first | rw [show mFo s2 t = mFo s t from by unfold mFo; rw [hS 3 rfl, hS 7 rfl]] | skip
          (repeat' split) <;> first | rfl | omega
      · exact absurd c_35 (by omega)
    · refine gk_iconst C dX5_ofTune_23 ?_
      refine gk_goto C (tgt := 28) dX5_ofTune_24 (by decide) ?_
      refine mo_putf C I f_X5_107 (by decide) dX5_ofTune_28 ?_
      refine gk_aload_n C dX5_ofTune_31 rfl ?_
      refine mo_getf C I f_X5_107.r dX5_ofTune_32 (by rfl) ?_
      try simp only [moS3_ap, moS_ap, Nat.reduceEqDiff, if_true, if_false, reduceIte]
      refine gk_if_le C (tgt := 40) (by omega) dX5_ofTune_35 (by decide) (fun c_35 => ?_) (fun c_35 => ?_)
      · exact absurd c_35 (by omega)
      · refine gk_iconst C dX5_ofTune_38 ?_
        refine (R _ _ _ _ _ (by decide) (by decide)).1 _ rfl dX5_ofTune_39 ?_
        first | exact ⟨_, _, _, rfl, rfl, Or.inl ⟨by omega, rfl, rfl⟩, (mSame.of.set (j := 39) rfl), (VM_th V 1 (by omega)), rfl⟩ | exact ⟨_, _, _, rfl, rfl, Or.inr (Or.inl ⟨by omega, by omega, rfl, rfl⟩), (mSame.of.set (j := 39) rfl), (VM_th V 2 (by omega)), rfl⟩
  · refine gk_iconst C dX5_ofTune_9 ?_
    refine gk_goto C (tgt := 28) dX5_ofTune_10 (by decide) ?_
    refine mo_putf C I f_X5_107 (by decide) dX5_ofTune_28 ?_
    refine gk_aload_n C dX5_ofTune_31 rfl ?_
    refine mo_getf C I f_X5_107.r dX5_ofTune_32 (by rfl) ?_
    try simp only [moS3_ap, moS_ap, Nat.reduceEqDiff, if_true, if_false, reduceIte]
    refine gk_if_le C (tgt := 40) (by omega) dX5_ofTune_35 (by decide) (fun c_35 => ?_) (fun c_35 => ?_)
    · exact absurd c_35 (by omega)
    · refine gk_iconst C dX5_ofTune_38 ?_
      refine (R _ _ _ _ _ (by decide) (by decide)).1 _ rfl dX5_ofTune_39 ?_
      first | exact ⟨_, _, _, rfl, rfl, Or.inl ⟨by omega, rfl, rfl⟩, (mSame.of.set (j := 39) rfl), (VM_th V 1 (by omega)), rfl⟩ | exact ⟨_, _, _, rfl, rfl, Or.inr (Or.inl ⟨by omega, by omega, rfl, rfl⟩), (mSame.of.set (j := 39) rfl), (VM_th V 2 (by omega)), rfl⟩
