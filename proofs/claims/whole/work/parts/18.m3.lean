/-! the reference: what is asked of tunes -/
/-- the rows that only serve a question, and the last call's mark -/
def mSc (k : Nat) : Bool := [9, 10, 11, 12, 13, 25, 26, 27, 28, 39].contains k
def mSame (s s2 : MS) : Prop := ∀ k, mSc k = false → s2 k = s k
theorem mSame.of {s : MS} : mSame s s := fun _ _ => Eq.refl _
theorem mSame.trans {s s2 s3 : MS} (h : mSame s s2) (h2 : mSame s2 s3) : mSame s s3 := fun k c => (h2 k c).trans (h k c)
theorem mSame.set {s s2 : MS} (h : mSame s s2) {j : Nat} {f : Int → Int} (hj : mSc j = true) : mSame s (moS s2 j f) := fun k c => (moS_ne (fun z => by rw [z, hj] at c; cases c)).trans (h k c)
theorem mSame.set3 {s s2 : MS} (h : mSame s s2) {q : Int × (Int → Int) × (Int → Int)} : mSame s (moS3 s2 q) := ((h.set rfl).set rfl).set rfl
def mRow (s : MS) (t : Int) : Int → Int := (mPl s t (s 3 t).toNat).2.1
def mMany (s : MS) (t : Int) : Int := (mPl s t (s 3 t).toNat).1
def mPart (s : MS) (t : Int) : Int → Int := (mPl s t (s 3 t).toNat).2.2
theorem mapp_bd {f : Int → Int} {c b n lo hi : Int} (hf : ∀ i, lo ≤ f i ∧ f i ≤ hi) (h1 : lo ≤ b) (h2 : b + n ≤ hi + 1) (i : Int) : lo ≤ mapp f c b n i ∧ mapp f c b n i ≤ hi := by
  unfold mapp
  split
  · omega
  · exact hf i
theorem mcon_bd {f : Int → Int} {c k n lo hi : Int} (hf : ∀ i, lo ≤ f i ∧ f i ≤ hi) (h1 : lo ≤ k ∧ k ≤ hi) (i : Int) : lo ≤ mcon f c k n i ∧ mcon f c k n i ≤ hi := by
  unfold mcon
  split
  · exact h1
  · exact hf i
theorem prep_bd {q : Int × (Int → Int) × (Int → Int)} {b k n lo hi lo2 hi2 : Int} (h1 : ∀ i, lo ≤ q.2.1 i ∧ q.2.1 i ≤ hi) (h2 : ∀ i, lo2 ≤ q.2.2 i ∧ q.2.2 i ≤ hi2) (hb : lo ≤ b) (hb2 : b + n ≤ hi + 1) (hk : lo2 ≤ k ∧ k ≤ hi2) : ∀ m : Nat, (∀ i, lo ≤ (prep q b k n m).2.1 i ∧ (prep q b k n m).2.1 i ≤ hi) ∧ (∀ i, lo2 ≤ (prep q b k n m).2.2 i ∧ (prep q b k n m).2.2 i ≤ hi2)
  | 0 => ⟨h1, h2⟩
  | m + 1 => by
    have ih := prep_bd h1 h2 hb hb2 hk m
    exact ⟨mapp_bd ih.1 hb hb2, mcon_bd ih.2 hk⟩
theorem mPl_rows {s : MS} {t : Int} (V : VM s) (ht : 0 ≤ t ∧ t < 10) : ∀ k : Nat, k ≤ s 3 t → (∀ i, 0 ≤ (mPl s t k).2.1 i ∧ (mPl s t k).2.1 i ≤ 639) ∧ (∀ i, 0 ≤ (mPl s t k).2.2 i ∧ (mPl s t k).2.2 i ≤ 8)
  | 0, _ => ⟨fun i => V.at 10 i rfl, fun i => V.at 11 i rfl⟩
  | k + 1, h => by
    have ih := mPl_rows V ht k (by omega)
    have h3 := V.at 3 t rfl
    have h7 := V.at 7 (8 * t + k) rfl
    have hf : 0 ≤ mFk s t k := by
      have h8 := V.at 7 (8 * t + k - 1) rfl
      unfold mFk
      split <;> omega
    exact prep_bd ih.1 ih.2 (by omega) (by omega) (by omega) (mTw s t k)
theorem VM_play {s : MS} {t : Int} (V : VM s) (VP : VPt s t) (ht : 0 ≤ t ∧ t < 10) : VM (mPlay s t) := by
  have h3 := V.at 3 t rfl
  have h1 := mPl_rows V ht (s 3 t).toNat (by omega)
  have h2 := mPl_bd V VP (s 3 t).toNat (by omega)
  have hf : mFk s t (s 3 t).toNat ≤ 64 := by
    have h8 := V.at 7 (8 * t + (s 3 t).toNat - 1) rfl
    unfold mFk
    split <;> omega
  exact ((V.set (j := 9) rfl (fun _ => by omega)).set (j := 10) rfl h1.1).set (j := 11) rfl h1.2
theorem mMany_bd {s : MS} {t : Int} (V : VM s) (VP : VPt s t) : 0 ≤ mMany s t ∧ mMany s t ≤ 128 := by
  have h3 := V.at 3 t rfl
  have h2 := mPl_bd V VP (s 3 t).toNat (by omega)
  have hf : mFk s t (s 3 t).toNat ≤ 64 := by
    have h8 := V.at 7 (8 * t + (s 3 t).toNat - 1) rfl
    unfold mFk
    split <;> omega
  unfold mMany
  omega
def mUn (s : MS) (z : Nat) : Int := usum (fun k => s 5 (s 10 k)) z
def mCl (s : MS) : Int := usum (clash1 (fun k => s 6 (s 10 k)) (fun k => s 4 (s 10 k))) (s 9 0).toNat
def mSm (s : MS) : Int := usum (fun k => smallOf (s 6 (s 10 k))) (s 9 0).toNat
/-- the answer, and the mark, of played -/
def MPlayed (s : MS) (t p w r c : Int) : Prop :=
  (¬ (0 ≤ t ∧ t < s 0 0) ∧ c = 1 ∧ r = 0) ∨ ((0 ≤ t ∧ t < s 0 0) ∧ ¬ (0 ≤ p ∧ p < mMany s t) ∧ c = 1 ∧ r = 0) ∨
  ((0 ≤ t ∧ t < s 0 0) ∧ (0 ≤ p ∧ p < mMany s t) ∧ ¬ (0 ≤ w ∧ w ≤ 4) ∧ c = 2 ∧ r = 0) ∨
  ((0 ≤ t ∧ t < s 0 0) ∧ (0 ≤ p ∧ p < mMany s t) ∧ (0 ≤ w ∧ w ≤ 4) ∧ c = 0 ∧ r = if w = 0 then s 4 (mRow s t p) else if w = 1 then s 5 (mRow s t p) else if w = 2 then s 6 (mRow s t p) else if w = 3 then usum (fun k => s 5 (mRow s t k)) p.toNat else mPart s t p)
def MOfTune (s : MS) (t w r c : Int) : Prop :=
  (¬ (0 ≤ t ∧ t < s 0 0) ∧ c = 1 ∧ r = 0) ∨ ((0 ≤ t ∧ t < s 0 0) ∧ ¬ (0 ≤ w ∧ w ≤ 6) ∧ c = 2 ∧ r = 0) ∨
  ((0 ≤ t ∧ t < s 0 0) ∧ (0 ≤ w ∧ w ≤ 6) ∧ c = 0 ∧ r = if w = 0 then s 1 t else if w = 1 then mMany s t else if w = 2 then usum (fun k => s 5 (mRow s t k)) (mMany s t).toNat else
    if w = 3 then usum (clash1 (fun k => s 6 (mRow s t k)) (fun k => s 4 (mRow s t k))) (mMany s t).toNat else if w = 4 then usum (fun k => smallOf (s 6 (mRow s t k))) (mMany s t).toNat else if w = 5 then s 3 t else s 2 t - mFo s t)

set_option maxRecDepth 100000 in
set_option maxHeartbeats 4000000 in
theorem m_unitsTo {l : Launch} {Γ : GA} (hfl : l.stackTraces = false) {ad : Nat → Nat} (I : IM ad) {s : MS} (V : VM s) {z : Nat} (hz : z ≤ 128) : Ct l Γ m_X5_unitsTo [.ref (ad 40), iv (z : Int)] (HM ad s) (fun v h' => v = some (iv (mUn s z)) ∧ h' = HM ad s) (fun _ _ => False) := by
  refine Ct.intro hfl (by decide +kernel) rfl (Nat.le_of_ble_eq_true rfl) ?_
  intro G C R T
  show G 0 [some (.ref (ad 40)), some (iv (z : Int)), none, none] [] (HM ad s) 0 0
  refine gk_iconst C dX5_unitsTo_0 ?_
  refine gk_istore_n_2 C rfl (by decide) dX5_unitsTo_1 ?_
  refine gk_iconst C dX5_unitsTo_2 ?_
  refine gk_istore_n_3 C rfl (by decide) dX5_unitsTo_3 ?_
  have key : ∀ (n i : Nat), z - i < n → i ≤ z → G 4 [some (.ref (ad 40)), some (iv (z : Int)), some (iv (usum (fun k => s 5 (s 10 k)) i)), some (iv (i : Int))] [] (HM ad s) 0 0 := by
    intro n
    induction n with
    | zero => intro i h1; omega
    | succ n ih =>
      intro i hn hi
      refine gk_iload_n C dX5_unitsTo_4 rfl ?_
      refine gk_iload_n C dX5_unitsTo_5 rfl ?_
      refine gk_icmp_ge C (tgt := 29) (by omega) (by omega) dX5_unitsTo_6 (by decide) (fun c_6 => ?_) (fun c_6 => ?_)
      · refine gk_iload_n C dX5_unitsTo_29 rfl ?_
        refine (R _ _ _ _ _ (by decide) (by decide)).1 _ rfl dX5_unitsTo_30 ?_
        have e : i = z := by omega
        rw [e]
        exact ⟨rfl, rfl⟩
      · refine gk_iload_n C dX5_unitsTo_9 rfl ?_
        refine gk_aload_n C dX5_unitsTo_10 rfl ?_
        refine mo_getf C I f_X5_22.r dX5_unitsTo_11 (by rfl) ?_
        refine gk_aload_n C dX5_unitsTo_14 rfl ?_
        refine mo_getf C I f_X5_35.r dX5_unitsTo_15 (by rfl) ?_
        refine gk_iload_n C dX5_unitsTo_18 rfl ?_
        have b10 := V.at 10 (i : Int) rfl
        refine mo_iald C I (by rfl) dX5_unitsTo_19 (by omega) (by omega) ?_
        refine mo_iald C I (by rfl) dX5_unitsTo_20 (by omega) (by omega) ?_
        refine gk_iadd C dX5_unitsTo_21 ?_
        refine gk_istore_n_2 C rfl (by decide) dX5_unitsTo_22 ?_
        refine gk_iinc_3 C rfl (by decide) dX5_unitsTo_23 ?_
        refine gk_goto C (tgt := 4) dX5_unitsTo_26 (by decide) ?_
        exact ih (i + 1) (by omega) (by omega)
  exact key (z + 1) 0 (by omega) (by omega)

set_option maxRecDepth 100000 in
set_option maxHeartbeats 4000000 in
theorem m_clashes {l : Launch} {Γ : GA} (hfl : l.stackTraces = false) {ad : Nat → Nat} (I : IM ad) {s : MS} (V : VM s) : Ct l Γ m_X5_clashes [.ref (ad 40)] (HM ad s) (fun v h' => v = some (iv (mCl s)) ∧ h' = HM ad s) (fun _ _ => False) := by
  have b9 := V.at 9 0 rfl
  refine Ct.intro hfl (by decide +kernel) rfl (Nat.le_of_ble_eq_true rfl) ?_
  intro G C R T
  show G 0 [some (.ref (ad 40)), none, none] [] (HM ad s) 0 0
  refine gk_iconst C dX5_clashes_0 ?_
  refine gk_istore_n_1 C rfl (by decide) dX5_clashes_1 ?_
  refine gk_iconst C dX5_clashes_2 ?_
  refine gk_istore_n_2 C rfl (by decide) dX5_clashes_3 ?_
  have key : ∀ (n i : Nat), (200 : Int) - i < n → 1 ≤ i → (i ≤ s 9 0 ∨ i = 1) → G 4 [some (.ref (ad 40)), some (iv (usum (clash1 (fun k => s 6 (s 10 k)) (fun k => s 4 (s 10 k))) i)), some (iv (i : Int))] [] (HM ad s) 0 0 := by
    intro n
    induction n with
    | zero => intro i h1; omega
    | succ n ih =>
      intro i hn hi hi2
      have b10 := V.at 10 (i : Int) rfl
      have b11 := V.at 10 ((i : Int) - 1) rfl
      have b6 := V.at 6 (s 10 i) rfl
      have b4 := V.at 4 (s 10 i) rfl
      have b5 := V.at 4 (s 10 ((i : Int) - 1)) rfl
      refine gk_iload_n C dX5_clashes_4 rfl ?_
      refine gk_aload_n C dX5_clashes_5 rfl ?_
      refine mo_getf C I f_X5_138.r dX5_clashes_6 (by rfl) ?_
      refine gk_icmp_ge C (tgt := 67) (by omega) (by omega) dX5_clashes_9 (by decide) (fun c_9 => ?_) (fun c_9 => ?_)
      · refine gk_iload_n C dX5_clashes_67 rfl ?_
        refine (R _ _ _ _ _ (by decide) (by decide)).1 _ rfl dX5_clashes_68 ?_
        refine ⟨congrArg (fun q => some (iv q)) ?_, rfl⟩
        unfold mCl
        by_cases q : s 9 0 = 0
        · have e : i = 1 := by omega
          rw [q, e]
          rfl
        · have e : i = (s 9 0).toNat := by omega
          rw [e]
      · refine gk_iload_n C dX5_clashes_12 rfl ?_
        refine gk_aload_n C dX5_clashes_13 rfl ?_
        refine mo_getf C I f_X5_25.r dX5_clashes_14 (by rfl) ?_
        refine gk_aload_n C dX5_clashes_17 rfl ?_
        refine mo_getf C I f_X5_35.r dX5_clashes_18 (by rfl) ?_
        refine gk_iload_n C dX5_clashes_21 rfl ?_
        refine mo_iald C I (by rfl) dX5_clashes_22 (by omega) (by omega) ?_
        refine mo_iald C I (by rfl) dX5_clashes_23 (by omega) (by omega) ?_
        refine gk_if_ne C (tgt := 58) (by omega) dX5_clashes_24 (by decide) (fun c_24 => ?_) (fun c_24 => ?_)
        · have e1 : usum (clash1 (fun k => s 6 (s 10 k)) (fun k => s 4 (s 10 k))) (i + 1) = usum (clash1 (fun k => s 6 (s 10 k)) (fun k => s 4 (s 10 k))) i + 0 := by
            show _ + clash1 _ _ (i : Int) = _
            congr 1
            unfold clash1
            exact if_neg (fun z => c_24 z.2.1)
          refine gk_iconst C dX5_clashes_58 ?_
          refine gk_iadd C dX5_clashes_59 ?_
          refine gk_istore_n_1 C rfl (by decide) dX5_clashes_60 ?_
          refine gk_iinc_2 C rfl (by decide) dX5_clashes_61 ?_
          refine gk_goto C (tgt := 4) dX5_clashes_64 (by decide) ?_
          have h9 := ih (i + 1) (by omega) (by omega) (by omega)
          rw [e1] at h9
          exact h9
        · refine gk_aload_n C dX5_clashes_27 rfl ?_
          refine mo_getf C I f_X5_19.r dX5_clashes_28 (by rfl) ?_
          refine gk_aload_n C dX5_clashes_31 rfl ?_
          refine mo_getf C I f_X5_35.r dX5_clashes_32 (by rfl) ?_
          refine gk_iload_n C dX5_clashes_35 rfl ?_
          refine mo_iald C I (by rfl) dX5_clashes_36 (by omega) (by omega) ?_
          refine mo_iald C I (by rfl) dX5_clashes_37 (by omega) (by omega) ?_
          refine gk_aload_n C dX5_clashes_38 rfl ?_
          refine mo_getf C I f_X5_19.r dX5_clashes_39 (by rfl) ?_
          refine gk_aload_n C dX5_clashes_42 rfl ?_
          refine mo_getf C I f_X5_35.r dX5_clashes_43 (by rfl) ?_
          refine gk_iload_n C dX5_clashes_46 rfl ?_
          refine gk_iconst C dX5_clashes_47 ?_
          refine gk_isub C dX5_clashes_48 ?_
          refine mo_iald C I (by rfl) dX5_clashes_49 (by omega) (by omega) ?_
          refine mo_iald C I (by rfl) dX5_clashes_50 (by omega) (by omega) ?_
          refine gk_icmp_ne C (tgt := 58) (by omega) (by omega) dX5_clashes_51 (by decide) (fun c_51 => ?_) (fun c_51 => ?_)
          · have e1 : usum (clash1 (fun k => s 6 (s 10 k)) (fun k => s 4 (s 10 k))) (i + 1) = usum (clash1 (fun k => s 6 (s 10 k)) (fun k => s 4 (s 10 k))) i + 0 := by
              show _ + clash1 _ _ (i : Int) = _
              congr 1
              unfold clash1
              exact if_neg (fun z => c_51 z.2.2)
            refine gk_iconst C dX5_clashes_58 ?_
            refine gk_iadd C dX5_clashes_59 ?_
            refine gk_istore_n_1 C rfl (by decide) dX5_clashes_60 ?_
            refine gk_iinc_2 C rfl (by decide) dX5_clashes_61 ?_
            refine gk_goto C (tgt := 4) dX5_clashes_64 (by decide) ?_
            have h9 := ih (i + 1) (by omega) (by omega) (by omega)
            rw [e1] at h9
            exact h9
          · have e1 : usum (clash1 (fun k => s 6 (s 10 k)) (fun k => s 4 (s 10 k))) (i + 1) = usum (clash1 (fun k => s 6 (s 10 k)) (fun k => s 4 (s 10 k))) i + 1 := by
              show _ + clash1 _ _ (i : Int) = _
              congr 1
              unfold clash1
              exact if_pos ⟨by omega, c_24, c_51⟩
            refine gk_iconst C dX5_clashes_54 ?_
            refine gk_goto C (tgt := 59) dX5_clashes_55 (by decide) ?_
            refine gk_iadd C dX5_clashes_59 ?_
            refine gk_istore_n_1 C rfl (by decide) dX5_clashes_60 ?_
            refine gk_iinc_2 C rfl (by decide) dX5_clashes_61 ?_
            refine gk_goto C (tgt := 4) dX5_clashes_64 (by decide) ?_
            have h9 := ih (i + 1) (by omega) (by omega) (by omega)
            rw [e1] at h9
            exact h9
  exact key 300 1 (by omega) (by omega) (by omega)

set_option maxRecDepth 100000 in
set_option maxHeartbeats 4000000 in
theorem m_small {l : Launch} {Γ : GA} (hfl : l.stackTraces = false) {ad : Nat → Nat} (I : IM ad) {s : MS} (V : VM s) : Ct l Γ m_X5_small [.ref (ad 40)] (HM ad s) (fun v h' => v = some (iv (mSm s)) ∧ h' = HM ad s) (fun _ _ => False) := by
  have b9 := V.at 9 0 rfl
  refine Ct.intro hfl (by decide +kernel) rfl (Nat.le_of_ble_eq_true rfl) ?_
  intro G C R T
  show G 0 [some (.ref (ad 40)), none, none, none] [] (HM ad s) 0 0
  refine gk_iconst C dX5_small_0 ?_
  refine gk_istore_n_1 C rfl (by decide) dX5_small_1 ?_
  refine gk_iconst C dX5_small_2 ?_
  refine gk_istore_n_2 C rfl (by decide) dX5_small_3 ?_
  have key : ∀ (n i : Nat), (s 9 0) - i < n → i ≤ s 9 0 → ∀ x3, G 4 [some (.ref (ad 40)), some (iv (usum (fun k => smallOf (s 6 (s 10 k))) i)), some (iv (i : Int)), x3] [] (HM ad s) 0 0 := by
    intro n
    induction n with
    | zero => intro i h1; omega
    | succ n ih =>
      intro i hn hi x3
      have b10 := V.at 10 (i : Int) rfl
      have b6 := V.at 6 (s 10 i) rfl
      have e7 : ∀ y : Int, i < s 9 0 → smallOf (s 6 (s 10 i)) = y → G 4 [some (.ref (ad 40)), some (iv (usum (fun k => smallOf (s 6 (s 10 k))) i + y)), some (iv ((i : Int) + 1)), some (iv (s 6 (s 10 i)))] [] (HM ad s) 0 0 := by
        intro y hl hy
        subst hy
        exact ih (i + 1) (by omega) (by omega) _
      refine gk_iload_n C dX5_small_4 rfl ?_
      refine gk_aload_n C dX5_small_5 rfl ?_
      refine mo_getf C I f_X5_138.r dX5_small_6 (by rfl) ?_
      refine gk_icmp_ge C (tgt := 61) (by omega) (by omega) dX5_small_9 (by decide) (fun c_9 => ?_) (fun c_9 => ?_)
      · refine gk_iload_n C dX5_small_61 rfl ?_
        refine (R _ _ _ _ _ (by decide) (by decide)).1 _ rfl dX5_small_62 ?_
        unfold mSm
        have e : i = (s 9 0).toNat := by omega
        rw [e]
        exact ⟨rfl, rfl⟩
      · refine gk_aload_n C dX5_small_12 rfl ?_
        refine mo_getf C I f_X5_25.r dX5_small_13 (by rfl) ?_
        refine gk_aload_n C dX5_small_16 rfl ?_
        refine mo_getf C I f_X5_35.r dX5_small_17 (by rfl) ?_
        refine gk_iload_n C dX5_small_20 rfl ?_
        refine mo_iald C I (by rfl) dX5_small_21 (by omega) (by omega) ?_
        refine mo_iald C I (by rfl) dX5_small_22 (by omega) (by omega) ?_
        refine gk_istore_n_3 C rfl (by decide) dX5_small_23 ?_
        refine gk_iload_n C dX5_small_24 rfl ?_
        refine gk_iload_n C dX5_small_25 rfl ?_
        refine gk_if_ne C (tgt := 33) (by omega) dX5_small_26 (by decide) (fun c_26 => ?_) (fun c_26 => ?_)
        · refine gk_iload_n C dX5_small_33 rfl ?_
          refine gk_iconst C dX5_small_34 ?_
          refine gk_icmp_gt C (tgt := 42) (by omega) (by omega) dX5_small_35 (by decide) (fun c_35 => ?_) (fun c_35 => ?_)
          · refine gk_iload_n C dX5_small_42 rfl ?_
            refine gk_bipush C dX5_small_43 (by decide) ?_
            refine gk_icmp_ne C (tgt := 52) (by omega) (by omega) dX5_small_45 (by decide) (fun c_45 => ?_) (fun c_45 => ?_)
            · refine gk_iconst C dX5_small_52 ?_
              refine gk_iadd C dX5_small_53 ?_
              refine gk_istore_n_1 C rfl (by decide) dX5_small_54 ?_
              refine gk_iinc_2 C rfl (by decide) dX5_small_55 ?_
              refine gk_goto C (tgt := 4) dX5_small_58 (by decide) ?_
              exact e7 _ (by omega) (by unfold smallOf; (repeat' split) <;> omega)
            · refine gk_iconst C dX5_small_48 ?_
              refine gk_goto C (tgt := 53) dX5_small_49 (by decide) ?_
              refine gk_iadd C dX5_small_53 ?_
              refine gk_istore_n_1 C rfl (by decide) dX5_small_54 ?_
              refine gk_iinc_2 C rfl (by decide) dX5_small_55 ?_
              refine gk_goto C (tgt := 4) dX5_small_58 (by decide) ?_
              exact e7 _ (by omega) (by unfold smallOf; (repeat' split) <;> omega)
          · refine gk_iconst C dX5_small_38 ?_
            refine gk_goto C (tgt := 53) dX5_small_39 (by decide) ?_
            refine gk_iadd C dX5_small_53 ?_
            refine gk_istore_n_1 C rfl (by decide) dX5_small_54 ?_
            refine gk_iinc_2 C rfl (by decide) dX5_small_55 ?_
            refine gk_goto C (tgt := 4) dX5_small_58 (by decide) ?_
            exact e7 _ (by omega) (by unfold smallOf; (repeat' split) <;> omega)
        · refine gk_iconst C dX5_small_29 ?_
          refine gk_goto C (tgt := 53) dX5_small_30 (by decide) ?_
          refine gk_iadd C dX5_small_53 ?_
          refine gk_istore_n_1 C rfl (by decide) dX5_small_54 ?_
          refine gk_iinc_2 C rfl (by decide) dX5_small_55 ?_
          refine gk_goto C (tgt := 4) dX5_small_58 (by decide) ?_
          exact e7 _ (by omega) (by unfold smallOf; (repeat' split) <;> omega)
  exact key 200 0 (by omega) (by omega) none

