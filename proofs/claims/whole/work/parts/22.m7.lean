/-! the reference: pipers, more -/
theorem mGoM_s {s : MS} {rain heat : Int} {m : Nat} : mGoM s rain heat (m + 1) = mGoK (mGoM s rain heat m) rain heat (s 17 0).toNat := rfl
def MAhead (s s1 : MS) (m rain heat r c : Int) : Prop :=
  (¬ isMin m rain heat ∧ r = 0 ∧ c = 1) ∨ (isMin m rain heat ∧ c = 0 ∧ r = mSpr (mGoM s1 rain heat m.toNat) (-1))
def mPlg (s : MS) (n : Nat) : Int := usum (fun k => if s 24 k = 0 then 1 else 0) n
def mMid (s : MS) : Nat → Nat × (Int → Int)
  | 0 => (0, s 28)
  | k + 1 => if s 24 k = 0 then ((mMid s k).1 + 1, pins (mPit s k) (mMid s k).1 (mMid s k).2) else mMid s k
theorem pins_bd {p lo hi : Int} (hp : lo ≤ p ∧ p ≤ hi) : ∀ (c : Nat) (f : Int → Int), (∀ i, lo ≤ f i ∧ f i ≤ hi) → ∀ i, lo ≤ pins p c f i ∧ pins p c f i ≤ hi
  | 0, f, h, i => by
    show lo ≤ gupd f 0 p i ∧ gupd f 0 p i ≤ hi
    by_cases e : i = 0
    · rw [e, gupd_eq]; exact hp
    · rw [gupd_ne e]; exact h i
  | c + 1, f, h, i => by
    unfold pins
    split
    · refine pins_bd hp c _ (fun j => ?_) i
      by_cases e : j = (c : Int) + 1
      · rw [e, gupd_eq]; exact h _
      · rw [gupd_ne e]; exact h j
    · by_cases e : i = (c : Int) + 1
      · rw [e, gupd_eq]; exact hp
      · rw [gupd_ne e]; exact h i
theorem mMid_bd {s : MS} (V : VM s) : ∀ k : Nat, (mMid s k).1 ≤ k ∧ ((mMid s k).1 : Int) = mPlg s k ∧ ∀ i, -1000000 ≤ (mMid s k).2 i ∧ (mMid s k).2 i ≤ 1000000
  | 0 => ⟨Nat.le_refl _, rfl, fun i => V.at 28 i rfl⟩
  | k + 1 => by
    have ih := mMid_bd V k
    have hp := mPit_bd V k
    have eg : mPlg s (k + 1) = mPlg s k + (if s 24 k = 0 then 1 else 0) := rfl
    rw [eg]
    unfold mMid
    split
    · exact ⟨Nat.succ_le_succ ih.1, by rw [← ih.2.1]; rfl, pins_bd (by omega) _ _ ih.2.2⟩
    · exact ⟨Nat.le_succ_of_le ih.1, by rw [← ih.2.1]; omega, ih.2.2⟩
def MOfPiper (s : MS) (p w r c : Int) : Prop :=
  (¬ (0 ≤ p ∧ p < s 17 0) ∧ c = 1 ∧ r = 0) ∨ ((0 ≤ p ∧ p < s 17 0) ∧ ¬ (0 ≤ w ∧ w ≤ 5) ∧ c = 2 ∧ r = 0) ∨
  ((0 ≤ p ∧ p < s 17 0) ∧ (0 ≤ w ∧ w ≤ 5) ∧ c = 0 ∧ r = if w = 0 then mPit s p else if w = 1 then s 18 p else if w = 2 then s 21 p else if w = 3 then s 22 p else if w = 4 then s 23 p else
    if mPlg s (s 17 0).toNat = 0 then 0 else (mMid s (s 17 0).toNat).2 (((mMid s (s 17 0).toNat).1 - 1 : Int) / 2) - mPit s p)
def mOdd (s : MS) : Nat → Int × Int
  | 0 => (-1, 0)
  | k + 1 => if s 24 k = 0 ∧ ((mOdd s k).1 = -1 ∨ mSpr s k < (mOdd s k).2) then ((k : Int), mSpr s k) else mOdd s k
theorem mSpr_bd {s : MS} (V : VM s) (w : Int) : 0 ≤ mSpr s w ∧ mSpr s w ≤ 2000000 := by
  have h1 := mLo_bd V w (s 17 0).toNat
  have h2 := mHi_bd V w (s 17 0).toNat
  unfold mSpr
  split <;> omega
theorem mOdd_bd {s : MS} (V : VM s) : ∀ k : Nat, (-1 ≤ (mOdd s k).1 ∧ (mOdd s k).1 ≤ k) ∧ (0 ≤ (mOdd s k).2 ∧ (mOdd s k).2 ≤ 2000000)
  | 0 => ⟨⟨Int.le_refl _, by show (-1 : Int) ≤ 0; omega⟩, Int.le_refl _, by show (0 : Int) ≤ 2000000; omega⟩
  | k + 1 => by
    have ih := mOdd_bd V k
    have hs := mSpr_bd V k
    unfold mOdd
    split
    · exact ⟨⟨by show (-1 : Int) ≤ k; omega, by show (k : Int) ≤ _; omega⟩, hs⟩
    · exact ⟨⟨ih.1.1, by omega⟩, ih.2⟩

set_option maxRecDepth 100000 in
set_option maxHeartbeats 4000000 in
theorem m_goes {l : Launch} {Γ : GA} (hfl : l.stackTraces = false) {ad : Nat → Nat} (I : IM ad) {s : MS} (V : VM s) {m : Nat} {rain heat : Int} (hm : m ≤ 120) (hr : 0 ≤ rain ∧ rain ≤ 9) (hh : 0 ≤ heat ∧ heat ≤ 40) : Ct l Γ m_X5_goes [.ref (ad 40), iv (m : Int), iv rain, iv heat] (HM ad s) (fun v h' => v = some (iv (mSpr (mGoM s rain heat m) (-1))) ∧ h' = HM ad (mGoM s rain heat m)) (fun _ _ => False) := by
  have b0 := V.at 17 0 rfl
  refine Ct.intro hfl (by decide +kernel) rfl (Nat.le_of_ble_eq_true rfl) ?_
  intro G C R T
  show G 0 [some (.ref (ad 40)), some (iv (m : Int)), some (iv rain), some (iv heat), none, none] [] (HM ad s) 0 0
  refine gk_iconst C dX5_goes_0 ?_
  refine gk_istore_4 C rfl (by decide) dX5_goes_1 ?_
  have key : ∀ (n i : Nat) x5, m - i < n → i ≤ m → G 3 [some (.ref (ad 40)), some (iv (m : Int)), some (iv rain), some (iv heat), some (iv (i : Int)), x5] [] (HM ad (mGoM s rain heat i)) 0 0 := by
    intro n
    induction n with
    | zero => intro i x5 h1; omega
    | succ n ih =>
      intro i x5 hn hi
      have Vi := VM_goM V hr hh i
      have e17 : mGoM s rain heat i 17 = s 17 := mGoM_ne rfl i
      refine gk_iload C dX5_goes_3 rfl ?_
      refine gk_iload_n C dX5_goes_5 rfl ?_
      refine gk_icmp_ge C (tgt := 41) (by omega) (by omega) dX5_goes_6 (by decide) (fun c_6 => ?_) (fun c_6 => ?_)
      · refine gk_aload_n C dX5_goes_41 rfl ?_
        refine gk_iconst C dX5_goes_42 ?_
        refine gk_callV C o_X5_spreadBut k_X5_183 dX5_goes_43 (m_spreadBut hfl I Vi (w := -1) (by omega)) (mo_obj I) rfl rfl rfl (by decide) (by decide) (by exact Nat.le_of_ble_eq_true rfl) (fun _ _ z => z.elim) (fun v_43 h_43 p_43 => ?_)
        obtain ⟨rfl, rfl⟩ := p_43
        dsimp only [gk_push]
        refine (R _ _ _ _ _ (by decide) (by decide)).1 _ rfl dX5_goes_46 ?_
        have e : i = m := by omega
        rw [e]
        exact ⟨rfl, rfl⟩
      · refine gk_iconst C dX5_goes_9 ?_
        refine gk_istore_5 C rfl (by decide) dX5_goes_10 ?_
        have key2 : ∀ (n k : Nat), s 17 0 - k < n → k ≤ s 17 0 → G 12 [some (.ref (ad 40)), some (iv (m : Int)), some (iv rain), some (iv heat), some (iv (i : Int)), some (iv (k : Int))] [] (HM ad (mGoK (mGoM s rain heat i) rain heat k)) 0 0 := by
          intro n
          induction n with
          | zero => intro k h1; omega
          | succ n ih2 =>
            intro k hn hk
            have Vk := VM_goK Vi hr hh k
            have e18 : mGoK (mGoM s rain heat i) rain heat k 17 0 = s 17 0 := by rw [mGoK_ne rfl k, e17]
            refine gk_iload C dX5_goes_12 rfl ?_
            refine gk_aload_n C dX5_goes_14 rfl ?_
            refine mo_getf C I f_X5_168.r dX5_goes_15 (by rfl) ?_
            rw [e18]
            refine gk_icmp_ge C (tgt := 35) (by omega) (by omega) dX5_goes_18 (by decide) (fun c_18 => ?_) (fun c_18 => ?_)
            · rw [show mGoK (mGoM s rain heat i) rain heat k = mGoM s rain heat (i + 1) from by rw [mGoM_s, show (s 17 0).toNat = k by omega]]
              refine gk_iinc_4 C rfl (by decide) dX5_goes_35 ?_
              refine gk_goto C (tgt := 3) dX5_goes_38 (by decide) ?_
              exact ih (i + 1) _ (by omega) (by omega)
            · refine gk_aload_n C dX5_goes_21 rfl ?_
              refine gk_iload C dX5_goes_22 rfl ?_
              refine gk_iload_n C dX5_goes_24 rfl ?_
              refine gk_iload_n C dX5_goes_25 rfl ?_
              refine gk_callV C o_X5_goesOn k_X5_179 dX5_goes_26 (m_goesOn hfl I Vk (i := (k : Int)) (by omega) hr hh) (mo_obj I) rfl rfl rfl (by decide) (by decide) (by exact Nat.le_of_ble_eq_true rfl) (fun _ _ z => z.elim) (fun v_26 h_26 p_26 => ?_)
              obtain ⟨rfl, rfl⟩ := p_26
              dsimp only [gk_push]
              refine gk_iinc_5 C rfl (by decide) dX5_goes_29 ?_
              refine gk_goto C (tgt := 12) dX5_goes_32 (by decide) ?_
              exact ih2 (k + 1) (by omega) (by omega)
        exact key2 9 0 (by omega) (by omega)
  exact key (m + 1) 0 none (by omega) (by omega)

set_option maxRecDepth 100000 in
set_option maxHeartbeats 4000000 in
theorem m_play {l : Launch} {Γ : GA} (hfl : l.stackTraces = false) {ad : Nat → Nat} (I : IM ad) {s : MS} (V : VM s) {m rain heat : Int} (hm : -2147483648 ≤ m ∧ m ≤ 2147483647)(hrain : -2147483648 ≤ rain ∧ rain ≤ 2147483647)(hheat : -2147483648 ≤ heat ∧ heat ≤ 2147483647) : Ct l Γ m_X5_play [.ref (ad 40), iv m, iv rain, iv heat] (HM ad s) (fun v h' => ∃ (r : Int) (s2 : MS), v = some (iv r) ∧ h' = HM ad s2 ∧ MPlay s m rain heat r s2) (fun _ _ => False) := by
  have V0 := VM_th V 0 (by omega)
  refine Ct.intro hfl (by decide +kernel) rfl (Nat.le_of_ble_eq_true rfl) ?_
  intro G C R T
  show G 0 [some (.ref (ad 40)), some (iv m), some (iv rain), some (iv heat)] [] (HM ad s) 0 0
  refine gk_aload_n C dX5_play_0 rfl ?_
  refine gk_iload_n C dX5_play_1 rfl ?_
  refine gk_iload_n C dX5_play_2 rfl ?_
  refine gk_iload_n C dX5_play_3 rfl ?_
  refine gk_callS C o_X5_isMinute k_X5_186 dX5_play_4 (m_isMinute hfl hm hrain hheat) rfl rfl (by decide) (by decide) (by exact Nat.le_of_ble_eq_true rfl) (fun _ _ z => z.elim) (fun v_4 h_4 p_4 => ?_)
  obtain ⟨r_4, rfl, rb_4, rc_4, rfl⟩ := p_4
  dsimp only [gk_push]
  refine gk_if_eq C (tgt := 14) (by omega) dX5_play_7 (by decide) (fun c_7 => ?_) (fun c_7 => ?_)
  · refine gk_iconst C dX5_play_14 ?_
    refine mo_putf C I f_X5_107 (by decide) dX5_play_15 ?_
    refine gk_aload_n C dX5_play_18 rfl ?_
    refine mo_getf C I f_X5_107.r dX5_play_19 (by rfl) ?_
    try simp only [moS3_ap, moS_ap, Nat.reduceEqDiff, if_true, if_false, reduceIte]
    refine gk_if_le C (tgt := 29) (by omega) dX5_play_22 (by decide) (fun c_22 => ?_) (fun c_22 => ?_)
    · exact absurd c_22 (by omega)
    · refine gk_iconst C dX5_play_25 ?_
      refine gk_goto C (tgt := 36) dX5_play_26 (by decide) ?_
      refine (R _ _ _ _ _ (by decide) (by decide)).1 _ rfl dX5_play_36 ?_
      first | exact ⟨_, _, rfl, rfl, Or.inl ⟨fun z => by have := rc_4.mpr z; omega, rfl, rfl⟩⟩ | exact ⟨_, _, rfl, rfl, Or.inr ⟨hmin, rfl, rfl⟩⟩
  · refine gk_iconst C dX5_play_10 ?_
    refine gk_goto C (tgt := 15) dX5_play_11 (by decide) ?_
    refine mo_putf C I f_X5_107 (by decide) dX5_play_15 ?_
    refine gk_aload_n C dX5_play_18 rfl ?_
    refine mo_getf C I f_X5_107.r dX5_play_19 (by rfl) ?_
    try simp only [moS3_ap, moS_ap, Nat.reduceEqDiff, if_true, if_false, reduceIte]
    refine gk_if_le C (tgt := 29) (by omega) dX5_play_22 (by decide) (fun c_22 => ?_) (fun c_22 => ?_)
    · have hmin := rc_4.mp (by omega)
      have hmin2 := hmin
      unfold isMin at hmin2
      obtain ⟨j, rfl⟩ : ∃ j : Nat, m = (j : Int) := ⟨m.toNat, by omega⟩
      refine gk_aload_n C dX5_play_29 rfl ?_
      refine gk_iload_n C dX5_play_30 rfl ?_
      refine gk_iload_n C dX5_play_31 rfl ?_
      refine gk_iload_n C dX5_play_32 rfl ?_
      refine gk_callV C o_X5_goes k_X5_189 dX5_play_33 (m_goes hfl I V0 (m := j) (by omega) (by omega) (by omega)) (mo_obj I) rfl rfl rfl (by decide) (by decide) (by exact Nat.le_of_ble_eq_true rfl) (fun _ _ z => z.elim) (fun v_33 h_33 p_33 => ?_)
      obtain ⟨rfl, rfl⟩ := p_33
      dsimp only [gk_push]
      refine (R _ _ _ _ _ (by decide) (by decide)).1 _ rfl dX5_play_36 ?_
      first | exact ⟨_, _, rfl, rfl, Or.inl ⟨fun z => by have := rc_4.mpr z; omega, rfl, rfl⟩⟩ | exact ⟨_, _, rfl, rfl, Or.inr ⟨hmin, rfl, rfl⟩⟩
    · exact absurd c_22 (by omega)

set_option maxRecDepth 100000 in
set_option maxHeartbeats 4000000 in
theorem m_playing {l : Launch} {Γ : GA} (hfl : l.stackTraces = false) {ad : Nat → Nat} (I : IM ad) {s : MS} (V : VM s) : Ct l Γ m_X5_playing [.ref (ad 40)] (HM ad s) (fun v h' => v = some (iv (mPlg s (s 17 0).toNat)) ∧ h' = HM ad s) (fun _ _ => False) := by
  have b0 := V.at 17 0 rfl
  refine Ct.intro hfl (by decide +kernel) rfl (Nat.le_of_ble_eq_true rfl) ?_
  intro G C R T
  show G 0 [some (.ref (ad 40)), none, none] [] (HM ad s) 0 0
  refine gk_iconst C dX5_playing_0 ?_
  refine gk_istore_n_1 C rfl (by decide) dX5_playing_1 ?_
  refine gk_iconst C dX5_playing_2 ?_
  refine gk_istore_n_2 C rfl (by decide) dX5_playing_3 ?_
  have key : ∀ (n k : Nat), s 17 0 - k < n → k ≤ s 17 0 → G 4 [some (.ref (ad 40)), some (iv (mPlg s k)), some (iv (k : Int))] [] (HM ad s) 0 0 := by
    intro n
    induction n with
    | zero => intro k h1; omega
    | succ n ih =>
      intro k hn hk
      have b24 := V.at 24 (k : Int) rfl
      have fin : ∀ y : Int, k < s 17 0 → y = (if s 24 k = 0 then 1 else 0) → G 4 [some (.ref (ad 40)), some (iv (mPlg s k + y)), some (iv ((k : Int) + 1))] [] (HM ad s) 0 0 := by
        intro y hk1 hy
        rw [hy]
        exact ih (k + 1) (by omega) (by omega)
      refine gk_iload_n C dX5_playing_4 rfl ?_
      refine gk_aload_n C dX5_playing_5 rfl ?_
      refine mo_getf C I f_X5_168.r dX5_playing_6 (by rfl) ?_
      refine gk_icmp_ge C (tgt := 35) (by omega) (by omega) dX5_playing_9 (by decide) (fun c_9 => ?_) (fun c_9 => ?_)
      · refine gk_iload_n C dX5_playing_35 rfl ?_
        refine (R _ _ _ _ _ (by decide) (by decide)).1 _ rfl dX5_playing_36 ?_
        rw [show (s 17 0).toNat = k by omega]
        exact ⟨rfl, rfl⟩
      · refine gk_iload_n C dX5_playing_12 rfl ?_
        refine gk_aload_n C dX5_playing_13 rfl ?_
        refine mo_getf C I f_X5_71.r dX5_playing_14 (by rfl) ?_
        refine gk_iload_n C dX5_playing_17 rfl ?_
        refine mo_zald C I (by rfl) dX5_playing_18 (by omega) (by omega) ?_
        refine gk_if_eq C (tgt := 26) (by omega) dX5_playing_19 (by decide) (fun c_19 => ?_) (fun c_19 => ?_)
        · refine gk_iconst C dX5_playing_26 ?_
          refine gk_iadd C dX5_playing_27 ?_
          refine gk_istore_n_1 C rfl (by decide) dX5_playing_28 ?_
          refine gk_iinc_2 C rfl (by decide) dX5_playing_29 ?_
          refine gk_goto C (tgt := 4) dX5_playing_32 (by decide) ?_
          exact fin _ (by omega) (by split <;> omega)
        · refine gk_iconst C dX5_playing_22 ?_
          refine gk_goto C (tgt := 27) dX5_playing_23 (by decide) ?_
          refine gk_iadd C dX5_playing_27 ?_
          refine gk_istore_n_1 C rfl (by decide) dX5_playing_28 ?_
          refine gk_iinc_2 C rfl (by decide) dX5_playing_29 ?_
          refine gk_goto C (tgt := 4) dX5_playing_32 (by decide) ?_
          exact fin _ (by omega) (by split <;> omega)
  exact key 9 0 (by omega) (by omega)

set_option maxRecDepth 100000 in
set_option maxHeartbeats 4000000 in
theorem m_spread {l : Launch} {Γ : GA} (hfl : l.stackTraces = false) {ad : Nat → Nat} (I : IM ad) {s : MS} (V : VM s) : Ct l Γ m_X5_spread [.ref (ad 40)] (HM ad s) (fun v h' => v = some (iv (mSpr (moS s 39 (fun _ => 0)) (-1))) ∧ h' = HM ad (moS s 39 (fun _ => 0))) (fun _ _ => False) := by
  have V0 := VM_th V 0 (by omega)
  refine Ct.intro hfl (by decide +kernel) rfl (Nat.le_of_ble_eq_true rfl) ?_
  intro G C R T
  show G 0 [some (.ref (ad 40))] [] (HM ad s) 0 0
  refine gk_aload_n C dX5_spread_0 rfl ?_
  refine gk_iconst C dX5_spread_1 ?_
  refine mo_putf C I f_X5_107 (by decide) dX5_spread_2 ?_
  refine gk_aload_n C dX5_spread_5 rfl ?_
  refine gk_iconst C dX5_spread_6 ?_
  refine gk_callV C o_X5_spreadBut k_X5_183 dX5_spread_7 (m_spreadBut hfl I V0 (w := -1) (by omega)) (mo_obj I) rfl rfl rfl (by decide) (by decide) (by exact Nat.le_of_ble_eq_true rfl) (fun _ _ z => z.elim) (fun v_7 h_7 p_7 => ?_)
  obtain ⟨rfl, rfl⟩ := p_7
  dsimp only [gk_push]
  refine (R _ _ _ _ _ (by decide) (by decide)).1 _ rfl dX5_spread_10 ?_
  exact ⟨rfl, rfl⟩

set_option maxRecDepth 100000 in
set_option maxHeartbeats 4000000 in
theorem m_odd {l : Launch} {Γ : GA} (hfl : l.stackTraces = false) {ad : Nat → Nat} (I : IM ad) {s : MS} (V : VM s) : Ct l Γ m_X5_odd [.ref (ad 40)] (HM ad s) (fun v h' => v = some (iv (if mPlg (moS s 39 (fun _ => 0)) ((moS s 39 (fun _ => 0)) 17 0).toNat ≤ 1 then -1 else (mOdd (moS s 39 (fun _ => 0)) ((moS s 39 (fun _ => 0)) 17 0).toNat).1)) ∧ h' = HM ad (moS s 39 (fun _ => 0))) (fun _ _ => False) := by
  have V0 := VM_th V 0 (by omega)
  generalize es0 : moS s 39 (fun _ => 0) = s0 at *
  have b0 := V0.at 17 0 rfl
  refine Ct.intro hfl (by decide +kernel) rfl (Nat.le_of_ble_eq_true rfl) ?_
  intro G C R T
  show G 0 [some (.ref (ad 40)), none, none, none, none, none] [] (HM ad s) 0 0
  refine gk_aload_n C dX5_odd_0 rfl ?_
  refine gk_iconst C dX5_odd_1 ?_
  refine mo_putf C I f_X5_107 (by decide) dX5_odd_2 ?_
  rw [es0]
  refine gk_iconst C dX5_odd_5 ?_
  refine gk_istore_n_1 C rfl (by decide) dX5_odd_6 ?_
  refine gk_iconst C dX5_odd_7 ?_
  refine gk_istore_n_2 C rfl (by decide) dX5_odd_8 ?_
  refine gk_iconst C dX5_odd_9 ?_
  refine gk_istore_n_3 C rfl (by decide) dX5_odd_10 ?_
  have key : ∀ (n k : Nat) x4 x5, s0 17 0 - k < n → k ≤ s0 17 0 → (1 < mPlg s0 (s0 17 0).toNat ∨ k = 0) → G 11 [some (.ref (ad 40)), some (iv (mOdd s0 k).1), some (iv (mOdd s0 k).2), some (iv (k : Int)), x4, x5] [] (HM ad s0) 0 0 := by
    intro n
    induction n with
    | zero => intro k x4 x5 h1; omega
    | succ n ih =>
      intro k x4 x5 hn hk hp
      have b24 := V0.at 24 (k : Int) rfl
      have bo := mOdd_bd V0 k
      have bs := mSpr_bd V0 k
      have bpl := (mMid_bd V0 (s0 17 0).toNat)
      have eo : mOdd s0 (k + 1) = if s0 24 k = 0 ∧ ((mOdd s0 k).1 = -1 ∨ mSpr s0 k < (mOdd s0 k).2) then ((k : Int), mSpr s0 k) else mOdd s0 k := rfl
      have fin1 : ∀ x4 x5, k < s0 17 0 → 1 < mPlg s0 (s0 17 0).toNat → (s0 24 k = 0 ∧ ((mOdd s0 k).1 = -1 ∨ mSpr s0 k < (mOdd s0 k).2)) → G 11 [some (.ref (ad 40)), some (iv (k : Int)), some (iv (mSpr s0 k)), some (iv ((k : Int) + 1)), x4, x5] [] (HM ad s0) 0 0 := by
        intro x4 x5 h1 h2 h3
        have h9 := ih (k + 1) x4 x5 (by omega) (by omega) (Or.inl h2)
        rw [eo, if_pos h3] at h9
        exact h9
      have fin2 : ∀ x4 x5, k < s0 17 0 → 1 < mPlg s0 (s0 17 0).toNat → ¬ (s0 24 k = 0 ∧ ((mOdd s0 k).1 = -1 ∨ mSpr s0 k < (mOdd s0 k).2)) → G 11 [some (.ref (ad 40)), some (iv (mOdd s0 k).1), some (iv (mOdd s0 k).2), some (iv ((k : Int) + 1)), x4, x5] [] (HM ad s0) 0 0 := by
        intro x4 x5 h1 h2 h3
        have h9 := ih (k + 1) x4 x5 (by omega) (by omega) (Or.inl h2)
        rw [eo, if_neg h3] at h9
        exact h9
      refine gk_iload_n C dX5_odd_11 rfl ?_
      refine gk_aload_n C dX5_odd_12 rfl ?_
      refine mo_getf C I f_X5_168.r dX5_odd_13 (by rfl) ?_
      refine gk_icmp_ge C (tgt := 90) (by omega) (by omega) dX5_odd_16 (by decide) (fun c_16 => ?_) (fun c_16 => ?_)
      · refine gk_iload_n C dX5_odd_90 rfl ?_
        refine (R _ _ _ _ _ (by decide) (by decide)).1 _ rfl dX5_odd_91 ?_
        refine ⟨congrArg (fun q => some (iv q)) ?_, rfl⟩
        split
        · have e : k = 0 := by omega
          rw [e]
          rfl
        · first | (rw [show (s0 17 0).toNat = k by omega]; done) | omega | (rw [show (s0 17 0).toNat = k by omega])
      · refine gk_aload_n C dX5_odd_19 rfl ?_
        refine gk_callV C o_X5_playing k_X5_193 dX5_odd_20 (m_playing hfl I V0) (mo_obj I) rfl rfl rfl (by decide) (by decide) (by exact Nat.le_of_ble_eq_true rfl) (fun _ _ z => z.elim) (fun v_20 h_20 p_20 => ?_)
        obtain ⟨rfl, rfl⟩ := p_20
        dsimp only [gk_push]
        refine gk_iconst C dX5_odd_23 ?_
        refine gk_icmp_le C (tgt := 90) (by omega) (by omega) dX5_odd_24 (by decide) (fun c_24 => ?_) (fun c_24 => ?_)
        · refine gk_iload_n C dX5_odd_90 rfl ?_
          refine (R _ _ _ _ _ (by decide) (by decide)).1 _ rfl dX5_odd_91 ?_
          refine ⟨congrArg (fun q => some (iv q)) ?_, rfl⟩
          split
          · have e : k = 0 := by omega
            rw [e]
            rfl
          · first | (rw [show (s0 17 0).toNat = k by omega]; done) | omega | (rw [show (s0 17 0).toNat = k by omega])
        · refine gk_aload_n C dX5_odd_27 rfl ?_
          refine gk_iload_n C dX5_odd_28 rfl ?_
          refine gk_callV C o_X5_spreadBut k_X5_183 dX5_odd_29 (m_spreadBut hfl I V0 (w := (k : Int)) (by omega)) (mo_obj I) rfl rfl rfl (by decide) (by decide) (by exact Nat.le_of_ble_eq_true rfl) (fun _ _ z => z.elim) (fun v_29 h_29 p_29 => ?_)
          obtain ⟨rfl, rfl⟩ := p_29
          dsimp only [gk_push]
          refine gk_istore_4 C rfl (by decide) dX5_odd_32 ?_
          refine gk_aload_n C dX5_odd_34 rfl ?_
          refine mo_getf C I f_X5_71.r dX5_odd_35 (by rfl) ?_
          refine gk_iload_n C dX5_odd_38 rfl ?_
          refine mo_zald C I (by rfl) dX5_odd_39 (by omega) (by omega) ?_
          refine gk_if_ne C (tgt := 58) (by omega) dX5_odd_40 (by decide) (fun c_40 => ?_) (fun c_40 => ?_)
          · refine gk_iconst C dX5_odd_58 ?_
            refine gk_istore_5 C rfl (by decide) dX5_odd_59 ?_
            refine gk_iload C dX5_odd_61 rfl ?_
            refine gk_if_eq C (tgt := 70) (by omega) dX5_odd_63 (by decide) (fun c_63 => ?_) (fun c_63 => ?_)
            · refine gk_iload_n C dX5_odd_70 rfl ?_
              refine gk_istore_n_1 C rfl (by decide) dX5_odd_71 ?_
              refine gk_iload C dX5_odd_72 rfl ?_
              refine gk_if_eq C (tgt := 82) (by omega) dX5_odd_74 (by decide) (fun c_74 => ?_) (fun c_74 => ?_)
              · refine gk_iload_n C dX5_odd_82 rfl ?_
                refine gk_istore_n_2 C rfl (by decide) dX5_odd_83 ?_
                refine gk_iinc_3 C rfl (by decide) dX5_odd_84 ?_
                refine gk_goto C (tgt := 11) dX5_odd_87 (by decide) ?_
                first | exact fin1 _ _ (by omega) (by omega) (by omega) | exact fin2 _ _ (by omega) (by omega) (by omega)
              · exact absurd c_74 (by omega)
            · exact absurd c_63 (by omega)
          · refine gk_iload_n C dX5_odd_43 rfl ?_
            refine gk_iconst C dX5_odd_44 ?_
            refine gk_icmp_eq C (tgt := 54) (by omega) (by omega) dX5_odd_45 (by decide) (fun c_45 => ?_) (fun c_45 => ?_)
            · refine gk_iconst C dX5_odd_54 ?_
              refine gk_goto C (tgt := 59) dX5_odd_55 (by decide) ?_
              refine gk_istore_5 C rfl (by decide) dX5_odd_59 ?_
              refine gk_iload C dX5_odd_61 rfl ?_
              refine gk_if_eq C (tgt := 70) (by omega) dX5_odd_63 (by decide) (fun c_63 => ?_) (fun c_63 => ?_)
              · exact absurd c_63 (by omega)
              · refine gk_iload_n C dX5_odd_66 rfl ?_
                refine gk_goto C (tgt := 71) dX5_odd_67 (by decide) ?_
                refine gk_istore_n_1 C rfl (by decide) dX5_odd_71 ?_
                refine gk_iload C dX5_odd_72 rfl ?_
                refine gk_if_eq C (tgt := 82) (by omega) dX5_odd_74 (by decide) (fun c_74 => ?_) (fun c_74 => ?_)
                · exact absurd c_74 (by omega)
                · refine gk_iload C dX5_odd_77 rfl ?_
                  refine gk_goto C (tgt := 83) dX5_odd_79 (by decide) ?_
                  refine gk_istore_n_2 C rfl (by decide) dX5_odd_83 ?_
                  refine gk_iinc_3 C rfl (by decide) dX5_odd_84 ?_
                  refine gk_goto C (tgt := 11) dX5_odd_87 (by decide) ?_
                  first | exact fin1 _ _ (by omega) (by omega) (by omega) | exact fin2 _ _ (by omega) (by omega) (by omega)
            · refine gk_iload C dX5_odd_48 rfl ?_
              refine gk_iload_n C dX5_odd_50 rfl ?_
              refine gk_icmp_ge C (tgt := 58) (by omega) (by omega) dX5_odd_51 (by decide) (fun c_51 => ?_) (fun c_51 => ?_)
              · refine gk_iconst C dX5_odd_58 ?_
                refine gk_istore_5 C rfl (by decide) dX5_odd_59 ?_
                refine gk_iload C dX5_odd_61 rfl ?_
                refine gk_if_eq C (tgt := 70) (by omega) dX5_odd_63 (by decide) (fun c_63 => ?_) (fun c_63 => ?_)
                · refine gk_iload_n C dX5_odd_70 rfl ?_
                  refine gk_istore_n_1 C rfl (by decide) dX5_odd_71 ?_
                  refine gk_iload C dX5_odd_72 rfl ?_
                  refine gk_if_eq C (tgt := 82) (by omega) dX5_odd_74 (by decide) (fun c_74 => ?_) (fun c_74 => ?_)
                  · refine gk_iload_n C dX5_odd_82 rfl ?_
                    refine gk_istore_n_2 C rfl (by decide) dX5_odd_83 ?_
                    refine gk_iinc_3 C rfl (by decide) dX5_odd_84 ?_
                    refine gk_goto C (tgt := 11) dX5_odd_87 (by decide) ?_
                    first | exact fin1 _ _ (by omega) (by omega) (by omega) | exact fin2 _ _ (by omega) (by omega) (by omega)
                  · exact absurd c_74 (by omega)
                · exact absurd c_63 (by omega)
              · refine gk_iconst C dX5_odd_54 ?_
                refine gk_goto C (tgt := 59) dX5_odd_55 (by decide) ?_
                refine gk_istore_5 C rfl (by decide) dX5_odd_59 ?_
                refine gk_iload C dX5_odd_61 rfl ?_
                refine gk_if_eq C (tgt := 70) (by omega) dX5_odd_63 (by decide) (fun c_63 => ?_) (fun c_63 => ?_)
                · exact absurd c_63 (by omega)
                · refine gk_iload_n C dX5_odd_66 rfl ?_
                  refine gk_goto C (tgt := 71) dX5_odd_67 (by decide) ?_
                  refine gk_istore_n_1 C rfl (by decide) dX5_odd_71 ?_
                  refine gk_iload C dX5_odd_72 rfl ?_
                  refine gk_if_eq C (tgt := 82) (by omega) dX5_odd_74 (by decide) (fun c_74 => ?_) (fun c_74 => ?_)
                  · exact absurd c_74 (by omega)
                  · refine gk_iload C dX5_odd_77 rfl ?_
                    refine gk_goto C (tgt := 83) dX5_odd_79 (by decide) ?_
                    refine gk_istore_n_2 C rfl (by decide) dX5_odd_83 ?_
                    refine gk_iinc_3 C rfl (by decide) dX5_odd_84 ?_
                    refine gk_goto C (tgt := 11) dX5_odd_87 (by decide) ?_
                    first | exact fin1 _ _ (by omega) (by omega) (by omega) | exact fin2 _ _ (by omega) (by omega) (by omega)
  exact key 9 0 none none (by omega) (by omega) (Or.inr rfl)
