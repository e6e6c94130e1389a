/-! the class: places, ranks -/
def xPc (bf : Nat → BaS) (i : Nat) (j : Int) : Nat → Int
  | 0 => 0
  | k + 1 => xPc bf i j k + if bTp (bf k) = 1 ∧ bM (bf i) j < bM (bf k) j then 1 else 0
theorem xPc_bd (bf : Nat → BaS) (i : Nat) (j : Int) : ∀ k : Nat, 0 ≤ xPc bf i j k ∧ xPc bf i j k ≤ k
  | 0 => ⟨Int.le_refl _, Int.le_refl _⟩
  | k + 1 => by
    have ih := xPc_bd bf i j k
    unfold xPc
    split <;> omega
def plF (bf : Nat → BaS) (n i : Nat) : Nat → Int → Int
  | 0 => bP (bf i)
  | j + 1 => gupd (plF bf n i j) j (1 + xPc bf i j n)
def plS (bf : Nat → BaS) (n i : Nat) : Nat → Int
  | 0 => 0
  | j + 1 => plS bf n i j + (1 + xPc bf i j n)
/-- a band with other places, another sum -/
def bPl (b : BaS) (f : Int → Int) (su : Int) : BaS := (bGr b, bNg b, bPo b, bRk b, su, bFi b, bTp b, bM b, f)
theorem bPl_self (b : BaS) : bPl b (bP b) (bSu b) = b := rfl
noncomputable def xA1 (bf : Nat → BaS) (i k : Nat) : Int := @ite _ (bTp (bf k) = 1 ∧ isBf (bSu (bf k)) (bSu (bf i)) (bP (bf k)) (bP (bf i)) k i) (Classical.propDecidable _) 1 0
noncomputable def xAh (bf : Nat → BaS) (i : Nat) : Nat → Int
  | 0 => 0
  | k + 1 => xAh bf i k + xA1 bf i k
theorem xA1_01 (bf : Nat → BaS) (i k : Nat) : 0 ≤ xA1 bf i k ∧ xA1 bf i k ≤ 1 := by
  unfold xA1
  by_cases c : (bTp (bf k) = 1 ∧ isBf (bSu (bf k)) (bSu (bf i)) (bP (bf k)) (bP (bf i)) k i)
  · rw [if_pos c]; omega
  · rw [if_neg c]; omega
theorem xAh_bd (bf : Nat → BaS) (i : Nat) : ∀ k : Nat, 0 ≤ xAh bf i k ∧ xAh bf i k ≤ k
  | 0 => ⟨Int.le_refl _, Int.le_refl _⟩
  | k + 1 => by
    have ih := xAh_bd bf i k
    have h := xA1_01 bf i k
    show 0 ≤ xAh bf i k + xA1 bf i k ∧ xAh bf i k + xA1 bf i k ≤ ((k + 1 : Nat) : Int)
    omega

set_option maxRecDepth 100000 in
set_option maxHeartbeats 4000000 in
theorem x_aheadOf {l : Launch} {Γ : GA} (hfl : l.stackTraces = false) {ad : XK → Nat} {Q : XTs} {S : XSs} {P : XPs} {B : XBs} (I : IX (gEm Γ) ad Q S P B) (hn : B.1 ≤ 8) (hok : ∀ i, i < B.1 → baOk (B.2.2.1 i)) {i : Nat} (hi : i < B.1) : Ct l Γ m_X4_bandsAheadOf [.ref (ad (0, 0)), .ref (ad (20, i))] (HX (gEm Γ) ad Q S P B) (fun v h' => v = some (iv (xAh B.2.2.1 i B.1)) ∧ h' = HX (gEm Γ) ad Q S P B) (fun _ _ => False) := by
  obtain ⟨i1, i2, i3, i4, i5, i6, i7, i8, i9⟩ := hok i hi
  refine Ct.intro hfl (by decide +kernel) rfl (Nat.le_of_ble_eq_true rfl) ?_
  intro G C R T
  show G 0 [some (.ref (ad (0, 0))), some (.ref (ad (20, i))), none, none, none] [] (HX (gEm Γ) ad Q S P B) 0 0
  refine gk_iconst C dX4_bandsAheadOf_0 ?_
  refine gk_istore_n_2 C rfl (by decide) dX4_bandsAheadOf_1 ?_
  refine gk_iconst C dX4_bandsAheadOf_2 ?_
  refine gk_istore_n_3 C rfl (by decide) dX4_bandsAheadOf_3 ?_
  have key : ∀ (n k : Nat) x4, (B.1 : Int) - k < n → k ≤ B.1 → G 4 [some (.ref (ad (0, 0))), some (.ref (ad (20, i))), some (iv (xAh B.2.2.1 i k)), some (iv (k : Int)), x4] [] (HX (gEm Γ) ad Q S P B) 0 0 := by
    intro n
    induction n with
    | zero => intro k x4 h1; omega
    | succ n ih =>
      intro k x4 hn0 hk
      have fin : ∀ (y : Int) x4, k < B.1 → y = xA1 B.2.2.1 i k → G 4 [some (.ref (ad (0, 0))), some (.ref (ad (20, i))), some (iv (xAh B.2.2.1 i k + y)), some (iv ((k : Int) + 1)), x4] [] (HX (gEm Γ) ad Q S P B) 0 0 := by
        intro y x4 h1 hy
        rw [hy]
        exact ih (k + 1) x4 (by omega) (by omega)
      have fin0 : ∀ x4, k < B.1 → 0 = xA1 B.2.2.1 i k → G 4 [some (.ref (ad (0, 0))), some (.ref (ad (20, i))), some (iv (xAh B.2.2.1 i k)), some (iv ((k : Int) + 1)), x4] [] (HX (gEm Γ) ad Q S P B) 0 0 := by
        intro x4 h1 hy
        have h9 := fin 0 x4 h1 hy
        rw [Int.add_zero] at h9
        exact h9
      have ah0 : ¬ (bTp (B.2.2.1 k) = 1 ∧ isBf (bSu (B.2.2.1 k)) (bSu (B.2.2.1 i)) (bP (B.2.2.1 k)) (bP (B.2.2.1 i)) k i) → 0 = xA1 B.2.2.1 i k := fun z => by unfold xA1; rw [if_neg z]
      have ah1 : (bTp (B.2.2.1 k) = 1 ∧ isBf (bSu (B.2.2.1 k)) (bSu (B.2.2.1 i)) (bP (B.2.2.1 k)) (bP (B.2.2.1 i)) k i) → 1 = xA1 B.2.2.1 i k := fun z => by unfold xA1; rw [if_pos z]
      refine gk_iload_n C dX4_bandsAheadOf_4 rfl ?_
      refine gk_aload_n C dX4_bandsAheadOf_5 rfl ?_
      refine gk_getf C f_X4_42.r dX4_bandsAheadOf_6 (hx_0 I) (by rfl) ?_
      refine gk_callV C o_Jx4a65c_size_8abf5 k_X4_64 dX4_bandsAheadOf_9 (c_AL_size hfl (hx_7s I)) (hx_7s I) rfl rfl rfl (by decide) (by decide) (by exact Nat.le_of_ble_eq_true rfl) (fun _ _ z => z.elim) (fun v_9 h_9 p_9 => ?_)
      obtain ⟨rfl, rfl⟩ := p_9
      dsimp only [gk_push]
      refine gk_icmp_ge C (tgt := 54) (by omega) (by omega) dX4_bandsAheadOf_12 (by decide) (fun c_12 => ?_) (fun c_12 => ?_)
      · refine gk_iload_n C dX4_bandsAheadOf_54 rfl ?_
        refine (R _ _ _ _ _ (by decide) (by decide)).1 _ rfl dX4_bandsAheadOf_55 ?_
        rw [show k = B.1 by omega]
        exact ⟨rfl, rfl⟩
      · have hk1 : k < B.1 := by omega
        obtain ⟨k1, k2, k3, k4, k5, k6, k7, k8, k9⟩ := hok k hk1
        refine gk_aload_n C dX4_bandsAheadOf_15 rfl ?_
        refine gk_getf C f_X4_42.r dX4_bandsAheadOf_16 (hx_0 I) (by rfl) ?_
        refine gk_iload_n C dX4_bandsAheadOf_19 rfl ?_
        refine gk_callV C o_Jx4a65c_get_915e3 k_X4_134 dX4_bandsAheadOf_20 (c_AL_get hfl (hx_7a I (has_of hk1)) (hx_12 I (has_of hk1)) (y := ad (20, k)) (z := (k : Int)) (by omega) (by omega) (rw_at (g := (fun i => ad (20, i))) (by omega))) (hx_7s I) rfl rfl rfl (by decide) (by decide) (by exact Nat.le_of_ble_eq_true rfl) (fun _ _ z => z.elim) (fun v_20 h_20 p_20 => ?_)
        obtain ⟨rfl, rfl⟩ := p_20
        dsimp only [gk_push]
        refine gk_cast C cw_X4_238 rfl (hx_20 I hk1) dX4_bandsAheadOf_23 ?_
        refine gk_astore_4 C rfl (by decide) dX4_bandsAheadOf_26 ?_
        refine gk_aload C dX4_bandsAheadOf_28 rfl ?_
        refine gk_getf C f_X4_249.r dX4_bandsAheadOf_30 (hx_20 I hk1) (by rfl) ?_
        refine gk_if_eq C (tgt := 48) (by omega) dX4_bandsAheadOf_33 (by decide) (fun c_33 => ?_) (fun c_33 => ?_)
        · refine gk_iinc_3 C rfl (by decide) dX4_bandsAheadOf_48 ?_
          refine gk_goto C (tgt := 4) dX4_bandsAheadOf_51 (by decide) ?_
          first | exact fin 1 _ (by omega) (ah1 ⟨by omega, hrb.mp (by omega)⟩) | exact fin0 _ (by omega) (ah0 (fun z => absurd z.1 (by omega))) | exact fin0 _ (by omega) (ah0 (fun z => by have := hrb.mpr z.2; omega))
        · refine gk_aload C dX4_bandsAheadOf_36 rfl ?_
          refine gk_aload_n C dX4_bandsAheadOf_38 rfl ?_
          refine gk_callV C o_X0_isRankedAheadOf k_X4_310 dX4_bandsAheadOf_39 (c_X0_ahead hfl (hx_20 I hk1) (hx_22 I hk1) (fun j h0 h1 => by have := k9 j h0 h1; omega) (hx_20 I hi) (hx_22 I hi) (fun j h0 h1 => by have := i9 j h0 h1; omega) (by omega) (by omega) (by omega) (by omega)) (hx_20 I hk1) rfl rfl rfl (by decide) (by decide) (by exact Nat.le_of_ble_eq_true rfl) (fun _ _ z => z.elim) (fun v_39 h_39 p_39 => ?_)
          obtain ⟨ra, rfl, hra, hrb, rfl⟩ := p_39
          dsimp only [gk_push]
          refine gk_if_eq C (tgt := 48) (by omega) dX4_bandsAheadOf_42 (by decide) (fun c_42 => ?_) (fun c_42 => ?_)
          · refine gk_iinc_3 C rfl (by decide) dX4_bandsAheadOf_48 ?_
            refine gk_goto C (tgt := 4) dX4_bandsAheadOf_51 (by decide) ?_
            first | exact fin 1 _ (by omega) (ah1 ⟨by omega, hrb.mp (by omega)⟩) | exact fin0 _ (by omega) (ah0 (fun z => absurd z.1 (by omega))) | exact fin0 _ (by omega) (ah0 (fun z => by have := hrb.mpr z.2; omega))
          · refine gk_iinc_2 C rfl (by decide) dX4_bandsAheadOf_45 ?_
            refine gk_iinc_3 C rfl (by decide) dX4_bandsAheadOf_48 ?_
            refine gk_goto C (tgt := 4) dX4_bandsAheadOf_51 (by decide) ?_
            first | exact fin 1 _ (by omega) (ah1 ⟨by omega, hrb.mp (by omega)⟩) | exact fin0 _ (by omega) (ah0 (fun z => absurd z.1 (by omega))) | exact fin0 _ (by omega) (ah0 (fun z => by have := hrb.mpr z.2; omega))
  exact key 9 0 none (by omega) (by omega)

set_option maxRecDepth 100000 in
set_option maxHeartbeats 4000000 in
theorem x_findPlaces {l : Launch} {Γ : GA} (hfl : l.stackTraces = false) {ad : XK → Nat} {Q : XTs} {S : XSs} {P : XPs} {B : XBs} (I : IX (gEm Γ) ad Q S P B) (hn : B.1 ≤ 8) (hok : ∀ i, i < B.1 → baOk (B.2.2.1 i)) {i : Nat} (hi : i < B.1) : Ct l Γ m_X4_findPlaces [.ref (ad (0, 0)), .ref (ad (20, i))] (HX (gEm Γ) ad Q S P B) (fun v h' => v = none ∧ h' = HX (gEm Γ) ad Q S P (B.1, B.2.1, tset B.2.2.1 i (bPl (B.2.2.1 i) (plF B.2.2.1 B.1 i 4) (plS B.2.2.1 B.1 i 4)), B.2.2.2.1, B.2.2.2.2)) (fun _ _ => False) := by
  refine Ct.intro hfl (by decide +kernel) rfl (Nat.le_of_ble_eq_true rfl) ?_
  intro G C R T
  show G 0 [some (.ref (ad (0, 0))), some (.ref (ad (20, i))), none, none, none, none, none] [] (HX (gEm Γ) ad Q S P B) 0 0
  refine gk_iconst C dX4_findPlaces_0 ?_
  refine gk_istore_n_2 C rfl (by decide) dX4_findPlaces_1 ?_
  refine gk_iconst C dX4_findPlaces_2 ?_
  refine gk_istore_n_3 C rfl (by decide) dX4_findPlaces_3 ?_
  have key : ∀ (n j : Nat) x4 x5 x6, (4 : Int) - j < n → j ≤ 4 → G 4 [some (.ref (ad (0, 0))), some (.ref (ad (20, i))), some (iv (plS B.2.2.1 B.1 i j)), some (iv (j : Int)), x4, x5, x6] [] (HX (gEm Γ) ad Q S P (B.1, B.2.1, (tset B.2.2.1 i (bPl (B.2.2.1 i) (plF B.2.2.1 B.1 i j) (bSu (B.2.2.1 i)))), B.2.2.2.1, B.2.2.2.2)) 0 0 := by
    intro n
    induction n with
    | zero => intro j x4 x5 x6 h1; omega
    | succ n ih =>
      intro j x4 x5 x6 hn0 hj
      have IG := IX_B I (bf := (tset B.2.2.1 i (bPl (B.2.2.1 i) (plF B.2.2.1 B.1 i j) (bSu (B.2.2.1 i))))) (op := B.2.2.2.1) (mm := B.2.2.2.2)
      have eT : ∀ k, bTp ((tset B.2.2.1 i (bPl (B.2.2.1 i) (plF B.2.2.1 B.1 i j) (bSu (B.2.2.1 i)))) k) = bTp (B.2.2.1 k) := fun k => by
        by_cases c : k = i
        · rw [c, tset_eq]; rfl
        · rw [tset_ne c]
      have eM : ∀ k, bM ((tset B.2.2.1 i (bPl (B.2.2.1 i) (plF B.2.2.1 B.1 i j) (bSu (B.2.2.1 i)))) k) = bM (B.2.2.1 k) := fun k => by
        by_cases c : k = i
        · rw [c, tset_eq]; rfl
        · rw [tset_ne c]
      refine gk_iload_n C dX4_findPlaces_4 rfl ?_
      refine gk_iconst C dX4_findPlaces_5 ?_
      refine gk_icmp_ge C (tgt := 90) (by omega) (by omega) dX4_findPlaces_6 (by decide) (fun c_6 => ?_) (fun c_6 => ?_)
      · have ej4 : j = 4 := by omega
        rw [ej4] at IG ⊢
        refine gk_aload_n C dX4_findPlaces_90 rfl ?_
        refine gk_iload_n C dX4_findPlaces_91 rfl ?_
        refine gk_putf C f_X4_300 dX4_findPlaces_92 (hx_20 IG hi) rfl rfl (by exact Nat.le_of_ble_eq_true rfl) ?_
        refine (R _ _ _ _ _ (by decide) (by decide)).2.2.1 rfl dX4_findPlaces_95 ?_
        refine ⟨rfl, ?_⟩
        simp only [tset_eq]
        refine (hx_S20 IG hi (gr := bGr (B.2.2.1 i)) (ng := bNg (B.2.2.1 i)) (po := bPo (B.2.2.1 i)) (rk := bRk (B.2.2.1 i)) (su := plS B.2.2.1 B.1 i 4) (fi := bFi (B.2.2.1 i)) (tp := bTp (B.2.2.1 i))).trans ?_
        dsimp only
        rw [tset_2, tset_eq]
        rfl
      · refine gk_iconst C dX4_findPlaces_9 ?_
        refine gk_istore_4 C rfl (by decide) dX4_findPlaces_10 ?_
        refine gk_iconst C dX4_findPlaces_12 ?_
        refine gk_istore_5 C rfl (by decide) dX4_findPlaces_13 ?_
        have key2 : ∀ (n k : Nat) x6, (B.1 : Int) - k < n → k ≤ B.1 → G 15 [some (.ref (ad (0, 0))), some (.ref (ad (20, i))), some (iv (plS B.2.2.1 B.1 i j)), some (iv (j : Int)), some (iv (1 + xPc B.2.2.1 i j k)), some (iv (k : Int)), x6] [] (HX (gEm Γ) ad Q S P (B.1, B.2.1, (tset B.2.2.1 i (bPl (B.2.2.1 i) (plF B.2.2.1 B.1 i j) (bSu (B.2.2.1 i)))), B.2.2.2.1, B.2.2.2.2)) 0 0 := by
          intro n
          induction n with
          | zero => intro k x6 h1; omega
          | succ n ih2 =>
            intro k x6 hn0 hk
            have bx := xPc_bd B.2.2.1 i j k
            have fin : ∀ (y : Int) x6, k < B.1 → y = (if bTp (B.2.2.1 k) = 1 ∧ bM (B.2.2.1 i) j < bM (B.2.2.1 k) j then 1 else 0) → G 15 [some (.ref (ad (0, 0))), some (.ref (ad (20, i))), some (iv (plS B.2.2.1 B.1 i j)), some (iv (j : Int)), some (iv (1 + xPc B.2.2.1 i j k + y)), some (iv ((k : Int) + 1)), x6] [] (HX (gEm Γ) ad Q S P (B.1, B.2.1, (tset B.2.2.1 i (bPl (B.2.2.1 i) (plF B.2.2.1 B.1 i j) (bSu (B.2.2.1 i)))), B.2.2.2.1, B.2.2.2.2)) 0 0 := by
              intro y x6 h1 hy
              rw [hy, Int.add_assoc]
              exact ih2 (k + 1) x6 (by omega) (by omega)
            refine gk_iload C dX4_findPlaces_15 rfl ?_
            refine gk_aload_n C dX4_findPlaces_17 rfl ?_
            refine gk_getf C f_X4_42.r dX4_findPlaces_18 (hx_0 IG) (by rfl) ?_
            refine gk_callV C o_Jx4a65c_size_8abf5 k_X4_64 dX4_findPlaces_21 (c_AL_size hfl (hx_7s IG)) (hx_7s IG) rfl rfl rfl (by decide) (by decide) (by exact Nat.le_of_ble_eq_true rfl) (fun _ _ z => z.elim) (fun v_21 h_21 p_21 => ?_)
            obtain ⟨rfl, rfl⟩ := p_21
            dsimp only [gk_push]
            refine gk_icmp_ge C (tgt := 72) (by omega) (by omega) dX4_findPlaces_24 (by decide) (fun c_24 => ?_) (fun c_24 => ?_)
            · have ekn : k = B.1 := by omega
              rw [ekn]
              refine gk_aload_n C dX4_findPlaces_72 rfl ?_
              refine gk_iload_n C dX4_findPlaces_73 rfl ?_
              refine gk_iload C dX4_findPlaces_74 rfl ?_
              refine gk_callV C o_X0_takePlace k_X4_297 dX4_findPlaces_76 (c_X0_takePlace hfl (hx_20 IG hi) (hx_22 IG hi) (j := (j : Int)) (z := 1 + xPc B.2.2.1 i j B.1) (by omega)) (hx_20 IG hi) rfl rfl rfl (by decide) (by decide) (by exact Nat.le_of_ble_eq_true rfl) (fun _ _ z => z.elim) (fun v_76 h_76 p_76 => ?_)
              obtain ⟨rfl, rfl⟩ := p_76
              dsimp only [gk_push]
              refine gi_cast (hx_S22 IG hi) ?_
              dsimp only
              rw [tset_2, tset_eq]
              refine gk_iload_n C dX4_findPlaces_79 rfl ?_
              refine gk_iload C dX4_findPlaces_80 rfl ?_
              refine gk_iadd C dX4_findPlaces_82 ?_
              refine gk_istore_n_2 C rfl (by decide) dX4_findPlaces_83 ?_
              refine gk_iinc_3 C rfl (by decide) dX4_findPlaces_84 ?_
              refine gk_goto C (tgt := 4) dX4_findPlaces_87 (by decide) ?_
              exact ih (j + 1) _ _ _ (by omega) (by omega)
            · have hk1 : k < B.1 := by omega
              obtain ⟨k1, k2, k3, k4, k5, k6, k7, k8, k9⟩ := hok k hk1
              have i8 := (hok i hi).2.2.2.2.2.2.2.1 j (by omega) (by omega)
              have k8j := k8 j (by omega) (by omega)
              refine gk_aload_n C dX4_findPlaces_27 rfl ?_
              refine gk_getf C f_X4_42.r dX4_findPlaces_28 (hx_0 IG) (by rfl) ?_
              refine gk_iload C dX4_findPlaces_31 rfl ?_
              refine gk_callV C o_Jx4a65c_get_915e3 k_X4_134 dX4_findPlaces_33 (c_AL_get hfl (hx_7a IG (has_of hk1)) (hx_12 IG (has_of hk1)) (y := ad (20, k)) (z := (k : Int)) (by omega) (by omega) (rw_at (g := (fun i => ad (20, i))) (by omega))) (hx_7s IG) rfl rfl rfl (by decide) (by decide) (by exact Nat.le_of_ble_eq_true rfl) (fun _ _ z => z.elim) (fun v_33 h_33 p_33 => ?_)
              obtain ⟨rfl, rfl⟩ := p_33
              dsimp only [gk_push]
              refine gk_cast C cw_X4_238 rfl (hx_20 IG hk1) dX4_findPlaces_36 ?_
              refine gk_astore_6 C rfl (by decide) dX4_findPlaces_39 ?_
              refine gk_aload C dX4_findPlaces_41 rfl ?_
              refine gk_getf C f_X4_249.r dX4_findPlaces_43 (hx_20 IG hk1) (by rfl) ?_
              try dsimp only
              rw [eT]
              refine gk_if_eq C (tgt := 66) (by omega) dX4_findPlaces_46 (by decide) (fun c_46 => ?_) (fun c_46 => ?_)
              · refine gk_iinc_5 C rfl (by decide) dX4_findPlaces_66 ?_
                refine gk_goto C (tgt := 15) dX4_findPlaces_69 (by decide) ?_
                first | exact fin 1 _ (by omega) (by rw [if_pos (show bTp (B.2.2.1 k) = 1 ∧ bM (B.2.2.1 i) j < bM (B.2.2.1 k) j by omega)]) | (have h9 := fin 0 (some (.ref (ad (20, k)))) (by omega) (by rw [if_neg (show ¬ (bTp (B.2.2.1 k) = 1 ∧ bM (B.2.2.1 i) j < bM (B.2.2.1 k) j) by omega)]); rw [Int.add_zero] at h9; exact h9)
              · refine gk_aload C dX4_findPlaces_49 rfl ?_
                refine gk_iload_n C dX4_findPlaces_51 rfl ?_
                refine gk_callV C o_X0_markBy k_X4_263 dX4_findPlaces_52 (c_X0_markBy hfl (hx_20 IG hk1) (hx_21 IG hk1) (j := (j : Int)) (by omega)) (hx_20 IG hk1) rfl rfl rfl (by decide) (by decide) (by exact Nat.le_of_ble_eq_true rfl) (fun _ _ z => z.elim) (fun v_52 h_52 p_52 => ?_)
                obtain ⟨rfl, rfl⟩ := p_52
                dsimp only [gk_push]
                rw [eM]
                refine gk_aload_n C dX4_findPlaces_55 rfl ?_
                refine gk_iload_n C dX4_findPlaces_56 rfl ?_
                refine gk_callV C o_X0_markBy k_X4_263 dX4_findPlaces_57 (c_X0_markBy hfl (hx_20 IG hi) (hx_21 IG hi) (j := (j : Int)) (by omega)) (hx_20 IG hi) rfl rfl rfl (by decide) (by decide) (by exact Nat.le_of_ble_eq_true rfl) (fun _ _ z => z.elim) (fun v_57 h_57 p_57 => ?_)
                obtain ⟨rfl, rfl⟩ := p_57
                dsimp only [gk_push]
                rw [eM]
                refine gk_icmp_le C (tgt := 66) (by omega) (by omega) dX4_findPlaces_60 (by decide) (fun c_60 => ?_) (fun c_60 => ?_)
                · refine gk_iinc_5 C rfl (by decide) dX4_findPlaces_66 ?_
                  refine gk_goto C (tgt := 15) dX4_findPlaces_69 (by decide) ?_
                  first | exact fin 1 _ (by omega) (by rw [if_pos (show bTp (B.2.2.1 k) = 1 ∧ bM (B.2.2.1 i) j < bM (B.2.2.1 k) j by omega)]) | (have h9 := fin 0 (some (.ref (ad (20, k)))) (by omega) (by rw [if_neg (show ¬ (bTp (B.2.2.1 k) = 1 ∧ bM (B.2.2.1 i) j < bM (B.2.2.1 k) j) by omega)]); rw [Int.add_zero] at h9; exact h9)
                · refine gk_iinc_4 C rfl (by decide) dX4_findPlaces_63 ?_
                  refine gk_iinc_5 C rfl (by decide) dX4_findPlaces_66 ?_
                  refine gk_goto C (tgt := 15) dX4_findPlaces_69 (by decide) ?_
                  first | exact fin 1 _ (by omega) (by rw [if_pos (show bTp (B.2.2.1 k) = 1 ∧ bM (B.2.2.1 i) j < bM (B.2.2.1 k) j by omega)]) | (have h9 := fin 0 (some (.ref (ad (20, k)))) (by omega) (by rw [if_neg (show ¬ (bTp (B.2.2.1 k) = 1 ∧ bM (B.2.2.1 i) j < bM (B.2.2.1 k) j) by omega)]); rw [Int.add_zero] at h9; exact h9)
        exact key2 9 0 _ (by omega) (by omega)
  have h9 := key 5 0 none none none (by omega) (by omega)
  rw [show plF B.2.2.1 B.1 i 0 = bP (B.2.2.1 i) from rfl, bPl_self, tset_self] at h9
  exact h9
