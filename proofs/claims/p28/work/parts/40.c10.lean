/-! the class: ranks -/
theorem xA1_self (bf : Nat → BaS) (i : Nat) : xA1 bf i i = 0 := by
  unfold xA1
  rw [if_neg]
  rintro ⟨_, z⟩
  unfold isBf at z
  omega
theorem xAh_bd2 (bf : Nat → BaS) (i : Nat) : ∀ k : Nat, i < k → xAh bf i k ≤ (k : Int) - 1
  | 0, h => absurd h (Nat.not_lt_zero _)
  | k + 1, h => by
    have h1 := xA1_01 bf i k
    show xAh bf i k + xA1 bf i k ≤ ((k + 1 : Nat) : Int) - 1
    by_cases c : i = k
    · have h2 := xAh_bd bf i k
      have h3 : xA1 bf i k = 0 := by rw [← c]; exact xA1_self bf i
      omega
    · have ih := xAh_bd2 bf i k (by omega)
      omega
theorem xAh_congr {bf bg : Nat → BaS} (h1 : ∀ k, bTp (bf k) = bTp (bg k)) (h2 : ∀ k, bSu (bf k) = bSu (bg k)) (h3 : ∀ k, bP (bf k) = bP (bg k)) (i : Nat) : ∀ k : Nat, xAh bf i k = xAh bg i k
  | 0 => rfl
  | k + 1 => by
    show xAh bf i k + xA1 bf i k = xAh bg i k + xA1 bg i k
    rw [xAh_congr h1 h2 h3 i k]
    unfold xA1
    rw [h1, h2, h2, h3, h3]
/-- a band ranked -/
def bRank (b : BaS) (r : Int) : BaS := (bGr b, bNg b, bPo b + ptOf r, r, bSu b, if r = 1 then bFi b + 1 else bFi b, bTp b, bM b, bP b)
noncomputable def rkK (bf : Nat → BaS) (n : Nat) : Nat → Nat → BaS
  | 0 => bf
  | k + 1 => if bTp (bf k) = 1 then tset (rkK bf n k) k (bRank (bf k) (1 + xAh bf k n)) else rkK bf n k
noncomputable def rk1 (bf : Nat → BaS) (n : Nat) : Nat → Int
  | 0 => -1
  | k + 1 => if bTp (bf k) = 1 ∧ 1 + xAh bf k n = 1 then (k : Int) else rk1 bf n k
theorem rkK_ge {bf : Nat → BaS} {n : Nat} : ∀ (k j : Nat), k ≤ j → rkK bf n k j = bf j
  | 0, _, _ => rfl
  | k + 1, j, h => by
    have ih := rkK_ge (bf := bf) (n := n) k j (by omega)
    show (if bTp (bf k) = 1 then tset (rkK bf n k) k (bRank (bf k) (1 + xAh bf k n)) else rkK bf n k) j = _
    by_cases c : bTp (bf k) = 1
    · rw [if_pos c, tset_ne (by omega), ih]
    · rw [if_neg c, ih]
theorem rkK_same {bf : Nat → BaS} {n : Nat} : ∀ (k j : Nat), bTp (rkK bf n k j) = bTp (bf j) ∧ bSu (rkK bf n k j) = bSu (bf j) ∧ bP (rkK bf n k j) = bP (bf j) ∧ bGr (rkK bf n k j) = bGr (bf j) ∧ bNg (rkK bf n k j) = bNg (bf j) ∧ bM (rkK bf n k j) = bM (bf j)
  | 0, _ => ⟨rfl, rfl, rfl, rfl, rfl, rfl⟩
  | k + 1, j => by
    have ih := rkK_same (bf := bf) (n := n) k j
    have e : rkK bf n (k + 1) = if bTp (bf k) = 1 then tset (rkK bf n k) k (bRank (bf k) (1 + xAh bf k n)) else rkK bf n k := rfl
    rw [e]
    by_cases c : bTp (bf k) = 1
    · rw [if_pos c]
      by_cases c2 : j = k
      · rw [c2, tset_eq]
        exact ⟨rfl, rfl, rfl, rfl, rfl, rfl⟩
      · rw [tset_ne c2]
        exact ih
    · rw [if_neg c]
      exact ih
theorem ptOf_b (r : Int) : 0 ≤ ptOf r ∧ ptOf r ≤ 6 := by
  unfold ptOf gk_pt
  (repeat' split) <;> omega
theorem rkK_ok {bf : Nat → BaS} {n : Nat} (hok : ∀ i, i < n → baOk (bf i) ∧ bPo (bf i) ≤ 90000 ∧ bFi (bf i) ≤ 90000) (hn : n ≤ 8) : ∀ (k : Nat), k ≤ n → ∀ i, i < n → baOk (rkK bf n k i)
  | 0, _, i, hi => (hok i hi).1
  | k + 1, hk, i, hi => by
    have ih := rkK_ok hok hn k (by omega) i hi
    have e : rkK bf n (k + 1) = if bTp (bf k) = 1 then tset (rkK bf n k) k (bRank (bf k) (1 + xAh bf k n)) else rkK bf n k := rfl
    rw [e]
    by_cases c : bTp (bf k) = 1
    · rw [if_pos c]
      by_cases c2 : i = k
      · rw [c2, tset_eq]
        obtain ⟨⟨h1, h2, h3, h4, h5, h6, h7, h8, h9⟩, h10, h11⟩ := hok k (by omega)
        have hx := xAh_bd bf k n
        have hp := ptOf_b (1 + xAh bf k n)
        refine ⟨h1, h2, (show 0 ≤ bPo (bf k) + ptOf (1 + xAh bf k n) ∧ bPo (bf k) + ptOf (1 + xAh bf k n) ≤ 100000 by omega), (show -1 ≤ 1 + xAh bf k n ∧ 1 + xAh bf k n ≤ 9 by omega), h5, ?_, h7, h8, h9⟩
        show 0 ≤ (if 1 + xAh bf k n = 1 then bFi (bf k) + 1 else bFi (bf k)) ∧ (if 1 + xAh bf k n = 1 then bFi (bf k) + 1 else bFi (bf k)) ≤ 100000
        split <;> omega
      · rw [tset_ne c2]
        exact ih
    · rw [if_neg c]
      exact ih

set_option maxRecDepth 100000 in
set_option maxHeartbeats 4000000 in
theorem x_rankBands {l : Launch} {Γ : GA} (hfl : l.stackTraces = false) {ad : XK → Nat} {Q : XTs} {S : XSs} {P : XPs} {B : XBs} (I : IX (gEm Γ) ad Q S P B) (hn : B.1 ≤ 8) (hok : ∀ i, i < B.1 → baOk (B.2.2.1 i) ∧ bPo (B.2.2.1 i) ≤ 90000 ∧ bFi (B.2.2.1 i) ≤ 90000) : Ct l Γ m_X4_rankBands [.ref (ad (0, 0))] (HX (gEm Γ) ad Q S P B) (fun v h' => v = some (iv (rk1 B.2.2.1 B.1 B.1)) ∧ h' = HX (gEm Γ) ad Q S P (B.1, B.2.1, (rkK B.2.2.1 B.1 B.1), B.2.2.2.1, B.2.2.2.2)) (fun _ _ => False) := by
  refine Ct.intro hfl (by decide +kernel) rfl (Nat.le_of_ble_eq_true rfl) ?_
  intro G C R T
  show G 0 [some (.ref (ad (0, 0))), none, none, none, none] [] (HX (gEm Γ) ad Q S P B) 0 0
  refine gk_iconst C dX4_rankBands_0 ?_
  refine gk_istore_n_1 C rfl (by decide) dX4_rankBands_1 ?_
  refine gk_iconst C dX4_rankBands_2 ?_
  refine gk_istore_n_2 C rfl (by decide) dX4_rankBands_3 ?_
  have key : ∀ (n k : Nat) x3 x4, (B.1 : Int) - k < n → k ≤ B.1 → G 4 [some (.ref (ad (0, 0))), some (iv (rk1 B.2.2.1 B.1 k)), some (iv (k : Int)), x3, x4] [] (HX (gEm Γ) ad Q S P (B.1, B.2.1, (rkK B.2.2.1 B.1 k), B.2.2.2.1, B.2.2.2.2)) 0 0 := by
    intro n
    induction n with
    | zero => intro k x3 x4 h1; omega
    | succ n ih =>
      intro k x3 x4 hn0 hk
      have IG := IX_B I (bf := (rkK B.2.2.1 B.1 k)) (op := B.2.2.2.1) (mm := B.2.2.2.2)
      have hok2 := rkK_ok hok hn k hk
      have ek : (rkK B.2.2.1 B.1 k) k = B.2.2.1 k := rkK_ge k k (Nat.le_refl _)
      have er : (rkK B.2.2.1 B.1 (k + 1)) = if bTp (B.2.2.1 k) = 1 then tset (rkK B.2.2.1 B.1 k) k (bRank (B.2.2.1 k) (1 + xAh B.2.2.1 k B.1)) else (rkK B.2.2.1 B.1 k) := rfl
      have e1 : rk1 B.2.2.1 B.1 (k + 1) = if bTp (B.2.2.1 k) = 1 ∧ 1 + xAh B.2.2.1 k B.1 = 1 then (k : Int) else rk1 B.2.2.1 B.1 k := rfl
      have eA : xAh (rkK B.2.2.1 B.1 k) k B.1 = xAh B.2.2.1 k B.1 := xAh_congr (fun j => (rkK_same k j).1) (fun j => (rkK_same k j).2.1) (fun j => (rkK_same k j).2.2.1) k B.1
      have fin0 : ∀ x3 x4, k < B.1 → ¬ bTp (B.2.2.1 k) = 1 → G 4 [some (.ref (ad (0, 0))), some (iv (rk1 B.2.2.1 B.1 k)), some (iv ((k : Int) + 1)), x3, x4] [] (HX (gEm Γ) ad Q S P (B.1, B.2.1, (rkK B.2.2.1 B.1 k), B.2.2.2.1, B.2.2.2.2)) 0 0 := by
        intro x3 x4 h1 h2
        have h9 := ih (k + 1) x3 x4 (by omega) (by omega)
        rw [er, if_neg h2, e1, if_neg (fun z => h2 z.1)] at h9
        exact h9
      have fin1 : ∀ (y : Int) x3 x4, k < B.1 → bTp (B.2.2.1 k) = 1 → y = rk1 B.2.2.1 B.1 (k + 1) → G 4 [some (.ref (ad (0, 0))), some (iv y), some (iv ((k : Int) + 1)), x3, x4] [] (HX (gEm Γ) ad Q S P (B.1, B.2.1, (tset (rkK B.2.2.1 B.1 k) k (bRank (B.2.2.1 k) (1 + xAh B.2.2.1 k B.1))), B.2.2.2.1, B.2.2.2.2)) 0 0 := by
        intro y x3 x4 h1 h2 hy
        have h9 := ih (k + 1) x3 x4 (by omega) (by omega)
        rw [er, if_pos h2, ← hy] at h9
        exact h9
      refine gk_iload_n C dX4_rankBands_4 rfl ?_
      refine gk_aload_n C dX4_rankBands_5 rfl ?_
      refine gk_getf C f_X4_42.r dX4_rankBands_6 (hx_0 IG) (by rfl) ?_
      refine gk_callV C o_Jx4a65c_size_8abf5 k_X4_64 dX4_rankBands_9 (c_AL_size hfl (hx_7s IG)) (hx_7s IG) rfl rfl rfl (by decide) (by decide) (by exact Nat.le_of_ble_eq_true rfl) (fun _ _ z => z.elim) (fun v_9 h_9 p_9 => ?_)
      obtain ⟨rfl, rfl⟩ := p_9
      dsimp only [gk_push]
      refine gk_icmp_ge C (tgt := 66) (by omega) (by omega) dX4_rankBands_12 (by decide) (fun c_12 => ?_) (fun c_12 => ?_)
      · refine gk_iload_n C dX4_rankBands_66 rfl ?_
        refine (R _ _ _ _ _ (by decide) (by decide)).1 _ rfl dX4_rankBands_67 ?_
        rw [show k = B.1 by omega]
        exact ⟨rfl, rfl⟩
      · have hk1 : k < B.1 := by omega
        obtain ⟨k1, k2, k3, k4, k5, k6, k7, k8, k9⟩ := (hok k hk1).1
        have xb := xAh_bd B.2.2.1 k B.1
        have xb2 := xAh_bd2 B.2.2.1 k B.1 hk1
        have hkb := hx_20 IG hk1
        dsimp only at hkb
        rw [ek] at hkb
        refine gk_aload_n C dX4_rankBands_15 rfl ?_
        refine gk_getf C f_X4_42.r dX4_rankBands_16 (hx_0 IG) (by rfl) ?_
        refine gk_iload_n C dX4_rankBands_19 rfl ?_
        refine gk_callV C o_Jx4a65c_get_915e3 k_X4_134 dX4_rankBands_20 (c_AL_get hfl (hx_7a IG (has_of hk1)) (hx_12 IG (has_of hk1)) (y := ad (20, k)) (z := (k : Int)) (by omega) (by omega) (rw_at (g := (fun i => ad (20, i))) (by omega))) (hx_7s IG) rfl rfl rfl (by decide) (by decide) (by exact Nat.le_of_ble_eq_true rfl) (fun _ _ z => z.elim) (fun v_20 h_20 p_20 => ?_)
        obtain ⟨rfl, rfl⟩ := p_20
        dsimp only [gk_push]
        refine gk_cast C cw_X4_238 rfl (hx_20 IG hk1) dX4_rankBands_23 ?_
        refine gk_astore_n_3 C rfl (by decide) dX4_rankBands_26 ?_
        refine gk_aload_n C dX4_rankBands_27 rfl ?_
        refine gk_getf C f_X4_249.r dX4_rankBands_28 (hx_20 IG hk1) (by rfl) ?_
        try dsimp only
        rw [show bTp (rkK B.2.2.1 B.1 k k) = bTp (B.2.2.1 k) from by rw [ek]]
        refine gk_if_ne C (tgt := 37) (by omega) dX4_rankBands_31 (by decide) (fun c_31 => ?_) (fun c_31 => ?_)
        · refine gk_iconst C dX4_rankBands_37 ?_
          refine gk_aload_n C dX4_rankBands_38 rfl ?_
          refine gk_aload_n C dX4_rankBands_39 rfl ?_
          refine gk_callV C o_X4_bandsAheadOf k_X4_303 dX4_rankBands_40 (x_aheadOf hfl IG hn hok2 hk1) (hx_0 IG) rfl rfl rfl (by decide) (by decide) (by exact Nat.le_of_ble_eq_true rfl) (fun _ _ z => z.elim) (fun v_40 h_40 p_40 => ?_)
          obtain ⟨rfl, rfl⟩ := p_40
          dsimp only [gk_push]
          try dsimp only
          rw [eA]
          refine gk_iadd C dX4_rankBands_43 ?_
          refine gk_istore_4 C rfl (by decide) dX4_rankBands_44 ?_
          refine gk_aload_n C dX4_rankBands_46 rfl ?_
          refine gk_iload C dX4_rankBands_47 rfl ?_
          refine gk_callV C o_X0_takeRank k_X4_307 dX4_rankBands_49 (c_X0_takeRank hfl hkb (r := 1 + xAh B.2.2.1 k B.1) (by omega) (by omega) (by omega)) hkb rfl rfl rfl (by decide) (by decide) (by exact Nat.le_of_ble_eq_true rfl) (fun _ _ z => z.elim) (fun v_49 h_49 p_49 => ?_)
          obtain ⟨rfl, rfl⟩ := p_49
          dsimp only [gk_push]
          refine gi_cast (hx_S20 IG hk1 (gr := bGr (B.2.2.1 k)) (ng := bNg (B.2.2.1 k)) (po := bPo (B.2.2.1 k) + ptOf (1 + xAh B.2.2.1 k B.1)) (rk := 1 + xAh B.2.2.1 k B.1) (su := bSu (B.2.2.1 k)) (fi := if 1 + xAh B.2.2.1 k B.1 = 1 then bFi (B.2.2.1 k) + 1 else bFi (B.2.2.1 k)) (tp := bTp (B.2.2.1 k))) ?_
          dsimp only
          rw [ek]
          refine gk_iload C dX4_rankBands_52 rfl ?_
          refine gk_iconst C dX4_rankBands_54 ?_
          refine gk_icmp_ne C (tgt := 60) (by omega) (by omega) dX4_rankBands_55 (by decide) (fun c_55 => ?_) (fun c_55 => ?_)
          · refine gk_iinc_2 C rfl (by decide) dX4_rankBands_60 ?_
            refine gk_goto C (tgt := 4) dX4_rankBands_63 (by decide) ?_
            first | exact fin0 _ _ (by omega) (by omega) | exact fin1 _ _ _ (by omega) (by omega) (by rw [e1]; split <;> omega)
          · refine gk_iload_n C dX4_rankBands_58 rfl ?_
            refine gk_istore_n_1 C rfl (by decide) dX4_rankBands_59 ?_
            refine gk_iinc_2 C rfl (by decide) dX4_rankBands_60 ?_
            refine gk_goto C (tgt := 4) dX4_rankBands_63 (by decide) ?_
            first | exact fin0 _ _ (by omega) (by omega) | exact fin1 _ _ _ (by omega) (by omega) (by rw [e1]; split <;> omega)
        · refine gk_goto C (tgt := 60) dX4_rankBands_34 (by decide) ?_
          refine gk_iinc_2 C rfl (by decide) dX4_rankBands_60 ?_
          refine gk_goto C (tgt := 4) dX4_rankBands_63 (by decide) ?_
          first | exact fin0 _ _ (by omega) (by omega) | exact fin1 _ _ _ (by omega) (by omega) (by rw [e1]; split <;> omega)
  exact key 9 0 none none (by omega) (by omega)
