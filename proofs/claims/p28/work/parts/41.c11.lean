/-! the class: close -/
theorem xPc_congr {bf bg : Nat → BaS} (h1 : ∀ k, bTp (bf k) = bTp (bg k)) (h2 : ∀ k, bM (bf k) = bM (bg k)) (i : Nat) (j : Int) : ∀ k : Nat, xPc bf i j k = xPc bg i j k
  | 0 => rfl
  | k + 1 => by
    show xPc bf i j k + (if bTp (bf k) = 1 ∧ bM (bf i) j < bM (bf k) j then 1 else 0) = xPc bg i j k + (if bTp (bg k) = 1 ∧ bM (bg i) j < bM (bg k) j then 1 else 0)
    rw [xPc_congr h1 h2 i j k, h1, h2, h2]
theorem plF_congr {bf bg : Nat → BaS} {n i : Nat} (h1 : ∀ k, bTp (bf k) = bTp (bg k)) (h2 : ∀ k, bM (bf k) = bM (bg k)) (h3 : bP (bf i) = bP (bg i)) : ∀ j : Nat, plF bf n i j = plF bg n i j ∧ plS bf n i j = plS bg n i j
  | 0 => ⟨h3, rfl⟩
  | j + 1 => by
    have ih := plF_congr (n := n) (i := i) h1 h2 h3 j
    have hx := xPc_congr h1 h2 i (j : Int) n
    refine ⟨?_, ?_⟩
    · show gupd (plF bf n i j) j (1 + xPc bf i j n) = gupd (plF bg n i j) j (1 + xPc bg i j n)
      rw [ih.1, hx]
    · show plS bf n i j + (1 + xPc bf i j n) = plS bg n i j + (1 + xPc bg i j n)
      rw [ih.2, hx]
theorem plS_bd (bf : Nat → BaS) (n i : Nat) (hn : n ≤ 8) : ∀ j : Nat, 0 ≤ plS bf n i j ∧ plS bf n i j ≤ 9 * j
  | 0 => ⟨Int.le_refl _, by show (0 : Int) ≤ 9 * 0; omega⟩
  | j + 1 => by
    have ih := plS_bd bf n i hn j
    have hx := xPc_bd bf i (j : Int) n
    show 0 ≤ plS bf n i j + (1 + xPc bf i j n) ∧ plS bf n i j + (1 + xPc bf i j n) ≤ 9 * ((j + 1 : Nat) : Int)
    omega
theorem plF_bd (bf : Nat → BaS) (n i : Nat) (hn : n ≤ 8) (h : ∀ z : Int, 0 ≤ z → z < 4 → 0 ≤ bP (bf i) z ∧ bP (bf i) z ≤ 9) : ∀ j : Nat, ∀ z : Int, 0 ≤ z → z < 4 → 0 ≤ plF bf n i j z ∧ plF bf n i j z ≤ 9
  | 0, z, h0, h1 => h z h0 h1
  | j + 1, z, h0, h1 => by
    have hx := xPc_bd bf i (j : Int) n
    show 0 ≤ gupd (plF bf n i j) j (1 + xPc bf i j n) z ∧ gupd (plF bf n i j) j (1 + xPc bf i j n) z ≤ 9
    by_cases c : z = (j : Int)
    · rw [c, gupd_eq]; omega
    · rw [gupd_ne c]; exact plF_bd bf n i hn h j z h0 h1
/-- a band whose result is forgotten -/
def bFg (b : BaS) : BaS := (bGr b, bNg b, bPo b, -1, -1, bFi b, bTp b, bM b, bP b)
def clK (bf : Nat → BaS) (n : Nat) : Nat → Nat → BaS
  | 0 => bf
  | k + 1 => tset (clK bf n k) k (if bTp (bf k) = 1 then bPl (bFg (bf k)) (plF bf n k 4) (plS bf n k 4) else bFg (bf k))
theorem clK_ge {bf : Nat → BaS} {n : Nat} : ∀ (k j : Nat), k ≤ j → clK bf n k j = bf j
  | 0, _, _ => rfl
  | k + 1, j, h => by
    show tset (clK bf n k) k _ j = _
    rw [tset_ne (by omega), clK_ge k j (by omega)]
theorem clK_same {bf : Nat → BaS} {n : Nat} : ∀ (k j : Nat), bTp (clK bf n k j) = bTp (bf j) ∧ bM (clK bf n k j) = bM (bf j) ∧ bGr (clK bf n k j) = bGr (bf j) ∧ bNg (clK bf n k j) = bNg (bf j) ∧ bPo (clK bf n k j) = bPo (bf j) ∧ bFi (clK bf n k j) = bFi (bf j)
  | 0, _ => ⟨rfl, rfl, rfl, rfl, rfl, rfl⟩
  | k + 1, j => by
    have ih := clK_same (bf := bf) (n := n) k j
    have e : clK bf n (k + 1) = tset (clK bf n k) k (if bTp (bf k) = 1 then bPl (bFg (bf k)) (plF bf n k 4) (plS bf n k 4) else bFg (bf k)) := rfl
    rw [e]
    by_cases c2 : j = k
    · rw [c2, tset_eq]
      by_cases c : bTp (bf k) = 1
      · rw [if_pos c]; exact ⟨rfl, rfl, rfl, rfl, rfl, rfl⟩
      · rw [if_neg c]; exact ⟨rfl, rfl, rfl, rfl, rfl, rfl⟩
    · rw [tset_ne c2]
      exact ih
theorem bFg_ok {b : BaS} (h : baOk b) : baOk (bFg b) := by
  obtain ⟨h1, h2, h3, h4, h5, h6, h7, h8, h9⟩ := h
  exact ⟨h1, h2, h3, (show (-1 : Int) ≤ -1 ∧ (-1 : Int) ≤ 9 by omega), (show (-1 : Int) ≤ -1 ∧ (-1 : Int) ≤ 100 by omega), h6, h7, h8, h9⟩
theorem clK_ok {bf : Nat → BaS} {n : Nat} (hok : ∀ i, i < n → baOk (bf i)) (hn : n ≤ 8) : ∀ (k : Nat), k ≤ n → ∀ i, i < n → baOk (clK bf n k i)
  | 0, _, i, hi => hok i hi
  | k + 1, hk, i, hi => by
    have ih := clK_ok hok hn k (by omega) i hi
    have e : clK bf n (k + 1) = tset (clK bf n k) k (if bTp (bf k) = 1 then bPl (bFg (bf k)) (plF bf n k 4) (plS bf n k 4) else bFg (bf k)) := rfl
    rw [e]
    by_cases c2 : i = k
    · rw [c2, tset_eq]
      have hb := bFg_ok (hok k (by omega))
      by_cases c : bTp (bf k) = 1
      · rw [if_pos c]
        obtain ⟨h1, h2, h3, h4, h5, h6, h7, h8, h9⟩ := hb
        have hs := plS_bd bf n k hn 4
        exact ⟨h1, h2, h3, h4, (show -1 ≤ plS bf n k 4 ∧ plS bf n k 4 ≤ 100 by omega), h6, h7, h8, plF_bd bf n k hn h9 4⟩
      · rw [if_neg c]
        exact hb
    · rw [tset_ne c2]
      exact ih

set_option maxRecDepth 100000 in
set_option maxHeartbeats 4000000 in
theorem x_close {l : Launch} {Γ : GA} (hfl : l.stackTraces = false) {ad : XK → Nat} {Q : XTs} {S : XSs} {P : XPs} {B : XBs} (I : IX (gEm Γ) ad Q S P B) (hn : B.1 ≤ 8) (hok : ∀ i, i < B.1 → baOk (B.2.2.1 i) ∧ bPo (B.2.2.1 i) ≤ 90000 ∧ bFi (B.2.2.1 i) ≤ 90000) (hop : B.2.2.2.1 = 0 ∨ B.2.2.2.1 = 1) (hmm : -1000 ≤ B.2.2.2.2 ∧ B.2.2.2.2 ≤ 1000) : Ct l Γ m_X4_close [.ref (ad (0, 0))] (HX (gEm Γ) ad Q S P B) (fun v h' => v = some (iv (rk1 (clK B.2.2.1 B.1 B.1) B.1 B.1)) ∧ (B.2.2.2.1 = 1 ∧ B.2.2.2.2 ≤ 0) ∧ h' = HX (gEm Γ) ad Q S P (B.1, B.2.1, rkK (clK B.2.2.1 B.1 B.1) B.1 B.1, 0, B.2.2.2.2)) (fun X0 h' => h' = HX (gEm Γ) ad Q S P B ∧ X0 = "java/lang/IllegalStateException" ∧ ¬ (B.2.2.2.1 = 1 ∧ B.2.2.2.2 ≤ 0)) := by
  refine Ct.intro hfl (by decide +kernel) rfl (Nat.le_of_ble_eq_true rfl) ?_
  intro G C R T
  show G 0 [some (.ref (ad (0, 0))), none, none] [] (HX (gEm Γ) ad Q S P B) 0 0
  refine gk_aload_n C dX4_close_0 rfl ?_
  refine gk_getf C f_X4_45.r dX4_close_1 (hx_0 I) (by rfl) ?_
  refine gk_if_eq C (tgt := 14) (by omega) dX4_close_4 (by decide) (fun c_4 => ?_) (fun c_4 => ?_)
  · exact T 14 _ _ _ _ _ _ _ 68 271 72 th_X4_close_14 ⟨rfl, rfl, by omega⟩ (by decide) (by exact Nat.le_of_ble_eq_true rfl) (by decide) (by decide) td_X4_close_14
  · refine gk_aload_n C dX4_close_7 rfl ?_
    refine gk_getf C f_X4_49.r dX4_close_8 (hx_0 I) (by rfl) ?_
    refine gk_if_le C (tgt := 25) (by omega) dX4_close_11 (by decide) (fun c_11 => ?_) (fun c_11 => ?_)
    · refine gk_iconst C dX4_close_25 ?_
      refine gk_istore_n_1 C rfl (by decide) dX4_close_26 ?_
      have key : ∀ (n k : Nat) x2, (B.1 : Int) - k < n → k ≤ B.1 → G 27 [some (.ref (ad (0, 0))), some (iv (k : Int)), x2] [] (HX (gEm Γ) ad Q S P (B.1, B.2.1, (clK B.2.2.1 B.1 k), B.2.2.2.1, B.2.2.2.2)) 0 0 := by
        intro n
        induction n with
        | zero => intro k x2 h1; omega
        | succ n ih =>
          intro k x2 hn0 hk
          have IG := IX_B I (bf := (clK B.2.2.1 B.1 k)) (op := B.2.2.2.1) (mm := B.2.2.2.2)
          have hok1 : ∀ i, i < B.1 → baOk (B.2.2.1 i) := fun i hi => (hok i hi).1
          have hokc := clK_ok hok1 hn k hk
          have ek : (clK B.2.2.1 B.1 k) k = B.2.2.1 k := clK_ge k k (Nat.le_refl _)
          have er : (clK B.2.2.1 B.1 (k + 1)) = tset (clK B.2.2.1 B.1 k) k (if bTp (B.2.2.1 k) = 1 then bPl (bFg (B.2.2.1 k)) (plF B.2.2.1 B.1 k 4) (plS B.2.2.1 B.1 k 4) else bFg (B.2.2.1 k)) := rfl
          have fin0 : ∀ x2, k < B.1 → ¬ bTp (B.2.2.1 k) = 1 → G 27 [some (.ref (ad (0, 0))), some (iv ((k : Int) + 1)), x2] [] (HX (gEm Γ) ad Q S P (B.1, B.2.1, (tset (clK B.2.2.1 B.1 k) k (bFg (B.2.2.1 k))), B.2.2.2.1, B.2.2.2.2)) 0 0 := by
            intro x2 h1 h2
            have h9 := ih (k + 1) x2 (by omega) (by omega)
            rw [er, if_neg h2] at h9
            exact h9
          have fin1 : ∀ x2, k < B.1 → bTp (B.2.2.1 k) = 1 → G 27 [some (.ref (ad (0, 0))), some (iv ((k : Int) + 1)), x2] [] (HX (gEm Γ) ad Q S P (B.1, B.2.1, (tset (clK B.2.2.1 B.1 k) k (bPl (bFg (B.2.2.1 k)) (plF B.2.2.1 B.1 k 4) (plS B.2.2.1 B.1 k 4))), B.2.2.2.1, B.2.2.2.2)) 0 0 := by
            intro x2 h1 h2
            have h9 := ih (k + 1) x2 (by omega) (by omega)
            rw [er, if_pos h2] at h9
            exact h9
          refine gk_iload_n C dX4_close_27 rfl ?_
          refine gk_aload_n C dX4_close_28 rfl ?_
          refine gk_getf C f_X4_42.r dX4_close_29 (hx_0 IG) (by rfl) ?_
          refine gk_callV C o_Jx4a65c_size_8abf5 k_X4_64 dX4_close_32 (c_AL_size hfl (hx_7s IG)) (hx_7s IG) rfl rfl rfl (by decide) (by decide) (by exact Nat.le_of_ble_eq_true rfl) (fun _ _ z => z.elim) (fun v_32 h_32 p_32 => ?_)
          obtain ⟨rfl, rfl⟩ := p_32
          dsimp only [gk_push]
          refine gk_icmp_ge C (tgt := 72) (by omega) (by omega) dX4_close_35 (by decide) (fun c_35 => ?_) (fun c_35 => ?_)
          · have ekn : k = B.1 := by omega
            rw [ekn] at IG hokc ⊢
            refine gk_aload_n C dX4_close_72 rfl ?_
            refine gk_callV C o_X4_rankBands k_X4_280 dX4_close_73 (x_rankBands hfl IG hn (fun i hi => ⟨hokc i hi, by have := (hok i hi).2.1; have e := (clK_same (bf := B.2.2.1) (n := B.1) B.1 i).2.2.2.2.1; dsimp only; omega, by have := (hok i hi).2.2; have e := (clK_same (bf := B.2.2.1) (n := B.1) B.1 i).2.2.2.2.2; dsimp only; omega⟩)) (hx_0 IG) rfl rfl rfl (by decide) (by decide) (by exact Nat.le_of_ble_eq_true rfl) (fun _ _ z => z.elim) (fun v_73 h_73 p_73 => ?_)
            obtain ⟨rfl, rfl⟩ := p_73
            dsimp only [gk_push]
            have IZ := IX_B I (bf := rkK (clK B.2.2.1 B.1 B.1) B.1 B.1) (op := B.2.2.2.1) (mm := B.2.2.2.2)
            refine gk_istore_n_1 C rfl (by decide) dX4_close_76 ?_
            refine gk_aload_n C dX4_close_77 rfl ?_
            refine gk_iconst C dX4_close_78 ?_
            refine gk_putf C f_X4_45 dX4_close_79 (hx_0 IZ) (gk_nb (by omega)).1 (gk_nb (by omega)).2 (by exact Nat.le_of_ble_eq_true rfl) ?_
            refine gk_iload_n C dX4_close_82 rfl ?_
            refine (R _ _ _ _ _ (by decide) (by decide)).1 _ rfl dX4_close_83 ?_
            exact ⟨rfl, ⟨by omega, by omega⟩, hx_S0 IZ⟩
          · have hk1 : k < B.1 := by omega
            obtain ⟨k1, k2, k3, k4, k5, k6, k7, k8, k9⟩ := (hok k hk1).1
            have hkb := hx_20 IG hk1
            dsimp only at hkb
            rw [ek] at hkb
            have I1 := IX_B I (bf := (tset (clK B.2.2.1 B.1 k) k (bFg (B.2.2.1 k)))) (op := B.2.2.2.1) (mm := B.2.2.2.2)
            have hokf : ∀ i, i < B.1 → baOk ((tset (clK B.2.2.1 B.1 k) k (bFg (B.2.2.1 k))) i) := fun i hi => by
              by_cases c : i = k
              · rw [c, tset_eq]; exact bFg_ok (hok k hk1).1
              · rw [tset_ne c]; exact hokc i hi
            have sT : ∀ j, bTp ((tset (clK B.2.2.1 B.1 k) k (bFg (B.2.2.1 k))) j) = bTp (B.2.2.1 j) := fun j => by
              by_cases c : j = k
              · rw [c, tset_eq]; rfl
              · rw [tset_ne c]; exact (clK_same k j).1
            have sM : ∀ j, bM ((tset (clK B.2.2.1 B.1 k) k (bFg (B.2.2.1 k))) j) = bM (B.2.2.1 j) := fun j => by
              by_cases c : j = k
              · rw [c, tset_eq]; rfl
              · rw [tset_ne c]; exact (clK_same k j).2.1
            have sP : bP ((tset (clK B.2.2.1 B.1 k) k (bFg (B.2.2.1 k))) k) = bP (B.2.2.1 k) := by rw [tset_eq]; rfl
            have sF := plF_congr (n := B.1) (i := k) sT sM sP 4
            refine gk_aload_n C dX4_close_38 rfl ?_
            refine gk_getf C f_X4_42.r dX4_close_39 (hx_0 IG) (by rfl) ?_
            refine gk_iload_n C dX4_close_42 rfl ?_
            refine gk_callV C o_Jx4a65c_get_915e3 k_X4_134 dX4_close_43 (c_AL_get hfl (hx_7a IG (has_of hk1)) (hx_12 IG (has_of hk1)) (y := ad (20, k)) (z := (k : Int)) (by omega) (by omega) (rw_at (g := (fun i => ad (20, i))) (by omega))) (hx_7s IG) rfl rfl rfl (by decide) (by decide) (by exact Nat.le_of_ble_eq_true rfl) (fun _ _ z => z.elim) (fun v_43 h_43 p_43 => ?_)
            obtain ⟨rfl, rfl⟩ := p_43
            dsimp only [gk_push]
            refine gk_cast C cw_X4_238 rfl (hx_20 IG hk1) dX4_close_46 ?_
            refine gk_astore_n_2 C rfl (by decide) dX4_close_49 ?_
            refine gk_aload_n C dX4_close_50 rfl ?_
            refine gk_callV C o_X0_forgetResult k_X4_273 dX4_close_51 (c_X0_forgetR hfl hkb) hkb rfl rfl rfl (by decide) (by decide) (by exact Nat.le_of_ble_eq_true rfl) (fun _ _ z => z.elim) (fun v_51 h_51 p_51 => ?_)
            obtain ⟨rfl, rfl⟩ := p_51
            dsimp only [gk_push]
            refine gi_cast (hx_S20 IG hk1 (gr := bGr (B.2.2.1 k)) (ng := bNg (B.2.2.1 k)) (po := bPo (B.2.2.1 k)) (rk := -1) (su := -1) (fi := bFi (B.2.2.1 k)) (tp := bTp (B.2.2.1 k))) ?_
            dsimp only
            rw [ek]
            refine gi_cast (h2 := HX (gEm Γ) ad Q S P (B.1, B.2.1, (tset (clK B.2.2.1 B.1 k) k (bFg (B.2.2.1 k))), B.2.2.2.1, B.2.2.2.2)) rfl ?_
            refine gk_aload_n C dX4_close_54 rfl ?_
            refine gk_getf C f_X4_249.r dX4_close_55 (hx_20 I1 hk1) (by rfl) ?_
            try dsimp only
            rw [sT]
            refine gk_if_eq C (tgt := 66) (by omega) dX4_close_58 (by decide) (fun c_58 => ?_) (fun c_58 => ?_)
            · refine gk_iinc_1 C rfl (by decide) dX4_close_66 ?_
              refine gk_goto C (tgt := 27) dX4_close_69 (by decide) ?_
              first | exact fin0 _ (by omega) (by omega) | exact fin1 _ (by omega) (by omega)
            · refine gk_aload_n C dX4_close_61 rfl ?_
              refine gk_aload_n C dX4_close_62 rfl ?_
              refine gk_callV C o_X4_findPlaces k_X4_276 dX4_close_63 (x_findPlaces hfl I1 hn hokf hk1) (hx_0 I1) rfl rfl rfl (by decide) (by decide) (by exact Nat.le_of_ble_eq_true rfl) (fun _ _ z => z.elim) (fun v_63 h_63 p_63 => ?_)
              obtain ⟨rfl, rfl⟩ := p_63
              dsimp only [gk_push]
              try dsimp only
              rw [tset_2, tset_eq, sF.1, sF.2]
              refine gk_iinc_1 C rfl (by decide) dX4_close_66 ?_
              refine gk_goto C (tgt := 27) dX4_close_69 (by decide) ?_
              first | exact fin0 _ (by omega) (by omega) | exact fin1 _ (by omega) (by omega)
      exact key 9 0 none (by omega) (by omega)
    · exact T 14 _ _ _ _ _ _ _ 68 271 72 th_X4_close_14 ⟨rfl, rfl, by omega⟩ (by decide) (by exact Nat.le_of_ble_eq_true rfl) (by decide) (by decide) td_X4_close_14
