/-! the class: odd, play -/
def pAdv (p : PiS) (m : Nat) (rain heat : Int) : PiS := ((pIt (pStep (pB p) (pZ p) rain heat) m (pR p, pW p, pT p)).1, pP p, pB p, pS p, (pIt (pStep (pB p) (pZ p) rain heat) m (pR p, pW p, pT p)).2.1, (pIt (pStep (pB p) (pZ p) rain heat) m (pR p, pW p, pT p)).2.2, pZ p)
theorem pAdv_ok {p : PiS} {m : Nat} {rain heat : Int} (h : piOk p) (hr : 0 ≤ rain ∧ rain ≤ 9) (hh : 0 ≤ heat ∧ heat ≤ 40) : piOk (pAdv p m rain heat) := by
  obtain ⟨h1, h2, h3, h4, h5, h6, h7⟩ := h
  have k := pIt_ok (z := pZ p) h3 hr hh m (pR p, pW p, pT p) ⟨h1, h5, h6⟩
  exact ⟨k.1, h2, h3, h4, k.2.1, k.2.2, h7⟩
def advK (pf : Nat → PiS) (m : Nat) (rain heat : Int) : Nat → Nat → PiS
  | 0 => pf
  | k + 1 => tset (advK pf m rain heat k) k (pAdv (pf k) m rain heat)
theorem advK_ge {pf : Nat → PiS} {m : Nat} {rain heat : Int} : ∀ (k j : Nat), k ≤ j → advK pf m rain heat k j = pf j
  | 0, _, _ => rfl
  | k + 1, j, h => by
    show tset (advK pf m rain heat k) k (pAdv (pf k) m rain heat) j = _
    rw [tset_ne (by omega), advK_ge k j (by omega)]
theorem advK_lt {pf : Nat → PiS} {m : Nat} {rain heat : Int} : ∀ (k j : Nat), j < k → advK pf m rain heat k j = pAdv (pf j) m rain heat
  | 0, _, h => absurd h (Nat.not_lt_zero _)
  | k + 1, j, h => by
    show tset (advK pf m rain heat k) k (pAdv (pf k) m rain heat) j = _
    by_cases c : j = k
    · rw [c, tset_eq]
    · rw [tset_ne c, advK_lt k j (by omega)]
theorem gat_ext {pf pg : Nat → PiS} {f : Int → Int} {w : Int} : ∀ k : Nat, (∀ j, j < k → pf j = pg j) → gatK pf f w k = gatK pg f w k
  | 0, _ => rfl
  | k + 1, h => by
    have ih := gat_ext (f := f) (w := w) k (fun j hj => h j (by omega))
    show (if pZ (pf k) = 0 ∧ ¬ (k : Int) = w then ((gatK pf f w k).1 + 1, pins (pPit (pf k)) (gatK pf f w k).1 (gatK pf f w k).2) else gatK pf f w k) = if pZ (pg k) = 0 ∧ ¬ (k : Int) = w then ((gatK pg f w k).1 + 1, pins (pPit (pg k)) (gatK pg f w k).1 (gatK pg f w k).2) else gatK pg f w k
    rw [ih, h k (by omega)]
section XQ
variable {E : Nat} {ad : XK → Nat} {Q : XTs} {S : XSs} {P : XPs} {B : XBs}
theorem hx_5p (I : IX E ad Q S P B) : HX E ad Q S P B (ad (5, 0)) = some (oPi (pR P.2.2.2.1) (pP P.2.2.2.1) (pB P.2.2.2.1) (pS P.2.2.2.1) (pW P.2.2.2.1) (pT P.2.2.2.1) (pZ P.2.2.2.1)) := hx_5 I
theorem hx_ne5 (I : IX E ad Q S P B) {k : Nat} (hk : k < P.1) : ad (5, 0) ≠ ad (19, k) := by
  intro z
  have h3 := I (5, 0) (19, k) (by intro y; cases y) (by rw [XM_pi hk]; intro y; cases y) z
  have h4 := congrArg Prod.fst h3
  cases h4
end XQ

set_option maxRecDepth 100000 in
set_option maxHeartbeats 4000000 in
theorem x_odd {l : Launch} {Γ : GA} (hfl : l.stackTraces = false) {ad : XK → Nat} {Q : XTs} {S : XSs} {P : XPs} {B : XBs} (I : IX (gEm Γ) ad Q S P B) (hn : P.1 ≤ 8) (hok : ∀ i, i < P.1 → piOk (P.2.2.1 i)) (hf0 : ∀ i, -1000000 ≤ P.2.2.2.2.2 i ∧ P.2.2.2.2.2 i ≤ 1000000) : Ct l Γ m_X4_odd [.ref (ad (0, 0))] (HX (gEm Γ) ad Q S P B) (fun v h' => v = some (iv (if gCnt P.2.2.1 P.1 (-1) < 2 then -1 else (oddK P.2.2.1 P.1 P.1).1)) ∧ ∃ (c2 : Nat) (f2 : Int → Int), c2 ≤ 8 ∧ (∀ i, -1000000 ≤ f2 i ∧ f2 i ≤ 1000000) ∧ h' = HX (gEm Γ) ad Q S (P.1, P.2.1, P.2.2.1, P.2.2.2.1, c2, f2) B) (fun _ _ => False) := by
  have ec := gCnt_of (pf := P.2.2.1) (f := P.2.2.2.2.2) (n := P.1) (w := -1)
  have hgb0 := gatK_bd (w := -1) hf0 P.1 hok
  refine Ct.intro hfl (by decide +kernel) rfl (Nat.le_of_ble_eq_true rfl) ?_
  intro G C R T
  show G 0 [some (.ref (ad (0, 0))), none, none, none, none] [] (HX (gEm Γ) ad Q S P B) 0 0
  refine gk_aload_n C dX4_odd_0 rfl ?_
  refine gk_iconst C dX4_odd_1 ?_
  refine gk_callV C o_X4_gatherPitchesWithout k_X4_200 dX4_odd_2 (x_gather hfl I (P := P) hn hok hf0 (w := -1) (by omega)) (hx_0 I) rfl rfl rfl (by decide) (by decide) (by exact Nat.le_of_ble_eq_true rfl) (fun _ _ z => z.elim) (fun v_2 h_2 p_2 => ?_)
  obtain ⟨rfl, rfl⟩ := p_2
  dsimp only [gk_push]
  have IG := IX_P I (pf := P.2.2.1) (tr := P.2.2.2.1) (c := (gatK P.2.2.1 P.2.2.2.2.2 (-1) P.1).1) (f := (gatK P.2.2.1 P.2.2.2.2.2 (-1) P.1).2)
  have hgb := gatK_bd (w := (-1)) hf0 P.1 hok
  refine gk_aload_n C dX4_odd_5 rfl ?_
  refine gk_getf C f_X4_38.r dX4_odd_6 (hx_0 IG) (by rfl) ?_
  refine gk_getf C f_X4_204.r dX4_odd_9 (hx_6 IG) (by rfl) ?_
  dsimp only
  refine gk_iconst C dX4_odd_12 ?_
  refine gk_icmp_ge C (tgt := 18) (by omega) (by omega) dX4_odd_13 (by decide) (fun c_13 => ?_) (fun c_13 => ?_)
  · refine gk_iconst C dX4_odd_18 ?_
    refine gk_istore_n_1 C rfl (by decide) dX4_odd_19 ?_
    refine gk_iconst C dX4_odd_20 ?_
    refine gk_istore_n_2 C rfl (by decide) dX4_odd_21 ?_
    refine gk_iconst C dX4_odd_22 ?_
    refine gk_istore_n_3 C rfl (by decide) dX4_odd_23 ?_
    have key : ∀ (n k : Nat) (c : Nat) (f : Int → Int) x4, (P.1 : Int) - k < n → k ≤ P.1 → c ≤ 8 → (∀ i, -1000000 ≤ f i ∧ f i ≤ 1000000) → G 24 [some (.ref (ad (0, 0))), some (iv (oddK P.2.2.1 P.1 k).1), some (iv (oddK P.2.2.1 P.1 k).2), some (iv (k : Int)), x4] [] (HX (gEm Γ) ad Q S (P.1, P.2.1, P.2.2.1, P.2.2.2.1, c, f) B) 0 0 := by
      intro n
      induction n with
      | zero => intro k c f x4 h1; omega
      | succ n ih =>
        intro k c f x4 hn0 hk hc hf
        have IG := IX_P I (pf := P.2.2.1) (tr := P.2.2.2.1) (c := c) (f := f)
        have bo := oddK_bd hok k
        have bs := gSp_bd (w := (k : Int)) hok
        have eo : oddK P.2.2.1 P.1 (k + 1) = if pZ (P.2.2.1 k) = 0 ∧ ((oddK P.2.2.1 P.1 k).1 = -1 ∨ gSp P.2.2.1 P.1 k < (oddK P.2.2.1 P.1 k).2) then ((k : Int), gSp P.2.2.1 P.1 k) else (oddK P.2.2.1 P.1 k) := rfl
        have fin0 : ∀ (c : Nat) (f : Int → Int) x4, k < P.1 → c ≤ 8 → (∀ i, -1000000 ≤ f i ∧ f i ≤ 1000000) → ¬ (pZ (P.2.2.1 k) = 0 ∧ ((oddK P.2.2.1 P.1 k).1 = -1 ∨ gSp P.2.2.1 P.1 k < (oddK P.2.2.1 P.1 k).2)) → G 24 [some (.ref (ad (0, 0))), some (iv (oddK P.2.2.1 P.1 k).1), some (iv (oddK P.2.2.1 P.1 k).2), some (iv ((k : Int) + 1)), x4] [] (HX (gEm Γ) ad Q S (P.1, P.2.1, P.2.2.1, P.2.2.2.1, c, f) B) 0 0 := by
          intro c f x4 h1 hc hf h2
          have h9 := ih (k + 1) c f x4 (by omega) (by omega) hc hf
          rw [eo, if_neg h2] at h9
          exact h9
        have fin1 : ∀ (c : Nat) (f : Int → Int) x4, k < P.1 → c ≤ 8 → (∀ i, -1000000 ≤ f i ∧ f i ≤ 1000000) → (pZ (P.2.2.1 k) = 0 ∧ ((oddK P.2.2.1 P.1 k).1 = -1 ∨ gSp P.2.2.1 P.1 k < (oddK P.2.2.1 P.1 k).2)) → G 24 [some (.ref (ad (0, 0))), some (iv (k : Int)), some (iv (gSp P.2.2.1 P.1 k)), some (iv ((k : Int) + 1)), x4] [] (HX (gEm Γ) ad Q S (P.1, P.2.1, P.2.2.1, P.2.2.2.1, c, f) B) 0 0 := by
          intro c f x4 h1 hc hf h2
          have h9 := ih (k + 1) c f x4 (by omega) (by omega) hc hf
          rw [eo, if_pos h2] at h9
          exact h9
        refine gk_iload_n C dX4_odd_24 rfl ?_
        refine gk_aload_n C dX4_odd_25 rfl ?_
        refine gk_getf C f_X4_23.r dX4_odd_26 (hx_0 IG) (by rfl) ?_
        refine gk_callV C o_Jx4a65c_size_8abf5 k_X4_64 dX4_odd_29 (c_AL_size hfl (hx_4s IG)) (hx_4s IG) rfl rfl rfl (by decide) (by decide) (by exact Nat.le_of_ble_eq_true rfl) (fun _ _ z => z.elim) (fun v_29 h_29 p_29 => ?_)
        obtain ⟨rfl, rfl⟩ := p_29
        dsimp only [gk_push]
        refine gk_icmp_ge C (tgt := 84) (by omega) (by omega) dX4_odd_32 (by decide) (fun c_32 => ?_) (fun c_32 => ?_)
        · refine gk_iload_n C dX4_odd_84 rfl ?_
          refine (R _ _ _ _ _ (by decide) (by decide)).1 _ rfl dX4_odd_85 ?_
          rw [show k = P.1 by omega]
          exact ⟨congrArg (fun q => some (iv q)) (by rw [if_neg (show ¬ gCnt P.2.2.1 P.1 (-1) < 2 by omega)]), c, f, hc, hf, rfl⟩
        · have hk1 : k < P.1 := by omega
          obtain ⟨k1, k2, k3, k4, k5, k6, k7⟩ := hok k hk1
          refine gk_aload_n C dX4_odd_35 rfl ?_
          refine gk_getf C f_X4_23.r dX4_odd_36 (hx_0 IG) (by rfl) ?_
          refine gk_iload_n C dX4_odd_39 rfl ?_
          refine gk_callV C o_Jx4a65c_get_915e3 k_X4_134 dX4_odd_40 (c_AL_get hfl (hx_4a IG (has_of hk1)) (hx_11 IG (has_of hk1)) (y := ad (19, k)) (z := (k : Int)) (by omega) (by omega) (rw_at (g := (fun i => ad (19, i))) (by omega))) (hx_4s IG) rfl rfl rfl (by decide) (by decide) (by exact Nat.le_of_ble_eq_true rfl) (fun _ _ z => z.elim) (fun v_40 h_40 p_40 => ?_)
          obtain ⟨rfl, rfl⟩ := p_40
          dsimp only [gk_push]
          refine gk_cast C cw_X4_26 rfl (hx_19 IG hk1) dX4_odd_43 ?_
          refine gk_getf C f_X4_181.r dX4_odd_46 (hx_19 IG hk1) (by rfl) ?_
          try dsimp only
          refine gk_if_eq C (tgt := 55) (by omega) dX4_odd_49 (by decide) (fun c_49 => ?_) (fun c_49 => ?_)
          · refine gk_aload_n C dX4_odd_55 rfl ?_
            refine gk_iload_n C dX4_odd_56 rfl ?_
            refine gk_callV C o_X4_spreadWithout k_X4_192 dX4_odd_57 (x_spreadW hfl IG hn hok hf (w := (k : Int)) (by omega)) (hx_0 IG) rfl rfl rfl (by decide) (by decide) (by exact Nat.le_of_ble_eq_true rfl) (fun _ _ z => z.elim) (fun v_57 h_57 p_57 => ?_)
            obtain ⟨rfl, c2, f2, hc2, hf2, rfl⟩ := p_57
            dsimp only [gk_push]
            refine gk_istore_4 C rfl (by decide) dX4_odd_60 ?_
            refine gk_iload_n C dX4_odd_62 rfl ?_
            refine gk_iconst C dX4_odd_63 ?_
            refine gk_icmp_eq C (tgt := 73) (by omega) (by omega) dX4_odd_64 (by decide) (fun c_64 => ?_) (fun c_64 => ?_)
            · refine gk_iload_n C dX4_odd_73 rfl ?_
              refine gk_istore_n_1 C rfl (by decide) dX4_odd_74 ?_
              refine gk_iload C dX4_odd_75 rfl ?_
              refine gk_istore_n_2 C rfl (by decide) dX4_odd_77 ?_
              refine gk_iinc_3 C rfl (by decide) dX4_odd_78 ?_
              refine gk_goto C (tgt := 24) dX4_odd_81 (by decide) ?_
              first | exact fin0 _ _ _ (by omega) hc hf (fun z => absurd z.1 (by omega)) | exact fin1 _ _ _ (by omega) hc2 hf2 (by omega) | exact fin0 _ _ _ (by omega) hc2 hf2 (by omega)
            · refine gk_iload C dX4_odd_67 rfl ?_
              refine gk_iload_n C dX4_odd_69 rfl ?_
              refine gk_icmp_ge C (tgt := 78) (by omega) (by omega) dX4_odd_70 (by decide) (fun c_70 => ?_) (fun c_70 => ?_)
              · refine gk_iinc_3 C rfl (by decide) dX4_odd_78 ?_
                refine gk_goto C (tgt := 24) dX4_odd_81 (by decide) ?_
                first | exact fin0 _ _ _ (by omega) hc hf (fun z => absurd z.1 (by omega)) | exact fin1 _ _ _ (by omega) hc2 hf2 (by omega) | exact fin0 _ _ _ (by omega) hc2 hf2 (by omega)
              · refine gk_iload_n C dX4_odd_73 rfl ?_
                refine gk_istore_n_1 C rfl (by decide) dX4_odd_74 ?_
                refine gk_iload C dX4_odd_75 rfl ?_
                refine gk_istore_n_2 C rfl (by decide) dX4_odd_77 ?_
                refine gk_iinc_3 C rfl (by decide) dX4_odd_78 ?_
                refine gk_goto C (tgt := 24) dX4_odd_81 (by decide) ?_
                first | exact fin0 _ _ _ (by omega) hc hf (fun z => absurd z.1 (by omega)) | exact fin1 _ _ _ (by omega) hc2 hf2 (by omega) | exact fin0 _ _ _ (by omega) hc2 hf2 (by omega)
          · refine gk_goto C (tgt := 78) dX4_odd_52 (by decide) ?_
            refine gk_iinc_3 C rfl (by decide) dX4_odd_78 ?_
            refine gk_goto C (tgt := 24) dX4_odd_81 (by decide) ?_
            first | exact fin0 _ _ _ (by omega) hc hf (fun z => absurd z.1 (by omega)) | exact fin1 _ _ _ (by omega) hc2 hf2 (by omega) | exact fin0 _ _ _ (by omega) hc2 hf2 (by omega)
    exact key 9 0 _ _ none (by omega) (by omega) (show (gatK P.2.2.1 P.2.2.2.2.2 (-1) P.1).1 ≤ 8 by omega) hgb0.2
  · refine gk_iconst C dX4_odd_16 ?_
    refine (R _ _ _ _ _ (by decide) (by decide)).1 _ rfl dX4_odd_17 ?_
    exact ⟨congrArg (fun q => some (iv q)) (by rw [if_pos (show gCnt P.2.2.1 P.1 (-1) < 2 by omega)]), _, _, (show (gatK P.2.2.1 P.2.2.2.2.2 (-1) P.1).1 ≤ 8 by omega), hgb0.2, rfl⟩

set_option maxRecDepth 100000 in
set_option maxHeartbeats 4000000 in
theorem x_play {l : Launch} {Γ : GA} (hfl : l.stackTraces = false) {ad : XK → Nat} {Q : XTs} {S : XSs} {P : XPs} {B : XBs} (I : IX (gEm Γ) ad Q S P B) (hn : P.1 ≤ 8) (hok : ∀ i, i < P.1 → piOk (P.2.2.1 i)) (hf0 : ∀ i, -1000000 ≤ P.2.2.2.2.2 i ∧ P.2.2.2.2.2 i ≤ 1000000) (hpc : P.2.2.2.2.1 ≤ 8) {m rain heat : Int} (hm : -2147483648 ≤ m ∧ m ≤ 2147483647)(hrain : -2147483648 ≤ rain ∧ rain ≤ 2147483647)(hheat : -2147483648 ≤ heat ∧ heat ≤ 2147483647) : Ct l Γ m_X4_play [.ref (ad (0, 0)), iv m, iv rain, iv heat] (HX (gEm Γ) ad Q S P B) (fun v h' => v = some (iv (gSp (advK P.2.2.1 m.toNat rain heat P.1) P.1 (-1))) ∧ isMin m rain heat ∧ (∃ (c2 : Nat) (f2 : Int → Int), c2 ≤ 8 ∧ (∀ i, -1000000 ≤ f2 i ∧ f2 i ≤ 1000000) ∧ h' = HX (gEm Γ) ad Q S (P.1, P.2.1, advK P.2.2.1 m.toNat rain heat P.1, P.2.2.2.1, c2, f2) B)) (fun X0 h' => h' = HX (gEm Γ) ad Q S P B ∧ X0 = "java/lang/IllegalArgumentException" ∧ ¬ isMin m rain heat) := by
  refine Ct.intro hfl (by decide +kernel) rfl (Nat.le_of_ble_eq_true rfl) ?_
  intro G C R T
  show G 0 [some (.ref (ad (0, 0))), some (iv m), some (iv rain), some (iv heat), none] [] (HX (gEm Γ) ad Q S P B) 0 0
  refine gk_iload_n C dX4_play_0 rfl ?_
  refine gk_iload_n C dX4_play_1 rfl ?_
  refine gk_iload_n C dX4_play_2 rfl ?_
  refine gk_callS C o_X4_isWeather k_X4_184 dX4_play_3 (x_isWeather hfl hm hrain hheat) rfl rfl (by decide) (by decide) (by exact Nat.le_of_ble_eq_true rfl) (fun _ _ z => z.elim) (fun v_3 h_3 p_3 => ?_)
  obtain ⟨r_3, rfl, rb_3, rc_3, rfl⟩ := p_3
  dsimp only [gk_push]
  refine gk_if_ne C (tgt := 19) (by omega) dX4_play_6 (by decide) (fun c_6 => ?_) (fun c_6 => ?_)
  · have hmin := rc_3.mp (by omega)
    have hmin2 := hmin
    unfold isMin at hmin2
    obtain ⟨mm, rfl⟩ : ∃ mm : Nat, m = (mm : Int) := ⟨m.toNat, by omega⟩
    refine gk_iconst C dX4_play_19 ?_
    refine gk_istore_4 C rfl (by decide) dX4_play_20 ?_
    have key : ∀ (n k : Nat), (P.1 : Int) - k < n → k ≤ P.1 → G 22 [some (.ref (ad (0, 0))), some (iv (mm : Int)), some (iv rain), some (iv heat), some (iv (k : Int))] [] (HX (gEm Γ) ad Q S (P.1, P.2.1, (advK P.2.2.1 mm rain heat k), P.2.2.2.1, P.2.2.2.2.1, P.2.2.2.2.2) B) 0 0 := by
      intro n
      induction n with
      | zero => intro k h1; omega
      | succ n ih =>
        intro k hn0 hk
        have IG := IX_P I (pf := (advK P.2.2.1 mm rain heat k)) (tr := P.2.2.2.1) (c := P.2.2.2.2.1) (f := P.2.2.2.2.2)
        refine gk_iload C dX4_play_22 rfl ?_
        refine gk_aload_n C dX4_play_24 rfl ?_
        refine gk_getf C f_X4_23.r dX4_play_25 (hx_0 IG) (by rfl) ?_
        refine gk_callV C o_Jx4a65c_size_8abf5 k_X4_64 dX4_play_28 (c_AL_size hfl (hx_4s IG)) (hx_4s IG) rfl rfl rfl (by decide) (by decide) (by exact Nat.le_of_ble_eq_true rfl) (fun _ _ z => z.elim) (fun v_28 h_28 p_28 => ?_)
        obtain ⟨rfl, rfl⟩ := p_28
        dsimp only [gk_push]
        refine gk_icmp_ge C (tgt := 58) (by omega) (by omega) dX4_play_31 (by decide) (fun c_31 => ?_) (fun c_31 => ?_)
        · rw [show k = P.1 by omega] at IG ⊢
          have hoa : ∀ i, i < P.1 → piOk (advK P.2.2.1 mm rain heat P.1 i) := fun i hi => by rw [advK_lt P.1 i hi]; exact pAdv_ok (hok i hi) (by omega) (by omega)
          refine gk_aload_n C dX4_play_58 rfl ?_
          refine gk_iconst C dX4_play_59 ?_
          refine gk_callV C o_X4_spreadWithout k_X4_192 dX4_play_60 (x_spreadW hfl IG hn hoa hf0 (w := -1) (by omega)) (hx_0 IG) rfl rfl rfl (by decide) (by decide) (by exact Nat.le_of_ble_eq_true rfl) (fun _ _ z => z.elim) (fun v_60 h_60 p_60 => ?_)
          obtain ⟨rfl, c2, f2, hc2, hf2, rfl⟩ := p_60
          dsimp only [gk_push]
          refine (R _ _ _ _ _ (by decide) (by decide)).1 _ rfl dX4_play_63 ?_
          exact ⟨rfl, hmin, c2, f2, hc2, hf2, rfl⟩
        · have hk1 : k < P.1 := by omega
          obtain ⟨k1, k2, k3, k4, k5, k6, k7⟩ := hok k hk1
          have hpk := hx_19 IG hk1
          dsimp only at hpk
          rw [advK_ge k k (Nat.le_refl _)] at hpk
          refine gk_aload_n C dX4_play_34 rfl ?_
          refine gk_getf C f_X4_23.r dX4_play_35 (hx_0 IG) (by rfl) ?_
          refine gk_iload C dX4_play_38 rfl ?_
          refine gk_callV C o_Jx4a65c_get_915e3 k_X4_134 dX4_play_40 (c_AL_get hfl (hx_4a IG (has_of hk1)) (hx_11 IG (has_of hk1)) (y := ad (19, k)) (z := (k : Int)) (by omega) (by omega) (rw_at (g := (fun i => ad (19, i))) (by omega))) (hx_4s IG) rfl rfl rfl (by decide) (by decide) (by exact Nat.le_of_ble_eq_true rfl) (fun _ _ z => z.elim) (fun v_40 h_40 p_40 => ?_)
          obtain ⟨rfl, rfl⟩ := p_40
          dsimp only [gk_push]
          refine gk_cast C cw_X4_26 rfl hpk dX4_play_43 ?_
          refine gk_iload_n C dX4_play_46 rfl ?_
          refine gk_iload_n C dX4_play_47 rfl ?_
          refine gk_iload_n C dX4_play_48 rfl ?_
          refine gk_callV C o_X1_goThrough k_X4_189 dX4_play_49 (c_X1_go hfl hpk (minutes := (mm : Int)) (rain := rain) (heat := heat) ⟨k1, k5, k6⟩ k2 k3 k4 k7 (by omega) (by omega) (by omega)) hpk rfl rfl rfl (by decide) (by decide) (by exact Nat.le_of_ble_eq_true rfl) (fun _ _ z => z.elim) (fun v_49 h_49 p_49 => ?_)
          obtain ⟨rfl, r3, w3, t3, h3, rfl⟩ := p_49
          dsimp only [gk_push]
          have e1 : r3 = (pIt (pStep (pB (P.2.2.1 k)) (pZ (P.2.2.1 k)) rain heat) mm (pR (P.2.2.1 k), pW (P.2.2.1 k), pT (P.2.2.1 k))).1 := congrArg Prod.fst h3
          have e2 : w3 = (pIt (pStep (pB (P.2.2.1 k)) (pZ (P.2.2.1 k)) rain heat) mm (pR (P.2.2.1 k), pW (P.2.2.1 k), pT (P.2.2.1 k))).2.1 := congrArg (fun q => q.2.1) h3
          have e3 : t3 = (pIt (pStep (pB (P.2.2.1 k)) (pZ (P.2.2.1 k)) rain heat) mm (pR (P.2.2.1 k), pW (P.2.2.1 k), pT (P.2.2.1 k))).2.2 := congrArg (fun q => q.2.2) h3
          rw [e1, e2, e3]
          refine gi_cast (hx_piS IG (p := pAdv (P.2.2.1 k) mm rain heat) hk1) ?_
          refine gk_iinc_4 C rfl (by decide) dX4_play_52 ?_
          refine gk_goto C (tgt := 22) dX4_play_55 (by decide) ?_
          exact ih (k + 1) (by omega) (by omega)
    exact key 9 0 (by omega) (by omega)
  · exact T 9 _ _ _ _ _ _ _ 57 187 61 th_X4_play_9 ⟨rfl, rfl, fun z => by have := rc_3.mpr z; omega⟩ (by decide) (by exact Nat.le_of_ble_eq_true rfl) (by decide) (by decide) td_X4_play_9
