/-! the class: ahead -/
def advA (pf : Nat → PiS) (m : Nat) (rain heat : Int) : Nat → PiS := fun j => pAdv (pf j) m rain heat

set_option maxRecDepth 100000 in
set_option maxHeartbeats 4000000 in
theorem x_ahead {l : Launch} {Γ : GA} (hfl : l.stackTraces = false) {ad : XK → Nat} {Q : XTs} {S : XSs} {P : XPs} {B : XBs} (I : IX (gEm Γ) ad Q S P B) (hn : P.1 ≤ 8) (hok : ∀ i, i < P.1 → piOk (P.2.2.1 i)) (hf0 : ∀ i, -1000000 ≤ P.2.2.2.2.2 i ∧ P.2.2.2.2.2 i ≤ 1000000) {m rain heat : Int} (hm : -2147483648 ≤ m ∧ m ≤ 2147483647)(hrain : -2147483648 ≤ rain ∧ rain ≤ 2147483647)(hheat : -2147483648 ≤ heat ∧ heat ≤ 2147483647) : Ct l Γ m_X4_ahead [.ref (ad (0, 0)), iv m, iv rain, iv heat] (HX (gEm Γ) ad Q S P B) (fun v h' => v = some (iv (gSp (advA P.2.2.1 m.toNat rain heat) P.1 (-1))) ∧ isMin m rain heat ∧ (∃ (tr : PiS) (c2 : Nat) (f2 : Int → Int), c2 ≤ 8 ∧ (∀ i, -1000000 ≤ f2 i ∧ f2 i ≤ 1000000) ∧ h' = HX (gEm Γ) ad Q S (P.1, P.2.1, P.2.2.1, tr, c2, f2) B)) (fun X0 h' => h' = HX (gEm Γ) ad Q S P B ∧ X0 = "java/lang/IllegalArgumentException" ∧ ¬ isMin m rain heat) := by
  refine Ct.intro hfl (by decide +kernel) rfl (Nat.le_of_ble_eq_true rfl) ?_
  intro G C R T
  show G 0 [some (.ref (ad (0, 0))), some (iv m), some (iv rain), some (iv heat), none, none] [] (HX (gEm Γ) ad Q S P B) 0 0
  refine gk_iload_n C dX4_ahead_0 rfl ?_
  refine gk_iload_n C dX4_ahead_1 rfl ?_
  refine gk_iload_n C dX4_ahead_2 rfl ?_
  refine gk_callS C o_X4_isWeather k_X4_184 dX4_ahead_3 (x_isWeather hfl hm hrain hheat) rfl rfl (by decide) (by decide) (by exact Nat.le_of_ble_eq_true rfl) (fun _ _ z => z.elim) (fun v_3 h_3 p_3 => ?_)
  obtain ⟨r_3, rfl, rb_3, rc_3, rfl⟩ := p_3
  dsimp only [gk_push]
  refine gk_if_ne C (tgt := 19) (by omega) dX4_ahead_6 (by decide) (fun c_6 => ?_) (fun c_6 => ?_)
  · have hmin := rc_3.mp (by omega)
    have hmin2 := hmin
    unfold isMin at hmin2
    obtain ⟨mm, rfl⟩ : ∃ mm : Nat, m = (mm : Int) := ⟨m.toNat, by omega⟩
    refine gk_aload_n C dX4_ahead_19 rfl ?_
    refine gk_getf C f_X4_38.r dX4_ahead_20 (hx_0 I) (by rfl) ?_
    refine gk_callV C o_X2_empty k_X4_216 dX4_ahead_23 (c_X2_empty hfl (hx_6 I)) (hx_6 I) rfl rfl rfl (by decide) (by decide) (by exact Nat.le_of_ble_eq_true rfl) (fun _ _ z => z.elim) (fun v_23 h_23 p_23 => ?_)
    obtain ⟨rfl, rfl⟩ := p_23
    dsimp only [gk_push]
    rw [show (oPt (ad (8, 0)) 0) = oPt (ad (8, 0)) ((0 : Nat) : Int) from rfl, hx_S6 I]
    refine gk_iconst C dX4_ahead_26 ?_
    refine gk_istore_4 C rfl (by decide) dX4_ahead_27 ?_
    have key : ∀ (n k : Nat) (tr : PiS) x5, (P.1 : Int) - k < n → k ≤ P.1 → G 29 [some (.ref (ad (0, 0))), some (iv (mm : Int)), some (iv rain), some (iv heat), some (iv (k : Int)), x5] [] (HX (gEm Γ) ad Q S (P.1, P.2.1, P.2.2.1, tr, (gatK (advA P.2.2.1 mm rain heat) P.2.2.2.2.2 (-1) k).1, (gatK (advA P.2.2.1 mm rain heat) P.2.2.2.2.2 (-1) k).2) B) 0 0 := by
      intro n
      induction n with
      | zero => intro k tr x5 h1; omega
      | succ n ih =>
        intro k tr x5 hn0 hk
        have IG := IX_P I (pf := P.2.2.1) (tr := tr) (c := (gatK (advA P.2.2.1 mm rain heat) P.2.2.2.2.2 (-1) k).1) (f := (gatK (advA P.2.2.1 mm rain heat) P.2.2.2.2.2 (-1) k).2)
        have hgb := gatK_bd (pf := advA P.2.2.1 mm rain heat) (w := -1) hf0 k (fun i hi => pAdv_ok (hok i (by omega)) (by omega) (by omega))
        have eg : (gatK (advA P.2.2.1 mm rain heat) P.2.2.2.2.2 (-1) (k + 1)) = if pZ (P.2.2.1 k) = 0 ∧ ¬ (k : Int) = -1 then ((gatK (advA P.2.2.1 mm rain heat) P.2.2.2.2.2 (-1) k).1 + 1, pins (pPit (pAdv (P.2.2.1 k) mm rain heat)) (gatK (advA P.2.2.1 mm rain heat) P.2.2.2.2.2 (-1) k).1 (gatK (advA P.2.2.1 mm rain heat) P.2.2.2.2.2 (-1) k).2) else (gatK (advA P.2.2.1 mm rain heat) P.2.2.2.2.2 (-1) k) := rfl
        have fin0 : ∀ x5, k < P.1 → ¬ pZ (P.2.2.1 k) = 0 → G 29 [some (.ref (ad (0, 0))), some (iv (mm : Int)), some (iv rain), some (iv heat), some (iv ((k : Int) + 1)), x5] [] (HX (gEm Γ) ad Q S (P.1, P.2.1, P.2.2.1, tr, (gatK (advA P.2.2.1 mm rain heat) P.2.2.2.2.2 (-1) k).1, (gatK (advA P.2.2.1 mm rain heat) P.2.2.2.2.2 (-1) k).2) B) 0 0 := by
          intro x5 h1 h2
          have h9 := ih (k + 1) tr x5 (by omega) (by omega)
          rw [eg, if_neg (fun z => h2 z.1)] at h9
          exact h9
        have fin1 : ∀ tr x5, k < P.1 → pZ (P.2.2.1 k) = 0 → G 29 [some (.ref (ad (0, 0))), some (iv (mm : Int)), some (iv rain), some (iv heat), some (iv ((k : Int) + 1)), x5] [] (HX (gEm Γ) ad Q S (P.1, P.2.1, P.2.2.1, tr, ((gatK (advA P.2.2.1 mm rain heat) P.2.2.2.2.2 (-1) k).1 + 1), (pins (pPit (pAdv (P.2.2.1 k) mm rain heat)) (gatK (advA P.2.2.1 mm rain heat) P.2.2.2.2.2 (-1) k).1 (gatK (advA P.2.2.1 mm rain heat) P.2.2.2.2.2 (-1) k).2)) B) 0 0 := by
          intro tr x5 h1 h2
          have h9 := ih (k + 1) tr x5 (by omega) (by omega)
          rw [eg, if_pos ⟨h2, by omega⟩] at h9
          exact h9
        refine gk_iload C dX4_ahead_29 rfl ?_
        refine gk_aload_n C dX4_ahead_31 rfl ?_
        refine gk_getf C f_X4_23.r dX4_ahead_32 (hx_0 IG) (by rfl) ?_
        refine gk_callV C o_Jx4a65c_size_8abf5 k_X4_64 dX4_ahead_35 (c_AL_size hfl (hx_4s IG)) (hx_4s IG) rfl rfl rfl (by decide) (by decide) (by exact Nat.le_of_ble_eq_true rfl) (fun _ _ z => z.elim) (fun v_35 h_35 p_35 => ?_)
        obtain ⟨rfl, rfl⟩ := p_35
        dsimp only [gk_push]
        refine gk_icmp_ge C (tgt := 102) (by omega) (by omega) dX4_ahead_38 (by decide) (fun c_38 => ?_) (fun c_38 => ?_)
        · have ekn : k = P.1 := by omega
          rw [ekn] at IG hgb ⊢
          refine gk_aload_n C dX4_ahead_102 rfl ?_
          refine gk_getf C f_X4_38.r dX4_ahead_103 (hx_0 IG) (by rfl) ?_
          refine gk_callV C o_X2_range k_X4_226 dX4_ahead_106 (c_X2_range hfl (hx_6 IG) (hx_8 IG) (show (gatK (advA P.2.2.1 mm rain heat) P.2.2.2.2.2 (-1) P.1).1 ≤ 8 by omega)) (hx_6 IG) rfl rfl rfl (by decide) (by decide) (by exact Nat.le_of_ble_eq_true rfl) (fun _ _ z => z.elim) (fun v_106 h_106 p_106 => ?_)
          obtain ⟨rfl, rfl⟩ := p_106
          dsimp only [gk_push]
          refine (R _ _ _ _ _ (by decide) (by decide)).1 _ rfl dX4_ahead_109 ?_
          exact ⟨congrArg (fun q => some (iv q)) gSp_of, hmin, _, _, _, by omega, hgb.2, rfl⟩
        · have hk1 : k < P.1 := by omega
          obtain ⟨k1, k2, k3, k4, k5, k6, k7⟩ := hok k hk1
          refine gk_aload_n C dX4_ahead_41 rfl ?_
          refine gk_getf C f_X4_23.r dX4_ahead_42 (hx_0 IG) (by rfl) ?_
          refine gk_iload C dX4_ahead_45 rfl ?_
          refine gk_callV C o_Jx4a65c_get_915e3 k_X4_134 dX4_ahead_47 (c_AL_get hfl (hx_4a IG (has_of hk1)) (hx_11 IG (has_of hk1)) (y := ad (19, k)) (z := (k : Int)) (by omega) (by omega) (rw_at (g := (fun i => ad (19, i))) (by omega))) (hx_4s IG) rfl rfl rfl (by decide) (by decide) (by exact Nat.le_of_ble_eq_true rfl) (fun _ _ z => z.elim) (fun v_47 h_47 p_47 => ?_)
          obtain ⟨rfl, rfl⟩ := p_47
          dsimp only [gk_push]
          refine gk_cast C cw_X4_26 rfl (hx_19 IG hk1) dX4_ahead_50 ?_
          refine gk_astore_5 C rfl (by decide) dX4_ahead_53 ?_
          refine gk_aload C dX4_ahead_55 rfl ?_
          refine gk_getf C f_X4_181.r dX4_ahead_57 (hx_19 IG hk1) (by rfl) ?_
          try dsimp only
          refine gk_if_ne C (tgt := 96) (by omega) dX4_ahead_60 (by decide) (fun c_60 => ?_) (fun c_60 => ?_)
          · refine gk_iinc_4 C rfl (by decide) dX4_ahead_96 ?_
            refine gk_goto C (tgt := 29) dX4_ahead_99 (by decide) ?_
            first | exact fin0 _ (by omega) (by omega) | (refine gi_cast ?_ (fin1 (pAdv (P.2.2.1 k) mm rain heat) _ (by omega) (by omega)); rw [hx_S8 I2, show (((gatK (advA P.2.2.1 mm rain heat) P.2.2.2.2.2 (-1) k).1 : Int) + 1) = (((gatK (advA P.2.2.1 mm rain heat) P.2.2.2.2.2 (-1) k).1 + 1 : Nat) : Int) from rfl]; exact hx_S6 (IX_P I2))
          · refine gk_aload_n C dX4_ahead_63 rfl ?_
            refine gk_getf C f_X4_31.r dX4_ahead_64 (hx_0 IG) (by rfl) ?_
            refine gk_aload C dX4_ahead_67 rfl ?_
            refine gk_callV C o_X1_becomeLike k_X4_219 dX4_ahead_69 (c_X1_like hfl k7 (hx_ne5 IG hk1) (hx_5p IG) (hx_19 IG hk1)) (hx_5p IG) rfl rfl rfl (by decide) (by decide) (by exact Nat.le_of_ble_eq_true rfl) (fun _ _ z => z.elim) (fun v_69 h_69 p_69 => ?_)
            obtain ⟨rfl, rfl⟩ := p_69
            dsimp only [gk_push]
            refine gi_cast (hx_S5 IG (p := P.2.2.1 k)) ?_
            have I1 := IX_P I (pf := P.2.2.1) (tr := P.2.2.1 k) (c := (gatK (advA P.2.2.1 mm rain heat) P.2.2.2.2.2 (-1) k).1) (f := (gatK (advA P.2.2.1 mm rain heat) P.2.2.2.2.2 (-1) k).2)
            refine gk_aload_n C dX4_ahead_72 rfl ?_
            refine gk_getf C f_X4_31.r dX4_ahead_73 (hx_0 I1) (by rfl) ?_
            refine gk_iload_n C dX4_ahead_76 rfl ?_
            refine gk_iload_n C dX4_ahead_77 rfl ?_
            refine gk_iload_n C dX4_ahead_78 rfl ?_
            refine gk_callV C o_X1_goThrough k_X4_189 dX4_ahead_79 (c_X1_go hfl (hx_5p I1) (minutes := (mm : Int)) (rain := rain) (heat := heat) ⟨k1, k5, k6⟩ k2 k3 k4 k7 (by omega) (by omega) (by omega)) (hx_5p I1) rfl rfl rfl (by decide) (by decide) (by exact Nat.le_of_ble_eq_true rfl) (fun _ _ z => z.elim) (fun v_79 h_79 p_79 => ?_)
            obtain ⟨rfl, r3, w3, t3, h3, rfl⟩ := p_79
            dsimp only [gk_push]
            have e1 : r3 = (pIt (pStep (pB (P.2.2.1 k)) (pZ (P.2.2.1 k)) rain heat) mm (pR (P.2.2.1 k), pW (P.2.2.1 k), pT (P.2.2.1 k))).1 := congrArg Prod.fst h3
            have e2 : w3 = (pIt (pStep (pB (P.2.2.1 k)) (pZ (P.2.2.1 k)) rain heat) mm (pR (P.2.2.1 k), pW (P.2.2.1 k), pT (P.2.2.1 k))).2.1 := congrArg (fun q => q.2.1) h3
            have e3 : t3 = (pIt (pStep (pB (P.2.2.1 k)) (pZ (P.2.2.1 k)) rain heat) mm (pR (P.2.2.1 k), pW (P.2.2.1 k), pT (P.2.2.1 k))).2.2 := congrArg (fun q => q.2.2) h3
            rw [e1, e2, e3]
            refine gi_cast (hx_S5 I1 (p := pAdv (P.2.2.1 k) mm rain heat)) ?_
            have I2 := IX_P I (pf := P.2.2.1) (tr := pAdv (P.2.2.1 k) mm rain heat) (c := (gatK (advA P.2.2.1 mm rain heat) P.2.2.2.2.2 (-1) k).1) (f := (gatK (advA P.2.2.1 mm rain heat) P.2.2.2.2.2 (-1) k).2)
            have kap := pPit_bd (pAdv_ok (m := mm) (hok k hk1) (show 0 ≤ rain ∧ rain ≤ 9 by omega) (show 0 ≤ heat ∧ heat ≤ 40 by omega))
            refine gk_aload_n C dX4_ahead_82 rfl ?_
            refine gk_getf C f_X4_38.r dX4_ahead_83 (hx_0 I2) (by rfl) ?_
            refine gk_aload_n C dX4_ahead_86 rfl ?_
            refine gk_getf C f_X4_31.r dX4_ahead_87 (hx_0 I2) (by rfl) ?_
            refine gk_callV C o_X1_pitch k_X4_207 dX4_ahead_90 (c_X1_pitch hfl (hx_5p I2)) (hx_5p I2) rfl rfl rfl (by decide) (by decide) (by exact Nat.le_of_ble_eq_true rfl) (fun _ _ z => z.elim) (fun v_90 h_90 p_90 => ?_)
            obtain ⟨rfl, rfl⟩ := p_90
            dsimp only [gk_push]
            refine gk_callV C o_X2_put k_X4_223 dX4_ahead_93 (c_X2_put hfl (hx_6 I2) (hx_8 I2) (c := (gatK (advA P.2.2.1 mm rain heat) P.2.2.2.2.2 (-1) k).1) (show (gatK (advA P.2.2.1 mm rain heat) P.2.2.2.2.2 (-1) k).1 < 8 by omega) (p := pPit (pAdv (P.2.2.1 k) mm rain heat)) (by omega) (fun i _ _ => hgb.2 i)) (hx_6 I2) rfl rfl rfl (by decide) (by decide) (by exact Nat.le_of_ble_eq_true rfl) (fun _ _ z => z.elim) (fun v_93 h_93 p_93 => ?_)
            obtain ⟨rfl, rfl⟩ := p_93
            dsimp only [gk_push]
            refine gk_iinc_4 C rfl (by decide) dX4_ahead_96 ?_
            refine gk_goto C (tgt := 29) dX4_ahead_99 (by decide) ?_
            first | exact fin0 _ (by omega) (by omega) | (refine gi_cast ?_ (fin1 (pAdv (P.2.2.1 k) mm rain heat) _ (by omega) (by omega)); rw [hx_S8 I2, show (((gatK (advA P.2.2.1 mm rain heat) P.2.2.2.2.2 (-1) k).1 : Int) + 1) = (((gatK (advA P.2.2.1 mm rain heat) P.2.2.2.2.2 (-1) k).1 + 1 : Nat) : Int) from rfl]; exact hx_S6 (IX_P I2))
    exact key 9 0 P.2.2.2.1 none (by omega) (by omega)
  · exact T 9 _ _ _ _ _ _ _ 57 187 61 th_X4_ahead_9 ⟨rfl, rfl, fun z => by have := rc_3.mpr z; omega⟩ (by decide) (by exact Nat.le_of_ble_eq_true rfl) (by decide) (by decide) td_X4_ahead_9
