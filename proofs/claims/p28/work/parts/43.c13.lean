/-! the class: season, whole -/

set_option maxRecDepth 100000 in
set_option maxHeartbeats 4000000 in
theorem x_season {l : Launch} {Γ : GA} (hfl : l.stackTraces = false) {ad : XK → Nat} {Q : XTs} {S : XSs} {P : XPs} {B : XBs} (I : IX (gEm Γ) ad Q S P B) (hn : B.1 ≤ 8) (hok : ∀ i, i < B.1 → baOk (B.2.2.1 i)) (hop : B.2.2.2.1 = 0 ∨ B.2.2.2.1 = 1) : Ct l Γ m_X4_season [.ref (ad (0, 0))] (HX (gEm Γ) ad Q S P B) (fun v h' => v = some (iv (mvK (seaK B.2.2.1 B.1 4) B.1)) ∧ B.2.2.2.1 = 0 ∧ h' = HX (gEm Γ) ad Q S P (B.1, B.2.1, begK (seaK B.2.2.1 B.1 4) B.1, B.2.2.2.1, B.2.2.2.2)) (fun X0 h' => h' = HX (gEm Γ) ad Q S P B ∧ X0 = "java/lang/IllegalStateException" ∧ ¬ B.2.2.2.1 = 0) := by
  refine Ct.intro hfl (by decide +kernel) rfl (Nat.le_of_ble_eq_true rfl) ?_
  intro G C R T
  show G 0 [some (.ref (ad (0, 0))), none, none] [] (HX (gEm Γ) ad Q S P B) 0 0
  refine gk_aload_n C dX4_season_0 rfl ?_
  refine gk_getf C f_X4_45.r dX4_season_1 (hx_0 I) (by rfl) ?_
  refine gk_if_eq C (tgt := 18) (by omega) dX4_season_4 (by decide) (fun c_4 => ?_) (fun c_4 => ?_)
  · refine gk_iconst C dX4_season_18 ?_
    refine gk_istore_n_1 C rfl (by decide) dX4_season_19 ?_
    have key : ∀ (n g : Nat) x2, 4 - g < n → g ≤ 4 → G 20 [some (.ref (ad (0, 0))), some (iv ((g : Int) + 1)), x2] [] (HX (gEm Γ) ad Q S P (B.1, B.2.1, (seaK B.2.2.1 B.1 g), B.2.2.2.1, B.2.2.2.2)) 0 0 := by
      intro n
      induction n with
      | zero => intro g x2 h1; omega
      | succ n ih =>
        intro g x2 hn0 hg
        have IG := IX_B I (bf := (seaK B.2.2.1 B.1 g)) (op := B.2.2.2.1) (mm := B.2.2.2.2)
        have hok1 := seaK_ok hok g hg
        have IG2 := IX_B I (bf := xUp (seaK B.2.2.1 B.1 g) B.1 ((g : Int) + 2)) (op := B.2.2.2.1) (mm := B.2.2.2.2)
        refine gk_iload_n C dX4_season_20 rfl ?_
        refine gk_iconst C dX4_season_21 ?_
        refine gk_icmp_ge C (tgt := 43) (by omega) (by omega) dX4_season_22 (by decide) (fun c_22 => ?_) (fun c_22 => ?_)
        · have eg : g = 4 := by omega
          rw [eg] at hok1 ⊢
          refine gk_iconst C dX4_season_43 ?_
          refine gk_istore_n_1 C rfl (by decide) dX4_season_44 ?_
          refine gk_iconst C dX4_season_45 ?_
          refine gk_istore_n_2 C rfl (by decide) dX4_season_46 ?_
          have key2 : ∀ (n k : Nat), (B.1 : Int) - k < n → k ≤ B.1 → G 47 [some (.ref (ad (0, 0))), some (iv (mvK (seaK B.2.2.1 B.1 4) k)), some (iv (k : Int))] [] (HX (gEm Γ) ad Q S P (B.1, B.2.1, begK (seaK B.2.2.1 B.1 4) k, B.2.2.2.1, B.2.2.2.2)) 0 0 := by
            intro n
            induction n with
            | zero => intro k h1; omega
            | succ n ih2 =>
              intro k hn0 hk
              have IB := IX_B I (bf := begK (seaK B.2.2.1 B.1 4) k) (op := B.2.2.2.1) (mm := B.2.2.2.2)
              have ek : begK (seaK B.2.2.1 B.1 4) k k = (seaK B.2.2.1 B.1 4) k := begK_ge k k (Nat.le_refl _)
              have fin : ∀ y : Int, k < B.1 → y = (if bGr ((seaK B.2.2.1 B.1 4) k) = bNg ((seaK B.2.2.1 B.1 4) k) then 0 else 1) → G 47 [some (.ref (ad (0, 0))), some (iv (mvK (seaK B.2.2.1 B.1 4) k + y)), some (iv ((k : Int) + 1))] [] (HX (gEm Γ) ad Q S P (B.1, B.2.1, tset (begK (seaK B.2.2.1 B.1 4) k) k (bBeg ((seaK B.2.2.1 B.1 4) k)), B.2.2.2.1, B.2.2.2.2)) 0 0 := by
                intro y h1 hy
                rw [hy]
                exact ih2 (k + 1) (by omega) (by omega)
              refine gk_iload_n C dX4_season_47 rfl ?_
              refine gk_aload_n C dX4_season_48 rfl ?_
              refine gk_getf C f_X4_42.r dX4_season_49 (hx_0 IB) (by rfl) ?_
              refine gk_callV C o_Jx4a65c_size_8abf5 k_X4_64 dX4_season_52 (c_AL_size hfl (hx_7s IB)) (hx_7s IB) rfl rfl rfl (by decide) (by decide) (by exact Nat.le_of_ble_eq_true rfl) (fun _ _ z => z.elim) (fun v_52 h_52 p_52 => ?_)
              obtain ⟨rfl, rfl⟩ := p_52
              dsimp only [gk_push]
              refine gk_icmp_ge C (tgt := 89) (by omega) (by omega) dX4_season_55 (by decide) (fun c_55 => ?_) (fun c_55 => ?_)
              · refine gk_iload_n C dX4_season_89 rfl ?_
                refine (R _ _ _ _ _ (by decide) (by decide)).1 _ rfl dX4_season_90 ?_
                rw [show k = B.1 by omega]
                exact ⟨rfl, by omega, rfl⟩
              · have hk1 : k < B.1 := by omega
                obtain ⟨k1, k2, k3, k4, k5, k6, k7, k8, k9⟩ := hok1 k hk1
                have hkb := hx_20 IB hk1
                dsimp only at hkb
                rw [ek] at hkb
                refine gk_iload_n C dX4_season_58 rfl ?_
                refine gk_aload_n C dX4_season_59 rfl ?_
                refine gk_getf C f_X4_42.r dX4_season_60 (hx_0 IB) (by rfl) ?_
                refine gk_iload_n C dX4_season_63 rfl ?_
                refine gk_callV C o_Jx4a65c_get_915e3 k_X4_134 dX4_season_64 (c_AL_get hfl (hx_7a IB (has_of hk1)) (hx_12 IB (has_of hk1)) (y := ad (20, k)) (z := (k : Int)) (by omega) (by omega) (rw_at (g := (fun i => ad (20, i))) (by omega))) (hx_7s IB) rfl rfl rfl (by decide) (by decide) (by exact Nat.le_of_ble_eq_true rfl) (fun _ _ z => z.elim) (fun v_64 h_64 p_64 => ?_)
                obtain ⟨rfl, rfl⟩ := p_64
                dsimp only [gk_push]
                refine gk_cast C cw_X4_238 rfl hkb dX4_season_67 ?_
                refine gk_callV C o_X0_beginSeason k_X4_291 dX4_season_70 (c_X0_begin hfl hkb k1 k2) hkb rfl rfl rfl (by decide) (by decide) (by exact Nat.le_of_ble_eq_true rfl) (fun _ _ z => z.elim) (fun v_70 h_70 p_70 => ?_)
                obtain ⟨rfl, rfl⟩ := p_70
                dsimp only [gk_push]
                refine gi_cast (hx_S20 IB hk1 (gr := bNg ((seaK B.2.2.1 B.1 4) k)) (ng := bNg ((seaK B.2.2.1 B.1 4) k)) (po := 0) (rk := bRk ((seaK B.2.2.1 B.1 4) k)) (su := bSu ((seaK B.2.2.1 B.1 4) k)) (fi := bFi ((seaK B.2.2.1 B.1 4) k)) (tp := bTp ((seaK B.2.2.1 B.1 4) k))) ?_
                dsimp only
                rw [ek]
                refine gk_if_eq C (tgt := 80) (by split <;> omega) dX4_season_73 (by decide) (fun c_73 => ?_) (fun c_73 => ?_)
                · have c73 : bGr ((seaK B.2.2.1 B.1 4) k) = bNg ((seaK B.2.2.1 B.1 4) k) := by
                    by_cases q : bGr ((seaK B.2.2.1 B.1 4) k) = bNg ((seaK B.2.2.1 B.1 4) k)
                    · exact q
                    · rw [if_neg q] at c_73; omega
                  refine gk_iconst C dX4_season_80 ?_
                  refine gk_iadd C dX4_season_81 ?_
                  refine gk_istore_n_1 C rfl (by decide) dX4_season_82 ?_
                  refine gk_iinc_2 C rfl (by decide) dX4_season_83 ?_
                  refine gk_goto C (tgt := 47) dX4_season_86 (by decide) ?_
                  exact fin _ (by omega) (by split <;> omega)
                · have c73 : ¬ bGr ((seaK B.2.2.1 B.1 4) k) = bNg ((seaK B.2.2.1 B.1 4) k) := fun q => by rw [if_pos q] at c_73; exact c_73 rfl
                  refine gk_iconst C dX4_season_76 ?_
                  refine gk_goto C (tgt := 81) dX4_season_77 (by decide) ?_
                  refine gk_iadd C dX4_season_81 ?_
                  refine gk_istore_n_1 C rfl (by decide) dX4_season_82 ?_
                  refine gk_iinc_2 C rfl (by decide) dX4_season_83 ?_
                  refine gk_goto C (tgt := 47) dX4_season_86 (by decide) ?_
                  exact fin _ (by omega) (by split <;> omega)
          exact key2 9 0 (by omega) (by omega)
        · have hok2 : ∀ i, i < B.1 → baOk (xUp (seaK B.2.2.1 B.1 g) B.1 ((g : Int) + 2) i) := xUp_ok hok1 (by omega)
          refine gk_aload_n C dX4_season_25 rfl ?_
          refine gk_iload_n C dX4_season_26 rfl ?_
          refine gk_iconst C dX4_season_27 ?_
          refine gk_iadd C dX4_season_28 ?_
          rw [show (g : Int) + 1 + 1 = (g : Int) + 2 by omega]
          refine gk_callV C o_X4_sendUpFrom k_X4_285 dX4_season_29 (x_sendUp hfl IG hn hok1 (g := (g : Int) + 2) (by omega)) (hx_0 IG) rfl rfl rfl (by decide) (by decide) (by exact Nat.le_of_ble_eq_true rfl) (fun _ _ z => z.elim) (fun v_29 h_29 p_29 => ?_)
          obtain ⟨rfl, rfl⟩ := p_29
          dsimp only [gk_push]
          refine gk_aload_n C dX4_season_32 rfl ?_
          refine gk_iload_n C dX4_season_33 rfl ?_
          refine gk_callV C o_X4_sendDownFrom k_X4_288 dX4_season_34 (x_sendDown hfl IG2 hn hok2 (g := (g : Int) + 1) (by omega)) (hx_0 IG2) rfl rfl rfl (by decide) (by decide) (by exact Nat.le_of_ble_eq_true rfl) (fun _ _ z => z.elim) (fun v_34 h_34 p_34 => ?_)
          obtain ⟨rfl, rfl⟩ := p_34
          dsimp only [gk_push]
          refine gk_iinc_1 C rfl (by decide) dX4_season_37 ?_
          refine gk_goto C (tgt := 20) dX4_season_40 (by decide) ?_
          exact ih (g + 1) _ (by omega) (by omega)
    exact key 5 0 none (by omega) (by omega)
  · exact T 7 _ _ _ _ _ _ _ 68 283 72 th_X4_season_7 ⟨rfl, rfl, by omega⟩ (by decide) (by exact Nat.le_of_ble_eq_true rfl) (by decide) (by decide) td_X4_season_7
