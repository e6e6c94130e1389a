/-! the class: contest -/
def ctB (b : BaS) (g : Int) : BaS := (bGr b, bNg b, bPo b, bRk b, bSu b, bFi b, (if bGr b = g then 1 else 0), mNo (bM b) 4, bP b)
def ctK (bf : Nat → BaS) (g : Int) (n : Nat) : Nat → BaS := fun j => if j < n then ctB (bf j) g else bf j

set_option maxRecDepth 100000 in
set_option maxHeartbeats 4000000 in
theorem x_contest {l : Launch} {Γ : GA} (hfl : l.stackTraces = false) {ad : XK → Nat} {Q : XTs} {S : XSs} {P : XPs} {B : XBs} (I : IX (gEm Γ) ad Q S P B) (hn : B.1 ≤ 8) (hok : ∀ i, i < B.1 → baOk (B.2.2.1 i)) (hop : B.2.2.2.1 = 0 ∨ B.2.2.2.1 = 1) {g : Int} (hg : -2147483648 ≤ g ∧ g ≤ 2147483647) : Ct l Γ m_X4_contest [.ref (ad (0, 0)), iv g] (HX (gEm Γ) ad Q S P B) (fun v h' => v = some (iv (cOg B.2.2.1 g B.1)) ∧ ((1 ≤ g ∧ g ≤ 5) ∧ ¬ (B.2.2.2.1 = 1 ∨ cOg B.2.2.1 g B.1 < 2)) ∧ h' = HX (gEm Γ) ad Q S P (B.1, B.2.1, (ctK B.2.2.1 g B.1), 1, cOg B.2.2.1 g B.1 * 4)) (fun X0 h' => h' = HX (gEm Γ) ad Q S P B ∧ ((X0 = "java/lang/IllegalArgumentException" ∧ ¬ (1 ≤ g ∧ g ≤ 5)) ∨ (X0 = "java/lang/IllegalStateException" ∧ (1 ≤ g ∧ g ≤ 5) ∧ (B.2.2.2.1 = 1 ∨ cOg B.2.2.1 g B.1 < 2)))) := by
  have bcg := cOg_bd B.2.2.1 g B.1
  refine Ct.intro hfl (by decide +kernel) rfl (Nat.le_of_ble_eq_true rfl) ?_
  intro G C R T
  show G 0 [some (.ref (ad (0, 0))), some (iv g), none, none, none] [] (HX (gEm Γ) ad Q S P B) 0 0
  refine gk_iload_n C dX4_contest_0 rfl ?_
  refine gk_iconst C dX4_contest_1 ?_
  refine gk_iconst C dX4_contest_2 ?_
  refine gk_callS C o_X4_isWithin k_X4_53 dX4_contest_3 (x_isWithin hfl hg (by omega) (by omega)) rfl rfl (by decide) (by decide) (by exact Nat.le_of_ble_eq_true rfl) (fun _ _ z => z.elim) (fun v_3 h_3 p_3 => ?_)
  obtain ⟨r_3, rfl, rb_3, rc_3, rfl⟩ := p_3
  dsimp only [gk_push]
  refine gk_if_ne C (tgt := 19) (by omega) dX4_contest_6 (by decide) (fun c_6 => ?_) (fun c_6 => ?_)
  · refine gk_aload_n C dX4_contest_19 rfl ?_
    refine gk_iload_n C dX4_contest_20 rfl ?_
    refine gk_callV C o_X4_bandsOfGrade k_X4_241 dX4_contest_21 (x_ofGrade hfl I hn hok hg) (hx_0 I) rfl rfl rfl (by decide) (by decide) (by exact Nat.le_of_ble_eq_true rfl) (fun _ _ z => z.elim) (fun v_21 h_21 p_21 => ?_)
    obtain ⟨rfl, rfl⟩ := p_21
    dsimp only [gk_push]
    refine gk_istore_n_2 C rfl (by decide) dX4_contest_24 ?_
    refine gk_aload_n C dX4_contest_25 rfl ?_
    refine gk_getf C f_X4_45.r dX4_contest_26 (hx_0 I) (by rfl) ?_
    refine gk_if_ne C (tgt := 37) (by omega) dX4_contest_29 (by decide) (fun c_29 => ?_) (fun c_29 => ?_)
    · exact T 37 _ _ _ _ _ _ _ 68 244 72 th_X4_contest_37 ⟨rfl, Or.inr ⟨rfl, by omega, by omega⟩⟩ (by decide) (by exact Nat.le_of_ble_eq_true rfl) (by decide) (by decide) td_X4_contest_37
    · refine gk_iload_n C dX4_contest_32 rfl ?_
      refine gk_iconst C dX4_contest_33 ?_
      refine gk_icmp_ge C (tgt := 47) (by omega) (by omega) dX4_contest_34 (by decide) (fun c_34 => ?_) (fun c_34 => ?_)
      · refine gk_iconst C dX4_contest_47 ?_
        refine gk_istore_n_3 C rfl (by decide) dX4_contest_48 ?_
        have key : ∀ (n k : Nat) (bf : Nat → BaS) x4, (B.1 : Int) - k < n → k ≤ B.1 → (∀ j, j < k → bf j = ctB (B.2.2.1 j) g) → (∀ j, k ≤ j → bf j = B.2.2.1 j) → G 49 [some (.ref (ad (0, 0))), some (iv g), some (iv (cOg B.2.2.1 g B.1)), some (iv (k : Int)), x4] [] (HX (gEm Γ) ad Q S P (B.1, B.2.1, bf, B.2.2.2.1, B.2.2.2.2)) 0 0 := by
          intro n
          induction n with
          | zero => intro k bf x4 h1; omega
          | succ n ih =>
            intro k bf x4 hn0 hk hlt hge
            have IG := IX_B I (bf := bf) (op := B.2.2.2.1) (mm := B.2.2.2.2)
            refine gk_iload_n C dX4_contest_49 rfl ?_
            refine gk_aload_n C dX4_contest_50 rfl ?_
            refine gk_getf C f_X4_42.r dX4_contest_51 (hx_0 IG) (by rfl) ?_
            refine gk_callV C o_Jx4a65c_size_8abf5 k_X4_64 dX4_contest_54 (c_AL_size hfl (hx_7s IG)) (hx_7s IG) rfl rfl rfl (by decide) (by decide) (by exact Nat.le_of_ble_eq_true rfl) (fun _ _ z => z.elim) (fun v_54 h_54 p_54 => ?_)
            obtain ⟨rfl, rfl⟩ := p_54
            dsimp only [gk_push]
            refine gk_icmp_ge C (tgt := 103) (by omega) (by omega) dX4_contest_57 (by decide) (fun c_57 => ?_) (fun c_57 => ?_)
            · have ekn : k = B.1 := by omega
              refine gk_aload_n C dX4_contest_103 rfl ?_
              refine gk_iconst C dX4_contest_104 ?_
              refine gk_putf C f_X4_45 dX4_contest_105 (hx_0 IG) (gk_nb (by omega)).1 (gk_nb (by omega)).2 (by exact Nat.le_of_ble_eq_true rfl) ?_
              refine gi_cast (hx_S0 IG (op := 1) (mm := B.2.2.2.2)) ?_
              have IG9 := IX_B I (bf := bf) (op := 1) (mm := B.2.2.2.2)
              refine gk_aload_n C dX4_contest_108 rfl ?_
              refine gk_iload_n C dX4_contest_109 rfl ?_
              refine gk_iconst C dX4_contest_110 ?_
              refine gk_imul C dX4_contest_111 ?_
              refine gk_putf C f_X4_49 dX4_contest_112 (hx_0 IG9) rfl rfl (by exact Nat.le_of_ble_eq_true rfl) ?_
              refine gk_iload_n C dX4_contest_115 rfl ?_
              refine (R _ _ _ _ _ (by decide) (by decide)).1 _ rfl dX4_contest_116 ?_
              have ebf : bf = ctK B.2.2.1 g B.1 := by
                funext j
                unfold ctK
                by_cases e : j < B.1
                · rw [if_pos e]; exact hlt j (by omega)
                · rw [if_neg e]; exact hge j (by omega)
              exact ⟨rfl, ⟨by omega, by omega⟩, by rw [← ebf]; exact hx_S0 IG9⟩
            · have hk1 : k < B.1 := by omega
              have ek : bf k = B.2.2.1 k := hge k (Nat.le_refl _)
              have w1 : bGr (bf k) = bGr (B.2.2.1 k) := congrArg (fun b : BaS => b.1) ek
              have w2 : bNg (bf k) = bNg (B.2.2.1 k) := congrArg (fun b : BaS => b.2.1) ek
              have w3 : bPo (bf k) = bPo (B.2.2.1 k) := congrArg (fun b : BaS => b.2.2.1) ek
              have w4 : bRk (bf k) = bRk (B.2.2.1 k) := congrArg (fun b : BaS => b.2.2.2.1) ek
              have w5 : bSu (bf k) = bSu (B.2.2.1 k) := congrArg (fun b : BaS => b.2.2.2.2.1) ek
              have w6 : bFi (bf k) = bFi (B.2.2.1 k) := congrArg (fun b : BaS => b.2.2.2.2.2.1) ek
              have w7 : bP (bf k) = bP (B.2.2.1 k) := congrArg (fun b : BaS => b.2.2.2.2.2.2.2.2) ek
              obtain ⟨k1, k2, k3, k4, k5, k6, k7, k8, k9⟩ := hok k hk1
              refine gk_aload_n C dX4_contest_60 rfl ?_
              refine gk_getf C f_X4_42.r dX4_contest_61 (hx_0 IG) (by rfl) ?_
              refine gk_iload_n C dX4_contest_64 rfl ?_
              refine gk_callV C o_Jx4a65c_get_915e3 k_X4_134 dX4_contest_65 (c_AL_get hfl (hx_7a IG (has_of hk1)) (hx_12 IG (has_of hk1)) (y := ad (20, k)) (z := (k : Int)) (by omega) (by omega) (rw_at (g := (fun i => ad (20, i))) (by omega))) (hx_7s IG) rfl rfl rfl (by decide) (by decide) (by exact Nat.le_of_ble_eq_true rfl) (fun _ _ z => z.elim) (fun v_65 h_65 p_65 => ?_)
              obtain ⟨rfl, rfl⟩ := p_65
              dsimp only [gk_push]
              refine gk_cast C cw_X4_238 rfl (hx_20 IG hk1) dX4_contest_68 ?_
              refine gk_astore_4 C rfl (by decide) dX4_contest_71 ?_
              refine gk_aload C dX4_contest_73 rfl ?_
              have k89 : ∀ y : Int, y = (if bGr (B.2.2.1 k) = g then 1 else 0) → (y = 0 ∨ y = 1) → G 89 [some (.ref (ad (0, 0))), some (iv g), some (iv (cOg B.2.2.1 g B.1)), some (iv (k : Int)), some (.ref (ad (20, k)))] [iv y, .ref (ad (20, k))] (HX (gEm Γ) ad Q S P (B.1, B.2.1, bf, B.2.2.2.1, B.2.2.2.2)) 0 0 := by
                intro y hy hyb
                refine gk_putf C f_X4_249 dX4_contest_89 (hx_20 IG hk1) (gk_nb hyb).1 (gk_nb hyb).2 (by exact Nat.le_of_ble_eq_true rfl) ?_
                refine gi_cast (hx_S20 IG hk1 (gr := bGr (bf k)) (ng := bNg (bf k)) (po := bPo (bf k)) (rk := bRk (bf k)) (su := bSu (bf k)) (fi := bFi (bf k)) (tp := y)) ?_
                have I2 := IX_B I (bf := tset bf k (bGr (bf k), bNg (bf k), bPo (bf k), bRk (bf k), bSu (bf k), bFi (bf k), y, bM (bf k), bP (bf k))) (op := B.2.2.2.1) (mm := B.2.2.2.2)
                refine gk_aload C dX4_contest_92 rfl ?_
                refine gk_callV C o_X0_forgetMarks k_X4_252 dX4_contest_94 (c_X0_forgetM hfl (hx_20 I2 hk1) (hx_21 I2 hk1)) (hx_20 I2 hk1) rfl rfl rfl (by decide) (by decide) (by exact Nat.le_of_ble_eq_true rfl) (fun _ _ z => z.elim) (fun v_94 h_94 p_94 => ?_)
                obtain ⟨rfl, rfl⟩ := p_94
                dsimp only [gk_push]
                refine gi_cast (hx_S21 I2 hk1) ?_
                refine gk_iinc_3 C rfl (by decide) dX4_contest_97 ?_
                refine gk_goto C (tgt := 49) dX4_contest_100 (by decide) ?_
                refine ih (k + 1) _ _ (by omega) (by omega) (fun j hj => ?_) (fun j hj => ?_)
                · by_cases e : j = k
                  · subst e
                    dsimp only
                    rw [tset_eq]
                    simp only [tset_eq]
                    rw [hy, ek]
                    rfl
                  · dsimp only
                    rw [tset_ne e, tset_ne e]
                    exact hlt j (by omega)
                · dsimp only
                  rw [tset_ne (by omega), tset_ne (by omega)]
                  exact hge j (by omega)
              refine gk_aload C dX4_contest_75 rfl ?_
              refine gk_getf C f_X4_246.r dX4_contest_77 (hx_20 IG hk1) (by rfl) ?_
              dsimp only
              rw [show bGr (bf k) = bGr (B.2.2.1 k) from by rw [ek]]
              refine gk_iload_n C dX4_contest_80 rfl ?_
              refine gk_icmp_ne C (tgt := 88) (by omega) (by omega) dX4_contest_81 (by decide) (fun c_81 => ?_) (fun c_81 => ?_)
              · refine gk_iconst C dX4_contest_88 ?_
                first | exact k89 _ (by rw [if_pos c_81]) (by omega) | exact k89 _ (by rw [if_neg c_81]) (by omega)
              · refine gk_iconst C dX4_contest_84 ?_
                refine gk_goto C (tgt := 89) dX4_contest_85 (by decide) ?_
                first | exact k89 _ (by rw [if_pos c_81]) (by omega) | exact k89 _ (by rw [if_neg c_81]) (by omega)
        exact key 9 0 B.2.2.1 none (by omega) (by omega) (fun j hj => absurd hj (Nat.not_lt_zero j)) (fun j _ => rfl)
      · exact T 37 _ _ _ _ _ _ _ 68 244 72 th_X4_contest_37 ⟨rfl, Or.inr ⟨rfl, by omega, by omega⟩⟩ (by decide) (by exact Nat.le_of_ble_eq_true rfl) (by decide) (by decide) td_X4_contest_37
  · exact T 9 _ _ _ _ _ _ _ 57 234 61 th_X4_contest_9 ⟨rfl, Or.inl ⟨rfl, by omega⟩⟩ (by decide) (by exact Nat.le_of_ble_eq_true rfl) (by decide) (by decide) td_X4_contest_9
