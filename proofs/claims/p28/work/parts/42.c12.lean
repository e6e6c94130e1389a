/-! the class: season -/
def upB (bf : Nat → BaS) (g : Int) : Nat → Int × Int
  | 0 => (-1, 0)
  | k + 1 => if bGr (bf k) = g ∧ (upB bf g k).2 < bPo (bf k) then ((k : Int), bPo (bf k)) else upB bf g k
def dnB (bf : Nat → BaS) (g : Int) : Nat → Int × Int
  | 0 => (-1, 0)
  | k + 1 => if bGr (bf k) = g ∧ ((dnB bf g k).1 = -1 ∨ bPo (bf k) ≤ (dnB bf g k).2) then ((k : Int), bPo (bf k)) else dnB bf g k
theorem upB_bd {bf : Nat → BaS} {g : Int} {n : Nat} (h : ∀ i, i < n → baOk (bf i)) : ∀ k : Nat, k ≤ n → (-1 ≤ (upB bf g k).1 ∧ (upB bf g k).1 < k) ∧ (0 ≤ (upB bf g k).2 ∧ (upB bf g k).2 ≤ 100000)
  | 0, _ => by show (-1 ≤ (-1 : Int) ∧ (-1 : Int) < 0) ∧ (0 ≤ (0 : Int) ∧ (0 : Int) ≤ 100000); omega
  | k + 1, hk => by
    have ih := upB_bd (g := g) h k (by omega)
    have hp := (h k (by omega)).2.2.1
    unfold upB
    split
    · exact ⟨⟨by show (-1 : Int) ≤ k; omega, by show (k : Int) < _; omega⟩, hp⟩
    · exact ⟨⟨ih.1.1, by omega⟩, ih.2⟩
theorem dnB_bd {bf : Nat → BaS} {g : Int} {n : Nat} (h : ∀ i, i < n → baOk (bf i)) : ∀ k : Nat, k ≤ n → (-1 ≤ (dnB bf g k).1 ∧ (dnB bf g k).1 < k) ∧ (0 ≤ (dnB bf g k).2 ∧ (dnB bf g k).2 ≤ 100000)
  | 0, _ => by show (-1 ≤ (-1 : Int) ∧ (-1 : Int) < 0) ∧ (0 ≤ (0 : Int) ∧ (0 : Int) ≤ 100000); omega
  | k + 1, hk => by
    have ih := dnB_bd (g := g) h k (by omega)
    have hp := (h k (by omega)).2.2.1
    unfold dnB
    split
    · exact ⟨⟨by show (-1 : Int) ≤ k; omega, by show (k : Int) < _; omega⟩, hp⟩
    · exact ⟨⟨ih.1.1, by omega⟩, ih.2⟩
/-- a band with another next grade -/
def bNx (b : BaS) (ng : Int) : BaS := (bGr b, ng, bPo b, bRk b, bSu b, bFi b, bTp b, bM b, bP b)
def xUp (bf : Nat → BaS) (n : Nat) (g : Int) : Nat → BaS := if 0 ≤ (upB bf g n).1 then tset bf (upB bf g n).1.toNat (bNx (bf (upB bf g n).1.toNat) (g - 1)) else bf
def xDn (bf : Nat → BaS) (n : Nat) (g : Int) : Nat → BaS := if 2 ≤ cOg bf g n ∧ 0 ≤ (dnB bf g n).1 then tset bf (dnB bf g n).1.toNat (bNx (bf (dnB bf g n).1.toNat) (g + 1)) else bf
theorem bNx_ok {b : BaS} {g : Int} (h : baOk b) (hg : 1 ≤ g ∧ g ≤ 5) : baOk (bNx b g) := by
  obtain ⟨h1, h2, h3, h4, h5, h6, h7, h8, h9⟩ := h
  exact ⟨h1, hg, h3, h4, h5, h6, h7, h8, h9⟩
theorem tset_ok {bf : Nat → BaS} {n j : Nat} {b : BaS} (h : ∀ i, i < n → baOk (bf i)) (hb : baOk b) : ∀ i, i < n → baOk (tset bf j b i) := by
  intro i hi
  by_cases c : i = j
  · rw [c, tset_eq]; exact hb
  · rw [tset_ne c]; exact h i hi
theorem xUp_ok {bf : Nat → BaS} {n : Nat} {g : Int} (h : ∀ i, i < n → baOk (bf i)) (hg : 2 ≤ g ∧ g ≤ 5) : ∀ i, i < n → baOk (xUp bf n g i) := by
  have hb := upB_bd (g := g) h n (Nat.le_refl _)
  unfold xUp
  by_cases c : 0 ≤ (upB bf g n).1
  · rw [if_pos c]
    exact tset_ok h (bNx_ok (h _ (by omega)) (by omega))
  · rw [if_neg c]
    exact h
theorem xDn_ok {bf : Nat → BaS} {n : Nat} {g : Int} (h : ∀ i, i < n → baOk (bf i)) (hg : 1 ≤ g ∧ g ≤ 4) : ∀ i, i < n → baOk (xDn bf n g i) := by
  have hb := dnB_bd (g := g) h n (Nat.le_refl _)
  unfold xDn
  by_cases c : 2 ≤ cOg bf g n ∧ 0 ≤ (dnB bf g n).1
  · rw [if_pos c]
    exact tset_ok h (bNx_ok (h _ (by omega)) (by omega))
  · rw [if_neg c]
    exact h
def seaK (bf : Nat → BaS) (n : Nat) : Nat → Nat → BaS
  | 0 => bf
  | g + 1 => xDn (xUp (seaK bf n g) n ((g : Int) + 2)) n ((g : Int) + 1)
theorem seaK_ok {bf : Nat → BaS} {n : Nat} (h : ∀ i, i < n → baOk (bf i)) : ∀ g : Nat, g ≤ 4 → ∀ i, i < n → baOk (seaK bf n g i)
  | 0, _ => h
  | g + 1, hg => xDn_ok (xUp_ok (seaK_ok h g (by omega)) (by omega)) (by omega)
def bBeg (b : BaS) : BaS := (bNg b, bNg b, 0, bRk b, bSu b, bFi b, bTp b, bM b, bP b)
def begK (bf : Nat → BaS) : Nat → Nat → BaS
  | 0 => bf
  | k + 1 => tset (begK bf k) k (bBeg (bf k))
def mvK (bf : Nat → BaS) : Nat → Int
  | 0 => 0
  | k + 1 => mvK bf k + if bGr (bf k) = bNg (bf k) then 0 else 1
theorem begK_ge {bf : Nat → BaS} : ∀ (k j : Nat), k ≤ j → begK bf k j = bf j
  | 0, _, _ => rfl
  | k + 1, j, h => by
    show tset (begK bf k) k _ j = _
    rw [tset_ne (by omega), begK_ge k j (by omega)]

set_option maxRecDepth 100000 in
set_option maxHeartbeats 4000000 in
theorem x_sendUp {l : Launch} {Γ : GA} (hfl : l.stackTraces = false) {ad : XK → Nat} {Q : XTs} {S : XSs} {P : XPs} {B : XBs} (I : IX (gEm Γ) ad Q S P B) (hn : B.1 ≤ 8) (hok : ∀ i, i < B.1 → baOk (B.2.2.1 i)) {g : Int} (hg0 : 1 ≤ g ∧ g ≤ 5) : Ct l Γ m_X4_sendUpFrom [.ref (ad (0, 0)), iv g] (HX (gEm Γ) ad Q S P B) (fun v h' => v = none ∧ h' = HX (gEm Γ) ad Q S P (B.1, B.2.1, xUp B.2.2.1 B.1 g, B.2.2.2.1, B.2.2.2.2)) (fun _ _ => False) := by
  have hg : -2147483648 ≤ g ∧ g ≤ 2147483647 := by omega
  have bcg := cOg_bd B.2.2.1 g B.1
  refine Ct.intro hfl (by decide +kernel) rfl (Nat.le_of_ble_eq_true rfl) ?_
  intro G C R T
  show G 0 [some (.ref (ad (0, 0))), some (iv g), none, none, none, none] [] (HX (gEm Γ) ad Q S P B) 0 0
  refine gk_iconst C dX4_sendUpFrom_0 ?_
  refine gk_istore_n_2 C rfl (by decide) dX4_sendUpFrom_1 ?_
  refine gk_iconst C dX4_sendUpFrom_2 ?_
  refine gk_istore_n_3 C rfl (by decide) dX4_sendUpFrom_3 ?_
  refine gk_iconst C dX4_sendUpFrom_4 ?_
  refine gk_istore_4 C rfl (by decide) dX4_sendUpFrom_5 ?_
  have key : ∀ (n k : Nat) x5, (B.1 : Int) - k < n → k ≤ B.1 → G 7 [some (.ref (ad (0, 0))), some (iv g), some (iv (upB B.2.2.1 g k).1), some (iv (upB B.2.2.1 g k).2), some (iv (k : Int)), x5] [] (HX (gEm Γ) ad Q S P B) 0 0 := by
    intro n
    induction n with
    | zero => intro k x5 h1; omega
    | succ n ih =>
      intro k x5 hn0 hk
      have bu := upB_bd (g := g) hok k hk
      have eu : (upB B.2.2.1 g (k + 1)) = if bGr (B.2.2.1 k) = g ∧ ((upB B.2.2.1 g k).2 < bPo (B.2.2.1 k)) then ((k : Int), bPo (B.2.2.1 k)) else (upB B.2.2.1 g k) := rfl
      have fin0 : ∀ x5, k < B.1 → ¬ (bGr (B.2.2.1 k) = g ∧ ((upB B.2.2.1 g k).2 < bPo (B.2.2.1 k))) → G 7 [some (.ref (ad (0, 0))), some (iv g), some (iv (upB B.2.2.1 g k).1), some (iv (upB B.2.2.1 g k).2), some (iv ((k : Int) + 1)), x5] [] (HX (gEm Γ) ad Q S P B) 0 0 := by
        intro x5 h1 h2
        have h9 := ih (k + 1) x5 (by omega) (by omega)
        rw [eu, if_neg h2] at h9
        exact h9
      have fin1 : ∀ x5, k < B.1 → (bGr (B.2.2.1 k) = g ∧ ((upB B.2.2.1 g k).2 < bPo (B.2.2.1 k))) → G 7 [some (.ref (ad (0, 0))), some (iv g), some (iv (k : Int)), some (iv (bPo (B.2.2.1 k))), some (iv ((k : Int) + 1)), x5] [] (HX (gEm Γ) ad Q S P B) 0 0 := by
        intro x5 h1 h2
        have h9 := ih (k + 1) x5 (by omega) (by omega)
        rw [eu, if_pos h2] at h9
        exact h9
      refine gk_iload C dX4_sendUpFrom_7 rfl ?_
      refine gk_aload_n C dX4_sendUpFrom_9 rfl ?_
      refine gk_getf C f_X4_42.r dX4_sendUpFrom_10 (hx_0 I) (by rfl) ?_
      refine gk_callV C o_Jx4a65c_size_8abf5 k_X4_64 dX4_sendUpFrom_13 (c_AL_size hfl (hx_7s I)) (hx_7s I) rfl rfl rfl (by decide) (by decide) (by exact Nat.le_of_ble_eq_true rfl) (fun _ _ z => z.elim) (fun v_13 h_13 p_13 => ?_)
      obtain ⟨rfl, rfl⟩ := p_13
      dsimp only [gk_push]
      refine gk_icmp_ge C (tgt := 66) (by omega) (by omega) dX4_sendUpFrom_16 (by decide) (fun c_16 => ?_) (fun c_16 => ?_)
      · have ekn : k = B.1 := by omega
        rw [ekn] at bu ⊢
        refine gk_iload_n C dX4_sendUpFrom_66 rfl ?_
        refine gk_if_lt C (tgt := 98) (by omega) dX4_sendUpFrom_67 (by decide) (fun c_67 => ?_) (fun c_67 => ?_)
        · refine (R _ _ _ _ _ (by decide) (by decide)).2.2.1 rfl dX4_sendUpFrom_98 ?_
          refine ⟨rfl, ?_⟩
          unfold xUp
          first
            | (rw [if_pos (show 0 ≤ (upB B.2.2.1 g B.1).1 by omega), ebt]; exact hx_S20 I hbw (gr := bGr (B.2.2.1 bw)) (ng := g - 1) (po := bPo (B.2.2.1 bw)) (rk := bRk (B.2.2.1 bw)) (su := bSu (B.2.2.1 bw)) (fi := bFi (B.2.2.1 bw)) (tp := bTp (B.2.2.1 bw)))
            | (rw [if_neg (show ¬ 0 ≤ (upB B.2.2.1 g B.1).1 by omega)])
        · refine gk_iload_n C dX4_sendUpFrom_70 rfl ?_
          refine gk_aload_n C dX4_sendUpFrom_71 rfl ?_
          refine gk_getf C f_X4_42.r dX4_sendUpFrom_72 (hx_0 I) (by rfl) ?_
          refine gk_callV C o_Jx4a65c_size_8abf5 k_X4_64 dX4_sendUpFrom_75 (c_AL_size hfl (hx_7s I)) (hx_7s I) rfl rfl rfl (by decide) (by decide) (by exact Nat.le_of_ble_eq_true rfl) (fun _ _ z => z.elim) (fun v_75 h_75 p_75 => ?_)
          obtain ⟨rfl, rfl⟩ := p_75
          dsimp only [gk_push]
          refine gk_icmp_ge C (tgt := 98) (by omega) (by omega) dX4_sendUpFrom_78 (by decide) (fun c_78 => ?_) (fun c_78 => ?_)
          · refine (R _ _ _ _ _ (by decide) (by decide)).2.2.1 rfl dX4_sendUpFrom_98 ?_
            refine ⟨rfl, ?_⟩
            unfold xUp
            first
              | (rw [if_pos (show 0 ≤ (upB B.2.2.1 g B.1).1 by omega), ebt]; exact hx_S20 I hbw (gr := bGr (B.2.2.1 bw)) (ng := g - 1) (po := bPo (B.2.2.1 bw)) (rk := bRk (B.2.2.1 bw)) (su := bSu (B.2.2.1 bw)) (fi := bFi (B.2.2.1 bw)) (tp := bTp (B.2.2.1 bw)))
              | (rw [if_neg (show ¬ 0 ≤ (upB B.2.2.1 g B.1).1 by omega)])
          · obtain ⟨bw, ebw⟩ : ∃ bw : Nat, (upB B.2.2.1 g B.1).1 = (bw : Int) := ⟨(upB B.2.2.1 g B.1).1.toNat, by omega⟩
            have hbw : bw < B.1 := by omega
            have ebt : (upB B.2.2.1 g B.1).1.toNat = bw := by omega
            rw [ebw]
            refine gk_aload_n C dX4_sendUpFrom_81 rfl ?_
            refine gk_getf C f_X4_42.r dX4_sendUpFrom_82 (hx_0 I) (by rfl) ?_
            refine gk_iload_n C dX4_sendUpFrom_85 rfl ?_
            refine gk_callV C o_Jx4a65c_get_915e3 k_X4_134 dX4_sendUpFrom_86 (c_AL_get hfl (hx_7a I (has_of hbw)) (hx_12 I (has_of hbw)) (y := ad (20, bw)) (z := (bw : Int)) (by omega) (by omega) (rw_at (g := (fun i => ad (20, i))) (by omega))) (hx_7s I) rfl rfl rfl (by decide) (by decide) (by exact Nat.le_of_ble_eq_true rfl) (fun _ _ z => z.elim) (fun v_86 h_86 p_86 => ?_)
            obtain ⟨rfl, rfl⟩ := p_86
            dsimp only [gk_push]
            refine gk_cast C cw_X4_238 rfl (hx_20 I hbw) dX4_sendUpFrom_89 ?_
            refine gk_iload_n C dX4_sendUpFrom_92 rfl ?_
            refine gk_iconst C dX4_sendUpFrom_93 ?_
            refine gk_isub C dX4_sendUpFrom_94 ?_
            refine gk_putf C f_X4_317 dX4_sendUpFrom_95 (hx_20 I hbw) rfl rfl (by exact Nat.le_of_ble_eq_true rfl) ?_
            refine (R _ _ _ _ _ (by decide) (by decide)).2.2.1 rfl dX4_sendUpFrom_98 ?_
            refine ⟨rfl, ?_⟩
            unfold xUp
            first
              | (rw [if_pos (show 0 ≤ (upB B.2.2.1 g B.1).1 by omega), ebt]; exact hx_S20 I hbw (gr := bGr (B.2.2.1 bw)) (ng := g - 1) (po := bPo (B.2.2.1 bw)) (rk := bRk (B.2.2.1 bw)) (su := bSu (B.2.2.1 bw)) (fi := bFi (B.2.2.1 bw)) (tp := bTp (B.2.2.1 bw)))
              | (rw [if_neg (show ¬ 0 ≤ (upB B.2.2.1 g B.1).1 by omega)])
      · have hk1 : k < B.1 := by omega
        obtain ⟨k1, k2, k3, k4, k5, k6, k7, k8, k9⟩ := hok k hk1
        refine gk_aload_n C dX4_sendUpFrom_19 rfl ?_
        refine gk_getf C f_X4_42.r dX4_sendUpFrom_20 (hx_0 I) (by rfl) ?_
        refine gk_iload C dX4_sendUpFrom_23 rfl ?_
        refine gk_callV C o_Jx4a65c_get_915e3 k_X4_134 dX4_sendUpFrom_25 (c_AL_get hfl (hx_7a I (has_of hk1)) (hx_12 I (has_of hk1)) (y := ad (20, k)) (z := (k : Int)) (by omega) (by omega) (rw_at (g := (fun i => ad (20, i))) (by omega))) (hx_7s I) rfl rfl rfl (by decide) (by decide) (by exact Nat.le_of_ble_eq_true rfl) (fun _ _ z => z.elim) (fun v_25 h_25 p_25 => ?_)
        obtain ⟨rfl, rfl⟩ := p_25
        dsimp only [gk_push]
        refine gk_cast C cw_X4_238 rfl (hx_20 I hk1) dX4_sendUpFrom_28 ?_
        refine gk_astore_5 C rfl (by decide) dX4_sendUpFrom_31 ?_
        refine gk_aload C dX4_sendUpFrom_33 rfl ?_
        refine gk_getf C f_X4_246.r dX4_sendUpFrom_35 (hx_20 I hk1) (by rfl) ?_
        refine gk_iload_n C dX4_sendUpFrom_38 rfl ?_
        refine gk_icmp_ne C (tgt := 60) (by omega) (by omega) dX4_sendUpFrom_39 (by decide) (fun c_39 => ?_) (fun c_39 => ?_)
        · refine gk_iinc_4 C rfl (by decide) dX4_sendUpFrom_60 ?_
          refine gk_goto C (tgt := 7) dX4_sendUpFrom_63 (by decide) ?_
          first | exact fin0 _ (by omega) (by omega) | exact fin1 _ (by omega) (by omega)
        · refine gk_aload C dX4_sendUpFrom_42 rfl ?_
          refine gk_getf C f_X4_314.r dX4_sendUpFrom_44 (hx_20 I hk1) (by rfl) ?_
          refine gk_iload_n C dX4_sendUpFrom_47 rfl ?_
          refine gk_icmp_le C (tgt := 60) (by omega) (by omega) dX4_sendUpFrom_48 (by decide) (fun c_48 => ?_) (fun c_48 => ?_)
          · refine gk_iinc_4 C rfl (by decide) dX4_sendUpFrom_60 ?_
            refine gk_goto C (tgt := 7) dX4_sendUpFrom_63 (by decide) ?_
            first | exact fin0 _ (by omega) (by omega) | exact fin1 _ (by omega) (by omega)
          · refine gk_iload C dX4_sendUpFrom_51 rfl ?_
            refine gk_istore_n_2 C rfl (by decide) dX4_sendUpFrom_53 ?_
            refine gk_aload C dX4_sendUpFrom_54 rfl ?_
            refine gk_getf C f_X4_314.r dX4_sendUpFrom_56 (hx_20 I hk1) (by rfl) ?_
            refine gk_istore_n_3 C rfl (by decide) dX4_sendUpFrom_59 ?_
            refine gk_iinc_4 C rfl (by decide) dX4_sendUpFrom_60 ?_
            refine gk_goto C (tgt := 7) dX4_sendUpFrom_63 (by decide) ?_
            first | exact fin0 _ (by omega) (by omega) | exact fin1 _ (by omega) (by omega)
  exact key 9 0 none (by omega) (by omega)

set_option maxRecDepth 100000 in
set_option maxHeartbeats 4000000 in
theorem x_sendDown {l : Launch} {Γ : GA} (hfl : l.stackTraces = false) {ad : XK → Nat} {Q : XTs} {S : XSs} {P : XPs} {B : XBs} (I : IX (gEm Γ) ad Q S P B) (hn : B.1 ≤ 8) (hok : ∀ i, i < B.1 → baOk (B.2.2.1 i)) {g : Int} (hg0 : 1 ≤ g ∧ g ≤ 5) : Ct l Γ m_X4_sendDownFrom [.ref (ad (0, 0)), iv g] (HX (gEm Γ) ad Q S P B) (fun v h' => v = none ∧ h' = HX (gEm Γ) ad Q S P (B.1, B.2.1, xDn B.2.2.1 B.1 g, B.2.2.2.1, B.2.2.2.2)) (fun _ _ => False) := by
  have hg : -2147483648 ≤ g ∧ g ≤ 2147483647 := by omega
  have bcg := cOg_bd B.2.2.1 g B.1
  refine Ct.intro hfl (by decide +kernel) rfl (Nat.le_of_ble_eq_true rfl) ?_
  intro G C R T
  show G 0 [some (.ref (ad (0, 0))), some (iv g), none, none, none, none] [] (HX (gEm Γ) ad Q S P B) 0 0
  refine gk_iconst C dX4_sendDownFrom_0 ?_
  refine gk_istore_n_2 C rfl (by decide) dX4_sendDownFrom_1 ?_
  refine gk_iconst C dX4_sendDownFrom_2 ?_
  refine gk_istore_n_3 C rfl (by decide) dX4_sendDownFrom_3 ?_
  refine gk_iconst C dX4_sendDownFrom_4 ?_
  refine gk_istore_4 C rfl (by decide) dX4_sendDownFrom_5 ?_
  have key : ∀ (n k : Nat) x5, (B.1 : Int) - k < n → k ≤ B.1 → G 7 [some (.ref (ad (0, 0))), some (iv g), some (iv (dnB B.2.2.1 g k).1), some (iv (dnB B.2.2.1 g k).2), some (iv (k : Int)), x5] [] (HX (gEm Γ) ad Q S P B) 0 0 := by
    intro n
    induction n with
    | zero => intro k x5 h1; omega
    | succ n ih =>
      intro k x5 hn0 hk
      have bu := dnB_bd (g := g) hok k hk
      have eu : (dnB B.2.2.1 g (k + 1)) = if bGr (B.2.2.1 k) = g ∧ ((dnB B.2.2.1 g k).1 = -1 ∨ bPo (B.2.2.1 k) ≤ (dnB B.2.2.1 g k).2) then ((k : Int), bPo (B.2.2.1 k)) else (dnB B.2.2.1 g k) := rfl
      have fin0 : ∀ x5, k < B.1 → ¬ (bGr (B.2.2.1 k) = g ∧ ((dnB B.2.2.1 g k).1 = -1 ∨ bPo (B.2.2.1 k) ≤ (dnB B.2.2.1 g k).2)) → G 7 [some (.ref (ad (0, 0))), some (iv g), some (iv (dnB B.2.2.1 g k).1), some (iv (dnB B.2.2.1 g k).2), some (iv ((k : Int) + 1)), x5] [] (HX (gEm Γ) ad Q S P B) 0 0 := by
        intro x5 h1 h2
        have h9 := ih (k + 1) x5 (by omega) (by omega)
        rw [eu, if_neg h2] at h9
        exact h9
      have fin1 : ∀ x5, k < B.1 → (bGr (B.2.2.1 k) = g ∧ ((dnB B.2.2.1 g k).1 = -1 ∨ bPo (B.2.2.1 k) ≤ (dnB B.2.2.1 g k).2)) → G 7 [some (.ref (ad (0, 0))), some (iv g), some (iv (k : Int)), some (iv (bPo (B.2.2.1 k))), some (iv ((k : Int) + 1)), x5] [] (HX (gEm Γ) ad Q S P B) 0 0 := by
        intro x5 h1 h2
        have h9 := ih (k + 1) x5 (by omega) (by omega)
        rw [eu, if_pos h2] at h9
        exact h9
      refine gk_iload C dX4_sendDownFrom_7 rfl ?_
      refine gk_aload_n C dX4_sendDownFrom_9 rfl ?_
      refine gk_getf C f_X4_42.r dX4_sendDownFrom_10 (hx_0 I) (by rfl) ?_
      refine gk_callV C o_Jx4a65c_size_8abf5 k_X4_64 dX4_sendDownFrom_13 (c_AL_size hfl (hx_7s I)) (hx_7s I) rfl rfl rfl (by decide) (by decide) (by exact Nat.le_of_ble_eq_true rfl) (fun _ _ z => z.elim) (fun v_13 h_13 p_13 => ?_)
      obtain ⟨rfl, rfl⟩ := p_13
      dsimp only [gk_push]
      refine gk_icmp_ge C (tgt := 71) (by omega) (by omega) dX4_sendDownFrom_16 (by decide) (fun c_16 => ?_) (fun c_16 => ?_)
      · have ekn : k = B.1 := by omega
        rw [ekn] at bu ⊢
        refine gk_aload_n C dX4_sendDownFrom_71 rfl ?_
        refine gk_iload_n C dX4_sendDownFrom_72 rfl ?_
        refine gk_callV C o_X4_bandsOfGrade k_X4_241 dX4_sendDownFrom_73 (x_ofGrade hfl I hn hok hg) (hx_0 I) rfl rfl rfl (by decide) (by decide) (by exact Nat.le_of_ble_eq_true rfl) (fun _ _ z => z.elim) (fun v_73 h_73 p_73 => ?_)
        obtain ⟨rfl, rfl⟩ := p_73
        dsimp only [gk_push]
        refine gk_iconst C dX4_sendDownFrom_76 ?_
        refine gk_icmp_lt C (tgt := 112) (by omega) (by omega) dX4_sendDownFrom_77 (by decide) (fun c_77 => ?_) (fun c_77 => ?_)
        · refine (R _ _ _ _ _ (by decide) (by decide)).2.2.1 rfl dX4_sendDownFrom_112 ?_
          refine ⟨rfl, ?_⟩
          unfold xDn
          first
            | (rw [if_pos (show 2 ≤ cOg B.2.2.1 g B.1 ∧ 0 ≤ (dnB B.2.2.1 g B.1).1 by omega), ebt]; exact hx_S20 I hbw (gr := bGr (B.2.2.1 bw)) (ng := g + 1) (po := bPo (B.2.2.1 bw)) (rk := bRk (B.2.2.1 bw)) (su := bSu (B.2.2.1 bw)) (fi := bFi (B.2.2.1 bw)) (tp := bTp (B.2.2.1 bw)))
            | (rw [if_neg (show ¬ (2 ≤ cOg B.2.2.1 g B.1 ∧ 0 ≤ (dnB B.2.2.1 g B.1).1) by omega)])
        · refine gk_iload_n C dX4_sendDownFrom_80 rfl ?_
          refine gk_if_lt C (tgt := 112) (by omega) dX4_sendDownFrom_81 (by decide) (fun c_81 => ?_) (fun c_81 => ?_)
          · refine (R _ _ _ _ _ (by decide) (by decide)).2.2.1 rfl dX4_sendDownFrom_112 ?_
            refine ⟨rfl, ?_⟩
            unfold xDn
            first
              | (rw [if_pos (show 2 ≤ cOg B.2.2.1 g B.1 ∧ 0 ≤ (dnB B.2.2.1 g B.1).1 by omega), ebt]; exact hx_S20 I hbw (gr := bGr (B.2.2.1 bw)) (ng := g + 1) (po := bPo (B.2.2.1 bw)) (rk := bRk (B.2.2.1 bw)) (su := bSu (B.2.2.1 bw)) (fi := bFi (B.2.2.1 bw)) (tp := bTp (B.2.2.1 bw)))
              | (rw [if_neg (show ¬ (2 ≤ cOg B.2.2.1 g B.1 ∧ 0 ≤ (dnB B.2.2.1 g B.1).1) by omega)])
          · refine gk_iload_n C dX4_sendDownFrom_84 rfl ?_
            refine gk_aload_n C dX4_sendDownFrom_85 rfl ?_
            refine gk_getf C f_X4_42.r dX4_sendDownFrom_86 (hx_0 I) (by rfl) ?_
            refine gk_callV C o_Jx4a65c_size_8abf5 k_X4_64 dX4_sendDownFrom_89 (c_AL_size hfl (hx_7s I)) (hx_7s I) rfl rfl rfl (by decide) (by decide) (by exact Nat.le_of_ble_eq_true rfl) (fun _ _ z => z.elim) (fun v_89 h_89 p_89 => ?_)
            obtain ⟨rfl, rfl⟩ := p_89
            dsimp only [gk_push]
            refine gk_icmp_ge C (tgt := 112) (by omega) (by omega) dX4_sendDownFrom_92 (by decide) (fun c_92 => ?_) (fun c_92 => ?_)
            · refine (R _ _ _ _ _ (by decide) (by decide)).2.2.1 rfl dX4_sendDownFrom_112 ?_
              refine ⟨rfl, ?_⟩
              unfold xDn
              first
                | (rw [if_pos (show 2 ≤ cOg B.2.2.1 g B.1 ∧ 0 ≤ (dnB B.2.2.1 g B.1).1 by omega), ebt]; exact hx_S20 I hbw (gr := bGr (B.2.2.1 bw)) (ng := g + 1) (po := bPo (B.2.2.1 bw)) (rk := bRk (B.2.2.1 bw)) (su := bSu (B.2.2.1 bw)) (fi := bFi (B.2.2.1 bw)) (tp := bTp (B.2.2.1 bw)))
                | (rw [if_neg (show ¬ (2 ≤ cOg B.2.2.1 g B.1 ∧ 0 ≤ (dnB B.2.2.1 g B.1).1) by omega)])
            · obtain ⟨bw, ebw⟩ : ∃ bw : Nat, (dnB B.2.2.1 g B.1).1 = (bw : Int) := ⟨(dnB B.2.2.1 g B.1).1.toNat, by omega⟩
              have hbw : bw < B.1 := by omega
              have ebt : (dnB B.2.2.1 g B.1).1.toNat = bw := by omega
              rw [ebw]
              refine gk_aload_n C dX4_sendDownFrom_95 rfl ?_
              refine gk_getf C f_X4_42.r dX4_sendDownFrom_96 (hx_0 I) (by rfl) ?_
              refine gk_iload_n C dX4_sendDownFrom_99 rfl ?_
              refine gk_callV C o_Jx4a65c_get_915e3 k_X4_134 dX4_sendDownFrom_100 (c_AL_get hfl (hx_7a I (has_of hbw)) (hx_12 I (has_of hbw)) (y := ad (20, bw)) (z := (bw : Int)) (by omega) (by omega) (rw_at (g := (fun i => ad (20, i))) (by omega))) (hx_7s I) rfl rfl rfl (by decide) (by decide) (by exact Nat.le_of_ble_eq_true rfl) (fun _ _ z => z.elim) (fun v_100 h_100 p_100 => ?_)
              obtain ⟨rfl, rfl⟩ := p_100
              dsimp only [gk_push]
              refine gk_cast C cw_X4_238 rfl (hx_20 I hbw) dX4_sendDownFrom_103 ?_
              refine gk_iload_n C dX4_sendDownFrom_106 rfl ?_
              refine gk_iconst C dX4_sendDownFrom_107 ?_
              refine gk_iadd C dX4_sendDownFrom_108 ?_
              refine gk_putf C f_X4_317 dX4_sendDownFrom_109 (hx_20 I hbw) rfl rfl (by exact Nat.le_of_ble_eq_true rfl) ?_
              refine (R _ _ _ _ _ (by decide) (by decide)).2.2.1 rfl dX4_sendDownFrom_112 ?_
              refine ⟨rfl, ?_⟩
              unfold xDn
              first
                | (rw [if_pos (show 2 ≤ cOg B.2.2.1 g B.1 ∧ 0 ≤ (dnB B.2.2.1 g B.1).1 by omega), ebt]; exact hx_S20 I hbw (gr := bGr (B.2.2.1 bw)) (ng := g + 1) (po := bPo (B.2.2.1 bw)) (rk := bRk (B.2.2.1 bw)) (su := bSu (B.2.2.1 bw)) (fi := bFi (B.2.2.1 bw)) (tp := bTp (B.2.2.1 bw)))
                | (rw [if_neg (show ¬ (2 ≤ cOg B.2.2.1 g B.1 ∧ 0 ≤ (dnB B.2.2.1 g B.1).1) by omega)])
      · have hk1 : k < B.1 := by omega
        obtain ⟨k1, k2, k3, k4, k5, k6, k7, k8, k9⟩ := hok k hk1
        refine gk_aload_n C dX4_sendDownFrom_19 rfl ?_
        refine gk_getf C f_X4_42.r dX4_sendDownFrom_20 (hx_0 I) (by rfl) ?_
        refine gk_iload C dX4_sendDownFrom_23 rfl ?_
        refine gk_callV C o_Jx4a65c_get_915e3 k_X4_134 dX4_sendDownFrom_25 (c_AL_get hfl (hx_7a I (has_of hk1)) (hx_12 I (has_of hk1)) (y := ad (20, k)) (z := (k : Int)) (by omega) (by omega) (rw_at (g := (fun i => ad (20, i))) (by omega))) (hx_7s I) rfl rfl rfl (by decide) (by decide) (by exact Nat.le_of_ble_eq_true rfl) (fun _ _ z => z.elim) (fun v_25 h_25 p_25 => ?_)
        obtain ⟨rfl, rfl⟩ := p_25
        dsimp only [gk_push]
        refine gk_cast C cw_X4_238 rfl (hx_20 I hk1) dX4_sendDownFrom_28 ?_
        refine gk_astore_5 C rfl (by decide) dX4_sendDownFrom_31 ?_
        refine gk_aload C dX4_sendDownFrom_33 rfl ?_
        refine gk_getf C f_X4_246.r dX4_sendDownFrom_35 (hx_20 I hk1) (by rfl) ?_
        refine gk_iload_n C dX4_sendDownFrom_38 rfl ?_
        refine gk_icmp_ne C (tgt := 65) (by omega) (by omega) dX4_sendDownFrom_39 (by decide) (fun c_39 => ?_) (fun c_39 => ?_)
        · refine gk_iinc_4 C rfl (by decide) dX4_sendDownFrom_65 ?_
          refine gk_goto C (tgt := 7) dX4_sendDownFrom_68 (by decide) ?_
          first | exact fin0 _ (by omega) (by omega) | exact fin1 _ (by omega) (by omega)
        · refine gk_iload_n C dX4_sendDownFrom_42 rfl ?_
          refine gk_iconst C dX4_sendDownFrom_43 ?_
          refine gk_icmp_eq C (tgt := 56) (by omega) (by omega) dX4_sendDownFrom_44 (by decide) (fun c_44 => ?_) (fun c_44 => ?_)
          · refine gk_iload C dX4_sendDownFrom_56 rfl ?_
            refine gk_istore_n_2 C rfl (by decide) dX4_sendDownFrom_58 ?_
            refine gk_aload C dX4_sendDownFrom_59 rfl ?_
            refine gk_getf C f_X4_314.r dX4_sendDownFrom_61 (hx_20 I hk1) (by rfl) ?_
            refine gk_istore_n_3 C rfl (by decide) dX4_sendDownFrom_64 ?_
            refine gk_iinc_4 C rfl (by decide) dX4_sendDownFrom_65 ?_
            refine gk_goto C (tgt := 7) dX4_sendDownFrom_68 (by decide) ?_
            first | exact fin0 _ (by omega) (by omega) | exact fin1 _ (by omega) (by omega)
          · refine gk_aload C dX4_sendDownFrom_47 rfl ?_
            refine gk_getf C f_X4_314.r dX4_sendDownFrom_49 (hx_20 I hk1) (by rfl) ?_
            refine gk_iload_n C dX4_sendDownFrom_52 rfl ?_
            refine gk_icmp_gt C (tgt := 65) (by omega) (by omega) dX4_sendDownFrom_53 (by decide) (fun c_53 => ?_) (fun c_53 => ?_)
            · refine gk_iinc_4 C rfl (by decide) dX4_sendDownFrom_65 ?_
              refine gk_goto C (tgt := 7) dX4_sendDownFrom_68 (by decide) ?_
              first | exact fin0 _ (by omega) (by omega) | exact fin1 _ (by omega) (by omega)
            · refine gk_iload C dX4_sendDownFrom_56 rfl ?_
              refine gk_istore_n_2 C rfl (by decide) dX4_sendDownFrom_58 ?_
              refine gk_aload C dX4_sendDownFrom_59 rfl ?_
              refine gk_getf C f_X4_314.r dX4_sendDownFrom_61 (hx_20 I hk1) (by rfl) ?_
              refine gk_istore_n_3 C rfl (by decide) dX4_sendDownFrom_64 ?_
              refine gk_iinc_4 C rfl (by decide) dX4_sendDownFrom_65 ?_
              refine gk_goto C (tgt := 7) dX4_sendDownFrom_68 (by decide) ?_
              first | exact fin0 _ (by omega) (by omega) | exact fin1 _ (by omega) (by omega)
  exact key 9 0 none (by omega) (by omega)
