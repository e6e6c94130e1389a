/-! the class: helpers -/
abbrev tKd (t : TuS) : Int := t.1
abbrev tWc (t : TuS) : Nat := t.2.1
abbrev tFo (t : TuS) : Nat := t.2.2.1
abbrev tOu (t : TuS) : Int := t.2.2.2.1
abbrev tPc (t : TuS) : Nat := t.2.2.2.2.1
abbrev tPl (t : TuS) : Nat := t.2.2.2.2.2.1
abbrev tH (t : TuS) : Int → Int := t.2.2.2.2.2.2.1
abbrev tL (t : TuS) : Int → Int := t.2.2.2.2.2.2.2.1
abbrev tG (t : TuS) : Int → Int := t.2.2.2.2.2.2.2.2.1
abbrev tP (t : TuS) : Int → Int := t.2.2.2.2.2.2.2.2.2.1
abbrev tN (t : TuS) : Int → Int := t.2.2.2.2.2.2.2.2.2.2
abbrev pR (p : PiS) : Int := p.1
abbrev pP (p : PiS) : Int := p.2.1
abbrev pB (p : PiS) : Int := p.2.2.1
abbrev pS (p : PiS) : Int := p.2.2.2.1
abbrev pW (p : PiS) : Int := p.2.2.2.2.1
abbrev pT (p : PiS) : Int := p.2.2.2.2.2.1
abbrev pZ (p : PiS) : Int := p.2.2.2.2.2.2
abbrev bGr (b : BaS) : Int := b.1
abbrev bNg (b : BaS) : Int := b.2.1
abbrev bPo (b : BaS) : Int := b.2.2.1
abbrev bRk (b : BaS) : Int := b.2.2.2.1
abbrev bSu (b : BaS) : Int := b.2.2.2.2.1
abbrev bFi (b : BaS) : Int := b.2.2.2.2.2.1
abbrev bTp (b : BaS) : Int := b.2.2.2.2.2.2.1
abbrev bM (b : BaS) : Int → Int := b.2.2.2.2.2.2.2.1
abbrev bP (b : BaS) : Int → Int := b.2.2.2.2.2.2.2.2
section XY
variable {E : Nat} {ad : XK → Nat} {T : XTs} {S : XSs} {P : XPs} {B : XBs}
theorem hx_13 (I : IX E ad T S P B) {i : Nat} (hi : i < T.1) : HX E ad T S P B (ad (13, i)) = some (oTu i (tKd (T.2.2 i)) (ad (14, i)) (ad (15, i)) (ad (16, i)) (ad (17, i)) (ad (18, i)) (tWc (T.2.2 i)) (tFo (T.2.2 i)) (tOu (T.2.2 i)) (tPc (T.2.2 i)) (tPl (T.2.2 i))) := hx_tu I (r := 13) (by omega) hi
theorem hx_14 (I : IX E ad T S P B) {i : Nat} (hi : i < T.1) : HX E ad T S P B (ad (14, i)) = some (aI 64 (tH (T.2.2 i))) := hx_tu I (r := 14) (by omega) hi
theorem hx_15 (I : IX E ad T S P B) {i : Nat} (hi : i < T.1) : HX E ad T S P B (ad (15, i)) = some (aI 64 (tL (T.2.2 i))) := hx_tu I (r := 15) (by omega) hi
theorem hx_16 (I : IX E ad T S P B) {i : Nat} (hi : i < T.1) : HX E ad T S P B (ad (16, i)) = some (aI 64 (tG (T.2.2 i))) := hx_tu I (r := 16) (by omega) hi
theorem hx_17 (I : IX E ad T S P B) {i : Nat} (hi : i < T.1) : HX E ad T S P B (ad (17, i)) = some (aI 64 (tP (T.2.2 i))) := hx_tu I (r := 17) (by omega) hi
theorem hx_18 (I : IX E ad T S P B) {i : Nat} (hi : i < T.1) : HX E ad T S P B (ad (18, i)) = some (aI 128 (tN (T.2.2 i))) := hx_tu I (r := 18) (by omega) hi
theorem hx_19 (I : IX E ad T S P B) {i : Nat} (hi : i < P.1) : HX E ad T S P B (ad (19, i)) = some (oPi (pR (P.2.2.1 i)) (pP (P.2.2.1 i)) (pB (P.2.2.1 i)) (pS (P.2.2.1 i)) (pW (P.2.2.1 i)) (pT (P.2.2.1 i)) (pZ (P.2.2.1 i))) := hx_pi I hi
theorem hx_20 (I : IX E ad T S P B) {i : Nat} (hi : i < B.1) : HX E ad T S P B (ad (20, i)) = some (oBa i (ad (21, i)) (ad (22, i)) (bGr (B.2.2.1 i)) (bNg (B.2.2.1 i)) (bPo (B.2.2.1 i)) (bRk (B.2.2.1 i)) (bSu (B.2.2.1 i)) (bFi (B.2.2.1 i)) (bTp (B.2.2.1 i))) := hx_ba I (r := 20) (by omega) hi
theorem hx_21 (I : IX E ad T S P B) {i : Nat} (hi : i < B.1) : HX E ad T S P B (ad (21, i)) = some (aI 4 (bM (B.2.2.1 i))) := hx_ba I (r := 21) (by omega) hi
theorem hx_22 (I : IX E ad T S P B) {i : Nat} (hi : i < B.1) : HX E ad T S P B (ad (22, i)) = some (aI 4 (bP (B.2.2.1 i))) := hx_ba I (r := 22) (by omega) hi
theorem has_of {n i : Nat} (h : i < n) : has n = true := by
  unfold has
  exact Nat.blt_eq.mpr (by omega)
theorem hx_1a (I : IX E ad T S P B) (h : has T.1 = true) : HX E ad T S P B (ad (1, 0)) = some (oAL T.2.1 (ad (9, 0)) T.1) := by
  have h1 := hx_1 I
  unfold lsC at h1
  rw [h] at h1
  exact h1
theorem hx_2a (I : IX E ad T S P B) (h : S.1 = true) : HX E ad T S P B (ad (2, 0)) = some (oAL S.2.2.1 (ad (10, 0)) S.2.1) := by
  have h1 := hx_2 I
  unfold lsC at h1
  rw [h] at h1
  exact h1
theorem hx_4a (I : IX E ad T S P B) (h : has P.1 = true) : HX E ad T S P B (ad (4, 0)) = some (oAL P.2.1 (ad (11, 0)) P.1) := by
  have h1 := hx_4 I
  unfold lsC at h1
  rw [h] at h1
  exact h1
theorem hx_7a (I : IX E ad T S P B) (h : has B.1 = true) : HX E ad T S P B (ad (7, 0)) = some (oAL B.2.1 (ad (12, 0)) B.1) := by
  have h1 := hx_7 I
  unfold lsC at h1
  rw [h] at h1
  exact h1
theorem hx_1s (I : IX E ad T S P B) : HX E ad T S P B (ad (1, 0)) = some (oAL T.2.1 (if has T.1 then ad (9, 0) else E) T.1) := hx_1 I
theorem hx_2s (I : IX E ad T S P B) : HX E ad T S P B (ad (2, 0)) = some (oAL S.2.2.1 (if S.1 then ad (10, 0) else E) S.2.1) := hx_2 I
theorem hx_4s (I : IX E ad T S P B) : HX E ad T S P B (ad (4, 0)) = some (oAL P.2.1 (if has P.1 then ad (11, 0) else E) P.1) := hx_4 I
theorem hx_7s (I : IX E ad T S P B) : HX E ad T S P B (ad (7, 0)) = some (oAL B.2.1 (if has B.1 then ad (12, 0) else E) B.1) := hx_7 I
theorem rw_at {n : Nat} {g : Nat → Nat} {z : Int} (h : 0 ≤ z ∧ z < n) : (fun z : Int => if 0 ≤ z ∧ z < (n : Int) then some (g z.toNat) else none) z = some (g z.toNat) := if_pos h
end XY

set_option maxRecDepth 100000 in
set_option maxHeartbeats 4000000 in
theorem x_isWithin {l : Launch} {Γ : GA} (hfl : l.stackTraces = false) {h : Hp} {z a b : Int} (hz : -2147483648 ≤ z ∧ z ≤ 2147483647) (ha : -2147483648 ≤ a ∧ a ≤ 2147483647) (hb : -2147483648 ≤ b ∧ b ≤ 2147483647) : Ct l Γ m_X4_isWithin [iv z, iv a, iv b] h (fun v h' => ∃ r : Int, v = some (iv r) ∧ (r = 0 ∨ r = 1) ∧ (r = 1 ↔ a ≤ z ∧ z ≤ b) ∧ h' = h) (fun _ _ => False) := by
  refine Ct.intro hfl (by decide +kernel) rfl (Nat.le_of_ble_eq_true rfl) ?_
  intro G C R T
  show G 0 [some (iv z), some (iv a), some (iv b)] [] h 0 0
  refine gk_iload_n C dX4_isWithin_0 rfl ?_
  refine gk_iload_n C dX4_isWithin_1 rfl ?_
  refine gk_icmp_lt C (tgt := 14) (by omega) (by omega) dX4_isWithin_2 (by decide) (fun c_2 => ?_) (fun c_2 => ?_)
  · refine gk_iconst C dX4_isWithin_14 ?_
    refine (R _ _ _ _ _ (by decide) (by decide)).2.1 _ rfl (by omega) dX4_isWithin_15 ?_
    first | exact ⟨1, rfl, by omega, by omega, rfl⟩ | exact ⟨0, rfl, by omega, by omega, rfl⟩
  · refine gk_iload_n C dX4_isWithin_5 rfl ?_
    refine gk_iload_n C dX4_isWithin_6 rfl ?_
    refine gk_icmp_gt C (tgt := 14) (by omega) (by omega) dX4_isWithin_7 (by decide) (fun c_7 => ?_) (fun c_7 => ?_)
    · refine gk_iconst C dX4_isWithin_14 ?_
      refine (R _ _ _ _ _ (by decide) (by decide)).2.1 _ rfl (by omega) dX4_isWithin_15 ?_
      first | exact ⟨1, rfl, by omega, by omega, rfl⟩ | exact ⟨0, rfl, by omega, by omega, rfl⟩
    · refine gk_iconst C dX4_isWithin_10 ?_
      refine gk_goto C (tgt := 15) dX4_isWithin_11 (by decide) ?_
      refine (R _ _ _ _ _ (by decide) (by decide)).2.1 _ rfl (by omega) dX4_isWithin_15 ?_
      first | exact ⟨1, rfl, by omega, by omega, rfl⟩ | exact ⟨0, rfl, by omega, by omega, rfl⟩

set_option maxRecDepth 100000 in
set_option maxHeartbeats 4000000 in
theorem x_tuneOf {l : Launch} {Γ : GA} (hfl : l.stackTraces = false) {ad : XK → Nat} {Q : XTs} {S : XSs} {P : XPs} {B : XBs} (I : IX (gEm Γ) ad Q S P B) (hn : Q.1 ≤ 10) {t : Int} (ht : -2147483648 ≤ t ∧ t ≤ 2147483647) : Ct l Γ m_X4_tuneOfNumber [.ref (ad (0, 0)), iv t] (HX (gEm Γ) ad Q S P B) (fun v h' => v = some (.ref (ad (13, t.toNat))) ∧ (0 ≤ t ∧ t < Q.1) ∧ h' = HX (gEm Γ) ad Q S P B) (fun X0 h' => h' = HX (gEm Γ) ad Q S P B ∧ ((X0 = "java/lang/IndexOutOfBoundsException" ∧ ¬ (0 ≤ t ∧ t < Q.1)))) := by
  refine Ct.intro hfl (by decide +kernel) rfl (Nat.le_of_ble_eq_true rfl) ?_
  intro G C R T
  show G 0 [some (.ref (ad (0, 0))), some (iv t)] [] (HX (gEm Γ) ad Q S P B) 0 0
  refine gk_iload_n C dX4_tuneOfNumber_0 rfl ?_
  refine gk_if_lt C (tgt := 15) (by omega) dX4_tuneOfNumber_1 (by decide) (fun c_1 => ?_) (fun c_1 => ?_)
  · exact T 15 _ _ _ _ _ _ _ 110 132 114 th_X4_tuneOfNumber_15 ⟨rfl, rfl, by omega⟩ (by decide) (by exact Nat.le_of_ble_eq_true rfl) (by decide) (by decide) td_X4_tuneOfNumber_15
  · refine gk_iload_n C dX4_tuneOfNumber_4 rfl ?_
    refine gk_aload_n C dX4_tuneOfNumber_5 rfl ?_
    refine gk_getf C f_X4_10.r dX4_tuneOfNumber_6 (hx_0 I) (by rfl) ?_
    refine gk_callV C o_Jx4a65c_size_8abf5 k_X4_64 dX4_tuneOfNumber_9 (c_AL_size hfl (hx_1s I)) (hx_1s I) rfl rfl rfl (by decide) (by decide) (by exact Nat.le_of_ble_eq_true rfl) (fun _ _ z => z.elim) (fun v_9 h_9 p_9 => ?_)
    obtain ⟨rfl, rfl⟩ := p_9
    dsimp only [gk_push]
    refine gk_icmp_lt C (tgt := 25) (by omega) (by omega) dX4_tuneOfNumber_12 (by decide) (fun c_12 => ?_) (fun c_12 => ?_)
    · refine gk_aload_n C dX4_tuneOfNumber_25 rfl ?_
      refine gk_getf C f_X4_10.r dX4_tuneOfNumber_26 (hx_0 I) (by rfl) ?_
      refine gk_iload_n C dX4_tuneOfNumber_29 rfl ?_
      refine gk_callV C o_Jx4a65c_get_915e3 k_X4_134 dX4_tuneOfNumber_30 (c_AL_get hfl (hx_1a I (has_of (show t.toNat < Q.1 by omega))) (hx_9 I (has_of (show t.toNat < Q.1 by omega))) (y := ad (13, t.toNat)) (by omega) hn (rw_at (g := (fun i => ad (13, i))) (by omega))) (hx_1s I) rfl rfl rfl (by decide) (by decide) (by exact Nat.le_of_ble_eq_true rfl) (fun _ _ z => z.elim) (fun v_30 h_30 p_30 => ?_)
      obtain ⟨rfl, rfl⟩ := p_30
      dsimp only [gk_push]
      refine gk_cast C cw_X4_73 rfl (hx_13 I (show t.toNat < Q.1 by omega)) dX4_tuneOfNumber_33 ?_
      refine (R _ _ _ _ _ (by decide) (by decide)).2.2.2.1 _ _ rfl (Or.inl ⟨_, rfl⟩) dX4_tuneOfNumber_36 ?_
      exact ⟨rfl, by omega, rfl⟩
    · exact T 15 _ _ _ _ _ _ _ 110 132 114 th_X4_tuneOfNumber_15 ⟨rfl, rfl, by omega⟩ (by decide) (by exact Nat.le_of_ble_eq_true rfl) (by decide) (by decide) td_X4_tuneOfNumber_15

set_option maxRecDepth 100000 in
set_option maxHeartbeats 4000000 in
theorem x_piperOf {l : Launch} {Γ : GA} (hfl : l.stackTraces = false) {ad : XK → Nat} {Q : XTs} {S : XSs} {P : XPs} {B : XBs} (I : IX (gEm Γ) ad Q S P B) (hn : P.1 ≤ 10) {t : Int} (ht : -2147483648 ≤ t ∧ t ≤ 2147483647) : Ct l Γ m_X4_piperOfNumber [.ref (ad (0, 0)), iv t] (HX (gEm Γ) ad Q S P B) (fun v h' => v = some (.ref (ad (19, t.toNat))) ∧ (0 ≤ t ∧ t < P.1) ∧ h' = HX (gEm Γ) ad Q S P B) (fun X0 h' => h' = HX (gEm Γ) ad Q S P B ∧ ((X0 = "java/lang/IndexOutOfBoundsException" ∧ ¬ (0 ≤ t ∧ t < P.1)))) := by
  refine Ct.intro hfl (by decide +kernel) rfl (Nat.le_of_ble_eq_true rfl) ?_
  intro G C R T
  show G 0 [some (.ref (ad (0, 0))), some (iv t)] [] (HX (gEm Γ) ad Q S P B) 0 0
  refine gk_iload_n C dX4_piperOfNumber_0 rfl ?_
  refine gk_if_lt C (tgt := 15) (by omega) dX4_piperOfNumber_1 (by decide) (fun c_1 => ?_) (fun c_1 => ?_)
  · exact T 15 _ _ _ _ _ _ _ 110 229 114 th_X4_piperOfNumber_15 ⟨rfl, rfl, by omega⟩ (by decide) (by exact Nat.le_of_ble_eq_true rfl) (by decide) (by decide) td_X4_piperOfNumber_15
  · refine gk_iload_n C dX4_piperOfNumber_4 rfl ?_
    refine gk_aload_n C dX4_piperOfNumber_5 rfl ?_
    refine gk_getf C f_X4_23.r dX4_piperOfNumber_6 (hx_0 I) (by rfl) ?_
    refine gk_callV C o_Jx4a65c_size_8abf5 k_X4_64 dX4_piperOfNumber_9 (c_AL_size hfl (hx_4s I)) (hx_4s I) rfl rfl rfl (by decide) (by decide) (by exact Nat.le_of_ble_eq_true rfl) (fun _ _ z => z.elim) (fun v_9 h_9 p_9 => ?_)
    obtain ⟨rfl, rfl⟩ := p_9
    dsimp only [gk_push]
    refine gk_icmp_lt C (tgt := 25) (by omega) (by omega) dX4_piperOfNumber_12 (by decide) (fun c_12 => ?_) (fun c_12 => ?_)
    · refine gk_aload_n C dX4_piperOfNumber_25 rfl ?_
      refine gk_getf C f_X4_23.r dX4_piperOfNumber_26 (hx_0 I) (by rfl) ?_
      refine gk_iload_n C dX4_piperOfNumber_29 rfl ?_
      refine gk_callV C o_Jx4a65c_get_915e3 k_X4_134 dX4_piperOfNumber_30 (c_AL_get hfl (hx_4a I (has_of (show t.toNat < P.1 by omega))) (hx_11 I (has_of (show t.toNat < P.1 by omega))) (y := ad (19, t.toNat)) (by omega) hn (rw_at (g := (fun i => ad (19, i))) (by omega))) (hx_4s I) rfl rfl rfl (by decide) (by decide) (by exact Nat.le_of_ble_eq_true rfl) (fun _ _ z => z.elim) (fun v_30 h_30 p_30 => ?_)
      obtain ⟨rfl, rfl⟩ := p_30
      dsimp only [gk_push]
      refine gk_cast C cw_X4_26 rfl (hx_19 I (show t.toNat < P.1 by omega)) dX4_piperOfNumber_33 ?_
      refine (R _ _ _ _ _ (by decide) (by decide)).2.2.2.1 _ _ rfl (Or.inl ⟨_, rfl⟩) dX4_piperOfNumber_36 ?_
      exact ⟨rfl, by omega, rfl⟩
    · exact T 15 _ _ _ _ _ _ _ 110 229 114 th_X4_piperOfNumber_15 ⟨rfl, rfl, by omega⟩ (by decide) (by exact Nat.le_of_ble_eq_true rfl) (by decide) (by decide) td_X4_piperOfNumber_15

set_option maxRecDepth 100000 in
set_option maxHeartbeats 4000000 in
theorem x_bandOf {l : Launch} {Γ : GA} (hfl : l.stackTraces = false) {ad : XK → Nat} {Q : XTs} {S : XSs} {P : XPs} {B : XBs} (I : IX (gEm Γ) ad Q S P B) (hn : B.1 ≤ 10) {t : Int} (ht : -2147483648 ≤ t ∧ t ≤ 2147483647) : Ct l Γ m_X4_bandOfNumber [.ref (ad (0, 0)), iv t] (HX (gEm Γ) ad Q S P B) (fun v h' => v = some (.ref (ad (20, t.toNat))) ∧ (0 ≤ t ∧ t < B.1) ∧ h' = HX (gEm Γ) ad Q S P B) (fun X0 h' => h' = HX (gEm Γ) ad Q S P B ∧ ((X0 = "java/lang/IndexOutOfBoundsException" ∧ ¬ (0 ≤ t ∧ t < B.1)))) := by
  refine Ct.intro hfl (by decide +kernel) rfl (Nat.le_of_ble_eq_true rfl) ?_
  intro G C R T
  show G 0 [some (.ref (ad (0, 0))), some (iv t)] [] (HX (gEm Γ) ad Q S P B) 0 0
  refine gk_iload_n C dX4_bandOfNumber_0 rfl ?_
  refine gk_if_lt C (tgt := 15) (by omega) dX4_bandOfNumber_1 (by decide) (fun c_1 => ?_) (fun c_1 => ?_)
  · exact T 15 _ _ _ _ _ _ _ 110 295 114 th_X4_bandOfNumber_15 ⟨rfl, rfl, by omega⟩ (by decide) (by exact Nat.le_of_ble_eq_true rfl) (by decide) (by decide) td_X4_bandOfNumber_15
  · refine gk_iload_n C dX4_bandOfNumber_4 rfl ?_
    refine gk_aload_n C dX4_bandOfNumber_5 rfl ?_
    refine gk_getf C f_X4_42.r dX4_bandOfNumber_6 (hx_0 I) (by rfl) ?_
    refine gk_callV C o_Jx4a65c_size_8abf5 k_X4_64 dX4_bandOfNumber_9 (c_AL_size hfl (hx_7s I)) (hx_7s I) rfl rfl rfl (by decide) (by decide) (by exact Nat.le_of_ble_eq_true rfl) (fun _ _ z => z.elim) (fun v_9 h_9 p_9 => ?_)
    obtain ⟨rfl, rfl⟩ := p_9
    dsimp only [gk_push]
    refine gk_icmp_lt C (tgt := 26) (by omega) (by omega) dX4_bandOfNumber_12 (by decide) (fun c_12 => ?_) (fun c_12 => ?_)
    · refine gk_aload_n C dX4_bandOfNumber_26 rfl ?_
      refine gk_getf C f_X4_42.r dX4_bandOfNumber_27 (hx_0 I) (by rfl) ?_
      refine gk_iload_n C dX4_bandOfNumber_30 rfl ?_
      refine gk_callV C o_Jx4a65c_get_915e3 k_X4_134 dX4_bandOfNumber_31 (c_AL_get hfl (hx_7a I (has_of (show t.toNat < B.1 by omega))) (hx_12 I (has_of (show t.toNat < B.1 by omega))) (y := ad (20, t.toNat)) (by omega) hn (rw_at (g := (fun i => ad (20, i))) (by omega))) (hx_7s I) rfl rfl rfl (by decide) (by decide) (by exact Nat.le_of_ble_eq_true rfl) (fun _ _ z => z.elim) (fun v_31 h_31 p_31 => ?_)
      obtain ⟨rfl, rfl⟩ := p_31
      dsimp only [gk_push]
      refine gk_cast C cw_X4_238 rfl (hx_20 I (show t.toNat < B.1 by omega)) dX4_bandOfNumber_34 ?_
      refine (R _ _ _ _ _ (by decide) (by decide)).2.2.2.1 _ _ rfl (Or.inl ⟨_, rfl⟩) dX4_bandOfNumber_37 ?_
      exact ⟨rfl, by omega, rfl⟩
    · exact T 15 _ _ _ _ _ _ _ 110 295 114 th_X4_bandOfNumber_15 ⟨rfl, rfl, by omega⟩ (by decide) (by exact Nat.le_of_ble_eq_true rfl) (by decide) (by decide) td_X4_bandOfNumber_15
