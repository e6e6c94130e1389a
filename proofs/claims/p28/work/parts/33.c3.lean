/-! the class: pipers -/
def piOk (p : PiS) : Prop := (-100 ≤ pR p ∧ pR p ≤ 100) ∧ (10 ≤ pP p ∧ pP p ≤ 40) ∧ (0 ≤ pB p ∧ pB p ≤ 9) ∧ (-100 ≤ pS p ∧ pS p ≤ 100) ∧ (0 ≤ pW p ∧ pW p ≤ 40) ∧ (0 ≤ pT p ∧ pT p ≤ 100) ∧ (pZ p = 0 ∨ pZ p = 1)
def pPit (p : PiS) : Int := pR p + pS p + 2 * pP p + 3 * pW p - pT p
theorem pPit_bd {p : PiS} (h : piOk p) : -400 ≤ pPit p ∧ pPit p ≤ 600 := by
  obtain ⟨h1, h2, h3, h4, h5, h6, h7⟩ := h
  unfold pPit
  omega
/-- the pitches gathered from the first k pipers, without w -/
def gatK (pf : Nat → PiS) (f0 : Int → Int) (w : Int) : Nat → Nat × (Int → Int)
  | 0 => (0, f0)
  | k + 1 => if pZ (pf k) = 0 ∧ ¬ (k : Int) = w then ((gatK pf f0 w k).1 + 1, pins (pPit (pf k)) (gatK pf f0 w k).1 (gatK pf f0 w k).2) else gatK pf f0 w k
theorem gatK_bd {pf : Nat → PiS} {f0 : Int → Int} {w : Int} (hf : ∀ i, -1000000 ≤ f0 i ∧ f0 i ≤ 1000000) : ∀ (k : Nat), (∀ i, i < k → piOk (pf i)) → (gatK pf f0 w k).1 ≤ k ∧ ∀ i, -1000000 ≤ (gatK pf f0 w k).2 i ∧ (gatK pf f0 w k).2 i ≤ 1000000
  | 0, _ => ⟨Nat.le_refl _, hf⟩
  | k + 1, h => by
    have ih := gatK_bd (w := w) hf k (fun i hi => h i (by omega))
    have hp := pPit_bd (h k (by omega))
    unfold gatK
    split
    · exact ⟨Nat.succ_le_succ ih.1, pins_bd (by omega) _ _ ih.2⟩
    · exact ⟨Nat.le_succ_of_le ih.1, ih.2⟩
section XP
variable {E : Nat} {ad : XK → Nat} {Q : XTs} {S : XSs} {P : XPs} {B : XBs}
theorem r0_12 {r : Nat} (h : r < 13) : r = 0 ∨ r = 1 ∨ r = 2 ∨ r = 3 ∨ r = 4 ∨ r = 5 ∨ r = 6 ∨ r = 7 ∨ r = 8 ∨ r = 9 ∨ r = 10 ∨ r = 11 ∨ r = 12 := by omega
theorem hx_base (I : IX E ad Q S P B) {r : Nat} {e : AE} {Q2 : XTs} {S2 : XSs} {P2 : XPs} {B2 : XBs} (hr : r < 13) (h1 : XM0 E ad Q S P B r ≠ none) (h2 : XM0 E ad Q2 S2 P2 B2 r = some e) (h3 : ∀ r2, r2 < 13 → r2 ≠ r → XM0 E ad Q2 S2 P2 B2 r2 = XM0 E ad Q S P B r2)
    (hq : Q2.1 = Q.1 ∧ Q2.2.2 = Q.2.2) (hp : P2.1 = P.1 ∧ P2.2.2.1 = P.2.2.1) (hb : B2.1 = B.1 ∧ B2.2.2.1 = B.2.2.1) : hset (HX E ad Q S P B) (ad (r, 0)) e = HX E ad Q2 S2 P2 B2 := by
  refine emb_set I ?_ ?_ ?_
  · unfold XM
    rw [if_pos (show r < 13 from hr), if_pos (show (0 : Nat) = 0 from rfl)]
    exact h1
  · unfold XM
    rw [if_pos (show r < 13 from hr), if_pos (show (0 : Nat) = 0 from rfl)]
    exact h2
  · rintro ⟨r2, j⟩ hne
    unfold XM
    dsimp only
    rw [hq.1, hq.2, hp.1, hp.2, hb.1, hb.2]
    by_cases c1 : r2 < 13
    · rw [if_pos c1, if_pos c1]
      by_cases c2 : j = 0
      · rw [if_pos c2, if_pos c2, h3 r2 c1 (fun z => hne (by rw [z, c2]))]
      · rw [if_neg c2, if_neg c2]
    · rw [if_neg c1, if_neg c1]
theorem hx_S5 (I : IX E ad Q S P B) {p : PiS} : hset (HX E ad Q S P B) (ad (5, 0)) (piC p) = HX E ad Q S (P.1, P.2.1, P.2.2.1, p, P.2.2.2.2) B :=
  hx_base I (by omega) (fun z => by cases z) rfl (fun r2 h hne => by rcases r0_12 h with e | e | e | e | e | e | e | e | e | e | e | e | e <;> subst e <;> first | rfl | exact absurd rfl hne) ⟨rfl, rfl⟩ ⟨rfl, rfl⟩ ⟨rfl, rfl⟩
theorem hx_S6 (I : IX E ad Q S P B) {c : Nat} : hset (HX E ad Q S P B) (ad (6, 0)) (oPt (ad (8, 0)) c) = HX E ad Q S (P.1, P.2.1, P.2.2.1, P.2.2.2.1, c, P.2.2.2.2.2) B :=
  hx_base I (by omega) (fun z => by cases z) rfl (fun r2 h hne => by rcases r0_12 h with e | e | e | e | e | e | e | e | e | e | e | e | e <;> subst e <;> first | rfl | exact absurd rfl hne) ⟨rfl, rfl⟩ ⟨rfl, rfl⟩ ⟨rfl, rfl⟩
theorem hx_S8 (I : IX E ad Q S P B) {f : Int → Int} : hset (HX E ad Q S P B) (ad (8, 0)) (aI 8 f) = HX E ad Q S (P.1, P.2.1, P.2.2.1, P.2.2.2.1, P.2.2.2.2.1, f) B :=
  hx_base I (by omega) (fun z => by cases z) rfl (fun r2 h hne => by rcases r0_12 h with e | e | e | e | e | e | e | e | e | e | e | e | e <;> subst e <;> first | rfl | exact absurd rfl hne) ⟨rfl, rfl⟩ ⟨rfl, rfl⟩ ⟨rfl, rfl⟩
theorem hx_S0 (I : IX E ad Q S P B) {op mm : Int} : hset (HX E ad Q S P B) (ad (0, 0)) (oO 5 [.ref (ad (1, 0)), .ref (ad (2, 0)), .ref (ad (3, 0)), .ref (ad (4, 0)), .ref (ad (5, 0)), .ref (ad (6, 0)), .ref (ad (7, 0)), iv op, iv mm]) = HX E ad Q S P (B.1, B.2.1, B.2.2.1, op, mm) :=
  hx_base I (by omega) (fun z => by cases z) rfl (fun r2 h hne => by rcases r0_12 h with e | e | e | e | e | e | e | e | e | e | e | e | e <;> subst e <;> first | rfl | exact absurd rfl hne) ⟨rfl, rfl⟩ ⟨rfl, rfl⟩ ⟨rfl, rfl⟩
theorem hx_S3 (I : IX E ad Q S P B) {f : Int → Int} : hset (HX E ad Q S P B) (ad (3, 0)) (aI 8 f) = HX E ad Q (S.1, S.2.1, S.2.2.1, S.2.2.2.1, f) P B :=
  hx_base I (by omega) (fun z => by cases z) rfl (fun r2 h hne => by rcases r0_12 h with e | e | e | e | e | e | e | e | e | e | e | e | e <;> subst e <;> first | rfl | exact absurd rfl hne) ⟨rfl, rfl⟩ ⟨rfl, rfl⟩ ⟨rfl, rfl⟩
theorem IX_P (I : IX E ad Q S P B) {pf : Nat → PiS} {tr : PiS} {c : Nat} {f : Int → Int} : IX E ad Q S (P.1, P.2.1, pf, tr, c, f) B := by
  refine IX_of I ?_
  rintro ⟨r2, j⟩
  unfold XM
  dsimp only
  by_cases c1 : r2 < 13
  · rw [if_pos c1, if_pos c1]
    by_cases c2 : j = 0
    · rw [if_pos c2, if_pos c2]
      rcases r0_12 c1 with e | e | e | e | e | e | e | e | e | e | e | e | e <;> subst e <;> first | exact fun z => z | (intro _ z; cases z)
    · rw [if_neg c2, if_neg c2]
      exact fun z => z
  · rw [if_neg c1, if_neg c1]
    by_cases c2 : r2 < 19
    · rw [if_pos c2, if_pos c2]
      exact fun z => z
    · rw [if_neg c2, if_neg c2]
      by_cases c3 : r2 = 19
      · rw [if_pos c3, if_pos c3]
        by_cases c4 : j < P.1
        · rw [if_pos c4, if_pos c4]
          intro _ z
          cases z
        · rw [if_neg c4, if_neg c4]
          exact fun z => z
      · rw [if_neg c3, if_neg c3]
        exact fun z => z
end XP

set_option maxRecDepth 100000 in
set_option maxHeartbeats 4000000 in
theorem x_seat {l : Launch} {Γ : GA} (hfl : l.stackTraces = false) {ad : XK → Nat} {Q : XTs} {S : XSs} {P : XPs} {B : XBs} (I : IX (gEm Γ) ad Q S P B) (hn : P.1 ≤ 8) (hok : ∀ i, i < P.1 → piOk (P.2.2.1 i)) {p b : Int} (hp : -2147483648 ≤ p ∧ p ≤ 2147483647)(hb : -2147483648 ≤ b ∧ b ≤ 2147483647) : Ct l Γ m_X4_seat [.ref (ad (0, 0)), iv p, iv b] (HX (gEm Γ) ad Q S P B) (fun v h' => v = some (iv (pS (P.2.2.1 p.toNat) + b)) ∧ ((0 ≤ p ∧ p < P.1) ∧ (-100 ≤ b ∧ b ≤ 100) ∧ (-100 ≤ pS (P.2.2.1 p.toNat) + b ∧ pS (P.2.2.1 p.toNat) + b ≤ 100)) ∧ h' = HX (gEm Γ) ad Q S (P.1, P.2.1, tset P.2.2.1 p.toNat (pR (P.2.2.1 p.toNat), pP (P.2.2.1 p.toNat), pB (P.2.2.1 p.toNat), pS (P.2.2.1 p.toNat) + b, pW (P.2.2.1 p.toNat), pT (P.2.2.1 p.toNat), pZ (P.2.2.1 p.toNat)), P.2.2.2.1, P.2.2.2.2.1, P.2.2.2.2.2) B) (fun X0 h' => h' = HX (gEm Γ) ad Q S P B ∧ ((X0 = "java/lang/IndexOutOfBoundsException" ∧ ¬ (0 ≤ p ∧ p < P.1)) ∨ (X0 = "java/lang/IllegalArgumentException" ∧ (0 ≤ p ∧ p < P.1) ∧ ¬ ((-100 ≤ b ∧ b ≤ 100) ∧ (-100 ≤ pS (P.2.2.1 p.toNat) + b ∧ pS (P.2.2.1 p.toNat) + b ≤ 100))))) := by
  refine Ct.intro hfl (by decide +kernel) rfl (Nat.le_of_ble_eq_true rfl) ?_
  intro G C R T
  show G 0 [some (.ref (ad (0, 0))), some (iv p), some (iv b), none] [] (HX (gEm Γ) ad Q S P B) 0 0
  refine gk_aload_n C dX4_seat_0 rfl ?_
  refine gk_iload_n C dX4_seat_1 rfl ?_
  refine gk_callV C o_X4_piperOfNumber k_X4_172 dX4_seat_2 (x_piperOf hfl I (by omega) hp) (hx_0 I) rfl rfl rfl (by decide) (by decide) (by exact Nat.le_of_ble_eq_true rfl) (fun _ _ z => ⟨⟨z.1, Or.inl z.2⟩, by decide, by decide⟩) (fun v_2 h_2 p_2 => ?_)
  obtain ⟨rfl, hpi, rfl⟩ := p_2
  dsimp only [gk_push]
  obtain ⟨i, rfl⟩ : ∃ i : Nat, p = (i : Int) := ⟨p.toNat, by omega⟩
  rw [show ((i : Int)).toNat = i from rfl]
  have hi : i < P.1 := by omega
  obtain ⟨k1, k2, k3, k4, k5, k6, k7⟩ := hok i hi
  refine gk_astore_n_3 C rfl (by decide) dX4_seat_5 ?_
  refine gk_iload_n C dX4_seat_6 rfl ?_
  refine gk_bipush C dX4_seat_7 (by decide) ?_
  refine gk_bipush C dX4_seat_9 (by decide) ?_
  refine gk_callS C o_X4_isWithin k_X4_53 dX4_seat_11 (x_isWithin hfl hb (by omega) (by omega)) rfl rfl (by decide) (by decide) (by exact Nat.le_of_ble_eq_true rfl) (fun _ _ z => z.elim) (fun v_11 h_11 p_11 => ?_)
  obtain ⟨r_11, rfl, rb_11, rc_11, rfl⟩ := p_11
  dsimp only [gk_push]
  refine gk_if_eq C (tgt := 33) (by omega) dX4_seat_14 (by decide) (fun c_14 => ?_) (fun c_14 => ?_)
  · exact T 33 _ _ _ _ _ _ _ 57 179 61 th_X4_seat_33 ⟨rfl, Or.inr ⟨rfl, hpi, (show ¬ ((-100 ≤ b ∧ b ≤ 100) ∧ (-100 ≤ pS (P.2.2.1 i) + b ∧ pS (P.2.2.1 i) + b ≤ 100)) by omega)⟩⟩ (by decide) (by exact Nat.le_of_ble_eq_true rfl) (by decide) (by decide) td_X4_seat_33
  · refine gk_aload_n C dX4_seat_17 rfl ?_
    refine gk_getf C f_X4_176.r dX4_seat_18 (hx_19 I hi) (by rfl) ?_
    refine gk_iload_n C dX4_seat_21 rfl ?_
    refine gk_iadd C dX4_seat_22 ?_
    refine gk_bipush C dX4_seat_23 (by decide) ?_
    refine gk_bipush C dX4_seat_25 (by decide) ?_
    refine gk_callS C o_X4_isWithin k_X4_53 dX4_seat_27 (x_isWithin hfl (z := pS (P.2.2.1 i) + b) (by omega) (by omega) (by omega)) rfl rfl (by decide) (by decide) (by exact Nat.le_of_ble_eq_true rfl) (fun _ _ z => z.elim) (fun v_27 h_27 p_27 => ?_)
    obtain ⟨r_27, rfl, rb_27, rc_27, rfl⟩ := p_27
    dsimp only [gk_push]
    refine gk_if_ne C (tgt := 43) (by omega) dX4_seat_30 (by decide) (fun c_30 => ?_) (fun c_30 => ?_)
    · refine gk_aload_n C dX4_seat_43 rfl ?_
      refine gk_dup C rfl dX4_seat_44 ?_
      refine gk_getf C f_X4_176.r dX4_seat_45 (hx_19 I hi) (by rfl) ?_
      refine gk_iload_n C dX4_seat_48 rfl ?_
      refine gk_iadd C dX4_seat_49 ?_
      refine gk_putf C f_X4_176 dX4_seat_50 (hx_19 I hi) rfl rfl (by exact Nat.le_of_ble_eq_true rfl) ?_
      refine gk_aload_n C dX4_seat_53 rfl ?_
      refine gk_getf C f_X4_176.r dX4_seat_54 hset_eq (by rfl) ?_
      refine (R _ _ _ _ _ (by decide) (by decide)).1 _ rfl dX4_seat_57 ?_
      exact ⟨rfl, ⟨hpi, by omega, (show -100 ≤ pS (P.2.2.1 i) + b ∧ pS (P.2.2.1 i) + b ≤ 100 by omega)⟩, hx_piS I (p := (pR (P.2.2.1 i), pP (P.2.2.1 i), pB (P.2.2.1 i), pS (P.2.2.1 i) + b, pW (P.2.2.1 i), pT (P.2.2.1 i), pZ (P.2.2.1 i))) hi⟩
    · exact T 33 _ _ _ _ _ _ _ 57 179 61 th_X4_seat_33 ⟨rfl, Or.inr ⟨rfl, hpi, (show ¬ ((-100 ≤ b ∧ b ≤ 100) ∧ (-100 ≤ pS (P.2.2.1 i) + b ∧ pS (P.2.2.1 i) + b ≤ 100)) by omega)⟩⟩ (by decide) (by exact Nat.le_of_ble_eq_true rfl) (by decide) (by decide) td_X4_seat_33

set_option maxRecDepth 100000 in
set_option maxHeartbeats 4000000 in
theorem x_rest {l : Launch} {Γ : GA} (hfl : l.stackTraces = false) {ad : XK → Nat} {Q : XTs} {S : XSs} {P : XPs} {B : XBs} (I : IX (gEm Γ) ad Q S P B) (hn : P.1 ≤ 8) (hok : ∀ i, i < P.1 → piOk (P.2.2.1 i)) {p b : Int} (hp : -2147483648 ≤ p ∧ p ≤ 2147483647) (hb : b = 0 ∨ b = 1) : Ct l Γ m_X4_rest [.ref (ad (0, 0)), iv p, iv b] (HX (gEm Γ) ad Q S P B) (fun v h' => v = some (iv (pZ (P.2.2.1 p.toNat))) ∧ (0 ≤ p ∧ p < P.1) ∧ h' = HX (gEm Γ) ad Q S (P.1, P.2.1, tset P.2.2.1 p.toNat (pR (P.2.2.1 p.toNat), pP (P.2.2.1 p.toNat), pB (P.2.2.1 p.toNat), pS (P.2.2.1 p.toNat), pW (P.2.2.1 p.toNat), pT (P.2.2.1 p.toNat), b), P.2.2.2.1, P.2.2.2.2.1, P.2.2.2.2.2) B) (fun X0 h' => h' = HX (gEm Γ) ad Q S P B ∧ X0 = "java/lang/IndexOutOfBoundsException" ∧ ¬ (0 ≤ p ∧ p < P.1)) := by
  refine Ct.intro hfl (by decide +kernel) rfl (Nat.le_of_ble_eq_true rfl) ?_
  intro G C R T
  show G 0 [some (.ref (ad (0, 0))), some (iv p), some (iv b), none, none] [] (HX (gEm Γ) ad Q S P B) 0 0
  refine gk_aload_n C dX4_rest_0 rfl ?_
  refine gk_iload_n C dX4_rest_1 rfl ?_
  refine gk_callV C o_X4_piperOfNumber k_X4_172 dX4_rest_2 (x_piperOf hfl I (by omega) hp) (hx_0 I) rfl rfl rfl (by decide) (by decide) (by exact Nat.le_of_ble_eq_true rfl) (fun _ _ z => ⟨⟨z.1, z.2⟩, by decide, by decide⟩) (fun v_2 h_2 p_2 => ?_)
  obtain ⟨rfl, hpi, rfl⟩ := p_2
  dsimp only [gk_push]
  obtain ⟨i, rfl⟩ : ∃ i : Nat, p = (i : Int) := ⟨p.toNat, by omega⟩
  rw [show ((i : Int)).toNat = i from rfl]
  have hi : i < P.1 := by omega
  obtain ⟨k1, k2, k3, k4, k5, k6, k7⟩ := hok i hi
  refine gk_astore_n_3 C rfl (by decide) dX4_rest_5 ?_
  refine gk_aload_n C dX4_rest_6 rfl ?_
  refine gk_getf C f_X4_181.r dX4_rest_7 (hx_19 I hi) (by rfl) ?_
  refine gk_istore_4 C rfl (by decide) dX4_rest_10 ?_
  refine gk_aload_n C dX4_rest_12 rfl ?_
  refine gk_iload_n C dX4_rest_13 rfl ?_
  refine gk_putf C f_X4_181 dX4_rest_14 (hx_19 I hi) (gk_nb (by omega)).1 (gk_nb (by omega)).2 (by exact Nat.le_of_ble_eq_true rfl) ?_
  refine gk_iload C dX4_rest_17 rfl ?_
  refine (R _ _ _ _ _ (by decide) (by decide)).2.1 _ rfl (by omega) dX4_rest_19 ?_
  exact ⟨rfl, hpi, hx_piS I (p := (pR (P.2.2.1 i), pP (P.2.2.1 i), pB (P.2.2.1 i), pS (P.2.2.1 i), pW (P.2.2.1 i), pT (P.2.2.1 i), b)) hi⟩

set_option maxRecDepth 100000 in
set_option maxHeartbeats 4000000 in
theorem x_gather {l : Launch} {Γ : GA} (hfl : l.stackTraces = false) {ad : XK → Nat} {Q : XTs} {S : XSs} {P : XPs} {B : XBs} (I : IX (gEm Γ) ad Q S P B) (hn : P.1 ≤ 8) (hok : ∀ i, i < P.1 → piOk (P.2.2.1 i)) (hf0 : ∀ i, -1000000 ≤ P.2.2.2.2.2 i ∧ P.2.2.2.2.2 i ≤ 1000000) {w : Int} (hw : -2147483648 ≤ w ∧ w ≤ 2147483647) : Ct l Γ m_X4_gatherPitchesWithout [.ref (ad (0, 0)), iv w] (HX (gEm Γ) ad Q S P B) (fun v h' => v = none ∧ h' = HX (gEm Γ) ad Q S (P.1, P.2.1, P.2.2.1, P.2.2.2.1, (gatK P.2.2.1 P.2.2.2.2.2 w P.1).1, (gatK P.2.2.1 P.2.2.2.2.2 w P.1).2) B) (fun _ _ => False) := by
  refine Ct.intro hfl (by decide +kernel) rfl (Nat.le_of_ble_eq_true rfl) ?_
  intro G C R T
  show G 0 [some (.ref (ad (0, 0))), some (iv w), none, none] [] (HX (gEm Γ) ad Q S P B) 0 0
  refine gk_aload_n C dX4_gatherPitchesWithout_0 rfl ?_
  refine gk_getf C f_X4_38.r dX4_gatherPitchesWithout_1 (hx_0 I) (by rfl) ?_
  refine gk_callV C o_X2_empty k_X4_216 dX4_gatherPitchesWithout_4 (c_X2_empty hfl (hx_6 I)) (hx_6 I) rfl rfl rfl (by decide) (by decide) (by exact Nat.le_of_ble_eq_true rfl) (fun _ _ z => z.elim) (fun v_4 h_4 p_4 => ?_)
  obtain ⟨rfl, rfl⟩ := p_4
  dsimp only [gk_push]
  rw [show (oPt (ad (8, 0)) 0) = oPt (ad (8, 0)) ((0 : Nat) : Int) from rfl, hx_S6 I]
  refine gk_iconst C dX4_gatherPitchesWithout_7 ?_
  refine gk_istore_n_2 C rfl (by decide) dX4_gatherPitchesWithout_8 ?_
  have key : ∀ (n k : Nat) x3, (P.1 : Int) - k < n → k ≤ P.1 → G 9 [some (.ref (ad (0, 0))), some (iv w), some (iv (k : Int)), x3] [] (HX (gEm Γ) ad Q S (P.1, P.2.1, P.2.2.1, P.2.2.2.1, (gatK P.2.2.1 P.2.2.2.2.2 w k).1, (gatK P.2.2.1 P.2.2.2.2.2 w k).2) B) 0 0 := by
    intro n
    induction n with
    | zero => intro k x3 h1; omega
    | succ n ih =>
      intro k x3 hn0 hk
      have IG := IX_P I (pf := P.2.2.1) (tr := P.2.2.2.1) (c := (gatK P.2.2.1 P.2.2.2.2.2 w k).1) (f := (gatK P.2.2.1 P.2.2.2.2.2 w k).2)
      have hgb := gatK_bd (w := w) hf0 k (fun i hi => hok i (by omega))
      have eg : gatK P.2.2.1 P.2.2.2.2.2 w (k + 1) = if pZ (P.2.2.1 k) = 0 ∧ ¬ (k : Int) = w then ((gatK P.2.2.1 P.2.2.2.2.2 w k).1 + 1, pins (pPit (P.2.2.1 k)) (gatK P.2.2.1 P.2.2.2.2.2 w k).1 (gatK P.2.2.1 P.2.2.2.2.2 w k).2) else gatK P.2.2.1 P.2.2.2.2.2 w k := rfl
      have fin0 : ∀ x3, k < P.1 → ¬ (pZ (P.2.2.1 k) = 0 ∧ ¬ (k : Int) = w) → G 9 [some (.ref (ad (0, 0))), some (iv w), some (iv ((k : Int) + 1)), x3] [] (HX (gEm Γ) ad Q S (P.1, P.2.1, P.2.2.1, P.2.2.2.1, (gatK P.2.2.1 P.2.2.2.2.2 w k).1, (gatK P.2.2.1 P.2.2.2.2.2 w k).2) B) 0 0 := by
        intro x3 h1 h2
        have h9 := ih (k + 1) x3 (by omega) (by omega)
        rw [eg, if_neg h2] at h9
        exact h9
      have fin1 : ∀ x3, k < P.1 → (pZ (P.2.2.1 k) = 0 ∧ ¬ (k : Int) = w) → G 9 [some (.ref (ad (0, 0))), some (iv w), some (iv ((k : Int) + 1)), x3] [] (HX (gEm Γ) ad Q S (P.1, P.2.1, P.2.2.1, P.2.2.2.1, ((gatK P.2.2.1 P.2.2.2.2.2 w k).1 + 1), (pins (pPit (P.2.2.1 k)) (gatK P.2.2.1 P.2.2.2.2.2 w k).1 (gatK P.2.2.1 P.2.2.2.2.2 w k).2)) B) 0 0 := by
        intro x3 h1 h2
        have h9 := ih (k + 1) x3 (by omega) (by omega)
        rw [eg, if_pos h2] at h9
        exact h9
      refine gk_iload_n C dX4_gatherPitchesWithout_9 rfl ?_
      refine gk_aload_n C dX4_gatherPitchesWithout_10 rfl ?_
      refine gk_getf C f_X4_23.r dX4_gatherPitchesWithout_11 (hx_0 IG) (by rfl) ?_
      refine gk_callV C o_Jx4a65c_size_8abf5 k_X4_64 dX4_gatherPitchesWithout_14 (c_AL_size hfl (hx_4s IG)) (hx_4s IG) rfl rfl rfl (by decide) (by decide) (by exact Nat.le_of_ble_eq_true rfl) (fun _ _ z => z.elim) (fun v_14 h_14 p_14 => ?_)
      obtain ⟨rfl, rfl⟩ := p_14
      dsimp only [gk_push]
      refine gk_icmp_ge C (tgt := 61) (by omega) (by omega) dX4_gatherPitchesWithout_17 (by decide) (fun c_17 => ?_) (fun c_17 => ?_)
      · refine (R _ _ _ _ _ (by decide) (by decide)).2.2.1 rfl dX4_gatherPitchesWithout_61 ?_
        rw [show k = P.1 by omega]
        exact ⟨rfl, rfl⟩
      · have hk1 : k < P.1 := by omega
        obtain ⟨k1, k2, k3, k4, k5, k6, k7⟩ := hok k hk1
        have kpb := pPit_bd (hok k hk1)
        refine gk_aload_n C dX4_gatherPitchesWithout_20 rfl ?_
        refine gk_getf C f_X4_23.r dX4_gatherPitchesWithout_21 (hx_0 IG) (by rfl) ?_
        refine gk_iload_n C dX4_gatherPitchesWithout_24 rfl ?_
        refine gk_callV C o_Jx4a65c_get_915e3 k_X4_134 dX4_gatherPitchesWithout_25 (c_AL_get hfl (hx_4a IG (has_of hk1)) (hx_11 IG (has_of hk1)) (y := ad (19, k)) (z := (k : Int)) (by omega) (by omega) (rw_at (g := (fun i => ad (19, i))) (by omega))) (hx_4s IG) rfl rfl rfl (by decide) (by decide) (by exact Nat.le_of_ble_eq_true rfl) (fun _ _ z => z.elim) (fun v_25 h_25 p_25 => ?_)
        obtain ⟨rfl, rfl⟩ := p_25
        dsimp only [gk_push]
        refine gk_cast C cw_X4_26 rfl (hx_19 IG hk1) dX4_gatherPitchesWithout_28 ?_
        refine gk_astore_n_3 C rfl (by decide) dX4_gatherPitchesWithout_31 ?_
        refine gk_iload_n C dX4_gatherPitchesWithout_32 rfl ?_
        refine gk_iload_n C dX4_gatherPitchesWithout_33 rfl ?_
        refine gk_icmp_eq C (tgt := 55) (by omega) (by omega) dX4_gatherPitchesWithout_34 (by decide) (fun c_34 => ?_) (fun c_34 => ?_)
        · refine gk_iinc_2 C rfl (by decide) dX4_gatherPitchesWithout_55 ?_
          refine gk_goto C (tgt := 9) dX4_gatherPitchesWithout_58 (by decide) ?_
          first | exact fin0 _ (by omega) (fun z => z.2 (by omega)) | exact fin0 _ (by omega) (fun z => absurd z.1 (by omega)) | (refine gi_cast ?_ (fin1 _ (by omega) ⟨by omega, by omega⟩); rw [hx_S8 IG, show (((gatK P.2.2.1 P.2.2.2.2.2 w k).1 : Int) + 1) = (((gatK P.2.2.1 P.2.2.2.2.2 w k).1 + 1 : Nat) : Int) from rfl]; exact hx_S6 (IX_P IG))
        · refine gk_aload_n C dX4_gatherPitchesWithout_37 rfl ?_
          refine gk_getf C f_X4_181.r dX4_gatherPitchesWithout_38 (hx_19 IG hk1) (by rfl) ?_
          try dsimp only
          refine gk_if_ne C (tgt := 55) (by omega) dX4_gatherPitchesWithout_41 (by decide) (fun c_41 => ?_) (fun c_41 => ?_)
          · refine gk_iinc_2 C rfl (by decide) dX4_gatherPitchesWithout_55 ?_
            refine gk_goto C (tgt := 9) dX4_gatherPitchesWithout_58 (by decide) ?_
            first | exact fin0 _ (by omega) (fun z => z.2 (by omega)) | exact fin0 _ (by omega) (fun z => absurd z.1 (by omega)) | (refine gi_cast ?_ (fin1 _ (by omega) ⟨by omega, by omega⟩); rw [hx_S8 IG, show (((gatK P.2.2.1 P.2.2.2.2.2 w k).1 : Int) + 1) = (((gatK P.2.2.1 P.2.2.2.2.2 w k).1 + 1 : Nat) : Int) from rfl]; exact hx_S6 (IX_P IG))
          · refine gk_aload_n C dX4_gatherPitchesWithout_44 rfl ?_
            refine gk_getf C f_X4_38.r dX4_gatherPitchesWithout_45 (hx_0 IG) (by rfl) ?_
            refine gk_aload_n C dX4_gatherPitchesWithout_48 rfl ?_
            refine gk_callV C o_X1_pitch k_X4_207 dX4_gatherPitchesWithout_49 (c_X1_pitch hfl (hx_19 IG hk1)) (hx_19 IG hk1) rfl rfl rfl (by decide) (by decide) (by exact Nat.le_of_ble_eq_true rfl) (fun _ _ z => z.elim) (fun v_49 h_49 p_49 => ?_)
            obtain ⟨rfl, rfl⟩ := p_49
            dsimp only [gk_push]
            refine gk_callV C o_X2_put k_X4_223 dX4_gatherPitchesWithout_52 (c_X2_put hfl (hx_6 IG) (hx_8 IG) (c := (gatK P.2.2.1 P.2.2.2.2.2 w k).1) (show (gatK P.2.2.1 P.2.2.2.2.2 w k).1 < 8 by omega) (p := pPit (P.2.2.1 k)) (by omega) (fun i _ _ => hgb.2 i)) (hx_6 IG) rfl rfl rfl (by decide) (by decide) (by exact Nat.le_of_ble_eq_true rfl) (fun _ _ z => z.elim) (fun v_52 h_52 p_52 => ?_)
            obtain ⟨rfl, rfl⟩ := p_52
            dsimp only [gk_push]
            refine gk_iinc_2 C rfl (by decide) dX4_gatherPitchesWithout_55 ?_
            refine gk_goto C (tgt := 9) dX4_gatherPitchesWithout_58 (by decide) ?_
            first | exact fin0 _ (by omega) (fun z => z.2 (by omega)) | exact fin0 _ (by omega) (fun z => absurd z.1 (by omega)) | (refine gi_cast ?_ (fin1 _ (by omega) ⟨by omega, by omega⟩); rw [hx_S8 IG, show (((gatK P.2.2.1 P.2.2.2.2.2 w k).1 : Int) + 1) = (((gatK P.2.2.1 P.2.2.2.2.2 w k).1 + 1 : Nat) : Int) from rfl]; exact hx_S6 (IX_P IG))
  exact key 9 0 none (by omega) (by omega)
