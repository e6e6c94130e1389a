/-! the class: pipers, more -/
theorem pins_hi {p : Int} : ∀ (c : Nat) (f : Int → Int) (i : Int), (c : Int) < i → pins p c f i = f i
  | 0, f, i, h => gupd_ne (by omega)
  | c + 1, f, i, h => by
    unfold pins
    split
    · rw [pins_hi c _ i (by omega), gupd_ne (by omega)]
    · rw [gupd_ne (by omega)]
theorem pins_agree {p : Int} : ∀ (c : Nat) (f g : Int → Int), (∀ i : Int, 0 ≤ i → i < c → f i = g i) → ∀ i : Int, 0 ≤ i → i < ((c + 1 : Nat) : Int) → pins p c f i = pins p c g i
  | 0, f, g, _, i, h0, h1 => by
    have e : i = 0 := by omega
    subst e
    show gupd f 0 p 0 = gupd g 0 p 0
    rw [gupd_eq, gupd_eq]
  | c + 1, f, g, h, i, h0, h1 => by
    have e := h (c : Int) (by omega) (by omega)
    show (if p < f c then pins p c (gupd f ((c : Int) + 1) (f c)) else gupd f ((c : Int) + 1) p) i = (if p < g c then pins p c (gupd g ((c : Int) + 1) (g c)) else gupd g ((c : Int) + 1) p) i
    rw [e]
    by_cases q : p < g c
    · rw [if_pos q, if_pos q]
      by_cases q2 : i = (c : Int) + 1
      · rw [pins_hi c _ i (by omega), pins_hi c _ i (by omega), q2, gupd_eq, gupd_eq]
      · exact pins_agree c _ _ (fun j j0 j1 => by rw [gupd_ne (by omega), gupd_ne (by omega)]; exact h j j0 (by omega)) i h0 (by omega)
    · rw [if_neg q, if_neg q]
      by_cases q2 : i = (c : Int) + 1
      · rw [q2, gupd_eq, gupd_eq]
      · rw [gupd_ne q2, gupd_ne q2]
        exact h i h0 (by omega)
theorem gat_agree {pf : Nat → PiS} {f g : Int → Int} {w : Int} : ∀ k : Nat, (gatK pf f w k).1 = (gatK pf g w k).1 ∧ ∀ i : Int, 0 ≤ i → i < (gatK pf g w k).1 → (gatK pf f w k).2 i = (gatK pf g w k).2 i
  | 0 => ⟨rfl, fun i h0 h1 => by
      have h2 : i < 0 := h1
      omega⟩
  | k + 1 => by
    have ih := gat_agree (pf := pf) (f := f) (g := g) (w := w) k
    by_cases c : pZ (pf k) = 0 ∧ ¬ (k : Int) = w
    · have e1 : gatK pf f w (k + 1) = ((gatK pf f w k).1 + 1, pins (pPit (pf k)) (gatK pf f w k).1 (gatK pf f w k).2) := if_pos c
      have e2 : gatK pf g w (k + 1) = ((gatK pf g w k).1 + 1, pins (pPit (pf k)) (gatK pf g w k).1 (gatK pf g w k).2) := if_pos c
      rw [e1, e2]
      refine ⟨by show _ + 1 = _ + 1; rw [ih.1], fun i h0 h1 => ?_⟩
      show pins (pPit (pf k)) (gatK pf f w k).1 (gatK pf f w k).2 i = pins (pPit (pf k)) (gatK pf g w k).1 (gatK pf g w k).2 i
      rw [ih.1]
      exact pins_agree _ _ _ ih.2 i h0 h1
    · have e1 : gatK pf f w (k + 1) = gatK pf f w k := if_neg c
      have e2 : gatK pf g w (k + 1) = gatK pf g w k := if_neg c
      rw [e1, e2]
      exact ih
/-- how many are gathered; their spread; their middle -/
def gCnt (pf : Nat → PiS) (n : Nat) (w : Int) : Nat := (gatK pf (fun _ => 0) w n).1
def gRow (pf : Nat → PiS) (n : Nat) (w : Int) : Int → Int := (gatK pf (fun _ => 0) w n).2
def gSp (pf : Nat → PiS) (n : Nat) (w : Int) : Int := if gCnt pf n w = 0 then 0 else gRow pf n w ((gCnt pf n w : Int) - 1) - gRow pf n w 0
def gMd (pf : Nat → PiS) (n : Nat) (w : Int) : Int := if gCnt pf n w = 0 then 0 else gRow pf n w (((gCnt pf n w : Int) - 1) / 2)
theorem gSp_of {pf : Nat → PiS} {f : Int → Int} {n : Nat} {w : Int} : (if (gatK pf f w n).1 = 0 then 0 else (gatK pf f w n).2 (((gatK pf f w n).1 : Int) - 1) - (gatK pf f w n).2 0) = gSp pf n w := by
  have h := gat_agree (pf := pf) (f := f) (g := fun _ => 0) (w := w) n
  unfold gSp gCnt gRow
  rw [h.1]
  by_cases c : (gatK pf (fun _ => 0) w n).1 = 0
  · rw [if_pos c, if_pos c]
  · rw [if_neg c, if_neg c, h.2 _ (by omega) (by omega), h.2 _ (by omega) (by omega)]
theorem gMd_of {pf : Nat → PiS} {f : Int → Int} {n : Nat} {w : Int} : (if (gatK pf f w n).1 = 0 then 0 else (gatK pf f w n).2 ((((gatK pf f w n).1 : Int) - 1) / 2)) = gMd pf n w := by
  have h := gat_agree (pf := pf) (f := f) (g := fun _ => 0) (w := w) n
  unfold gMd gCnt gRow
  rw [h.1]
  by_cases c : (gatK pf (fun _ => 0) w n).1 = 0
  · rw [if_pos c, if_pos c]
  · rw [if_neg c, if_neg c, h.2 _ (by omega) (by omega)]
theorem gCnt_of {pf : Nat → PiS} {f : Int → Int} {n : Nat} {w : Int} : (gatK pf f w n).1 = gCnt pf n w := (gat_agree n).1
theorem gSp_bd {pf : Nat → PiS} {n : Nat} {w : Int} (h : ∀ i, i < n → piOk (pf i)) : -2000000 ≤ gSp pf n w ∧ gSp pf n w ≤ 2000000 := by
  have h1 := gatK_bd (w := w) (f0 := fun _ => 0) (fun _ => by omega) n h
  have h2 := h1.2 ((gCnt pf n w : Int) - 1)
  have h3 := h1.2 0
  unfold gSp gRow
  split
  · omega
  · omega
/-- the odd one among the first k -/
def oddK (pf : Nat → PiS) (n : Nat) : Nat → Int × Int
  | 0 => (-1, 0)
  | k + 1 => if pZ (pf k) = 0 ∧ ((oddK pf n k).1 = -1 ∨ gSp pf n k < (oddK pf n k).2) then ((k : Int), gSp pf n k) else oddK pf n k
theorem oddK_bd {pf : Nat → PiS} {n : Nat} (h : ∀ i, i < n → piOk (pf i)) : ∀ k : Nat, (-1 ≤ (oddK pf n k).1 ∧ (oddK pf n k).1 ≤ k) ∧ (-2000000 ≤ (oddK pf n k).2 ∧ (oddK pf n k).2 ≤ 2000000)
  | 0 => ⟨⟨Int.le_refl _, by show (-1 : Int) ≤ 0; omega⟩, by show (-2000000 : Int) ≤ 0 ∧ (0 : Int) ≤ 2000000; omega⟩
  | k + 1 => by
    have ih := oddK_bd h k
    have hs := gSp_bd (w := k) h
    unfold oddK
    split
    · exact ⟨⟨by show (-1 : Int) ≤ k; omega, by show (k : Int) ≤ _; omega⟩, hs⟩
    · exact ⟨⟨ih.1.1, by omega⟩, ih.2⟩

set_option maxRecDepth 100000 in
set_option maxHeartbeats 4000000 in
theorem x_spreadW {l : Launch} {Γ : GA} (hfl : l.stackTraces = false) {ad : XK → Nat} {Q : XTs} {S : XSs} {P : XPs} {B : XBs} (I : IX (gEm Γ) ad Q S P B) (hn : P.1 ≤ 8) (hok : ∀ i, i < P.1 → piOk (P.2.2.1 i)) (hf0 : ∀ i, -1000000 ≤ P.2.2.2.2.2 i ∧ P.2.2.2.2.2 i ≤ 1000000) {w : Int} (hw : -2147483648 ≤ w ∧ w ≤ 2147483647) : Ct l Γ m_X4_spreadWithout [.ref (ad (0, 0)), iv w] (HX (gEm Γ) ad Q S P B) (fun v h' => v = some (iv (gSp P.2.2.1 P.1 w)) ∧ ∃ (c2 : Nat) (f2 : Int → Int), c2 ≤ 8 ∧ (∀ i, -1000000 ≤ f2 i ∧ f2 i ≤ 1000000) ∧ h' = HX (gEm Γ) ad Q S (P.1, P.2.1, P.2.2.1, P.2.2.2.1, c2, f2) B) (fun _ _ => False) := by
  have IG := IX_P I (pf := P.2.2.1) (tr := P.2.2.2.1) (c := (gatK P.2.2.1 P.2.2.2.2.2 w P.1).1) (f := (gatK P.2.2.1 P.2.2.2.2.2 w P.1).2)
  have hgb := gatK_bd (w := w) hf0 P.1 hok
  refine Ct.intro hfl (by decide +kernel) rfl (Nat.le_of_ble_eq_true rfl) ?_
  intro G C R T
  show G 0 [some (.ref (ad (0, 0))), some (iv w)] [] (HX (gEm Γ) ad Q S P B) 0 0
  refine gk_aload_n C dX4_spreadWithout_0 rfl ?_
  refine gk_iload_n C dX4_spreadWithout_1 rfl ?_
  refine gk_callV C o_X4_gatherPitchesWithout k_X4_200 dX4_spreadWithout_2 (x_gather hfl I (P := P) hn hok hf0 (w := w) (by omega)) (hx_0 I) rfl rfl rfl (by decide) (by decide) (by exact Nat.le_of_ble_eq_true rfl) (fun _ _ z => z.elim) (fun v_2 h_2 p_2 => ?_)
  obtain ⟨rfl, rfl⟩ := p_2
  dsimp only [gk_push]
  refine gk_aload_n C dX4_spreadWithout_5 rfl ?_
  refine gk_getf C f_X4_38.r dX4_spreadWithout_6 (hx_0 IG) (by rfl) ?_
  refine gk_callV C o_X2_range k_X4_226 dX4_spreadWithout_9 (c_X2_range hfl (hx_6 IG) (hx_8 IG) (show (gatK P.2.2.1 P.2.2.2.2.2 w P.1).1 ≤ 8 by omega)) (hx_6 IG) rfl rfl rfl (by decide) (by decide) (by exact Nat.le_of_ble_eq_true rfl) (fun _ _ z => z.elim) (fun v_9 h_9 p_9 => ?_)
  obtain ⟨rfl, rfl⟩ := p_9
  dsimp only [gk_push]
  refine (R _ _ _ _ _ (by decide) (by decide)).1 _ rfl dX4_spreadWithout_12 ?_
  exact ⟨congrArg (fun q => some (iv q)) gSp_of, _, _, by omega, hgb.2, rfl⟩

set_option maxRecDepth 100000 in
set_option maxHeartbeats 4000000 in
theorem x_seatToMiddle {l : Launch} {Γ : GA} (hfl : l.stackTraces = false) {ad : XK → Nat} {Q : XTs} {S : XSs} {P : XPs} {B : XBs} (I : IX (gEm Γ) ad Q S P B) (hn : P.1 ≤ 8) (hok : ∀ i, i < P.1 → piOk (P.2.2.1 i)) (hf0 : ∀ i, -1000000 ≤ P.2.2.2.2.2 i ∧ P.2.2.2.2.2 i ≤ 1000000) {i : Nat} (hi : i < P.1) : Ct l Γ m_X4_seatToMiddle [.ref (ad (0, 0)), .ref (ad (19, i))] (HX (gEm Γ) ad Q S P B) (fun v h' => v = some (iv (if gCnt P.2.2.1 P.1 (-1) < 1 then 0 else gMd P.2.2.1 P.1 (-1) - pPit (P.2.2.1 i))) ∧ ∃ (c2 : Nat) (f2 : Int → Int), c2 ≤ 8 ∧ (∀ i, -1000000 ≤ f2 i ∧ f2 i ≤ 1000000) ∧ h' = HX (gEm Γ) ad Q S (P.1, P.2.1, P.2.2.1, P.2.2.2.1, c2, f2) B) (fun _ _ => False) := by
  have IG := IX_P I (pf := P.2.2.1) (tr := P.2.2.2.1) (c := (gatK P.2.2.1 P.2.2.2.2.2 (-1) P.1).1) (f := (gatK P.2.2.1 P.2.2.2.2.2 (-1) P.1).2)
  have hgb := gatK_bd (w := (-1)) hf0 P.1 hok
  have ec := gCnt_of (pf := P.2.2.1) (f := P.2.2.2.2.2) (n := P.1) (w := -1)
  refine Ct.intro hfl (by decide +kernel) rfl (Nat.le_of_ble_eq_true rfl) ?_
  intro G C R T
  show G 0 [some (.ref (ad (0, 0))), some (.ref (ad (19, i)))] [] (HX (gEm Γ) ad Q S P B) 0 0
  refine gk_aload_n C dX4_seatToMiddle_0 rfl ?_
  refine gk_iconst C dX4_seatToMiddle_1 ?_
  refine gk_callV C o_X4_gatherPitchesWithout k_X4_200 dX4_seatToMiddle_2 (x_gather hfl I (P := P) hn hok hf0 (w := -1) (by omega)) (hx_0 I) rfl rfl rfl (by decide) (by decide) (by exact Nat.le_of_ble_eq_true rfl) (fun _ _ z => z.elim) (fun v_2 h_2 p_2 => ?_)
  obtain ⟨rfl, rfl⟩ := p_2
  dsimp only [gk_push]
  refine gk_aload_n C dX4_seatToMiddle_5 rfl ?_
  refine gk_getf C f_X4_38.r dX4_seatToMiddle_6 (hx_0 IG) (by rfl) ?_
  refine gk_getf C f_X4_204.r dX4_seatToMiddle_9 (hx_6 IG) (by rfl) ?_
  dsimp only
  refine gk_iconst C dX4_seatToMiddle_12 ?_
  refine gk_icmp_ge C (tgt := 20) (by omega) (by omega) dX4_seatToMiddle_13 (by decide) (fun c_13 => ?_) (fun c_13 => ?_)
  · refine gk_aload_n C dX4_seatToMiddle_20 rfl ?_
    refine gk_getf C f_X4_38.r dX4_seatToMiddle_21 (hx_0 IG) (by rfl) ?_
    refine gk_callV C o_X2_middle k_X4_231 dX4_seatToMiddle_24 (c_X2_middle hfl (hx_6 IG) (hx_8 IG) (show (gatK P.2.2.1 P.2.2.2.2.2 (-1) P.1).1 ≤ 8 by omega)) (hx_6 IG) rfl rfl rfl (by decide) (by decide) (by exact Nat.le_of_ble_eq_true rfl) (fun _ _ z => z.elim) (fun v_24 h_24 p_24 => ?_)
    obtain ⟨rfl, rfl⟩ := p_24
    dsimp only [gk_push]
    rw [gMd_of]
    refine gk_aload_n C dX4_seatToMiddle_27 rfl ?_
    refine gk_callV C o_X1_pitch k_X4_207 dX4_seatToMiddle_28 (c_X1_pitch hfl (hx_19 IG hi)) (hx_19 IG hi) rfl rfl rfl (by decide) (by decide) (by exact Nat.le_of_ble_eq_true rfl) (fun _ _ z => z.elim) (fun v_28 h_28 p_28 => ?_)
    obtain ⟨rfl, rfl⟩ := p_28
    dsimp only [gk_push]
    refine gk_isub C dX4_seatToMiddle_31 ?_
    refine (R _ _ _ _ _ (by decide) (by decide)).1 _ rfl dX4_seatToMiddle_32 ?_
    refine ⟨congrArg (fun q => some (iv q)) ?_, _, _, by omega, hgb.2, rfl⟩
    first | (rw [if_pos (by omega)]; done) | (rw [if_neg (by omega)]; rfl) | (split <;> first | rfl | omega)
  · refine gk_iconst C dX4_seatToMiddle_16 ?_
    refine gk_goto C (tgt := 32) dX4_seatToMiddle_17 (by decide) ?_
    refine (R _ _ _ _ _ (by decide) (by decide)).1 _ rfl dX4_seatToMiddle_32 ?_
    refine ⟨congrArg (fun q => some (iv q)) ?_, _, _, by omega, hgb.2, rfl⟩
    first | (rw [if_pos (by omega)]; done) | (rw [if_neg (by omega)]; rfl) | (split <;> first | rfl | omega)

set_option maxRecDepth 100000 in
set_option maxHeartbeats 4000000 in
theorem x_isWeather {l : Launch} {Γ : GA} (hfl : l.stackTraces = false) {h : Hp} {m rain heat : Int} (hm : -2147483648 ≤ m ∧ m ≤ 2147483647)(hrain : -2147483648 ≤ rain ∧ rain ≤ 2147483647)(hheat : -2147483648 ≤ heat ∧ heat ≤ 2147483647) : Ct l Γ m_X4_isWeather [iv m, iv rain, iv heat] h (fun v h' => ∃ r : Int, v = some (iv r) ∧ (r = 0 ∨ r = 1) ∧ (r = 1 ↔ isMin m rain heat) ∧ h' = h) (fun _ _ => False) := by
  refine Ct.intro hfl (by decide +kernel) rfl (Nat.le_of_ble_eq_true rfl) ?_
  intro G C R T
  show G 0 [some (iv m), some (iv rain), some (iv heat)] [] h 0 0
  refine gk_iload_n C dX4_isWeather_0 rfl ?_
  refine gk_iconst C dX4_isWeather_1 ?_
  refine gk_bipush C dX4_isWeather_2 (by decide) ?_
  refine gk_callS C o_X4_isWithin k_X4_53 dX4_isWeather_4 (x_isWithin hfl hm (by omega) (by omega)) rfl rfl (by decide) (by decide) (by exact Nat.le_of_ble_eq_true rfl) (fun _ _ z => z.elim) (fun v_4 h_4 p_4 => ?_)
  obtain ⟨r_4, rfl, rb_4, rc_4, rfl⟩ := p_4
  dsimp only [gk_push]
  refine gk_if_eq C (tgt := 34) (by omega) dX4_isWeather_7 (by decide) (fun c_7 => ?_) (fun c_7 => ?_)
  · refine gk_iconst C dX4_isWeather_34 ?_
    refine (R _ _ _ _ _ (by decide) (by decide)).2.1 _ rfl (by omega) dX4_isWeather_35 ?_
    unfold isMin
    first | exact ⟨1, rfl, by omega, by omega, rfl⟩ | exact ⟨0, rfl, by omega, by omega, rfl⟩
  · refine gk_iload_n C dX4_isWeather_10 rfl ?_
    refine gk_iconst C dX4_isWeather_11 ?_
    refine gk_bipush C dX4_isWeather_12 (by decide) ?_
    refine gk_callS C o_X4_isWithin k_X4_53 dX4_isWeather_14 (x_isWithin hfl hrain (by omega) (by omega)) rfl rfl (by decide) (by decide) (by exact Nat.le_of_ble_eq_true rfl) (fun _ _ z => z.elim) (fun v_14 h_14 p_14 => ?_)
    obtain ⟨r_14, rfl, rb_14, rc_14, rfl⟩ := p_14
    dsimp only [gk_push]
    refine gk_if_eq C (tgt := 34) (by omega) dX4_isWeather_17 (by decide) (fun c_17 => ?_) (fun c_17 => ?_)
    · refine gk_iconst C dX4_isWeather_34 ?_
      refine (R _ _ _ _ _ (by decide) (by decide)).2.1 _ rfl (by omega) dX4_isWeather_35 ?_
      unfold isMin
      first | exact ⟨1, rfl, by omega, by omega, rfl⟩ | exact ⟨0, rfl, by omega, by omega, rfl⟩
    · refine gk_iload_n C dX4_isWeather_20 rfl ?_
      refine gk_iconst C dX4_isWeather_21 ?_
      refine gk_bipush C dX4_isWeather_22 (by decide) ?_
      refine gk_callS C o_X4_isWithin k_X4_53 dX4_isWeather_24 (x_isWithin hfl hheat (by omega) (by omega)) rfl rfl (by decide) (by decide) (by exact Nat.le_of_ble_eq_true rfl) (fun _ _ z => z.elim) (fun v_24 h_24 p_24 => ?_)
      obtain ⟨r_24, rfl, rb_24, rc_24, rfl⟩ := p_24
      dsimp only [gk_push]
      refine gk_if_eq C (tgt := 34) (by omega) dX4_isWeather_27 (by decide) (fun c_27 => ?_) (fun c_27 => ?_)
      · refine gk_iconst C dX4_isWeather_34 ?_
        refine (R _ _ _ _ _ (by decide) (by decide)).2.1 _ rfl (by omega) dX4_isWeather_35 ?_
        unfold isMin
        first | exact ⟨1, rfl, by omega, by omega, rfl⟩ | exact ⟨0, rfl, by omega, by omega, rfl⟩
      · refine gk_iconst C dX4_isWeather_30 ?_
        refine gk_goto C (tgt := 35) dX4_isWeather_31 (by decide) ?_
        refine (R _ _ _ _ _ (by decide) (by decide)).2.1 _ rfl (by omega) dX4_isWeather_35 ?_
        unfold isMin
        first | exact ⟨1, rfl, by omega, by omega, rfl⟩ | exact ⟨0, rfl, by omega, by omega, rfl⟩

set_option maxRecDepth 100000 in
set_option maxHeartbeats 4000000 in
theorem x_spread {l : Launch} {Γ : GA} (hfl : l.stackTraces = false) {ad : XK → Nat} {Q : XTs} {S : XSs} {P : XPs} {B : XBs} (I : IX (gEm Γ) ad Q S P B) (hn : P.1 ≤ 8) (hok : ∀ i, i < P.1 → piOk (P.2.2.1 i)) (hf0 : ∀ i, -1000000 ≤ P.2.2.2.2.2 i ∧ P.2.2.2.2.2 i ≤ 1000000) : Ct l Γ m_X4_spread [.ref (ad (0, 0))] (HX (gEm Γ) ad Q S P B) (fun v h' => v = some (iv (gSp P.2.2.1 P.1 (-1))) ∧ ∃ (c2 : Nat) (f2 : Int → Int), c2 ≤ 8 ∧ (∀ i, -1000000 ≤ f2 i ∧ f2 i ≤ 1000000) ∧ h' = HX (gEm Γ) ad Q S (P.1, P.2.1, P.2.2.1, P.2.2.2.1, c2, f2) B) (fun _ _ => False) := by
  refine Ct.intro hfl (by decide +kernel) rfl (Nat.le_of_ble_eq_true rfl) ?_
  intro G C R T
  show G 0 [some (.ref (ad (0, 0)))] [] (HX (gEm Γ) ad Q S P B) 0 0
  refine gk_aload_n C dX4_spread_0 rfl ?_
  refine gk_iconst C dX4_spread_1 ?_
  refine gk_callV C o_X4_spreadWithout k_X4_192 dX4_spread_2 (x_spreadW hfl I hn hok hf0 (w := -1) (by omega)) (hx_0 I) rfl rfl rfl (by decide) (by decide) (by exact Nat.le_of_ble_eq_true rfl) (fun _ _ z => z.elim) (fun v_2 h_2 p_2 => ?_)
  obtain ⟨rfl, c2, f2, hc2, hf2, rfl⟩ := p_2
  dsimp only [gk_push]
  refine (R _ _ _ _ _ (by decide) (by decide)).1 _ rfl dX4_spread_5 ?_
  exact ⟨rfl, c2, f2, hc2, hf2, rfl⟩

set_option maxRecDepth 100000 in
set_option maxHeartbeats 4000000 in
theorem x_ofPiper {l : Launch} {Γ : GA} (hfl : l.stackTraces = false) {ad : XK → Nat} {Q : XTs} {S : XSs} {P : XPs} {B : XBs} (I : IX (gEm Γ) ad Q S P B) (hn : P.1 ≤ 8) (hok : ∀ i, i < P.1 → piOk (P.2.2.1 i)) (hf0 : ∀ i, -1000000 ≤ P.2.2.2.2.2 i ∧ P.2.2.2.2.2 i ≤ 1000000) (hpc : P.2.2.2.2.1 ≤ 8) {p w : Int} (hp : -2147483648 ≤ p ∧ p ≤ 2147483647)(hw : -2147483648 ≤ w ∧ w ≤ 2147483647) : Ct l Γ m_X4_ofPiper [.ref (ad (0, 0)), iv p, iv w] (HX (gEm Γ) ad Q S P B) (fun v h' => v = some (iv (if w = 5 then (if gCnt P.2.2.1 P.1 (-1) < 1 then 0 else gMd P.2.2.1 P.1 (-1) - pPit (P.2.2.1 p.toNat)) else if w = 0 then pPit (P.2.2.1 p.toNat) else if w = 1 then pR (P.2.2.1 p.toNat) else if w = 2 then pS (P.2.2.1 p.toNat) else if w = 3 then pW (P.2.2.1 p.toNat) else pT (P.2.2.1 p.toNat))) ∧ ((0 ≤ p ∧ p < P.1) ∧ (0 ≤ w ∧ w ≤ 5)) ∧ (∃ (c2 : Nat) (f2 : Int → Int), c2 ≤ 8 ∧ (∀ i, -1000000 ≤ f2 i ∧ f2 i ≤ 1000000) ∧ h' = HX (gEm Γ) ad Q S (P.1, P.2.1, P.2.2.1, P.2.2.2.1, c2, f2) B)) (fun X0 h' => h' = HX (gEm Γ) ad Q S P B ∧ ((X0 = "java/lang/IndexOutOfBoundsException" ∧ ¬ (0 ≤ p ∧ p < P.1)) ∨ (X0 = "java/lang/IllegalArgumentException" ∧ (0 ≤ p ∧ p < P.1) ∧ ¬ (0 ≤ w ∧ w ≤ 5)))) := by
  have hcc : P.2.2.2.2.1 ≤ 8 ∨ True := Or.inr trivial
  refine Ct.intro hfl (by decide +kernel) rfl (Nat.le_of_ble_eq_true rfl) ?_
  intro G C R T
  show G 0 [some (.ref (ad (0, 0))), some (iv p), some (iv w), none] [] (HX (gEm Γ) ad Q S P B) 0 0
  refine gk_aload_n C dX4_ofPiper_0 rfl ?_
  refine gk_iload_n C dX4_ofPiper_1 rfl ?_
  refine gk_callV C o_X4_piperOfNumber k_X4_172 dX4_ofPiper_2 (x_piperOf hfl I (by omega) hp) (hx_0 I) rfl rfl rfl (by decide) (by decide) (by exact Nat.le_of_ble_eq_true rfl) (fun _ _ z => ⟨⟨z.1, Or.inl z.2⟩, by decide, by decide⟩) (fun v_2 h_2 p_2 => ?_)
  obtain ⟨rfl, hpi, rfl⟩ := p_2
  dsimp only [gk_push]
  obtain ⟨i, rfl⟩ : ∃ i : Nat, p = (i : Int) := ⟨p.toNat, by omega⟩
  rw [show ((i : Int)).toNat = i from rfl]
  have hi : i < P.1 := by omega
  obtain ⟨k1, k2, k3, k4, k5, k6, k7⟩ := hok i hi
  refine gk_astore_n_3 C rfl (by decide) dX4_ofPiper_5 ?_
  refine gk_iload_n C dX4_ofPiper_6 rfl ?_
  refine gk_iconst C dX4_ofPiper_7 ?_
  refine gk_iconst C dX4_ofPiper_8 ?_
  refine gk_callS C o_X4_isWithin k_X4_53 dX4_ofPiper_9 (x_isWithin hfl hw (by omega) (by omega)) rfl rfl (by decide) (by decide) (by exact Nat.le_of_ble_eq_true rfl) (fun _ _ z => z.elim) (fun v_9 h_9 p_9 => ?_)
  obtain ⟨r_9, rfl, rb_9, rc_9, rfl⟩ := p_9
  dsimp only [gk_push]
  refine gk_if_ne C (tgt := 25) (by omega) dX4_ofPiper_12 (by decide) (fun c_12 => ?_) (fun c_12 => ?_)
  · refine gk_iload_n C dX4_ofPiper_25 rfl ?_
    refine gk_iconst C dX4_ofPiper_26 ?_
    refine gk_icmp_ne C (tgt := 38) (by omega) (by omega) dX4_ofPiper_27 (by decide) (fun c_27 => ?_) (fun c_27 => ?_)
    · refine gk_aload_n C dX4_ofPiper_38 rfl ?_
      refine gk_iload_n C dX4_ofPiper_39 rfl ?_
      refine gk_callV C o_X1_tell k_X4_199 dX4_ofPiper_40 (c_X1_tell hfl (hx_19 I hi) (by omega)) (hx_19 I hi) rfl rfl rfl (by decide) (by decide) (by exact Nat.le_of_ble_eq_true rfl) (fun _ _ z => z.elim) (fun v_40 h_40 p_40 => ?_)
      obtain ⟨rfl, rfl⟩ := p_40
      dsimp only [gk_push]
      refine (R _ _ _ _ _ (by decide) (by decide)).1 _ rfl dX4_ofPiper_43 ?_
      first
        | (refine ⟨congrArg (fun q => some (iv q)) ?_, ⟨hpi, by omega⟩, c2, f2, hc2, hf2, rfl⟩; rw [if_pos c_27]; done)
        | (refine ⟨congrArg (fun q => some (iv q)) ?_, ⟨hpi, by omega⟩, P.2.2.2.2.1, P.2.2.2.2.2, hpc, hf0, rfl⟩; rw [if_neg c_27]; done)
        | (refine ⟨congrArg (fun q => some (iv q)) ?_, ⟨hpi, by omega⟩, P.2.2.2.2.1, P.2.2.2.2.2, hpc, hf0, rfl⟩; rw [if_neg c_27]; rfl)
        | (refine ⟨congrArg (fun q => some (iv q)) ?_, ⟨hpi, by omega⟩, c2, f2, hc2, hf2, rfl⟩; rw [if_pos c_27]; rfl)
    · refine gk_aload_n C dX4_ofPiper_30 rfl ?_
      refine gk_aload_n C dX4_ofPiper_31 rfl ?_
      refine gk_callV C o_X4_seatToMiddle k_X4_195 dX4_ofPiper_32 (x_seatToMiddle hfl I hn hok hf0 hi) (hx_0 I) rfl rfl rfl (by decide) (by decide) (by exact Nat.le_of_ble_eq_true rfl) (fun _ _ z => z.elim) (fun v_32 h_32 p_32 => ?_)
      obtain ⟨rfl, c2, f2, hc2, hf2, rfl⟩ := p_32
      dsimp only [gk_push]
      refine gk_goto C (tgt := 43) dX4_ofPiper_35 (by decide) ?_
      refine (R _ _ _ _ _ (by decide) (by decide)).1 _ rfl dX4_ofPiper_43 ?_
      first
        | (refine ⟨congrArg (fun q => some (iv q)) ?_, ⟨hpi, by omega⟩, c2, f2, hc2, hf2, rfl⟩; rw [if_pos c_27]; done)
        | (refine ⟨congrArg (fun q => some (iv q)) ?_, ⟨hpi, by omega⟩, P.2.2.2.2.1, P.2.2.2.2.2, hpc, hf0, rfl⟩; rw [if_neg c_27]; done)
        | (refine ⟨congrArg (fun q => some (iv q)) ?_, ⟨hpi, by omega⟩, P.2.2.2.2.1, P.2.2.2.2.2, hpc, hf0, rfl⟩; rw [if_neg c_27]; rfl)
        | (refine ⟨congrArg (fun q => some (iv q)) ?_, ⟨hpi, by omega⟩, c2, f2, hc2, hf2, rfl⟩; rw [if_pos c_27]; rfl)
  · exact T 15 _ _ _ _ _ _ _ 57 115 61 th_X4_ofPiper_15 ⟨rfl, Or.inr ⟨rfl, hpi, by omega⟩⟩ (by decide) (by exact Nat.le_of_ble_eq_true rfl) (by decide) (by decide) td_X4_ofPiper_15

set_option maxRecDepth 100000 in
set_option maxHeartbeats 4000000 in
theorem x_beats {l : Launch} {Γ : GA} (hfl : l.stackTraces = false) {ad : XK → Nat} {Q : XTs} {S : XSs} {P : XPs} {B : XBs} (I : IX (gEm Γ) ad Q S P B) (hn : P.1 ≤ 8) (hok : ∀ i, i < P.1 → piOk (P.2.2.1 i)) {p q : Int} (hp : -2147483648 ≤ p ∧ p ≤ 2147483647)(hq : -2147483648 ≤ q ∧ q ≤ 2147483647) : Ct l Γ m_X4_beats [.ref (ad (0, 0)), iv p, iv q] (HX (gEm Γ) ad Q S P B) (fun v h' => v = some (.float (btF (isAbs (pPit (P.2.2.1 p.toNat) - pPit (P.2.2.1 q.toNat))))) ∧ ((0 ≤ p ∧ p < P.1) ∧ (0 ≤ q ∧ q < P.1)) ∧ h' = HX (gEm Γ) ad Q S P B) (fun X0 h' => h' = HX (gEm Γ) ad Q S P B ∧ X0 = "java/lang/IndexOutOfBoundsException" ∧ ¬ ((0 ≤ p ∧ p < P.1) ∧ (0 ≤ q ∧ q < P.1))) := by
  refine Ct.intro hfl (by decide +kernel) rfl (Nat.le_of_ble_eq_true rfl) ?_
  intro G C R T
  show G 0 [some (.ref (ad (0, 0))), some (iv p), some (iv q), none] [] (HX (gEm Γ) ad Q S P B) 0 0
  refine gk_aload_n C dX4_beats_0 rfl ?_
  refine gk_iload_n C dX4_beats_1 rfl ?_
  refine gk_callV C o_X4_piperOfNumber k_X4_172 dX4_beats_2 (x_piperOf hfl I (by omega) hp) (hx_0 I) rfl rfl rfl (by decide) (by decide) (by exact Nat.le_of_ble_eq_true rfl) (fun _ _ z => ⟨⟨z.1, z.2.1, fun y => z.2.2 y.1⟩, by decide, by decide⟩) (fun v_2 h_2 p_2 => ?_)
  obtain ⟨rfl, hpi, rfl⟩ := p_2
  dsimp only [gk_push]
  obtain ⟨i, rfl⟩ : ∃ i : Nat, p = (i : Int) := ⟨p.toNat, by omega⟩
  rw [show ((i : Int)).toNat = i from rfl]
  have hi : i < P.1 := by omega
  obtain ⟨k1, k2, k3, k4, k5, k6, k7⟩ := hok i hi
  have bi := pPit_bd (hok i hi)
  refine gk_callV C o_X1_pitch k_X4_207 dX4_beats_5 (c_X1_pitch hfl (hx_19 I hi)) (hx_19 I hi) rfl rfl rfl (by decide) (by decide) (by exact Nat.le_of_ble_eq_true rfl) (fun _ _ z => z.elim) (fun v_5 h_5 p_5 => ?_)
  obtain ⟨rfl, rfl⟩ := p_5
  dsimp only [gk_push]
  refine gk_aload_n C dX4_beats_8 rfl ?_
  refine gk_iload_n C dX4_beats_9 rfl ?_
  refine gk_callV C o_X4_piperOfNumber k_X4_172 dX4_beats_10 (x_piperOf hfl I (by omega) hq) (hx_0 I) rfl rfl rfl (by decide) (by decide) (by exact Nat.le_of_ble_eq_true rfl) (fun _ _ z => ⟨⟨z.1, z.2.1, fun y => z.2.2 y.2⟩, by decide, by decide⟩) (fun v_10 h_10 p_10 => ?_)
  obtain ⟨rfl, hqi, rfl⟩ := p_10
  dsimp only [gk_push]
  obtain ⟨j, rfl⟩ : ∃ j : Nat, q = (j : Int) := ⟨q.toNat, by omega⟩
  rw [show ((j : Int)).toNat = j from rfl]
  have hj : j < P.1 := by omega
  obtain ⟨u1, u2, u3, u4, u5, u6, u7⟩ := hok j hj
  have bj := pPit_bd (hok j hj)
  have ei : pR (P.2.2.1 i) + pS (P.2.2.1 i) + 2 * pP (P.2.2.1 i) + 3 * pW (P.2.2.1 i) - pT (P.2.2.1 i) = pPit (P.2.2.1 i) := rfl
  have ej : pR (P.2.2.1 j) + pS (P.2.2.1 j) + 2 * pP (P.2.2.1 j) + 3 * pW (P.2.2.1 j) - pT (P.2.2.1 j) = pPit (P.2.2.1 j) := rfl
  refine gk_callV C o_X1_pitch k_X4_207 dX4_beats_13 (c_X1_pitch hfl (hx_19 I hj)) (hx_19 I hj) rfl rfl rfl (by decide) (by decide) (by exact Nat.le_of_ble_eq_true rfl) (fun _ _ z => z.elim) (fun v_13 h_13 p_13 => ?_)
  obtain ⟨rfl, rfl⟩ := p_13
  dsimp only [gk_push]
  rw [ei, ej]
  refine gk_isub C dX4_beats_16 ?_
  refine gk_istore_n_3 C rfl (by decide) dX4_beats_17 ?_
  refine gk_sipush C dX4_beats_18 (by decide) ?_
  refine gk_iload_n C dX4_beats_21 rfl ?_
  refine gk_mabs C (by omega) k_X4_210.1 dX4_beats_22 (by decide) (by exact Nat.le_of_ble_eq_true rfl) (by decide) ?_
  refine gk_imul C dX4_beats_25 ?_
  refine gk_i2f C dX4_beats_26 ?_
  refine gk_ldcf C cn_X4_215 dX4_beats_27 ?_
  refine gk_fdiv C dX4_beats_29 (btF_n (by split <;> omega)) ?_
  refine (R _ _ _ _ _ (by decide) (by decide)).2.2.2.2.2 _ rfl dX4_beats_30 ?_
  exact ⟨rfl, ⟨hpi, hqi⟩, rfl⟩
