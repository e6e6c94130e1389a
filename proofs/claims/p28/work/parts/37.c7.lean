/-! the class: bands -/
def baOk (b : BaS) : Prop := (1 ≤ bGr b ∧ bGr b ≤ 5) ∧ (1 ≤ bNg b ∧ bNg b ≤ 5) ∧ (0 ≤ bPo b ∧ bPo b ≤ 100000) ∧ (-1 ≤ bRk b ∧ bRk b ≤ 9) ∧ (-1 ≤ bSu b ∧ bSu b ≤ 100) ∧ (0 ≤ bFi b ∧ bFi b ≤ 100000) ∧ (bTp b = 0 ∨ bTp b = 1) ∧ (∀ i : Int, 0 ≤ i → i < 4 → -1 ≤ bM b i ∧ bM b i ≤ 100) ∧ (∀ i : Int, 0 ≤ i → i < 4 → 0 ≤ bP b i ∧ bP b i ≤ 9)
def cOg (bf : Nat → BaS) (g : Int) : Nat → Int
  | 0 => 0
  | k + 1 => cOg bf g k + if bGr (bf k) = g then 1 else 0
theorem cOg_bd (bf : Nat → BaS) (g : Int) : ∀ k : Nat, 0 ≤ cOg bf g k ∧ cOg bf g k ≤ k
  | 0 => ⟨Int.le_refl _, Int.le_refl _⟩
  | k + 1 => by
    have ih := cOg_bd bf g k
    unfold cOg
    split <;> omega
section XB
variable {E : Nat} {ad : XK → Nat} {Q : XTs} {S : XSs} {P : XPs} {B : XBs}
theorem r20 {r2 : Nat} (h1 : 20 ≤ r2) (h2 : r2 < 23) : r2 = 20 ∨ r2 = 21 ∨ r2 = 22 := by omega
theorem hx_S20 (I : IX E ad Q S P B) {i : Nat} (hi : i < B.1) {gr ng po rk su fi tp : Int} : hset (HX E ad Q S P B) (ad (20, i)) (oBa i (ad (21, i)) (ad (22, i)) gr ng po rk su fi tp) = HX E ad Q S P (B.1, B.2.1, tset B.2.2.1 i (gr, ng, po, rk, su, fi, tp, bM (B.2.2.1 i), bP (B.2.2.1 i)), B.2.2.2) :=
  hx_baS I (r := 20) (t := (gr, ng, po, rk, su, fi, tp, bM (B.2.2.1 i), bP (B.2.2.1 i))) (by omega) hi (fun r2 h h1 h2 => by rcases r20 h1 h2 with e | e | e <;> subst e <;> first | rfl | exact absurd rfl h)
theorem hx_S21 (I : IX E ad Q S P B) {i : Nat} (hi : i < B.1) {f : Int → Int} : hset (HX E ad Q S P B) (ad (21, i)) (aI 4 f) = HX E ad Q S P (B.1, B.2.1, tset B.2.2.1 i (bGr (B.2.2.1 i), bNg (B.2.2.1 i), bPo (B.2.2.1 i), bRk (B.2.2.1 i), bSu (B.2.2.1 i), bFi (B.2.2.1 i), bTp (B.2.2.1 i), f, bP (B.2.2.1 i)), B.2.2.2) :=
  hx_baS I (r := 21) (t := (bGr (B.2.2.1 i), bNg (B.2.2.1 i), bPo (B.2.2.1 i), bRk (B.2.2.1 i), bSu (B.2.2.1 i), bFi (B.2.2.1 i), bTp (B.2.2.1 i), f, bP (B.2.2.1 i))) (by omega) hi (fun r2 h h1 h2 => by rcases r20 h1 h2 with e | e | e <;> subst e <;> first | rfl | exact absurd rfl h)
theorem hx_S22 (I : IX E ad Q S P B) {i : Nat} (hi : i < B.1) {f : Int → Int} : hset (HX E ad Q S P B) (ad (22, i)) (aI 4 f) = HX E ad Q S P (B.1, B.2.1, tset B.2.2.1 i (bGr (B.2.2.1 i), bNg (B.2.2.1 i), bPo (B.2.2.1 i), bRk (B.2.2.1 i), bSu (B.2.2.1 i), bFi (B.2.2.1 i), bTp (B.2.2.1 i), bM (B.2.2.1 i), f), B.2.2.2) :=
  hx_baS I (r := 22) (t := (bGr (B.2.2.1 i), bNg (B.2.2.1 i), bPo (B.2.2.1 i), bRk (B.2.2.1 i), bSu (B.2.2.1 i), bFi (B.2.2.1 i), bTp (B.2.2.1 i), bM (B.2.2.1 i), f)) (by omega) hi (fun r2 h h1 h2 => by rcases r20 h1 h2 with e | e | e <;> subst e <;> first | rfl | exact absurd rfl h)
theorem IX_B (I : IX E ad Q S P B) {bf : Nat → BaS} {op mm : Int} : IX E ad Q S P (B.1, B.2.1, bf, op, mm) := by
  refine IX_of I ?_
  rintro ⟨r2, j⟩
  unfold XM
  dsimp only
  by_cases c1 : r2 < 13
  · rw [if_pos c1, if_pos c1]
    by_cases c2 : j = 0
    · rw [if_pos c2, if_pos c2]
      rcases r0_12 c1 with e | e | e | e | e | e | e | e | e | e | e | e | e <;> subst e <;> first | exact fun z => z | (intro _ z; cases z)
    · rw [if_neg c2, if_neg c2]
      exact fun z => z
  · rw [if_neg c1, if_neg c1]
    by_cases c2 : r2 < 19
    · rw [if_pos c2, if_pos c2]
      exact fun z => z
    · rw [if_neg c2, if_neg c2]
      by_cases c3 : r2 = 19
      · rw [if_pos c3, if_pos c3]
        exact fun z => z
      · rw [if_neg c3, if_neg c3]
        by_cases c4 : r2 < 23
        · rw [if_pos c4, if_pos c4]
          by_cases c5 : j < B.1
          · rw [if_pos c5, if_pos c5]
            intro _ z
            cases z
          · rw [if_neg c5, if_neg c5]
            exact fun z => z
        · rw [if_neg c4, if_neg c4]
          exact fun z => z
end XB

set_option maxRecDepth 100000 in
set_option maxHeartbeats 4000000 in
theorem x_ofGrade {l : Launch} {Γ : GA} (hfl : l.stackTraces = false) {ad : XK → Nat} {Q : XTs} {S : XSs} {P : XPs} {B : XBs} (I : IX (gEm Γ) ad Q S P B) (hn : B.1 ≤ 8) (hok : ∀ i, i < B.1 → baOk (B.2.2.1 i)) {g : Int} (hg : -2147483648 ≤ g ∧ g ≤ 2147483647) : Ct l Γ m_X4_bandsOfGrade [.ref (ad (0, 0)), iv g] (HX (gEm Γ) ad Q S P B) (fun v h' => v = some (iv (cOg B.2.2.1 g B.1)) ∧ h' = HX (gEm Γ) ad Q S P B) (fun _ _ => False) := by
  refine Ct.intro hfl (by decide +kernel) rfl (Nat.le_of_ble_eq_true rfl) ?_
  intro G C R T
  show G 0 [some (.ref (ad (0, 0))), some (iv g), none, none] [] (HX (gEm Γ) ad Q S P B) 0 0
  refine gk_iconst C dX4_bandsOfGrade_0 ?_
  refine gk_istore_n_2 C rfl (by decide) dX4_bandsOfGrade_1 ?_
  refine gk_iconst C dX4_bandsOfGrade_2 ?_
  refine gk_istore_n_3 C rfl (by decide) dX4_bandsOfGrade_3 ?_
  have key : ∀ (n k : Nat), (B.1 : Int) - k < n → k ≤ B.1 → G 4 [some (.ref (ad (0, 0))), some (iv g), some (iv (cOg B.2.2.1 g k)), some (iv (k : Int))] [] (HX (gEm Γ) ad Q S P B) 0 0 := by
    intro n
    induction n with
    | zero => intro k h1; omega
    | succ n ih =>
      intro k hn0 hk
      have fin : ∀ y : Int, k < B.1 → y = (if bGr (B.2.2.1 k) = g then 1 else 0) → G 4 [some (.ref (ad (0, 0))), some (iv g), some (iv (cOg B.2.2.1 g k + y)), some (iv ((k : Int) + 1))] [] (HX (gEm Γ) ad Q S P B) 0 0 := by
        intro y h1 hy
        rw [hy]
        exact ih (k + 1) (by omega) (by omega)
      refine gk_iload_n C dX4_bandsOfGrade_4 rfl ?_
      refine gk_aload_n C dX4_bandsOfGrade_5 rfl ?_
      refine gk_getf C f_X4_42.r dX4_bandsOfGrade_6 (hx_0 I) (by rfl) ?_
      refine gk_callV C o_Jx4a65c_size_8abf5 k_X4_64 dX4_bandsOfGrade_9 (c_AL_size hfl (hx_7s I)) (hx_7s I) rfl rfl rfl (by decide) (by decide) (by exact Nat.le_of_ble_eq_true rfl) (fun _ _ z => z.elim) (fun v_9 h_9 p_9 => ?_)
      obtain ⟨rfl, rfl⟩ := p_9
      dsimp only [gk_push]
      refine gk_icmp_ge C (tgt := 47) (by omega) (by omega) dX4_bandsOfGrade_12 (by decide) (fun c_12 => ?_) (fun c_12 => ?_)
      · refine gk_iload_n C dX4_bandsOfGrade_47 rfl ?_
        refine (R _ _ _ _ _ (by decide) (by decide)).1 _ rfl dX4_bandsOfGrade_48 ?_
        rw [show k = B.1 by omega]
        exact ⟨rfl, rfl⟩
      · have hk1 : k < B.1 := by omega
        obtain ⟨k1, k2, k3, k4, k5, k6, k7, k8, k9⟩ := hok k hk1
        refine gk_iload_n C dX4_bandsOfGrade_15 rfl ?_
        refine gk_aload_n C dX4_bandsOfGrade_16 rfl ?_
        refine gk_getf C f_X4_42.r dX4_bandsOfGrade_17 (hx_0 I) (by rfl) ?_
        refine gk_iload_n C dX4_bandsOfGrade_20 rfl ?_
        refine gk_callV C o_Jx4a65c_get_915e3 k_X4_134 dX4_bandsOfGrade_21 (c_AL_get hfl (hx_7a I (has_of hk1)) (hx_12 I (has_of hk1)) (y := ad (20, k)) (z := (k : Int)) (by omega) (by omega) (rw_at (g := (fun i => ad (20, i))) (by omega))) (hx_7s I) rfl rfl rfl (by decide) (by decide) (by exact Nat.le_of_ble_eq_true rfl) (fun _ _ z => z.elim) (fun v_21 h_21 p_21 => ?_)
        obtain ⟨rfl, rfl⟩ := p_21
        dsimp only [gk_push]
        refine gk_cast C cw_X4_238 rfl (hx_20 I hk1) dX4_bandsOfGrade_24 ?_
        refine gk_getf C f_X4_246.r dX4_bandsOfGrade_27 (hx_20 I hk1) (by rfl) ?_
        refine gk_iload_n C dX4_bandsOfGrade_30 rfl ?_
        refine gk_icmp_ne C (tgt := 38) (by omega) (by omega) dX4_bandsOfGrade_31 (by decide) (fun c_31 => ?_) (fun c_31 => ?_)
        · refine gk_iconst C dX4_bandsOfGrade_38 ?_
          refine gk_iadd C dX4_bandsOfGrade_39 ?_
          refine gk_istore_n_2 C rfl (by decide) dX4_bandsOfGrade_40 ?_
          refine gk_iinc_3 C rfl (by decide) dX4_bandsOfGrade_41 ?_
          refine gk_goto C (tgt := 4) dX4_bandsOfGrade_44 (by decide) ?_
          exact fin _ (by omega) (by split <;> omega)
        · refine gk_iconst C dX4_bandsOfGrade_34 ?_
          refine gk_goto C (tgt := 39) dX4_bandsOfGrade_35 (by decide) ?_
          refine gk_iadd C dX4_bandsOfGrade_39 ?_
          refine gk_istore_n_2 C rfl (by decide) dX4_bandsOfGrade_40 ?_
          refine gk_iinc_3 C rfl (by decide) dX4_bandsOfGrade_41 ?_
          refine gk_goto C (tgt := 4) dX4_bandsOfGrade_44 (by decide) ?_
          exact fin _ (by omega) (by split <;> omega)
  exact key 9 0 (by omega) (by omega)

set_option maxRecDepth 100000 in
set_option maxHeartbeats 4000000 in
theorem x_ofBand {l : Launch} {Γ : GA} (hfl : l.stackTraces = false) {ad : XK → Nat} {Q : XTs} {S : XSs} {P : XPs} {B : XBs} (I : IX (gEm Γ) ad Q S P B) (hn : B.1 ≤ 8) (hok : ∀ i, i < B.1 → baOk (B.2.2.1 i)) {b w : Int} (hb : -2147483648 ≤ b ∧ b ≤ 2147483647)(hw : -2147483648 ≤ w ∧ w ≤ 2147483647) : Ct l Γ m_X4_ofBand [.ref (ad (0, 0)), iv b, iv w] (HX (gEm Γ) ad Q S P B) (fun v h' => v = some (iv (if w = 0 then bGr (B.2.2.1 b.toNat) else if w = 1 then bPo (B.2.2.1 b.toNat) else if w = 2 then bRk (B.2.2.1 b.toNat) else if w = 3 then bSu (B.2.2.1 b.toNat) else bFi (B.2.2.1 b.toNat))) ∧ ((0 ≤ b ∧ b < B.1) ∧ (0 ≤ w ∧ w ≤ 4)) ∧ h' = HX (gEm Γ) ad Q S P B) (fun X0 h' => h' = HX (gEm Γ) ad Q S P B ∧ ((X0 = "java/lang/IndexOutOfBoundsException" ∧ ¬ (0 ≤ b ∧ b < B.1)) ∨ (X0 = "java/lang/IllegalArgumentException" ∧ (0 ≤ b ∧ b < B.1) ∧ ¬ (0 ≤ w ∧ w ≤ 4)))) := by
  refine Ct.intro hfl (by decide +kernel) rfl (Nat.le_of_ble_eq_true rfl) ?_
  intro G C R T
  show G 0 [some (.ref (ad (0, 0))), some (iv b), some (iv w), none] [] (HX (gEm Γ) ad Q S P B) 0 0
  refine gk_aload_n C dX4_ofBand_0 rfl ?_
  refine gk_iload_n C dX4_ofBand_1 rfl ?_
  refine gk_callV C o_X4_bandOfNumber k_X4_257 dX4_ofBand_2 (x_bandOf hfl I (by omega) hb) (hx_0 I) rfl rfl rfl (by decide) (by decide) (by exact Nat.le_of_ble_eq_true rfl) (fun _ _ z => ⟨⟨z.1, Or.inl z.2⟩, by decide, by decide⟩) (fun v_2 h_2 p_2 => ?_)
  obtain ⟨rfl, hbi, rfl⟩ := p_2
  dsimp only [gk_push]
  obtain ⟨i, rfl⟩ : ∃ i : Nat, b = (i : Int) := ⟨b.toNat, by omega⟩
  rw [show ((i : Int)).toNat = i from rfl]
  have hi : i < B.1 := by omega
  obtain ⟨k1, k2, k3, k4, k5, k6, k7, k8, k9⟩ := hok i hi
  refine gk_astore_n_3 C rfl (by decide) dX4_ofBand_5 ?_
  refine gk_iload_n C dX4_ofBand_6 rfl ?_
  refine gk_iconst C dX4_ofBand_7 ?_
  refine gk_iconst C dX4_ofBand_8 ?_
  refine gk_callS C o_X4_isWithin k_X4_53 dX4_ofBand_9 (x_isWithin hfl hw (by omega) (by omega)) rfl rfl (by decide) (by decide) (by exact Nat.le_of_ble_eq_true rfl) (fun _ _ z => z.elim) (fun v_9 h_9 p_9 => ?_)
  obtain ⟨r_9, rfl, rb_9, rc_9, rfl⟩ := p_9
  dsimp only [gk_push]
  refine gk_if_ne C (tgt := 25) (by omega) dX4_ofBand_12 (by decide) (fun c_12 => ?_) (fun c_12 => ?_)
  · refine gk_aload_n C dX4_ofBand_25 rfl ?_
    refine gk_iload_n C dX4_ofBand_26 rfl ?_
    refine gk_callV C o_X0_tell k_X4_294 dX4_ofBand_27 (c_X0_tell hfl (hx_20 I hi) (by omega)) (hx_20 I hi) rfl rfl rfl (by decide) (by decide) (by exact Nat.le_of_ble_eq_true rfl) (fun _ _ z => z.elim) (fun v_27 h_27 p_27 => ?_)
    obtain ⟨rfl, rfl⟩ := p_27
    dsimp only [gk_push]
    refine (R _ _ _ _ _ (by decide) (by decide)).1 _ rfl dX4_ofBand_30 ?_
    exact ⟨rfl, ⟨hbi, by omega⟩, rfl⟩
  · exact T 15 _ _ _ _ _ _ _ 57 115 61 th_X4_ofBand_15 ⟨rfl, Or.inr ⟨rfl, hbi, by omega⟩⟩ (by decide) (by exact Nat.le_of_ble_eq_true rfl) (by decide) (by decide) td_X4_ofBand_15

set_option maxRecDepth 100000 in
set_option maxHeartbeats 4000000 in
theorem x_mark {l : Launch} {Γ : GA} (hfl : l.stackTraces = false) {ad : XK → Nat} {Q : XTs} {S : XSs} {P : XPs} {B : XBs} (I : IX (gEm Γ) ad Q S P B) (hn : B.1 ≤ 8) (hok : ∀ i, i < B.1 → baOk (B.2.2.1 i)) (hop : B.2.2.2.1 = 0 ∨ B.2.2.2.1 = 1) {j b m : Int} (hj : -2147483648 ≤ j ∧ j ≤ 2147483647)(hb : -2147483648 ≤ b ∧ b ≤ 2147483647)(hm : -2147483648 ≤ m ∧ m ≤ 2147483647) : Ct l Γ m_X4_mark [.ref (ad (0, 0)), iv j, iv b, iv m] (HX (gEm Γ) ad Q S P B) (fun v h' => v = some (iv (B.2.2.2.2 - 1)) ∧ (((0 ≤ j ∧ j ≤ 3) ∧ (0 ≤ b ∧ b < B.1)) ∧ (0 ≤ m ∧ m ≤ 100) ∧ (B.2.2.2.1 = 1 ∧ bTp (B.2.2.1 b.toNat) = 1 ∧ bM (B.2.2.1 b.toNat) j = -1)) ∧ h' = HX (gEm Γ) ad Q S P (B.1, B.2.1, tset B.2.2.1 b.toNat (bGr (B.2.2.1 b.toNat), bNg (B.2.2.1 b.toNat), bPo (B.2.2.1 b.toNat), bRk (B.2.2.1 b.toNat), bSu (B.2.2.1 b.toNat), bFi (B.2.2.1 b.toNat), bTp (B.2.2.1 b.toNat), gupd (bM (B.2.2.1 b.toNat)) j m, bP (B.2.2.1 b.toNat)), B.2.2.2.1, (B.2.2.2.2 - 1))) (fun X0 h' => h' = HX (gEm Γ) ad Q S P B ∧ ((X0 = "java/lang/IndexOutOfBoundsException" ∧ ¬ ((0 ≤ j ∧ j ≤ 3) ∧ (0 ≤ b ∧ b < B.1))) ∨ (X0 = "java/lang/IllegalArgumentException" ∧ ((0 ≤ j ∧ j ≤ 3) ∧ (0 ≤ b ∧ b < B.1)) ∧ ¬ (0 ≤ m ∧ m ≤ 100)) ∨ (X0 = "java/lang/IllegalStateException" ∧ ((0 ≤ j ∧ j ≤ 3) ∧ (0 ≤ b ∧ b < B.1)) ∧ (0 ≤ m ∧ m ≤ 100) ∧ ¬ (B.2.2.2.1 = 1 ∧ bTp (B.2.2.1 b.toNat) = 1 ∧ bM (B.2.2.1 b.toNat) j = -1)))) := by
  refine Ct.intro hfl (by decide +kernel) rfl (Nat.le_of_ble_eq_true rfl) ?_
  intro G C R T
  show G 0 [some (.ref (ad (0, 0))), some (iv j), some (iv b), some (iv m), none] [] (HX (gEm Γ) ad Q S P B) 0 0
  refine gk_iload_n C dX4_mark_0 rfl ?_
  refine gk_iconst C dX4_mark_1 ?_
  refine gk_iconst C dX4_mark_2 ?_
  refine gk_callS C o_X4_isWithin k_X4_53 dX4_mark_3 (x_isWithin hfl hj (by omega) (by omega)) rfl rfl (by decide) (by decide) (by exact Nat.le_of_ble_eq_true rfl) (fun _ _ z => z.elim) (fun v_3 h_3 p_3 => ?_)
  obtain ⟨r_3, rfl, rb_3, rc_3, rfl⟩ := p_3
  dsimp only [gk_push]
  refine gk_if_ne C (tgt := 19) (by omega) dX4_mark_6 (by decide) (fun c_6 => ?_) (fun c_6 => ?_)
  · refine gk_aload_n C dX4_mark_19 rfl ?_
    refine gk_iload_n C dX4_mark_20 rfl ?_
    refine gk_callV C o_X4_bandOfNumber k_X4_257 dX4_mark_21 (x_bandOf hfl I (by omega) hb) (hx_0 I) rfl rfl rfl (by decide) (by decide) (by exact Nat.le_of_ble_eq_true rfl) (fun _ _ z => ⟨⟨z.1, Or.inl ⟨z.2.1, fun y => z.2.2 y.2⟩⟩, by decide, by decide⟩) (fun v_21 h_21 p_21 => ?_)
    obtain ⟨rfl, hbi, rfl⟩ := p_21
    dsimp only [gk_push]
    obtain ⟨i, rfl⟩ : ∃ i : Nat, b = (i : Int) := ⟨b.toNat, by omega⟩
    rw [show ((i : Int)).toNat = i from rfl]
    have hi : i < B.1 := by omega
    obtain ⟨k1, k2, k3, k4, k5, k6, k7, k8, k9⟩ := hok i hi
    have hjm := k8 j (by omega) (by omega)
    refine gk_astore_4 C rfl (by decide) dX4_mark_24 ?_
    refine gk_iload_n C dX4_mark_26 rfl ?_
    refine gk_iconst C dX4_mark_27 ?_
    refine gk_bipush C dX4_mark_28 (by decide) ?_
    refine gk_callS C o_X4_isWithin k_X4_53 dX4_mark_30 (x_isWithin hfl hm (by omega) (by omega)) rfl rfl (by decide) (by decide) (by exact Nat.le_of_ble_eq_true rfl) (fun _ _ z => z.elim) (fun v_30 h_30 p_30 => ?_)
    obtain ⟨r_30, rfl, rb_30, rc_30, rfl⟩ := p_30
    dsimp only [gk_push]
    refine gk_if_ne C (tgt := 47) (by omega) dX4_mark_33 (by decide) (fun c_33 => ?_) (fun c_33 => ?_)
    · refine gk_aload_n C dX4_mark_47 rfl ?_
      refine gk_getf C f_X4_45.r dX4_mark_48 (hx_0 I) (by rfl) ?_
      refine gk_if_eq C (tgt := 72) (by omega) dX4_mark_51 (by decide) (fun c_51 => ?_) (fun c_51 => ?_)
      · exact T 72 _ _ _ _ _ _ _ 68 266 72 th_X4_mark_72 ⟨rfl, Or.inr (Or.inr ⟨rfl, ⟨by omega, hbi⟩, by omega, (show ¬ (B.2.2.2.1 = 1 ∧ bTp (B.2.2.1 i) = 1 ∧ bM (B.2.2.1 i) j = -1) by omega)⟩)⟩ (by decide) (by exact Nat.le_of_ble_eq_true rfl) (by decide) (by decide) td_X4_mark_72
      · refine gk_aload C dX4_mark_54 rfl ?_
        refine gk_getf C f_X4_249.r dX4_mark_56 (hx_20 I hi) (by rfl) ?_
        refine gk_if_eq C (tgt := 72) (by omega) dX4_mark_59 (by decide) (fun c_59 => ?_) (fun c_59 => ?_)
        · exact T 72 _ _ _ _ _ _ _ 68 266 72 th_X4_mark_72 ⟨rfl, Or.inr (Or.inr ⟨rfl, ⟨by omega, hbi⟩, by omega, (show ¬ (B.2.2.2.1 = 1 ∧ bTp (B.2.2.1 i) = 1 ∧ bM (B.2.2.1 i) j = -1) by omega)⟩)⟩ (by decide) (by exact Nat.le_of_ble_eq_true rfl) (by decide) (by decide) td_X4_mark_72
        · refine gk_aload C dX4_mark_62 rfl ?_
          refine gk_iload_n C dX4_mark_64 rfl ?_
          refine gk_callV C o_X0_markBy k_X4_263 dX4_mark_65 (c_X0_markBy hfl (hx_20 I hi) (hx_21 I hi) (by omega)) (hx_20 I hi) rfl rfl rfl (by decide) (by decide) (by exact Nat.le_of_ble_eq_true rfl) (fun _ _ z => z.elim) (fun v_65 h_65 p_65 => ?_)
          obtain ⟨rfl, rfl⟩ := p_65
          dsimp only [gk_push]
          refine gk_iconst C dX4_mark_68 ?_
          refine gk_icmp_eq C (tgt := 83) (by omega) (by omega) dX4_mark_69 (by decide) (fun c_69 => ?_) (fun c_69 => ?_)
          · refine gk_aload C dX4_mark_83 rfl ?_
            refine gk_iload_n C dX4_mark_85 rfl ?_
            refine gk_iload_n C dX4_mark_86 rfl ?_
            refine gk_callV C o_X0_takeMark k_X4_268 dX4_mark_87 (c_X0_takeMark hfl (hx_20 I hi) (hx_21 I hi) (z := m) (by omega)) (hx_20 I hi) rfl rfl rfl (by decide) (by decide) (by exact Nat.le_of_ble_eq_true rfl) (fun _ _ z => z.elim) (fun v_87 h_87 p_87 => ?_)
            obtain ⟨rfl, rfl⟩ := p_87
            dsimp only [gk_push]
            rw [hx_S21 I hi]
            have I2 := IX_B I (bf := tset B.2.2.1 i (bGr (B.2.2.1 i), bNg (B.2.2.1 i), bPo (B.2.2.1 i), bRk (B.2.2.1 i), bSu (B.2.2.1 i), bFi (B.2.2.1 i), bTp (B.2.2.1 i), gupd (bM (B.2.2.1 i)) j m, bP (B.2.2.1 i))) (op := B.2.2.2.1) (mm := B.2.2.2.2)
            refine gk_aload_n C dX4_mark_90 rfl ?_
            refine gk_dup C rfl dX4_mark_91 ?_
            refine gk_getf C f_X4_49.r dX4_mark_92 (hx_0 I2) (by rfl) ?_
            refine gk_iconst C dX4_mark_95 ?_
            refine gk_isub C dX4_mark_96 ?_
            refine gk_putf C f_X4_49 dX4_mark_97 (hx_0 I2) rfl rfl (by exact Nat.le_of_ble_eq_true rfl) ?_
            refine gk_aload_n C dX4_mark_100 rfl ?_
            refine gk_getf C f_X4_49.r dX4_mark_101 hset_eq (by rfl) ?_
            refine (R _ _ _ _ _ (by decide) (by decide)).1 _ rfl dX4_mark_104 ?_
            exact ⟨rfl, ⟨⟨by omega, hbi⟩, by omega, (show B.2.2.2.1 = 1 ∧ bTp (B.2.2.1 i) = 1 ∧ bM (B.2.2.1 i) j = -1 by omega)⟩, hx_S0 I2⟩
          · exact T 72 _ _ _ _ _ _ _ 68 266 72 th_X4_mark_72 ⟨rfl, Or.inr (Or.inr ⟨rfl, ⟨by omega, hbi⟩, by omega, (show ¬ (B.2.2.2.1 = 1 ∧ bTp (B.2.2.1 i) = 1 ∧ bM (B.2.2.1 i) j = -1) by omega)⟩)⟩ (by decide) (by exact Nat.le_of_ble_eq_true rfl) (by decide) (by decide) td_X4_mark_72
    · exact T 36 _ _ _ _ _ _ _ 57 261 61 th_X4_mark_36 ⟨rfl, Or.inr (Or.inl ⟨rfl, ⟨by omega, hbi⟩, by omega⟩)⟩ (by decide) (by exact Nat.le_of_ble_eq_true rfl) (by decide) (by decide) td_X4_mark_36
  · exact T 9 _ _ _ _ _ _ _ 110 255 114 th_X4_mark_9 ⟨rfl, Or.inl ⟨rfl, fun z => by have := z.1; omega⟩⟩ (by decide) (by exact Nat.le_of_ble_eq_true rfl) (by decide) (by decide) td_X4_mark_9
