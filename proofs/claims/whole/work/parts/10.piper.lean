/-! the pipers, the row of pitches, Math's functions: contracts -/
theorem gk_nb {z : Int} (h : z = 0 ∨ z = 1) : narrow .boolean (iv z) = iv z ∧ fits .boolean (iv z) = true := by rcases h with rfl | rfl <;> exact ⟨rfl, rfl⟩
abbrev oPi (r p b s w t z : Int) : AE := oO 2 [iv r, iv p, iv b, iv s, iv w, iv t, iv z]
/-- what a minute makes of reed, warmth and wet -/
def pPlay (b rain heat : Int) (q : Int × Int × Int) : Int × Int × Int :=
  (if min 100 (q.2.2 + b + rain) = 100 then max (-100) (q.1 - 1) else q.1, if q.2.1 < heat then q.2.1 + 1 else if heat < q.2.1 then q.2.1 - 1 else q.2.1, min 100 (q.2.2 + b + rain))
def pRest (q : Int × Int × Int) : Int × Int × Int := (q.1, max 0 (q.2.1 - 1), max 0 (q.2.2 - 2))
def pStep (b z rain heat : Int) (q : Int × Int × Int) : Int × Int × Int := if z = 0 then pPlay b rain heat q else pRest q
def pIt (f : Int × Int × Int → Int × Int × Int) : Nat → Int × Int × Int → Int × Int × Int
  | 0, q => q
  | n + 1, q => pIt f n (f q)
def pOk (q : Int × Int × Int) : Prop := (-100 ≤ q.1 ∧ q.1 ≤ 100) ∧ (0 ≤ q.2.1 ∧ q.2.1 ≤ 40) ∧ (0 ≤ q.2.2 ∧ q.2.2 ≤ 100)
theorem pStep_ok {b z rain heat : Int} {q : Int × Int × Int} (h : pOk q) (hb : 0 ≤ b ∧ b ≤ 9) (hr : 0 ≤ rain ∧ rain ≤ 9) (hh : 0 ≤ heat ∧ heat ≤ 40) : pOk (pStep b z rain heat q) := by
  obtain ⟨r, w, t⟩ := q
  unfold pOk at h
  simp only at h
  unfold pOk pStep pPlay pRest
  by_cases c : z = 0
  · simp only [if_pos c]
    refine ⟨?_, ?_, ?_⟩
    · split <;> omega
    · split
      · omega
      · split <;> omega
    · omega
  · simp only [if_neg c]
    omega
theorem pIt_ok {b z rain heat : Int} (hb : 0 ≤ b ∧ b ≤ 9) (hr : 0 ≤ rain ∧ rain ≤ 9) (hh : 0 ≤ heat ∧ heat ≤ 40) : ∀ (n : Nat) (q : Int × Int × Int), pOk q → pOk (pIt (pStep b z rain heat) n q)
  | 0, _, h => h
  | n + 1, q, h => pIt_ok hb hr hh n _ (pStep_ok h hb hr hh)

set_option maxRecDepth 100000 in
set_option maxHeartbeats 4000000 in
theorem c_max {l : Launch} {Γ : GA} (hfl : l.stackTraces = false) {h : Hp} {a b : Int} (ha : -2147483648 ≤ a ∧ a ≤ 2147483647) (hb : -2147483648 ≤ b ∧ b ≤ 2147483647) : Ct l Γ m_J9_max_7cf53 [iv a, iv b] h (fun v h' => v = some (iv (max a b)) ∧ h' = h) (fun _ _ => False) := by
  refine Ct.intro hfl (by decide +kernel) rfl (Nat.le_of_ble_eq_true rfl) ?_
  intro G C R T
  show G 0 [some (iv a), some (iv b)] [] h 0 0
  refine gk_iload_n C dJ9_max_7cf53_0 rfl ?_
  refine gk_iload_n C dJ9_max_7cf53_1 rfl ?_
  refine gk_icmp_lt C (tgt := 9) (by omega) (by omega) dJ9_max_7cf53_2 (by decide) (fun c_2 => ?_) (fun c_2 => ?_)
  · refine gk_iload_n C dJ9_max_7cf53_9 rfl ?_
    refine (R _ _ _ _ _ (by decide) (by decide)).1 _ rfl dJ9_max_7cf53_10 ?_
    exact ⟨congrArg (fun z => some (iv z)) (by omega), rfl⟩
  · refine gk_iload_n C dJ9_max_7cf53_5 rfl ?_
    refine gk_goto C (tgt := 10) dJ9_max_7cf53_6 (by decide) ?_
    refine (R _ _ _ _ _ (by decide) (by decide)).1 _ rfl dJ9_max_7cf53_10 ?_
    exact ⟨congrArg (fun z => some (iv z)) (by omega), rfl⟩

set_option maxRecDepth 100000 in
set_option maxHeartbeats 4000000 in
theorem c_min {l : Launch} {Γ : GA} (hfl : l.stackTraces = false) {h : Hp} {a b : Int} (ha : -2147483648 ≤ a ∧ a ≤ 2147483647) (hb : -2147483648 ≤ b ∧ b ≤ 2147483647) : Ct l Γ m_J9_min_7cf53 [iv a, iv b] h (fun v h' => v = some (iv (min a b)) ∧ h' = h) (fun _ _ => False) := by
  refine Ct.intro hfl (by decide +kernel) rfl (Nat.le_of_ble_eq_true rfl) ?_
  intro G C R T
  show G 0 [some (iv a), some (iv b)] [] h 0 0
  refine gk_iload_n C dJ9_min_7cf53_0 rfl ?_
  refine gk_iload_n C dJ9_min_7cf53_1 rfl ?_
  refine gk_icmp_gt C (tgt := 9) (by omega) (by omega) dJ9_min_7cf53_2 (by decide) (fun c_2 => ?_) (fun c_2 => ?_)
  · refine gk_iload_n C dJ9_min_7cf53_9 rfl ?_
    refine (R _ _ _ _ _ (by decide) (by decide)).1 _ rfl dJ9_min_7cf53_10 ?_
    exact ⟨congrArg (fun z => some (iv z)) (by omega), rfl⟩
  · refine gk_iload_n C dJ9_min_7cf53_5 rfl ?_
    refine gk_goto C (tgt := 10) dJ9_min_7cf53_6 (by decide) ?_
    refine (R _ _ _ _ _ (by decide) (by decide)).1 _ rfl dJ9_min_7cf53_10 ?_
    exact ⟨congrArg (fun z => some (iv z)) (by omega), rfl⟩

set_option maxRecDepth 100000 in
set_option maxHeartbeats 4000000 in
theorem c_abs {l : Launch} {Γ : GA} (hfl : l.stackTraces = false) {h : Hp} {a : Int} (ha : -2147483648 ≤ a ∧ a ≤ 2147483647) : Ct l Γ m_J9_abs_0f7a4 [iv a] h (fun v h' => v = some (iv (if a < 0 then -a else a)) ∧ h' = h) (fun _ _ => False) := by
  refine Ct.intro hfl (by decide +kernel) rfl (Nat.le_of_ble_eq_true rfl) ?_
  intro G C R T
  show G 0 [some (iv a)] [] h 0 0
  refine gk_iload_n C dJ9_abs_0f7a4_0 rfl ?_
  refine gk_if_ge C (tgt := 9) (by omega) dJ9_abs_0f7a4_1 (by decide) (fun c_1 => ?_) (fun c_1 => ?_)
  · refine gk_iload_n C dJ9_abs_0f7a4_9 rfl ?_
    refine (R _ _ _ _ _ (by decide) (by decide)).1 _ rfl dJ9_abs_0f7a4_10 ?_
    refine ⟨congrArg (fun z => some (iv z)) ?_, rfl⟩
    by_cases q : a < 0
    · rw [if_pos q]; first | rfl | omega
    · rw [if_neg q]; first | rfl | omega
  · refine gk_iload_n C dJ9_abs_0f7a4_4 rfl ?_
    refine gk_ineg C dJ9_abs_0f7a4_5 ?_
    refine gk_goto C (tgt := 10) dJ9_abs_0f7a4_6 (by decide) ?_
    refine (R _ _ _ _ _ (by decide) (by decide)).1 _ rfl dJ9_abs_0f7a4_10 ?_
    refine ⟨congrArg (fun z => some (iv z)) ?_, rfl⟩
    by_cases q : a < 0
    · rw [if_pos q]; first | rfl | omega
    · rw [if_neg q]; first | rfl | omega

set_option maxRecDepth 100000 in
set_option maxHeartbeats 4000000 in
theorem c_X1_pitch {l : Launch} {Γ : GA} (hfl : l.stackTraces = false) {h : Hp} {a : Nat} {r p b s w t z : Int} (ha : h a = some (oPi r p b s w t z)) : Ct l Γ m_X1_pitch [.ref a] h (fun v h' => v = some (iv (r + s + 2 * p + 3 * w - t)) ∧ h' = h) (fun _ _ => False) := by
  refine Ct.intro hfl (by decide +kernel) rfl (Nat.le_of_ble_eq_true rfl) ?_
  intro G C R T
  show G 0 [some (.ref a)] [] h 0 0
  refine gk_aload_n C dX1_pitch_0 rfl ?_
  refine gk_getf C f_X1_7.r dX1_pitch_1 (by first | assumption | exact hset_eq | (refine (hset_ne (by first | assumption | exact Ne.symm (by assumption))).trans ?_; first | assumption | exact hset_eq | (refine (hset_ne (by first | assumption | exact Ne.symm (by assumption))).trans ?_; first | assumption | exact hset_eq))) (by rfl) ?_
  refine gk_aload_n C dX1_pitch_4 rfl ?_
  refine gk_getf C f_X1_19.r dX1_pitch_5 (by first | assumption | exact hset_eq | (refine (hset_ne (by first | assumption | exact Ne.symm (by assumption))).trans ?_; first | assumption | exact hset_eq | (refine (hset_ne (by first | assumption | exact Ne.symm (by assumption))).trans ?_; first | assumption | exact hset_eq))) (by rfl) ?_
  refine gk_iadd C dX1_pitch_8 ?_
  refine gk_iconst C dX1_pitch_9 ?_
  refine gk_aload_n C dX1_pitch_10 rfl ?_
  refine gk_getf C f_X1_13.r dX1_pitch_11 (by first | assumption | exact hset_eq | (refine (hset_ne (by first | assumption | exact Ne.symm (by assumption))).trans ?_; first | assumption | exact hset_eq | (refine (hset_ne (by first | assumption | exact Ne.symm (by assumption))).trans ?_; first | assumption | exact hset_eq))) (by rfl) ?_
  refine gk_imul C dX1_pitch_14 ?_
  refine gk_iadd C dX1_pitch_15 ?_
  refine gk_iconst C dX1_pitch_16 ?_
  refine gk_aload_n C dX1_pitch_17 rfl ?_
  refine gk_getf C f_X1_22.r dX1_pitch_18 (by first | assumption | exact hset_eq | (refine (hset_ne (by first | assumption | exact Ne.symm (by assumption))).trans ?_; first | assumption | exact hset_eq | (refine (hset_ne (by first | assumption | exact Ne.symm (by assumption))).trans ?_; first | assumption | exact hset_eq))) (by rfl) ?_
  refine gk_imul C dX1_pitch_21 ?_
  refine gk_iadd C dX1_pitch_22 ?_
  refine gk_aload_n C dX1_pitch_23 rfl ?_
  refine gk_getf C f_X1_25.r dX1_pitch_24 (by first | assumption | exact hset_eq | (refine (hset_ne (by first | assumption | exact Ne.symm (by assumption))).trans ?_; first | assumption | exact hset_eq | (refine (hset_ne (by first | assumption | exact Ne.symm (by assumption))).trans ?_; first | assumption | exact hset_eq))) (by rfl) ?_
  refine gk_isub C dX1_pitch_27 ?_
  refine (R _ _ _ _ _ (by decide) (by decide)).1 _ rfl dX1_pitch_28 ?_
  exact ⟨rfl, rfl⟩

set_option maxRecDepth 100000 in
set_option maxHeartbeats 4000000 in
theorem c_X1_rest {l : Launch} {Γ : GA} (hfl : l.stackTraces = false) {h : Hp} {a : Nat} {r p b s w t z : Int} (ha : h a = some (oPi r p b s w t z)) (hw : 0 ≤ w ∧ w ≤ 40) (ht : 0 ≤ t ∧ t ≤ 100) : Ct l Γ m_X1_restAMinute [.ref a] h (fun v h' => v = none ∧ h' = hset h a (oPi r p b s (max 0 (w - 1)) (max 0 (t - 2)) z)) (fun _ _ => False) := by
  refine Ct.intro hfl (by decide +kernel) rfl (Nat.le_of_ble_eq_true rfl) ?_
  intro G C R T
  show G 0 [some (.ref a)] [] h 0 0
  refine gk_aload_n C dX1_restAMinute_0 rfl ?_
  refine gk_iconst C dX1_restAMinute_1 ?_
  refine gk_aload_n C dX1_restAMinute_2 rfl ?_
  refine gk_getf C f_X1_25.r dX1_restAMinute_3 (by first | assumption | exact hset_eq | (refine (hset_ne (by first | assumption | exact Ne.symm (by assumption))).trans ?_; first | assumption | exact hset_eq | (refine (hset_ne (by first | assumption | exact Ne.symm (by assumption))).trans ?_; first | assumption | exact hset_eq))) (by rfl) ?_
  refine gk_iconst C dX1_restAMinute_6 ?_
  refine gk_isub C dX1_restAMinute_7 ?_
  refine gk_callS C o_J9_max_7cf53 k_X1_39 dX1_restAMinute_8 (c_max hfl (by omega) (by omega)) rfl rfl (by decide) (by decide) (by exact Nat.le_of_ble_eq_true rfl) (fun _ _ z => z.elim) (fun v_8 h_8 p_8 => ?_)
  obtain ⟨rfl, rfl⟩ := p_8
  dsimp only [gk_push]
  refine gk_putf C f_X1_25 dX1_restAMinute_11 (by first | assumption | exact hset_eq | (refine (hset_ne (by first | assumption | exact Ne.symm (by assumption))).trans ?_; first | assumption | exact hset_eq | (refine (hset_ne (by first | assumption | exact Ne.symm (by assumption))).trans ?_; first | assumption | exact hset_eq))) rfl rfl (by exact Nat.le_of_ble_eq_true rfl) ?_
  refine gk_aload_n C dX1_restAMinute_14 rfl ?_
  refine gk_iconst C dX1_restAMinute_15 ?_
  refine gk_aload_n C dX1_restAMinute_16 rfl ?_
  refine gk_getf C f_X1_22.r dX1_restAMinute_17 (by first | assumption | exact hset_eq | (refine (hset_ne (by first | assumption | exact Ne.symm (by assumption))).trans ?_; first | assumption | exact hset_eq | (refine (hset_ne (by first | assumption | exact Ne.symm (by assumption))).trans ?_; first | assumption | exact hset_eq))) (by rfl) ?_
  refine gk_iconst C dX1_restAMinute_20 ?_
  refine gk_isub C dX1_restAMinute_21 ?_
  refine gk_callS C o_J9_max_7cf53 k_X1_39 dX1_restAMinute_22 (c_max hfl (by omega) (by omega)) rfl rfl (by decide) (by decide) (by exact Nat.le_of_ble_eq_true rfl) (fun _ _ z => z.elim) (fun v_22 h_22 p_22 => ?_)
  obtain ⟨rfl, rfl⟩ := p_22
  dsimp only [gk_push]
  refine gk_putf C f_X1_22 dX1_restAMinute_25 (by first | assumption | exact hset_eq | (refine (hset_ne (by first | assumption | exact Ne.symm (by assumption))).trans ?_; first | assumption | exact hset_eq | (refine (hset_ne (by first | assumption | exact Ne.symm (by assumption))).trans ?_; first | assumption | exact hset_eq))) rfl rfl (by exact Nat.le_of_ble_eq_true rfl) ?_
  refine (R _ _ _ _ _ (by decide) (by decide)).2.2.1 rfl dX1_restAMinute_28 ?_
  exact ⟨rfl, hset_set⟩

set_option maxRecDepth 100000 in
set_option maxHeartbeats 4000000 in
theorem c_X1_play {l : Launch} {Γ : GA} (hfl : l.stackTraces = false) {h : Hp} {a : Nat} {r p b s w t z : Int} (ha : h a = some (oPi r p b s w t z)) {rain heat : Int} (hr : -100 ≤ r ∧ r ≤ 100) (hp : 10 ≤ p ∧ p ≤ 40) (hb : 0 ≤ b ∧ b ≤ 9) (hs : -100 ≤ s ∧ s ≤ 100) (hw : 0 ≤ w ∧ w ≤ 40) (ht : 0 ≤ t ∧ t ≤ 100) (hz : z = 0 ∨ z = 1) (hrain : 0 ≤ rain ∧ rain ≤ 9) (hheat : 0 ≤ heat ∧ heat ≤ 40) : Ct l Γ m_X1_playAMinute [.ref a, iv rain, iv heat] h (fun v h' => v = none ∧ h' = hset h a (oPi (pPlay b rain heat (r, w, t)).1 p b s (pPlay b rain heat (r, w, t)).2.1 (pPlay b rain heat (r, w, t)).2.2 z)) (fun _ _ => False) := by
  refine Ct.intro hfl (by decide +kernel) rfl (Nat.le_of_ble_eq_true rfl) ?_
  intro G C R T
  show G 0 [some (.ref a), some (iv rain), some (iv heat)] [] h 0 0
  refine gk_aload_n C dX1_playAMinute_0 rfl ?_
  refine gk_bipush C dX1_playAMinute_1 (by decide) ?_
  refine gk_aload_n C dX1_playAMinute_3 rfl ?_
  refine gk_getf C f_X1_25.r dX1_playAMinute_4 (by first | assumption | exact hset_eq | (refine (hset_ne (by first | assumption | exact Ne.symm (by assumption))).trans ?_; first | assumption | exact hset_eq | (refine (hset_ne (by first | assumption | exact Ne.symm (by assumption))).trans ?_; first | assumption | exact hset_eq))) (by rfl) ?_
  refine gk_aload_n C dX1_playAMinute_7 rfl ?_
  refine gk_getf C f_X1_16.r dX1_playAMinute_8 (by first | assumption | exact hset_eq | (refine (hset_ne (by first | assumption | exact Ne.symm (by assumption))).trans ?_; first | assumption | exact hset_eq | (refine (hset_ne (by first | assumption | exact Ne.symm (by assumption))).trans ?_; first | assumption | exact hset_eq))) (by rfl) ?_
  refine gk_iadd C dX1_playAMinute_11 ?_
  refine gk_iload_n C dX1_playAMinute_12 rfl ?_
  refine gk_iadd C dX1_playAMinute_13 ?_
  refine gk_callS C o_J9_min_7cf53 k_X1_45 dX1_playAMinute_14 (c_min hfl (by omega) (by omega)) rfl rfl (by decide) (by decide) (by exact Nat.le_of_ble_eq_true rfl) (fun _ _ z => z.elim) (fun v_14 h_14 p_14 => ?_)
  obtain ⟨rfl, rfl⟩ := p_14
  dsimp only [gk_push]
  refine gk_putf C f_X1_25 dX1_playAMinute_17 (by first | assumption | exact hset_eq | (refine (hset_ne (by first | assumption | exact Ne.symm (by assumption))).trans ?_; first | assumption | exact hset_eq | (refine (hset_ne (by first | assumption | exact Ne.symm (by assumption))).trans ?_; first | assumption | exact hset_eq))) rfl rfl (by exact Nat.le_of_ble_eq_true rfl) ?_
  refine gk_aload_n C dX1_playAMinute_20 rfl ?_
  refine gk_getf C f_X1_22.r dX1_playAMinute_21 (by first | assumption | exact hset_eq | (refine (hset_ne (by first | assumption | exact Ne.symm (by assumption))).trans ?_; first | assumption | exact hset_eq | (refine (hset_ne (by first | assumption | exact Ne.symm (by assumption))).trans ?_; first | assumption | exact hset_eq))) (by rfl) ?_
  refine gk_iload_n C dX1_playAMinute_24 rfl ?_
  refine gk_icmp_ge C (tgt := 41) (by omega) (by omega) dX1_playAMinute_25 (by decide) (fun c_25 => ?_) (fun c_25 => ?_)
  · refine gk_aload_n C dX1_playAMinute_41 rfl ?_
    refine gk_getf C f_X1_22.r dX1_playAMinute_42 (by first | assumption | exact hset_eq | (refine (hset_ne (by first | assumption | exact Ne.symm (by assumption))).trans ?_; first | assumption | exact hset_eq | (refine (hset_ne (by first | assumption | exact Ne.symm (by assumption))).trans ?_; first | assumption | exact hset_eq))) (by rfl) ?_
    refine gk_iload_n C dX1_playAMinute_45 rfl ?_
    refine gk_icmp_le C (tgt := 59) (by omega) (by omega) dX1_playAMinute_46 (by decide) (fun c_46 => ?_) (fun c_46 => ?_)
    · refine gk_aload_n C dX1_playAMinute_59 rfl ?_
      refine gk_getf C f_X1_25.r dX1_playAMinute_60 (by first | assumption | exact hset_eq | (refine (hset_ne (by first | assumption | exact Ne.symm (by assumption))).trans ?_; first | assumption | exact hset_eq | (refine (hset_ne (by first | assumption | exact Ne.symm (by assumption))).trans ?_; first | assumption | exact hset_eq))) (by rfl) ?_
      refine gk_bipush C dX1_playAMinute_63 (by decide) ?_
      refine gk_icmp_ne C (tgt := 83) (by omega) (by omega) dX1_playAMinute_65 (by decide) (fun c_65 => ?_) (fun c_65 => ?_)
      · refine (R _ _ _ _ _ (by decide) (by decide)).2.2.1 rfl dX1_playAMinute_83 ?_
        refine ⟨rfl, ?_⟩
        simp only [hset_set]
        refine congrArg (hset h a) ?_
        unfold pPlay
        simp only [List.set_cons_zero, List.set_cons_succ]
        congr 1
        simp only [List.cons.injEq, and_true, true_and]
        refine ⟨congrArg iv ?_, congrArg iv ?_⟩ <;> (repeat' split) <;> omega
      · refine gk_aload_n C dX1_playAMinute_68 rfl ?_
        refine gk_bipush C dX1_playAMinute_69 (by decide) ?_
        refine gk_aload_n C dX1_playAMinute_71 rfl ?_
        refine gk_getf C f_X1_7.r dX1_playAMinute_72 (by first | assumption | exact hset_eq | (refine (hset_ne (by first | assumption | exact Ne.symm (by assumption))).trans ?_; first | assumption | exact hset_eq | (refine (hset_ne (by first | assumption | exact Ne.symm (by assumption))).trans ?_; first | assumption | exact hset_eq))) (by rfl) ?_
        refine gk_iconst C dX1_playAMinute_75 ?_
        refine gk_isub C dX1_playAMinute_76 ?_
        refine gk_callS C o_J9_max_7cf53 k_X1_39 dX1_playAMinute_77 (c_max hfl (by omega) (by omega)) rfl rfl (by decide) (by decide) (by exact Nat.le_of_ble_eq_true rfl) (fun _ _ z => z.elim) (fun v_77 h_77 p_77 => ?_)
        obtain ⟨rfl, rfl⟩ := p_77
        dsimp only [gk_push]
        refine gk_putf C f_X1_7 dX1_playAMinute_80 (by first | assumption | exact hset_eq | (refine (hset_ne (by first | assumption | exact Ne.symm (by assumption))).trans ?_; first | assumption | exact hset_eq | (refine (hset_ne (by first | assumption | exact Ne.symm (by assumption))).trans ?_; first | assumption | exact hset_eq))) rfl rfl (by exact Nat.le_of_ble_eq_true rfl) ?_
        refine (R _ _ _ _ _ (by decide) (by decide)).2.2.1 rfl dX1_playAMinute_83 ?_
        refine ⟨rfl, ?_⟩
        simp only [hset_set]
        refine congrArg (hset h a) ?_
        unfold pPlay
        simp only [List.set_cons_zero, List.set_cons_succ]
        congr 1
        simp only [List.cons.injEq, and_true, true_and]
        refine ⟨congrArg iv ?_, congrArg iv ?_⟩ <;> (repeat' split) <;> omega
    · refine gk_aload_n C dX1_playAMinute_49 rfl ?_
      refine gk_dup C rfl dX1_playAMinute_50 ?_
      refine gk_getf C f_X1_22.r dX1_playAMinute_51 (by first | assumption | exact hset_eq | (refine (hset_ne (by first | assumption | exact Ne.symm (by assumption))).trans ?_; first | assumption | exact hset_eq | (refine (hset_ne (by first | assumption | exact Ne.symm (by assumption))).trans ?_; first | assumption | exact hset_eq))) (by rfl) ?_
      refine gk_iconst C dX1_playAMinute_54 ?_
      refine gk_isub C dX1_playAMinute_55 ?_
      refine gk_putf C f_X1_22 dX1_playAMinute_56 (by first | assumption | exact hset_eq | (refine (hset_ne (by first | assumption | exact Ne.symm (by assumption))).trans ?_; first | assumption | exact hset_eq | (refine (hset_ne (by first | assumption | exact Ne.symm (by assumption))).trans ?_; first | assumption | exact hset_eq))) rfl rfl (by exact Nat.le_of_ble_eq_true rfl) ?_
      refine gk_aload_n C dX1_playAMinute_59 rfl ?_
      refine gk_getf C f_X1_25.r dX1_playAMinute_60 (by first | assumption | exact hset_eq | (refine (hset_ne (by first | assumption | exact Ne.symm (by assumption))).trans ?_; first | assumption | exact hset_eq | (refine (hset_ne (by first | assumption | exact Ne.symm (by assumption))).trans ?_; first | assumption | exact hset_eq))) (by rfl) ?_
      refine gk_bipush C dX1_playAMinute_63 (by decide) ?_
      refine gk_icmp_ne C (tgt := 83) (by omega) (by omega) dX1_playAMinute_65 (by decide) (fun c_65 => ?_) (fun c_65 => ?_)
      · refine (R _ _ _ _ _ (by decide) (by decide)).2.2.1 rfl dX1_playAMinute_83 ?_
        refine ⟨rfl, ?_⟩
        simp only [hset_set]
        refine congrArg (hset h a) ?_
        unfold pPlay
        simp only [List.set_cons_zero, List.set_cons_succ]
        congr 1
        simp only [List.cons.injEq, and_true, true_and]
        refine ⟨congrArg iv ?_, congrArg iv ?_⟩ <;> (repeat' split) <;> omega
      · refine gk_aload_n C dX1_playAMinute_68 rfl ?_
        refine gk_bipush C dX1_playAMinute_69 (by decide) ?_
        refine gk_aload_n C dX1_playAMinute_71 rfl ?_
        refine gk_getf C f_X1_7.r dX1_playAMinute_72 (by first | assumption | exact hset_eq | (refine (hset_ne (by first | assumption | exact Ne.symm (by assumption))).trans ?_; first | assumption | exact hset_eq | (refine (hset_ne (by first | assumption | exact Ne.symm (by assumption))).trans ?_; first | assumption | exact hset_eq))) (by rfl) ?_
        refine gk_iconst C dX1_playAMinute_75 ?_
        refine gk_isub C dX1_playAMinute_76 ?_
        refine gk_callS C o_J9_max_7cf53 k_X1_39 dX1_playAMinute_77 (c_max hfl (by omega) (by omega)) rfl rfl (by decide) (by decide) (by exact Nat.le_of_ble_eq_true rfl) (fun _ _ z => z.elim) (fun v_77 h_77 p_77 => ?_)
        obtain ⟨rfl, rfl⟩ := p_77
        dsimp only [gk_push]
        refine gk_putf C f_X1_7 dX1_playAMinute_80 (by first | assumption | exact hset_eq | (refine (hset_ne (by first | assumption | exact Ne.symm (by assumption))).trans ?_; first | assumption | exact hset_eq | (refine (hset_ne (by first | assumption | exact Ne.symm (by assumption))).trans ?_; first | assumption | exact hset_eq))) rfl rfl (by exact Nat.le_of_ble_eq_true rfl) ?_
        refine (R _ _ _ _ _ (by decide) (by decide)).2.2.1 rfl dX1_playAMinute_83 ?_
        refine ⟨rfl, ?_⟩
        simp only [hset_set]
        refine congrArg (hset h a) ?_
        unfold pPlay
        simp only [List.set_cons_zero, List.set_cons_succ]
        congr 1
        simp only [List.cons.injEq, and_true, true_and]
        refine ⟨congrArg iv ?_, congrArg iv ?_⟩ <;> (repeat' split) <;> omega
  · refine gk_aload_n C dX1_playAMinute_28 rfl ?_
    refine gk_dup C rfl dX1_playAMinute_29 ?_
    refine gk_getf C f_X1_22.r dX1_playAMinute_30 (by first | assumption | exact hset_eq | (refine (hset_ne (by first | assumption | exact Ne.symm (by assumption))).trans ?_; first | assumption | exact hset_eq | (refine (hset_ne (by first | assumption | exact Ne.symm (by assumption))).trans ?_; first | assumption | exact hset_eq))) (by rfl) ?_
    refine gk_iconst C dX1_playAMinute_33 ?_
    refine gk_iadd C dX1_playAMinute_34 ?_
    refine gk_putf C f_X1_22 dX1_playAMinute_35 (by first | assumption | exact hset_eq | (refine (hset_ne (by first | assumption | exact Ne.symm (by assumption))).trans ?_; first | assumption | exact hset_eq | (refine (hset_ne (by first | assumption | exact Ne.symm (by assumption))).trans ?_; first | assumption | exact hset_eq))) rfl rfl (by exact Nat.le_of_ble_eq_true rfl) ?_
    refine gk_goto C (tgt := 59) dX1_playAMinute_38 (by decide) ?_
    refine gk_aload_n C dX1_playAMinute_59 rfl ?_
    refine gk_getf C f_X1_25.r dX1_playAMinute_60 (by first | assumption | exact hset_eq | (refine (hset_ne (by first | assumption | exact Ne.symm (by assumption))).trans ?_; first | assumption | exact hset_eq | (refine (hset_ne (by first | assumption | exact Ne.symm (by assumption))).trans ?_; first | assumption | exact hset_eq))) (by rfl) ?_
    refine gk_bipush C dX1_playAMinute_63 (by decide) ?_
    refine gk_icmp_ne C (tgt := 83) (by omega) (by omega) dX1_playAMinute_65 (by decide) (fun c_65 => ?_) (fun c_65 => ?_)
    · refine (R _ _ _ _ _ (by decide) (by decide)).2.2.1 rfl dX1_playAMinute_83 ?_
      refine ⟨rfl, ?_⟩
      simp only [hset_set]
      refine congrArg (hset h a) ?_
      unfold pPlay
      simp only [List.set_cons_zero, List.set_cons_succ]
      congr 1
      simp only [List.cons.injEq, and_true, true_and]
      refine ⟨congrArg iv ?_, congrArg iv ?_⟩ <;> (repeat' split) <;> omega
    · refine gk_aload_n C dX1_playAMinute_68 rfl ?_
      refine gk_bipush C dX1_playAMinute_69 (by decide) ?_
      refine gk_aload_n C dX1_playAMinute_71 rfl ?_
      refine gk_getf C f_X1_7.r dX1_playAMinute_72 (by first | assumption | exact hset_eq | (refine (hset_ne (by first | assumption | exact Ne.symm (by assumption))).trans ?_; first | assumption | exact hset_eq | (refine (hset_ne (by first | assumption | exact Ne.symm (by assumption))).trans ?_; first | assumption | exact hset_eq))) (by rfl) ?_
      refine gk_iconst C dX1_playAMinute_75 ?_
      refine gk_isub C dX1_playAMinute_76 ?_
      refine gk_callS C o_J9_max_7cf53 k_X1_39 dX1_playAMinute_77 (c_max hfl (by omega) (by omega)) rfl rfl (by decide) (by decide) (by exact Nat.le_of_ble_eq_true rfl) (fun _ _ z => z.elim) (fun v_77 h_77 p_77 => ?_)
      obtain ⟨rfl, rfl⟩ := p_77
      dsimp only [gk_push]
      refine gk_putf C f_X1_7 dX1_playAMinute_80 (by first | assumption | exact hset_eq | (refine (hset_ne (by first | assumption | exact Ne.symm (by assumption))).trans ?_; first | assumption | exact hset_eq | (refine (hset_ne (by first | assumption | exact Ne.symm (by assumption))).trans ?_; first | assumption | exact hset_eq))) rfl rfl (by exact Nat.le_of_ble_eq_true rfl) ?_
      refine (R _ _ _ _ _ (by decide) (by decide)).2.2.1 rfl dX1_playAMinute_83 ?_
      refine ⟨rfl, ?_⟩
      simp only [hset_set]
      refine congrArg (hset h a) ?_
      unfold pPlay
      simp only [List.set_cons_zero, List.set_cons_succ]
      congr 1
      simp only [List.cons.injEq, and_true, true_and]
      refine ⟨congrArg iv ?_, congrArg iv ?_⟩ <;> (repeat' split) <;> omega
