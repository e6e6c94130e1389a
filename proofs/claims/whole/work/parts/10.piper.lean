/-! the pipers, the row of pitches, Math's functions: contracts -/
abbrev oPi (r p b s w t z : Int) : AE := oO 2 [iv r, iv p, iv b, iv s, iv w, iv t, iv z]
/-- what a minute makes of reed, warmth and wet -/
def pPlay (b rain heat : Int) (q : Int × Int × Int) : Int × Int × Int :=
  (if min 100 (q.2.2 + b + rain) = 100 then max (-100) (q.1 - 1) else q.1, if q.2.1 < heat then q.2.1 + 1 else if heat < q.2.1 then q.2.1 - 1 else q.2.1, min 100 (q.2.2 + b + rain))
def pRest (q : Int × Int × Int) : Int × Int × Int := (q.1, max 0 (q.2.1 - 1), max 0 (q.2.2 - 2))
def pStep (b z rain heat : Int) (q : Int × Int × Int) : Int × Int × Int := if z = 0 then pPlay b rain heat q else pRest q
def pIt (f : Int × Int × Int → Int × Int × Int) : Nat → Int × Int × Int → Int × Int × Int
  | 0, q => q
  | n + 1, q => pIt f n (f q)
def pOk (q : Int × Int × Int) : Prop := (-100 ≤ q.1 ∧ q.1 ≤ 100) ∧ (0 ≤ q.2.1 ∧ q.2.1 ≤ 40) ∧ (0 ≤ q.2.2 ∧ q.2.2 ≤ 100)
theorem pStep_ok {b z rain heat : Int} {q : Int × Int × Int} (h : pOk q) (hb : 0 ≤ b ∧ b ≤ 9) (hr : 0 ≤ rain ∧ rain ≤ 9) (hh : 0 ≤ heat ∧ heat ≤ 40) : pOk (pStep b z rain heat q) := by
  obtain ⟨r, w, t⟩ := q
  unfold pOk at h
  simp only at h
  unfold pOk pStep pPlay pRest
  by_cases c : z = 0
  · simp only [if_pos c]
    refine ⟨?_, ?_, ?_⟩
    · split <;> omega
    · split
      · omega
      · split <;> omega
    · omega
  · simp only [if_neg c]
    omega
theorem pIt_ok {b z rain heat : Int} (hb : 0 ≤ b ∧ b ≤ 9) (hr : 0 ≤ rain ∧ rain ≤ 9) (hh : 0 ≤ heat ∧ heat ≤ 40) : ∀ (n : Nat) (q : Int × Int × Int), pOk q → pOk (pIt (pStep b z rain heat) n q)
  | 0, _, h => h
  | n + 1, q, h => pIt_ok hb hr hh n _ (pStep_ok h hb hr hh)

set_option maxRecDepth 100000 in
set_option maxHeartbeats 4000000 in
theorem c_X1_pitch {l : Launch} {Γ : GA} (hfl : l.stackTraces = false) {h : Hp} {a : Nat} {r p b s w t z : Int} (ha : h a = some (oPi r p b s w t z)) : Ct l Γ m_X1_pitch [.ref a] h (fun v h' => v = some (iv (r + s + 2 * p + 3 * w - t)) ∧ h' = h) (fun _ _ => False) := by
  refine Ct.intro hfl (by decide +kernel) rfl (Nat.le_of_ble_eq_true rfl) ?_
  intro G C R T
  show G 0 [some (.ref a)] [] h 0 0
  refine gk_aload_n C dX1_pitch_0 rfl ?_
  refine gk_getf C f_X1_7.r dX1_pitch_1 (by first | assumption | exact hset_eq | (refine (hset_ne (by first | assumption | exact Ne.symm (by assumption))).trans ?_; first | assumption | exact hset_eq | (refine (hset_ne (by first | assumption | exact Ne.symm (by assumption))).trans ?_; first | assumption | exact hset_eq))) (by rfl) ?_
  refine gk_aload_n C dX1_pitch_4 rfl ?_
  refine gk_getf C f_X1_19.r dX1_pitch_5 (by first | assumption | exact hset_eq | (refine (hset_ne (by first | assumption | exact Ne.symm (by assumption))).trans ?_; first | assumption | exact hset_eq | (refine (hset_ne (by first | assumption | exact Ne.symm (by assumption))).trans ?_; first | assumption | exact hset_eq))) (by rfl) ?_
  refine gk_iadd C dX1_pitch_8 ?_
  refine gk_iconst C dX1_pitch_9 ?_
  refine gk_aload_n C dX1_pitch_10 rfl ?_
  refine gk_getf C f_X1_13.r dX1_pitch_11 (by first | assumption | exact hset_eq | (refine (hset_ne (by first | assumption | exact Ne.symm (by assumption))).trans ?_; first | assumption | exact hset_eq | (refine (hset_ne (by first | assumption | exact Ne.symm (by assumption))).trans ?_; first | assumption | exact hset_eq))) (by rfl) ?_
  refine gk_imul C dX1_pitch_14 ?_
  refine gk_iadd C dX1_pitch_15 ?_
  refine gk_iconst C dX1_pitch_16 ?_
  refine gk_aload_n C dX1_pitch_17 rfl ?_
  refine gk_getf C f_X1_22.r dX1_pitch_18 (by first | assumption | exact hset_eq | (refine (hset_ne (by first | assumption | exact Ne.symm (by assumption))).trans ?_; first | assumption | exact hset_eq | (refine (hset_ne (by first | assumption | exact Ne.symm (by assumption))).trans ?_; first | assumption | exact hset_eq))) (by rfl) ?_
  refine gk_imul C dX1_pitch_21 ?_
  refine gk_iadd C dX1_pitch_22 ?_
  refine gk_aload_n C dX1_pitch_23 rfl ?_
  refine gk_getf C f_X1_25.r dX1_pitch_24 (by first | assumption | exact hset_eq | (refine (hset_ne (by first | assumption | exact Ne.symm (by assumption))).trans ?_; first | assumption | exact hset_eq | (refine (hset_ne (by first | assumption | exact Ne.symm (by assumption))).trans ?_; first | assumption | exact hset_eq))) (by rfl) ?_
  refine gk_isub C dX1_pitch_27 ?_
  refine (R _ _ _ _ _ (by decide) (by decide)).1 _ rfl dX1_pitch_28 ?_
  exact ⟨rfl, rfl⟩

set_option maxRecDepth 100000 in
set_option maxHeartbeats 4000000 in
theorem c_X1_rest {l : Launch} {Γ : GA} (hfl : l.stackTraces = false) {h : Hp} {a : Nat} {r p b s w t z : Int} (ha : h a = some (oPi r p b s w t z)) (hw : 0 ≤ w ∧ w ≤ 40) (ht : 0 ≤ t ∧ t ≤ 100) : Ct l Γ m_X1_restAMinute [.ref a] h (fun v h' => v = none ∧ h' = hset h a (oPi r p b s (max 0 (w - 1)) (max 0 (t - 2)) z)) (fun _ _ => False) := by
  refine Ct.intro hfl (by decide +kernel) rfl (Nat.le_of_ble_eq_true rfl) ?_
  intro G C R T
  show G 0 [some (.ref a)] [] h 0 0
  refine gk_aload_n C dX1_restAMinute_0 rfl ?_
  refine gk_iconst C dX1_restAMinute_1 ?_
  refine gk_aload_n C dX1_restAMinute_2 rfl ?_
  refine gk_getf C f_X1_25.r dX1_restAMinute_3 (by first | assumption | exact hset_eq | (refine (hset_ne (by first | assumption | exact Ne.symm (by assumption))).trans ?_; first | assumption | exact hset_eq | (refine (hset_ne (by first | assumption | exact Ne.symm (by assumption))).trans ?_; first | assumption | exact hset_eq))) (by rfl) ?_
  refine gk_iconst C dX1_restAMinute_6 ?_
  refine gk_isub C dX1_restAMinute_7 ?_
  refine gk_mmax C (by omega) (by omega) k_X1_39.1 dX1_restAMinute_8 (by decide) (by exact Nat.le_of_ble_eq_true rfl) (by decide) ?_
  refine gk_putf C f_X1_25 dX1_restAMinute_11 (by first | assumption | exact hset_eq | (refine (hset_ne (by first | assumption | exact Ne.symm (by assumption))).trans ?_; first | assumption | exact hset_eq | (refine (hset_ne (by first | assumption | exact Ne.symm (by assumption))).trans ?_; first | assumption | exact hset_eq))) rfl rfl (by exact Nat.le_of_ble_eq_true rfl) ?_
  refine gk_aload_n C dX1_restAMinute_14 rfl ?_
  refine gk_iconst C dX1_restAMinute_15 ?_
  refine gk_aload_n C dX1_restAMinute_16 rfl ?_
  refine gk_getf C f_X1_22.r dX1_restAMinute_17 (by first | assumption | exact hset_eq | (refine (hset_ne (by first | assumption | exact Ne.symm (by assumption))).trans ?_; first | assumption | exact hset_eq | (refine (hset_ne (by first | assumption | exact Ne.symm (by assumption))).trans ?_; first | assumption | exact hset_eq))) (by rfl) ?_
  refine gk_iconst C dX1_restAMinute_20 ?_
  refine gk_isub C dX1_restAMinute_21 ?_
  refine gk_mmax C (by omega) (by omega) k_X1_39.1 dX1_restAMinute_22 (by decide) (by exact Nat.le_of_ble_eq_true rfl) (by decide) ?_
  refine gk_putf C f_X1_22 dX1_restAMinute_25 (by first | assumption | exact hset_eq | (refine (hset_ne (by first | assumption | exact Ne.symm (by assumption))).trans ?_; first | assumption | exact hset_eq | (refine (hset_ne (by first | assumption | exact Ne.symm (by assumption))).trans ?_; first | assumption | exact hset_eq))) rfl rfl (by exact Nat.le_of_ble_eq_true rfl) ?_
  refine (R _ _ _ _ _ (by decide) (by decide)).2.2.1 rfl dX1_restAMinute_28 ?_
  exact ⟨rfl, hset_set⟩

