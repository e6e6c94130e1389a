/-! the pipers, the row of pitches, Math's functions: contracts -/
abbrev oPi (r p b s w t z : Int) : AE := oO 2 [iv r, iv p, iv b, iv s, iv w, iv t, iv z]
/-- what a minute makes of reed, warmth and wet -/
def pPlay (b rain heat : Int) (q : Int × Int × Int) : Int × Int × Int :=
  (if min 100 (q.2.2 + b + rain) = 100 then max (-100) (q.1 - 1) else q.1, if q.2.1 < heat then q.2.1 + 1 else if heat < q.2.1 then q.2.1 - 1 else q.2.1, min 100 (q.2.2 + b + rain))
def pRest (q : Int × Int × Int) : Int × Int × Int := (q.1, max 0 (q.2.1 - 1), max 0 (q.2.2 - 2))
def pStep (b z rain heat : Int) (q : Int × Int × Int) : Int × Int × Int := if z = 0 then pPlay b rain heat q else pRest q
def pIt (f : Int × Int × Int → Int × Int × Int) : Nat → Int × Int × Int → Int × Int × Int
  | 0, q => q
  | n + 1, q => pIt f n (f q)
def pOk (q : Int × Int × Int) : Prop := (-100 ≤ q.1 ∧ q.1 ≤ 100) ∧ (0 ≤ q.2.1 ∧ q.2.1 ≤ 40) ∧ (0 ≤ q.2.2 ∧ q.2.2 ≤ 100)
theorem pStep_ok {b z rain heat : Int} {q : Int × Int × Int} (h : pOk q) (hb : 0 ≤ b ∧ b ≤ 9) (hr : 0 ≤ rain ∧ rain ≤ 9) (hh : 0 ≤ heat ∧ heat ≤ 40) : pOk (pStep b z rain heat q) := by
  obtain ⟨r, w, t⟩ := q
  unfold pOk at h
  simp only at h
  unfold pOk pStep pPlay pRest
  by_cases c : z = 0
  · simp only [if_pos c]
    refine ⟨?_, ?_, ?_⟩
    · split <;> omega
    · split
      · omega
      · split <;> omega
    · omega
  · simp only [if_neg c]
    omega
theorem pIt_ok {b z rain heat : Int} (hb : 0 ≤ b ∧ b ≤ 9) (hr : 0 ≤ rain ∧ rain ≤ 9) (hh : 0 ≤ heat ∧ heat ≤ 40) : ∀ (n : Nat) (q : Int × Int × Int), pOk q → pOk (pIt (pStep b z rain heat) n q)
  | 0, _, h => h
  | n + 1, q, h => pIt_ok hb hr hh n _ (pStep_ok h hb hr hh)

set_option maxRecDepth 100000 in
set_option maxHeartbeats 4000000 in
theorem c_X1_pitch {l : Launch} {Γ : GA} (hfl : l.stackTraces = false) {h : Hp} {a : Nat} {r p b s w t z : Int} (ha : h a = some (oPi r p b s w t z)) : Ct l Γ m_X1_pitch [.ref a] h (fun v h' => v = some (iv (r + s + 2 * p + 3 * w - t)) ∧ h' = h) (fun _ _ => False) := by
  refine Ct.intro hfl (by decide +kernel) rfl (Nat.le_of_ble_eq_true rfl) ?_
  intro G C R T
  show G 0 [some (.ref a)] [] h 0 0
  refine gk_aload_n C dX1_pitch_0 rfl ?_
  refine gk_getf C f_X1_7.r dX1_pitch_1 (by (try simp only [hset_set]); first | assumption | exact hset_eq | (refine (hset_ne (by first | assumption | exact Ne.symm (by assumption))).trans ?_; first | assumption | exact hset_eq | (refine (hset_ne (by first | assumption | exact Ne.symm (by assumption))).trans ?_; first | assumption | exact hset_eq | (refine (hset_ne (by first | assumption | exact Ne.symm (by assumption))).trans ?_; first | assumption | exact hset_eq)))) (by rfl) ?_
  refine gk_aload_n C dX1_pitch_4 rfl ?_
  refine gk_getf C f_X1_19.r dX1_pitch_5 (by (try simp only [hset_set]); first | assumption | exact hset_eq | (refine (hset_ne (by first | assumption | exact Ne.symm (by assumption))).trans ?_; first | assumption | exact hset_eq | (refine (hset_ne (by first | assumption | exact Ne.symm (by assumption))).trans ?_; first | assumption | exact hset_eq | (refine (hset_ne (by first | assumption | exact Ne.symm (by assumption))).trans ?_; first | assumption | exact hset_eq)))) (by rfl) ?_
  refine gk_iadd C dX1_pitch_8 ?_
  refine gk_iconst C dX1_pitch_9 ?_
  refine gk_aload_n C dX1_pitch_10 rfl ?_
  refine gk_getf C f_X1_13.r dX1_pitch_11 (by (try simp only [hset_set]); first | assumption | exact hset_eq | (refine (hset_ne (by first | assumption | exact Ne.symm (by assumption))).trans ?_; first | assumption | exact hset_eq | (refine (hset_ne (by first | assumption | exact Ne.symm (by assumption))).trans ?_; first | assumption | exact hset_eq | (refine (hset_ne (by first | assumption | exact Ne.symm (by assumption))).trans ?_; first | assumption | exact hset_eq)))) (by rfl) ?_
  refine gk_imul C dX1_pitch_14 ?_
  refine gk_iadd C dX1_pitch_15 ?_
  refine gk_iconst C dX1_pitch_16 ?_
  refine gk_aload_n C dX1_pitch_17 rfl ?_
  refine gk_getf C f_X1_22.r dX1_pitch_18 (by (try simp only [hset_set]); first | assumption | exact hset_eq | (refine (hset_ne (by first | assumption | exact Ne.symm (by assumption))).trans ?_; first | assumption | exact hset_eq | (refine (hset_ne (by first | assumption | exact Ne.symm (by assumption))).trans ?_; first | assumption | exact hset_eq | (refine (hset_ne (by first | assumption | exact Ne.symm (by assumption))).trans ?_; first | assumption | exact hset_eq)))) (by rfl) ?_
  refine gk_imul C dX1_pitch_21 ?_
  refine gk_iadd C dX1_pitch_22 ?_
  refine gk_aload_n C dX1_pitch_23 rfl ?_
  refine gk_getf C f_X1_25.r dX1_pitch_24 (by (try simp only [hset_set]); first | assumption | exact hset_eq | (refine (hset_ne (by first | assumption | exact Ne.symm (by assumption))).trans ?_; first | assumption | exact hset_eq | (refine (hset_ne (by first | assumption | exact Ne.symm (by assumption))).trans ?_; first | assumption | exact hset_eq | (refine (hset_ne (by first | assumption | exact Ne.symm (by assumption))).trans ?_; first | assumption | exact hset_eq)))) (by rfl) ?_
  refine gk_isub C dX1_pitch_27 ?_
  refine (R _ _ _ _ _ (by decide) (by decide)).1 _ rfl dX1_pitch_28 ?_
  exact ⟨rfl, rfl⟩

set_option maxRecDepth 100000 in
set_option maxHeartbeats 4000000 in
theorem c_X1_rest {l : Launch} {Γ : GA} (hfl : l.stackTraces = false) {h : Hp} {a : Nat} {r p b s w t z : Int} (ha : h a = some (oPi r p b s w t z)) (hw : 0 ≤ w ∧ w ≤ 40) (ht : 0 ≤ t ∧ t ≤ 100) : Ct l Γ m_X1_restAMinute [.ref a] h (fun v h' => v = none ∧ h' = hset h a (oPi r p b s (max 0 (w - 1)) (max 0 (t - 2)) z)) (fun _ _ => False) := by
  refine Ct.intro hfl (by decide +kernel) rfl (Nat.le_of_ble_eq_true rfl) ?_
  intro G C R T
  show G 0 [some (.ref a)] [] h 0 0
  refine gk_aload_n C dX1_restAMinute_0 rfl ?_
  refine gk_iconst C dX1_restAMinute_1 ?_
  refine gk_aload_n C dX1_restAMinute_2 rfl ?_
  refine gk_getf C f_X1_25.r dX1_restAMinute_3 (by (try simp only [hset_set]); first | assumption | exact hset_eq | (refine (hset_ne (by first | assumption | exact Ne.symm (by assumption))).trans ?_; first | assumption | exact hset_eq | (refine (hset_ne (by first | assumption | exact Ne.symm (by assumption))).trans ?_; first | assumption | exact hset_eq | (refine (hset_ne (by first | assumption | exact Ne.symm (by assumption))).trans ?_; first | assumption | exact hset_eq)))) (by rfl) ?_
  refine gk_iconst C dX1_restAMinute_6 ?_
  refine gk_isub C dX1_restAMinute_7 ?_
  refine gk_mmax C (by omega) (by omega) k_X1_39.1 dX1_restAMinute_8 (by decide) (by exact Nat.le_of_ble_eq_true rfl) (by decide) ?_
  refine gk_putf C f_X1_25 dX1_restAMinute_11 (by (try simp only [hset_set]); first | assumption | exact hset_eq | (refine (hset_ne (by first | assumption | exact Ne.symm (by assumption))).trans ?_; first | assumption | exact hset_eq | (refine (hset_ne (by first | assumption | exact Ne.symm (by assumption))).trans ?_; first | assumption | exact hset_eq | (refine (hset_ne (by first | assumption | exact Ne.symm (by assumption))).trans ?_; first | assumption | exact hset_eq)))) rfl rfl (by exact Nat.le_of_ble_eq_true rfl) ?_
  refine gk_aload_n C dX1_restAMinute_14 rfl ?_
  refine gk_iconst C dX1_restAMinute_15 ?_
  refine gk_aload_n C dX1_restAMinute_16 rfl ?_
  refine gk_getf C f_X1_22.r dX1_restAMinute_17 (by (try simp only [hset_set]); first | assumption | exact hset_eq | (refine (hset_ne (by first | assumption | exact Ne.symm (by assumption))).trans ?_; first | assumption | exact hset_eq | (refine (hset_ne (by first | assumption | exact Ne.symm (by assumption))).trans ?_; first | assumption | exact hset_eq | (refine (hset_ne (by first | assumption | exact Ne.symm (by assumption))).trans ?_; first | assumption | exact hset_eq)))) (by rfl) ?_
  refine gk_iconst C dX1_restAMinute_20 ?_
  refine gk_isub C dX1_restAMinute_21 ?_
  refine gk_mmax C (by omega) (by omega) k_X1_39.1 dX1_restAMinute_22 (by decide) (by exact Nat.le_of_ble_eq_true rfl) (by decide) ?_
  refine gk_putf C f_X1_22 dX1_restAMinute_25 (by (try simp only [hset_set]); first | assumption | exact hset_eq | (refine (hset_ne (by first | assumption | exact Ne.symm (by assumption))).trans ?_; first | assumption | exact hset_eq | (refine (hset_ne (by first | assumption | exact Ne.symm (by assumption))).trans ?_; first | assumption | exact hset_eq | (refine (hset_ne (by first | assumption | exact Ne.symm (by assumption))).trans ?_; first | assumption | exact hset_eq)))) rfl rfl (by exact Nat.le_of_ble_eq_true rfl) ?_
  refine (R _ _ _ _ _ (by decide) (by decide)).2.2.1 rfl dX1_restAMinute_28 ?_
  exact ⟨rfl, hset_set⟩

set_option maxRecDepth 100000 in
set_option maxHeartbeats 4000000 in
theorem c_X1_play {l : Launch} {Γ : GA} (hfl : l.stackTraces = false) {h : Hp} {a : Nat} {r p b s w t z : Int} (ha : h a = some (oPi r p b s w t z)) {rain heat : Int} (hr : -100 ≤ r ∧ r ≤ 100) (hp : 10 ≤ p ∧ p ≤ 40) (hb : 0 ≤ b ∧ b ≤ 9) (hs : -100 ≤ s ∧ s ≤ 100) (hw : 0 ≤ w ∧ w ≤ 40) (ht : 0 ≤ t ∧ t ≤ 100) (hz : z = 0 ∨ z = 1) (hrain : 0 ≤ rain ∧ rain ≤ 9) (hheat : 0 ≤ heat ∧ heat ≤ 40) : Ct l Γ m_X1_playAMinute [.ref a, iv rain, iv heat] h (fun v h' => v = none ∧ h' = hset h a (oPi (pPlay b rain heat (r, w, t)).1 p b s (pPlay b rain heat (r, w, t)).2.1 (pPlay b rain heat (r, w, t)).2.2 z)) (fun _ _ => False) := by
  refine Ct.intro hfl (by decide +kernel) rfl (Nat.le_of_ble_eq_true rfl) ?_
  intro G C R T
  show G 0 [some (.ref a), some (iv rain), some (iv heat)] [] h 0 0
  refine gk_aload_n C dX1_playAMinute_0 rfl ?_
  refine gk_bipush C dX1_playAMinute_1 (by decide) ?_
  refine gk_aload_n C dX1_playAMinute_3 rfl ?_
  refine gk_getf C f_X1_25.r dX1_playAMinute_4 (by (try simp only [hset_set]); first | assumption | exact hset_eq | (refine (hset_ne (by first | assumption | exact Ne.symm (by assumption))).trans ?_; first | assumption | exact hset_eq | (refine (hset_ne (by first | assumption | exact Ne.symm (by assumption))).trans ?_; first | assumption | exact hset_eq | (refine (hset_ne (by first | assumption | exact Ne.symm (by assumption))).trans ?_; first | assumption | exact hset_eq)))) (by rfl) ?_
  refine gk_aload_n C dX1_playAMinute_7 rfl ?_
  refine gk_getf C f_X1_16.r dX1_playAMinute_8 (by (try simp only [hset_set]); first | assumption | exact hset_eq | (refine (hset_ne (by first | assumption | exact Ne.symm (by assumption))).trans ?_; first | assumption | exact hset_eq | (refine (hset_ne (by first | assumption | exact Ne.symm (by assumption))).trans ?_; first | assumption | exact hset_eq | (refine (hset_ne (by first | assumption | exact Ne.symm (by assumption))).trans ?_; first | assumption | exact hset_eq)))) (by rfl) ?_
  refine gk_iadd C dX1_playAMinute_11 ?_
  refine gk_iload_n C dX1_playAMinute_12 rfl ?_
  refine gk_iadd C dX1_playAMinute_13 ?_
  refine gk_mmin C (by omega) (by omega) k_X1_45.1 dX1_playAMinute_14 (by decide) (by exact Nat.le_of_ble_eq_true rfl) (by decide) ?_
  refine gk_putf C f_X1_25 dX1_playAMinute_17 (by (try simp only [hset_set]); first | assumption | exact hset_eq | (refine (hset_ne (by first | assumption | exact Ne.symm (by assumption))).trans ?_; first | assumption | exact hset_eq | (refine (hset_ne (by first | assumption | exact Ne.symm (by assumption))).trans ?_; first | assumption | exact hset_eq | (refine (hset_ne (by first | assumption | exact Ne.symm (by assumption))).trans ?_; first | assumption | exact hset_eq)))) rfl rfl (by exact Nat.le_of_ble_eq_true rfl) ?_
  refine gk_aload_n C dX1_playAMinute_20 rfl ?_
  refine gk_getf C f_X1_22.r dX1_playAMinute_21 (by (try simp only [hset_set]); first | assumption | exact hset_eq | (refine (hset_ne (by first | assumption | exact Ne.symm (by assumption))).trans ?_; first | assumption | exact hset_eq | (refine (hset_ne (by first | assumption | exact Ne.symm (by assumption))).trans ?_; first | assumption | exact hset_eq | (refine (hset_ne (by first | assumption | exact Ne.symm (by assumption))).trans ?_; first | assumption | exact hset_eq)))) (by rfl) ?_
  refine gk_iload_n C dX1_playAMinute_24 rfl ?_
  refine gk_icmp_ge C (tgt := 41) (by omega) (by omega) dX1_playAMinute_25 (by decide) (fun c_25 => ?_) (fun c_25 => ?_)
  · refine gk_aload_n C dX1_playAMinute_41 rfl ?_
    refine gk_getf C f_X1_22.r dX1_playAMinute_42 (by (try simp only [hset_set]); first | assumption | exact hset_eq | (refine (hset_ne (by first | assumption | exact Ne.symm (by assumption))).trans ?_; first | assumption | exact hset_eq | (refine (hset_ne (by first | assumption | exact Ne.symm (by assumption))).trans ?_; first | assumption | exact hset_eq | (refine (hset_ne (by first | assumption | exact Ne.symm (by assumption))).trans ?_; first | assumption | exact hset_eq)))) (by rfl) ?_
    refine gk_iload_n C dX1_playAMinute_45 rfl ?_
    refine gk_icmp_le C (tgt := 59) (by omega) (by omega) dX1_playAMinute_46 (by decide) (fun c_46 => ?_) (fun c_46 => ?_)
    · refine gk_aload_n C dX1_playAMinute_59 rfl ?_
      refine gk_getf C f_X1_25.r dX1_playAMinute_60 (by (try simp only [hset_set]); first | assumption | exact hset_eq | (refine (hset_ne (by first | assumption | exact Ne.symm (by assumption))).trans ?_; first | assumption | exact hset_eq | (refine (hset_ne (by first | assumption | exact Ne.symm (by assumption))).trans ?_; first | assumption | exact hset_eq | (refine (hset_ne (by first | assumption | exact Ne.symm (by assumption))).trans ?_; first | assumption | exact hset_eq)))) (by rfl) ?_
      refine gk_bipush C dX1_playAMinute_63 (by decide) ?_
      refine gk_icmp_ne C (tgt := 83) (by omega) (by omega) dX1_playAMinute_65 (by decide) (fun c_65 => ?_) (fun c_65 => ?_)
      · refine (R _ _ _ _ _ (by decide) (by decide)).2.2.1 rfl dX1_playAMinute_83 ?_
        refine ⟨rfl, ?_⟩
        try simp only [hset_set]
        refine congrArg (hset h a) ?_
        unfold pPlay
        simp only [List.set_cons_zero, List.set_cons_succ]
        congr 1
        simp only [List.cons.injEq, and_true, true_and]
        refine ⟨congrArg iv ?_, congrArg iv ?_⟩ <;> (repeat' split) <;> omega
      · refine gk_aload_n C dX1_playAMinute_68 rfl ?_
        refine gk_bipush C dX1_playAMinute_69 (by decide) ?_
        refine gk_aload_n C dX1_playAMinute_71 rfl ?_
        refine gk_getf C f_X1_7.r dX1_playAMinute_72 (by (try simp only [hset_set]); first | assumption | exact hset_eq | (refine (hset_ne (by first | assumption | exact Ne.symm (by assumption))).trans ?_; first | assumption | exact hset_eq | (refine (hset_ne (by first | assumption | exact Ne.symm (by assumption))).trans ?_; first | assumption | exact hset_eq | (refine (hset_ne (by first | assumption | exact Ne.symm (by assumption))).trans ?_; first | assumption | exact hset_eq)))) (by rfl) ?_
        refine gk_iconst C dX1_playAMinute_75 ?_
        refine gk_isub C dX1_playAMinute_76 ?_
        refine gk_mmax C (by omega) (by omega) k_X1_39.1 dX1_playAMinute_77 (by decide) (by exact Nat.le_of_ble_eq_true rfl) (by decide) ?_
        refine gk_putf C f_X1_7 dX1_playAMinute_80 (by (try simp only [hset_set]); first | assumption | exact hset_eq | (refine (hset_ne (by first | assumption | exact Ne.symm (by assumption))).trans ?_; first | assumption | exact hset_eq | (refine (hset_ne (by first | assumption | exact Ne.symm (by assumption))).trans ?_; first | assumption | exact hset_eq | (refine (hset_ne (by first | assumption | exact Ne.symm (by assumption))).trans ?_; first | assumption | exact hset_eq)))) rfl rfl (by exact Nat.le_of_ble_eq_true rfl) ?_
        refine (R _ _ _ _ _ (by decide) (by decide)).2.2.1 rfl dX1_playAMinute_83 ?_
        refine ⟨rfl, ?_⟩
        try simp only [hset_set]
        refine congrArg (hset h a) ?_
        unfold pPlay
        simp only [List.set_cons_zero, List.set_cons_succ]
        congr 1
        simp only [List.cons.injEq, and_true, true_and]
        refine ⟨congrArg iv ?_, congrArg iv ?_⟩ <;> (repeat' split) <;> omega
    · refine gk_aload_n C dX1_playAMinute_49 rfl ?_
      refine gk_dup C rfl dX1_playAMinute_50 ?_
      refine gk_getf C f_X1_22.r dX1_playAMinute_51 (by (try simp only [hset_set]); first | assumption | exact hset_eq | (refine (hset_ne (by first | assumption | exact Ne.symm (by assumption))).trans ?_; first | assumption | exact hset_eq | (refine (hset_ne (by first | assumption | exact Ne.symm (by assumption))).trans ?_; first | assumption | exact hset_eq | (refine (hset_ne (by first | assumption | exact Ne.symm (by assumption))).trans ?_; first | assumption | exact hset_eq)))) (by rfl) ?_
      refine gk_iconst C dX1_playAMinute_54 ?_
      refine gk_isub C dX1_playAMinute_55 ?_
      refine gk_putf C f_X1_22 dX1_playAMinute_56 (by (try simp only [hset_set]); first | assumption | exact hset_eq | (refine (hset_ne (by first | assumption | exact Ne.symm (by assumption))).trans ?_; first | assumption | exact hset_eq | (refine (hset_ne (by first | assumption | exact Ne.symm (by assumption))).trans ?_; first | assumption | exact hset_eq | (refine (hset_ne (by first | assumption | exact Ne.symm (by assumption))).trans ?_; first | assumption | exact hset_eq)))) rfl rfl (by exact Nat.le_of_ble_eq_true rfl) ?_
      refine gk_aload_n C dX1_playAMinute_59 rfl ?_
      refine gk_getf C f_X1_25.r dX1_playAMinute_60 (by (try simp only [hset_set]); first | assumption | exact hset_eq | (refine (hset_ne (by first | assumption | exact Ne.symm (by assumption))).trans ?_; first | assumption | exact hset_eq | (refine (hset_ne (by first | assumption | exact Ne.symm (by assumption))).trans ?_; first | assumption | exact hset_eq | (refine (hset_ne (by first | assumption | exact Ne.symm (by assumption))).trans ?_; first | assumption | exact hset_eq)))) (by rfl) ?_
      refine gk_bipush C dX1_playAMinute_63 (by decide) ?_
      refine gk_icmp_ne C (tgt := 83) (by omega) (by omega) dX1_playAMinute_65 (by decide) (fun c_65 => ?_) (fun c_65 => ?_)
      · refine (R _ _ _ _ _ (by decide) (by decide)).2.2.1 rfl dX1_playAMinute_83 ?_
        refine ⟨rfl, ?_⟩
        try simp only [hset_set]
        refine congrArg (hset h a) ?_
        unfold pPlay
        simp only [List.set_cons_zero, List.set_cons_succ]
        congr 1
        simp only [List.cons.injEq, and_true, true_and]
        refine ⟨congrArg iv ?_, congrArg iv ?_⟩ <;> (repeat' split) <;> omega
      · refine gk_aload_n C dX1_playAMinute_68 rfl ?_
        refine gk_bipush C dX1_playAMinute_69 (by decide) ?_
        refine gk_aload_n C dX1_playAMinute_71 rfl ?_
        refine gk_getf C f_X1_7.r dX1_playAMinute_72 (by (try simp only [hset_set]); first | assumption | exact hset_eq | (refine (hset_ne (by first | assumption | exact Ne.symm (by assumption))).trans ?_; first | assumption | exact hset_eq | (refine (hset_ne (by first | assumption | exact Ne.symm (by assumption))).trans ?_; first | assumption | exact hset_eq | (refine (hset_ne (by first | assumption | exact Ne.symm (by assumption))).trans ?_; first | assumption | exact hset_eq)))) (by rfl) ?_
        refine gk_iconst C dX1_playAMinute_75 ?_
        refine gk_isub C dX1_playAMinute_76 ?_
        refine gk_mmax C (by omega) (by omega) k_X1_39.1 dX1_playAMinute_77 (by decide) (by exact Nat.le_of_ble_eq_true rfl) (by decide) ?_
        refine gk_putf C f_X1_7 dX1_playAMinute_80 (by (try simp only [hset_set]); first | assumption | exact hset_eq | (refine (hset_ne (by first | assumption | exact Ne.symm (by assumption))).trans ?_; first | assumption | exact hset_eq | (refine (hset_ne (by first | assumption | exact Ne.symm (by assumption))).trans ?_; first | assumption | exact hset_eq | (refine (hset_ne (by first | assumption | exact Ne.symm (by assumption))).trans ?_; first | assumption | exact hset_eq)))) rfl rfl (by exact Nat.le_of_ble_eq_true rfl) ?_
        refine (R _ _ _ _ _ (by decide) (by decide)).2.2.1 rfl dX1_playAMinute_83 ?_
        refine ⟨rfl, ?_⟩
        try simp only [hset_set]
        refine congrArg (hset h a) ?_
        unfold pPlay
        simp only [List.set_cons_zero, List.set_cons_succ]
        congr 1
        simp only [List.cons.injEq, and_true, true_and]
        refine ⟨congrArg iv ?_, congrArg iv ?_⟩ <;> (repeat' split) <;> omega
  · refine gk_aload_n C dX1_playAMinute_28 rfl ?_
    refine gk_dup C rfl dX1_playAMinute_29 ?_
    refine gk_getf C f_X1_22.r dX1_playAMinute_30 (by (try simp only [hset_set]); first | assumption | exact hset_eq | (refine (hset_ne (by first | assumption | exact Ne.symm (by assumption))).trans ?_; first | assumption | exact hset_eq | (refine (hset_ne (by first | assumption | exact Ne.symm (by assumption))).trans ?_; first | assumption | exact hset_eq | (refine (hset_ne (by first | assumption | exact Ne.symm (by assumption))).trans ?_; first | assumption | exact hset_eq)))) (by rfl) ?_
    refine gk_iconst C dX1_playAMinute_33 ?_
    refine gk_iadd C dX1_playAMinute_34 ?_
    refine gk_putf C f_X1_22 dX1_playAMinute_35 (by (try simp only [hset_set]); first | assumption | exact hset_eq | (refine (hset_ne (by first | assumption | exact Ne.symm (by assumption))).trans ?_; first | assumption | exact hset_eq | (refine (hset_ne (by first | assumption | exact Ne.symm (by assumption))).trans ?_; first | assumption | exact hset_eq | (refine (hset_ne (by first | assumption | exact Ne.symm (by assumption))).trans ?_; first | assumption | exact hset_eq)))) rfl rfl (by exact Nat.le_of_ble_eq_true rfl) ?_
    refine gk_goto C (tgt := 59) dX1_playAMinute_38 (by decide) ?_
    refine gk_aload_n C dX1_playAMinute_59 rfl ?_
    refine gk_getf C f_X1_25.r dX1_playAMinute_60 (by (try simp only [hset_set]); first | assumption | exact hset_eq | (refine (hset_ne (by first | assumption | exact Ne.symm (by assumption))).trans ?_; first | assumption | exact hset_eq | (refine (hset_ne (by first | assumption | exact Ne.symm (by assumption))).trans ?_; first | assumption | exact hset_eq | (refine (hset_ne (by first | assumption | exact Ne.symm (by assumption))).trans ?_; first | assumption | exact hset_eq)))) (by rfl) ?_
    refine gk_bipush C dX1_playAMinute_63 (by decide) ?_
    refine gk_icmp_ne C (tgt := 83) (by omega) (by omega) dX1_playAMinute_65 (by decide) (fun c_65 => ?_) (fun c_65 => ?_)
    · refine (R _ _ _ _ _ (by decide) (by decide)).2.2.1 rfl dX1_playAMinute_83 ?_
      refine ⟨rfl, ?_⟩
      try simp only [hset_set]
      refine congrArg (hset h a) ?_
      unfold pPlay
      simp only [List.set_cons_zero, List.set_cons_succ]
      congr 1
      simp only [List.cons.injEq, and_true, true_and]
      refine ⟨congrArg iv ?_, congrArg iv ?_⟩ <;> (repeat' split) <;> omega
    · refine gk_aload_n C dX1_playAMinute_68 rfl ?_
      refine gk_bipush C dX1_playAMinute_69 (by decide) ?_
      refine gk_aload_n C dX1_playAMinute_71 rfl ?_
      refine gk_getf C f_X1_7.r dX1_playAMinute_72 (by (try simp only [hset_set]); first | assumption | exact hset_eq | (refine (hset_ne (by first | assumption | exact Ne.symm (by assumption))).trans ?_; first | assumption | exact hset_eq | (refine (hset_ne (by first | assumption | exact Ne.symm (by assumption))).trans ?_; first | assumption | exact hset_eq | (refine (hset_ne (by first | assumption | exact Ne.symm (by assumption))).trans ?_; first | assumption | exact hset_eq)))) (by rfl) ?_
      refine gk_iconst C dX1_playAMinute_75 ?_
      refine gk_isub C dX1_playAMinute_76 ?_
      refine gk_mmax C (by omega) (by omega) k_X1_39.1 dX1_playAMinute_77 (by decide) (by exact Nat.le_of_ble_eq_true rfl) (by decide) ?_
      refine gk_putf C f_X1_7 dX1_playAMinute_80 (by (try simp only [hset_set]); first | assumption | exact hset_eq | (refine (hset_ne (by first | assumption | exact Ne.symm (by assumption))).trans ?_; first | assumption | exact hset_eq | (refine (hset_ne (by first | assumption | exact Ne.symm (by assumption))).trans ?_; first | assumption | exact hset_eq | (refine (hset_ne (by first | assumption | exact Ne.symm (by assumption))).trans ?_; first | assumption | exact hset_eq)))) rfl rfl (by exact Nat.le_of_ble_eq_true rfl) ?_
      refine (R _ _ _ _ _ (by decide) (by decide)).2.2.1 rfl dX1_playAMinute_83 ?_
      refine ⟨rfl, ?_⟩
      try simp only [hset_set]
      refine congrArg (hset h a) ?_
      unfold pPlay
      simp only [List.set_cons_zero, List.set_cons_succ]
      congr 1
      simp only [List.cons.injEq, and_true, true_and]
      refine ⟨congrArg iv ?_, congrArg iv ?_⟩ <;> (repeat' split) <;> omega

set_option maxRecDepth 100000 in
set_option maxHeartbeats 4000000 in
theorem c_X1_go {l : Launch} {Γ : GA} (hfl : l.stackTraces = false) {h : Hp} {a : Nat} {r0 p b s w0 t0 z : Int} (ha : h a = some (oPi r0 p b s w0 t0 z)) {minutes rain heat : Int} (hq0 : pOk (r0, w0, t0)) (hp : 10 ≤ p ∧ p ≤ 40) (hb : 0 ≤ b ∧ b ≤ 9) (hs : -100 ≤ s ∧ s ≤ 100) (hz : z = 0 ∨ z = 1) (hmin : 0 ≤ minutes ∧ minutes ≤ 120) (hrain : 0 ≤ rain ∧ rain ≤ 9) (hheat : 0 ≤ heat ∧ heat ≤ 40) : Ct l Γ m_X1_goThrough [.ref a, iv minutes, iv rain, iv heat] h (fun v h' => v = none ∧ ∃ r w t : Int, (r, w, t) = pIt (pStep b z rain heat) minutes.toNat (r0, w0, t0) ∧ h' = hset h a (oPi r p b s w t z)) (fun _ _ => False) := by
  refine Ct.intro hfl (by decide +kernel) rfl (Nat.le_of_ble_eq_true rfl) ?_
  intro G C R T
  show G 0 [some (.ref a), some (iv minutes), some (iv rain), some (iv heat), none] [] h 0 0
  refine gk_iconst C dX1_goThrough_0 ?_
  refine gk_istore_4 C rfl (by decide) dX1_goThrough_1 ?_
  have key : ∀ (n : Nat) (i r w t : Int), minutes - i < n → (0 ≤ i ∧ i ≤ minutes) → pOk (r, w, t) → pIt (pStep b z rain heat) (minutes - i).toNat (r, w, t) = pIt (pStep b z rain heat) minutes.toNat (r0, w0, t0) → G 3 [some (.ref a), some (iv minutes), some (iv rain), some (iv heat), some (iv i)] [] (hset h a (oPi r p b s w t z)) 0 0 := by
    intro n
    induction n with
    | zero => intro i r w t h1 h2; omega
    | succ n ih =>
      intro i r w t hn hi hq he
      have hq2 := hq
      unfold pOk at hq2
      simp only at hq2
      have ha2 : hset h a (oPi r p b s w t z) a = some (oPi r p b s w t z) := hset_eq
      refine gk_iload C dX1_goThrough_3 rfl ?_
      refine gk_iload_n C dX1_goThrough_5 rfl ?_
      refine gk_icmp_ge C (tgt := 35) (by omega) (by omega) dX1_goThrough_6 (by decide) (fun c_6 => ?_) (fun c_6 => ?_)
      · refine (R _ _ _ _ _ (by decide) (by decide)).2.2.1 rfl dX1_goThrough_35 ?_
        refine ⟨rfl, r, w, t, ?_, rfl⟩
        rw [← he, show (minutes - i).toNat = 0 by omega]
        rfl
      · refine gk_aload_n C dX1_goThrough_9 rfl ?_
        refine gk_getf C f_X1_28.r dX1_goThrough_10 (by (try simp only [hset_set]); first | assumption | exact hset_eq | (refine (hset_ne (by first | assumption | exact Ne.symm (by assumption))).trans ?_; first | assumption | exact hset_eq | (refine (hset_ne (by first | assumption | exact Ne.symm (by assumption))).trans ?_; first | assumption | exact hset_eq | (refine (hset_ne (by first | assumption | exact Ne.symm (by assumption))).trans ?_; first | assumption | exact hset_eq)))) (by rfl) ?_
        refine gk_if_eq C (tgt := 23) (by omega) dX1_goThrough_13 (by decide) (fun c_13 => ?_) (fun c_13 => ?_)
        · refine gk_aload_n C dX1_goThrough_23 rfl ?_
          refine gk_iload_n C dX1_goThrough_24 rfl ?_
          refine gk_iload_n C dX1_goThrough_25 rfl ?_
          refine gk_callV C o_X1_playAMinute k_X1_35 dX1_goThrough_26 (c_X1_play hfl ha2 (by omega) (by omega) (by omega) (by omega) (by omega) (by omega) hz hrain hheat) (by (try simp only [hset_set]); first | assumption | exact hset_eq | (refine (hset_ne (by first | assumption | exact Ne.symm (by assumption))).trans ?_; first | assumption | exact hset_eq | (refine (hset_ne (by first | assumption | exact Ne.symm (by assumption))).trans ?_; first | assumption | exact hset_eq | (refine (hset_ne (by first | assumption | exact Ne.symm (by assumption))).trans ?_; first | assumption | exact hset_eq)))) rfl rfl rfl (by decide) (by decide) (by exact Nat.le_of_ble_eq_true rfl) (fun _ _ z => z.elim) (fun v_26 h_26 p_26 => ?_)
          obtain ⟨rfl, rfl⟩ := p_26
          rw [hset_set]
          dsimp only [gk_push]
          have e2 : pStep b z rain heat (r, w, t) = ((pPlay b rain heat (r, w, t)).1, (pPlay b rain heat (r, w, t)).2.1, (pPlay b rain heat (r, w, t)).2.2) := by unfold pStep; rw [if_pos c_13]
          have e1 : (minutes - i).toNat = (minutes - (i + 1)).toNat + 1 := by omega
          rw [e1] at he
          refine gk_iinc_4 C rfl (by decide) dX1_goThrough_29 ?_
          refine gk_goto C (tgt := 3) dX1_goThrough_32 (by decide) ?_
          exact ih (i + 1) _ _ _ (by omega) (by omega) (by rw [← e2]; exact pStep_ok hq hb hrain hheat) (by rw [← e2]; exact he)
        · refine gk_aload_n C dX1_goThrough_16 rfl ?_
          refine gk_callV C o_X1_restAMinute k_X1_32 dX1_goThrough_17 (c_X1_rest hfl ha2 (by omega) (by omega)) (by (try simp only [hset_set]); first | assumption | exact hset_eq | (refine (hset_ne (by first | assumption | exact Ne.symm (by assumption))).trans ?_; first | assumption | exact hset_eq | (refine (hset_ne (by first | assumption | exact Ne.symm (by assumption))).trans ?_; first | assumption | exact hset_eq | (refine (hset_ne (by first | assumption | exact Ne.symm (by assumption))).trans ?_; first | assumption | exact hset_eq)))) rfl rfl rfl (by decide) (by decide) (by exact Nat.le_of_ble_eq_true rfl) (fun _ _ z => z.elim) (fun v_17 h_17 p_17 => ?_)
          obtain ⟨rfl, rfl⟩ := p_17
          rw [hset_set]
          dsimp only [gk_push]
          have e2 : pStep b z rain heat (r, w, t) = (r, max 0 (w - 1), max 0 (t - 2)) := by unfold pStep; rw [if_neg c_13]; rfl
          refine gk_goto C (tgt := 29) dX1_goThrough_20 (by decide) ?_
          have e1 : (minutes - i).toNat = (minutes - (i + 1)).toNat + 1 := by omega
          rw [e1] at he
          refine gk_iinc_4 C rfl (by decide) dX1_goThrough_29 ?_
          refine gk_goto C (tgt := 3) dX1_goThrough_32 (by decide) ?_
          exact ih (i + 1) _ _ _ (by omega) (by omega) (by rw [← e2]; exact pStep_ok hq hb hrain hheat) (by rw [← e2]; exact he)
  have h1 := key (minutes.toNat + 1) 0 r0 w0 t0 (by omega) (by omega) hq0 (by rw [show minutes - 0 = minutes by omega])
  rw [hset_self ha] at h1
  exact h1

set_option maxRecDepth 100000 in
set_option maxHeartbeats 4000000 in
theorem c_X1_tell {l : Launch} {Γ : GA} (hfl : l.stackTraces = false) {h : Hp} {a : Nat} {r p b s w t z : Int} (ha : h a = some (oPi r p b s w t z)) {what : Int} (hwh : 0 ≤ what ∧ what ≤ 4) : Ct l Γ m_X1_tell [.ref a, iv what] h (fun v h' => v = some (iv (if what = 0 then r + s + 2 * p + 3 * w - t else if what = 1 then r else if what = 2 then s else if what = 3 then w else t)) ∧ h' = h) (fun _ _ => False) := by
  refine Ct.intro hfl (by decide +kernel) rfl (Nat.le_of_ble_eq_true rfl) ?_
  intro G C R T
  show G 0 [some (.ref a), some (iv what)] [] h 0 0
  refine gk_iload_n C dX1_tell_0 rfl ?_
  rcases (show (what < 0 ∨ 3 < what) ∨ what = 0 ∨ what = 1 ∨ what = 2 ∨ what = 3 from by omega) with c_1 | c_1 | c_1 | c_1 | c_1
  · refine gk_tableOut C (tgt := 52) (by omega) dX1_tell_1 c_1 (by decide) ?_
    refine gk_aload_n C dX1_tell_52 rfl ?_
    refine gk_getf C f_X1_25.r dX1_tell_53 (by (try simp only [hset_set]); first | assumption | exact hset_eq | (refine (hset_ne (by first | assumption | exact Ne.symm (by assumption))).trans ?_; first | assumption | exact hset_eq | (refine (hset_ne (by first | assumption | exact Ne.symm (by assumption))).trans ?_; first | assumption | exact hset_eq | (refine (hset_ne (by first | assumption | exact Ne.symm (by assumption))).trans ?_; first | assumption | exact hset_eq)))) (by rfl) ?_
    refine (R _ _ _ _ _ (by decide) (by decide)).1 _ rfl dX1_tell_56 ?_
    refine ⟨congrArg (fun q => some (iv q)) ?_, rfl⟩
    (repeat' split) <;> omega
  · refine gk_tableIn C (tgt := 32) (by omega) dX1_tell_1 (by omega) (by omega) (by rw [c_1]; rfl) (by decide) ?_
    refine gk_aload_n C dX1_tell_32 rfl ?_
    refine gk_callV C o_X1_pitch k_X1_48 dX1_tell_33 (c_X1_pitch hfl ha) (by (try simp only [hset_set]); first | assumption | exact hset_eq | (refine (hset_ne (by first | assumption | exact Ne.symm (by assumption))).trans ?_; first | assumption | exact hset_eq | (refine (hset_ne (by first | assumption | exact Ne.symm (by assumption))).trans ?_; first | assumption | exact hset_eq | (refine (hset_ne (by first | assumption | exact Ne.symm (by assumption))).trans ?_; first | assumption | exact hset_eq)))) rfl rfl rfl (by decide) (by decide) (by exact Nat.le_of_ble_eq_true rfl) (fun _ _ z => z.elim) (fun v_33 h_33 p_33 => ?_)
    obtain ⟨rfl, rfl⟩ := p_33
    dsimp only [gk_push]
    refine (R _ _ _ _ _ (by decide) (by decide)).1 _ rfl dX1_tell_36 ?_
    refine ⟨congrArg (fun q => some (iv q)) ?_, rfl⟩
    (repeat' split) <;> omega
  · refine gk_tableIn C (tgt := 37) (by omega) dX1_tell_1 (by omega) (by omega) (by rw [c_1]; rfl) (by decide) ?_
    refine gk_aload_n C dX1_tell_37 rfl ?_
    refine gk_getf C f_X1_7.r dX1_tell_38 (by (try simp only [hset_set]); first | assumption | exact hset_eq | (refine (hset_ne (by first | assumption | exact Ne.symm (by assumption))).trans ?_; first | assumption | exact hset_eq | (refine (hset_ne (by first | assumption | exact Ne.symm (by assumption))).trans ?_; first | assumption | exact hset_eq | (refine (hset_ne (by first | assumption | exact Ne.symm (by assumption))).trans ?_; first | assumption | exact hset_eq)))) (by rfl) ?_
    refine (R _ _ _ _ _ (by decide) (by decide)).1 _ rfl dX1_tell_41 ?_
    refine ⟨congrArg (fun q => some (iv q)) ?_, rfl⟩
    (repeat' split) <;> omega
  · refine gk_tableIn C (tgt := 42) (by omega) dX1_tell_1 (by omega) (by omega) (by rw [c_1]; rfl) (by decide) ?_
    refine gk_aload_n C dX1_tell_42 rfl ?_
    refine gk_getf C f_X1_19.r dX1_tell_43 (by (try simp only [hset_set]); first | assumption | exact hset_eq | (refine (hset_ne (by first | assumption | exact Ne.symm (by assumption))).trans ?_; first | assumption | exact hset_eq | (refine (hset_ne (by first | assumption | exact Ne.symm (by assumption))).trans ?_; first | assumption | exact hset_eq | (refine (hset_ne (by first | assumption | exact Ne.symm (by assumption))).trans ?_; first | assumption | exact hset_eq)))) (by rfl) ?_
    refine (R _ _ _ _ _ (by decide) (by decide)).1 _ rfl dX1_tell_46 ?_
    refine ⟨congrArg (fun q => some (iv q)) ?_, rfl⟩
    (repeat' split) <;> omega
  · refine gk_tableIn C (tgt := 47) (by omega) dX1_tell_1 (by omega) (by omega) (by rw [c_1]; rfl) (by decide) ?_
    refine gk_aload_n C dX1_tell_47 rfl ?_
    refine gk_getf C f_X1_22.r dX1_tell_48 (by (try simp only [hset_set]); first | assumption | exact hset_eq | (refine (hset_ne (by first | assumption | exact Ne.symm (by assumption))).trans ?_; first | assumption | exact hset_eq | (refine (hset_ne (by first | assumption | exact Ne.symm (by assumption))).trans ?_; first | assumption | exact hset_eq | (refine (hset_ne (by first | assumption | exact Ne.symm (by assumption))).trans ?_; first | assumption | exact hset_eq)))) (by rfl) ?_
    refine (R _ _ _ _ _ (by decide) (by decide)).1 _ rfl dX1_tell_51 ?_
    refine ⟨congrArg (fun q => some (iv q)) ?_, rfl⟩
    (repeat' split) <;> omega

set_option maxRecDepth 100000 in
set_option maxHeartbeats 4000000 in
theorem c_X1_init {l : Launch} {Γ : GA} (hfl : l.stackTraces = false) {h : Hp} {a : Nat} {x0 x1 x2 x3 x4 x5 : Int} {r p b : Int} (ha : h a = some (oPi x0 x1 x2 x3 x4 x5 0)) : Ct l Γ m_X1_init [.ref a, iv r, iv p, iv b] h (fun v h' => v = none ∧ h' = hset h a (oPi r p b x3 x4 x5 0)) (fun _ _ => False) := by
  refine Ct.intro hfl (by decide +kernel) rfl (Nat.le_of_ble_eq_true rfl) ?_
  intro G C R T
  show G 0 [some (.ref a), some (iv r), some (iv p), some (iv b)] [] h 0 0
  refine gk_aload_n C dX1_init_0 rfl ?_
  refine gk_objInit C oi_X1 oi_im oi_cd dX1_init_1 (by decide) (by exact Nat.le_of_ble_eq_true rfl) ?_
  refine gk_aload_n C dX1_init_4 rfl ?_
  refine gk_iload_n C dX1_init_5 rfl ?_
  refine gk_putf C f_X1_7 dX1_init_6 (by (try simp only [hset_set]); first | assumption | exact hset_eq | (refine (hset_ne (by first | assumption | exact Ne.symm (by assumption))).trans ?_; first | assumption | exact hset_eq | (refine (hset_ne (by first | assumption | exact Ne.symm (by assumption))).trans ?_; first | assumption | exact hset_eq | (refine (hset_ne (by first | assumption | exact Ne.symm (by assumption))).trans ?_; first | assumption | exact hset_eq)))) rfl rfl (by exact Nat.le_of_ble_eq_true rfl) ?_
  refine gk_aload_n C dX1_init_9 rfl ?_
  refine gk_iload_n C dX1_init_10 rfl ?_
  refine gk_putf C f_X1_13 dX1_init_11 (by (try simp only [hset_set]); first | assumption | exact hset_eq | (refine (hset_ne (by first | assumption | exact Ne.symm (by assumption))).trans ?_; first | assumption | exact hset_eq | (refine (hset_ne (by first | assumption | exact Ne.symm (by assumption))).trans ?_; first | assumption | exact hset_eq | (refine (hset_ne (by first | assumption | exact Ne.symm (by assumption))).trans ?_; first | assumption | exact hset_eq)))) rfl rfl (by exact Nat.le_of_ble_eq_true rfl) ?_
  refine gk_aload_n C dX1_init_14 rfl ?_
  refine gk_iload_n C dX1_init_15 rfl ?_
  refine gk_putf C f_X1_16 dX1_init_16 (by (try simp only [hset_set]); first | assumption | exact hset_eq | (refine (hset_ne (by first | assumption | exact Ne.symm (by assumption))).trans ?_; first | assumption | exact hset_eq | (refine (hset_ne (by first | assumption | exact Ne.symm (by assumption))).trans ?_; first | assumption | exact hset_eq | (refine (hset_ne (by first | assumption | exact Ne.symm (by assumption))).trans ?_; first | assumption | exact hset_eq)))) rfl rfl (by exact Nat.le_of_ble_eq_true rfl) ?_
  refine (R _ _ _ _ _ (by decide) (by decide)).2.2.1 rfl dX1_init_19 ?_
  refine ⟨rfl, ?_⟩
  simp only [hset_set]
  rfl

set_option maxRecDepth 100000 in
set_option maxHeartbeats 4000000 in
theorem c_X1_like {l : Launch} {Γ : GA} (hfl : l.stackTraces = false) {h : Hp} {a c : Nat} {x0 x1 x2 x3 x4 x5 x6 : Int} {r p b s w t z : Int} (hz : z = 0 ∨ z = 1) (hac : a ≠ c) (ha : h a = some (oPi x0 x1 x2 x3 x4 x5 x6)) (hc : h c = some (oPi r p b s w t z)) : Ct l Γ m_X1_becomeLike [.ref a, .ref c] h (fun v h' => v = none ∧ h' = hset h a (oPi r p b s w t z)) (fun _ _ => False) := by
  refine Ct.intro hfl (by decide +kernel) rfl (Nat.le_of_ble_eq_true rfl) ?_
  intro G C R T
  show G 0 [some (.ref a), some (.ref c)] [] h 0 0
  refine gk_aload_n C dX1_becomeLike_0 rfl ?_
  refine gk_aload_n C dX1_becomeLike_1 rfl ?_
  refine gk_getf C f_X1_7.r dX1_becomeLike_2 (by (try simp only [hset_set]); first | assumption | exact hset_eq | (refine (hset_ne (by first | assumption | exact Ne.symm (by assumption))).trans ?_; first | assumption | exact hset_eq | (refine (hset_ne (by first | assumption | exact Ne.symm (by assumption))).trans ?_; first | assumption | exact hset_eq | (refine (hset_ne (by first | assumption | exact Ne.symm (by assumption))).trans ?_; first | assumption | exact hset_eq)))) (by rfl) ?_
  refine gk_putf C f_X1_7 dX1_becomeLike_5 (by (try simp only [hset_set]); first | assumption | exact hset_eq | (refine (hset_ne (by first | assumption | exact Ne.symm (by assumption))).trans ?_; first | assumption | exact hset_eq | (refine (hset_ne (by first | assumption | exact Ne.symm (by assumption))).trans ?_; first | assumption | exact hset_eq | (refine (hset_ne (by first | assumption | exact Ne.symm (by assumption))).trans ?_; first | assumption | exact hset_eq)))) rfl rfl (by exact Nat.le_of_ble_eq_true rfl) ?_
  refine gk_aload_n C dX1_becomeLike_8 rfl ?_
  refine gk_aload_n C dX1_becomeLike_9 rfl ?_
  refine gk_getf C f_X1_13.r dX1_becomeLike_10 (by (try simp only [hset_set]); first | assumption | exact hset_eq | (refine (hset_ne (by first | assumption | exact Ne.symm (by assumption))).trans ?_; first | assumption | exact hset_eq | (refine (hset_ne (by first | assumption | exact Ne.symm (by assumption))).trans ?_; first | assumption | exact hset_eq | (refine (hset_ne (by first | assumption | exact Ne.symm (by assumption))).trans ?_; first | assumption | exact hset_eq)))) (by rfl) ?_
  refine gk_putf C f_X1_13 dX1_becomeLike_13 (by (try simp only [hset_set]); first | assumption | exact hset_eq | (refine (hset_ne (by first | assumption | exact Ne.symm (by assumption))).trans ?_; first | assumption | exact hset_eq | (refine (hset_ne (by first | assumption | exact Ne.symm (by assumption))).trans ?_; first | assumption | exact hset_eq | (refine (hset_ne (by first | assumption | exact Ne.symm (by assumption))).trans ?_; first | assumption | exact hset_eq)))) rfl rfl (by exact Nat.le_of_ble_eq_true rfl) ?_
  refine gk_aload_n C dX1_becomeLike_16 rfl ?_
  refine gk_aload_n C dX1_becomeLike_17 rfl ?_
  refine gk_getf C f_X1_16.r dX1_becomeLike_18 (by (try simp only [hset_set]); first | assumption | exact hset_eq | (refine (hset_ne (by first | assumption | exact Ne.symm (by assumption))).trans ?_; first | assumption | exact hset_eq | (refine (hset_ne (by first | assumption | exact Ne.symm (by assumption))).trans ?_; first | assumption | exact hset_eq | (refine (hset_ne (by first | assumption | exact Ne.symm (by assumption))).trans ?_; first | assumption | exact hset_eq)))) (by rfl) ?_
  refine gk_putf C f_X1_16 dX1_becomeLike_21 (by (try simp only [hset_set]); first | assumption | exact hset_eq | (refine (hset_ne (by first | assumption | exact Ne.symm (by assumption))).trans ?_; first | assumption | exact hset_eq | (refine (hset_ne (by first | assumption | exact Ne.symm (by assumption))).trans ?_; first | assumption | exact hset_eq | (refine (hset_ne (by first | assumption | exact Ne.symm (by assumption))).trans ?_; first | assumption | exact hset_eq)))) rfl rfl (by exact Nat.le_of_ble_eq_true rfl) ?_
  refine gk_aload_n C dX1_becomeLike_24 rfl ?_
  refine gk_aload_n C dX1_becomeLike_25 rfl ?_
  refine gk_getf C f_X1_19.r dX1_becomeLike_26 (by (try simp only [hset_set]); first | assumption | exact hset_eq | (refine (hset_ne (by first | assumption | exact Ne.symm (by assumption))).trans ?_; first | assumption | exact hset_eq | (refine (hset_ne (by first | assumption | exact Ne.symm (by assumption))).trans ?_; first | assumption | exact hset_eq | (refine (hset_ne (by first | assumption | exact Ne.symm (by assumption))).trans ?_; first | assumption | exact hset_eq)))) (by rfl) ?_
  refine gk_putf C f_X1_19 dX1_becomeLike_29 (by (try simp only [hset_set]); first | assumption | exact hset_eq | (refine (hset_ne (by first | assumption | exact Ne.symm (by assumption))).trans ?_; first | assumption | exact hset_eq | (refine (hset_ne (by first | assumption | exact Ne.symm (by assumption))).trans ?_; first | assumption | exact hset_eq | (refine (hset_ne (by first | assumption | exact Ne.symm (by assumption))).trans ?_; first | assumption | exact hset_eq)))) rfl rfl (by exact Nat.le_of_ble_eq_true rfl) ?_
  refine gk_aload_n C dX1_becomeLike_32 rfl ?_
  refine gk_aload_n C dX1_becomeLike_33 rfl ?_
  refine gk_getf C f_X1_22.r dX1_becomeLike_34 (by (try simp only [hset_set]); first | assumption | exact hset_eq | (refine (hset_ne (by first | assumption | exact Ne.symm (by assumption))).trans ?_; first | assumption | exact hset_eq | (refine (hset_ne (by first | assumption | exact Ne.symm (by assumption))).trans ?_; first | assumption | exact hset_eq | (refine (hset_ne (by first | assumption | exact Ne.symm (by assumption))).trans ?_; first | assumption | exact hset_eq)))) (by rfl) ?_
  refine gk_putf C f_X1_22 dX1_becomeLike_37 (by (try simp only [hset_set]); first | assumption | exact hset_eq | (refine (hset_ne (by first | assumption | exact Ne.symm (by assumption))).trans ?_; first | assumption | exact hset_eq | (refine (hset_ne (by first | assumption | exact Ne.symm (by assumption))).trans ?_; first | assumption | exact hset_eq | (refine (hset_ne (by first | assumption | exact Ne.symm (by assumption))).trans ?_; first | assumption | exact hset_eq)))) rfl rfl (by exact Nat.le_of_ble_eq_true rfl) ?_
  refine gk_aload_n C dX1_becomeLike_40 rfl ?_
  refine gk_aload_n C dX1_becomeLike_41 rfl ?_
  refine gk_getf C f_X1_25.r dX1_becomeLike_42 (by (try simp only [hset_set]); first | assumption | exact hset_eq | (refine (hset_ne (by first | assumption | exact Ne.symm (by assumption))).trans ?_; first | assumption | exact hset_eq | (refine (hset_ne (by first | assumption | exact Ne.symm (by assumption))).trans ?_; first | assumption | exact hset_eq | (refine (hset_ne (by first | assumption | exact Ne.symm (by assumption))).trans ?_; first | assumption | exact hset_eq)))) (by rfl) ?_
  refine gk_putf C f_X1_25 dX1_becomeLike_45 (by (try simp only [hset_set]); first | assumption | exact hset_eq | (refine (hset_ne (by first | assumption | exact Ne.symm (by assumption))).trans ?_; first | assumption | exact hset_eq | (refine (hset_ne (by first | assumption | exact Ne.symm (by assumption))).trans ?_; first | assumption | exact hset_eq | (refine (hset_ne (by first | assumption | exact Ne.symm (by assumption))).trans ?_; first | assumption | exact hset_eq)))) rfl rfl (by exact Nat.le_of_ble_eq_true rfl) ?_
  refine gk_aload_n C dX1_becomeLike_48 rfl ?_
  refine gk_aload_n C dX1_becomeLike_49 rfl ?_
  refine gk_getf C f_X1_28.r dX1_becomeLike_50 (by (try simp only [hset_set]); first | assumption | exact hset_eq | (refine (hset_ne (by first | assumption | exact Ne.symm (by assumption))).trans ?_; first | assumption | exact hset_eq | (refine (hset_ne (by first | assumption | exact Ne.symm (by assumption))).trans ?_; first | assumption | exact hset_eq | (refine (hset_ne (by first | assumption | exact Ne.symm (by assumption))).trans ?_; first | assumption | exact hset_eq)))) (by rfl) ?_
  refine gk_putf C f_X1_28 dX1_becomeLike_53 (by (try simp only [hset_set]); first | assumption | exact hset_eq | (refine (hset_ne (by first | assumption | exact Ne.symm (by assumption))).trans ?_; first | assumption | exact hset_eq | (refine (hset_ne (by first | assumption | exact Ne.symm (by assumption))).trans ?_; first | assumption | exact hset_eq | (refine (hset_ne (by first | assumption | exact Ne.symm (by assumption))).trans ?_; first | assumption | exact hset_eq)))) (gk_nb (by omega)).1 (gk_nb (by omega)).2 (by exact Nat.le_of_ble_eq_true rfl) ?_
  refine (R _ _ _ _ _ (by decide) (by decide)).2.2.1 rfl dX1_becomeLike_56 ?_
  refine ⟨rfl, ?_⟩
  simp only [hset_set]
  rfl


abbrev oPt (rw : Nat) (c : Int) : AE := oO 3 [.ref rw, iv c]
/-- the row with p put in its order among the first places -/
def pins (p : Int) : Nat → (Int → Int) → Int → Int
  | 0, f => gupd f 0 p
  | j + 1, f => if p < f j then pins p j (gupd f ((j : Int) + 1) (f j)) else gupd f ((j : Int) + 1) p

set_option maxRecDepth 100000 in
set_option maxHeartbeats 4000000 in
theorem c_X2_init {l : Launch} {Γ : GA} (hfl : l.stackTraces = false) {h : Hp} {a : Nat} {x0 : Value} {x1 : Int} (ha : h a = some (oO 3 [x0, iv x1])) : Ct l Γ m_X2_init [.ref a] h (fun v h' => v = none ∧ ∃ rw, h rw = none ∧ h' = hset (hset h rw (aI 8 (fun _ => 0))) a (oPt rw x1)) (fun _ _ => False) := by
  refine Ct.intro hfl (by decide +kernel) rfl (Nat.le_of_ble_eq_true rfl) ?_
  intro G C R T
  show G 0 [some (.ref a)] [] h 0 0
  refine gk_aload_n C dX2_init_0 rfl ?_
  refine gk_objInit C oi_X2 oi_im oi_cd dX2_init_1 (by decide) (by exact Nat.le_of_ble_eq_true rfl) ?_
  refine gk_aload_n C dX2_init_4 rfl ?_
  refine gk_bipush C dX2_init_5 (by decide) ?_
  refine gk_newI C dX2_init_7 (by decide) (by decide) (fun q_7 e_7 => ?_)
  refine gk_putfF C f_X2_9 rfl dX2_init_9 ((hset_ne (fun z => by rw [← z, ha] at e_7; cases e_7)).trans ha) rfl rfl (by exact Nat.le_of_ble_eq_true rfl) ?_
  refine (R _ _ _ _ _ (by decide) (by decide)).2.2.1 rfl dX2_init_12 ?_
  exact ⟨rfl, q_7, e_7, rfl⟩

set_option maxRecDepth 100000 in
set_option maxHeartbeats 4000000 in
theorem c_X2_empty {l : Launch} {Γ : GA} (hfl : l.stackTraces = false) {h : Hp} {a rw : Nat} {c : Int} (ha : h a = some (oPt rw c)) : Ct l Γ m_X2_empty [.ref a] h (fun v h' => v = none ∧ h' = hset h a (oPt rw 0)) (fun _ _ => False) := by
  refine Ct.intro hfl (by decide +kernel) rfl (Nat.le_of_ble_eq_true rfl) ?_
  intro G C R T
  show G 0 [some (.ref a)] [] h 0 0
  refine gk_aload_n C dX2_empty_0 rfl ?_
  refine gk_iconst C dX2_empty_1 ?_
  refine gk_putf C f_X2_15 dX2_empty_2 (by (try simp only [hset_set]); first | assumption | exact hset_eq | (refine (hset_ne (by first | assumption | exact Ne.symm (by assumption))).trans ?_; first | assumption | exact hset_eq | (refine (hset_ne (by first | assumption | exact Ne.symm (by assumption))).trans ?_; first | assumption | exact hset_eq | (refine (hset_ne (by first | assumption | exact Ne.symm (by assumption))).trans ?_; first | assumption | exact hset_eq)))) rfl rfl (by exact Nat.le_of_ble_eq_true rfl) ?_
  refine (R _ _ _ _ _ (by decide) (by decide)).2.2.1 rfl dX2_empty_5 ?_
  exact ⟨rfl, rfl⟩

set_option maxRecDepth 100000 in
set_option maxHeartbeats 4000000 in
theorem c_X2_range {l : Launch} {Γ : GA} (hfl : l.stackTraces = false) {h : Hp} {a rw : Nat} {f : Int → Int} {c : Nat} (ha : h a = some (oPt rw c)) (hr : h rw = some (aI 8 f)) (hc : c ≤ 8) : Ct l Γ m_X2_range [.ref a] h (fun v h' => v = some (iv (if c = 0 then 0 else f ((c : Int) - 1) - f 0)) ∧ h' = h) (fun _ _ => False) := by
  refine Ct.intro hfl (by decide +kernel) rfl (Nat.le_of_ble_eq_true rfl) ?_
  intro G C R T
  show G 0 [some (.ref a)] [] h 0 0
  refine gk_aload_n C dX2_range_0 rfl ?_
  refine gk_getf C f_X2_15.r dX2_range_1 (by (try simp only [hset_set]); first | assumption | exact hset_eq | (refine (hset_ne (by first | assumption | exact Ne.symm (by assumption))).trans ?_; first | assumption | exact hset_eq | (refine (hset_ne (by first | assumption | exact Ne.symm (by assumption))).trans ?_; first | assumption | exact hset_eq | (refine (hset_ne (by first | assumption | exact Ne.symm (by assumption))).trans ?_; first | assumption | exact hset_eq)))) (by rfl) ?_
  refine gk_iconst C dX2_range_4 ?_
  refine gk_icmp_lt C (tgt := 20) (by omega) (by omega) dX2_range_5 (by decide) (fun c_5 => ?_) (fun c_5 => ?_)
  · refine gk_iconst C dX2_range_20 ?_
    refine gk_goto C (tgt := 42) dX2_range_21 (by decide) ?_
    refine (R _ _ _ _ _ (by decide) (by decide)).1 _ rfl dX2_range_42 ?_
    refine ⟨congrArg (fun q => some (iv q)) ?_, rfl⟩
    split <;> omega
  · refine gk_aload_n C dX2_range_8 rfl ?_
    refine gk_getf C f_X2_15.r dX2_range_9 (by (try simp only [hset_set]); first | assumption | exact hset_eq | (refine (hset_ne (by first | assumption | exact Ne.symm (by assumption))).trans ?_; first | assumption | exact hset_eq | (refine (hset_ne (by first | assumption | exact Ne.symm (by assumption))).trans ?_; first | assumption | exact hset_eq | (refine (hset_ne (by first | assumption | exact Ne.symm (by assumption))).trans ?_; first | assumption | exact hset_eq)))) (by rfl) ?_
    refine gk_aload_n C dX2_range_12 rfl ?_
    refine gk_getf C f_X2_9.r dX2_range_13 (by (try simp only [hset_set]); first | assumption | exact hset_eq | (refine (hset_ne (by first | assumption | exact Ne.symm (by assumption))).trans ?_; first | assumption | exact hset_eq | (refine (hset_ne (by first | assumption | exact Ne.symm (by assumption))).trans ?_; first | assumption | exact hset_eq | (refine (hset_ne (by first | assumption | exact Ne.symm (by assumption))).trans ?_; first | assumption | exact hset_eq)))) (by rfl) ?_
    refine gk_alenI C dX2_range_16 (by (try simp only [hset_set]); first | assumption | exact hset_eq | (refine (hset_ne (by first | assumption | exact Ne.symm (by assumption))).trans ?_; first | assumption | exact hset_eq | (refine (hset_ne (by first | assumption | exact Ne.symm (by assumption))).trans ?_; first | assumption | exact hset_eq | (refine (hset_ne (by first | assumption | exact Ne.symm (by assumption))).trans ?_; first | assumption | exact hset_eq)))) (by omega) ?_
    refine gk_icmp_le C (tgt := 24) (by omega) (by omega) dX2_range_17 (by decide) (fun c_17 => ?_) (fun c_17 => ?_)
    · refine gk_aload_n C dX2_range_24 rfl ?_
      refine gk_getf C f_X2_9.r dX2_range_25 (by (try simp only [hset_set]); first | assumption | exact hset_eq | (refine (hset_ne (by first | assumption | exact Ne.symm (by assumption))).trans ?_; first | assumption | exact hset_eq | (refine (hset_ne (by first | assumption | exact Ne.symm (by assumption))).trans ?_; first | assumption | exact hset_eq | (refine (hset_ne (by first | assumption | exact Ne.symm (by assumption))).trans ?_; first | assumption | exact hset_eq)))) (by rfl) ?_
      refine gk_aload_n C dX2_range_28 rfl ?_
      refine gk_getf C f_X2_15.r dX2_range_29 (by (try simp only [hset_set]); first | assumption | exact hset_eq | (refine (hset_ne (by first | assumption | exact Ne.symm (by assumption))).trans ?_; first | assumption | exact hset_eq | (refine (hset_ne (by first | assumption | exact Ne.symm (by assumption))).trans ?_; first | assumption | exact hset_eq | (refine (hset_ne (by first | assumption | exact Ne.symm (by assumption))).trans ?_; first | assumption | exact hset_eq)))) (by rfl) ?_
      refine gk_iconst C dX2_range_32 ?_
      refine gk_isub C dX2_range_33 ?_
      refine gk_iald C dX2_range_34 (by (try simp only [hset_set]); first | assumption | exact hset_eq | (refine (hset_ne (by first | assumption | exact Ne.symm (by assumption))).trans ?_; first | assumption | exact hset_eq | (refine (hset_ne (by first | assumption | exact Ne.symm (by assumption))).trans ?_; first | assumption | exact hset_eq | (refine (hset_ne (by first | assumption | exact Ne.symm (by assumption))).trans ?_; first | assumption | exact hset_eq)))) (by omega) (by omega) ?_
      refine gk_aload_n C dX2_range_35 rfl ?_
      refine gk_getf C f_X2_9.r dX2_range_36 (by (try simp only [hset_set]); first | assumption | exact hset_eq | (refine (hset_ne (by first | assumption | exact Ne.symm (by assumption))).trans ?_; first | assumption | exact hset_eq | (refine (hset_ne (by first | assumption | exact Ne.symm (by assumption))).trans ?_; first | assumption | exact hset_eq | (refine (hset_ne (by first | assumption | exact Ne.symm (by assumption))).trans ?_; first | assumption | exact hset_eq)))) (by rfl) ?_
      refine gk_iconst C dX2_range_39 ?_
      refine gk_iald C dX2_range_40 (by (try simp only [hset_set]); first | assumption | exact hset_eq | (refine (hset_ne (by first | assumption | exact Ne.symm (by assumption))).trans ?_; first | assumption | exact hset_eq | (refine (hset_ne (by first | assumption | exact Ne.symm (by assumption))).trans ?_; first | assumption | exact hset_eq | (refine (hset_ne (by first | assumption | exact Ne.symm (by assumption))).trans ?_; first | assumption | exact hset_eq)))) (by omega) (by omega) ?_
      refine gk_isub C dX2_range_41 ?_
      refine (R _ _ _ _ _ (by decide) (by decide)).1 _ rfl dX2_range_42 ?_
      refine ⟨congrArg (fun q => some (iv q)) ?_, rfl⟩
      split <;> omega
    · exact absurd c_17 (by omega)

set_option maxRecDepth 100000 in
set_option maxHeartbeats 4000000 in
theorem c_X2_middle {l : Launch} {Γ : GA} (hfl : l.stackTraces = false) {h : Hp} {a rw : Nat} {f : Int → Int} {c : Nat} (ha : h a = some (oPt rw c)) (hr : h rw = some (aI 8 f)) (hc : c ≤ 8) : Ct l Γ m_X2_middle [.ref a] h (fun v h' => v = some (iv (if c = 0 then 0 else f (((c : Int) - 1) / 2))) ∧ h' = h) (fun _ _ => False) := by
  refine Ct.intro hfl (by decide +kernel) rfl (Nat.le_of_ble_eq_true rfl) ?_
  intro G C R T
  show G 0 [some (.ref a)] [] h 0 0
  refine gk_aload_n C dX2_middle_0 rfl ?_
  refine gk_getf C f_X2_15.r dX2_middle_1 (by (try simp only [hset_set]); first | assumption | exact hset_eq | (refine (hset_ne (by first | assumption | exact Ne.symm (by assumption))).trans ?_; first | assumption | exact hset_eq | (refine (hset_ne (by first | assumption | exact Ne.symm (by assumption))).trans ?_; first | assumption | exact hset_eq | (refine (hset_ne (by first | assumption | exact Ne.symm (by assumption))).trans ?_; first | assumption | exact hset_eq)))) (by rfl) ?_
  refine gk_iconst C dX2_middle_4 ?_
  refine gk_icmp_lt C (tgt := 20) (by omega) (by omega) dX2_middle_5 (by decide) (fun c_5 => ?_) (fun c_5 => ?_)
  · refine gk_iconst C dX2_middle_20 ?_
    refine gk_goto C (tgt := 37) dX2_middle_21 (by decide) ?_
    refine (R _ _ _ _ _ (by decide) (by decide)).1 _ rfl dX2_middle_37 ?_
    refine ⟨congrArg (fun q => some (iv q)) ?_, rfl⟩
    split <;> first | omega | rfl
  · refine gk_aload_n C dX2_middle_8 rfl ?_
    refine gk_getf C f_X2_15.r dX2_middle_9 (by (try simp only [hset_set]); first | assumption | exact hset_eq | (refine (hset_ne (by first | assumption | exact Ne.symm (by assumption))).trans ?_; first | assumption | exact hset_eq | (refine (hset_ne (by first | assumption | exact Ne.symm (by assumption))).trans ?_; first | assumption | exact hset_eq | (refine (hset_ne (by first | assumption | exact Ne.symm (by assumption))).trans ?_; first | assumption | exact hset_eq)))) (by rfl) ?_
    refine gk_aload_n C dX2_middle_12 rfl ?_
    refine gk_getf C f_X2_9.r dX2_middle_13 (by (try simp only [hset_set]); first | assumption | exact hset_eq | (refine (hset_ne (by first | assumption | exact Ne.symm (by assumption))).trans ?_; first | assumption | exact hset_eq | (refine (hset_ne (by first | assumption | exact Ne.symm (by assumption))).trans ?_; first | assumption | exact hset_eq | (refine (hset_ne (by first | assumption | exact Ne.symm (by assumption))).trans ?_; first | assumption | exact hset_eq)))) (by rfl) ?_
    refine gk_alenI C dX2_middle_16 (by (try simp only [hset_set]); first | assumption | exact hset_eq | (refine (hset_ne (by first | assumption | exact Ne.symm (by assumption))).trans ?_; first | assumption | exact hset_eq | (refine (hset_ne (by first | assumption | exact Ne.symm (by assumption))).trans ?_; first | assumption | exact hset_eq | (refine (hset_ne (by first | assumption | exact Ne.symm (by assumption))).trans ?_; first | assumption | exact hset_eq)))) (by omega) ?_
    refine gk_icmp_le C (tgt := 24) (by omega) (by omega) dX2_middle_17 (by decide) (fun c_17 => ?_) (fun c_17 => ?_)
    · refine gk_aload_n C dX2_middle_24 rfl ?_
      refine gk_getf C f_X2_9.r dX2_middle_25 (by (try simp only [hset_set]); first | assumption | exact hset_eq | (refine (hset_ne (by first | assumption | exact Ne.symm (by assumption))).trans ?_; first | assumption | exact hset_eq | (refine (hset_ne (by first | assumption | exact Ne.symm (by assumption))).trans ?_; first | assumption | exact hset_eq | (refine (hset_ne (by first | assumption | exact Ne.symm (by assumption))).trans ?_; first | assumption | exact hset_eq)))) (by rfl) ?_
      refine gk_aload_n C dX2_middle_28 rfl ?_
      refine gk_getf C f_X2_15.r dX2_middle_29 (by (try simp only [hset_set]); first | assumption | exact hset_eq | (refine (hset_ne (by first | assumption | exact Ne.symm (by assumption))).trans ?_; first | assumption | exact hset_eq | (refine (hset_ne (by first | assumption | exact Ne.symm (by assumption))).trans ?_; first | assumption | exact hset_eq | (refine (hset_ne (by first | assumption | exact Ne.symm (by assumption))).trans ?_; first | assumption | exact hset_eq)))) (by rfl) ?_
      refine gk_iconst C dX2_middle_32 ?_
      refine gk_isub C dX2_middle_33 ?_
      refine gk_iconst C dX2_middle_34 ?_
      refine gk_idiv C (by omega) (by omega) dX2_middle_35 ?_
      refine gk_iald C dX2_middle_36 (by (try simp only [hset_set]); first | assumption | exact hset_eq | (refine (hset_ne (by first | assumption | exact Ne.symm (by assumption))).trans ?_; first | assumption | exact hset_eq | (refine (hset_ne (by first | assumption | exact Ne.symm (by assumption))).trans ?_; first | assumption | exact hset_eq | (refine (hset_ne (by first | assumption | exact Ne.symm (by assumption))).trans ?_; first | assumption | exact hset_eq)))) (by omega) (by omega) ?_
      refine (R _ _ _ _ _ (by decide) (by decide)).1 _ rfl dX2_middle_37 ?_
      refine ⟨congrArg (fun q => some (iv q)) ?_, rfl⟩
      split <;> first | omega | rfl
    · exact absurd c_17 (by omega)

set_option maxRecDepth 100000 in
set_option maxHeartbeats 4000000 in
theorem c_X2_put {l : Launch} {Γ : GA} (hfl : l.stackTraces = false) {h : Hp} {a rw : Nat} {f : Int → Int} {c : Nat} (ha : h a = some (oPt rw c)) (hr : h rw = some (aI 8 f)) (hc : c < 8) {p : Int} (hp : -1000000 ≤ p ∧ p ≤ 1000000) (hf : ∀ i : Int, 0 ≤ i → i < (c : Int) → -1000000 ≤ f i ∧ f i ≤ 1000000) : Ct l Γ m_X2_put [.ref a, iv p] h (fun v h' => v = none ∧ h' = hset (hset h rw (aI 8 (pins p c f))) a (oPt rw ((c : Int) + 1))) (fun _ _ => False) := by
  have hne : a ≠ rw := fun z => by rw [z, hr] at ha; cases ha
  refine Ct.intro hfl (by decide +kernel) rfl (Nat.le_of_ble_eq_true rfl) ?_
  intro G C R T
  show G 0 [some (.ref a), some (iv p), none] [] h 0 0
  refine gk_aload_n C dX2_put_0 rfl ?_
  refine gk_getf C f_X2_15.r dX2_put_1 (by (try simp only [hset_set]); first | assumption | exact hset_eq | (refine (hset_ne (by first | assumption | exact Ne.symm (by assumption))).trans ?_; first | assumption | exact hset_eq | (refine (hset_ne (by first | assumption | exact Ne.symm (by assumption))).trans ?_; first | assumption | exact hset_eq | (refine (hset_ne (by first | assumption | exact Ne.symm (by assumption))).trans ?_; first | assumption | exact hset_eq)))) (by rfl) ?_
  refine gk_if_lt C (tgt := 19) (by omega) dX2_put_4 (by decide) (fun c_4 => ?_) (fun c_4 => ?_)
  · omega
  · refine gk_aload_n C dX2_put_7 rfl ?_
    refine gk_getf C f_X2_15.r dX2_put_8 (by (try simp only [hset_set]); first | assumption | exact hset_eq | (refine (hset_ne (by first | assumption | exact Ne.symm (by assumption))).trans ?_; first | assumption | exact hset_eq | (refine (hset_ne (by first | assumption | exact Ne.symm (by assumption))).trans ?_; first | assumption | exact hset_eq | (refine (hset_ne (by first | assumption | exact Ne.symm (by assumption))).trans ?_; first | assumption | exact hset_eq)))) (by rfl) ?_
    refine gk_aload_n C dX2_put_11 rfl ?_
    refine gk_getf C f_X2_9.r dX2_put_12 (by (try simp only [hset_set]); first | assumption | exact hset_eq | (refine (hset_ne (by first | assumption | exact Ne.symm (by assumption))).trans ?_; first | assumption | exact hset_eq | (refine (hset_ne (by first | assumption | exact Ne.symm (by assumption))).trans ?_; first | assumption | exact hset_eq | (refine (hset_ne (by first | assumption | exact Ne.symm (by assumption))).trans ?_; first | assumption | exact hset_eq)))) (by rfl) ?_
    refine gk_alenI C dX2_put_15 (by (try simp only [hset_set]); first | assumption | exact hset_eq | (refine (hset_ne (by first | assumption | exact Ne.symm (by assumption))).trans ?_; first | assumption | exact hset_eq | (refine (hset_ne (by first | assumption | exact Ne.symm (by assumption))).trans ?_; first | assumption | exact hset_eq | (refine (hset_ne (by first | assumption | exact Ne.symm (by assumption))).trans ?_; first | assumption | exact hset_eq)))) (by omega) ?_
    refine gk_icmp_lt C (tgt := 20) (by omega) (by omega) dX2_put_16 (by decide) (fun c_16 => ?_) (fun c_16 => ?_)
    · refine gk_aload_n C dX2_put_20 rfl ?_
      refine gk_getf C f_X2_15.r dX2_put_21 (by (try simp only [hset_set]); first | assumption | exact hset_eq | (refine (hset_ne (by first | assumption | exact Ne.symm (by assumption))).trans ?_; first | assumption | exact hset_eq | (refine (hset_ne (by first | assumption | exact Ne.symm (by assumption))).trans ?_; first | assumption | exact hset_eq | (refine (hset_ne (by first | assumption | exact Ne.symm (by assumption))).trans ?_; first | assumption | exact hset_eq)))) (by rfl) ?_
      refine gk_istore_n_2 C rfl (by decide) dX2_put_24 ?_
      have key : ∀ (n j : Nat) (g : Int → Int), j < n → j ≤ c → (∀ i, 0 ≤ i → i < (j : Int) → -1000000 ≤ g i ∧ g i ≤ 1000000) → pins p j g = pins p c f → G 25 [some (.ref a), some (iv p), some (iv (j : Int))] [] (hset h rw (aI 8 g)) 0 0 := by
        intro n
        induction n with
        | zero => intro j g h1; omega
        | succ n ih =>
          intro j g hn hj hg he
          have ha2 : hset h rw (aI 8 g) a = some (oPt rw c) := (hset_ne hne).trans ha
          have hr2 : hset h rw (aI 8 g) rw = some (aI 8 g) := hset_eq
          refine gk_iload_n C dX2_put_25 rfl ?_
          refine gk_if_le C (tgt := 61) (by omega) dX2_put_26 (by decide) (fun c_26 => ?_) (fun c_26 => ?_)
          · have ef : gupd g (j : Int) p = pins p c f := by
              rw [← he]
              have e0 : j = 0 := by omega
              subst e0
              rfl
            refine gk_aload_n C dX2_put_61 rfl ?_
            refine gk_getf C f_X2_9.r dX2_put_62 (by (try simp only [hset_set]); first | assumption | exact hset_eq | (refine (hset_ne (by first | assumption | exact Ne.symm (by assumption))).trans ?_; first | assumption | exact hset_eq | (refine (hset_ne (by first | assumption | exact Ne.symm (by assumption))).trans ?_; first | assumption | exact hset_eq | (refine (hset_ne (by first | assumption | exact Ne.symm (by assumption))).trans ?_; first | assumption | exact hset_eq)))) (by rfl) ?_
            refine gk_iload_n C dX2_put_65 rfl ?_
            refine gk_iload_n C dX2_put_66 rfl ?_
            refine gk_iast C dX2_put_67 (by (try simp only [hset_set]); first | assumption | exact hset_eq | (refine (hset_ne (by first | assumption | exact Ne.symm (by assumption))).trans ?_; first | assumption | exact hset_eq | (refine (hset_ne (by first | assumption | exact Ne.symm (by assumption))).trans ?_; first | assumption | exact hset_eq | (refine (hset_ne (by first | assumption | exact Ne.symm (by assumption))).trans ?_; first | assumption | exact hset_eq)))) (by omega) (by omega) ?_
            refine gk_aload_n C dX2_put_68 rfl ?_
            refine gk_dup C rfl dX2_put_69 ?_
            refine gk_getf C f_X2_15.r dX2_put_70 (by (try simp only [hset_set]); first | assumption | exact hset_eq | (refine (hset_ne (by first | assumption | exact Ne.symm (by assumption))).trans ?_; first | assumption | exact hset_eq | (refine (hset_ne (by first | assumption | exact Ne.symm (by assumption))).trans ?_; first | assumption | exact hset_eq | (refine (hset_ne (by first | assumption | exact Ne.symm (by assumption))).trans ?_; first | assumption | exact hset_eq)))) (by rfl) ?_
            refine gk_iconst C dX2_put_73 ?_
            refine gk_iadd C dX2_put_74 ?_
            refine gk_putf C f_X2_15 dX2_put_75 (by (try simp only [hset_set]); first | assumption | exact hset_eq | (refine (hset_ne (by first | assumption | exact Ne.symm (by assumption))).trans ?_; first | assumption | exact hset_eq | (refine (hset_ne (by first | assumption | exact Ne.symm (by assumption))).trans ?_; first | assumption | exact hset_eq | (refine (hset_ne (by first | assumption | exact Ne.symm (by assumption))).trans ?_; first | assumption | exact hset_eq)))) rfl rfl (by exact Nat.le_of_ble_eq_true rfl) ?_
            refine (R _ _ _ _ _ (by decide) (by decide)).2.2.1 rfl dX2_put_78 ?_
            refine ⟨rfl, ?_⟩
            rw [ef, hset_set]
            rfl
          · obtain ⟨j, rfl⟩ : ∃ j2 : Nat, j = j2 + 1 := ⟨j - 1, by omega⟩
            have hgj := hg (((j + 1 : Nat) : Int) - 1) (by omega) (by omega)
            have ej : (((j + 1 : Nat) : Int) - 1) = (j : Int) := by omega
            refine gk_aload_n C dX2_put_29 rfl ?_
            refine gk_getf C f_X2_9.r dX2_put_30 (by (try simp only [hset_set]); first | assumption | exact hset_eq | (refine (hset_ne (by first | assumption | exact Ne.symm (by assumption))).trans ?_; first | assumption | exact hset_eq | (refine (hset_ne (by first | assumption | exact Ne.symm (by assumption))).trans ?_; first | assumption | exact hset_eq | (refine (hset_ne (by first | assumption | exact Ne.symm (by assumption))).trans ?_; first | assumption | exact hset_eq)))) (by rfl) ?_
            refine gk_iload_n C dX2_put_33 rfl ?_
            refine gk_iconst C dX2_put_34 ?_
            refine gk_isub C dX2_put_35 ?_
            refine gk_iald C dX2_put_36 (by (try simp only [hset_set]); first | assumption | exact hset_eq | (refine (hset_ne (by first | assumption | exact Ne.symm (by assumption))).trans ?_; first | assumption | exact hset_eq | (refine (hset_ne (by first | assumption | exact Ne.symm (by assumption))).trans ?_; first | assumption | exact hset_eq | (refine (hset_ne (by first | assumption | exact Ne.symm (by assumption))).trans ?_; first | assumption | exact hset_eq)))) (by omega) (by omega) ?_
            refine gk_iload_n C dX2_put_37 rfl ?_
            refine gk_icmp_le C (tgt := 61) (by omega) (by omega) dX2_put_38 (by decide) (fun c_38 => ?_) (fun c_38 => ?_)
            · have ef : gupd g ((j + 1 : Nat) : Int) p = pins p c f := by
                rw [← he]
                rw [ej] at c_38
                show _ = if p < g j then _ else _
                rw [if_neg (by omega)]
                rfl
              refine gk_aload_n C dX2_put_61 rfl ?_
              refine gk_getf C f_X2_9.r dX2_put_62 (by (try simp only [hset_set]); first | assumption | exact hset_eq | (refine (hset_ne (by first | assumption | exact Ne.symm (by assumption))).trans ?_; first | assumption | exact hset_eq | (refine (hset_ne (by first | assumption | exact Ne.symm (by assumption))).trans ?_; first | assumption | exact hset_eq | (refine (hset_ne (by first | assumption | exact Ne.symm (by assumption))).trans ?_; first | assumption | exact hset_eq)))) (by rfl) ?_
              refine gk_iload_n C dX2_put_65 rfl ?_
              refine gk_iload_n C dX2_put_66 rfl ?_
              refine gk_iast C dX2_put_67 (by (try simp only [hset_set]); first | assumption | exact hset_eq | (refine (hset_ne (by first | assumption | exact Ne.symm (by assumption))).trans ?_; first | assumption | exact hset_eq | (refine (hset_ne (by first | assumption | exact Ne.symm (by assumption))).trans ?_; first | assumption | exact hset_eq | (refine (hset_ne (by first | assumption | exact Ne.symm (by assumption))).trans ?_; first | assumption | exact hset_eq)))) (by omega) (by omega) ?_
              refine gk_aload_n C dX2_put_68 rfl ?_
              refine gk_dup C rfl dX2_put_69 ?_
              refine gk_getf C f_X2_15.r dX2_put_70 (by (try simp only [hset_set]); first | assumption | exact hset_eq | (refine (hset_ne (by first | assumption | exact Ne.symm (by assumption))).trans ?_; first | assumption | exact hset_eq | (refine (hset_ne (by first | assumption | exact Ne.symm (by assumption))).trans ?_; first | assumption | exact hset_eq | (refine (hset_ne (by first | assumption | exact Ne.symm (by assumption))).trans ?_; first | assumption | exact hset_eq)))) (by rfl) ?_
              refine gk_iconst C dX2_put_73 ?_
              refine gk_iadd C dX2_put_74 ?_
              refine gk_putf C f_X2_15 dX2_put_75 (by (try simp only [hset_set]); first | assumption | exact hset_eq | (refine (hset_ne (by first | assumption | exact Ne.symm (by assumption))).trans ?_; first | assumption | exact hset_eq | (refine (hset_ne (by first | assumption | exact Ne.symm (by assumption))).trans ?_; first | assumption | exact hset_eq | (refine (hset_ne (by first | assumption | exact Ne.symm (by assumption))).trans ?_; first | assumption | exact hset_eq)))) rfl rfl (by exact Nat.le_of_ble_eq_true rfl) ?_
              refine (R _ _ _ _ _ (by decide) (by decide)).2.2.1 rfl dX2_put_78 ?_
              refine ⟨rfl, ?_⟩
              rw [ef, hset_set]
              rfl
            · refine gk_aload_n C dX2_put_41 rfl ?_
              refine gk_getf C f_X2_9.r dX2_put_42 (by (try simp only [hset_set]); first | assumption | exact hset_eq | (refine (hset_ne (by first | assumption | exact Ne.symm (by assumption))).trans ?_; first | assumption | exact hset_eq | (refine (hset_ne (by first | assumption | exact Ne.symm (by assumption))).trans ?_; first | assumption | exact hset_eq | (refine (hset_ne (by first | assumption | exact Ne.symm (by assumption))).trans ?_; first | assumption | exact hset_eq)))) (by rfl) ?_
              refine gk_iload_n C dX2_put_45 rfl ?_
              refine gk_aload_n C dX2_put_46 rfl ?_
              refine gk_getf C f_X2_9.r dX2_put_47 (by (try simp only [hset_set]); first | assumption | exact hset_eq | (refine (hset_ne (by first | assumption | exact Ne.symm (by assumption))).trans ?_; first | assumption | exact hset_eq | (refine (hset_ne (by first | assumption | exact Ne.symm (by assumption))).trans ?_; first | assumption | exact hset_eq | (refine (hset_ne (by first | assumption | exact Ne.symm (by assumption))).trans ?_; first | assumption | exact hset_eq)))) (by rfl) ?_
              refine gk_iload_n C dX2_put_50 rfl ?_
              refine gk_iconst C dX2_put_51 ?_
              refine gk_isub C dX2_put_52 ?_
              refine gk_iald C dX2_put_53 (by (try simp only [hset_set]); first | assumption | exact hset_eq | (refine (hset_ne (by first | assumption | exact Ne.symm (by assumption))).trans ?_; first | assumption | exact hset_eq | (refine (hset_ne (by first | assumption | exact Ne.symm (by assumption))).trans ?_; first | assumption | exact hset_eq | (refine (hset_ne (by first | assumption | exact Ne.symm (by assumption))).trans ?_; first | assumption | exact hset_eq)))) (by omega) (by omega) ?_
              refine gk_iast C dX2_put_54 (by (try simp only [hset_set]); first | assumption | exact hset_eq | (refine (hset_ne (by first | assumption | exact Ne.symm (by assumption))).trans ?_; first | assumption | exact hset_eq | (refine (hset_ne (by first | assumption | exact Ne.symm (by assumption))).trans ?_; first | assumption | exact hset_eq | (refine (hset_ne (by first | assumption | exact Ne.symm (by assumption))).trans ?_; first | assumption | exact hset_eq)))) (by omega) (by omega) ?_
              refine gk_iinc_2 C rfl (by decide) dX2_put_55 ?_
              refine gk_goto C (tgt := 25) dX2_put_58 (by decide) ?_
              rw [hset_set, ej, show (((j + 1 : Nat) : Int) + -1) = (j : Int) by omega]
              refine ih j _ (by omega) (by omega) (fun i h1 h2 => ?_) ?_
              · rw [gupd_ne (by omega)]; exact hg i h1 (by omega)
              · rw [← he]
                rw [ej] at c_38
                show _ = if p < g j then pins p j (gupd g ((j : Int) + 1) (g j)) else _
                rw [if_pos (by omega)]
                rfl
      have h1 := key (c + 1) c f (by omega) (by omega) hf rfl
      rw [hset_self hr] at h1
      exact h1
    · omega
