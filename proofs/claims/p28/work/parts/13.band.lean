/-! the bands: contracts -/
theorem gs_P : Cond.fieldLinkNest RX0 37 "Dronegrade" "POINTS_BY_RANK" "[I" "Dronegrade" ∈ gk_NW := gk_nw (List.mem_append_right _ (List.mem_of_getElem? (i := 767) (by decide +kernel))) rfl
abbrev oBa (nb : Int) (mA pA : Nat) (gr ng po rk su fi tp : Int) : AE := oO 1 [iv nb, .ref mA, .ref pA, iv gr, iv ng, iv po, iv rk, iv su, iv fi, iv tp]
def ptOf (r : Int) : Int := if 1 ≤ r ∧ r ≤ 6 then gk_pt (r - 1) else 0
/-- before another: by sum, by the ensemble's place, by both piping places, by number -/
def isBf (s s2 : Int) (f f2 : Int → Int) (n n2 : Int) : Prop := s < s2 ∨ (s = s2 ∧ (f 3 < f2 3 ∨ (f 3 = f2 3 ∧ (f 0 + f 1 < f2 0 + f2 1 ∨ (f 0 + f 1 = f2 0 + f2 1 ∧ n < n2)))))

/-- marks 0 to n - 1 are none -/
def mNo (f : Int → Int) : Nat → Int → Int
  | 0 => f
  | n + 1 => gupd (mNo f n) n (-1)
set_option maxRecDepth 100000 in
set_option maxHeartbeats 4000000 in
theorem c_X0_forgetM {l : Launch} {Γ : GA} (hfl : l.stackTraces = false) {h : Hp} {a mA pA : Nat} {nb gr ng po rk su fi tp : Int} (ha : h a = some (oBa nb mA pA gr ng po rk su fi tp)) {fm : Int → Int} (hM : h mA = some (aI 4 fm)) : Ct l Γ m_X0_forgetMarks [.ref a] h (fun v h' => v = none ∧ h' = hset h mA (aI 4 (mNo fm 4))) (fun _ _ => False) := by
  have hne : a ≠ mA := fun z => by rw [z, hM] at ha; cases ha
  refine Ct.intro hfl (by decide +kernel) rfl (Nat.le_of_ble_eq_true rfl) ?_
  intro G C R T
  show G 0 [some (.ref a), none] [] h 0 0
  refine gk_iconst C dX0_forgetMarks_0 ?_
  refine gk_istore_n_1 C rfl (by decide) dX0_forgetMarks_1 ?_
  have key : ∀ (n i : Nat) (g : Int → Int), 4 - i < n → i ≤ 4 → g = mNo fm i → G 2 [some (.ref a), some (iv (i : Int))] [] (hset h mA (aI 4 g)) 0 0 := by
    intro n
    induction n with
    | zero => intro i g h1; omega
    | succ n ih =>
      intro i g hn hi hg
      have ha2 : hset h mA (aI 4 g) a = some (oBa nb mA pA gr ng po rk su fi tp) := (hset_ne hne).trans ha
      have hM2 : hset h mA (aI 4 g) mA = some (aI 4 g) := hset_eq
      refine gk_iload_n C dX0_forgetMarks_2 rfl ?_
      refine gk_aload_n C dX0_forgetMarks_3 rfl ?_
      refine gk_getf C f_X0_27.r dX0_forgetMarks_4 (by (try simp only [hset_set]); first | assumption | exact hset_eq | (refine (hset_ne (by first | assumption | exact Ne.symm (by assumption))).trans ?_; first | assumption | exact hset_eq | (refine (hset_ne (by first | assumption | exact Ne.symm (by assumption))).trans ?_; first | assumption | exact hset_eq | (refine (hset_ne (by first | assumption | exact Ne.symm (by assumption))).trans ?_; first | assumption | exact hset_eq)))) (by rfl) ?_
      refine gk_alenI C dX0_forgetMarks_7 (by (try simp only [hset_set]); first | assumption | exact hset_eq | (refine (hset_ne (by first | assumption | exact Ne.symm (by assumption))).trans ?_; first | assumption | exact hset_eq | (refine (hset_ne (by first | assumption | exact Ne.symm (by assumption))).trans ?_; first | assumption | exact hset_eq | (refine (hset_ne (by first | assumption | exact Ne.symm (by assumption))).trans ?_; first | assumption | exact hset_eq)))) (by omega) ?_
      refine gk_icmp_ge C (tgt := 24) (by omega) (by omega) dX0_forgetMarks_8 (by decide) (fun c_8 => ?_) (fun c_8 => ?_)
      · refine (R _ _ _ _ _ (by decide) (by decide)).2.2.1 rfl dX0_forgetMarks_24 ?_
        have ei : i = 4 := by omega
        subst ei
        exact ⟨rfl, by rw [hg]⟩
      · refine gk_aload_n C dX0_forgetMarks_11 rfl ?_
        refine gk_getf C f_X0_27.r dX0_forgetMarks_12 (by (try simp only [hset_set]); first | assumption | exact hset_eq | (refine (hset_ne (by first | assumption | exact Ne.symm (by assumption))).trans ?_; first | assumption | exact hset_eq | (refine (hset_ne (by first | assumption | exact Ne.symm (by assumption))).trans ?_; first | assumption | exact hset_eq | (refine (hset_ne (by first | assumption | exact Ne.symm (by assumption))).trans ?_; first | assumption | exact hset_eq)))) (by rfl) ?_
        refine gk_iload_n C dX0_forgetMarks_15 rfl ?_
        refine gk_iconst C dX0_forgetMarks_16 ?_
        refine gk_iast C dX0_forgetMarks_17 (by (try simp only [hset_set]); first | assumption | exact hset_eq | (refine (hset_ne (by first | assumption | exact Ne.symm (by assumption))).trans ?_; first | assumption | exact hset_eq | (refine (hset_ne (by first | assumption | exact Ne.symm (by assumption))).trans ?_; first | assumption | exact hset_eq | (refine (hset_ne (by first | assumption | exact Ne.symm (by assumption))).trans ?_; first | assumption | exact hset_eq)))) (by omega) (by omega) ?_
        refine gk_iinc_1 C rfl (by decide) dX0_forgetMarks_18 ?_
        refine gk_goto C (tgt := 2) dX0_forgetMarks_21 (by decide) ?_
        rw [hset_set]
        refine ih (i + 1) _ (by omega) (by omega) (by rw [hg]; rfl)
  have h1 := key 5 0 fm (by omega) (by omega) rfl
  rw [hset_self hM] at h1
  exact h1

set_option maxRecDepth 100000 in
set_option maxHeartbeats 4000000 in
theorem c_X0_markBy {l : Launch} {Γ : GA} (hfl : l.stackTraces = false) {h : Hp} {a mA pA : Nat} {nb gr ng po rk su fi tp : Int} (ha : h a = some (oBa nb mA pA gr ng po rk su fi tp)) {fm : Int → Int} (hM : h mA = some (aI 4 fm)) {j : Int} (hj : 0 ≤ j ∧ j < 4) : Ct l Γ m_X0_markBy [.ref a, iv j] h (fun v h' => v = some (iv (fm j)) ∧ h' = h) (fun _ _ => False) := by
  refine Ct.intro hfl (by decide +kernel) rfl (Nat.le_of_ble_eq_true rfl) ?_
  intro G C R T
  show G 0 [some (.ref a), some (iv j)] [] h 0 0
  refine gk_iload_n C dX0_markBy_0 rfl ?_
  refine gk_if_lt C (tgt := 22) (by omega) dX0_markBy_1 (by decide) (fun c_1 => ?_) (fun c_1 => ?_)
  · omega
  · refine gk_iload_n C dX0_markBy_4 rfl ?_
    refine gk_aload_n C dX0_markBy_5 rfl ?_
    refine gk_getf C f_X0_27.r dX0_markBy_6 (by (try simp only [hset_set]); first | assumption | exact hset_eq | (refine (hset_ne (by first | assumption | exact Ne.symm (by assumption))).trans ?_; first | assumption | exact hset_eq | (refine (hset_ne (by first | assumption | exact Ne.symm (by assumption))).trans ?_; first | assumption | exact hset_eq | (refine (hset_ne (by first | assumption | exact Ne.symm (by assumption))).trans ?_; first | assumption | exact hset_eq)))) (by rfl) ?_
    refine gk_alenI C dX0_markBy_9 (by (try simp only [hset_set]); first | assumption | exact hset_eq | (refine (hset_ne (by first | assumption | exact Ne.symm (by assumption))).trans ?_; first | assumption | exact hset_eq | (refine (hset_ne (by first | assumption | exact Ne.symm (by assumption))).trans ?_; first | assumption | exact hset_eq | (refine (hset_ne (by first | assumption | exact Ne.symm (by assumption))).trans ?_; first | assumption | exact hset_eq)))) (by omega) ?_
    refine gk_icmp_ge C (tgt := 22) (by omega) (by omega) dX0_markBy_10 (by decide) (fun c_10 => ?_) (fun c_10 => ?_)
    · omega
    · refine gk_aload_n C dX0_markBy_13 rfl ?_
      refine gk_getf C f_X0_27.r dX0_markBy_14 (by (try simp only [hset_set]); first | assumption | exact hset_eq | (refine (hset_ne (by first | assumption | exact Ne.symm (by assumption))).trans ?_; first | assumption | exact hset_eq | (refine (hset_ne (by first | assumption | exact Ne.symm (by assumption))).trans ?_; first | assumption | exact hset_eq | (refine (hset_ne (by first | assumption | exact Ne.symm (by assumption))).trans ?_; first | assumption | exact hset_eq)))) (by rfl) ?_
      refine gk_iload_n C dX0_markBy_17 rfl ?_
      refine gk_iald C dX0_markBy_18 (by (try simp only [hset_set]); first | assumption | exact hset_eq | (refine (hset_ne (by first | assumption | exact Ne.symm (by assumption))).trans ?_; first | assumption | exact hset_eq | (refine (hset_ne (by first | assumption | exact Ne.symm (by assumption))).trans ?_; first | assumption | exact hset_eq | (refine (hset_ne (by first | assumption | exact Ne.symm (by assumption))).trans ?_; first | assumption | exact hset_eq)))) (by omega) (by omega) ?_
      refine gk_goto C (tgt := 23) dX0_markBy_19 (by decide) ?_
      refine (R _ _ _ _ _ (by decide) (by decide)).1 _ rfl dX0_markBy_23 ?_
      exact ⟨rfl, rfl⟩

set_option maxRecDepth 100000 in
set_option maxHeartbeats 4000000 in
theorem c_X0_placeBy {l : Launch} {Γ : GA} (hfl : l.stackTraces = false) {h : Hp} {a mA pA : Nat} {nb gr ng po rk su fi tp : Int} (ha : h a = some (oBa nb mA pA gr ng po rk su fi tp)) {fp : Int → Int} (hP : h pA = some (aI 4 fp)) {j : Int} (hj : 0 ≤ j ∧ j < 4) : Ct l Γ m_X0_placeBy [.ref a, iv j] h (fun v h' => v = some (iv (fp j)) ∧ h' = h) (fun _ _ => False) := by
  refine Ct.intro hfl (by decide +kernel) rfl (Nat.le_of_ble_eq_true rfl) ?_
  intro G C R T
  show G 0 [some (.ref a), some (iv j)] [] h 0 0
  refine gk_iload_n C dX0_placeBy_0 rfl ?_
  refine gk_if_lt C (tgt := 22) (by omega) dX0_placeBy_1 (by decide) (fun c_1 => ?_) (fun c_1 => ?_)
  · omega
  · refine gk_iload_n C dX0_placeBy_4 rfl ?_
    refine gk_aload_n C dX0_placeBy_5 rfl ?_
    refine gk_getf C f_X0_31.r dX0_placeBy_6 (by (try simp only [hset_set]); first | assumption | exact hset_eq | (refine (hset_ne (by first | assumption | exact Ne.symm (by assumption))).trans ?_; first | assumption | exact hset_eq | (refine (hset_ne (by first | assumption | exact Ne.symm (by assumption))).trans ?_; first | assumption | exact hset_eq | (refine (hset_ne (by first | assumption | exact Ne.symm (by assumption))).trans ?_; first | assumption | exact hset_eq)))) (by rfl) ?_
    refine gk_alenI C dX0_placeBy_9 (by (try simp only [hset_set]); first | assumption | exact hset_eq | (refine (hset_ne (by first | assumption | exact Ne.symm (by assumption))).trans ?_; first | assumption | exact hset_eq | (refine (hset_ne (by first | assumption | exact Ne.symm (by assumption))).trans ?_; first | assumption | exact hset_eq | (refine (hset_ne (by first | assumption | exact Ne.symm (by assumption))).trans ?_; first | assumption | exact hset_eq)))) (by omega) ?_
    refine gk_icmp_ge C (tgt := 22) (by omega) (by omega) dX0_placeBy_10 (by decide) (fun c_10 => ?_) (fun c_10 => ?_)
    · omega
    · refine gk_aload_n C dX0_placeBy_13 rfl ?_
      refine gk_getf C f_X0_31.r dX0_placeBy_14 (by (try simp only [hset_set]); first | assumption | exact hset_eq | (refine (hset_ne (by first | assumption | exact Ne.symm (by assumption))).trans ?_; first | assumption | exact hset_eq | (refine (hset_ne (by first | assumption | exact Ne.symm (by assumption))).trans ?_; first | assumption | exact hset_eq | (refine (hset_ne (by first | assumption | exact Ne.symm (by assumption))).trans ?_; first | assumption | exact hset_eq)))) (by rfl) ?_
      refine gk_iload_n C dX0_placeBy_17 rfl ?_
      refine gk_iald C dX0_placeBy_18 (by (try simp only [hset_set]); first | assumption | exact hset_eq | (refine (hset_ne (by first | assumption | exact Ne.symm (by assumption))).trans ?_; first | assumption | exact hset_eq | (refine (hset_ne (by first | assumption | exact Ne.symm (by assumption))).trans ?_; first | assumption | exact hset_eq | (refine (hset_ne (by first | assumption | exact Ne.symm (by assumption))).trans ?_; first | assumption | exact hset_eq)))) (by omega) (by omega) ?_
      refine gk_goto C (tgt := 23) dX0_placeBy_19 (by decide) ?_
      refine (R _ _ _ _ _ (by decide) (by decide)).1 _ rfl dX0_placeBy_23 ?_
      exact ⟨rfl, rfl⟩

set_option maxRecDepth 100000 in
set_option maxHeartbeats 4000000 in
theorem c_X0_takeMark {l : Launch} {Γ : GA} (hfl : l.stackTraces = false) {h : Hp} {a mA pA : Nat} {nb gr ng po rk su fi tp : Int} (ha : h a = some (oBa nb mA pA gr ng po rk su fi tp)) {fm : Int → Int} (hM : h mA = some (aI 4 fm)) {j z : Int} (hj : 0 ≤ j ∧ j < 4) : Ct l Γ m_X0_takeMark [.ref a, iv j, iv z] h (fun v h' => v = none ∧ h' = hset h mA (aI 4 (gupd fm j z))) (fun _ _ => False) := by
  refine Ct.intro hfl (by decide +kernel) rfl (Nat.le_of_ble_eq_true rfl) ?_
  intro G C R T
  show G 0 [some (.ref a), some (iv j), some (iv z)] [] h 0 0
  refine gk_iload_n C dX0_takeMark_0 rfl ?_
  refine gk_if_lt C (tgt := 20) (by omega) dX0_takeMark_1 (by decide) (fun c_1 => ?_) (fun c_1 => ?_)
  · omega
  · refine gk_iload_n C dX0_takeMark_4 rfl ?_
    refine gk_aload_n C dX0_takeMark_5 rfl ?_
    refine gk_getf C f_X0_27.r dX0_takeMark_6 (by (try simp only [hset_set]); first | assumption | exact hset_eq | (refine (hset_ne (by first | assumption | exact Ne.symm (by assumption))).trans ?_; first | assumption | exact hset_eq | (refine (hset_ne (by first | assumption | exact Ne.symm (by assumption))).trans ?_; first | assumption | exact hset_eq | (refine (hset_ne (by first | assumption | exact Ne.symm (by assumption))).trans ?_; first | assumption | exact hset_eq)))) (by rfl) ?_
    refine gk_alenI C dX0_takeMark_9 (by (try simp only [hset_set]); first | assumption | exact hset_eq | (refine (hset_ne (by first | assumption | exact Ne.symm (by assumption))).trans ?_; first | assumption | exact hset_eq | (refine (hset_ne (by first | assumption | exact Ne.symm (by assumption))).trans ?_; first | assumption | exact hset_eq | (refine (hset_ne (by first | assumption | exact Ne.symm (by assumption))).trans ?_; first | assumption | exact hset_eq)))) (by omega) ?_
    refine gk_icmp_ge C (tgt := 20) (by omega) (by omega) dX0_takeMark_10 (by decide) (fun c_10 => ?_) (fun c_10 => ?_)
    · omega
    · refine gk_aload_n C dX0_takeMark_13 rfl ?_
      refine gk_getf C f_X0_27.r dX0_takeMark_14 (by (try simp only [hset_set]); first | assumption | exact hset_eq | (refine (hset_ne (by first | assumption | exact Ne.symm (by assumption))).trans ?_; first | assumption | exact hset_eq | (refine (hset_ne (by first | assumption | exact Ne.symm (by assumption))).trans ?_; first | assumption | exact hset_eq | (refine (hset_ne (by first | assumption | exact Ne.symm (by assumption))).trans ?_; first | assumption | exact hset_eq)))) (by rfl) ?_
      refine gk_iload_n C dX0_takeMark_17 rfl ?_
      refine gk_iload_n C dX0_takeMark_18 rfl ?_
      refine gk_iast C dX0_takeMark_19 (by (try simp only [hset_set]); first | assumption | exact hset_eq | (refine (hset_ne (by first | assumption | exact Ne.symm (by assumption))).trans ?_; first | assumption | exact hset_eq | (refine (hset_ne (by first | assumption | exact Ne.symm (by assumption))).trans ?_; first | assumption | exact hset_eq | (refine (hset_ne (by first | assumption | exact Ne.symm (by assumption))).trans ?_; first | assumption | exact hset_eq)))) (by omega) (by omega) ?_
      refine (R _ _ _ _ _ (by decide) (by decide)).2.2.1 rfl dX0_takeMark_20 ?_
      exact ⟨rfl, rfl⟩

set_option maxRecDepth 100000 in
set_option maxHeartbeats 4000000 in
theorem c_X0_takePlace {l : Launch} {Γ : GA} (hfl : l.stackTraces = false) {h : Hp} {a mA pA : Nat} {nb gr ng po rk su fi tp : Int} (ha : h a = some (oBa nb mA pA gr ng po rk su fi tp)) {fp : Int → Int} (hP : h pA = some (aI 4 fp)) {j z : Int} (hj : 0 ≤ j ∧ j < 4) : Ct l Γ m_X0_takePlace [.ref a, iv j, iv z] h (fun v h' => v = none ∧ h' = hset h pA (aI 4 (gupd fp j z))) (fun _ _ => False) := by
  refine Ct.intro hfl (by decide +kernel) rfl (Nat.le_of_ble_eq_true rfl) ?_
  intro G C R T
  show G 0 [some (.ref a), some (iv j), some (iv z)] [] h 0 0
  refine gk_iload_n C dX0_takePlace_0 rfl ?_
  refine gk_if_lt C (tgt := 20) (by omega) dX0_takePlace_1 (by decide) (fun c_1 => ?_) (fun c_1 => ?_)
  · omega
  · refine gk_iload_n C dX0_takePlace_4 rfl ?_
    refine gk_aload_n C dX0_takePlace_5 rfl ?_
    refine gk_getf C f_X0_31.r dX0_takePlace_6 (by (try simp only [hset_set]); first | assumption | exact hset_eq | (refine (hset_ne (by first | assumption | exact Ne.symm (by assumption))).trans ?_; first | assumption | exact hset_eq | (refine (hset_ne (by first | assumption | exact Ne.symm (by assumption))).trans ?_; first | assumption | exact hset_eq | (refine (hset_ne (by first | assumption | exact Ne.symm (by assumption))).trans ?_; first | assumption | exact hset_eq)))) (by rfl) ?_
    refine gk_alenI C dX0_takePlace_9 (by (try simp only [hset_set]); first | assumption | exact hset_eq | (refine (hset_ne (by first | assumption | exact Ne.symm (by assumption))).trans ?_; first | assumption | exact hset_eq | (refine (hset_ne (by first | assumption | exact Ne.symm (by assumption))).trans ?_; first | assumption | exact hset_eq | (refine (hset_ne (by first | assumption | exact Ne.symm (by assumption))).trans ?_; first | assumption | exact hset_eq)))) (by omega) ?_
    refine gk_icmp_ge C (tgt := 20) (by omega) (by omega) dX0_takePlace_10 (by decide) (fun c_10 => ?_) (fun c_10 => ?_)
    · omega
    · refine gk_aload_n C dX0_takePlace_13 rfl ?_
      refine gk_getf C f_X0_31.r dX0_takePlace_14 (by (try simp only [hset_set]); first | assumption | exact hset_eq | (refine (hset_ne (by first | assumption | exact Ne.symm (by assumption))).trans ?_; first | assumption | exact hset_eq | (refine (hset_ne (by first | assumption | exact Ne.symm (by assumption))).trans ?_; first | assumption | exact hset_eq | (refine (hset_ne (by first | assumption | exact Ne.symm (by assumption))).trans ?_; first | assumption | exact hset_eq)))) (by rfl) ?_
      refine gk_iload_n C dX0_takePlace_17 rfl ?_
      refine gk_iload_n C dX0_takePlace_18 rfl ?_
      refine gk_iast C dX0_takePlace_19 (by (try simp only [hset_set]); first | assumption | exact hset_eq | (refine (hset_ne (by first | assumption | exact Ne.symm (by assumption))).trans ?_; first | assumption | exact hset_eq | (refine (hset_ne (by first | assumption | exact Ne.symm (by assumption))).trans ?_; first | assumption | exact hset_eq | (refine (hset_ne (by first | assumption | exact Ne.symm (by assumption))).trans ?_; first | assumption | exact hset_eq)))) (by omega) (by omega) ?_
      refine (R _ _ _ _ _ (by decide) (by decide)).2.2.1 rfl dX0_takePlace_20 ?_
      exact ⟨rfl, rfl⟩

set_option maxRecDepth 100000 in
set_option maxHeartbeats 4000000 in
theorem c_X0_forgetR {l : Launch} {Γ : GA} (hfl : l.stackTraces = false) {h : Hp} {a mA pA : Nat} {nb gr ng po rk su fi tp : Int} (ha : h a = some (oBa nb mA pA gr ng po rk su fi tp)) : Ct l Γ m_X0_forgetResult [.ref a] h (fun v h' => v = none ∧ h' = hset h a (oBa nb mA pA gr ng po (-1) (-1) fi tp)) (fun _ _ => False) := by
  refine Ct.intro hfl (by decide +kernel) rfl (Nat.le_of_ble_eq_true rfl) ?_
  intro G C R T
  show G 0 [some (.ref a)] [] h 0 0
  refine gk_aload_n C dX0_forgetResult_0 rfl ?_
  refine gk_iconst C dX0_forgetResult_1 ?_
  refine gk_putf C f_X0_21 dX0_forgetResult_2 (by (try simp only [hset_set]); first | assumption | exact hset_eq | (refine (hset_ne (by first | assumption | exact Ne.symm (by assumption))).trans ?_; first | assumption | exact hset_eq | (refine (hset_ne (by first | assumption | exact Ne.symm (by assumption))).trans ?_; first | assumption | exact hset_eq | (refine (hset_ne (by first | assumption | exact Ne.symm (by assumption))).trans ?_; first | assumption | exact hset_eq)))) rfl rfl (by exact Nat.le_of_ble_eq_true rfl) ?_
  refine gk_aload_n C dX0_forgetResult_5 rfl ?_
  refine gk_iconst C dX0_forgetResult_6 ?_
  refine gk_putf C f_X0_24 dX0_forgetResult_7 (by (try simp only [hset_set]); first | assumption | exact hset_eq | (refine (hset_ne (by first | assumption | exact Ne.symm (by assumption))).trans ?_; first | assumption | exact hset_eq | (refine (hset_ne (by first | assumption | exact Ne.symm (by assumption))).trans ?_; first | assumption | exact hset_eq | (refine (hset_ne (by first | assumption | exact Ne.symm (by assumption))).trans ?_; first | assumption | exact hset_eq)))) rfl rfl (by exact Nat.le_of_ble_eq_true rfl) ?_
  refine (R _ _ _ _ _ (by decide) (by decide)).2.2.1 rfl dX0_forgetResult_10 ?_
  exact ⟨rfl, by rw [hset_set]; rfl⟩

set_option maxRecDepth 100000 in
set_option maxHeartbeats 4000000 in
theorem c_X0_takeRank {l : Launch} {Γ : GA} (hfl : l.stackTraces = false) {h : Hp} {a mA pA : Nat} {nb gr ng po rk su fi tp : Int} (ha : h a = some (oBa nb mA pA gr ng po rk su fi tp)) {r : Int} (hr : 1 ≤ r ∧ r ≤ 8) (hpo : 0 ≤ po ∧ po ≤ 1000000) (hfi : 0 ≤ fi ∧ fi ≤ 1000000) : Ct l Γ m_X0_takeRank [.ref a, iv r] h (fun v h' => v = none ∧ h' = hset h a (oBa nb mA pA gr ng (po + ptOf r) r su (if r = 1 then fi + 1 else fi) tp)) (fun _ _ => False) := by
  refine Ct.intro hfl (by decide +kernel) rfl (Nat.le_of_ble_eq_true rfl) ?_
  intro G C R T
  show G 0 [some (.ref a), some (iv r)] [] h 0 0
  refine gk_aload_n C dX0_takeRank_0 rfl ?_
  refine gk_iload_n C dX0_takeRank_1 rfl ?_
  refine gk_putf C f_X0_21 dX0_takeRank_2 (by (try simp only [hset_set]); first | assumption | exact hset_eq | (refine (hset_ne (by first | assumption | exact Ne.symm (by assumption))).trans ?_; first | assumption | exact hset_eq | (refine (hset_ne (by first | assumption | exact Ne.symm (by assumption))).trans ?_; first | assumption | exact hset_eq | (refine (hset_ne (by first | assumption | exact Ne.symm (by assumption))).trans ?_; first | assumption | exact hset_eq)))) rfl rfl (by exact Nat.le_of_ble_eq_true rfl) ?_
  refine gk_aload_n C dX0_takeRank_5 rfl ?_
  refine gk_getf C f_X0_21.r dX0_takeRank_6 (by (try simp only [hset_set]); first | assumption | exact hset_eq | (refine (hset_ne (by first | assumption | exact Ne.symm (by assumption))).trans ?_; first | assumption | exact hset_eq | (refine (hset_ne (by first | assumption | exact Ne.symm (by assumption))).trans ?_; first | assumption | exact hset_eq | (refine (hset_ne (by first | assumption | exact Ne.symm (by assumption))).trans ?_; first | assumption | exact hset_eq)))) (by rfl) ?_
  refine gk_iconst C dX0_takeRank_9 ?_
  refine gk_icmp_ne C (tgt := 23) (by omega) (by omega) dX0_takeRank_10 (by decide) (fun c_10 => ?_) (fun c_10 => ?_)
  · refine gk_aload_n C dX0_takeRank_23 rfl ?_
    refine gk_getf C f_X0_21.r dX0_takeRank_24 (by (try simp only [hset_set]); first | assumption | exact hset_eq | (refine (hset_ne (by first | assumption | exact Ne.symm (by assumption))).trans ?_; first | assumption | exact hset_eq | (refine (hset_ne (by first | assumption | exact Ne.symm (by assumption))).trans ?_; first | assumption | exact hset_eq | (refine (hset_ne (by first | assumption | exact Ne.symm (by assumption))).trans ?_; first | assumption | exact hset_eq)))) (by rfl) ?_
    refine gk_iconst C dX0_takeRank_27 ?_
    refine gk_icmp_lt C (tgt := 61) (by omega) (by omega) dX0_takeRank_28 (by decide) (fun c_28 => ?_) (fun c_28 => ?_)
    · omega
    · refine gk_aload_n C dX0_takeRank_31 rfl ?_
      refine gk_getf C f_X0_21.r dX0_takeRank_32 (by (try simp only [hset_set]); first | assumption | exact hset_eq | (refine (hset_ne (by first | assumption | exact Ne.symm (by assumption))).trans ?_; first | assumption | exact hset_eq | (refine (hset_ne (by first | assumption | exact Ne.symm (by assumption))).trans ?_; first | assumption | exact hset_eq | (refine (hset_ne (by first | assumption | exact Ne.symm (by assumption))).trans ?_; first | assumption | exact hset_eq)))) (by rfl) ?_
      refine gk_statP C gs_P dX0_takeRank_35 ?_
      refine gk_alenP C dX0_takeRank_38 ?_
      refine gk_icmp_gt C (tgt := 61) (by omega) (by omega) dX0_takeRank_39 (by decide) (fun c_39 => ?_) (fun c_39 => ?_)
      · try simp only [hset_set]
        refine (R _ _ _ _ _ (by decide) (by decide)).2.2.1 rfl dX0_takeRank_61 ?_
        refine ⟨rfl, ?_⟩
        refine congrArg (hset h a) ?_
        unfold ptOf
        simp only [List.set_cons_zero, List.set_cons_succ]
        unfold oBa
        congr 1
        simp only [List.cons.injEq, and_true, true_and]
        first | (refine ⟨congrArg iv ?_, congrArg iv ?_⟩ <;> split <;> omega) | (refine ⟨congrArg iv ?_, congrArg iv ?_⟩ <;> split <;> first | omega | rfl) | (refine congrArg iv ?_ <;> split <;> omega)
      · refine gk_aload_n C dX0_takeRank_42 rfl ?_
        refine gk_dup C rfl dX0_takeRank_43 ?_
        refine gk_getf C f_X0_40.r dX0_takeRank_44 (by (try simp only [hset_set]); first | assumption | exact hset_eq | (refine (hset_ne (by first | assumption | exact Ne.symm (by assumption))).trans ?_; first | assumption | exact hset_eq | (refine (hset_ne (by first | assumption | exact Ne.symm (by assumption))).trans ?_; first | assumption | exact hset_eq | (refine (hset_ne (by first | assumption | exact Ne.symm (by assumption))).trans ?_; first | assumption | exact hset_eq)))) (by rfl) ?_
        refine gk_statP C gs_P dX0_takeRank_47 ?_
        refine gk_aload_n C dX0_takeRank_50 rfl ?_
        refine gk_getf C f_X0_21.r dX0_takeRank_51 (by (try simp only [hset_set]); first | assumption | exact hset_eq | (refine (hset_ne (by first | assumption | exact Ne.symm (by assumption))).trans ?_; first | assumption | exact hset_eq | (refine (hset_ne (by first | assumption | exact Ne.symm (by assumption))).trans ?_; first | assumption | exact hset_eq | (refine (hset_ne (by first | assumption | exact Ne.symm (by assumption))).trans ?_; first | assumption | exact hset_eq)))) (by rfl) ?_
        refine gk_iconst C dX0_takeRank_54 ?_
        refine gk_isub C dX0_takeRank_55 ?_
        refine gk_ialdP C (by omega) dX0_takeRank_56 ?_
        refine gk_iadd C dX0_takeRank_57 ?_
        refine gk_putf C f_X0_40 dX0_takeRank_58 (by (try simp only [hset_set]); first | assumption | exact hset_eq | (refine (hset_ne (by first | assumption | exact Ne.symm (by assumption))).trans ?_; first | assumption | exact hset_eq | (refine (hset_ne (by first | assumption | exact Ne.symm (by assumption))).trans ?_; first | assumption | exact hset_eq | (refine (hset_ne (by first | assumption | exact Ne.symm (by assumption))).trans ?_; first | assumption | exact hset_eq)))) rfl rfl (by exact Nat.le_of_ble_eq_true rfl) ?_
        try simp only [hset_set]
        refine (R _ _ _ _ _ (by decide) (by decide)).2.2.1 rfl dX0_takeRank_61 ?_
        refine ⟨rfl, ?_⟩
        refine congrArg (hset h a) ?_
        unfold ptOf
        simp only [List.set_cons_zero, List.set_cons_succ]
        unfold oBa
        congr 1
        simp only [List.cons.injEq, and_true, true_and]
        first | (refine ⟨congrArg iv ?_, congrArg iv ?_⟩ <;> split <;> omega) | (refine ⟨congrArg iv ?_, congrArg iv ?_⟩ <;> split <;> first | omega | rfl) | (refine congrArg iv ?_ <;> split <;> omega)
  · refine gk_aload_n C dX0_takeRank_13 rfl ?_
    refine gk_dup C rfl dX0_takeRank_14 ?_
    refine gk_getf C f_X0_34.r dX0_takeRank_15 (by (try simp only [hset_set]); first | assumption | exact hset_eq | (refine (hset_ne (by first | assumption | exact Ne.symm (by assumption))).trans ?_; first | assumption | exact hset_eq | (refine (hset_ne (by first | assumption | exact Ne.symm (by assumption))).trans ?_; first | assumption | exact hset_eq | (refine (hset_ne (by first | assumption | exact Ne.symm (by assumption))).trans ?_; first | assumption | exact hset_eq)))) (by rfl) ?_
    refine gk_iconst C dX0_takeRank_18 ?_
    refine gk_iadd C dX0_takeRank_19 ?_
    refine gk_putf C f_X0_34 dX0_takeRank_20 (by (try simp only [hset_set]); first | assumption | exact hset_eq | (refine (hset_ne (by first | assumption | exact Ne.symm (by assumption))).trans ?_; first | assumption | exact hset_eq | (refine (hset_ne (by first | assumption | exact Ne.symm (by assumption))).trans ?_; first | assumption | exact hset_eq | (refine (hset_ne (by first | assumption | exact Ne.symm (by assumption))).trans ?_; first | assumption | exact hset_eq)))) rfl rfl (by exact Nat.le_of_ble_eq_true rfl) ?_
    refine gk_aload_n C dX0_takeRank_23 rfl ?_
    refine gk_getf C f_X0_21.r dX0_takeRank_24 (by (try simp only [hset_set]); first | assumption | exact hset_eq | (refine (hset_ne (by first | assumption | exact Ne.symm (by assumption))).trans ?_; first | assumption | exact hset_eq | (refine (hset_ne (by first | assumption | exact Ne.symm (by assumption))).trans ?_; first | assumption | exact hset_eq | (refine (hset_ne (by first | assumption | exact Ne.symm (by assumption))).trans ?_; first | assumption | exact hset_eq)))) (by rfl) ?_
    refine gk_iconst C dX0_takeRank_27 ?_
    refine gk_icmp_lt C (tgt := 61) (by omega) (by omega) dX0_takeRank_28 (by decide) (fun c_28 => ?_) (fun c_28 => ?_)
    · omega
    · refine gk_aload_n C dX0_takeRank_31 rfl ?_
      refine gk_getf C f_X0_21.r dX0_takeRank_32 (by (try simp only [hset_set]); first | assumption | exact hset_eq | (refine (hset_ne (by first | assumption | exact Ne.symm (by assumption))).trans ?_; first | assumption | exact hset_eq | (refine (hset_ne (by first | assumption | exact Ne.symm (by assumption))).trans ?_; first | assumption | exact hset_eq | (refine (hset_ne (by first | assumption | exact Ne.symm (by assumption))).trans ?_; first | assumption | exact hset_eq)))) (by rfl) ?_
      refine gk_statP C gs_P dX0_takeRank_35 ?_
      refine gk_alenP C dX0_takeRank_38 ?_
      refine gk_icmp_gt C (tgt := 61) (by omega) (by omega) dX0_takeRank_39 (by decide) (fun c_39 => ?_) (fun c_39 => ?_)
      · try simp only [hset_set]
        refine (R _ _ _ _ _ (by decide) (by decide)).2.2.1 rfl dX0_takeRank_61 ?_
        refine ⟨rfl, ?_⟩
        refine congrArg (hset h a) ?_
        unfold ptOf
        simp only [List.set_cons_zero, List.set_cons_succ]
        unfold oBa
        congr 1
        simp only [List.cons.injEq, and_true, true_and]
        first | (refine ⟨congrArg iv ?_, congrArg iv ?_⟩ <;> split <;> omega) | (refine ⟨congrArg iv ?_, congrArg iv ?_⟩ <;> split <;> first | omega | rfl) | (refine congrArg iv ?_ <;> split <;> omega)
      · refine gk_aload_n C dX0_takeRank_42 rfl ?_
        refine gk_dup C rfl dX0_takeRank_43 ?_
        refine gk_getf C f_X0_40.r dX0_takeRank_44 (by (try simp only [hset_set]); first | assumption | exact hset_eq | (refine (hset_ne (by first | assumption | exact Ne.symm (by assumption))).trans ?_; first | assumption | exact hset_eq | (refine (hset_ne (by first | assumption | exact Ne.symm (by assumption))).trans ?_; first | assumption | exact hset_eq | (refine (hset_ne (by first | assumption | exact Ne.symm (by assumption))).trans ?_; first | assumption | exact hset_eq)))) (by rfl) ?_
        refine gk_statP C gs_P dX0_takeRank_47 ?_
        refine gk_aload_n C dX0_takeRank_50 rfl ?_
        refine gk_getf C f_X0_21.r dX0_takeRank_51 (by (try simp only [hset_set]); first | assumption | exact hset_eq | (refine (hset_ne (by first | assumption | exact Ne.symm (by assumption))).trans ?_; first | assumption | exact hset_eq | (refine (hset_ne (by first | assumption | exact Ne.symm (by assumption))).trans ?_; first | assumption | exact hset_eq | (refine (hset_ne (by first | assumption | exact Ne.symm (by assumption))).trans ?_; first | assumption | exact hset_eq)))) (by rfl) ?_
        refine gk_iconst C dX0_takeRank_54 ?_
        refine gk_isub C dX0_takeRank_55 ?_
        refine gk_ialdP C (by omega) dX0_takeRank_56 ?_
        refine gk_iadd C dX0_takeRank_57 ?_
        refine gk_putf C f_X0_40 dX0_takeRank_58 (by (try simp only [hset_set]); first | assumption | exact hset_eq | (refine (hset_ne (by first | assumption | exact Ne.symm (by assumption))).trans ?_; first | assumption | exact hset_eq | (refine (hset_ne (by first | assumption | exact Ne.symm (by assumption))).trans ?_; first | assumption | exact hset_eq | (refine (hset_ne (by first | assumption | exact Ne.symm (by assumption))).trans ?_; first | assumption | exact hset_eq)))) rfl rfl (by exact Nat.le_of_ble_eq_true rfl) ?_
        try simp only [hset_set]
        refine (R _ _ _ _ _ (by decide) (by decide)).2.2.1 rfl dX0_takeRank_61 ?_
        refine ⟨rfl, ?_⟩
        refine congrArg (hset h a) ?_
        unfold ptOf
        simp only [List.set_cons_zero, List.set_cons_succ]
        unfold oBa
        congr 1
        simp only [List.cons.injEq, and_true, true_and]
        first | (refine ⟨congrArg iv ?_, congrArg iv ?_⟩ <;> split <;> omega) | (refine ⟨congrArg iv ?_, congrArg iv ?_⟩ <;> split <;> first | omega | rfl) | (refine congrArg iv ?_ <;> split <;> omega)

set_option maxRecDepth 100000 in
set_option maxHeartbeats 4000000 in
theorem c_X0_ahead {l : Launch} {Γ : GA} (hfl : l.stackTraces = false) {h : Hp} {a mA pA : Nat} {nb gr ng po rk su fi tp : Int} (ha : h a = some (oBa nb mA pA gr ng po rk su fi tp)) {fp : Int → Int} (hP : h pA = some (aI 4 fp)) (hf : ∀ i : Int, 0 ≤ i → i < 4 → 0 ≤ fp i ∧ fp i ≤ 100) {a2 mA2 pA2 : Nat} {nb2 gr2 ng2 po2 rk2 su2 fi2 tp2 : Int} (ha2 : h a2 = some (oBa nb2 mA2 pA2 gr2 ng2 po2 rk2 su2 fi2 tp2)) {fp2 : Int → Int} (hP2 : h pA2 = some (aI 4 fp2)) (hf2 : ∀ i : Int, 0 ≤ i → i < 4 → 0 ≤ fp2 i ∧ fp2 i ≤ 100) (hs : -1 ≤ su ∧ su ≤ 1000) (hs2 : -1 ≤ su2 ∧ su2 ≤ 1000) (hn : 0 ≤ nb ∧ nb ≤ 8) (hn2 : 0 ≤ nb2 ∧ nb2 ≤ 8) : Ct l Γ m_X0_isRankedAheadOf [.ref a, .ref a2] h (fun v h' => ∃ r : Int, v = some (iv r) ∧ (r = 0 ∨ r = 1) ∧ (r = 1 ↔ isBf su su2 fp fp2 nb nb2) ∧ h' = h) (fun _ _ => False) := by
  refine Ct.intro hfl (by decide +kernel) rfl (Nat.le_of_ble_eq_true rfl) ?_
  intro G C R T
  show G 0 [some (.ref a), some (.ref a2), none, none] [] h 0 0
  refine gk_aload_n C dX0_isRankedAheadOf_0 rfl ?_
  refine gk_getf C f_X0_24.r dX0_isRankedAheadOf_1 (by (try simp only [hset_set]); first | assumption | exact hset_eq | (refine (hset_ne (by first | assumption | exact Ne.symm (by assumption))).trans ?_; first | assumption | exact hset_eq | (refine (hset_ne (by first | assumption | exact Ne.symm (by assumption))).trans ?_; first | assumption | exact hset_eq | (refine (hset_ne (by first | assumption | exact Ne.symm (by assumption))).trans ?_; first | assumption | exact hset_eq)))) (by rfl) ?_
  refine gk_aload_n C dX0_isRankedAheadOf_4 rfl ?_
  refine gk_getf C f_X0_24.r dX0_isRankedAheadOf_5 (by (try simp only [hset_set]); first | assumption | exact hset_eq | (refine (hset_ne (by first | assumption | exact Ne.symm (by assumption))).trans ?_; first | assumption | exact hset_eq | (refine (hset_ne (by first | assumption | exact Ne.symm (by assumption))).trans ?_; first | assumption | exact hset_eq | (refine (hset_ne (by first | assumption | exact Ne.symm (by assumption))).trans ?_; first | assumption | exact hset_eq)))) (by rfl) ?_
  refine gk_icmp_eq C (tgt := 28) (by omega) (by omega) dX0_isRankedAheadOf_8 (by decide) (fun c_8 => ?_) (fun c_8 => ?_)
  · refine gk_aload_n C dX0_isRankedAheadOf_28 rfl ?_
    refine gk_iconst C dX0_isRankedAheadOf_29 ?_
    refine gk_callV C o_X0_placeBy k_X0_43 dX0_isRankedAheadOf_30 (c_X0_placeBy hfl ha hP (j := 3) (by omega)) (by (try simp only [hset_set]); first | assumption | exact hset_eq | (refine (hset_ne (by first | assumption | exact Ne.symm (by assumption))).trans ?_; first | assumption | exact hset_eq | (refine (hset_ne (by first | assumption | exact Ne.symm (by assumption))).trans ?_; first | assumption | exact hset_eq | (refine (hset_ne (by first | assumption | exact Ne.symm (by assumption))).trans ?_; first | assumption | exact hset_eq)))) rfl rfl rfl (by decide) (by decide) (by exact Nat.le_of_ble_eq_true rfl) (fun _ _ z => z.elim) (fun v_30 h_30 p_30 => ?_)
    obtain ⟨rfl, rfl⟩ := p_30
    dsimp only [gk_push]
    have q0 := hf 0 (by omega) (by omega)
    have q1 := hf 1 (by omega) (by omega)
    have q3 := hf 3 (by omega) (by omega)
    have r0 := hf2 0 (by omega) (by omega)
    have r1 := hf2 1 (by omega) (by omega)
    have r3 := hf2 3 (by omega) (by omega)
    refine gk_aload_n C dX0_isRankedAheadOf_33 rfl ?_
    refine gk_iconst C dX0_isRankedAheadOf_34 ?_
    refine gk_callV C o_X0_placeBy k_X0_43 dX0_isRankedAheadOf_35 (c_X0_placeBy hfl ha2 hP2 (j := 3) (by omega)) (by (try simp only [hset_set]); first | assumption | exact hset_eq | (refine (hset_ne (by first | assumption | exact Ne.symm (by assumption))).trans ?_; first | assumption | exact hset_eq | (refine (hset_ne (by first | assumption | exact Ne.symm (by assumption))).trans ?_; first | assumption | exact hset_eq | (refine (hset_ne (by first | assumption | exact Ne.symm (by assumption))).trans ?_; first | assumption | exact hset_eq)))) rfl rfl rfl (by decide) (by decide) (by exact Nat.le_of_ble_eq_true rfl) (fun _ _ z => z.elim) (fun v_35 h_35 p_35 => ?_)
    obtain ⟨rfl, rfl⟩ := p_35
    dsimp only [gk_push]
    refine gk_icmp_eq C (tgt := 60) (by omega) (by omega) dX0_isRankedAheadOf_38 (by decide) (fun c_38 => ?_) (fun c_38 => ?_)
    · refine gk_aload_n C dX0_isRankedAheadOf_60 rfl ?_
      refine gk_iconst C dX0_isRankedAheadOf_61 ?_
      refine gk_callV C o_X0_placeBy k_X0_43 dX0_isRankedAheadOf_62 (c_X0_placeBy hfl ha hP (j := 0) (by omega)) (by (try simp only [hset_set]); first | assumption | exact hset_eq | (refine (hset_ne (by first | assumption | exact Ne.symm (by assumption))).trans ?_; first | assumption | exact hset_eq | (refine (hset_ne (by first | assumption | exact Ne.symm (by assumption))).trans ?_; first | assumption | exact hset_eq | (refine (hset_ne (by first | assumption | exact Ne.symm (by assumption))).trans ?_; first | assumption | exact hset_eq)))) rfl rfl rfl (by decide) (by decide) (by exact Nat.le_of_ble_eq_true rfl) (fun _ _ z => z.elim) (fun v_62 h_62 p_62 => ?_)
      obtain ⟨rfl, rfl⟩ := p_62
      dsimp only [gk_push]
      refine gk_aload_n C dX0_isRankedAheadOf_65 rfl ?_
      refine gk_iconst C dX0_isRankedAheadOf_66 ?_
      refine gk_callV C o_X0_placeBy k_X0_43 dX0_isRankedAheadOf_67 (c_X0_placeBy hfl ha hP (j := 1) (by omega)) (by (try simp only [hset_set]); first | assumption | exact hset_eq | (refine (hset_ne (by first | assumption | exact Ne.symm (by assumption))).trans ?_; first | assumption | exact hset_eq | (refine (hset_ne (by first | assumption | exact Ne.symm (by assumption))).trans ?_; first | assumption | exact hset_eq | (refine (hset_ne (by first | assumption | exact Ne.symm (by assumption))).trans ?_; first | assumption | exact hset_eq)))) rfl rfl rfl (by decide) (by decide) (by exact Nat.le_of_ble_eq_true rfl) (fun _ _ z => z.elim) (fun v_67 h_67 p_67 => ?_)
      obtain ⟨rfl, rfl⟩ := p_67
      dsimp only [gk_push]
      refine gk_iadd C dX0_isRankedAheadOf_70 ?_
      refine gk_istore_n_2 C rfl (by decide) dX0_isRankedAheadOf_71 ?_
      refine gk_aload_n C dX0_isRankedAheadOf_72 rfl ?_
      refine gk_iconst C dX0_isRankedAheadOf_73 ?_
      refine gk_callV C o_X0_placeBy k_X0_43 dX0_isRankedAheadOf_74 (c_X0_placeBy hfl ha2 hP2 (j := 0) (by omega)) (by (try simp only [hset_set]); first | assumption | exact hset_eq | (refine (hset_ne (by first | assumption | exact Ne.symm (by assumption))).trans ?_; first | assumption | exact hset_eq | (refine (hset_ne (by first | assumption | exact Ne.symm (by assumption))).trans ?_; first | assumption | exact hset_eq | (refine (hset_ne (by first | assumption | exact Ne.symm (by assumption))).trans ?_; first | assumption | exact hset_eq)))) rfl rfl rfl (by decide) (by decide) (by exact Nat.le_of_ble_eq_true rfl) (fun _ _ z => z.elim) (fun v_74 h_74 p_74 => ?_)
      obtain ⟨rfl, rfl⟩ := p_74
      dsimp only [gk_push]
      refine gk_aload_n C dX0_isRankedAheadOf_77 rfl ?_
      refine gk_iconst C dX0_isRankedAheadOf_78 ?_
      refine gk_callV C o_X0_placeBy k_X0_43 dX0_isRankedAheadOf_79 (c_X0_placeBy hfl ha2 hP2 (j := 1) (by omega)) (by (try simp only [hset_set]); first | assumption | exact hset_eq | (refine (hset_ne (by first | assumption | exact Ne.symm (by assumption))).trans ?_; first | assumption | exact hset_eq | (refine (hset_ne (by first | assumption | exact Ne.symm (by assumption))).trans ?_; first | assumption | exact hset_eq | (refine (hset_ne (by first | assumption | exact Ne.symm (by assumption))).trans ?_; first | assumption | exact hset_eq)))) rfl rfl rfl (by decide) (by decide) (by exact Nat.le_of_ble_eq_true rfl) (fun _ _ z => z.elim) (fun v_79 h_79 p_79 => ?_)
      obtain ⟨rfl, rfl⟩ := p_79
      dsimp only [gk_push]
      refine gk_iadd C dX0_isRankedAheadOf_82 ?_
      refine gk_istore_n_3 C rfl (by decide) dX0_isRankedAheadOf_83 ?_
      refine gk_iload_n C dX0_isRankedAheadOf_84 rfl ?_
      refine gk_iload_n C dX0_isRankedAheadOf_85 rfl ?_
      refine gk_icmp_eq C (tgt := 100) (by omega) (by omega) dX0_isRankedAheadOf_86 (by decide) (fun c_86 => ?_) (fun c_86 => ?_)
      · refine gk_aload_n C dX0_isRankedAheadOf_100 rfl ?_
        refine gk_getf C f_X0_9.r dX0_isRankedAheadOf_101 (by (try simp only [hset_set]); first | assumption | exact hset_eq | (refine (hset_ne (by first | assumption | exact Ne.symm (by assumption))).trans ?_; first | assumption | exact hset_eq | (refine (hset_ne (by first | assumption | exact Ne.symm (by assumption))).trans ?_; first | assumption | exact hset_eq | (refine (hset_ne (by first | assumption | exact Ne.symm (by assumption))).trans ?_; first | assumption | exact hset_eq)))) (by rfl) ?_
        refine gk_aload_n C dX0_isRankedAheadOf_104 rfl ?_
        refine gk_getf C f_X0_9.r dX0_isRankedAheadOf_105 (by (try simp only [hset_set]); first | assumption | exact hset_eq | (refine (hset_ne (by first | assumption | exact Ne.symm (by assumption))).trans ?_; first | assumption | exact hset_eq | (refine (hset_ne (by first | assumption | exact Ne.symm (by assumption))).trans ?_; first | assumption | exact hset_eq | (refine (hset_ne (by first | assumption | exact Ne.symm (by assumption))).trans ?_; first | assumption | exact hset_eq)))) (by rfl) ?_
        refine gk_icmp_ge C (tgt := 115) (by omega) (by omega) dX0_isRankedAheadOf_108 (by decide) (fun c_108 => ?_) (fun c_108 => ?_)
        · refine gk_iconst C dX0_isRankedAheadOf_115 ?_
          refine (R _ _ _ _ _ (by decide) (by decide)).2.1 _ rfl (by omega) dX0_isRankedAheadOf_116 ?_
          first | exact ⟨1, rfl, by omega, by unfold isBf; omega, rfl⟩ | exact ⟨0, rfl, by omega, by unfold isBf; omega, rfl⟩
        · refine gk_iconst C dX0_isRankedAheadOf_111 ?_
          refine gk_goto C (tgt := 116) dX0_isRankedAheadOf_112 (by decide) ?_
          refine (R _ _ _ _ _ (by decide) (by decide)).2.1 _ rfl (by omega) dX0_isRankedAheadOf_116 ?_
          first | exact ⟨1, rfl, by omega, by unfold isBf; omega, rfl⟩ | exact ⟨0, rfl, by omega, by unfold isBf; omega, rfl⟩
      · refine gk_iload_n C dX0_isRankedAheadOf_89 rfl ?_
        refine gk_iload_n C dX0_isRankedAheadOf_90 rfl ?_
        refine gk_icmp_ge C (tgt := 98) (by omega) (by omega) dX0_isRankedAheadOf_91 (by decide) (fun c_91 => ?_) (fun c_91 => ?_)
        · refine gk_iconst C dX0_isRankedAheadOf_98 ?_
          refine (R _ _ _ _ _ (by decide) (by decide)).2.1 _ rfl (by omega) dX0_isRankedAheadOf_99 ?_
          first | exact ⟨1, rfl, by omega, by unfold isBf; omega, rfl⟩ | exact ⟨0, rfl, by omega, by unfold isBf; omega, rfl⟩
        · refine gk_iconst C dX0_isRankedAheadOf_94 ?_
          refine gk_goto C (tgt := 99) dX0_isRankedAheadOf_95 (by decide) ?_
          refine (R _ _ _ _ _ (by decide) (by decide)).2.1 _ rfl (by omega) dX0_isRankedAheadOf_99 ?_
          first | exact ⟨1, rfl, by omega, by unfold isBf; omega, rfl⟩ | exact ⟨0, rfl, by omega, by unfold isBf; omega, rfl⟩
    · refine gk_aload_n C dX0_isRankedAheadOf_41 rfl ?_
      refine gk_iconst C dX0_isRankedAheadOf_42 ?_
      refine gk_callV C o_X0_placeBy k_X0_43 dX0_isRankedAheadOf_43 (c_X0_placeBy hfl ha hP (j := 3) (by omega)) (by (try simp only [hset_set]); first | assumption | exact hset_eq | (refine (hset_ne (by first | assumption | exact Ne.symm (by assumption))).trans ?_; first | assumption | exact hset_eq | (refine (hset_ne (by first | assumption | exact Ne.symm (by assumption))).trans ?_; first | assumption | exact hset_eq | (refine (hset_ne (by first | assumption | exact Ne.symm (by assumption))).trans ?_; first | assumption | exact hset_eq)))) rfl rfl rfl (by decide) (by decide) (by exact Nat.le_of_ble_eq_true rfl) (fun _ _ z => z.elim) (fun v_43 h_43 p_43 => ?_)
      obtain ⟨rfl, rfl⟩ := p_43
      dsimp only [gk_push]
      refine gk_aload_n C dX0_isRankedAheadOf_46 rfl ?_
      refine gk_iconst C dX0_isRankedAheadOf_47 ?_
      refine gk_callV C o_X0_placeBy k_X0_43 dX0_isRankedAheadOf_48 (c_X0_placeBy hfl ha2 hP2 (j := 3) (by omega)) (by (try simp only [hset_set]); first | assumption | exact hset_eq | (refine (hset_ne (by first | assumption | exact Ne.symm (by assumption))).trans ?_; first | assumption | exact hset_eq | (refine (hset_ne (by first | assumption | exact Ne.symm (by assumption))).trans ?_; first | assumption | exact hset_eq | (refine (hset_ne (by first | assumption | exact Ne.symm (by assumption))).trans ?_; first | assumption | exact hset_eq)))) rfl rfl rfl (by decide) (by decide) (by exact Nat.le_of_ble_eq_true rfl) (fun _ _ z => z.elim) (fun v_48 h_48 p_48 => ?_)
      obtain ⟨rfl, rfl⟩ := p_48
      dsimp only [gk_push]
      refine gk_icmp_ge C (tgt := 58) (by omega) (by omega) dX0_isRankedAheadOf_51 (by decide) (fun c_51 => ?_) (fun c_51 => ?_)
      · refine gk_iconst C dX0_isRankedAheadOf_58 ?_
        refine (R _ _ _ _ _ (by decide) (by decide)).2.1 _ rfl (by omega) dX0_isRankedAheadOf_59 ?_
        first | exact ⟨1, rfl, by omega, by unfold isBf; omega, rfl⟩ | exact ⟨0, rfl, by omega, by unfold isBf; omega, rfl⟩
      · refine gk_iconst C dX0_isRankedAheadOf_54 ?_
        refine gk_goto C (tgt := 59) dX0_isRankedAheadOf_55 (by decide) ?_
        refine (R _ _ _ _ _ (by decide) (by decide)).2.1 _ rfl (by omega) dX0_isRankedAheadOf_59 ?_
        first | exact ⟨1, rfl, by omega, by unfold isBf; omega, rfl⟩ | exact ⟨0, rfl, by omega, by unfold isBf; omega, rfl⟩
  · refine gk_aload_n C dX0_isRankedAheadOf_11 rfl ?_
    refine gk_getf C f_X0_24.r dX0_isRankedAheadOf_12 (by (try simp only [hset_set]); first | assumption | exact hset_eq | (refine (hset_ne (by first | assumption | exact Ne.symm (by assumption))).trans ?_; first | assumption | exact hset_eq | (refine (hset_ne (by first | assumption | exact Ne.symm (by assumption))).trans ?_; first | assumption | exact hset_eq | (refine (hset_ne (by first | assumption | exact Ne.symm (by assumption))).trans ?_; first | assumption | exact hset_eq)))) (by rfl) ?_
    refine gk_aload_n C dX0_isRankedAheadOf_15 rfl ?_
    refine gk_getf C f_X0_24.r dX0_isRankedAheadOf_16 (by (try simp only [hset_set]); first | assumption | exact hset_eq | (refine (hset_ne (by first | assumption | exact Ne.symm (by assumption))).trans ?_; first | assumption | exact hset_eq | (refine (hset_ne (by first | assumption | exact Ne.symm (by assumption))).trans ?_; first | assumption | exact hset_eq | (refine (hset_ne (by first | assumption | exact Ne.symm (by assumption))).trans ?_; first | assumption | exact hset_eq)))) (by rfl) ?_
    refine gk_icmp_ge C (tgt := 26) (by omega) (by omega) dX0_isRankedAheadOf_19 (by decide) (fun c_19 => ?_) (fun c_19 => ?_)
    · refine gk_iconst C dX0_isRankedAheadOf_26 ?_
      refine (R _ _ _ _ _ (by decide) (by decide)).2.1 _ rfl (by omega) dX0_isRankedAheadOf_27 ?_
      first | exact ⟨1, rfl, by omega, by unfold isBf; omega, rfl⟩ | exact ⟨0, rfl, by omega, by unfold isBf; omega, rfl⟩
    · refine gk_iconst C dX0_isRankedAheadOf_22 ?_
      refine gk_goto C (tgt := 27) dX0_isRankedAheadOf_23 (by decide) ?_
      refine (R _ _ _ _ _ (by decide) (by decide)).2.1 _ rfl (by omega) dX0_isRankedAheadOf_27 ?_
      first | exact ⟨1, rfl, by omega, by unfold isBf; omega, rfl⟩ | exact ⟨0, rfl, by omega, by unfold isBf; omega, rfl⟩

set_option maxRecDepth 100000 in
set_option maxHeartbeats 4000000 in
theorem c_X0_begin {l : Launch} {Γ : GA} (hfl : l.stackTraces = false) {h : Hp} {a mA pA : Nat} {nb gr ng po rk su fi tp : Int} (ha : h a = some (oBa nb mA pA gr ng po rk su fi tp)) (hg : 1 ≤ gr ∧ gr ≤ 5) (hg2 : 1 ≤ ng ∧ ng ≤ 5) : Ct l Γ m_X0_beginSeason [.ref a] h (fun v h' => v = some (iv (if gr = ng then 0 else 1)) ∧ h' = hset h a (oBa nb mA pA ng ng 0 rk su fi tp)) (fun _ _ => False) := by
  refine Ct.intro hfl (by decide +kernel) rfl (Nat.le_of_ble_eq_true rfl) ?_
  intro G C R T
  show G 0 [some (.ref a), none] [] h 0 0
  refine gk_aload_n C dX0_beginSeason_0 rfl ?_
  refine gk_getf C f_X0_15.r dX0_beginSeason_1 (by (try simp only [hset_set]); first | assumption | exact hset_eq | (refine (hset_ne (by first | assumption | exact Ne.symm (by assumption))).trans ?_; first | assumption | exact hset_eq | (refine (hset_ne (by first | assumption | exact Ne.symm (by assumption))).trans ?_; first | assumption | exact hset_eq | (refine (hset_ne (by first | assumption | exact Ne.symm (by assumption))).trans ?_; first | assumption | exact hset_eq)))) (by rfl) ?_
  refine gk_aload_n C dX0_beginSeason_4 rfl ?_
  refine gk_getf C f_X0_18.r dX0_beginSeason_5 (by (try simp only [hset_set]); first | assumption | exact hset_eq | (refine (hset_ne (by first | assumption | exact Ne.symm (by assumption))).trans ?_; first | assumption | exact hset_eq | (refine (hset_ne (by first | assumption | exact Ne.symm (by assumption))).trans ?_; first | assumption | exact hset_eq | (refine (hset_ne (by first | assumption | exact Ne.symm (by assumption))).trans ?_; first | assumption | exact hset_eq)))) (by rfl) ?_
  refine gk_icmp_eq C (tgt := 15) (by omega) (by omega) dX0_beginSeason_8 (by decide) (fun c_8 => ?_) (fun c_8 => ?_)
  · refine gk_iconst C dX0_beginSeason_15 ?_
    refine gk_istore_n_1 C rfl (by decide) dX0_beginSeason_16 ?_
    refine gk_aload_n C dX0_beginSeason_17 rfl ?_
    refine gk_aload_n C dX0_beginSeason_18 rfl ?_
    refine gk_getf C f_X0_18.r dX0_beginSeason_19 (by (try simp only [hset_set]); first | assumption | exact hset_eq | (refine (hset_ne (by first | assumption | exact Ne.symm (by assumption))).trans ?_; first | assumption | exact hset_eq | (refine (hset_ne (by first | assumption | exact Ne.symm (by assumption))).trans ?_; first | assumption | exact hset_eq | (refine (hset_ne (by first | assumption | exact Ne.symm (by assumption))).trans ?_; first | assumption | exact hset_eq)))) (by rfl) ?_
    refine gk_putf C f_X0_15 dX0_beginSeason_22 (by (try simp only [hset_set]); first | assumption | exact hset_eq | (refine (hset_ne (by first | assumption | exact Ne.symm (by assumption))).trans ?_; first | assumption | exact hset_eq | (refine (hset_ne (by first | assumption | exact Ne.symm (by assumption))).trans ?_; first | assumption | exact hset_eq | (refine (hset_ne (by first | assumption | exact Ne.symm (by assumption))).trans ?_; first | assumption | exact hset_eq)))) rfl rfl (by exact Nat.le_of_ble_eq_true rfl) ?_
    refine gk_aload_n C dX0_beginSeason_25 rfl ?_
    refine gk_iconst C dX0_beginSeason_26 ?_
    refine gk_putf C f_X0_40 dX0_beginSeason_27 (by (try simp only [hset_set]); first | assumption | exact hset_eq | (refine (hset_ne (by first | assumption | exact Ne.symm (by assumption))).trans ?_; first | assumption | exact hset_eq | (refine (hset_ne (by first | assumption | exact Ne.symm (by assumption))).trans ?_; first | assumption | exact hset_eq | (refine (hset_ne (by first | assumption | exact Ne.symm (by assumption))).trans ?_; first | assumption | exact hset_eq)))) rfl rfl (by exact Nat.le_of_ble_eq_true rfl) ?_
    refine gk_iload_n C dX0_beginSeason_30 rfl ?_
    refine (R _ _ _ _ _ (by decide) (by decide)).2.1 _ rfl (by omega) dX0_beginSeason_31 ?_
    refine ⟨congrArg (fun q => some (iv q)) ?_, by rw [hset_set]; rfl⟩
    split <;> omega
  · refine gk_iconst C dX0_beginSeason_11 ?_
    refine gk_goto C (tgt := 16) dX0_beginSeason_12 (by decide) ?_
    refine gk_istore_n_1 C rfl (by decide) dX0_beginSeason_16 ?_
    refine gk_aload_n C dX0_beginSeason_17 rfl ?_
    refine gk_aload_n C dX0_beginSeason_18 rfl ?_
    refine gk_getf C f_X0_18.r dX0_beginSeason_19 (by (try simp only [hset_set]); first | assumption | exact hset_eq | (refine (hset_ne (by first | assumption | exact Ne.symm (by assumption))).trans ?_; first | assumption | exact hset_eq | (refine (hset_ne (by first | assumption | exact Ne.symm (by assumption))).trans ?_; first | assumption | exact hset_eq | (refine (hset_ne (by first | assumption | exact Ne.symm (by assumption))).trans ?_; first | assumption | exact hset_eq)))) (by rfl) ?_
    refine gk_putf C f_X0_15 dX0_beginSeason_22 (by (try simp only [hset_set]); first | assumption | exact hset_eq | (refine (hset_ne (by first | assumption | exact Ne.symm (by assumption))).trans ?_; first | assumption | exact hset_eq | (refine (hset_ne (by first | assumption | exact Ne.symm (by assumption))).trans ?_; first | assumption | exact hset_eq | (refine (hset_ne (by first | assumption | exact Ne.symm (by assumption))).trans ?_; first | assumption | exact hset_eq)))) rfl rfl (by exact Nat.le_of_ble_eq_true rfl) ?_
    refine gk_aload_n C dX0_beginSeason_25 rfl ?_
    refine gk_iconst C dX0_beginSeason_26 ?_
    refine gk_putf C f_X0_40 dX0_beginSeason_27 (by (try simp only [hset_set]); first | assumption | exact hset_eq | (refine (hset_ne (by first | assumption | exact Ne.symm (by assumption))).trans ?_; first | assumption | exact hset_eq | (refine (hset_ne (by first | assumption | exact Ne.symm (by assumption))).trans ?_; first | assumption | exact hset_eq | (refine (hset_ne (by first | assumption | exact Ne.symm (by assumption))).trans ?_; first | assumption | exact hset_eq)))) rfl rfl (by exact Nat.le_of_ble_eq_true rfl) ?_
    refine gk_iload_n C dX0_beginSeason_30 rfl ?_
    refine (R _ _ _ _ _ (by decide) (by decide)).2.1 _ rfl (by omega) dX0_beginSeason_31 ?_
    refine ⟨congrArg (fun q => some (iv q)) ?_, by rw [hset_set]; rfl⟩
    split <;> omega

set_option maxRecDepth 100000 in
set_option maxHeartbeats 4000000 in
theorem c_X0_tell {l : Launch} {Γ : GA} (hfl : l.stackTraces = false) {h : Hp} {a mA pA : Nat} {nb gr ng po rk su fi tp : Int} (ha : h a = some (oBa nb mA pA gr ng po rk su fi tp)) {what : Int} (hwh : 0 ≤ what ∧ what ≤ 4) : Ct l Γ m_X0_tell [.ref a, iv what] h (fun v h' => v = some (iv (if what = 0 then gr else if what = 1 then po else if what = 2 then rk else if what = 3 then su else fi)) ∧ h' = h) (fun _ _ => False) := by
  refine Ct.intro hfl (by decide +kernel) rfl (Nat.le_of_ble_eq_true rfl) ?_
  intro G C R T
  show G 0 [some (.ref a), some (iv what)] [] h 0 0
  refine gk_iload_n C dX0_tell_0 rfl ?_
  rcases (show (what < 0 ∨ 3 < what) ∨ what = 0 ∨ what = 1 ∨ what = 2 ∨ what = 3 from by omega) with c_1 | c_1 | c_1 | c_1 | c_1
  · refine gk_tableOut C (tgt := 52) (by omega) dX0_tell_1 c_1 (by decide) ?_
    refine gk_aload_n C dX0_tell_52 rfl ?_
    refine gk_getf C f_X0_34.r dX0_tell_53 (by (try simp only [hset_set]); first | assumption | exact hset_eq | (refine (hset_ne (by first | assumption | exact Ne.symm (by assumption))).trans ?_; first | assumption | exact hset_eq | (refine (hset_ne (by first | assumption | exact Ne.symm (by assumption))).trans ?_; first | assumption | exact hset_eq | (refine (hset_ne (by first | assumption | exact Ne.symm (by assumption))).trans ?_; first | assumption | exact hset_eq)))) (by rfl) ?_
    refine (R _ _ _ _ _ (by decide) (by decide)).1 _ rfl dX0_tell_56 ?_
    refine ⟨congrArg (fun q => some (iv q)) ?_, rfl⟩
    (repeat' split) <;> first | rfl | omega
  · refine gk_tableIn C (tgt := 32) (by omega) dX0_tell_1 (by omega) (by omega) (by rw [c_1]; rfl) (by decide) ?_
    refine gk_aload_n C dX0_tell_32 rfl ?_
    refine gk_getf C f_X0_15.r dX0_tell_33 (by (try simp only [hset_set]); first | assumption | exact hset_eq | (refine (hset_ne (by first | assumption | exact Ne.symm (by assumption))).trans ?_; first | assumption | exact hset_eq | (refine (hset_ne (by first | assumption | exact Ne.symm (by assumption))).trans ?_; first | assumption | exact hset_eq | (refine (hset_ne (by first | assumption | exact Ne.symm (by assumption))).trans ?_; first | assumption | exact hset_eq)))) (by rfl) ?_
    refine (R _ _ _ _ _ (by decide) (by decide)).1 _ rfl dX0_tell_36 ?_
    refine ⟨congrArg (fun q => some (iv q)) ?_, rfl⟩
    (repeat' split) <;> first | rfl | omega
  · refine gk_tableIn C (tgt := 37) (by omega) dX0_tell_1 (by omega) (by omega) (by rw [c_1]; rfl) (by decide) ?_
    refine gk_aload_n C dX0_tell_37 rfl ?_
    refine gk_getf C f_X0_40.r dX0_tell_38 (by (try simp only [hset_set]); first | assumption | exact hset_eq | (refine (hset_ne (by first | assumption | exact Ne.symm (by assumption))).trans ?_; first | assumption | exact hset_eq | (refine (hset_ne (by first | assumption | exact Ne.symm (by assumption))).trans ?_; first | assumption | exact hset_eq | (refine (hset_ne (by first | assumption | exact Ne.symm (by assumption))).trans ?_; first | assumption | exact hset_eq)))) (by rfl) ?_
    refine (R _ _ _ _ _ (by decide) (by decide)).1 _ rfl dX0_tell_41 ?_
    refine ⟨congrArg (fun q => some (iv q)) ?_, rfl⟩
    (repeat' split) <;> first | rfl | omega
  · refine gk_tableIn C (tgt := 42) (by omega) dX0_tell_1 (by omega) (by omega) (by rw [c_1]; rfl) (by decide) ?_
    refine gk_aload_n C dX0_tell_42 rfl ?_
    refine gk_getf C f_X0_21.r dX0_tell_43 (by (try simp only [hset_set]); first | assumption | exact hset_eq | (refine (hset_ne (by first | assumption | exact Ne.symm (by assumption))).trans ?_; first | assumption | exact hset_eq | (refine (hset_ne (by first | assumption | exact Ne.symm (by assumption))).trans ?_; first | assumption | exact hset_eq | (refine (hset_ne (by first | assumption | exact Ne.symm (by assumption))).trans ?_; first | assumption | exact hset_eq)))) (by rfl) ?_
    refine (R _ _ _ _ _ (by decide) (by decide)).1 _ rfl dX0_tell_46 ?_
    refine ⟨congrArg (fun q => some (iv q)) ?_, rfl⟩
    (repeat' split) <;> first | rfl | omega
  · refine gk_tableIn C (tgt := 47) (by omega) dX0_tell_1 (by omega) (by omega) (by rw [c_1]; rfl) (by decide) ?_
    refine gk_aload_n C dX0_tell_47 rfl ?_
    refine gk_getf C f_X0_24.r dX0_tell_48 (by (try simp only [hset_set]); first | assumption | exact hset_eq | (refine (hset_ne (by first | assumption | exact Ne.symm (by assumption))).trans ?_; first | assumption | exact hset_eq | (refine (hset_ne (by first | assumption | exact Ne.symm (by assumption))).trans ?_; first | assumption | exact hset_eq | (refine (hset_ne (by first | assumption | exact Ne.symm (by assumption))).trans ?_; first | assumption | exact hset_eq)))) (by rfl) ?_
    refine (R _ _ _ _ _ (by decide) (by decide)).1 _ rfl dX0_tell_51 ?_
    refine ⟨congrArg (fun q => some (iv q)) ?_, rfl⟩
    (repeat' split) <;> first | rfl | omega

set_option maxRecDepth 100000 in
set_option maxHeartbeats 4000000 in
theorem c_X0_init {l : Launch} {Γ : GA} (hfl : l.stackTraces = false) {h : Hp} {a : Nat} {x1 x2 : Value} {nb gr : Int} (ha : h a = some (oO 1 [iv 0, x1, x2, iv 0, iv 0, iv 0, iv 0, iv 0, iv 0, iv 0])) : Ct l Γ m_X0_init [.ref a, iv nb, iv gr] h (fun v h' => v = none ∧ ∃ mA pA, (mA ≠ a ∧ h mA = none) ∧ (pA ≠ a ∧ pA ≠ mA ∧ h pA = none) ∧ h' = hset (hset (hset h mA (aI 4 (fun _ => 0))) pA (aI 4 (fun _ => 0))) a (oBa nb mA pA gr gr 0 (-1) (-1) 0 0)) (fun _ _ => False) := by
  refine Ct.intro hfl (by decide +kernel) rfl (Nat.le_of_ble_eq_true rfl) ?_
  intro G C R T
  show G 0 [some (.ref a), some (iv nb), some (iv gr)] [] h 0 0
  refine gk_aload_n C dX0_init_0 rfl ?_
  refine gk_objInit C oi_X0 oi_im oi_cd dX0_init_1 (by decide) (by exact Nat.le_of_ble_eq_true rfl) ?_
  refine gk_aload_n C dX0_init_4 rfl ?_
  refine gk_iload_n C dX0_init_5 rfl ?_
  refine gk_putfF C f_X0_9 rfl dX0_init_6 (by (try simp only [hset_set]); first | assumption | exact hset_eq | (refine (hset_ne (by first | assumption | exact Ne.symm (by assumption))).trans ?_; first | assumption | exact hset_eq | (refine (hset_ne (by first | assumption | exact Ne.symm (by assumption))).trans ?_; first | assumption | exact hset_eq | (refine (hset_ne (by first | assumption | exact Ne.symm (by assumption))).trans ?_; first | assumption | exact hset_eq)))) rfl rfl (by exact Nat.le_of_ble_eq_true rfl) ?_
  try simp only [hset_set]
  refine gk_aload_n C dX0_init_9 rfl ?_
  refine gk_iload_n C dX0_init_10 rfl ?_
  refine gk_putf C f_X0_15 dX0_init_11 (by (try simp only [hset_set]); first | assumption | exact hset_eq | (refine (hset_ne (by first | assumption | exact Ne.symm (by assumption))).trans ?_; first | assumption | exact hset_eq | (refine (hset_ne (by first | assumption | exact Ne.symm (by assumption))).trans ?_; first | assumption | exact hset_eq | (refine (hset_ne (by first | assumption | exact Ne.symm (by assumption))).trans ?_; first | assumption | exact hset_eq)))) rfl rfl (by exact Nat.le_of_ble_eq_true rfl) ?_
  refine gk_aload_n C dX0_init_14 rfl ?_
  refine gk_iload_n C dX0_init_15 rfl ?_
  refine gk_putf C f_X0_18 dX0_init_16 (by (try simp only [hset_set]); first | assumption | exact hset_eq | (refine (hset_ne (by first | assumption | exact Ne.symm (by assumption))).trans ?_; first | assumption | exact hset_eq | (refine (hset_ne (by first | assumption | exact Ne.symm (by assumption))).trans ?_; first | assumption | exact hset_eq | (refine (hset_ne (by first | assumption | exact Ne.symm (by assumption))).trans ?_; first | assumption | exact hset_eq)))) rfl rfl (by exact Nat.le_of_ble_eq_true rfl) ?_
  refine gk_aload_n C dX0_init_19 rfl ?_
  refine gk_iconst C dX0_init_20 ?_
  refine gk_putf C f_X0_21 dX0_init_21 (by (try simp only [hset_set]); first | assumption | exact hset_eq | (refine (hset_ne (by first | assumption | exact Ne.symm (by assumption))).trans ?_; first | assumption | exact hset_eq | (refine (hset_ne (by first | assumption | exact Ne.symm (by assumption))).trans ?_; first | assumption | exact hset_eq | (refine (hset_ne (by first | assumption | exact Ne.symm (by assumption))).trans ?_; first | assumption | exact hset_eq)))) rfl rfl (by exact Nat.le_of_ble_eq_true rfl) ?_
  refine gk_aload_n C dX0_init_24 rfl ?_
  refine gk_iconst C dX0_init_25 ?_
  refine gk_putf C f_X0_24 dX0_init_26 (by (try simp only [hset_set]); first | assumption | exact hset_eq | (refine (hset_ne (by first | assumption | exact Ne.symm (by assumption))).trans ?_; first | assumption | exact hset_eq | (refine (hset_ne (by first | assumption | exact Ne.symm (by assumption))).trans ?_; first | assumption | exact hset_eq | (refine (hset_ne (by first | assumption | exact Ne.symm (by assumption))).trans ?_; first | assumption | exact hset_eq)))) rfl rfl (by exact Nat.le_of_ble_eq_true rfl) ?_
  try simp only [hset_set]
  refine gk_aload_n C dX0_init_29 rfl ?_
  refine gk_iconst C dX0_init_30 ?_
  refine gk_newI C dX0_init_31 (by decide) (by decide) (fun q_31 e_31 => ?_)
  obtain ⟨na_31, m_31⟩ := hset_none e_31
  refine gk_putfF C f_X0_27 rfl dX0_init_33 (by (try simp only [hset_set]); first | assumption | exact hset_eq | (refine (hset_ne (by first | assumption | exact Ne.symm (by assumption))).trans ?_; first | assumption | exact hset_eq | (refine (hset_ne (by first | assumption | exact Ne.symm (by assumption))).trans ?_; first | assumption | exact hset_eq | (refine (hset_ne (by first | assumption | exact Ne.symm (by assumption))).trans ?_; first | assumption | exact hset_eq)))) rfl rfl (by exact Nat.le_of_ble_eq_true rfl) ?_
  rw [hset_pull na_31]
  refine gk_aload_n C dX0_init_36 rfl ?_
  refine gk_iconst C dX0_init_37 ?_
  refine gk_newI C dX0_init_38 (by decide) (by decide) (fun q_38 e_38 => ?_)
  obtain ⟨na_38, z⟩ := hset_none e_38
  obtain ⟨n_38, m_38⟩ := hset_none z
  refine gk_putfF C f_X0_31 rfl dX0_init_40 (by (try simp only [hset_set]); first | assumption | exact hset_eq | (refine (hset_ne (by first | assumption | exact Ne.symm (by assumption))).trans ?_; first | assumption | exact hset_eq | (refine (hset_ne (by first | assumption | exact Ne.symm (by assumption))).trans ?_; first | assumption | exact hset_eq | (refine (hset_ne (by first | assumption | exact Ne.symm (by assumption))).trans ?_; first | assumption | exact hset_eq)))) rfl rfl (by exact Nat.le_of_ble_eq_true rfl) ?_
  rw [hset_pull na_38]
  refine (R _ _ _ _ _ (by decide) (by decide)).2.2.1 rfl dX0_init_43 ?_
  exact ⟨rfl, q_31, q_38, ⟨na_31, m_31⟩, ⟨na_38, n_38, m_38⟩, rfl⟩
