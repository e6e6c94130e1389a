/-! lists: contracts -/
theorem gs_E : Cond.fieldLink RJx4a65c 39 "java/util/ArrayList" "DEFAULTCAPACITY_EMPTY_ELEMENTDATA" "[Ljava/lang/Object;" ∈ gk_WS := gk_ws (List.mem_append_right _ (List.mem_of_getElem? (i := 41) (by decide +kernel))) rfl
abbrev oAL (mc : Int) (ed : Nat) (sz : Int) : AE := oO 0 [iv mc, .ref ed, iv sz]
abbrev gEm (Γ : GA) : Nat := Γ.2.2.2.2.2.2.1

set_option maxRecDepth 100000 in
set_option maxHeartbeats 4000000 in
theorem c_AC_init {l : Launch} {Γ : GA} (hfl : l.stackTraces = false) {h : Hp} {a : Nat} : Ct l Γ m_Jxa1e45_init_da8c8 [.ref a] h (fun v h' => v = none ∧ h' = h) (fun _ _ => False) := by
  refine Ct.intro hfl (by decide +kernel) rfl (Nat.le_of_ble_eq_true rfl) ?_
  intro G C R T
  show G 0 [some (.ref a)] [] h 0 0
  refine gk_aload_n C dJxa1e45_init_da8c8_0 rfl ?_
  refine gk_objInit C oi_Jxa1e45 oi_im oi_cd dJxa1e45_init_da8c8_1 (by decide) (by exact Nat.le_of_ble_eq_true rfl) ?_
  refine (R _ _ _ _ _ (by decide) (by decide)).2.2.1 rfl dJxa1e45_init_da8c8_4 ?_
  exact ⟨rfl, rfl⟩

set_option maxRecDepth 100000 in
set_option maxHeartbeats 4000000 in
theorem c_Ab_init {l : Launch} {Γ : GA} (hfl : l.stackTraces = false) {h : Hp} {a : Nat} {x0 x2 : Int} {x1 : Value} (ha : h a = some (oO 0 [iv x0, x1, iv x2])) : Ct l Γ m_Jxc12de_init_da8c8 [.ref a] h (fun v h' => v = none ∧ h' = hset h a (oO 0 [iv 0, x1, iv x2])) (fun _ _ => False) := by
  refine Ct.intro hfl (by decide +kernel) rfl (Nat.le_of_ble_eq_true rfl) ?_
  intro G C R T
  show G 0 [some (.ref a)] [] h 0 0
  refine gk_aload_n C dJxc12de_init_da8c8_0 rfl ?_
  refine gk_callI C o_Jxa1e45_init_da8c8 rfl k_Jxc12de_1 dJxc12de_init_da8c8_1 (c_AC_init hfl) rfl rfl (by decide) (by decide) (by exact Nat.le_of_ble_eq_true rfl) (fun _ _ z => z.elim) (fun v_1 h_1 p_1 => ?_)
  obtain ⟨rfl, rfl⟩ := p_1
  dsimp only [gk_push]
  refine gk_aload_n C dJxc12de_init_da8c8_4 rfl ?_
  refine gk_iconst C dJxc12de_init_da8c8_5 ?_
  refine gk_putf C f_Jxc12de_7 dJxc12de_init_da8c8_6 (by (try simp only [hset_set]); first | assumption | exact hset_eq | (refine (hset_ne (by first | assumption | exact Ne.symm (by assumption))).trans ?_; first | assumption | exact hset_eq | (refine (hset_ne (by first | assumption | exact Ne.symm (by assumption))).trans ?_; first | assumption | exact hset_eq | (refine (hset_ne (by first | assumption | exact Ne.symm (by assumption))).trans ?_; first | assumption | exact hset_eq)))) rfl rfl (by exact Nat.le_of_ble_eq_true rfl) ?_
  refine (R _ _ _ _ _ (by decide) (by decide)).2.2.1 rfl dJxc12de_init_da8c8_9 ?_
  exact ⟨rfl, rfl⟩

set_option maxRecDepth 100000 in
set_option maxHeartbeats 4000000 in
theorem c_AL_init {l : Launch} {Γ : GA} (hfl : l.stackTraces = false) {h : Hp} {a : Nat} {x0 : Int} {x1 : Value} (ha : h a = some (oO 0 [iv x0, x1, iv 0])) : Ct l Γ m_Jx4a65c_init_da8c8 [.ref a] h (fun v h' => v = none ∧ h' = hset h a (oAL 0 (gEm Γ) 0)) (fun _ _ => False) := by
  refine Ct.intro hfl (by decide +kernel) rfl (Nat.le_of_ble_eq_true rfl) ?_
  intro G C R T
  show G 0 [some (.ref a)] [] h 0 0
  refine gk_aload_n C dJx4a65c_init_da8c8_0 rfl ?_
  refine gk_callI C o_Jxc12de_init_da8c8 rfl k_Jx4a65c_1 dJx4a65c_init_da8c8_1 (c_Ab_init hfl ha) rfl rfl (by decide) (by decide) (by exact Nat.le_of_ble_eq_true rfl) (fun _ _ z => z.elim) (fun v_1 h_1 p_1 => ?_)
  obtain ⟨rfl, rfl⟩ := p_1
  dsimp only [gk_push]
  refine gk_aload_n C dJx4a65c_init_da8c8_4 rfl ?_
  refine gk_statE C gs_E dJx4a65c_init_da8c8_5 ?_
  refine gk_putf C f_Jx4a65c_9 dJx4a65c_init_da8c8_8 (by (try simp only [hset_set]); first | assumption | exact hset_eq | (refine (hset_ne (by first | assumption | exact Ne.symm (by assumption))).trans ?_; first | assumption | exact hset_eq | (refine (hset_ne (by first | assumption | exact Ne.symm (by assumption))).trans ?_; first | assumption | exact hset_eq | (refine (hset_ne (by first | assumption | exact Ne.symm (by assumption))).trans ?_; first | assumption | exact hset_eq)))) rfl rfl (by exact Nat.le_of_ble_eq_true rfl) ?_
  refine (R _ _ _ _ _ (by decide) (by decide)).2.2.1 rfl dJx4a65c_init_da8c8_11 ?_
  exact ⟨rfl, by rw [hset_set]; rfl⟩

set_option maxRecDepth 100000 in
set_option maxHeartbeats 4000000 in
theorem c_AL_size {l : Launch} {Γ : GA} (hfl : l.stackTraces = false) {h : Hp} {a ed : Nat} {mc : Int} {sz : Nat} (ha : h a = some (oAL mc ed sz)) : Ct l Γ m_Jx4a65c_size_8abf5 [.ref a] h (fun v h' => v = some (iv sz) ∧ h' = h) (fun _ _ => False) := by
  refine Ct.intro hfl (by decide +kernel) rfl (Nat.le_of_ble_eq_true rfl) ?_
  intro G C R T
  show G 0 [some (.ref a)] [] h 0 0
  refine gk_aload_n C dJx4a65c_size_8abf5_0 rfl ?_
  refine gk_getf C f_Jx4a65c_48.r dJx4a65c_size_8abf5_1 (by (try simp only [hset_set]); first | assumption | exact hset_eq | (refine (hset_ne (by first | assumption | exact Ne.symm (by assumption))).trans ?_; first | assumption | exact hset_eq | (refine (hset_ne (by first | assumption | exact Ne.symm (by assumption))).trans ?_; first | assumption | exact hset_eq | (refine (hset_ne (by first | assumption | exact Ne.symm (by assumption))).trans ?_; first | assumption | exact hset_eq)))) (by rfl) ?_
  refine (R _ _ _ _ _ (by decide) (by decide)).1 _ rfl dJx4a65c_size_8abf5_4 ?_
  exact ⟨rfl, rfl⟩

set_option maxRecDepth 100000 in
set_option maxHeartbeats 4000000 in
theorem c_AL_data {l : Launch} {Γ : GA} (hfl : l.stackTraces = false) {h : Hp} {a ed : Nat} {mc : Int} {sz : Nat} (ha : h a = some (oAL mc ed sz)) {f : Int → Option Nat} (hR : h ed = some (aR 10 f)) {z : Int} {y : Nat} (hz : 0 ≤ z ∧ z < 10) (hy : f z = some y) : Ct l Γ m_Jx4a65c_elementData_915e3 [.ref a, iv z] h (fun v h' => v = some (.ref y) ∧ h' = h) (fun _ _ => False) := by
  refine Ct.intro hfl (by decide +kernel) rfl (Nat.le_of_ble_eq_true rfl) ?_
  intro G C R T
  show G 0 [some (.ref a), some (iv z)] [] h 0 0
  refine gk_aload_n C dJx4a65c_elementData_915e3_0 rfl ?_
  refine gk_getf C f_Jx4a65c_9.r dJx4a65c_elementData_915e3_1 (by (try simp only [hset_set]); first | assumption | exact hset_eq | (refine (hset_ne (by first | assumption | exact Ne.symm (by assumption))).trans ?_; first | assumption | exact hset_eq | (refine (hset_ne (by first | assumption | exact Ne.symm (by assumption))).trans ?_; first | assumption | exact hset_eq | (refine (hset_ne (by first | assumption | exact Ne.symm (by assumption))).trans ?_; first | assumption | exact hset_eq)))) (by rfl) ?_
  refine gk_iload_n C dJx4a65c_elementData_915e3_4 rfl ?_
  refine gk_aald C dJx4a65c_elementData_915e3_5 (by (try simp only [hset_set]); first | assumption | exact hset_eq | (refine (hset_ne (by first | assumption | exact Ne.symm (by assumption))).trans ?_; first | assumption | exact hset_eq | (refine (hset_ne (by first | assumption | exact Ne.symm (by assumption))).trans ?_; first | assumption | exact hset_eq | (refine (hset_ne (by first | assumption | exact Ne.symm (by assumption))).trans ?_; first | assumption | exact hset_eq)))) (by omega) (by omega) hy ?_
  refine (R _ _ _ _ _ (by decide) (by decide)).2.2.2.1 _ _ rfl (Or.inl ⟨_, rfl⟩) dJx4a65c_elementData_915e3_6 ?_
  exact ⟨rfl, rfl⟩

set_option maxRecDepth 100000 in
set_option maxHeartbeats 4000000 in
theorem c_J3_check {l : Launch} {Γ : GA} (hfl : l.stackTraces = false) {h : Hp} {z n : Int} (hz : 0 ≤ z ∧ z < n) (hn : n ≤ 1000) : Ct l Γ m_J3_checkIndex_8e157 [iv z, iv n, .null] h (fun v h' => v = some (iv z) ∧ h' = h) (fun _ _ => False) := by
  refine Ct.intro hfl (by decide +kernel) rfl (Nat.le_of_ble_eq_true rfl) ?_
  intro G C R T
  show G 0 [some (iv z), some (iv n), some (.null)] [] h 0 0
  refine gk_iload_n C dJ3_checkIndex_8e157_0 rfl ?_
  refine gk_if_lt C (tgt := 9) (by omega) dJ3_checkIndex_8e157_1 (by decide) (fun c_1 => ?_) (fun c_1 => ?_)
  · omega
  · refine gk_iload_n C dJ3_checkIndex_8e157_4 rfl ?_
    refine gk_iload_n C dJ3_checkIndex_8e157_5 rfl ?_
    refine gk_icmp_lt C (tgt := 16) (by omega) (by omega) dJ3_checkIndex_8e157_6 (by decide) (fun c_6 => ?_) (fun c_6 => ?_)
    · refine gk_iload_n C dJ3_checkIndex_8e157_16 rfl ?_
      refine (R _ _ _ _ _ (by decide) (by decide)).1 _ rfl dJ3_checkIndex_8e157_17 ?_
      exact ⟨rfl, rfl⟩
    · omega

set_option maxRecDepth 100000 in
set_option maxHeartbeats 4000000 in
theorem c_J15_check {l : Launch} {Γ : GA} (hfl : l.stackTraces = false) {h : Hp} {z n : Int} (hz : 0 ≤ z ∧ z < n) (hn : n ≤ 1000) : Ct l Γ m_J15_checkIndex_7cf53 [iv z, iv n] h (fun v h' => v = some (iv z) ∧ h' = h) (fun _ _ => False) := by
  refine Ct.intro hfl (by decide +kernel) rfl (Nat.le_of_ble_eq_true rfl) ?_
  intro G C R T
  show G 0 [some (iv z), some (iv n)] [] h 0 0
  refine gk_iload_n C dJ15_checkIndex_7cf53_0 rfl ?_
  refine gk_iload_n C dJ15_checkIndex_7cf53_1 rfl ?_
  refine gk_null C dJ15_checkIndex_7cf53_2 ?_
  refine gk_callS C o_J3_checkIndex_8e157 k_J15_105 dJ15_checkIndex_7cf53_3 (c_J3_check hfl hz hn) rfl rfl (by decide) (by decide) (by exact Nat.le_of_ble_eq_true rfl) (fun _ _ z => z.elim) (fun v_3 h_3 p_3 => ?_)
  obtain ⟨rfl, rfl⟩ := p_3
  dsimp only [gk_push]
  refine (R _ _ _ _ _ (by decide) (by decide)).1 _ rfl dJ15_checkIndex_7cf53_6 ?_
  exact ⟨rfl, rfl⟩

set_option maxRecDepth 100000 in
set_option maxHeartbeats 4000000 in
theorem c_AL_get {l : Launch} {Γ : GA} (hfl : l.stackTraces = false) {h : Hp} {a ed : Nat} {mc : Int} {sz : Nat} (ha : h a = some (oAL mc ed sz)) {f : Int → Option Nat} (hR : h ed = some (aR 10 f)) {z : Int} {y : Nat} (hz : 0 ≤ z ∧ z < sz) (hsz : sz ≤ 10) (hy : f z = some y) : Ct l Γ m_Jx4a65c_get_915e3 [.ref a, iv z] h (fun v h' => v = some (.ref y) ∧ h' = h) (fun _ _ => False) := by
  refine Ct.intro hfl (by decide +kernel) rfl (Nat.le_of_ble_eq_true rfl) ?_
  intro G C R T
  show G 0 [some (.ref a), some (iv z)] [] h 0 0
  refine gk_iload_n C dJx4a65c_get_915e3_0 rfl ?_
  refine gk_aload_n C dJx4a65c_get_915e3_1 rfl ?_
  refine gk_getf C f_Jx4a65c_48.r dJx4a65c_get_915e3_2 (by (try simp only [hset_set]); first | assumption | exact hset_eq | (refine (hset_ne (by first | assumption | exact Ne.symm (by assumption))).trans ?_; first | assumption | exact hset_eq | (refine (hset_ne (by first | assumption | exact Ne.symm (by assumption))).trans ?_; first | assumption | exact hset_eq | (refine (hset_ne (by first | assumption | exact Ne.symm (by assumption))).trans ?_; first | assumption | exact hset_eq)))) (by rfl) ?_
  refine gk_callS C o_J15_checkIndex_7cf53 k_Jx4a65c_118 dJx4a65c_get_915e3_5 (c_J15_check hfl (z := z) (n := sz) (by omega) (by omega)) rfl rfl (by decide) (by decide) (by exact Nat.le_of_ble_eq_true rfl) (fun _ _ z => z.elim) (fun v_5 h_5 p_5 => ?_)
  obtain ⟨rfl, rfl⟩ := p_5
  dsimp only [gk_push]
  refine gk_pop C rfl dJx4a65c_get_915e3_8 ?_
  refine gk_aload_n C dJx4a65c_get_915e3_9 rfl ?_
  refine gk_iload_n C dJx4a65c_get_915e3_10 rfl ?_
  refine gk_callV C o_Jx4a65c_elementData_915e3 k_Jx4a65c_123 dJx4a65c_get_915e3_11 (c_AL_data hfl ha hR (by omega) hy) (by (try simp only [hset_set]); first | assumption | exact hset_eq | (refine (hset_ne (by first | assumption | exact Ne.symm (by assumption))).trans ?_; first | assumption | exact hset_eq | (refine (hset_ne (by first | assumption | exact Ne.symm (by assumption))).trans ?_; first | assumption | exact hset_eq | (refine (hset_ne (by first | assumption | exact Ne.symm (by assumption))).trans ?_; first | assumption | exact hset_eq)))) rfl rfl rfl (by decide) (by decide) (by exact Nat.le_of_ble_eq_true rfl) (fun _ _ z => z.elim) (fun v_11 h_11 p_11 => ?_)
  obtain ⟨rfl, rfl⟩ := p_11
  dsimp only [gk_push]
  refine (R _ _ _ _ _ (by decide) (by decide)).2.2.2.1 _ _ rfl (Or.inl ⟨_, rfl⟩) dJx4a65c_get_915e3_14 ?_
  exact ⟨rfl, rfl⟩

set_option maxRecDepth 100000 in
set_option maxHeartbeats 4000000 in
theorem c_AL_grow1 {l : Launch} {Γ : GA} (hfl : l.stackTraces = false) {h : Hp} {a : Nat} {mc : Int} (ha : h a = some (oAL mc (gEm Γ) 0)) : Ct l Γ m_Jx4a65c_grow_92f84 [.ref a, iv 1] h (fun v h' => ∃ q : Nat, q ≠ a ∧ h q = none ∧ v = some (.ref q) ∧ h' = hset (hset h q (aR 10 (fun _ => none))) a (oAL mc q 0)) (fun _ _ => False) := by
  refine Ct.intro hfl (by decide +kernel) rfl (Nat.le_of_ble_eq_true rfl) ?_
  intro G C R T
  show G 0 [some (.ref a), some (iv 1), none, none] [] h 0 0
  refine gk_aload_n C dJx4a65c_grow_92f84_0 rfl ?_
  refine gk_getf C f_Jx4a65c_9.r dJx4a65c_grow_92f84_1 (by (try simp only [hset_set]); first | assumption | exact hset_eq | (refine (hset_ne (by first | assumption | exact Ne.symm (by assumption))).trans ?_; first | assumption | exact hset_eq | (refine (hset_ne (by first | assumption | exact Ne.symm (by assumption))).trans ?_; first | assumption | exact hset_eq | (refine (hset_ne (by first | assumption | exact Ne.symm (by assumption))).trans ?_; first | assumption | exact hset_eq)))) (by rfl) ?_
  refine gk_alenE C dJx4a65c_grow_92f84_4 ?_
  refine gk_istore_n_2 C rfl (by decide) dJx4a65c_grow_92f84_5 ?_
  refine gk_iload_n C dJx4a65c_grow_92f84_6 rfl ?_
  refine gk_if_gt C (tgt := 20) (by omega) dJx4a65c_grow_92f84_7 (by decide) (fun c_7 => ?_) (fun c_7 => ?_)
  · omega
  · refine gk_aload_n C dJx4a65c_grow_92f84_10 rfl ?_
    refine gk_getf C f_Jx4a65c_9.r dJx4a65c_grow_92f84_11 (by (try simp only [hset_set]); first | assumption | exact hset_eq | (refine (hset_ne (by first | assumption | exact Ne.symm (by assumption))).trans ?_; first | assumption | exact hset_eq | (refine (hset_ne (by first | assumption | exact Ne.symm (by assumption))).trans ?_; first | assumption | exact hset_eq | (refine (hset_ne (by first | assumption | exact Ne.symm (by assumption))).trans ?_; first | assumption | exact hset_eq)))) (by rfl) ?_
    refine gk_statE C gs_E dJx4a65c_grow_92f84_14 ?_
    refine gk_acmp_eq C (tgt := 45) dJx4a65c_grow_92f84_17 (by decide) (fun c_17 => ?_) (fun c_17 => ?_)
    · refine gk_aload_n C dJx4a65c_grow_92f84_45 rfl ?_
      refine gk_bipush C dJx4a65c_grow_92f84_46 (by decide) ?_
      refine gk_iload_n C dJx4a65c_grow_92f84_48 rfl ?_
      refine gk_mmax C (by omega) (by omega) k_Jx4a65c_79.1 dJx4a65c_grow_92f84_49 (by decide) (by exact Nat.le_of_ble_eq_true rfl) (by decide) ?_
      refine gk_newR C cw_Jx4a65c_7 dJx4a65c_grow_92f84_52 (by omega) (by decide) (fun q_52 e_52 => ?_)
      have na : q_52 ≠ a := fun z => by rw [z, ha] at e_52; cases e_52
      refine gk_dup_x1 C rfl rfl dJx4a65c_grow_92f84_55 ?_
      refine gk_putf C f_Jx4a65c_9 dJx4a65c_grow_92f84_56 (by (try simp only [hset_set]); first | assumption | exact hset_eq | (refine (hset_ne (by first | assumption | exact Ne.symm (by assumption))).trans ?_; first | assumption | exact hset_eq | (refine (hset_ne (by first | assumption | exact Ne.symm (by assumption))).trans ?_; first | assumption | exact hset_eq | (refine (hset_ne (by first | assumption | exact Ne.symm (by assumption))).trans ?_; first | assumption | exact hset_eq)))) rfl rfl (by exact Nat.le_of_ble_eq_true rfl) ?_
      refine (R _ _ _ _ _ (by decide) (by decide)).2.2.2.1 _ _ rfl (Or.inr ⟨_, rfl⟩) dJx4a65c_grow_92f84_59 ?_
      exact ⟨q_52, na, e_52, rfl, rfl⟩
    · exact absurd rfl c_17

set_option maxRecDepth 100000 in
set_option maxHeartbeats 4000000 in
theorem c_AL_grow {l : Launch} {Γ : GA} (hfl : l.stackTraces = false) {h : Hp} {a : Nat} {mc : Int} (ha : h a = some (oAL mc (gEm Γ) 0)) : Ct l Γ m_Jx4a65c_grow_d5877 [.ref a] h (fun v h' => ∃ q : Nat, q ≠ a ∧ h q = none ∧ v = some (.ref q) ∧ h' = hset (hset h q (aR 10 (fun _ => none))) a (oAL mc q 0)) (fun _ _ => False) := by
  refine Ct.intro hfl (by decide +kernel) rfl (Nat.le_of_ble_eq_true rfl) ?_
  intro G C R T
  show G 0 [some (.ref a)] [] h 0 0
  refine gk_aload_n C dJx4a65c_grow_d5877_0 rfl ?_
  refine gk_aload_n C dJx4a65c_grow_d5877_1 rfl ?_
  refine gk_getf C f_Jx4a65c_48.r dJx4a65c_grow_d5877_2 (by (try simp only [hset_set]); first | assumption | exact hset_eq | (refine (hset_ne (by first | assumption | exact Ne.symm (by assumption))).trans ?_; first | assumption | exact hset_eq | (refine (hset_ne (by first | assumption | exact Ne.symm (by assumption))).trans ?_; first | assumption | exact hset_eq | (refine (hset_ne (by first | assumption | exact Ne.symm (by assumption))).trans ?_; first | assumption | exact hset_eq)))) (by rfl) ?_
  refine gk_iconst C dJx4a65c_grow_d5877_5 ?_
  refine gk_iadd C dJx4a65c_grow_d5877_6 ?_
  refine gk_callV C o_Jx4a65c_grow_92f84 k_Jx4a65c_69 dJx4a65c_grow_d5877_7 (c_AL_grow1 hfl ha) (by (try simp only [hset_set]); first | assumption | exact hset_eq | (refine (hset_ne (by first | assumption | exact Ne.symm (by assumption))).trans ?_; first | assumption | exact hset_eq | (refine (hset_ne (by first | assumption | exact Ne.symm (by assumption))).trans ?_; first | assumption | exact hset_eq | (refine (hset_ne (by first | assumption | exact Ne.symm (by assumption))).trans ?_; first | assumption | exact hset_eq)))) rfl rfl rfl (by decide) (by decide) (by exact Nat.le_of_ble_eq_true rfl) (fun _ _ z => z.elim) (fun v_7 h_7 p_7 => ?_)
  obtain ⟨q, na, hq, rfl, rfl⟩ := p_7
  dsimp only [gk_push]
  refine (R _ _ _ _ _ (by decide) (by decide)).2.2.2.1 _ _ rfl (Or.inr ⟨_, rfl⟩) dJx4a65c_grow_d5877_10 ?_
  exact ⟨q, na, hq, rfl, rfl⟩

set_option maxRecDepth 100000 in
set_option maxHeartbeats 4000000 in
theorem c_AL_addE {l : Launch} {Γ : GA} (hfl : l.stackTraces = false) {h : Hp} {a : Nat} {mc : Int} (ha : h a = some (oAL mc (gEm Γ) 0)) {v ci N : Nat} {C0 : String} {T0 : u_T} {fs : List Value} (hv : h v = some (oO ci fs)) (hci : vwCl[ci]? = some (C0, T0, N)) (hcs : Cond.castable C0 "java/lang/Object" ∈ gk_NW) (hva : v ≠ a) : Ct l Γ m_Jx4a65c_add_72be8 [.ref a, .ref v, .ref (gEm Γ), iv 0] h (fun v0 h' => v0 = none ∧ ∃ q : Nat, q ≠ a ∧ h q = none ∧ h' = hset (hset h q (aR 10 (gupd (fun _ => none) 0 (some v)))) a (oAL mc q 1)) (fun _ _ => False) := by
  refine Ct.intro hfl (by decide +kernel) rfl (Nat.le_of_ble_eq_true rfl) ?_
  intro G C R T
  show G 0 [some (.ref a), some (.ref v), some (.ref (gEm Γ)), some (iv 0)] [] h 0 0
  refine gk_iload_n C dJx4a65c_add_72be8_0 rfl ?_
  refine gk_aload_n C dJx4a65c_add_72be8_1 rfl ?_
  refine gk_alenE C dJx4a65c_add_72be8_2 ?_
  refine gk_icmp_ne C (tgt := 11) (by omega) (by omega) dJx4a65c_add_72be8_3 (by decide) (fun c_3 => ?_) (fun c_3 => ?_)
  · omega
  · refine gk_aload_n C dJx4a65c_add_72be8_6 rfl ?_
    refine gk_callV C o_Jx4a65c_grow_d5877 k_Jx4a65c_129 dJx4a65c_add_72be8_7 (c_AL_grow hfl ha) (by (try simp only [hset_set]); first | assumption | exact hset_eq | (refine (hset_ne (by first | assumption | exact Ne.symm (by assumption))).trans ?_; first | assumption | exact hset_eq | (refine (hset_ne (by first | assumption | exact Ne.symm (by assumption))).trans ?_; first | assumption | exact hset_eq | (refine (hset_ne (by first | assumption | exact Ne.symm (by assumption))).trans ?_; first | assumption | exact hset_eq)))) rfl rfl rfl (by decide) (by decide) (by exact Nat.le_of_ble_eq_true rfl) (fun _ _ z => z.elim) (fun v_7 h_7 p_7 => ?_)
    obtain ⟨q, na, hq, rfl, rfl⟩ := p_7
    dsimp only [gk_push]
    have hvq : v ≠ q := fun z => by rw [z, hq] at hv; cases hv
    refine gk_astore_n_2 C rfl (by decide) dJx4a65c_add_72be8_10 ?_
    refine gk_aload_n C dJx4a65c_add_72be8_11 rfl ?_
    refine gk_iload_n C dJx4a65c_add_72be8_12 rfl ?_
    refine gk_aload_n C dJx4a65c_add_72be8_13 rfl ?_
    refine gk_aast C dJx4a65c_add_72be8_14 ((hset_ne na).trans hset_eq) ((hset_ne hva).trans ((hset_ne hvq).trans hv)) hci hcs (by omega) (by omega) ?_
    refine gk_aload_n C dJx4a65c_add_72be8_15 rfl ?_
    refine gk_iload_n C dJx4a65c_add_72be8_16 rfl ?_
    refine gk_iconst C dJx4a65c_add_72be8_17 ?_
    refine gk_iadd C dJx4a65c_add_72be8_18 ?_
    refine gk_putf C f_Jx4a65c_48 dJx4a65c_add_72be8_19 ((hset_ne (Ne.symm na)).trans hset_eq) rfl rfl (by exact Nat.le_of_ble_eq_true rfl) ?_
    refine (R _ _ _ _ _ (by decide) (by decide)).2.2.1 rfl dJx4a65c_add_72be8_22 ?_
    refine ⟨rfl, q, na, hq, ?_⟩
    rw [hset_comm (Ne.symm na), hset_set, hset_set]
    rfl

set_option maxRecDepth 100000 in
set_option maxHeartbeats 4000000 in
theorem c_AL_addR {l : Launch} {Γ : GA} (hfl : l.stackTraces = false) {h : Hp} {a ed : Nat} {mc : Int} {sz : Nat} (ha : h a = some (oAL mc ed sz)) {f : Int → Option Nat} (hR : h ed = some (aR 10 f)) {v ci N : Nat} {C0 : String} {T0 : u_T} {fs : List Value} (hv : h v = some (oO ci fs)) (hci : vwCl[ci]? = some (C0, T0, N)) (hcs : Cond.castable C0 "java/lang/Object" ∈ gk_NW) (hsz : sz < 10) : Ct l Γ m_Jx4a65c_add_72be8 [.ref a, .ref v, .ref ed, iv sz] h (fun v0 h' => v0 = none ∧ h' = hset (hset h ed (aR 10 (gupd f sz (some v)))) a (oAL mc ed ((sz : Int) + 1))) (fun _ _ => False) := by
  have na : a ≠ ed := fun z => by rw [z, hR] at ha; cases ha
  refine Ct.intro hfl (by decide +kernel) rfl (Nat.le_of_ble_eq_true rfl) ?_
  intro G C R T
  show G 0 [some (.ref a), some (.ref v), some (.ref ed), some (iv sz)] [] h 0 0
  refine gk_iload_n C dJx4a65c_add_72be8_0 rfl ?_
  refine gk_aload_n C dJx4a65c_add_72be8_1 rfl ?_
  refine gk_alenR C dJx4a65c_add_72be8_2 (by (try simp only [hset_set]); first | assumption | exact hset_eq | (refine (hset_ne (by first | assumption | exact Ne.symm (by assumption))).trans ?_; first | assumption | exact hset_eq | (refine (hset_ne (by first | assumption | exact Ne.symm (by assumption))).trans ?_; first | assumption | exact hset_eq | (refine (hset_ne (by first | assumption | exact Ne.symm (by assumption))).trans ?_; first | assumption | exact hset_eq)))) (by omega) ?_
  refine gk_icmp_ne C (tgt := 11) (by omega) (by omega) dJx4a65c_add_72be8_3 (by decide) (fun c_3 => ?_) (fun c_3 => ?_)
  · refine gk_aload_n C dJx4a65c_add_72be8_11 rfl ?_
    refine gk_iload_n C dJx4a65c_add_72be8_12 rfl ?_
    refine gk_aload_n C dJx4a65c_add_72be8_13 rfl ?_
    refine gk_aast C dJx4a65c_add_72be8_14 hR hv hci hcs (by omega) (by omega) ?_
    refine gk_aload_n C dJx4a65c_add_72be8_15 rfl ?_
    refine gk_iload_n C dJx4a65c_add_72be8_16 rfl ?_
    refine gk_iconst C dJx4a65c_add_72be8_17 ?_
    refine gk_iadd C dJx4a65c_add_72be8_18 ?_
    refine gk_putf C f_Jx4a65c_48 dJx4a65c_add_72be8_19 (by (try simp only [hset_set]); first | assumption | exact hset_eq | (refine (hset_ne (by first | assumption | exact Ne.symm (by assumption))).trans ?_; first | assumption | exact hset_eq | (refine (hset_ne (by first | assumption | exact Ne.symm (by assumption))).trans ?_; first | assumption | exact hset_eq | (refine (hset_ne (by first | assumption | exact Ne.symm (by assumption))).trans ?_; first | assumption | exact hset_eq)))) rfl rfl (by exact Nat.le_of_ble_eq_true rfl) ?_
    refine (R _ _ _ _ _ (by decide) (by decide)).2.2.1 rfl dJx4a65c_add_72be8_22 ?_
    exact ⟨rfl, rfl⟩
  · omega

set_option maxRecDepth 100000 in
set_option maxHeartbeats 4000000 in
theorem c_AL_add0 {l : Launch} {Γ : GA} (hfl : l.stackTraces = false) {h : Hp} {a : Nat} {mc : Int} (ha : h a = some (oAL mc (gEm Γ) 0)) {v ci N : Nat} {C0 : String} {T0 : u_T} {fs : List Value} (hv : h v = some (oO ci fs)) (hci : vwCl[ci]? = some (C0, T0, N)) (hcs : Cond.castable C0 "java/lang/Object" ∈ gk_NW) (hva : v ≠ a) : Ct l Γ m_Jx4a65c_add_9ea2d [.ref a, .ref v] h (fun v0 h' => v0 = some (iv 1) ∧ ∃ q : Nat, q ≠ a ∧ h q = none ∧ h' = hset (hset h q (aR 10 (gupd (fun _ => none) 0 (some v)))) a (oAL (mc + 1) q 1)) (fun _ _ => False) := by
  refine Ct.intro hfl (by decide +kernel) rfl (Nat.le_of_ble_eq_true rfl) ?_
  intro G C R T
  show G 0 [some (.ref a), some (.ref v)] [] h 0 0
  refine gk_aload_n C dJx4a65c_add_9ea2d_0 rfl ?_
  refine gk_dup C rfl dJx4a65c_add_9ea2d_1 ?_
  refine gk_getf C f_Jx4a65c_63.r dJx4a65c_add_9ea2d_2 (by (try simp only [hset_set]); first | assumption | exact hset_eq | (refine (hset_ne (by first | assumption | exact Ne.symm (by assumption))).trans ?_; first | assumption | exact hset_eq | (refine (hset_ne (by first | assumption | exact Ne.symm (by assumption))).trans ?_; first | assumption | exact hset_eq | (refine (hset_ne (by first | assumption | exact Ne.symm (by assumption))).trans ?_; first | assumption | exact hset_eq)))) (by rfl) ?_
  refine gk_iconst C dJx4a65c_add_9ea2d_5 ?_
  refine gk_iadd C dJx4a65c_add_9ea2d_6 ?_
  refine gk_putf C f_Jx4a65c_63 dJx4a65c_add_9ea2d_7 (by (try simp only [hset_set]); first | assumption | exact hset_eq | (refine (hset_ne (by first | assumption | exact Ne.symm (by assumption))).trans ?_; first | assumption | exact hset_eq | (refine (hset_ne (by first | assumption | exact Ne.symm (by assumption))).trans ?_; first | assumption | exact hset_eq | (refine (hset_ne (by first | assumption | exact Ne.symm (by assumption))).trans ?_; first | assumption | exact hset_eq)))) rfl rfl (by exact Nat.le_of_ble_eq_true rfl) ?_
  refine gk_aload_n C dJx4a65c_add_9ea2d_10 rfl ?_
  refine gk_aload_n C dJx4a65c_add_9ea2d_11 rfl ?_
  refine gk_aload_n C dJx4a65c_add_9ea2d_12 rfl ?_
  refine gk_getf C f_Jx4a65c_9.r dJx4a65c_add_9ea2d_13 (by (try simp only [hset_set]); first | assumption | exact hset_eq | (refine (hset_ne (by first | assumption | exact Ne.symm (by assumption))).trans ?_; first | assumption | exact hset_eq | (refine (hset_ne (by first | assumption | exact Ne.symm (by assumption))).trans ?_; first | assumption | exact hset_eq | (refine (hset_ne (by first | assumption | exact Ne.symm (by assumption))).trans ?_; first | assumption | exact hset_eq)))) (by rfl) ?_
  refine gk_aload_n C dJx4a65c_add_9ea2d_16 rfl ?_
  refine gk_getf C f_Jx4a65c_48.r dJx4a65c_add_9ea2d_17 (by (try simp only [hset_set]); first | assumption | exact hset_eq | (refine (hset_ne (by first | assumption | exact Ne.symm (by assumption))).trans ?_; first | assumption | exact hset_eq | (refine (hset_ne (by first | assumption | exact Ne.symm (by assumption))).trans ?_; first | assumption | exact hset_eq | (refine (hset_ne (by first | assumption | exact Ne.symm (by assumption))).trans ?_; first | assumption | exact hset_eq)))) (by rfl) ?_
  refine gk_callV C o_Jx4a65c_add_72be8 k_Jx4a65c_131 dJx4a65c_add_9ea2d_20 (c_AL_addE hfl (mc := mc + 1) hset_eq ((hset_ne hva).trans hv) hci hcs hva) (by (try simp only [hset_set]); first | assumption | exact hset_eq | (refine (hset_ne (by first | assumption | exact Ne.symm (by assumption))).trans ?_; first | assumption | exact hset_eq | (refine (hset_ne (by first | assumption | exact Ne.symm (by assumption))).trans ?_; first | assumption | exact hset_eq | (refine (hset_ne (by first | assumption | exact Ne.symm (by assumption))).trans ?_; first | assumption | exact hset_eq)))) rfl rfl rfl (by decide) (by decide) (by exact Nat.le_of_ble_eq_true rfl) (fun _ _ z => z.elim) (fun v_20 h_20 p_20 => ?_)
  obtain ⟨rfl, q, na, hq, rfl⟩ := p_20
  dsimp only [gk_push]
  refine gk_iconst C dJx4a65c_add_9ea2d_23 ?_
  refine (R _ _ _ _ _ (by decide) (by decide)).2.1 _ rfl (by omega) dJx4a65c_add_9ea2d_24 ?_
  refine ⟨rfl, q, na, (hset_none hq).2, ?_⟩
  rw [hset_pull na]

set_option maxRecDepth 100000 in
set_option maxHeartbeats 4000000 in
theorem c_AL_add {l : Launch} {Γ : GA} (hfl : l.stackTraces = false) {h : Hp} {a ed : Nat} {mc : Int} {sz : Nat} (ha : h a = some (oAL mc ed sz)) {f : Int → Option Nat} (hR : h ed = some (aR 10 f)) {v ci N : Nat} {C0 : String} {T0 : u_T} {fs : List Value} (hv : h v = some (oO ci fs)) (hci : vwCl[ci]? = some (C0, T0, N)) (hcs : Cond.castable C0 "java/lang/Object" ∈ gk_NW) (hva : v ≠ a) (hsz : sz < 10) : Ct l Γ m_Jx4a65c_add_9ea2d [.ref a, .ref v] h (fun v0 h' => v0 = some (iv 1) ∧ h' = hset (hset h ed (aR 10 (gupd f sz (some v)))) a (oAL (mc + 1) ed ((sz : Int) + 1))) (fun _ _ => False) := by
  have na : ed ≠ a := fun z => by rw [← z, hR] at ha; cases ha
  refine Ct.intro hfl (by decide +kernel) rfl (Nat.le_of_ble_eq_true rfl) ?_
  intro G C R T
  show G 0 [some (.ref a), some (.ref v)] [] h 0 0
  refine gk_aload_n C dJx4a65c_add_9ea2d_0 rfl ?_
  refine gk_dup C rfl dJx4a65c_add_9ea2d_1 ?_
  refine gk_getf C f_Jx4a65c_63.r dJx4a65c_add_9ea2d_2 (by (try simp only [hset_set]); first | assumption | exact hset_eq | (refine (hset_ne (by first | assumption | exact Ne.symm (by assumption))).trans ?_; first | assumption | exact hset_eq | (refine (hset_ne (by first | assumption | exact Ne.symm (by assumption))).trans ?_; first | assumption | exact hset_eq | (refine (hset_ne (by first | assumption | exact Ne.symm (by assumption))).trans ?_; first | assumption | exact hset_eq)))) (by rfl) ?_
  refine gk_iconst C dJx4a65c_add_9ea2d_5 ?_
  refine gk_iadd C dJx4a65c_add_9ea2d_6 ?_
  refine gk_putf C f_Jx4a65c_63 dJx4a65c_add_9ea2d_7 (by (try simp only [hset_set]); first | assumption | exact hset_eq | (refine (hset_ne (by first | assumption | exact Ne.symm (by assumption))).trans ?_; first | assumption | exact hset_eq | (refine (hset_ne (by first | assumption | exact Ne.symm (by assumption))).trans ?_; first | assumption | exact hset_eq | (refine (hset_ne (by first | assumption | exact Ne.symm (by assumption))).trans ?_; first | assumption | exact hset_eq)))) rfl rfl (by exact Nat.le_of_ble_eq_true rfl) ?_
  refine gk_aload_n C dJx4a65c_add_9ea2d_10 rfl ?_
  refine gk_aload_n C dJx4a65c_add_9ea2d_11 rfl ?_
  refine gk_aload_n C dJx4a65c_add_9ea2d_12 rfl ?_
  refine gk_getf C f_Jx4a65c_9.r dJx4a65c_add_9ea2d_13 (by (try simp only [hset_set]); first | assumption | exact hset_eq | (refine (hset_ne (by first | assumption | exact Ne.symm (by assumption))).trans ?_; first | assumption | exact hset_eq | (refine (hset_ne (by first | assumption | exact Ne.symm (by assumption))).trans ?_; first | assumption | exact hset_eq | (refine (hset_ne (by first | assumption | exact Ne.symm (by assumption))).trans ?_; first | assumption | exact hset_eq)))) (by rfl) ?_
  refine gk_aload_n C dJx4a65c_add_9ea2d_16 rfl ?_
  refine gk_getf C f_Jx4a65c_48.r dJx4a65c_add_9ea2d_17 (by (try simp only [hset_set]); first | assumption | exact hset_eq | (refine (hset_ne (by first | assumption | exact Ne.symm (by assumption))).trans ?_; first | assumption | exact hset_eq | (refine (hset_ne (by first | assumption | exact Ne.symm (by assumption))).trans ?_; first | assumption | exact hset_eq | (refine (hset_ne (by first | assumption | exact Ne.symm (by assumption))).trans ?_; first | assumption | exact hset_eq)))) (by rfl) ?_
  refine gk_callV C o_Jx4a65c_add_72be8 k_Jx4a65c_131 dJx4a65c_add_9ea2d_20 (c_AL_addR hfl (mc := mc + 1) hset_eq ((hset_ne na).trans hR) ((hset_ne hva).trans hv) hci hcs hsz) (by (try simp only [hset_set]); first | assumption | exact hset_eq | (refine (hset_ne (by first | assumption | exact Ne.symm (by assumption))).trans ?_; first | assumption | exact hset_eq | (refine (hset_ne (by first | assumption | exact Ne.symm (by assumption))).trans ?_; first | assumption | exact hset_eq | (refine (hset_ne (by first | assumption | exact Ne.symm (by assumption))).trans ?_; first | assumption | exact hset_eq)))) rfl rfl rfl (by decide) (by decide) (by exact Nat.le_of_ble_eq_true rfl) (fun _ _ z => z.elim) (fun v_20 h_20 p_20 => ?_)
  obtain ⟨rfl, rfl⟩ := p_20
  dsimp only [gk_push]
  refine gk_iconst C dJx4a65c_add_9ea2d_23 ?_
  refine (R _ _ _ _ _ (by decide) (by decide)).2.1 _ rfl (by omega) dJx4a65c_add_9ea2d_24 ?_
  refine ⟨rfl, ?_⟩
  rw [hset_pull na]

set_option maxRecDepth 100000 in
set_option maxHeartbeats 4000000 in
theorem c_AL_fast {l : Launch} {Γ : GA} (hfl : l.stackTraces = false) {h : Hp} {a ed : Nat} {mc : Int} {sz : Nat} (ha : h a = some (oAL mc ed sz)) {f : Int → Option Nat} (hR : h ed = some (aR 10 f)) (hs0 : 1 ≤ sz) (hsz : sz ≤ 10) : Ct l Γ m_Jx4a65c_fastRemove_b59b0 [.ref a, .ref ed, iv ((sz : Int) - 1)] h (fun v0 h' => v0 = none ∧ h' = hset (hset h ed (aR 10 (gupd f ((sz : Int) - 1) none))) a (oAL (mc + 1) ed ((sz : Int) - 1))) (fun _ _ => False) := by
  have na : ed ≠ a := fun z => by rw [← z, hR] at ha; cases ha
  refine Ct.intro hfl (by decide +kernel) rfl (Nat.le_of_ble_eq_true rfl) ?_
  intro G C R T
  show G 0 [some (.ref a), some (.ref ed), some (iv ((sz : Int) - 1)), none] [] h 0 0
  refine gk_aload_n C dJx4a65c_fastRemove_b59b0_0 rfl ?_
  refine gk_dup C rfl dJx4a65c_fastRemove_b59b0_1 ?_
  refine gk_getf C f_Jx4a65c_63.r dJx4a65c_fastRemove_b59b0_2 (by (try simp only [hset_set]); first | assumption | exact hset_eq | (refine (hset_ne (by first | assumption | exact Ne.symm (by assumption))).trans ?_; first | assumption | exact hset_eq | (refine (hset_ne (by first | assumption | exact Ne.symm (by assumption))).trans ?_; first | assumption | exact hset_eq | (refine (hset_ne (by first | assumption | exact Ne.symm (by assumption))).trans ?_; first | assumption | exact hset_eq)))) (by rfl) ?_
  refine gk_iconst C dJx4a65c_fastRemove_b59b0_5 ?_
  refine gk_iadd C dJx4a65c_fastRemove_b59b0_6 ?_
  refine gk_putf C f_Jx4a65c_63 dJx4a65c_fastRemove_b59b0_7 (by (try simp only [hset_set]); first | assumption | exact hset_eq | (refine (hset_ne (by first | assumption | exact Ne.symm (by assumption))).trans ?_; first | assumption | exact hset_eq | (refine (hset_ne (by first | assumption | exact Ne.symm (by assumption))).trans ?_; first | assumption | exact hset_eq | (refine (hset_ne (by first | assumption | exact Ne.symm (by assumption))).trans ?_; first | assumption | exact hset_eq)))) rfl rfl (by exact Nat.le_of_ble_eq_true rfl) ?_
  refine gk_aload_n C dJx4a65c_fastRemove_b59b0_10 rfl ?_
  refine gk_getf C f_Jx4a65c_48.r dJx4a65c_fastRemove_b59b0_11 (by (try simp only [hset_set]); first | assumption | exact hset_eq | (refine (hset_ne (by first | assumption | exact Ne.symm (by assumption))).trans ?_; first | assumption | exact hset_eq | (refine (hset_ne (by first | assumption | exact Ne.symm (by assumption))).trans ?_; first | assumption | exact hset_eq | (refine (hset_ne (by first | assumption | exact Ne.symm (by assumption))).trans ?_; first | assumption | exact hset_eq)))) (by rfl) ?_
  refine gk_iconst C dJx4a65c_fastRemove_b59b0_14 ?_
  refine gk_isub C dJx4a65c_fastRemove_b59b0_15 ?_
  refine gk_dup C rfl dJx4a65c_fastRemove_b59b0_16 ?_
  refine gk_istore_n_3 C rfl (by decide) dJx4a65c_fastRemove_b59b0_17 ?_
  refine gk_iload_n C dJx4a65c_fastRemove_b59b0_18 rfl ?_
  refine gk_icmp_le C (tgt := 34) (by omega) (by omega) dJx4a65c_fastRemove_b59b0_19 (by decide) (fun c_19 => ?_) (fun c_19 => ?_)
  · refine gk_aload_n C dJx4a65c_fastRemove_b59b0_34 rfl ?_
    refine gk_aload_n C dJx4a65c_fastRemove_b59b0_35 rfl ?_
    refine gk_iload_n C dJx4a65c_fastRemove_b59b0_36 rfl ?_
    refine gk_dup_x1 C rfl rfl dJx4a65c_fastRemove_b59b0_37 ?_
    refine gk_putf C f_Jx4a65c_48 dJx4a65c_fastRemove_b59b0_38 (by (try simp only [hset_set]); first | assumption | exact hset_eq | (refine (hset_ne (by first | assumption | exact Ne.symm (by assumption))).trans ?_; first | assumption | exact hset_eq | (refine (hset_ne (by first | assumption | exact Ne.symm (by assumption))).trans ?_; first | assumption | exact hset_eq | (refine (hset_ne (by first | assumption | exact Ne.symm (by assumption))).trans ?_; first | assumption | exact hset_eq)))) rfl rfl (by exact Nat.le_of_ble_eq_true rfl) ?_
    refine gk_null C dJx4a65c_fastRemove_b59b0_41 ?_
    refine gk_aastN C dJx4a65c_fastRemove_b59b0_42 (by rw [hset_set]; exact (hset_ne na).trans hR) (by omega) (by omega) ?_
    refine (R _ _ _ _ _ (by decide) (by decide)).2.2.1 rfl dJx4a65c_fastRemove_b59b0_43 ?_
    refine ⟨rfl, ?_⟩
    rw [hset_set, hset_comm (Ne.symm na)]
    rfl
  · omega

set_option maxRecDepth 100000 in
set_option maxHeartbeats 4000000 in
theorem c_AL_remove {l : Launch} {Γ : GA} (hfl : l.stackTraces = false) {h : Hp} {a ed : Nat} {mc : Int} {sz : Nat} (ha : h a = some (oAL mc ed sz)) {f : Int → Option Nat} (hR : h ed = some (aR 10 f)) (hs0 : 1 ≤ sz) (hsz : sz ≤ 10) {y : Nat} (hy : f ((sz : Int) - 1) = some y) : Ct l Γ m_Jx4a65c_remove_915e3 [.ref a, iv ((sz : Int) - 1)] h (fun v0 h' => v0 = some (.ref y) ∧ h' = hset (hset h ed (aR 10 (gupd f ((sz : Int) - 1) none))) a (oAL (mc + 1) ed ((sz : Int) - 1))) (fun _ _ => False) := by
  refine Ct.intro hfl (by decide +kernel) rfl (Nat.le_of_ble_eq_true rfl) ?_
  intro G C R T
  show G 0 [some (.ref a), some (iv ((sz : Int) - 1)), none, none] [] h 0 0
  refine gk_iload_n C dJx4a65c_remove_915e3_0 rfl ?_
  refine gk_aload_n C dJx4a65c_remove_915e3_1 rfl ?_
  refine gk_getf C f_Jx4a65c_48.r dJx4a65c_remove_915e3_2 (by (try simp only [hset_set]); first | assumption | exact hset_eq | (refine (hset_ne (by first | assumption | exact Ne.symm (by assumption))).trans ?_; first | assumption | exact hset_eq | (refine (hset_ne (by first | assumption | exact Ne.symm (by assumption))).trans ?_; first | assumption | exact hset_eq | (refine (hset_ne (by first | assumption | exact Ne.symm (by assumption))).trans ?_; first | assumption | exact hset_eq)))) (by rfl) ?_
  refine gk_callS C o_J15_checkIndex_7cf53 k_Jx4a65c_118 dJx4a65c_remove_915e3_5 (c_J15_check hfl (z := (sz : Int) - 1) (n := sz) (by omega) (by omega)) rfl rfl (by decide) (by decide) (by exact Nat.le_of_ble_eq_true rfl) (fun _ _ z => z.elim) (fun v_5 h_5 p_5 => ?_)
  obtain ⟨rfl, rfl⟩ := p_5
  dsimp only [gk_push]
  refine gk_pop C rfl dJx4a65c_remove_915e3_8 ?_
  refine gk_aload_n C dJx4a65c_remove_915e3_9 rfl ?_
  refine gk_getf C f_Jx4a65c_9.r dJx4a65c_remove_915e3_10 (by (try simp only [hset_set]); first | assumption | exact hset_eq | (refine (hset_ne (by first | assumption | exact Ne.symm (by assumption))).trans ?_; first | assumption | exact hset_eq | (refine (hset_ne (by first | assumption | exact Ne.symm (by assumption))).trans ?_; first | assumption | exact hset_eq | (refine (hset_ne (by first | assumption | exact Ne.symm (by assumption))).trans ?_; first | assumption | exact hset_eq)))) (by rfl) ?_
  refine gk_astore_n_2 C rfl (by decide) dJx4a65c_remove_915e3_13 ?_
  refine gk_aload_n C dJx4a65c_remove_915e3_14 rfl ?_
  refine gk_iload_n C dJx4a65c_remove_915e3_15 rfl ?_
  refine gk_aald C dJx4a65c_remove_915e3_16 (by (try simp only [hset_set]); first | assumption | exact hset_eq | (refine (hset_ne (by first | assumption | exact Ne.symm (by assumption))).trans ?_; first | assumption | exact hset_eq | (refine (hset_ne (by first | assumption | exact Ne.symm (by assumption))).trans ?_; first | assumption | exact hset_eq | (refine (hset_ne (by first | assumption | exact Ne.symm (by assumption))).trans ?_; first | assumption | exact hset_eq)))) (by omega) (by omega) hy ?_
  refine gk_astore_n_3 C rfl (by decide) dJx4a65c_remove_915e3_17 ?_
  refine gk_aload_n C dJx4a65c_remove_915e3_18 rfl ?_
  refine gk_aload_n C dJx4a65c_remove_915e3_19 rfl ?_
  refine gk_iload_n C dJx4a65c_remove_915e3_20 rfl ?_
  refine gk_callV C o_Jx4a65c_fastRemove_b59b0 k_Jx4a65c_144 dJx4a65c_remove_915e3_21 (c_AL_fast hfl ha hR hs0 hsz) (by (try simp only [hset_set]); first | assumption | exact hset_eq | (refine (hset_ne (by first | assumption | exact Ne.symm (by assumption))).trans ?_; first | assumption | exact hset_eq | (refine (hset_ne (by first | assumption | exact Ne.symm (by assumption))).trans ?_; first | assumption | exact hset_eq | (refine (hset_ne (by first | assumption | exact Ne.symm (by assumption))).trans ?_; first | assumption | exact hset_eq)))) rfl rfl rfl (by decide) (by decide) (by exact Nat.le_of_ble_eq_true rfl) (fun _ _ z => z.elim) (fun v_21 h_21 p_21 => ?_)
  obtain ⟨rfl, rfl⟩ := p_21
  dsimp only [gk_push]
  refine gk_aload_n C dJx4a65c_remove_915e3_24 rfl ?_
  refine (R _ _ _ _ _ (by decide) (by decide)).2.2.2.1 _ _ rfl (Or.inl ⟨_, rfl⟩) dJx4a65c_remove_915e3_25 ?_
  exact ⟨rfl, rfl⟩
