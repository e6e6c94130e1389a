/-! the law's wrappers -/
set_option maxRecDepth 100000 in
set_option maxHeartbeats 4000000 in
theorem w_tune {l : Launch} {Γ : GA} {X W : Hp} {x o : Nat} {fs : List Value} {f : Int → Int} {z0 : Int} {MP : Int → MS → Prop} {Y : Hp → MS → Prop} (hx : X x = some (oO 5 fs)) (hW : W o = some (aL 1 f)) (hd : hdj X W)
    (hc : Ct l Γ m_X4_tune [.ref x, iv z0] X (fun v h' => ∃ r : Int, v = some (iv r) ∧ (-2147483648 ≤ r ∧ r ≤ 2147483647) ∧ ∀ b s2, MP b s2 → s2 39 0 = 0 ∧ r = b ∧ Y h' s2) (fun E h' => h' = X ∧ ((E = "java/lang/IllegalArgumentException" ∧ ∀ b s2, MP b s2 → s2 39 0 = 1 ∧ Y X s2) ∨ (E = "java/lang/IllegalStateException" ∧ ∀ b s2, MP b s2 → s2 39 0 = 2 ∧ Y X s2)))) :
    CtH l Γ m_L_tune hh_L_tune [.ref x, iv z0, .ref o] (hU X W) (fun v h' => ∃ (kk : Int) (X2 : Hp) (f2 : Int → Int), v = some (iv kk) ∧ (0 ≤ kk ∧ kk ≤ 3) ∧ (∀ b s2, MP b s2 → s2 39 0 = kk ∧ (kk = 0 → f2 0 = b ∧ (-2147483648 ≤ b ∧ b ≤ 2147483647)) ∧ Y X2 s2) ∧ hdj X2 W ∧ h' = hU X2 (hset W o (aL 1 f2))) := by
  refine CtH.intro (by decide +kernel) rfl (Nat.le_of_ble_eq_true rfl) ?_
  intro G T0 R
  have C := T0.cx
  show G 0 [some (.ref x), some (iv z0), some (.ref o), none] [] (hU X W) 0 0
  refine gk_aload_n C dL_tune_0 rfl ?_
  refine gk_iconst C dL_tune_1 ?_
  refine gk_aload_n C dL_tune_2 rfl ?_
  refine gk_iload_n C dL_tune_3 rfl ?_
  refine gk_callVH T0 o_X4_tune k_L_7 dL_tune_4 (Ct.fr hd hc) (hU_l hx) rfl rfl rfl (by decide) (by decide) (by exact Nat.le_of_ble_eq_true rfl) (fun E_4 h_4 x_4 => ?_) (fun v_4 h_4 p_4 => ?_)
  · obtain ⟨h3, ⟨e3, pe⟩, d3, e4⟩ := x_4
    rw [e3] at d3 e4
    subst e4
    rcases pe with ⟨rfl, pe⟩ | ⟨rfl, pe⟩
    · refine ⟨12, hd_L_tune_0, fun q_0 => ?_⟩
      refine gk_astore_n_3 C rfl (by decide) dL_tune_12 ?_
      refine gk_iconst C dL_tune_13 ?_
      refine (R _ _ _ _ _ (by decide) (by decide)).1 _ rfl dL_tune_14 ?_
      refine ⟨1, X, f, rfl, by omega, fun b s2 hm => ⟨(pe b s2 hm).1, fun z => absurd z (by omega), (pe b s2 hm).2⟩, d3, ?_⟩
      rw [hset_self hW]
    · refine ⟨15, hd_L_tune_1, fun q_0 => ?_⟩
      refine gk_astore_n_3 C rfl (by decide) dL_tune_15 ?_
      refine gk_iconst C dL_tune_16 ?_
      refine (R _ _ _ _ _ (by decide) (by decide)).1 _ rfl dL_tune_17 ?_
      refine ⟨2, X, f, rfl, by omega, fun b s2 hm => ⟨(pe b s2 hm).1, fun z => absurd z (by omega), (pe b s2 hm).2⟩, d3, ?_⟩
      rw [hset_self hW]
  · obtain ⟨h3, ⟨r, rfl, rr, pr⟩, d3, rfl⟩ := p_4
    dsimp only [gk_push]
    refine gk_i2l C (by omega) dL_tune_7 ?_
    refine gk_last C dL_tune_8 (hU_r d3 hW) (by omega) (by omega) ?_
    rw [hU_setR (d3.no hW)]
    refine gk_goto C (tgt := 18) dL_tune_9 (by decide) ?_
    refine gk_iconst C dL_tune_18 ?_
    refine (R _ _ _ _ _ (by decide) (by decide)).1 _ rfl dL_tune_19 ?_
    refine ⟨0, h3, gupd f 0 r, rfl, by omega, fun b s2 hm => ?_, d3, rfl⟩
    obtain ⟨a1, a2, a3⟩ := pr b s2 hm
    subst a2
    exact ⟨a1, fun _ => ⟨gupd_eq, rr⟩, a3⟩

set_option maxRecDepth 100000 in
set_option maxHeartbeats 4000000 in
theorem w_note {l : Launch} {Γ : GA} {X W : Hp} {x o : Nat} {fs : List Value} {f : Int → Int} {z0 z1 z2 z3 : Int} {MP : Int → MS → Prop} {Y : Hp → MS → Prop} (hx : X x = some (oO 5 fs)) (hW : W o = some (aL 1 f)) (hd : hdj X W)
    (hc : Ct l Γ m_X4_note [.ref x, iv z0, iv z1, iv z2, iv z3] X (fun v h' => ∃ r : Int, v = some (iv r) ∧ (-2147483648 ≤ r ∧ r ≤ 2147483647) ∧ ∀ b s2, MP b s2 → s2 39 0 = 0 ∧ r = b ∧ Y h' s2) (fun E h' => h' = X ∧ ((E = "java/lang/IndexOutOfBoundsException" ∧ ∀ b s2, MP b s2 → s2 39 0 = 1 ∧ Y X s2) ∨ (E = "java/lang/IllegalArgumentException" ∧ ∀ b s2, MP b s2 → s2 39 0 = 2 ∧ Y X s2) ∨ (E = "java/lang/IllegalStateException" ∧ ∀ b s2, MP b s2 → s2 39 0 = 3 ∧ Y X s2)))) :
    CtH l Γ m_L_note hh_L_note [.ref x, iv z0, iv z1, iv z2, iv z3, .ref o] (hU X W) (fun v h' => ∃ (kk : Int) (X2 : Hp) (f2 : Int → Int), v = some (iv kk) ∧ (0 ≤ kk ∧ kk ≤ 3) ∧ (∀ b s2, MP b s2 → s2 39 0 = kk ∧ (kk = 0 → f2 0 = b ∧ (-2147483648 ≤ b ∧ b ≤ 2147483647)) ∧ Y X2 s2) ∧ hdj X2 W ∧ h' = hU X2 (hset W o (aL 1 f2))) := by
  refine CtH.intro (by decide +kernel) rfl (Nat.le_of_ble_eq_true rfl) ?_
  intro G T0 R
  have C := T0.cx
  show G 0 [some (.ref x), some (iv z0), some (iv z1), some (iv z2), some (iv z3), some (.ref o), none] [] (hU X W) 0 0
  refine gk_aload C dL_note_0 rfl ?_
  refine gk_iconst C dL_note_2 ?_
  refine gk_aload_n C dL_note_3 rfl ?_
  refine gk_iload_n C dL_note_4 rfl ?_
  refine gk_iload_n C dL_note_5 rfl ?_
  refine gk_iload_n C dL_note_6 rfl ?_
  refine gk_iload C dL_note_7 rfl ?_
  refine gk_callVH T0 o_X4_note k_L_17 dL_note_9 (Ct.fr hd hc) (hU_l hx) rfl rfl rfl (by decide) (by decide) (by exact Nat.le_of_ble_eq_true rfl) (fun E_9 h_9 x_9 => ?_) (fun v_9 h_9 p_9 => ?_)
  · obtain ⟨h3, ⟨e3, pe⟩, d3, e4⟩ := x_9
    rw [e3] at d3 e4
    subst e4
    rcases pe with ⟨rfl, pe⟩ | ⟨rfl, pe⟩ | ⟨rfl, pe⟩
    · refine ⟨17, hd_L_note_0, fun q_0 => ?_⟩
      refine gk_astore_6 C rfl (by decide) dL_note_17 ?_
      refine gk_iconst C dL_note_19 ?_
      refine (R _ _ _ _ _ (by decide) (by decide)).1 _ rfl dL_note_20 ?_
      refine ⟨1, X, f, rfl, by omega, fun b s2 hm => ⟨(pe b s2 hm).1, fun z => absurd z (by omega), (pe b s2 hm).2⟩, d3, ?_⟩
      rw [hset_self hW]
    · refine ⟨21, hd_L_note_1, fun q_0 => ?_⟩
      refine gk_astore_6 C rfl (by decide) dL_note_21 ?_
      refine gk_iconst C dL_note_23 ?_
      refine (R _ _ _ _ _ (by decide) (by decide)).1 _ rfl dL_note_24 ?_
      refine ⟨2, X, f, rfl, by omega, fun b s2 hm => ⟨(pe b s2 hm).1, fun z => absurd z (by omega), (pe b s2 hm).2⟩, d3, ?_⟩
      rw [hset_self hW]
    · refine ⟨25, hd_L_note_2, fun q_0 => ?_⟩
      refine gk_astore_6 C rfl (by decide) dL_note_25 ?_
      refine gk_iconst C dL_note_27 ?_
      refine (R _ _ _ _ _ (by decide) (by decide)).1 _ rfl dL_note_28 ?_
      refine ⟨3, X, f, rfl, by omega, fun b s2 hm => ⟨(pe b s2 hm).1, fun z => absurd z (by omega), (pe b s2 hm).2⟩, d3, ?_⟩
      rw [hset_self hW]
  · obtain ⟨h3, ⟨r, rfl, rr, pr⟩, d3, rfl⟩ := p_9
    dsimp only [gk_push]
    refine gk_i2l C (by omega) dL_note_12 ?_
    refine gk_last C dL_note_13 (hU_r d3 hW) (by omega) (by omega) ?_
    rw [hU_setR (d3.no hW)]
    refine gk_goto C (tgt := 29) dL_note_14 (by decide) ?_
    refine gk_iconst C dL_note_29 ?_
    refine (R _ _ _ _ _ (by decide) (by decide)).1 _ rfl dL_note_30 ?_
    refine ⟨0, h3, gupd f 0 r, rfl, by omega, fun b s2 hm => ?_, d3, rfl⟩
    obtain ⟨a1, a2, a3⟩ := pr b s2 hm
    subst a2
    exact ⟨a1, fun _ => ⟨gupd_eq, rr⟩, a3⟩

set_option maxRecDepth 100000 in
set_option maxHeartbeats 4000000 in
theorem w_part {l : Launch} {Γ : GA} {X W : Hp} {x o : Nat} {fs : List Value} {f : Int → Int} {z0 z1 : Int} {MP : Int → MS → Prop} {Y : Hp → MS → Prop} (hx : X x = some (oO 5 fs)) (hW : W o = some (aL 1 f)) (hd : hdj X W)
    (hc : Ct l Γ m_X4_part [.ref x, iv z0, iv z1] X (fun v h' => ∃ r : Int, v = some (iv r) ∧ (-2147483648 ≤ r ∧ r ≤ 2147483647) ∧ ∀ b s2, MP b s2 → s2 39 0 = 0 ∧ r = b ∧ Y h' s2) (fun E h' => h' = X ∧ ((E = "java/lang/IndexOutOfBoundsException" ∧ ∀ b s2, MP b s2 → s2 39 0 = 1 ∧ Y X s2) ∨ (E = "java/lang/IllegalStateException" ∧ ∀ b s2, MP b s2 → s2 39 0 = 2 ∧ Y X s2)))) :
    CtH l Γ m_L_part hh_L_part [.ref x, iv z0, iv z1, .ref o] (hU X W) (fun v h' => ∃ (kk : Int) (X2 : Hp) (f2 : Int → Int), v = some (iv kk) ∧ (0 ≤ kk ∧ kk ≤ 3) ∧ (∀ b s2, MP b s2 → s2 39 0 = kk ∧ (kk = 0 → f2 0 = b ∧ (-2147483648 ≤ b ∧ b ≤ 2147483647)) ∧ Y X2 s2) ∧ hdj X2 W ∧ h' = hU X2 (hset W o (aL 1 f2))) := by
  refine CtH.intro (by decide +kernel) rfl (Nat.le_of_ble_eq_true rfl) ?_
  intro G T0 R
  have C := T0.cx
  show G 0 [some (.ref x), some (iv z0), some (iv z1), some (.ref o), none] [] (hU X W) 0 0
  refine gk_aload_n C dL_part_0 rfl ?_
  refine gk_iconst C dL_part_1 ?_
  refine gk_aload_n C dL_part_2 rfl ?_
  refine gk_iload_n C dL_part_3 rfl ?_
  refine gk_iload_n C dL_part_4 rfl ?_
  refine gk_callVH T0 o_X4_part k_L_23 dL_part_5 (Ct.fr hd hc) (hU_l hx) rfl rfl rfl (by decide) (by decide) (by exact Nat.le_of_ble_eq_true rfl) (fun E_5 h_5 x_5 => ?_) (fun v_5 h_5 p_5 => ?_)
  · obtain ⟨h3, ⟨e3, pe⟩, d3, e4⟩ := x_5
    rw [e3] at d3 e4
    subst e4
    rcases pe with ⟨rfl, pe⟩ | ⟨rfl, pe⟩
    · refine ⟨13, hd_L_part_0, fun q_0 => ?_⟩
      refine gk_astore_4 C rfl (by decide) dL_part_13 ?_
      refine gk_iconst C dL_part_15 ?_
      refine (R _ _ _ _ _ (by decide) (by decide)).1 _ rfl dL_part_16 ?_
      refine ⟨1, X, f, rfl, by omega, fun b s2 hm => ⟨(pe b s2 hm).1, fun z => absurd z (by omega), (pe b s2 hm).2⟩, d3, ?_⟩
      rw [hset_self hW]
    · refine ⟨17, hd_L_part_1, fun q_0 => ?_⟩
      refine gk_astore_4 C rfl (by decide) dL_part_17 ?_
      refine gk_iconst C dL_part_19 ?_
      refine (R _ _ _ _ _ (by decide) (by decide)).1 _ rfl dL_part_20 ?_
      refine ⟨2, X, f, rfl, by omega, fun b s2 hm => ⟨(pe b s2 hm).1, fun z => absurd z (by omega), (pe b s2 hm).2⟩, d3, ?_⟩
      rw [hset_self hW]
  · obtain ⟨h3, ⟨r, rfl, rr, pr⟩, d3, rfl⟩ := p_5
    dsimp only [gk_push]
    refine gk_i2l C (by omega) dL_part_8 ?_
    refine gk_last C dL_part_9 (hU_r d3 hW) (by omega) (by omega) ?_
    rw [hU_setR (d3.no hW)]
    refine gk_goto C (tgt := 21) dL_part_10 (by decide) ?_
    refine gk_iconst C dL_part_21 ?_
    refine (R _ _ _ _ _ (by decide) (by decide)).1 _ rfl dL_part_22 ?_
    refine ⟨0, h3, gupd f 0 r, rfl, by omega, fun b s2 hm => ?_, d3, rfl⟩
    obtain ⟨a1, a2, a3⟩ := pr b s2 hm
    subst a2
    exact ⟨a1, fun _ => ⟨gupd_eq, rr⟩, a3⟩

set_option maxRecDepth 100000 in
set_option maxHeartbeats 4000000 in
theorem w_played {l : Launch} {Γ : GA} {X W : Hp} {x o : Nat} {fs : List Value} {f : Int → Int} {z0 z1 z2 : Int} {MP : Int → MS → Prop} {Y : Hp → MS → Prop} (hx : X x = some (oO 5 fs)) (hW : W o = some (aL 1 f)) (hd : hdj X W)
    (hc : Ct l Γ m_X4_played [.ref x, iv z0, iv z1, iv z2] X (fun v h' => ∃ r : Int, v = some (iv r) ∧ (-2147483648 ≤ r ∧ r ≤ 2147483647) ∧ ∀ b s2, MP b s2 → s2 39 0 = 0 ∧ r = b ∧ Y h' s2) (fun E h' => h' = X ∧ ((E = "java/lang/IndexOutOfBoundsException" ∧ ∀ b s2, MP b s2 → s2 39 0 = 1 ∧ Y X s2) ∨ (E = "java/lang/IllegalArgumentException" ∧ ∀ b s2, MP b s2 → s2 39 0 = 2 ∧ Y X s2)))) :
    CtH l Γ m_L_played hh_L_played [.ref x, iv z0, iv z1, iv z2, .ref o] (hU X W) (fun v h' => ∃ (kk : Int) (X2 : Hp) (f2 : Int → Int), v = some (iv kk) ∧ (0 ≤ kk ∧ kk ≤ 3) ∧ (∀ b s2, MP b s2 → s2 39 0 = kk ∧ (kk = 0 → f2 0 = b ∧ (-2147483648 ≤ b ∧ b ≤ 2147483647)) ∧ Y X2 s2) ∧ hdj X2 W ∧ h' = hU X2 (hset W o (aL 1 f2))) := by
  refine CtH.intro (by decide +kernel) rfl (Nat.le_of_ble_eq_true rfl) ?_
  intro G T0 R
  have C := T0.cx
  show G 0 [some (.ref x), some (iv z0), some (iv z1), some (iv z2), some (.ref o), none] [] (hU X W) 0 0
  refine gk_aload C dL_played_0 rfl ?_
  refine gk_iconst C dL_played_2 ?_
  refine gk_aload_n C dL_played_3 rfl ?_
  refine gk_iload_n C dL_played_4 rfl ?_
  refine gk_iload_n C dL_played_5 rfl ?_
  refine gk_iload_n C dL_played_6 rfl ?_
  refine gk_callVH T0 o_X4_played k_L_27 dL_played_7 (Ct.fr hd hc) (hU_l hx) rfl rfl rfl (by decide) (by decide) (by exact Nat.le_of_ble_eq_true rfl) (fun E_7 h_7 x_7 => ?_) (fun v_7 h_7 p_7 => ?_)
  · obtain ⟨h3, ⟨e3, pe⟩, d3, e4⟩ := x_7
    rw [e3] at d3 e4
    subst e4
    rcases pe with ⟨rfl, pe⟩ | ⟨rfl, pe⟩
    · refine ⟨15, hd_L_played_0, fun q_0 => ?_⟩
      refine gk_astore_5 C rfl (by decide) dL_played_15 ?_
      refine gk_iconst C dL_played_17 ?_
      refine (R _ _ _ _ _ (by decide) (by decide)).1 _ rfl dL_played_18 ?_
      refine ⟨1, X, f, rfl, by omega, fun b s2 hm => ⟨(pe b s2 hm).1, fun z => absurd z (by omega), (pe b s2 hm).2⟩, d3, ?_⟩
      rw [hset_self hW]
    · refine ⟨19, hd_L_played_1, fun q_0 => ?_⟩
      refine gk_astore_5 C rfl (by decide) dL_played_19 ?_
      refine gk_iconst C dL_played_21 ?_
      refine (R _ _ _ _ _ (by decide) (by decide)).1 _ rfl dL_played_22 ?_
      refine ⟨2, X, f, rfl, by omega, fun b s2 hm => ⟨(pe b s2 hm).1, fun z => absurd z (by omega), (pe b s2 hm).2⟩, d3, ?_⟩
      rw [hset_self hW]
  · obtain ⟨h3, ⟨r, rfl, rr, pr⟩, d3, rfl⟩ := p_7
    dsimp only [gk_push]
    refine gk_i2l C (by omega) dL_played_10 ?_
    refine gk_last C dL_played_11 (hU_r d3 hW) (by omega) (by omega) ?_
    rw [hU_setR (d3.no hW)]
    refine gk_goto C (tgt := 23) dL_played_12 (by decide) ?_
    refine gk_iconst C dL_played_23 ?_
    refine (R _ _ _ _ _ (by decide) (by decide)).1 _ rfl dL_played_24 ?_
    refine ⟨0, h3, gupd f 0 r, rfl, by omega, fun b s2 hm => ?_, d3, rfl⟩
    obtain ⟨a1, a2, a3⟩ := pr b s2 hm
    subst a2
    exact ⟨a1, fun _ => ⟨gupd_eq, rr⟩, a3⟩

set_option maxRecDepth 100000 in
set_option maxHeartbeats 4000000 in
theorem w_ofTune {l : Launch} {Γ : GA} {X W : Hp} {x o : Nat} {fs : List Value} {f : Int → Int} {z0 z1 : Int} {MP : Int → MS → Prop} {Y : Hp → MS → Prop} (hx : X x = some (oO 5 fs)) (hW : W o = some (aL 1 f)) (hd : hdj X W)
    (hc : Ct l Γ m_X4_ofTune [.ref x, iv z0, iv z1] X (fun v h' => ∃ r : Int, v = some (iv r) ∧ (-2147483648 ≤ r ∧ r ≤ 2147483647) ∧ ∀ b s2, MP b s2 → s2 39 0 = 0 ∧ r = b ∧ Y h' s2) (fun E h' => h' = X ∧ ((E = "java/lang/IndexOutOfBoundsException" ∧ ∀ b s2, MP b s2 → s2 39 0 = 1 ∧ Y X s2) ∨ (E = "java/lang/IllegalArgumentException" ∧ ∀ b s2, MP b s2 → s2 39 0 = 2 ∧ Y X s2)))) :
    CtH l Γ m_L_ofTune hh_L_ofTune [.ref x, iv z0, iv z1, .ref o] (hU X W) (fun v h' => ∃ (kk : Int) (X2 : Hp) (f2 : Int → Int), v = some (iv kk) ∧ (0 ≤ kk ∧ kk ≤ 3) ∧ (∀ b s2, MP b s2 → s2 39 0 = kk ∧ (kk = 0 → f2 0 = b ∧ (-2147483648 ≤ b ∧ b ≤ 2147483647)) ∧ Y X2 s2) ∧ hdj X2 W ∧ h' = hU X2 (hset W o (aL 1 f2))) := by
  refine CtH.intro (by decide +kernel) rfl (Nat.le_of_ble_eq_true rfl) ?_
  intro G T0 R
  have C := T0.cx
  show G 0 [some (.ref x), some (iv z0), some (iv z1), some (.ref o), none] [] (hU X W) 0 0
  refine gk_aload_n C dL_ofTune_0 rfl ?_
  refine gk_iconst C dL_ofTune_1 ?_
  refine gk_aload_n C dL_ofTune_2 rfl ?_
  refine gk_iload_n C dL_ofTune_3 rfl ?_
  refine gk_iload_n C dL_ofTune_4 rfl ?_
  refine gk_callVH T0 o_X4_ofTune k_L_31 dL_ofTune_5 (Ct.fr hd hc) (hU_l hx) rfl rfl rfl (by decide) (by decide) (by exact Nat.le_of_ble_eq_true rfl) (fun E_5 h_5 x_5 => ?_) (fun v_5 h_5 p_5 => ?_)
  · obtain ⟨h3, ⟨e3, pe⟩, d3, e4⟩ := x_5
    rw [e3] at d3 e4
    subst e4
    rcases pe with ⟨rfl, pe⟩ | ⟨rfl, pe⟩
    · refine ⟨13, hd_L_ofTune_0, fun q_0 => ?_⟩
      refine gk_astore_4 C rfl (by decide) dL_ofTune_13 ?_
      refine gk_iconst C dL_ofTune_15 ?_
      refine (R _ _ _ _ _ (by decide) (by decide)).1 _ rfl dL_ofTune_16 ?_
      refine ⟨1, X, f, rfl, by omega, fun b s2 hm => ⟨(pe b s2 hm).1, fun z => absurd z (by omega), (pe b s2 hm).2⟩, d3, ?_⟩
      rw [hset_self hW]
    · refine ⟨17, hd_L_ofTune_1, fun q_0 => ?_⟩
      refine gk_astore_4 C rfl (by decide) dL_ofTune_17 ?_
      refine gk_iconst C dL_ofTune_19 ?_
      refine (R _ _ _ _ _ (by decide) (by decide)).1 _ rfl dL_ofTune_20 ?_
      refine ⟨2, X, f, rfl, by omega, fun b s2 hm => ⟨(pe b s2 hm).1, fun z => absurd z (by omega), (pe b s2 hm).2⟩, d3, ?_⟩
      rw [hset_self hW]
  · obtain ⟨h3, ⟨r, rfl, rr, pr⟩, d3, rfl⟩ := p_5
    dsimp only [gk_push]
    refine gk_i2l C (by omega) dL_ofTune_8 ?_
    refine gk_last C dL_ofTune_9 (hU_r d3 hW) (by omega) (by omega) ?_
    rw [hU_setR (d3.no hW)]
    refine gk_goto C (tgt := 21) dL_ofTune_10 (by decide) ?_
    refine gk_iconst C dL_ofTune_21 ?_
    refine (R _ _ _ _ _ (by decide) (by decide)).1 _ rfl dL_ofTune_22 ?_
    refine ⟨0, h3, gupd f 0 r, rfl, by omega, fun b s2 hm => ?_, d3, rfl⟩
    obtain ⟨a1, a2, a3⟩ := pr b s2 hm
    subst a2
    exact ⟨a1, fun _ => ⟨gupd_eq, rr⟩, a3⟩

set_option maxRecDepth 100000 in
set_option maxHeartbeats 4000000 in
theorem w_alike {l : Launch} {Γ : GA} {X W : Hp} {x o : Nat} {fs : List Value} {f : Int → Int} {z0 z1 : Int} {MP : Int → MS → Prop} {Y : Hp → MS → Prop} (hx : X x = some (oO 5 fs)) (hW : W o = some (aL 1 f)) (hd : hdj X W)
    (hc : Ct l Γ m_X4_alike [.ref x, iv z0, iv z1] X (fun v h' => ∃ r : Int, v = some (iv r) ∧ (-2147483648 ≤ r ∧ r ≤ 2147483647) ∧ ∀ b s2, MP b s2 → s2 39 0 = 0 ∧ r = b ∧ Y h' s2) (fun E h' => h' = X ∧ ((E = "java/lang/IndexOutOfBoundsException" ∧ ∀ b s2, MP b s2 → s2 39 0 = 1 ∧ Y X s2)))) :
    CtH l Γ m_L_alike hh_L_alike [.ref x, iv z0, iv z1, .ref o] (hU X W) (fun v h' => ∃ (kk : Int) (X2 : Hp) (f2 : Int → Int), v = some (iv kk) ∧ (0 ≤ kk ∧ kk ≤ 3) ∧ (∀ b s2, MP b s2 → s2 39 0 = kk ∧ (kk = 0 → f2 0 = b ∧ (-2147483648 ≤ b ∧ b ≤ 2147483647)) ∧ Y X2 s2) ∧ hdj X2 W ∧ h' = hU X2 (hset W o (aL 1 f2))) := by
  refine CtH.intro (by decide +kernel) rfl (Nat.le_of_ble_eq_true rfl) ?_
  intro G T0 R
  have C := T0.cx
  show G 0 [some (.ref x), some (iv z0), some (iv z1), some (.ref o), none] [] (hU X W) 0 0
  refine gk_aload_n C dL_alike_0 rfl ?_
  refine gk_iconst C dL_alike_1 ?_
  refine gk_aload_n C dL_alike_2 rfl ?_
  refine gk_iload_n C dL_alike_3 rfl ?_
  refine gk_iload_n C dL_alike_4 rfl ?_
  refine gk_callVH T0 o_X4_alike k_L_35 dL_alike_5 (Ct.fr hd hc) (hU_l hx) rfl rfl rfl (by decide) (by decide) (by exact Nat.le_of_ble_eq_true rfl) (fun E_5 h_5 x_5 => ?_) (fun v_5 h_5 p_5 => ?_)
  · obtain ⟨h3, ⟨e3, pe⟩, d3, e4⟩ := x_5
    rw [e3] at d3 e4
    subst e4
    obtain ⟨rfl, pe⟩ := pe
    refine ⟨13, hd_L_alike_0, fun q_0 => ?_⟩
    refine gk_astore_4 C rfl (by decide) dL_alike_13 ?_
    refine gk_iconst C dL_alike_15 ?_
    refine (R _ _ _ _ _ (by decide) (by decide)).1 _ rfl dL_alike_16 ?_
    refine ⟨1, X, f, rfl, by omega, fun b s2 hm => ⟨(pe b s2 hm).1, fun z => absurd z (by omega), (pe b s2 hm).2⟩, d3, ?_⟩
    rw [hset_self hW]
  · obtain ⟨h3, ⟨r, rfl, rr, pr⟩, d3, rfl⟩ := p_5
    dsimp only [gk_push]
    refine gk_i2l C (by omega) dL_alike_8 ?_
    refine gk_last C dL_alike_9 (hU_r d3 hW) (by omega) (by omega) ?_
    rw [hU_setR (d3.no hW)]
    refine gk_goto C (tgt := 17) dL_alike_10 (by decide) ?_
    refine gk_iconst C dL_alike_17 ?_
    refine (R _ _ _ _ _ (by decide) (by decide)).1 _ rfl dL_alike_18 ?_
    refine ⟨0, h3, gupd f 0 r, rfl, by omega, fun b s2 hm => ?_, d3, rfl⟩
    obtain ⟨a1, a2, a3⟩ := pr b s2 hm
    subst a2
    exact ⟨a1, fun _ => ⟨gupd_eq, rr⟩, a3⟩

set_option maxRecDepth 100000 in
set_option maxHeartbeats 4000000 in
theorem w_alikeAnew {l : Launch} {Γ : GA} {X W : Hp} {x o : Nat} {fs : List Value} {f : Int → Int} {z0 z1 : Int} {MP : Int → MS → Prop} {Y : Hp → MS → Prop} (hx : X x = some (oO 5 fs)) (hW : W o = some (aL 1 f)) (hd : hdj X W)
    (hc : Ct l Γ m_X4_alikeAnew [.ref x, iv z0, iv z1] X (fun v h' => ∃ r : Int, v = some (iv r) ∧ (-2147483648 ≤ r ∧ r ≤ 2147483647) ∧ ∀ b s2, MP b s2 → s2 39 0 = 0 ∧ r = b ∧ Y h' s2) (fun E h' => h' = X ∧ ((E = "java/lang/IndexOutOfBoundsException" ∧ ∀ b s2, MP b s2 → s2 39 0 = 1 ∧ Y X s2)))) :
    CtH l Γ m_L_alikeAnew hh_L_alikeAnew [.ref x, iv z0, iv z1, .ref o] (hU X W) (fun v h' => ∃ (kk : Int) (X2 : Hp) (f2 : Int → Int), v = some (iv kk) ∧ (0 ≤ kk ∧ kk ≤ 3) ∧ (∀ b s2, MP b s2 → s2 39 0 = kk ∧ (kk = 0 → f2 0 = b ∧ (-2147483648 ≤ b ∧ b ≤ 2147483647)) ∧ Y X2 s2) ∧ hdj X2 W ∧ h' = hU X2 (hset W o (aL 1 f2))) := by
  refine CtH.intro (by decide +kernel) rfl (Nat.le_of_ble_eq_true rfl) ?_
  intro G T0 R
  have C := T0.cx
  show G 0 [some (.ref x), some (iv z0), some (iv z1), some (.ref o), none] [] (hU X W) 0 0
  refine gk_aload_n C dL_alikeAnew_0 rfl ?_
  refine gk_iconst C dL_alikeAnew_1 ?_
  refine gk_aload_n C dL_alikeAnew_2 rfl ?_
  refine gk_iload_n C dL_alikeAnew_3 rfl ?_
  refine gk_iload_n C dL_alikeAnew_4 rfl ?_
  refine gk_callVH T0 o_X4_alikeAnew k_L_38 dL_alikeAnew_5 (Ct.fr hd hc) (hU_l hx) rfl rfl rfl (by decide) (by decide) (by exact Nat.le_of_ble_eq_true rfl) (fun E_5 h_5 x_5 => ?_) (fun v_5 h_5 p_5 => ?_)
  · obtain ⟨h3, ⟨e3, pe⟩, d3, e4⟩ := x_5
    rw [e3] at d3 e4
    subst e4
    obtain ⟨rfl, pe⟩ := pe
    refine ⟨13, hd_L_alikeAnew_0, fun q_0 => ?_⟩
    refine gk_astore_4 C rfl (by decide) dL_alikeAnew_13 ?_
    refine gk_iconst C dL_alikeAnew_15 ?_
    refine (R _ _ _ _ _ (by decide) (by decide)).1 _ rfl dL_alikeAnew_16 ?_
    refine ⟨1, X, f, rfl, by omega, fun b s2 hm => ⟨(pe b s2 hm).1, fun z => absurd z (by omega), (pe b s2 hm).2⟩, d3, ?_⟩
    rw [hset_self hW]
  · obtain ⟨h3, ⟨r, rfl, rr, pr⟩, d3, rfl⟩ := p_5
    dsimp only [gk_push]
    refine gk_i2l C (by omega) dL_alikeAnew_8 ?_
    refine gk_last C dL_alikeAnew_9 (hU_r d3 hW) (by omega) (by omega) ?_
    rw [hU_setR (d3.no hW)]
    refine gk_goto C (tgt := 17) dL_alikeAnew_10 (by decide) ?_
    refine gk_iconst C dL_alikeAnew_17 ?_
    refine (R _ _ _ _ _ (by decide) (by decide)).1 _ rfl dL_alikeAnew_18 ?_
    refine ⟨0, h3, gupd f 0 r, rfl, by omega, fun b s2 hm => ?_, d3, rfl⟩
    obtain ⟨a1, a2, a3⟩ := pr b s2 hm
    subst a2
    exact ⟨a1, fun _ => ⟨gupd_eq, rr⟩, a3⟩

set_option maxRecDepth 100000 in
set_option maxHeartbeats 4000000 in
theorem w_follow {l : Launch} {Γ : GA} {X W : Hp} {x o : Nat} {fs : List Value} {f : Int → Int} {z0 z1 : Int} {MP : Int → MS → Prop} {Y : Hp → MS → Prop} (hx : X x = some (oO 5 fs)) (hW : W o = some (aL 1 f)) (hd : hdj X W)
    (hc : Ct l Γ m_X4_follow [.ref x, iv z0, iv z1] X (fun v h' => ∃ r : Int, v = some (iv r) ∧ (-2147483648 ≤ r ∧ r ≤ 2147483647) ∧ ∀ b s2, MP b s2 → s2 39 0 = 0 ∧ r = b ∧ Y h' s2) (fun E h' => h' = X ∧ ((E = "java/lang/IndexOutOfBoundsException" ∧ ∀ b s2, MP b s2 → s2 39 0 = 1 ∧ Y X s2) ∨ (E = "java/lang/IllegalArgumentException" ∧ ∀ b s2, MP b s2 → s2 39 0 = 2 ∧ Y X s2) ∨ (E = "java/lang/IllegalStateException" ∧ ∀ b s2, MP b s2 → s2 39 0 = 3 ∧ Y X s2)))) :
    CtH l Γ m_L_follow hh_L_follow [.ref x, iv z0, iv z1, .ref o] (hU X W) (fun v h' => ∃ (kk : Int) (X2 : Hp) (f2 : Int → Int), v = some (iv kk) ∧ (0 ≤ kk ∧ kk ≤ 3) ∧ (∀ b s2, MP b s2 → s2 39 0 = kk ∧ (kk = 0 → f2 0 = b ∧ (-2147483648 ≤ b ∧ b ≤ 2147483647)) ∧ Y X2 s2) ∧ hdj X2 W ∧ h' = hU X2 (hset W o (aL 1 f2))) := by
  refine CtH.intro (by decide +kernel) rfl (Nat.le_of_ble_eq_true rfl) ?_
  intro G T0 R
  have C := T0.cx
  show G 0 [some (.ref x), some (iv z0), some (iv z1), some (.ref o), none] [] (hU X W) 0 0
  refine gk_aload_n C dL_follow_0 rfl ?_
  refine gk_iconst C dL_follow_1 ?_
  refine gk_aload_n C dL_follow_2 rfl ?_
  refine gk_iload_n C dL_follow_3 rfl ?_
  refine gk_iload_n C dL_follow_4 rfl ?_
  refine gk_callVH T0 o_X4_follow k_L_41 dL_follow_5 (Ct.fr hd hc) (hU_l hx) rfl rfl rfl (by decide) (by decide) (by exact Nat.le_of_ble_eq_true rfl) (fun E_5 h_5 x_5 => ?_) (fun v_5 h_5 p_5 => ?_)
  · obtain ⟨h3, ⟨e3, pe⟩, d3, e4⟩ := x_5
    rw [e3] at d3 e4
    subst e4
    rcases pe with ⟨rfl, pe⟩ | ⟨rfl, pe⟩ | ⟨rfl, pe⟩
    · refine ⟨13, hd_L_follow_0, fun q_0 => ?_⟩
      refine gk_astore_4 C rfl (by decide) dL_follow_13 ?_
      refine gk_iconst C dL_follow_15 ?_
      refine (R _ _ _ _ _ (by decide) (by decide)).1 _ rfl dL_follow_16 ?_
      refine ⟨1, X, f, rfl, by omega, fun b s2 hm => ⟨(pe b s2 hm).1, fun z => absurd z (by omega), (pe b s2 hm).2⟩, d3, ?_⟩
      rw [hset_self hW]
    · refine ⟨17, hd_L_follow_1, fun q_0 => ?_⟩
      refine gk_astore_4 C rfl (by decide) dL_follow_17 ?_
      refine gk_iconst C dL_follow_19 ?_
      refine (R _ _ _ _ _ (by decide) (by decide)).1 _ rfl dL_follow_20 ?_
      refine ⟨2, X, f, rfl, by omega, fun b s2 hm => ⟨(pe b s2 hm).1, fun z => absurd z (by omega), (pe b s2 hm).2⟩, d3, ?_⟩
      rw [hset_self hW]
    · refine ⟨21, hd_L_follow_2, fun q_0 => ?_⟩
      refine gk_astore_4 C rfl (by decide) dL_follow_21 ?_
      refine gk_iconst C dL_follow_23 ?_
      refine (R _ _ _ _ _ (by decide) (by decide)).1 _ rfl dL_follow_24 ?_
      refine ⟨3, X, f, rfl, by omega, fun b s2 hm => ⟨(pe b s2 hm).1, fun z => absurd z (by omega), (pe b s2 hm).2⟩, d3, ?_⟩
      rw [hset_self hW]
  · obtain ⟨h3, ⟨r, rfl, rr, pr⟩, d3, rfl⟩ := p_5
    dsimp only [gk_push]
    refine gk_i2l C (by omega) dL_follow_8 ?_
    refine gk_last C dL_follow_9 (hU_r d3 hW) (by omega) (by omega) ?_
    rw [hU_setR (d3.no hW)]
    refine gk_goto C (tgt := 25) dL_follow_10 (by decide) ?_
    refine gk_iconst C dL_follow_25 ?_
    refine (R _ _ _ _ _ (by decide) (by decide)).1 _ rfl dL_follow_26 ?_
    refine ⟨0, h3, gupd f 0 r, rfl, by omega, fun b s2 hm => ?_, d3, rfl⟩
    obtain ⟨a1, a2, a3⟩ := pr b s2 hm
    subst a2
    exact ⟨a1, fun _ => ⟨gupd_eq, rr⟩, a3⟩

set_option maxRecDepth 100000 in
set_option maxHeartbeats 4000000 in
theorem w_drop {l : Launch} {Γ : GA} {X W : Hp} {x o : Nat} {fs : List Value} {f : Int → Int} {z0 : Int} {MP : Int → MS → Prop} {Y : Hp → MS → Prop} (hx : X x = some (oO 5 fs)) (hW : W o = some (aL 1 f)) (hd : hdj X W)
    (hc : Ct l Γ m_X4_drop [.ref x] X (fun v h' => ∃ r : Int, v = some (iv r) ∧ (-2147483648 ≤ r ∧ r ≤ 2147483647) ∧ ∀ b s2, MP b s2 → s2 39 0 = 0 ∧ r = b ∧ Y h' s2) (fun E h' => h' = X ∧ ((E = "java/lang/IllegalStateException" ∧ ∀ b s2, MP b s2 → s2 39 0 = 1 ∧ Y X s2)))) :
    CtH l Γ m_L_drop hh_L_drop [.ref x, .ref o] (hU X W) (fun v h' => ∃ (kk : Int) (X2 : Hp) (f2 : Int → Int), v = some (iv kk) ∧ (0 ≤ kk ∧ kk ≤ 3) ∧ (∀ b s2, MP b s2 → s2 39 0 = kk ∧ (kk = 0 → f2 0 = b ∧ (-2147483648 ≤ b ∧ b ≤ 2147483647)) ∧ Y X2 s2) ∧ hdj X2 W ∧ h' = hU X2 (hset W o (aL 1 f2))) := by
  refine CtH.intro (by decide +kernel) rfl (Nat.le_of_ble_eq_true rfl) ?_
  intro G T0 R
  have C := T0.cx
  show G 0 [some (.ref x), some (.ref o), none] [] (hU X W) 0 0
  refine gk_aload_n C dL_drop_0 rfl ?_
  refine gk_iconst C dL_drop_1 ?_
  refine gk_aload_n C dL_drop_2 rfl ?_
  refine gk_callVH T0 o_X4_drop k_L_44 dL_drop_3 (Ct.fr hd hc) (hU_l hx) rfl rfl rfl (by decide) (by decide) (by exact Nat.le_of_ble_eq_true rfl) (fun E_3 h_3 x_3 => ?_) (fun v_3 h_3 p_3 => ?_)
  · obtain ⟨h3, ⟨e3, pe⟩, d3, e4⟩ := x_3
    rw [e3] at d3 e4
    subst e4
    obtain ⟨rfl, pe⟩ := pe
    refine ⟨11, hd_L_drop_0, fun q_0 => ?_⟩
    refine gk_astore_n_2 C rfl (by decide) dL_drop_11 ?_
    refine gk_iconst C dL_drop_12 ?_
    refine (R _ _ _ _ _ (by decide) (by decide)).1 _ rfl dL_drop_13 ?_
    refine ⟨1, X, f, rfl, by omega, fun b s2 hm => ⟨(pe b s2 hm).1, fun z => absurd z (by omega), (pe b s2 hm).2⟩, d3, ?_⟩
    rw [hset_self hW]
  · obtain ⟨h3, ⟨r, rfl, rr, pr⟩, d3, rfl⟩ := p_3
    dsimp only [gk_push]
    refine gk_i2l C (by omega) dL_drop_6 ?_
    refine gk_last C dL_drop_7 (hU_r d3 hW) (by omega) (by omega) ?_
    rw [hU_setR (d3.no hW)]
    refine gk_goto C (tgt := 14) dL_drop_8 (by decide) ?_
    refine gk_iconst C dL_drop_14 ?_
    refine (R _ _ _ _ _ (by decide) (by decide)).1 _ rfl dL_drop_15 ?_
    refine ⟨0, h3, gupd f 0 r, rfl, by omega, fun b s2 hm => ?_, d3, rfl⟩
    obtain ⟨a1, a2, a3⟩ := pr b s2 hm
    subst a2
    exact ⟨a1, fun _ => ⟨gupd_eq, rr⟩, a3⟩

set_option maxRecDepth 100000 in
set_option maxHeartbeats 4000000 in
theorem w_piper {l : Launch} {Γ : GA} {X W : Hp} {x o : Nat} {fs : List Value} {f : Int → Int} {z0 z1 z2 : Int} {MP : Int → MS → Prop} {Y : Hp → MS → Prop} (hx : X x = some (oO 5 fs)) (hW : W o = some (aL 1 f)) (hd : hdj X W)
    (hc : Ct l Γ m_X4_piper [.ref x, iv z0, iv z1, iv z2] X (fun v h' => ∃ r : Int, v = some (iv r) ∧ (-2147483648 ≤ r ∧ r ≤ 2147483647) ∧ ∀ b s2, MP b s2 → s2 39 0 = 0 ∧ r = b ∧ Y h' s2) (fun E h' => h' = X ∧ ((E = "java/lang/IllegalArgumentException" ∧ ∀ b s2, MP b s2 → s2 39 0 = 1 ∧ Y X s2) ∨ (E = "java/lang/IllegalStateException" ∧ ∀ b s2, MP b s2 → s2 39 0 = 2 ∧ Y X s2)))) :
    CtH l Γ m_L_piper hh_L_piper [.ref x, iv z0, iv z1, iv z2, .ref o] (hU X W) (fun v h' => ∃ (kk : Int) (X2 : Hp) (f2 : Int → Int), v = some (iv kk) ∧ (0 ≤ kk ∧ kk ≤ 3) ∧ (∀ b s2, MP b s2 → s2 39 0 = kk ∧ (kk = 0 → f2 0 = b ∧ (-2147483648 ≤ b ∧ b ≤ 2147483647)) ∧ Y X2 s2) ∧ hdj X2 W ∧ h' = hU X2 (hset W o (aL 1 f2))) := by
  refine CtH.intro (by decide +kernel) rfl (Nat.le_of_ble_eq_true rfl) ?_
  intro G T0 R
  have C := T0.cx
  show G 0 [some (.ref x), some (iv z0), some (iv z1), some (iv z2), some (.ref o), none] [] (hU X W) 0 0
  refine gk_aload C dL_piper_0 rfl ?_
  refine gk_iconst C dL_piper_2 ?_
  refine gk_aload_n C dL_piper_3 rfl ?_
  refine gk_iload_n C dL_piper_4 rfl ?_
  refine gk_iload_n C dL_piper_5 rfl ?_
  refine gk_iload_n C dL_piper_6 rfl ?_
  refine gk_callVH T0 o_X4_piper k_L_48 dL_piper_7 (Ct.fr hd hc) (hU_l hx) rfl rfl rfl (by decide) (by decide) (by exact Nat.le_of_ble_eq_true rfl) (fun E_7 h_7 x_7 => ?_) (fun v_7 h_7 p_7 => ?_)
  · obtain ⟨h3, ⟨e3, pe⟩, d3, e4⟩ := x_7
    rw [e3] at d3 e4
    subst e4
    rcases pe with ⟨rfl, pe⟩ | ⟨rfl, pe⟩
    · refine ⟨15, hd_L_piper_0, fun q_0 => ?_⟩
      refine gk_astore_5 C rfl (by decide) dL_piper_15 ?_
      refine gk_iconst C dL_piper_17 ?_
      refine (R _ _ _ _ _ (by decide) (by decide)).1 _ rfl dL_piper_18 ?_
      refine ⟨1, X, f, rfl, by omega, fun b s2 hm => ⟨(pe b s2 hm).1, fun z => absurd z (by omega), (pe b s2 hm).2⟩, d3, ?_⟩
      rw [hset_self hW]
    · refine ⟨19, hd_L_piper_1, fun q_0 => ?_⟩
      refine gk_astore_5 C rfl (by decide) dL_piper_19 ?_
      refine gk_iconst C dL_piper_21 ?_
      refine (R _ _ _ _ _ (by decide) (by decide)).1 _ rfl dL_piper_22 ?_
      refine ⟨2, X, f, rfl, by omega, fun b s2 hm => ⟨(pe b s2 hm).1, fun z => absurd z (by omega), (pe b s2 hm).2⟩, d3, ?_⟩
      rw [hset_self hW]
  · obtain ⟨h3, ⟨r, rfl, rr, pr⟩, d3, rfl⟩ := p_7
    dsimp only [gk_push]
    refine gk_i2l C (by omega) dL_piper_10 ?_
    refine gk_last C dL_piper_11 (hU_r d3 hW) (by omega) (by omega) ?_
    rw [hU_setR (d3.no hW)]
    refine gk_goto C (tgt := 23) dL_piper_12 (by decide) ?_
    refine gk_iconst C dL_piper_23 ?_
    refine (R _ _ _ _ _ (by decide) (by decide)).1 _ rfl dL_piper_24 ?_
    refine ⟨0, h3, gupd f 0 r, rfl, by omega, fun b s2 hm => ?_, d3, rfl⟩
    obtain ⟨a1, a2, a3⟩ := pr b s2 hm
    subst a2
    exact ⟨a1, fun _ => ⟨gupd_eq, rr⟩, a3⟩

set_option maxRecDepth 100000 in
set_option maxHeartbeats 4000000 in
theorem w_seat {l : Launch} {Γ : GA} {X W : Hp} {x o : Nat} {fs : List Value} {f : Int → Int} {z0 z1 : Int} {MP : Int → MS → Prop} {Y : Hp → MS → Prop} (hx : X x = some (oO 5 fs)) (hW : W o = some (aL 1 f)) (hd : hdj X W)
    (hc : Ct l Γ m_X4_seat [.ref x, iv z0, iv z1] X (fun v h' => ∃ r : Int, v = some (iv r) ∧ (-2147483648 ≤ r ∧ r ≤ 2147483647) ∧ ∀ b s2, MP b s2 → s2 39 0 = 0 ∧ r = b ∧ Y h' s2) (fun E h' => h' = X ∧ ((E = "java/lang/IndexOutOfBoundsException" ∧ ∀ b s2, MP b s2 → s2 39 0 = 1 ∧ Y X s2) ∨ (E = "java/lang/IllegalArgumentException" ∧ ∀ b s2, MP b s2 → s2 39 0 = 2 ∧ Y X s2)))) :
    CtH l Γ m_L_seat hh_L_seat [.ref x, iv z0, iv z1, .ref o] (hU X W) (fun v h' => ∃ (kk : Int) (X2 : Hp) (f2 : Int → Int), v = some (iv kk) ∧ (0 ≤ kk ∧ kk ≤ 3) ∧ (∀ b s2, MP b s2 → s2 39 0 = kk ∧ (kk = 0 → f2 0 = b ∧ (-2147483648 ≤ b ∧ b ≤ 2147483647)) ∧ Y X2 s2) ∧ hdj X2 W ∧ h' = hU X2 (hset W o (aL 1 f2))) := by
  refine CtH.intro (by decide +kernel) rfl (Nat.le_of_ble_eq_true rfl) ?_
  intro G T0 R
  have C := T0.cx
  show G 0 [some (.ref x), some (iv z0), some (iv z1), some (.ref o), none] [] (hU X W) 0 0
  refine gk_aload_n C dL_seat_0 rfl ?_
  refine gk_iconst C dL_seat_1 ?_
  refine gk_aload_n C dL_seat_2 rfl ?_
  refine gk_iload_n C dL_seat_3 rfl ?_
  refine gk_iload_n C dL_seat_4 rfl ?_
  refine gk_callVH T0 o_X4_seat k_L_51 dL_seat_5 (Ct.fr hd hc) (hU_l hx) rfl rfl rfl (by decide) (by decide) (by exact Nat.le_of_ble_eq_true rfl) (fun E_5 h_5 x_5 => ?_) (fun v_5 h_5 p_5 => ?_)
  · obtain ⟨h3, ⟨e3, pe⟩, d3, e4⟩ := x_5
    rw [e3] at d3 e4
    subst e4
    rcases pe with ⟨rfl, pe⟩ | ⟨rfl, pe⟩
    · refine ⟨13, hd_L_seat_0, fun q_0 => ?_⟩
      refine gk_astore_4 C rfl (by decide) dL_seat_13 ?_
      refine gk_iconst C dL_seat_15 ?_
      refine (R _ _ _ _ _ (by decide) (by decide)).1 _ rfl dL_seat_16 ?_
      refine ⟨1, X, f, rfl, by omega, fun b s2 hm => ⟨(pe b s2 hm).1, fun z => absurd z (by omega), (pe b s2 hm).2⟩, d3, ?_⟩
      rw [hset_self hW]
    · refine ⟨17, hd_L_seat_1, fun q_0 => ?_⟩
      refine gk_astore_4 C rfl (by decide) dL_seat_17 ?_
      refine gk_iconst C dL_seat_19 ?_
      refine (R _ _ _ _ _ (by decide) (by decide)).1 _ rfl dL_seat_20 ?_
      refine ⟨2, X, f, rfl, by omega, fun b s2 hm => ⟨(pe b s2 hm).1, fun z => absurd z (by omega), (pe b s2 hm).2⟩, d3, ?_⟩
      rw [hset_self hW]
  · obtain ⟨h3, ⟨r, rfl, rr, pr⟩, d3, rfl⟩ := p_5
    dsimp only [gk_push]
    refine gk_i2l C (by omega) dL_seat_8 ?_
    refine gk_last C dL_seat_9 (hU_r d3 hW) (by omega) (by omega) ?_
    rw [hU_setR (d3.no hW)]
    refine gk_goto C (tgt := 21) dL_seat_10 (by decide) ?_
    refine gk_iconst C dL_seat_21 ?_
    refine (R _ _ _ _ _ (by decide) (by decide)).1 _ rfl dL_seat_22 ?_
    refine ⟨0, h3, gupd f 0 r, rfl, by omega, fun b s2 hm => ?_, d3, rfl⟩
    obtain ⟨a1, a2, a3⟩ := pr b s2 hm
    subst a2
    exact ⟨a1, fun _ => ⟨gupd_eq, rr⟩, a3⟩

set_option maxRecDepth 100000 in
set_option maxHeartbeats 4000000 in
theorem w_rest {l : Launch} {Γ : GA} {X W : Hp} {x o : Nat} {fs : List Value} {f : Int → Int} {z0 z1 : Int} {MP : Int → MS → Prop} {Y : Hp → MS → Prop} (hx : X x = some (oO 5 fs)) (hW : W o = some (aL 1 f)) (hd : hdj X W)
    (hc : Ct l Γ m_X4_rest [.ref x, iv z0, iv z1] X (fun v h' => ∃ r : Int, v = some (iv r) ∧ (r = 0 ∨ r = 1) ∧ ∀ b s2, MP b s2 → s2 39 0 = 0 ∧ r = b ∧ Y h' s2) (fun E h' => h' = X ∧ ((E = "java/lang/IndexOutOfBoundsException" ∧ ∀ b s2, MP b s2 → s2 39 0 = 1 ∧ Y X s2)))) :
    CtH l Γ m_L_rest hh_L_rest [.ref x, iv z0, iv z1, .ref o] (hU X W) (fun v h' => ∃ (kk : Int) (X2 : Hp) (f2 : Int → Int), v = some (iv kk) ∧ (0 ≤ kk ∧ kk ≤ 3) ∧ (∀ b s2, MP b s2 → s2 39 0 = kk ∧ (kk = 0 → f2 0 = b ∧ (b = 0 ∨ b = 1)) ∧ Y X2 s2) ∧ hdj X2 W ∧ h' = hU X2 (hset W o (aL 1 f2))) := by
  refine CtH.intro (by decide +kernel) rfl (Nat.le_of_ble_eq_true rfl) ?_
  intro G T0 R
  have C := T0.cx
  show G 0 [some (.ref x), some (iv z0), some (iv z1), some (.ref o), none] [] (hU X W) 0 0
  refine gk_aload_n C dL_rest_0 rfl ?_
  refine gk_iconst C dL_rest_1 ?_
  refine gk_aload_n C dL_rest_2 rfl ?_
  refine gk_iload_n C dL_rest_3 rfl ?_
  refine gk_iload_n C dL_rest_4 rfl ?_
  refine gk_callVH T0 o_X4_rest k_L_54 dL_rest_5 (Ct.fr hd hc) (hU_l hx) rfl rfl rfl (by decide) (by decide) (by exact Nat.le_of_ble_eq_true rfl) (fun E_5 h_5 x_5 => ?_) (fun v_5 h_5 p_5 => ?_)
  · obtain ⟨h3, ⟨e3, pe⟩, d3, e4⟩ := x_5
    rw [e3] at d3 e4
    subst e4
    obtain ⟨rfl, pe⟩ := pe
    refine ⟨20, hd_L_rest_0, fun q_0 => ?_⟩
    refine gk_astore_4 C rfl (by decide) dL_rest_20 ?_
    refine gk_iconst C dL_rest_22 ?_
    refine (R _ _ _ _ _ (by decide) (by decide)).1 _ rfl dL_rest_23 ?_
    refine ⟨1, X, f, rfl, by omega, fun b s2 hm => ⟨(pe b s2 hm).1, fun z => absurd z (by omega), (pe b s2 hm).2⟩, d3, ?_⟩
    rw [hset_self hW]
  · obtain ⟨h3, ⟨r, rfl, rr, pr⟩, d3, rfl⟩ := p_5
    dsimp only [gk_push]
    refine gk_if_eq C (tgt := 15) (by omega) dL_rest_8 (by decide) (fun c_8 => ?_) (fun c_8 => ?_)
    · refine gk_lconst C (z := 0) dL_rest_15 (by decide) ?_
      refine gk_last C dL_rest_16 (hU_r d3 hW) (by omega) (by omega) ?_
      rw [hU_setR (d3.no hW)]
      refine gk_goto C (tgt := 24) dL_rest_17 (by decide) ?_
      refine gk_iconst C dL_rest_24 ?_
      refine (R _ _ _ _ _ (by decide) (by decide)).1 _ rfl dL_rest_25 ?_
      first
      | (refine ⟨0, h3, gupd f 0 1, rfl, by omega, fun b s2 hm => ?_, d3, rfl⟩
         obtain ⟨a1, a2, a3⟩ := pr b s2 hm
         subst a2
         exact ⟨a1, fun _ => ⟨by rw [gupd_eq]; omega, rr⟩, a3⟩)
      | (refine ⟨0, h3, gupd f 0 0, rfl, by omega, fun b s2 hm => ?_, d3, rfl⟩
         obtain ⟨a1, a2, a3⟩ := pr b s2 hm
         subst a2
         exact ⟨a1, fun _ => ⟨by rw [gupd_eq]; omega, rr⟩, a3⟩)
    · refine gk_lconst C (z := 1) dL_rest_11 (by decide) ?_
      refine gk_goto C (tgt := 16) dL_rest_12 (by decide) ?_
      refine gk_last C dL_rest_16 (hU_r d3 hW) (by omega) (by omega) ?_
      rw [hU_setR (d3.no hW)]
      refine gk_goto C (tgt := 24) dL_rest_17 (by decide) ?_
      refine gk_iconst C dL_rest_24 ?_
      refine (R _ _ _ _ _ (by decide) (by decide)).1 _ rfl dL_rest_25 ?_
      first
      | (refine ⟨0, h3, gupd f 0 1, rfl, by omega, fun b s2 hm => ?_, d3, rfl⟩
         obtain ⟨a1, a2, a3⟩ := pr b s2 hm
         subst a2
         exact ⟨a1, fun _ => ⟨by rw [gupd_eq]; omega, rr⟩, a3⟩)
      | (refine ⟨0, h3, gupd f 0 0, rfl, by omega, fun b s2 hm => ?_, d3, rfl⟩
         obtain ⟨a1, a2, a3⟩ := pr b s2 hm
         subst a2
         exact ⟨a1, fun _ => ⟨by rw [gupd_eq]; omega, rr⟩, a3⟩)

set_option maxRecDepth 100000 in
set_option maxHeartbeats 4000000 in
theorem w_play {l : Launch} {Γ : GA} {X W : Hp} {x o : Nat} {fs : List Value} {f : Int → Int} {z0 z1 z2 : Int} {MP : Int → MS → Prop} {Y : Hp → MS → Prop} (hx : X x = some (oO 5 fs)) (hW : W o = some (aL 1 f)) (hd : hdj X W)
    (hc : Ct l Γ m_X4_play [.ref x, iv z0, iv z1, iv z2] X (fun v h' => ∃ r : Int, v = some (iv r) ∧ (-2147483648 ≤ r ∧ r ≤ 2147483647) ∧ ∀ b s2, MP b s2 → s2 39 0 = 0 ∧ r = b ∧ Y h' s2) (fun E h' => h' = X ∧ ((E = "java/lang/IllegalArgumentException" ∧ ∀ b s2, MP b s2 → s2 39 0 = 1 ∧ Y X s2)))) :
    CtH l Γ m_L_play hh_L_play [.ref x, iv z0, iv z1, iv z2, .ref o] (hU X W) (fun v h' => ∃ (kk : Int) (X2 : Hp) (f2 : Int → Int), v = some (iv kk) ∧ (0 ≤ kk ∧ kk ≤ 3) ∧ (∀ b s2, MP b s2 → s2 39 0 = kk ∧ (kk = 0 → f2 0 = b ∧ (-2147483648 ≤ b ∧ b ≤ 2147483647)) ∧ Y X2 s2) ∧ hdj X2 W ∧ h' = hU X2 (hset W o (aL 1 f2))) := by
  refine CtH.intro (by decide +kernel) rfl (Nat.le_of_ble_eq_true rfl) ?_
  intro G T0 R
  have C := T0.cx
  show G 0 [some (.ref x), some (iv z0), some (iv z1), some (iv z2), some (.ref o), none] [] (hU X W) 0 0
  refine gk_aload C dL_play_0 rfl ?_
  refine gk_iconst C dL_play_2 ?_
  refine gk_aload_n C dL_play_3 rfl ?_
  refine gk_iload_n C dL_play_4 rfl ?_
  refine gk_iload_n C dL_play_5 rfl ?_
  refine gk_iload_n C dL_play_6 rfl ?_
  refine gk_callVH T0 o_X4_play k_L_58 dL_play_7 (Ct.fr hd hc) (hU_l hx) rfl rfl rfl (by decide) (by decide) (by exact Nat.le_of_ble_eq_true rfl) (fun E_7 h_7 x_7 => ?_) (fun v_7 h_7 p_7 => ?_)
  · obtain ⟨h3, ⟨e3, pe⟩, d3, e4⟩ := x_7
    rw [e3] at d3 e4
    subst e4
    obtain ⟨rfl, pe⟩ := pe
    refine ⟨15, hd_L_play_0, fun q_0 => ?_⟩
    refine gk_astore_5 C rfl (by decide) dL_play_15 ?_
    refine gk_iconst C dL_play_17 ?_
    refine (R _ _ _ _ _ (by decide) (by decide)).1 _ rfl dL_play_18 ?_
    refine ⟨1, X, f, rfl, by omega, fun b s2 hm => ⟨(pe b s2 hm).1, fun z => absurd z (by omega), (pe b s2 hm).2⟩, d3, ?_⟩
    rw [hset_self hW]
  · obtain ⟨h3, ⟨r, rfl, rr, pr⟩, d3, rfl⟩ := p_7
    dsimp only [gk_push]
    refine gk_i2l C (by omega) dL_play_10 ?_
    refine gk_last C dL_play_11 (hU_r d3 hW) (by omega) (by omega) ?_
    rw [hU_setR (d3.no hW)]
    refine gk_goto C (tgt := 19) dL_play_12 (by decide) ?_
    refine gk_iconst C dL_play_19 ?_
    refine (R _ _ _ _ _ (by decide) (by decide)).1 _ rfl dL_play_20 ?_
    refine ⟨0, h3, gupd f 0 r, rfl, by omega, fun b s2 hm => ?_, d3, rfl⟩
    obtain ⟨a1, a2, a3⟩ := pr b s2 hm
    subst a2
    exact ⟨a1, fun _ => ⟨gupd_eq, rr⟩, a3⟩

set_option maxRecDepth 100000 in
set_option maxHeartbeats 4000000 in
theorem w_ofPiper {l : Launch} {Γ : GA} {X W : Hp} {x o : Nat} {fs : List Value} {f : Int → Int} {z0 z1 : Int} {MP : Int → MS → Prop} {Y : Hp → MS → Prop} (hx : X x = some (oO 5 fs)) (hW : W o = some (aL 1 f)) (hd : hdj X W)
    (hc : Ct l Γ m_X4_ofPiper [.ref x, iv z0, iv z1] X (fun v h' => ∃ r : Int, v = some (iv r) ∧ (-2147483648 ≤ r ∧ r ≤ 2147483647) ∧ ∀ b s2, MP b s2 → s2 39 0 = 0 ∧ r = b ∧ Y h' s2) (fun E h' => h' = X ∧ ((E = "java/lang/IndexOutOfBoundsException" ∧ ∀ b s2, MP b s2 → s2 39 0 = 1 ∧ Y X s2) ∨ (E = "java/lang/IllegalArgumentException" ∧ ∀ b s2, MP b s2 → s2 39 0 = 2 ∧ Y X s2)))) :
    CtH l Γ m_L_ofPiper hh_L_ofPiper [.ref x, iv z0, iv z1, .ref o] (hU X W) (fun v h' => ∃ (kk : Int) (X2 : Hp) (f2 : Int → Int), v = some (iv kk) ∧ (0 ≤ kk ∧ kk ≤ 3) ∧ (∀ b s2, MP b s2 → s2 39 0 = kk ∧ (kk = 0 → f2 0 = b ∧ (-2147483648 ≤ b ∧ b ≤ 2147483647)) ∧ Y X2 s2) ∧ hdj X2 W ∧ h' = hU X2 (hset W o (aL 1 f2))) := by
  refine CtH.intro (by decide +kernel) rfl (Nat.le_of_ble_eq_true rfl) ?_
  intro G T0 R
  have C := T0.cx
  show G 0 [some (.ref x), some (iv z0), some (iv z1), some (.ref o), none] [] (hU X W) 0 0
  refine gk_aload_n C dL_ofPiper_0 rfl ?_
  refine gk_iconst C dL_ofPiper_1 ?_
  refine gk_aload_n C dL_ofPiper_2 rfl ?_
  refine gk_iload_n C dL_ofPiper_3 rfl ?_
  refine gk_iload_n C dL_ofPiper_4 rfl ?_
  refine gk_callVH T0 o_X4_ofPiper k_L_61 dL_ofPiper_5 (Ct.fr hd hc) (hU_l hx) rfl rfl rfl (by decide) (by decide) (by exact Nat.le_of_ble_eq_true rfl) (fun E_5 h_5 x_5 => ?_) (fun v_5 h_5 p_5 => ?_)
  · obtain ⟨h3, ⟨e3, pe⟩, d3, e4⟩ := x_5
    rw [e3] at d3 e4
    subst e4
    rcases pe with ⟨rfl, pe⟩ | ⟨rfl, pe⟩
    · refine ⟨13, hd_L_ofPiper_0, fun q_0 => ?_⟩
      refine gk_astore_4 C rfl (by decide) dL_ofPiper_13 ?_
      refine gk_iconst C dL_ofPiper_15 ?_
      refine (R _ _ _ _ _ (by decide) (by decide)).1 _ rfl dL_ofPiper_16 ?_
      refine ⟨1, X, f, rfl, by omega, fun b s2 hm => ⟨(pe b s2 hm).1, fun z => absurd z (by omega), (pe b s2 hm).2⟩, d3, ?_⟩
      rw [hset_self hW]
    · refine ⟨17, hd_L_ofPiper_1, fun q_0 => ?_⟩
      refine gk_astore_4 C rfl (by decide) dL_ofPiper_17 ?_
      refine gk_iconst C dL_ofPiper_19 ?_
      refine (R _ _ _ _ _ (by decide) (by decide)).1 _ rfl dL_ofPiper_20 ?_
      refine ⟨2, X, f, rfl, by omega, fun b s2 hm => ⟨(pe b s2 hm).1, fun z => absurd z (by omega), (pe b s2 hm).2⟩, d3, ?_⟩
      rw [hset_self hW]
  · obtain ⟨h3, ⟨r, rfl, rr, pr⟩, d3, rfl⟩ := p_5
    dsimp only [gk_push]
    refine gk_i2l C (by omega) dL_ofPiper_8 ?_
    refine gk_last C dL_ofPiper_9 (hU_r d3 hW) (by omega) (by omega) ?_
    rw [hU_setR (d3.no hW)]
    refine gk_goto C (tgt := 21) dL_ofPiper_10 (by decide) ?_
    refine gk_iconst C dL_ofPiper_21 ?_
    refine (R _ _ _ _ _ (by decide) (by decide)).1 _ rfl dL_ofPiper_22 ?_
    refine ⟨0, h3, gupd f 0 r, rfl, by omega, fun b s2 hm => ?_, d3, rfl⟩
    obtain ⟨a1, a2, a3⟩ := pr b s2 hm
    subst a2
    exact ⟨a1, fun _ => ⟨gupd_eq, rr⟩, a3⟩

set_option maxRecDepth 100000 in
set_option maxHeartbeats 4000000 in
theorem w_beats {l : Launch} {Γ : GA} {X W : Hp} {x o : Nat} {fs : List Value} {f : Int → UInt64} {z0 z1 : Int} {MP : UInt32 → MS → Prop} {Y : Hp → MS → Prop} (hx : X x = some (oO 5 fs)) (hW : W o = some (aD 1 f)) (hd : hdj X W)
    (hc : Ct l Γ m_X4_beats [.ref x, iv z0, iv z1] X (fun v h' => ∃ r : UInt32, v = some (.float r) ∧ vf_n64 (FP.f2d r) ∧ ∀ b s2, MP b s2 → s2 39 0 = 0 ∧ r = b ∧ Y h' s2) (fun E h' => h' = X ∧ ((E = "java/lang/IndexOutOfBoundsException" ∧ ∀ b s2, MP b s2 → s2 39 0 = 1 ∧ Y X s2)))) :
    CtH l Γ m_L_beats hh_L_beats [.ref x, iv z0, iv z1, .ref o] (hU X W) (fun v h' => ∃ (kk : Int) (X2 : Hp) (f2 : Int → UInt64), v = some (iv kk) ∧ (0 ≤ kk ∧ kk ≤ 3) ∧ (∀ b s2, MP b s2 → s2 39 0 = kk ∧ (kk = 0 → f2 0 = FP.f2d b ∧ vf_n64 (FP.f2d b)) ∧ Y X2 s2) ∧ hdj X2 W ∧ h' = hU X2 (hset W o (aD 1 f2))) := by
  refine CtH.intro (by decide +kernel) rfl (Nat.le_of_ble_eq_true rfl) ?_
  intro G T0 R
  have C := T0.cx
  show G 0 [some (.ref x), some (iv z0), some (iv z1), some (.ref o), none] [] (hU X W) 0 0
  refine gk_aload_n C dL_beats_0 rfl ?_
  refine gk_iconst C dL_beats_1 ?_
  refine gk_aload_n C dL_beats_2 rfl ?_
  refine gk_iload_n C dL_beats_3 rfl ?_
  refine gk_iload_n C dL_beats_4 rfl ?_
  refine gk_callVH T0 o_X4_beats k_L_64 dL_beats_5 (Ct.fr hd hc) (hU_l hx) rfl rfl rfl (by decide) (by decide) (by exact Nat.le_of_ble_eq_true rfl) (fun E_5 h_5 x_5 => ?_) (fun v_5 h_5 p_5 => ?_)
  · obtain ⟨h3, ⟨e3, pe⟩, d3, e4⟩ := x_5
    rw [e3] at d3 e4
    subst e4
    obtain ⟨rfl, pe⟩ := pe
    refine ⟨13, hd_L_beats_0, fun q_0 => ?_⟩
    refine gk_astore_4 C rfl (by decide) dL_beats_13 ?_
    refine gk_iconst C dL_beats_15 ?_
    refine (R _ _ _ _ _ (by decide) (by decide)).1 _ rfl dL_beats_16 ?_
    refine ⟨1, X, f, rfl, by omega, fun b s2 hm => ⟨(pe b s2 hm).1, fun z => absurd z (by omega), (pe b s2 hm).2⟩, d3, ?_⟩
    rw [hset_self hW]
  · obtain ⟨h3, ⟨r, rfl, rr, pr⟩, d3, rfl⟩ := p_5
    dsimp only [gk_push]
    refine gk_f2d C dL_beats_8 rr ?_
    refine gk_dast C dL_beats_9 (hU_r d3 hW) (by omega) (by omega) ?_
    rw [hU_setR (d3.no hW)]
    refine gk_goto C (tgt := 17) dL_beats_10 (by decide) ?_
    refine gk_iconst C dL_beats_17 ?_
    refine (R _ _ _ _ _ (by decide) (by decide)).1 _ rfl dL_beats_18 ?_
    refine ⟨0, h3, gupd f 0 (FP.f2d r), rfl, by omega, fun b s2 hm => ?_, d3, rfl⟩
    obtain ⟨a1, a2, a3⟩ := pr b s2 hm
    subst a2
    exact ⟨a1, fun _ => ⟨gupd_eq, rr⟩, a3⟩

set_option maxRecDepth 100000 in
set_option maxHeartbeats 4000000 in
theorem w_ahead {l : Launch} {Γ : GA} {X W : Hp} {x o : Nat} {fs : List Value} {f : Int → Int} {z0 z1 z2 : Int} {MP : Int → MS → Prop} {Y : Hp → MS → Prop} (hx : X x = some (oO 5 fs)) (hW : W o = some (aL 1 f)) (hd : hdj X W)
    (hc : Ct l Γ m_X4_ahead [.ref x, iv z0, iv z1, iv z2] X (fun v h' => ∃ r : Int, v = some (iv r) ∧ (-2147483648 ≤ r ∧ r ≤ 2147483647) ∧ ∀ b s2, MP b s2 → s2 39 0 = 0 ∧ r = b ∧ Y h' s2) (fun E h' => h' = X ∧ ((E = "java/lang/IllegalArgumentException" ∧ ∀ b s2, MP b s2 → s2 39 0 = 1 ∧ Y X s2)))) :
    CtH l Γ m_L_ahead hh_L_ahead [.ref x, iv z0, iv z1, iv z2, .ref o] (hU X W) (fun v h' => ∃ (kk : Int) (X2 : Hp) (f2 : Int → Int), v = some (iv kk) ∧ (0 ≤ kk ∧ kk ≤ 3) ∧ (∀ b s2, MP b s2 → s2 39 0 = kk ∧ (kk = 0 → f2 0 = b ∧ (-2147483648 ≤ b ∧ b ≤ 2147483647)) ∧ Y X2 s2) ∧ hdj X2 W ∧ h' = hU X2 (hset W o (aL 1 f2))) := by
  refine CtH.intro (by decide +kernel) rfl (Nat.le_of_ble_eq_true rfl) ?_
  intro G T0 R
  have C := T0.cx
  show G 0 [some (.ref x), some (iv z0), some (iv z1), some (iv z2), some (.ref o), none] [] (hU X W) 0 0
  refine gk_aload C dL_ahead_0 rfl ?_
  refine gk_iconst C dL_ahead_2 ?_
  refine gk_aload_n C dL_ahead_3 rfl ?_
  refine gk_iload_n C dL_ahead_4 rfl ?_
  refine gk_iload_n C dL_ahead_5 rfl ?_
  refine gk_iload_n C dL_ahead_6 rfl ?_
  refine gk_callVH T0 o_X4_ahead k_L_68 dL_ahead_7 (Ct.fr hd hc) (hU_l hx) rfl rfl rfl (by decide) (by decide) (by exact Nat.le_of_ble_eq_true rfl) (fun E_7 h_7 x_7 => ?_) (fun v_7 h_7 p_7 => ?_)
  · obtain ⟨h3, ⟨e3, pe⟩, d3, e4⟩ := x_7
    rw [e3] at d3 e4
    subst e4
    obtain ⟨rfl, pe⟩ := pe
    refine ⟨15, hd_L_ahead_0, fun q_0 => ?_⟩
    refine gk_astore_5 C rfl (by decide) dL_ahead_15 ?_
    refine gk_iconst C dL_ahead_17 ?_
    refine (R _ _ _ _ _ (by decide) (by decide)).1 _ rfl dL_ahead_18 ?_
    refine ⟨1, X, f, rfl, by omega, fun b s2 hm => ⟨(pe b s2 hm).1, fun z => absurd z (by omega), (pe b s2 hm).2⟩, d3, ?_⟩
    rw [hset_self hW]
  · obtain ⟨h3, ⟨r, rfl, rr, pr⟩, d3, rfl⟩ := p_7
    dsimp only [gk_push]
    refine gk_i2l C (by omega) dL_ahead_10 ?_
    refine gk_last C dL_ahead_11 (hU_r d3 hW) (by omega) (by omega) ?_
    rw [hU_setR (d3.no hW)]
    refine gk_goto C (tgt := 19) dL_ahead_12 (by decide) ?_
    refine gk_iconst C dL_ahead_19 ?_
    refine (R _ _ _ _ _ (by decide) (by decide)).1 _ rfl dL_ahead_20 ?_
    refine ⟨0, h3, gupd f 0 r, rfl, by omega, fun b s2 hm => ?_, d3, rfl⟩
    obtain ⟨a1, a2, a3⟩ := pr b s2 hm
    subst a2
    exact ⟨a1, fun _ => ⟨gupd_eq, rr⟩, a3⟩

set_option maxRecDepth 100000 in
set_option maxHeartbeats 4000000 in
theorem w_band {l : Launch} {Γ : GA} {X W : Hp} {x o : Nat} {fs : List Value} {f : Int → Int} {z0 : Int} {MP : Int → MS → Prop} {Y : Hp → MS → Prop} (hx : X x = some (oO 5 fs)) (hW : W o = some (aL 1 f)) (hd : hdj X W)
    (hc : Ct l Γ m_X4_band [.ref x, iv z0] X (fun v h' => ∃ r : Int, v = some (iv r) ∧ (-2147483648 ≤ r ∧ r ≤ 2147483647) ∧ ∀ b s2, MP b s2 → s2 39 0 = 0 ∧ r = b ∧ Y h' s2) (fun E h' => h' = X ∧ ((E = "java/lang/IllegalArgumentException" ∧ ∀ b s2, MP b s2 → s2 39 0 = 1 ∧ Y X s2) ∨ (E = "java/lang/IllegalStateException" ∧ ∀ b s2, MP b s2 → s2 39 0 = 2 ∧ Y X s2)))) :
    CtH l Γ m_L_band hh_L_band [.ref x, iv z0, .ref o] (hU X W) (fun v h' => ∃ (kk : Int) (X2 : Hp) (f2 : Int → Int), v = some (iv kk) ∧ (0 ≤ kk ∧ kk ≤ 3) ∧ (∀ b s2, MP b s2 → s2 39 0 = kk ∧ (kk = 0 → f2 0 = b ∧ (-2147483648 ≤ b ∧ b ≤ 2147483647)) ∧ Y X2 s2) ∧ hdj X2 W ∧ h' = hU X2 (hset W o (aL 1 f2))) := by
  refine CtH.intro (by decide +kernel) rfl (Nat.le_of_ble_eq_true rfl) ?_
  intro G T0 R
  have C := T0.cx
  show G 0 [some (.ref x), some (iv z0), some (.ref o), none] [] (hU X W) 0 0
  refine gk_aload_n C dL_band_0 rfl ?_
  refine gk_iconst C dL_band_1 ?_
  refine gk_aload_n C dL_band_2 rfl ?_
  refine gk_iload_n C dL_band_3 rfl ?_
  refine gk_callVH T0 o_X4_band k_L_71 dL_band_4 (Ct.fr hd hc) (hU_l hx) rfl rfl rfl (by decide) (by decide) (by exact Nat.le_of_ble_eq_true rfl) (fun E_4 h_4 x_4 => ?_) (fun v_4 h_4 p_4 => ?_)
  · obtain ⟨h3, ⟨e3, pe⟩, d3, e4⟩ := x_4
    rw [e3] at d3 e4
    subst e4
    rcases pe with ⟨rfl, pe⟩ | ⟨rfl, pe⟩
    · refine ⟨12, hd_L_band_0, fun q_0 => ?_⟩
      refine gk_astore_n_3 C rfl (by decide) dL_band_12 ?_
      refine gk_iconst C dL_band_13 ?_
      refine (R _ _ _ _ _ (by decide) (by decide)).1 _ rfl dL_band_14 ?_
      refine ⟨1, X, f, rfl, by omega, fun b s2 hm => ⟨(pe b s2 hm).1, fun z => absurd z (by omega), (pe b s2 hm).2⟩, d3, ?_⟩
      rw [hset_self hW]
    · refine ⟨15, hd_L_band_1, fun q_0 => ?_⟩
      refine gk_astore_n_3 C rfl (by decide) dL_band_15 ?_
      refine gk_iconst C dL_band_16 ?_
      refine (R _ _ _ _ _ (by decide) (by decide)).1 _ rfl dL_band_17 ?_
      refine ⟨2, X, f, rfl, by omega, fun b s2 hm => ⟨(pe b s2 hm).1, fun z => absurd z (by omega), (pe b s2 hm).2⟩, d3, ?_⟩
      rw [hset_self hW]
  · obtain ⟨h3, ⟨r, rfl, rr, pr⟩, d3, rfl⟩ := p_4
    dsimp only [gk_push]
    refine gk_i2l C (by omega) dL_band_7 ?_
    refine gk_last C dL_band_8 (hU_r d3 hW) (by omega) (by omega) ?_
    rw [hU_setR (d3.no hW)]
    refine gk_goto C (tgt := 18) dL_band_9 (by decide) ?_
    refine gk_iconst C dL_band_18 ?_
    refine (R _ _ _ _ _ (by decide) (by decide)).1 _ rfl dL_band_19 ?_
    refine ⟨0, h3, gupd f 0 r, rfl, by omega, fun b s2 hm => ?_, d3, rfl⟩
    obtain ⟨a1, a2, a3⟩ := pr b s2 hm
    subst a2
    exact ⟨a1, fun _ => ⟨gupd_eq, rr⟩, a3⟩

set_option maxRecDepth 100000 in
set_option maxHeartbeats 4000000 in
theorem w_contest {l : Launch} {Γ : GA} {X W : Hp} {x o : Nat} {fs : List Value} {f : Int → Int} {z0 : Int} {MP : Int → MS → Prop} {Y : Hp → MS → Prop} (hx : X x = some (oO 5 fs)) (hW : W o = some (aL 1 f)) (hd : hdj X W)
    (hc : Ct l Γ m_X4_contest [.ref x, iv z0] X (fun v h' => ∃ r : Int, v = some (iv r) ∧ (-2147483648 ≤ r ∧ r ≤ 2147483647) ∧ ∀ b s2, MP b s2 → s2 39 0 = 0 ∧ r = b ∧ Y h' s2) (fun E h' => h' = X ∧ ((E = "java/lang/IllegalArgumentException" ∧ ∀ b s2, MP b s2 → s2 39 0 = 1 ∧ Y X s2) ∨ (E = "java/lang/IllegalStateException" ∧ ∀ b s2, MP b s2 → s2 39 0 = 2 ∧ Y X s2)))) :
    CtH l Γ m_L_contest hh_L_contest [.ref x, iv z0, .ref o] (hU X W) (fun v h' => ∃ (kk : Int) (X2 : Hp) (f2 : Int → Int), v = some (iv kk) ∧ (0 ≤ kk ∧ kk ≤ 3) ∧ (∀ b s2, MP b s2 → s2 39 0 = kk ∧ (kk = 0 → f2 0 = b ∧ (-2147483648 ≤ b ∧ b ≤ 2147483647)) ∧ Y X2 s2) ∧ hdj X2 W ∧ h' = hU X2 (hset W o (aL 1 f2))) := by
  refine CtH.intro (by decide +kernel) rfl (Nat.le_of_ble_eq_true rfl) ?_
  intro G T0 R
  have C := T0.cx
  show G 0 [some (.ref x), some (iv z0), some (.ref o), none] [] (hU X W) 0 0
  refine gk_aload_n C dL_contest_0 rfl ?_
  refine gk_iconst C dL_contest_1 ?_
  refine gk_aload_n C dL_contest_2 rfl ?_
  refine gk_iload_n C dL_contest_3 rfl ?_
  refine gk_callVH T0 o_X4_contest k_L_74 dL_contest_4 (Ct.fr hd hc) (hU_l hx) rfl rfl rfl (by decide) (by decide) (by exact Nat.le_of_ble_eq_true rfl) (fun E_4 h_4 x_4 => ?_) (fun v_4 h_4 p_4 => ?_)
  · obtain ⟨h3, ⟨e3, pe⟩, d3, e4⟩ := x_4
    rw [e3] at d3 e4
    subst e4
    rcases pe with ⟨rfl, pe⟩ | ⟨rfl, pe⟩
    · refine ⟨12, hd_L_contest_0, fun q_0 => ?_⟩
      refine gk_astore_n_3 C rfl (by decide) dL_contest_12 ?_
      refine gk_iconst C dL_contest_13 ?_
      refine (R _ _ _ _ _ (by decide) (by decide)).1 _ rfl dL_contest_14 ?_
      refine ⟨1, X, f, rfl, by omega, fun b s2 hm => ⟨(pe b s2 hm).1, fun z => absurd z (by omega), (pe b s2 hm).2⟩, d3, ?_⟩
      rw [hset_self hW]
    · refine ⟨15, hd_L_contest_1, fun q_0 => ?_⟩
      refine gk_astore_n_3 C rfl (by decide) dL_contest_15 ?_
      refine gk_iconst C dL_contest_16 ?_
      refine (R _ _ _ _ _ (by decide) (by decide)).1 _ rfl dL_contest_17 ?_
      refine ⟨2, X, f, rfl, by omega, fun b s2 hm => ⟨(pe b s2 hm).1, fun z => absurd z (by omega), (pe b s2 hm).2⟩, d3, ?_⟩
      rw [hset_self hW]
  · obtain ⟨h3, ⟨r, rfl, rr, pr⟩, d3, rfl⟩ := p_4
    dsimp only [gk_push]
    refine gk_i2l C (by omega) dL_contest_7 ?_
    refine gk_last C dL_contest_8 (hU_r d3 hW) (by omega) (by omega) ?_
    rw [hU_setR (d3.no hW)]
    refine gk_goto C (tgt := 18) dL_contest_9 (by decide) ?_
    refine gk_iconst C dL_contest_18 ?_
    refine (R _ _ _ _ _ (by decide) (by decide)).1 _ rfl dL_contest_19 ?_
    refine ⟨0, h3, gupd f 0 r, rfl, by omega, fun b s2 hm => ?_, d3, rfl⟩
    obtain ⟨a1, a2, a3⟩ := pr b s2 hm
    subst a2
    exact ⟨a1, fun _ => ⟨gupd_eq, rr⟩, a3⟩

set_option maxRecDepth 100000 in
set_option maxHeartbeats 4000000 in
theorem w_mark {l : Launch} {Γ : GA} {X W : Hp} {x o : Nat} {fs : List Value} {f : Int → Int} {z0 z1 z2 : Int} {MP : Int → MS → Prop} {Y : Hp → MS → Prop} (hx : X x = some (oO 5 fs)) (hW : W o = some (aL 1 f)) (hd : hdj X W)
    (hc : Ct l Γ m_X4_mark [.ref x, iv z0, iv z1, iv z2] X (fun v h' => ∃ r : Int, v = some (iv r) ∧ (-2147483648 ≤ r ∧ r ≤ 2147483647) ∧ ∀ b s2, MP b s2 → s2 39 0 = 0 ∧ r = b ∧ Y h' s2) (fun E h' => h' = X ∧ ((E = "java/lang/IndexOutOfBoundsException" ∧ ∀ b s2, MP b s2 → s2 39 0 = 1 ∧ Y X s2) ∨ (E = "java/lang/IllegalArgumentException" ∧ ∀ b s2, MP b s2 → s2 39 0 = 2 ∧ Y X s2) ∨ (E = "java/lang/IllegalStateException" ∧ ∀ b s2, MP b s2 → s2 39 0 = 3 ∧ Y X s2)))) :
    CtH l Γ m_L_mark hh_L_mark [.ref x, iv z0, iv z1, iv z2, .ref o] (hU X W) (fun v h' => ∃ (kk : Int) (X2 : Hp) (f2 : Int → Int), v = some (iv kk) ∧ (0 ≤ kk ∧ kk ≤ 3) ∧ (∀ b s2, MP b s2 → s2 39 0 = kk ∧ (kk = 0 → f2 0 = b ∧ (-2147483648 ≤ b ∧ b ≤ 2147483647)) ∧ Y X2 s2) ∧ hdj X2 W ∧ h' = hU X2 (hset W o (aL 1 f2))) := by
  refine CtH.intro (by decide +kernel) rfl (Nat.le_of_ble_eq_true rfl) ?_
  intro G T0 R
  have C := T0.cx
  show G 0 [some (.ref x), some (iv z0), some (iv z1), some (iv z2), some (.ref o), none] [] (hU X W) 0 0
  refine gk_aload C dL_mark_0 rfl ?_
  refine gk_iconst C dL_mark_2 ?_
  refine gk_aload_n C dL_mark_3 rfl ?_
  refine gk_iload_n C dL_mark_4 rfl ?_
  refine gk_iload_n C dL_mark_5 rfl ?_
  refine gk_iload_n C dL_mark_6 rfl ?_
  refine gk_callVH T0 o_X4_mark k_L_77 dL_mark_7 (Ct.fr hd hc) (hU_l hx) rfl rfl rfl (by decide) (by decide) (by exact Nat.le_of_ble_eq_true rfl) (fun E_7 h_7 x_7 => ?_) (fun v_7 h_7 p_7 => ?_)
  · obtain ⟨h3, ⟨e3, pe⟩, d3, e4⟩ := x_7
    rw [e3] at d3 e4
    subst e4
    rcases pe with ⟨rfl, pe⟩ | ⟨rfl, pe⟩ | ⟨rfl, pe⟩
    · refine ⟨15, hd_L_mark_0, fun q_0 => ?_⟩
      refine gk_astore_5 C rfl (by decide) dL_mark_15 ?_
      refine gk_iconst C dL_mark_17 ?_
      refine (R _ _ _ _ _ (by decide) (by decide)).1 _ rfl dL_mark_18 ?_
      refine ⟨1, X, f, rfl, by omega, fun b s2 hm => ⟨(pe b s2 hm).1, fun z => absurd z (by omega), (pe b s2 hm).2⟩, d3, ?_⟩
      rw [hset_self hW]
    · refine ⟨19, hd_L_mark_1, fun q_0 => ?_⟩
      refine gk_astore_5 C rfl (by decide) dL_mark_19 ?_
      refine gk_iconst C dL_mark_21 ?_
      refine (R _ _ _ _ _ (by decide) (by decide)).1 _ rfl dL_mark_22 ?_
      refine ⟨2, X, f, rfl, by omega, fun b s2 hm => ⟨(pe b s2 hm).1, fun z => absurd z (by omega), (pe b s2 hm).2⟩, d3, ?_⟩
      rw [hset_self hW]
    · refine ⟨23, hd_L_mark_2, fun q_0 => ?_⟩
      refine gk_astore_5 C rfl (by decide) dL_mark_23 ?_
      refine gk_iconst C dL_mark_25 ?_
      refine (R _ _ _ _ _ (by decide) (by decide)).1 _ rfl dL_mark_26 ?_
      refine ⟨3, X, f, rfl, by omega, fun b s2 hm => ⟨(pe b s2 hm).1, fun z => absurd z (by omega), (pe b s2 hm).2⟩, d3, ?_⟩
      rw [hset_self hW]
  · obtain ⟨h3, ⟨r, rfl, rr, pr⟩, d3, rfl⟩ := p_7
    dsimp only [gk_push]
    refine gk_i2l C (by omega) dL_mark_10 ?_
    refine gk_last C dL_mark_11 (hU_r d3 hW) (by omega) (by omega) ?_
    rw [hU_setR (d3.no hW)]
    refine gk_goto C (tgt := 27) dL_mark_12 (by decide) ?_
    refine gk_iconst C dL_mark_27 ?_
    refine (R _ _ _ _ _ (by decide) (by decide)).1 _ rfl dL_mark_28 ?_
    refine ⟨0, h3, gupd f 0 r, rfl, by omega, fun b s2 hm => ?_, d3, rfl⟩
    obtain ⟨a1, a2, a3⟩ := pr b s2 hm
    subst a2
    exact ⟨a1, fun _ => ⟨gupd_eq, rr⟩, a3⟩

set_option maxRecDepth 100000 in
set_option maxHeartbeats 4000000 in
theorem w_close {l : Launch} {Γ : GA} {X W : Hp} {x o : Nat} {fs : List Value} {f : Int → Int} {z0 : Int} {MP : Int → MS → Prop} {Y : Hp → MS → Prop} (hx : X x = some (oO 5 fs)) (hW : W o = some (aL 1 f)) (hd : hdj X W)
    (hc : Ct l Γ m_X4_close [.ref x] X (fun v h' => ∃ r : Int, v = some (iv r) ∧ (-2147483648 ≤ r ∧ r ≤ 2147483647) ∧ ∀ b s2, MP b s2 → s2 39 0 = 0 ∧ r = b ∧ Y h' s2) (fun E h' => h' = X ∧ ((E = "java/lang/IllegalStateException" ∧ ∀ b s2, MP b s2 → s2 39 0 = 1 ∧ Y X s2)))) :
    CtH l Γ m_L_close hh_L_close [.ref x, .ref o] (hU X W) (fun v h' => ∃ (kk : Int) (X2 : Hp) (f2 : Int → Int), v = some (iv kk) ∧ (0 ≤ kk ∧ kk ≤ 3) ∧ (∀ b s2, MP b s2 → s2 39 0 = kk ∧ (kk = 0 → f2 0 = b ∧ (-2147483648 ≤ b ∧ b ≤ 2147483647)) ∧ Y X2 s2) ∧ hdj X2 W ∧ h' = hU X2 (hset W o (aL 1 f2))) := by
  refine CtH.intro (by decide +kernel) rfl (Nat.le_of_ble_eq_true rfl) ?_
  intro G T0 R
  have C := T0.cx
  show G 0 [some (.ref x), some (.ref o), none] [] (hU X W) 0 0
  refine gk_aload_n C dL_close_0 rfl ?_
  refine gk_iconst C dL_close_1 ?_
  refine gk_aload_n C dL_close_2 rfl ?_
  refine gk_callVH T0 o_X4_close k_L_80 dL_close_3 (Ct.fr hd hc) (hU_l hx) rfl rfl rfl (by decide) (by decide) (by exact Nat.le_of_ble_eq_true rfl) (fun E_3 h_3 x_3 => ?_) (fun v_3 h_3 p_3 => ?_)
  · obtain ⟨h3, ⟨e3, pe⟩, d3, e4⟩ := x_3
    rw [e3] at d3 e4
    subst e4
    obtain ⟨rfl, pe⟩ := pe
    refine ⟨11, hd_L_close_0, fun q_0 => ?_⟩
    refine gk_astore_n_2 C rfl (by decide) dL_close_11 ?_
    refine gk_iconst C dL_close_12 ?_
    refine (R _ _ _ _ _ (by decide) (by decide)).1 _ rfl dL_close_13 ?_
    refine ⟨1, X, f, rfl, by omega, fun b s2 hm => ⟨(pe b s2 hm).1, fun z => absurd z (by omega), (pe b s2 hm).2⟩, d3, ?_⟩
    rw [hset_self hW]
  · obtain ⟨h3, ⟨r, rfl, rr, pr⟩, d3, rfl⟩ := p_3
    dsimp only [gk_push]
    refine gk_i2l C (by omega) dL_close_6 ?_
    refine gk_last C dL_close_7 (hU_r d3 hW) (by omega) (by omega) ?_
    rw [hU_setR (d3.no hW)]
    refine gk_goto C (tgt := 14) dL_close_8 (by decide) ?_
    refine gk_iconst C dL_close_14 ?_
    refine (R _ _ _ _ _ (by decide) (by decide)).1 _ rfl dL_close_15 ?_
    refine ⟨0, h3, gupd f 0 r, rfl, by omega, fun b s2 hm => ?_, d3, rfl⟩
    obtain ⟨a1, a2, a3⟩ := pr b s2 hm
    subst a2
    exact ⟨a1, fun _ => ⟨gupd_eq, rr⟩, a3⟩

set_option maxRecDepth 100000 in
set_option maxHeartbeats 4000000 in
theorem w_season {l : Launch} {Γ : GA} {X W : Hp} {x o : Nat} {fs : List Value} {f : Int → Int} {z0 : Int} {MP : Int → MS → Prop} {Y : Hp → MS → Prop} (hx : X x = some (oO 5 fs)) (hW : W o = some (aL 1 f)) (hd : hdj X W)
    (hc : Ct l Γ m_X4_season [.ref x] X (fun v h' => ∃ r : Int, v = some (iv r) ∧ (-2147483648 ≤ r ∧ r ≤ 2147483647) ∧ ∀ b s2, MP b s2 → s2 39 0 = 0 ∧ r = b ∧ Y h' s2) (fun E h' => h' = X ∧ ((E = "java/lang/IllegalStateException" ∧ ∀ b s2, MP b s2 → s2 39 0 = 1 ∧ Y X s2)))) :
    CtH l Γ m_L_season hh_L_season [.ref x, .ref o] (hU X W) (fun v h' => ∃ (kk : Int) (X2 : Hp) (f2 : Int → Int), v = some (iv kk) ∧ (0 ≤ kk ∧ kk ≤ 3) ∧ (∀ b s2, MP b s2 → s2 39 0 = kk ∧ (kk = 0 → f2 0 = b ∧ (-2147483648 ≤ b ∧ b ≤ 2147483647)) ∧ Y X2 s2) ∧ hdj X2 W ∧ h' = hU X2 (hset W o (aL 1 f2))) := by
  refine CtH.intro (by decide +kernel) rfl (Nat.le_of_ble_eq_true rfl) ?_
  intro G T0 R
  have C := T0.cx
  show G 0 [some (.ref x), some (.ref o), none] [] (hU X W) 0 0
  refine gk_aload_n C dL_season_0 rfl ?_
  refine gk_iconst C dL_season_1 ?_
  refine gk_aload_n C dL_season_2 rfl ?_
  refine gk_callVH T0 o_X4_season k_L_83 dL_season_3 (Ct.fr hd hc) (hU_l hx) rfl rfl rfl (by decide) (by decide) (by exact Nat.le_of_ble_eq_true rfl) (fun E_3 h_3 x_3 => ?_) (fun v_3 h_3 p_3 => ?_)
  · obtain ⟨h3, ⟨e3, pe⟩, d3, e4⟩ := x_3
    rw [e3] at d3 e4
    subst e4
    obtain ⟨rfl, pe⟩ := pe
    refine ⟨11, hd_L_season_0, fun q_0 => ?_⟩
    refine gk_astore_n_2 C rfl (by decide) dL_season_11 ?_
    refine gk_iconst C dL_season_12 ?_
    refine (R _ _ _ _ _ (by decide) (by decide)).1 _ rfl dL_season_13 ?_
    refine ⟨1, X, f, rfl, by omega, fun b s2 hm => ⟨(pe b s2 hm).1, fun z => absurd z (by omega), (pe b s2 hm).2⟩, d3, ?_⟩
    rw [hset_self hW]
  · obtain ⟨h3, ⟨r, rfl, rr, pr⟩, d3, rfl⟩ := p_3
    dsimp only [gk_push]
    refine gk_i2l C (by omega) dL_season_6 ?_
    refine gk_last C dL_season_7 (hU_r d3 hW) (by omega) (by omega) ?_
    rw [hU_setR (d3.no hW)]
    refine gk_goto C (tgt := 14) dL_season_8 (by decide) ?_
    refine gk_iconst C dL_season_14 ?_
    refine (R _ _ _ _ _ (by decide) (by decide)).1 _ rfl dL_season_15 ?_
    refine ⟨0, h3, gupd f 0 r, rfl, by omega, fun b s2 hm => ?_, d3, rfl⟩
    obtain ⟨a1, a2, a3⟩ := pr b s2 hm
    subst a2
    exact ⟨a1, fun _ => ⟨gupd_eq, rr⟩, a3⟩

set_option maxRecDepth 100000 in
set_option maxHeartbeats 4000000 in
theorem w_ofBand {l : Launch} {Γ : GA} {X W : Hp} {x o : Nat} {fs : List Value} {f : Int → Int} {z0 z1 : Int} {MP : Int → MS → Prop} {Y : Hp → MS → Prop} (hx : X x = some (oO 5 fs)) (hW : W o = some (aL 1 f)) (hd : hdj X W)
    (hc : Ct l Γ m_X4_ofBand [.ref x, iv z0, iv z1] X (fun v h' => ∃ r : Int, v = some (iv r) ∧ (-2147483648 ≤ r ∧ r ≤ 2147483647) ∧ ∀ b s2, MP b s2 → s2 39 0 = 0 ∧ r = b ∧ Y h' s2) (fun E h' => h' = X ∧ ((E = "java/lang/IndexOutOfBoundsException" ∧ ∀ b s2, MP b s2 → s2 39 0 = 1 ∧ Y X s2) ∨ (E = "java/lang/IllegalArgumentException" ∧ ∀ b s2, MP b s2 → s2 39 0 = 2 ∧ Y X s2)))) :
    CtH l Γ m_L_ofBand hh_L_ofBand [.ref x, iv z0, iv z1, .ref o] (hU X W) (fun v h' => ∃ (kk : Int) (X2 : Hp) (f2 : Int → Int), v = some (iv kk) ∧ (0 ≤ kk ∧ kk ≤ 3) ∧ (∀ b s2, MP b s2 → s2 39 0 = kk ∧ (kk = 0 → f2 0 = b ∧ (-2147483648 ≤ b ∧ b ≤ 2147483647)) ∧ Y X2 s2) ∧ hdj X2 W ∧ h' = hU X2 (hset W o (aL 1 f2))) := by
  refine CtH.intro (by decide +kernel) rfl (Nat.le_of_ble_eq_true rfl) ?_
  intro G T0 R
  have C := T0.cx
  show G 0 [some (.ref x), some (iv z0), some (iv z1), some (.ref o), none] [] (hU X W) 0 0
  refine gk_aload_n C dL_ofBand_0 rfl ?_
  refine gk_iconst C dL_ofBand_1 ?_
  refine gk_aload_n C dL_ofBand_2 rfl ?_
  refine gk_iload_n C dL_ofBand_3 rfl ?_
  refine gk_iload_n C dL_ofBand_4 rfl ?_
  refine gk_callVH T0 o_X4_ofBand k_L_86 dL_ofBand_5 (Ct.fr hd hc) (hU_l hx) rfl rfl rfl (by decide) (by decide) (by exact Nat.le_of_ble_eq_true rfl) (fun E_5 h_5 x_5 => ?_) (fun v_5 h_5 p_5 => ?_)
  · obtain ⟨h3, ⟨e3, pe⟩, d3, e4⟩ := x_5
    rw [e3] at d3 e4
    subst e4
    rcases pe with ⟨rfl, pe⟩ | ⟨rfl, pe⟩
    · refine ⟨13, hd_L_ofBand_0, fun q_0 => ?_⟩
      refine gk_astore_4 C rfl (by decide) dL_ofBand_13 ?_
      refine gk_iconst C dL_ofBand_15 ?_
      refine (R _ _ _ _ _ (by decide) (by decide)).1 _ rfl dL_ofBand_16 ?_
      refine ⟨1, X, f, rfl, by omega, fun b s2 hm => ⟨(pe b s2 hm).1, fun z => absurd z (by omega), (pe b s2 hm).2⟩, d3, ?_⟩
      rw [hset_self hW]
    · refine ⟨17, hd_L_ofBand_1, fun q_0 => ?_⟩
      refine gk_astore_4 C rfl (by decide) dL_ofBand_17 ?_
      refine gk_iconst C dL_ofBand_19 ?_
      refine (R _ _ _ _ _ (by decide) (by decide)).1 _ rfl dL_ofBand_20 ?_
      refine ⟨2, X, f, rfl, by omega, fun b s2 hm => ⟨(pe b s2 hm).1, fun z => absurd z (by omega), (pe b s2 hm).2⟩, d3, ?_⟩
      rw [hset_self hW]
  · obtain ⟨h3, ⟨r, rfl, rr, pr⟩, d3, rfl⟩ := p_5
    dsimp only [gk_push]
    refine gk_i2l C (by omega) dL_ofBand_8 ?_
    refine gk_last C dL_ofBand_9 (hU_r d3 hW) (by omega) (by omega) ?_
    rw [hU_setR (d3.no hW)]
    refine gk_goto C (tgt := 21) dL_ofBand_10 (by decide) ?_
    refine gk_iconst C dL_ofBand_21 ?_
    refine (R _ _ _ _ _ (by decide) (by decide)).1 _ rfl dL_ofBand_22 ?_
    refine ⟨0, h3, gupd f 0 r, rfl, by omega, fun b s2 hm => ?_, d3, rfl⟩
    obtain ⟨a1, a2, a3⟩ := pr b s2 hm
    subst a2
    exact ⟨a1, fun _ => ⟨gupd_eq, rr⟩, a3⟩
