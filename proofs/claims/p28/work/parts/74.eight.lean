/-! a run by hand: eight -/
def ca_eight : List CA := [(16, (1), (0), (0), (0), (0)), (16, (1), (0), (0), (0), (1)), (16, (1), (0), (0), (0), (2)), (16, (1), (0), (0), (0), (3)), (16, (1), (0), (0), (0), (4)), (16, (1), (0), (0), (0), (5)), (16, (1), (0), (0), (0), (6)), (16, (1), (0), (0), (0), (7)), (16, (1), (0), (0), (0), (-7000003)), (17, (1), (0), (0), (0), (8)), (18, (0), (0), (100), (0), (31)), (18, (1), (0), (100), (0), (30)), (18, (2), (0), (100), (0), (29)), (18, (3), (0), (100), (0), (28)), (18, (0), (1), (100), (0), (27)), (18, (1), (1), (100), (0), (26)), (18, (2), (1), (100), (0), (25)), (18, (3), (1), (100), (0), (24)), (18, (0), (2), (100), (0), (23)), (18, (1), (2), (100), (0), (22)), (18, (2), (2), (100), (0), (21)), (18, (3), (2), (100), (0), (20)), (18, (0), (3), (100), (0), (19)), (18, (1), (3), (100), (0), (18)), (18, (2), (3), (100), (0), (17)), (18, (3), (3), (100), (0), (16)), (18, (0), (4), (100), (0), (15)), (18, (1), (4), (100), (0), (14)), (18, (2), (4), (100), (0), (13)), (18, (3), (4), (100), (0), (12)), (18, (0), (5), (100), (0), (11)), (18, (1), (5), (100), (0), (10)), (18, (2), (5), (100), (0), (9)), (18, (3), (5), (100), (0), (8)), (18, (0), (6), (100), (0), (7)), (18, (1), (6), (100), (0), (6)), (18, (2), (6), (100), (0), (5)), (18, (3), (6), (100), (0), (4)), (18, (0), (7), (100), (0), (3)), (18, (1), (7), (100), (0), (2)), (18, (2), (7), (100), (0), (1)), (18, (3), (7), (100), (0), (0)), (19, (0), (0), (0), (0), (0)), (21, (0), (0), (0), (0), (1)), (21, (0), (1), (0), (0), (6)), (21, (0), (2), (0), (0), (1)), (21, (0), (3), (0), (0), (4)), (21, (0), (4), (0), (0), (1)), (21, (1), (0), (0), (0), (1)), (21, (1), (1), (0), (0), (4)), (21, (1), (2), (0), (0), (2)), (21, (1), (3), (0), (0), (4)), (21, (1), (4), (0), (0), (0)), (21, (2), (0), (0), (0), (1)), (21, (2), (1), (0), (0), (3)), (21, (2), (2), (0), (0), (3)), (21, (2), (3), (0), (0), (4)), (21, (2), (4), (0), (0), (0)), (21, (3), (0), (0), (0), (1)), (21, (3), (1), (0), (0), (2)), (21, (3), (2), (0), (0), (4)), (21, (3), (3), (0), (0), (4)), (21, (3), (4), (0), (0), (0)), (21, (4), (0), (0), (0), (1)), (21, (4), (1), (0), (0), (1)), (21, (4), (2), (0), (0), (5)), (21, (4), (3), (0), (0), (4)), (21, (4), (4), (0), (0), (0)), (21, (5), (0), (0), (0), (1)), (21, (5), (1), (0), (0), (1)), (21, (5), (2), (0), (0), (6)), (21, (5), (3), (0), (0), (4)), (21, (5), (4), (0), (0), (0)), (21, (6), (0), (0), (0), (1)), (21, (6), (1), (0), (0), (0)), (21, (6), (2), (0), (0), (7)), (21, (6), (3), (0), (0), (4)), (21, (6), (4), (0), (0), (0)), (21, (7), (0), (0), (0), (1)), (21, (7), (1), (0), (0), (0)), (21, (7), (2), (0), (0), (8)), (21, (7), (3), (0), (0), (4)), (21, (7), (4), (0), (0), (0)), (20, (0), (0), (0), (0), (1)), (21, (7), (0), (0), (0), (2)), (21, (0), (0), (0), (0), (1)), (21, (0), (1), (0), (0), (0)), (26, (0), (0), (0), (0), (0)), (27, (0), (0), (0), (0), (0)), (28, (0), (0), (0), (0), (8))]
set_option maxRecDepth 100000 in
theorem ck_eight : chk σ0 ca_eight = true := by decide +kernel
set_option maxRecDepth 100000 in
set_option maxHeartbeats 20000000 in
theorem r_eight {l : Launch} {Γ : GA} (hfl : l.stackTraces = false) : Ct l Γ m_L_eight [] (fun _ => none) (fun v _ => v = some (iv 1)) (fun _ _ => False) := by
  have hk := ck_eight
  unfold ca_eight at hk
  have hb0 : σ0.2.2.2.2 ≤ 100 := Nat.zero_le _
  refine Ct.intro hfl (by decide +kernel) rfl (Nat.le_of_ble_eq_true rfl) ?_
  intro G C R T
  show G 0 [none, none] [] (fun _ => none) 0 0
  refine gk_new C n_L_8 ⟨by show _ + 1 ≤ 2500; omega, by show _ + 9 ≤ 110000; omega⟩ dL_eight_0 (fun q0 e0 => ?_)
  refine gk_dup C rfl dL_eight_3 ?_
  refine gk_callI C o_X4_init rfl k_L_106 dL_eight_4 (h_new hfl) rfl rfl ⟨Nat.le_of_ble_eq_true rfl, Nat.le_of_ble_eq_true rfl⟩ ⟨by show _ + 8 ≤ 2500; omega, by show _ + 37 ≤ 110000; omega⟩ (by exact Nat.le_of_ble_eq_true rfl) (fun _ _ z => z.elim) (fun v0 h0 p0 => ?_)
  obtain ⟨rfl, H0⟩ := p0
  dsimp only [gk_push]
  refine gk_astore_n_0 C (by exact Nat.le_of_ble_eq_true rfl) dL_eight_7 ?_
  refine gk_iconst C dL_eight_8 ?_
  refine gk_istore_n_1 C rfl (by exact Nat.le_of_ble_eq_true rfl) dL_eight_9 ?_
  refine gk_iload_n C dL_eight_10 rfl ?_
  refine gk_bipush C dL_eight_11 (by decide) ?_
  refine gk_icmp_ge C (tgt := 49) (by omega) (by omega) dL_eight_13 (by decide) (fun c_13 => ?_) (fun c_13 => ?_)
  · exact absurd c_13 (by omega)
  refine gk_aload_n C dL_eight_16 rfl ?_
  refine gk_bipush C dL_eight_17 (by decide) ?_
  refine gk_iconst C dL_eight_19 ?_
  refine gk_iconst C dL_eight_20 ?_
  refine gk_iconst C dL_eight_21 ?_
  refine gk_iconst C dL_eight_22 ?_
  obtain ⟨σ1, e1, b1, hk1⟩ := chk_c hk
  refine gk_callSH C o_L_act k_L_100 dL_eight_23 (act_e hfl H0 (w := 16) (a := (1)) (b := (0)) (c := (0)) (d := (0)) rfl (by omega) (by omega) (by omega) (by omega) (by omega) (Nat.le_trans hb0 (by omega)) e1) rfl rfl ⟨Nat.le_of_ble_eq_true rfl, Nat.le_of_ble_eq_true rfl⟩ ⟨by show _ + 9 ≤ 2500; omega, by show _ + 418 ≤ 110000; omega⟩ (by exact Nat.le_of_ble_eq_true rfl) (fun v1 h1 p1 => ?_)
  obtain ⟨rfl, H1⟩ := p1
  dsimp only [gk_push]
  clear e1 H0 hk hb0
  refine gk_iload_n C dL_eight_26 rfl ?_
  refine gk_bipush C dL_eight_27 (by decide) ?_
  refine gk_icmp_ge C (tgt := 36) (by omega) (by omega) dL_eight_29 (by decide) (fun c_29 => ?_) (fun c_29 => ?_)
  · exact absurd c_29 (by omega)
  refine gk_iload_n C dL_eight_32 rfl ?_
  refine gk_goto C (tgt := 38) dL_eight_33 (by decide) ?_
  refine gk_icmp_eq C (tgt := 43) (by omega) (by omega) dL_eight_38 (by decide) (fun c_38 => ?_) (fun c_38 => ?_)
  rotate_left
  · exact absurd c_38 (by omega)
  refine gk_iinc_1 C rfl (by exact Nat.le_of_ble_eq_true rfl) dL_eight_43 ?_
  rw [show ((0 : Int) + 1) = 1 by decide]
  refine gk_goto C (tgt := 10) dL_eight_46 (by decide) ?_
  refine gk_iload_n C dL_eight_10 rfl ?_
  refine gk_bipush C dL_eight_11 (by decide) ?_
  refine gk_icmp_ge C (tgt := 49) (by omega) (by omega) dL_eight_13 (by decide) (fun c_13 => ?_) (fun c_13 => ?_)
  · exact absurd c_13 (by omega)
  refine gk_aload_n C dL_eight_16 rfl ?_
  refine gk_bipush C dL_eight_17 (by decide) ?_
  refine gk_iconst C dL_eight_19 ?_
  refine gk_iconst C dL_eight_20 ?_
  refine gk_iconst C dL_eight_21 ?_
  refine gk_iconst C dL_eight_22 ?_
  obtain ⟨σ2, e2, b2, hk2⟩ := chk_c hk1
  refine gk_callSH C o_L_act k_L_100 dL_eight_23 (act_e hfl H1 (w := 16) (a := (1)) (b := (0)) (c := (0)) (d := (0)) rfl (by omega) (by omega) (by omega) (by omega) (by omega) (Nat.le_trans b1 (by omega)) e2) rfl rfl ⟨Nat.le_of_ble_eq_true rfl, Nat.le_of_ble_eq_true rfl⟩ ⟨by show _ + 9 ≤ 2500; omega, by show _ + 418 ≤ 110000; omega⟩ (by exact Nat.le_of_ble_eq_true rfl) (fun v2 h2 p2 => ?_)
  obtain ⟨rfl, H2⟩ := p2
  dsimp only [gk_push]
  clear e2 H1 hk1 b1
  refine gk_iload_n C dL_eight_26 rfl ?_
  refine gk_bipush C dL_eight_27 (by decide) ?_
  refine gk_icmp_ge C (tgt := 36) (by omega) (by omega) dL_eight_29 (by decide) (fun c_29 => ?_) (fun c_29 => ?_)
  · exact absurd c_29 (by omega)
  refine gk_iload_n C dL_eight_32 rfl ?_
  refine gk_goto C (tgt := 38) dL_eight_33 (by decide) ?_
  refine gk_icmp_eq C (tgt := 43) (by omega) (by omega) dL_eight_38 (by decide) (fun c_38 => ?_) (fun c_38 => ?_)
  rotate_left
  · exact absurd c_38 (by omega)
  refine gk_iinc_1 C rfl (by exact Nat.le_of_ble_eq_true rfl) dL_eight_43 ?_
  rw [show ((1 : Int) + 1) = 2 by decide]
  refine gk_goto C (tgt := 10) dL_eight_46 (by decide) ?_
  refine gk_iload_n C dL_eight_10 rfl ?_
  refine gk_bipush C dL_eight_11 (by decide) ?_
  refine gk_icmp_ge C (tgt := 49) (by omega) (by omega) dL_eight_13 (by decide) (fun c_13 => ?_) (fun c_13 => ?_)
  · exact absurd c_13 (by omega)
  refine gk_aload_n C dL_eight_16 rfl ?_
  refine gk_bipush C dL_eight_17 (by decide) ?_
  refine gk_iconst C dL_eight_19 ?_
  refine gk_iconst C dL_eight_20 ?_
  refine gk_iconst C dL_eight_21 ?_
  refine gk_iconst C dL_eight_22 ?_
  obtain ⟨σ3, e3, b3, hk3⟩ := chk_c hk2
  refine gk_callSH C o_L_act k_L_100 dL_eight_23 (act_e hfl H2 (w := 16) (a := (1)) (b := (0)) (c := (0)) (d := (0)) rfl (by omega) (by omega) (by omega) (by omega) (by omega) (Nat.le_trans b2 (by omega)) e3) rfl rfl ⟨Nat.le_of_ble_eq_true rfl, Nat.le_of_ble_eq_true rfl⟩ ⟨by show _ + 9 ≤ 2500; omega, by show _ + 418 ≤ 110000; omega⟩ (by exact Nat.le_of_ble_eq_true rfl) (fun v3 h3 p3 => ?_)
  obtain ⟨rfl, H3⟩ := p3
  dsimp only [gk_push]
  clear e3 H2 hk2 b2
  refine gk_iload_n C dL_eight_26 rfl ?_
  refine gk_bipush C dL_eight_27 (by decide) ?_
  refine gk_icmp_ge C (tgt := 36) (by omega) (by omega) dL_eight_29 (by decide) (fun c_29 => ?_) (fun c_29 => ?_)
  · exact absurd c_29 (by omega)
  refine gk_iload_n C dL_eight_32 rfl ?_
  refine gk_goto C (tgt := 38) dL_eight_33 (by decide) ?_
  refine gk_icmp_eq C (tgt := 43) (by omega) (by omega) dL_eight_38 (by decide) (fun c_38 => ?_) (fun c_38 => ?_)
  rotate_left
  · exact absurd c_38 (by omega)
  refine gk_iinc_1 C rfl (by exact Nat.le_of_ble_eq_true rfl) dL_eight_43 ?_
  rw [show ((2 : Int) + 1) = 3 by decide]
  refine gk_goto C (tgt := 10) dL_eight_46 (by decide) ?_
  refine gk_iload_n C dL_eight_10 rfl ?_
  refine gk_bipush C dL_eight_11 (by decide) ?_
  refine gk_icmp_ge C (tgt := 49) (by omega) (by omega) dL_eight_13 (by decide) (fun c_13 => ?_) (fun c_13 => ?_)
  · exact absurd c_13 (by omega)
  refine gk_aload_n C dL_eight_16 rfl ?_
  refine gk_bipush C dL_eight_17 (by decide) ?_
  refine gk_iconst C dL_eight_19 ?_
  refine gk_iconst C dL_eight_20 ?_
  refine gk_iconst C dL_eight_21 ?_
  refine gk_iconst C dL_eight_22 ?_
  obtain ⟨σ4, e4, b4, hk4⟩ := chk_c hk3
  refine gk_callSH C o_L_act k_L_100 dL_eight_23 (act_e hfl H3 (w := 16) (a := (1)) (b := (0)) (c := (0)) (d := (0)) rfl (by omega) (by omega) (by omega) (by omega) (by omega) (Nat.le_trans b3 (by omega)) e4) rfl rfl ⟨Nat.le_of_ble_eq_true rfl, Nat.le_of_ble_eq_true rfl⟩ ⟨by show _ + 9 ≤ 2500; omega, by show _ + 418 ≤ 110000; omega⟩ (by exact Nat.le_of_ble_eq_true rfl) (fun v4 h4 p4 => ?_)
  obtain ⟨rfl, H4⟩ := p4
  dsimp only [gk_push]
  clear e4 H3 hk3 b3
  refine gk_iload_n C dL_eight_26 rfl ?_
  refine gk_bipush C dL_eight_27 (by decide) ?_
  refine gk_icmp_ge C (tgt := 36) (by omega) (by omega) dL_eight_29 (by decide) (fun c_29 => ?_) (fun c_29 => ?_)
  · exact absurd c_29 (by omega)
  refine gk_iload_n C dL_eight_32 rfl ?_
  refine gk_goto C (tgt := 38) dL_eight_33 (by decide) ?_
  refine gk_icmp_eq C (tgt := 43) (by omega) (by omega) dL_eight_38 (by decide) (fun c_38 => ?_) (fun c_38 => ?_)
  rotate_left
  · exact absurd c_38 (by omega)
  refine gk_iinc_1 C rfl (by exact Nat.le_of_ble_eq_true rfl) dL_eight_43 ?_
  rw [show ((3 : Int) + 1) = 4 by decide]
  refine gk_goto C (tgt := 10) dL_eight_46 (by decide) ?_
  refine gk_iload_n C dL_eight_10 rfl ?_
  refine gk_bipush C dL_eight_11 (by decide) ?_
  refine gk_icmp_ge C (tgt := 49) (by omega) (by omega) dL_eight_13 (by decide) (fun c_13 => ?_) (fun c_13 => ?_)
  · exact absurd c_13 (by omega)
  refine gk_aload_n C dL_eight_16 rfl ?_
  refine gk_bipush C dL_eight_17 (by decide) ?_
  refine gk_iconst C dL_eight_19 ?_
  refine gk_iconst C dL_eight_20 ?_
  refine gk_iconst C dL_eight_21 ?_
  refine gk_iconst C dL_eight_22 ?_
  obtain ⟨σ5, e5, b5, hk5⟩ := chk_c hk4
  refine gk_callSH C o_L_act k_L_100 dL_eight_23 (act_e hfl H4 (w := 16) (a := (1)) (b := (0)) (c := (0)) (d := (0)) rfl (by omega) (by omega) (by omega) (by omega) (by omega) (Nat.le_trans b4 (by omega)) e5) rfl rfl ⟨Nat.le_of_ble_eq_true rfl, Nat.le_of_ble_eq_true rfl⟩ ⟨by show _ + 9 ≤ 2500; omega, by show _ + 418 ≤ 110000; omega⟩ (by exact Nat.le_of_ble_eq_true rfl) (fun v5 h5 p5 => ?_)
  obtain ⟨rfl, H5⟩ := p5
  dsimp only [gk_push]
  clear e5 H4 hk4 b4
  refine gk_iload_n C dL_eight_26 rfl ?_
  refine gk_bipush C dL_eight_27 (by decide) ?_
  refine gk_icmp_ge C (tgt := 36) (by omega) (by omega) dL_eight_29 (by decide) (fun c_29 => ?_) (fun c_29 => ?_)
  · exact absurd c_29 (by omega)
  refine gk_iload_n C dL_eight_32 rfl ?_
  refine gk_goto C (tgt := 38) dL_eight_33 (by decide) ?_
  refine gk_icmp_eq C (tgt := 43) (by omega) (by omega) dL_eight_38 (by decide) (fun c_38 => ?_) (fun c_38 => ?_)
  rotate_left
  · exact absurd c_38 (by omega)
  refine gk_iinc_1 C rfl (by exact Nat.le_of_ble_eq_true rfl) dL_eight_43 ?_
  rw [show ((4 : Int) + 1) = 5 by decide]
  refine gk_goto C (tgt := 10) dL_eight_46 (by decide) ?_
  refine gk_iload_n C dL_eight_10 rfl ?_
  refine gk_bipush C dL_eight_11 (by decide) ?_
  refine gk_icmp_ge C (tgt := 49) (by omega) (by omega) dL_eight_13 (by decide) (fun c_13 => ?_) (fun c_13 => ?_)
  · exact absurd c_13 (by omega)
  refine gk_aload_n C dL_eight_16 rfl ?_
  refine gk_bipush C dL_eight_17 (by decide) ?_
  refine gk_iconst C dL_eight_19 ?_
  refine gk_iconst C dL_eight_20 ?_
  refine gk_iconst C dL_eight_21 ?_
  refine gk_iconst C dL_eight_22 ?_
  obtain ⟨σ6, e6, b6, hk6⟩ := chk_c hk5
  refine gk_callSH C o_L_act k_L_100 dL_eight_23 (act_e hfl H5 (w := 16) (a := (1)) (b := (0)) (c := (0)) (d := (0)) rfl (by omega) (by omega) (by omega) (by omega) (by omega) (Nat.le_trans b5 (by omega)) e6) rfl rfl ⟨Nat.le_of_ble_eq_true rfl, Nat.le_of_ble_eq_true rfl⟩ ⟨by show _ + 9 ≤ 2500; omega, by show _ + 418 ≤ 110000; omega⟩ (by exact Nat.le_of_ble_eq_true rfl) (fun v6 h6 p6 => ?_)
  obtain ⟨rfl, H6⟩ := p6
  dsimp only [gk_push]
  clear e6 H5 hk5 b5
  refine gk_iload_n C dL_eight_26 rfl ?_
  refine gk_bipush C dL_eight_27 (by decide) ?_
  refine gk_icmp_ge C (tgt := 36) (by omega) (by omega) dL_eight_29 (by decide) (fun c_29 => ?_) (fun c_29 => ?_)
  · exact absurd c_29 (by omega)
  refine gk_iload_n C dL_eight_32 rfl ?_
  refine gk_goto C (tgt := 38) dL_eight_33 (by decide) ?_
  refine gk_icmp_eq C (tgt := 43) (by omega) (by omega) dL_eight_38 (by decide) (fun c_38 => ?_) (fun c_38 => ?_)
  rotate_left
  · exact absurd c_38 (by omega)
  refine gk_iinc_1 C rfl (by exact Nat.le_of_ble_eq_true rfl) dL_eight_43 ?_
  rw [show ((5 : Int) + 1) = 6 by decide]
  refine gk_goto C (tgt := 10) dL_eight_46 (by decide) ?_
  refine gk_iload_n C dL_eight_10 rfl ?_
  refine gk_bipush C dL_eight_11 (by decide) ?_
  refine gk_icmp_ge C (tgt := 49) (by omega) (by omega) dL_eight_13 (by decide) (fun c_13 => ?_) (fun c_13 => ?_)
  · exact absurd c_13 (by omega)
  refine gk_aload_n C dL_eight_16 rfl ?_
  refine gk_bipush C dL_eight_17 (by decide) ?_
  refine gk_iconst C dL_eight_19 ?_
  refine gk_iconst C dL_eight_20 ?_
  refine gk_iconst C dL_eight_21 ?_
  refine gk_iconst C dL_eight_22 ?_
  obtain ⟨σ7, e7, b7, hk7⟩ := chk_c hk6
  refine gk_callSH C o_L_act k_L_100 dL_eight_23 (act_e hfl H6 (w := 16) (a := (1)) (b := (0)) (c := (0)) (d := (0)) rfl (by omega) (by omega) (by omega) (by omega) (by omega) (Nat.le_trans b6 (by omega)) e7) rfl rfl ⟨Nat.le_of_ble_eq_true rfl, Nat.le_of_ble_eq_true rfl⟩ ⟨by show _ + 9 ≤ 2500; omega, by show _ + 418 ≤ 110000; omega⟩ (by exact Nat.le_of_ble_eq_true rfl) (fun v7 h7 p7 => ?_)
  obtain ⟨rfl, H7⟩ := p7
  dsimp only [gk_push]
  clear e7 H6 hk6 b6
  refine gk_iload_n C dL_eight_26 rfl ?_
  refine gk_bipush C dL_eight_27 (by decide) ?_
  refine gk_icmp_ge C (tgt := 36) (by omega) (by omega) dL_eight_29 (by decide) (fun c_29 => ?_) (fun c_29 => ?_)
  · exact absurd c_29 (by omega)
  refine gk_iload_n C dL_eight_32 rfl ?_
  refine gk_goto C (tgt := 38) dL_eight_33 (by decide) ?_
  refine gk_icmp_eq C (tgt := 43) (by omega) (by omega) dL_eight_38 (by decide) (fun c_38 => ?_) (fun c_38 => ?_)
  rotate_left
  · exact absurd c_38 (by omega)
  refine gk_iinc_1 C rfl (by exact Nat.le_of_ble_eq_true rfl) dL_eight_43 ?_
  rw [show ((6 : Int) + 1) = 7 by decide]
  refine gk_goto C (tgt := 10) dL_eight_46 (by decide) ?_
  refine gk_iload_n C dL_eight_10 rfl ?_
  refine gk_bipush C dL_eight_11 (by decide) ?_
  refine gk_icmp_ge C (tgt := 49) (by omega) (by omega) dL_eight_13 (by decide) (fun c_13 => ?_) (fun c_13 => ?_)
  · exact absurd c_13 (by omega)
  refine gk_aload_n C dL_eight_16 rfl ?_
  refine gk_bipush C dL_eight_17 (by decide) ?_
  refine gk_iconst C dL_eight_19 ?_
  refine gk_iconst C dL_eight_20 ?_
  refine gk_iconst C dL_eight_21 ?_
  refine gk_iconst C dL_eight_22 ?_
  obtain ⟨σ8, e8, b8, hk8⟩ := chk_c hk7
  refine gk_callSH C o_L_act k_L_100 dL_eight_23 (act_e hfl H7 (w := 16) (a := (1)) (b := (0)) (c := (0)) (d := (0)) rfl (by omega) (by omega) (by omega) (by omega) (by omega) (Nat.le_trans b7 (by omega)) e8) rfl rfl ⟨Nat.le_of_ble_eq_true rfl, Nat.le_of_ble_eq_true rfl⟩ ⟨by show _ + 9 ≤ 2500; omega, by show _ + 418 ≤ 110000; omega⟩ (by exact Nat.le_of_ble_eq_true rfl) (fun v8 h8 p8 => ?_)
  obtain ⟨rfl, H8⟩ := p8
  dsimp only [gk_push]
  clear e8 H7 hk7 b7
  refine gk_iload_n C dL_eight_26 rfl ?_
  refine gk_bipush C dL_eight_27 (by decide) ?_
  refine gk_icmp_ge C (tgt := 36) (by omega) (by omega) dL_eight_29 (by decide) (fun c_29 => ?_) (fun c_29 => ?_)
  · exact absurd c_29 (by omega)
  refine gk_iload_n C dL_eight_32 rfl ?_
  refine gk_goto C (tgt := 38) dL_eight_33 (by decide) ?_
  refine gk_icmp_eq C (tgt := 43) (by omega) (by omega) dL_eight_38 (by decide) (fun c_38 => ?_) (fun c_38 => ?_)
  rotate_left
  · exact absurd c_38 (by omega)
  refine gk_iinc_1 C rfl (by exact Nat.le_of_ble_eq_true rfl) dL_eight_43 ?_
  rw [show ((7 : Int) + 1) = 8 by decide]
  refine gk_goto C (tgt := 10) dL_eight_46 (by decide) ?_
  refine gk_iload_n C dL_eight_10 rfl ?_
  refine gk_bipush C dL_eight_11 (by decide) ?_
  refine gk_icmp_ge C (tgt := 49) (by omega) (by omega) dL_eight_13 (by decide) (fun c_13 => ?_) (fun c_13 => ?_)
  · exact absurd c_13 (by omega)
  refine gk_aload_n C dL_eight_16 rfl ?_
  refine gk_bipush C dL_eight_17 (by decide) ?_
  refine gk_iconst C dL_eight_19 ?_
  refine gk_iconst C dL_eight_20 ?_
  refine gk_iconst C dL_eight_21 ?_
  refine gk_iconst C dL_eight_22 ?_
  obtain ⟨σ9, e9, b9, hk9⟩ := chk_c hk8
  refine gk_callSH C o_L_act k_L_100 dL_eight_23 (act_e hfl H8 (w := 16) (a := (1)) (b := (0)) (c := (0)) (d := (0)) rfl (by omega) (by omega) (by omega) (by omega) (by omega) (Nat.le_trans b8 (by omega)) e9) rfl rfl ⟨Nat.le_of_ble_eq_true rfl, Nat.le_of_ble_eq_true rfl⟩ ⟨by show _ + 9 ≤ 2500; omega, by show _ + 418 ≤ 110000; omega⟩ (by exact Nat.le_of_ble_eq_true rfl) (fun v9 h9 p9 => ?_)
  obtain ⟨rfl, H9⟩ := p9
  dsimp only [gk_push]
  clear e9 H8 hk8 b8
  refine gk_iload_n C dL_eight_26 rfl ?_
  refine gk_bipush C dL_eight_27 (by decide) ?_
  refine gk_icmp_ge C (tgt := 36) (by omega) (by omega) dL_eight_29 (by decide) (fun c_29 => ?_) (fun c_29 => ?_)
  rotate_left
  · exact absurd c_29 (by omega)
  refine gk_ldc C cn_L_91 dL_eight_36 ?_
  refine gk_icmp_eq C (tgt := 43) (by omega) (by omega) dL_eight_38 (by decide) (fun c_38 => ?_) (fun c_38 => ?_)
  rotate_left
  · exact absurd c_38 (by omega)
  refine gk_iinc_1 C rfl (by exact Nat.le_of_ble_eq_true rfl) dL_eight_43 ?_
  rw [show ((8 : Int) + 1) = 9 by decide]
  refine gk_goto C (tgt := 10) dL_eight_46 (by decide) ?_
  refine gk_iload_n C dL_eight_10 rfl ?_
  refine gk_bipush C dL_eight_11 (by decide) ?_
  refine gk_icmp_ge C (tgt := 49) (by omega) (by omega) dL_eight_13 (by decide) (fun c_13 => ?_) (fun c_13 => ?_)
  rotate_left
  · exact absurd c_13 (by omega)
  refine gk_aload_n C dL_eight_49 rfl ?_
  refine gk_iconst C dL_eight_50 ?_
  obtain ⟨σ10, e10, b10, hk10⟩ := chk_c hk9
  obtain ⟨fs10, ob10⟩ := H9.obj
  refine gk_callV C o_X4_contest k_L_68 dL_eight_51 (HC.dir (h_contest hfl H9 (g := (1)) (by omega)) e10 (by omega)) ob10 rfl rfl rfl ⟨Nat.le_of_ble_eq_true rfl, Nat.le_of_ble_eq_true rfl⟩ ⟨by show _ + 2 ≤ 2500; omega, by show _ + 12 ≤ 110000; omega⟩ (by exact Nat.le_of_ble_eq_true rfl) (fun _ _ z => z.elim) (fun v10 h10 p10 => ?_)
  obtain ⟨rfl, H10⟩ := p10
  dsimp only [gk_push]
  clear e10 ob10 H9 hk9 b9
  refine gk_bipush C dL_eight_54 (by decide) ?_
  refine gk_icmp_eq C (tgt := 61) (by omega) (by omega) dL_eight_56 (by decide) (fun c_56 => ?_) (fun c_56 => ?_)
  rotate_left
  · exact absurd c_56 (by omega)
  refine gk_iconst C dL_eight_61 ?_
  refine gk_istore_n_1 C rfl (by exact Nat.le_of_ble_eq_true rfl) dL_eight_62 ?_
  refine gk_iload_n C dL_eight_63 rfl ?_
  refine gk_bipush C dL_eight_64 (by decide) ?_
  refine gk_icmp_ge C (tgt := 96) (by omega) (by omega) dL_eight_66 (by decide) (fun c_66 => ?_) (fun c_66 => ?_)
  · exact absurd c_66 (by omega)
  refine gk_aload_n C dL_eight_69 rfl ?_
  refine gk_iload_n C dL_eight_70 rfl ?_
  refine gk_iconst C dL_eight_71 ?_
  refine gk_irem C (by omega) (by omega) dL_eight_72 ?_
  rw [show ((0 : Int) % 4) = 0 by decide]
  refine gk_iload_n C dL_eight_73 rfl ?_
  refine gk_iconst C dL_eight_74 ?_
  refine gk_idiv C (by omega) (by omega) dL_eight_75 ?_
  rw [show ((0 : Int) / 4) = 0 by decide]
  refine gk_bipush C dL_eight_76 (by decide) ?_
  obtain ⟨σ11, e11, b11, hk11⟩ := chk_c hk10
  obtain ⟨fs11, ob11⟩ := H10.obj
  refine gk_callV C o_X4_mark k_L_71 dL_eight_78 (HC.dir (h_mark hfl H10 (j := (0)) (b := (0)) (m := (100)) (by omega) (by omega) (by omega)) e11 (by omega)) ob11 rfl rfl rfl ⟨Nat.le_of_ble_eq_true rfl, Nat.le_of_ble_eq_true rfl⟩ ⟨by show _ + 4 ≤ 2500; omega, by show _ + 24 ≤ 110000; omega⟩ (by exact Nat.le_of_ble_eq_true rfl) (fun _ _ z => z.elim) (fun v11 h11 p11 => ?_)
  obtain ⟨rfl, H11⟩ := p11
  dsimp only [gk_push]
  clear e11 ob11 H10 hk10 b10
  refine gk_bipush C dL_eight_81 (by decide) ?_
  refine gk_iload_n C dL_eight_83 rfl ?_
  refine gk_isub C dL_eight_84 ?_
  rw [show ((31 : Int) - 0) = 31 by decide]
  refine gk_icmp_eq C (tgt := 90) (by omega) (by omega) dL_eight_85 (by decide) (fun c_85 => ?_) (fun c_85 => ?_)
  rotate_left
  · exact absurd c_85 (by omega)
  refine gk_iinc_1 C rfl (by exact Nat.le_of_ble_eq_true rfl) dL_eight_90 ?_
  rw [show ((0 : Int) + 1) = 1 by decide]
  refine gk_goto C (tgt := 63) dL_eight_93 (by decide) ?_
  refine gk_iload_n C dL_eight_63 rfl ?_
  refine gk_bipush C dL_eight_64 (by decide) ?_
  refine gk_icmp_ge C (tgt := 96) (by omega) (by omega) dL_eight_66 (by decide) (fun c_66 => ?_) (fun c_66 => ?_)
  · exact absurd c_66 (by omega)
  refine gk_aload_n C dL_eight_69 rfl ?_
  refine gk_iload_n C dL_eight_70 rfl ?_
  refine gk_iconst C dL_eight_71 ?_
  refine gk_irem C (by omega) (by omega) dL_eight_72 ?_
  rw [show ((1 : Int) % 4) = 1 by decide]
  refine gk_iload_n C dL_eight_73 rfl ?_
  refine gk_iconst C dL_eight_74 ?_
  refine gk_idiv C (by omega) (by omega) dL_eight_75 ?_
  rw [show ((1 : Int) / 4) = 0 by decide]
  refine gk_bipush C dL_eight_76 (by decide) ?_
  obtain ⟨σ12, e12, b12, hk12⟩ := chk_c hk11
  obtain ⟨fs12, ob12⟩ := H11.obj
  refine gk_callV C o_X4_mark k_L_71 dL_eight_78 (HC.dir (h_mark hfl H11 (j := (1)) (b := (0)) (m := (100)) (by omega) (by omega) (by omega)) e12 (by omega)) ob12 rfl rfl rfl ⟨Nat.le_of_ble_eq_true rfl, Nat.le_of_ble_eq_true rfl⟩ ⟨by show _ + 4 ≤ 2500; omega, by show _ + 24 ≤ 110000; omega⟩ (by exact Nat.le_of_ble_eq_true rfl) (fun _ _ z => z.elim) (fun v12 h12 p12 => ?_)
  obtain ⟨rfl, H12⟩ := p12
  dsimp only [gk_push]
  clear e12 ob12 H11 hk11 b11
  refine gk_bipush C dL_eight_81 (by decide) ?_
  refine gk_iload_n C dL_eight_83 rfl ?_
  refine gk_isub C dL_eight_84 ?_
  rw [show ((31 : Int) - 1) = 30 by decide]
  refine gk_icmp_eq C (tgt := 90) (by omega) (by omega) dL_eight_85 (by decide) (fun c_85 => ?_) (fun c_85 => ?_)
  rotate_left
  · exact absurd c_85 (by omega)
  refine gk_iinc_1 C rfl (by exact Nat.le_of_ble_eq_true rfl) dL_eight_90 ?_
  rw [show ((1 : Int) + 1) = 2 by decide]
  refine gk_goto C (tgt := 63) dL_eight_93 (by decide) ?_
  refine gk_iload_n C dL_eight_63 rfl ?_
  refine gk_bipush C dL_eight_64 (by decide) ?_
  refine gk_icmp_ge C (tgt := 96) (by omega) (by omega) dL_eight_66 (by decide) (fun c_66 => ?_) (fun c_66 => ?_)
  · exact absurd c_66 (by omega)
  refine gk_aload_n C dL_eight_69 rfl ?_
  refine gk_iload_n C dL_eight_70 rfl ?_
  refine gk_iconst C dL_eight_71 ?_
  refine gk_irem C (by omega) (by omega) dL_eight_72 ?_
  rw [show ((2 : Int) % 4) = 2 by decide]
  refine gk_iload_n C dL_eight_73 rfl ?_
  refine gk_iconst C dL_eight_74 ?_
  refine gk_idiv C (by omega) (by omega) dL_eight_75 ?_
  rw [show ((2 : Int) / 4) = 0 by decide]
  refine gk_bipush C dL_eight_76 (by decide) ?_
  obtain ⟨σ13, e13, b13, hk13⟩ := chk_c hk12
  obtain ⟨fs13, ob13⟩ := H12.obj
  refine gk_callV C o_X4_mark k_L_71 dL_eight_78 (HC.dir (h_mark hfl H12 (j := (2)) (b := (0)) (m := (100)) (by omega) (by omega) (by omega)) e13 (by omega)) ob13 rfl rfl rfl ⟨Nat.le_of_ble_eq_true rfl, Nat.le_of_ble_eq_true rfl⟩ ⟨by show _ + 4 ≤ 2500; omega, by show _ + 24 ≤ 110000; omega⟩ (by exact Nat.le_of_ble_eq_true rfl) (fun _ _ z => z.elim) (fun v13 h13 p13 => ?_)
  obtain ⟨rfl, H13⟩ := p13
  dsimp only [gk_push]
  clear e13 ob13 H12 hk12 b12
  refine gk_bipush C dL_eight_81 (by decide) ?_
  refine gk_iload_n C dL_eight_83 rfl ?_
  refine gk_isub C dL_eight_84 ?_
  rw [show ((31 : Int) - 2) = 29 by decide]
  refine gk_icmp_eq C (tgt := 90) (by omega) (by omega) dL_eight_85 (by decide) (fun c_85 => ?_) (fun c_85 => ?_)
  rotate_left
  · exact absurd c_85 (by omega)
  refine gk_iinc_1 C rfl (by exact Nat.le_of_ble_eq_true rfl) dL_eight_90 ?_
  rw [show ((2 : Int) + 1) = 3 by decide]
  refine gk_goto C (tgt := 63) dL_eight_93 (by decide) ?_
  refine gk_iload_n C dL_eight_63 rfl ?_
  refine gk_bipush C dL_eight_64 (by decide) ?_
  refine gk_icmp_ge C (tgt := 96) (by omega) (by omega) dL_eight_66 (by decide) (fun c_66 => ?_) (fun c_66 => ?_)
  · exact absurd c_66 (by omega)
  refine gk_aload_n C dL_eight_69 rfl ?_
  refine gk_iload_n C dL_eight_70 rfl ?_
  refine gk_iconst C dL_eight_71 ?_
  refine gk_irem C (by omega) (by omega) dL_eight_72 ?_
  rw [show ((3 : Int) % 4) = 3 by decide]
  refine gk_iload_n C dL_eight_73 rfl ?_
  refine gk_iconst C dL_eight_74 ?_
  refine gk_idiv C (by omega) (by omega) dL_eight_75 ?_
  rw [show ((3 : Int) / 4) = 0 by decide]
  refine gk_bipush C dL_eight_76 (by decide) ?_
  obtain ⟨σ14, e14, b14, hk14⟩ := chk_c hk13
  obtain ⟨fs14, ob14⟩ := H13.obj
  refine gk_callV C o_X4_mark k_L_71 dL_eight_78 (HC.dir (h_mark hfl H13 (j := (3)) (b := (0)) (m := (100)) (by omega) (by omega) (by omega)) e14 (by omega)) ob14 rfl rfl rfl ⟨Nat.le_of_ble_eq_true rfl, Nat.le_of_ble_eq_true rfl⟩ ⟨by show _ + 4 ≤ 2500; omega, by show _ + 24 ≤ 110000; omega⟩ (by exact Nat.le_of_ble_eq_true rfl) (fun _ _ z => z.elim) (fun v14 h14 p14 => ?_)
  obtain ⟨rfl, H14⟩ := p14
  dsimp only [gk_push]
  clear e14 ob14 H13 hk13 b13
  refine gk_bipush C dL_eight_81 (by decide) ?_
  refine gk_iload_n C dL_eight_83 rfl ?_
  refine gk_isub C dL_eight_84 ?_
  rw [show ((31 : Int) - 3) = 28 by decide]
  refine gk_icmp_eq C (tgt := 90) (by omega) (by omega) dL_eight_85 (by decide) (fun c_85 => ?_) (fun c_85 => ?_)
  rotate_left
  · exact absurd c_85 (by omega)
  refine gk_iinc_1 C rfl (by exact Nat.le_of_ble_eq_true rfl) dL_eight_90 ?_
  rw [show ((3 : Int) + 1) = 4 by decide]
  refine gk_goto C (tgt := 63) dL_eight_93 (by decide) ?_
  refine gk_iload_n C dL_eight_63 rfl ?_
  refine gk_bipush C dL_eight_64 (by decide) ?_
  refine gk_icmp_ge C (tgt := 96) (by omega) (by omega) dL_eight_66 (by decide) (fun c_66 => ?_) (fun c_66 => ?_)
  · exact absurd c_66 (by omega)
  refine gk_aload_n C dL_eight_69 rfl ?_
  refine gk_iload_n C dL_eight_70 rfl ?_
  refine gk_iconst C dL_eight_71 ?_
  refine gk_irem C (by omega) (by omega) dL_eight_72 ?_
  rw [show ((4 : Int) % 4) = 0 by decide]
  refine gk_iload_n C dL_eight_73 rfl ?_
  refine gk_iconst C dL_eight_74 ?_
  refine gk_idiv C (by omega) (by omega) dL_eight_75 ?_
  rw [show ((4 : Int) / 4) = 1 by decide]
  refine gk_bipush C dL_eight_76 (by decide) ?_
  obtain ⟨σ15, e15, b15, hk15⟩ := chk_c hk14
  obtain ⟨fs15, ob15⟩ := H14.obj
  refine gk_callV C o_X4_mark k_L_71 dL_eight_78 (HC.dir (h_mark hfl H14 (j := (0)) (b := (1)) (m := (100)) (by omega) (by omega) (by omega)) e15 (by omega)) ob15 rfl rfl rfl ⟨Nat.le_of_ble_eq_true rfl, Nat.le_of_ble_eq_true rfl⟩ ⟨by show _ + 4 ≤ 2500; omega, by show _ + 24 ≤ 110000; omega⟩ (by exact Nat.le_of_ble_eq_true rfl) (fun _ _ z => z.elim) (fun v15 h15 p15 => ?_)
  obtain ⟨rfl, H15⟩ := p15
  dsimp only [gk_push]
  clear e15 ob15 H14 hk14 b14
  refine gk_bipush C dL_eight_81 (by decide) ?_
  refine gk_iload_n C dL_eight_83 rfl ?_
  refine gk_isub C dL_eight_84 ?_
  rw [show ((31 : Int) - 4) = 27 by decide]
  refine gk_icmp_eq C (tgt := 90) (by omega) (by omega) dL_eight_85 (by decide) (fun c_85 => ?_) (fun c_85 => ?_)
  rotate_left
  · exact absurd c_85 (by omega)
  refine gk_iinc_1 C rfl (by exact Nat.le_of_ble_eq_true rfl) dL_eight_90 ?_
  rw [show ((4 : Int) + 1) = 5 by decide]
  refine gk_goto C (tgt := 63) dL_eight_93 (by decide) ?_
  refine gk_iload_n C dL_eight_63 rfl ?_
  refine gk_bipush C dL_eight_64 (by decide) ?_
  refine gk_icmp_ge C (tgt := 96) (by omega) (by omega) dL_eight_66 (by decide) (fun c_66 => ?_) (fun c_66 => ?_)
  · exact absurd c_66 (by omega)
  refine gk_aload_n C dL_eight_69 rfl ?_
  refine gk_iload_n C dL_eight_70 rfl ?_
  refine gk_iconst C dL_eight_71 ?_
  refine gk_irem C (by omega) (by omega) dL_eight_72 ?_
  rw [show ((5 : Int) % 4) = 1 by decide]
  refine gk_iload_n C dL_eight_73 rfl ?_
  refine gk_iconst C dL_eight_74 ?_
  refine gk_idiv C (by omega) (by omega) dL_eight_75 ?_
  rw [show ((5 : Int) / 4) = 1 by decide]
  refine gk_bipush C dL_eight_76 (by decide) ?_
  obtain ⟨σ16, e16, b16, hk16⟩ := chk_c hk15
  obtain ⟨fs16, ob16⟩ := H15.obj
  refine gk_callV C o_X4_mark k_L_71 dL_eight_78 (HC.dir (h_mark hfl H15 (j := (1)) (b := (1)) (m := (100)) (by omega) (by omega) (by omega)) e16 (by omega)) ob16 rfl rfl rfl ⟨Nat.le_of_ble_eq_true rfl, Nat.le_of_ble_eq_true rfl⟩ ⟨by show _ + 4 ≤ 2500; omega, by show _ + 24 ≤ 110000; omega⟩ (by exact Nat.le_of_ble_eq_true rfl) (fun _ _ z => z.elim) (fun v16 h16 p16 => ?_)
  obtain ⟨rfl, H16⟩ := p16
  dsimp only [gk_push]
  clear e16 ob16 H15 hk15 b15
  refine gk_bipush C dL_eight_81 (by decide) ?_
  refine gk_iload_n C dL_eight_83 rfl ?_
  refine gk_isub C dL_eight_84 ?_
  rw [show ((31 : Int) - 5) = 26 by decide]
  refine gk_icmp_eq C (tgt := 90) (by omega) (by omega) dL_eight_85 (by decide) (fun c_85 => ?_) (fun c_85 => ?_)
  rotate_left
  · exact absurd c_85 (by omega)
  refine gk_iinc_1 C rfl (by exact Nat.le_of_ble_eq_true rfl) dL_eight_90 ?_
  rw [show ((5 : Int) + 1) = 6 by decide]
  refine gk_goto C (tgt := 63) dL_eight_93 (by decide) ?_
  refine gk_iload_n C dL_eight_63 rfl ?_
  refine gk_bipush C dL_eight_64 (by decide) ?_
  refine gk_icmp_ge C (tgt := 96) (by omega) (by omega) dL_eight_66 (by decide) (fun c_66 => ?_) (fun c_66 => ?_)
  · exact absurd c_66 (by omega)
  refine gk_aload_n C dL_eight_69 rfl ?_
  refine gk_iload_n C dL_eight_70 rfl ?_
  refine gk_iconst C dL_eight_71 ?_
  refine gk_irem C (by omega) (by omega) dL_eight_72 ?_
  rw [show ((6 : Int) % 4) = 2 by decide]
  refine gk_iload_n C dL_eight_73 rfl ?_
  refine gk_iconst C dL_eight_74 ?_
  refine gk_idiv C (by omega) (by omega) dL_eight_75 ?_
  rw [show ((6 : Int) / 4) = 1 by decide]
  refine gk_bipush C dL_eight_76 (by decide) ?_
  obtain ⟨σ17, e17, b17, hk17⟩ := chk_c hk16
  obtain ⟨fs17, ob17⟩ := H16.obj
  refine gk_callV C o_X4_mark k_L_71 dL_eight_78 (HC.dir (h_mark hfl H16 (j := (2)) (b := (1)) (m := (100)) (by omega) (by omega) (by omega)) e17 (by omega)) ob17 rfl rfl rfl ⟨Nat.le_of_ble_eq_true rfl, Nat.le_of_ble_eq_true rfl⟩ ⟨by show _ + 4 ≤ 2500; omega, by show _ + 24 ≤ 110000; omega⟩ (by exact Nat.le_of_ble_eq_true rfl) (fun _ _ z => z.elim) (fun v17 h17 p17 => ?_)
  obtain ⟨rfl, H17⟩ := p17
  dsimp only [gk_push]
  clear e17 ob17 H16 hk16 b16
  refine gk_bipush C dL_eight_81 (by decide) ?_
  refine gk_iload_n C dL_eight_83 rfl ?_
  refine gk_isub C dL_eight_84 ?_
  rw [show ((31 : Int) - 6) = 25 by decide]
  refine gk_icmp_eq C (tgt := 90) (by omega) (by omega) dL_eight_85 (by decide) (fun c_85 => ?_) (fun c_85 => ?_)
  rotate_left
  · exact absurd c_85 (by omega)
  refine gk_iinc_1 C rfl (by exact Nat.le_of_ble_eq_true rfl) dL_eight_90 ?_
  rw [show ((6 : Int) + 1) = 7 by decide]
  refine gk_goto C (tgt := 63) dL_eight_93 (by decide) ?_
  refine gk_iload_n C dL_eight_63 rfl ?_
  refine gk_bipush C dL_eight_64 (by decide) ?_
  refine gk_icmp_ge C (tgt := 96) (by omega) (by omega) dL_eight_66 (by decide) (fun c_66 => ?_) (fun c_66 => ?_)
  · exact absurd c_66 (by omega)
  refine gk_aload_n C dL_eight_69 rfl ?_
  refine gk_iload_n C dL_eight_70 rfl ?_
  refine gk_iconst C dL_eight_71 ?_
  refine gk_irem C (by omega) (by omega) dL_eight_72 ?_
  rw [show ((7 : Int) % 4) = 3 by decide]
  refine gk_iload_n C dL_eight_73 rfl ?_
  refine gk_iconst C dL_eight_74 ?_
  refine gk_idiv C (by omega) (by omega) dL_eight_75 ?_
  rw [show ((7 : Int) / 4) = 1 by decide]
  refine gk_bipush C dL_eight_76 (by decide) ?_
  obtain ⟨σ18, e18, b18, hk18⟩ := chk_c hk17
  obtain ⟨fs18, ob18⟩ := H17.obj
  refine gk_callV C o_X4_mark k_L_71 dL_eight_78 (HC.dir (h_mark hfl H17 (j := (3)) (b := (1)) (m := (100)) (by omega) (by omega) (by omega)) e18 (by omega)) ob18 rfl rfl rfl ⟨Nat.le_of_ble_eq_true rfl, Nat.le_of_ble_eq_true rfl⟩ ⟨by show _ + 4 ≤ 2500; omega, by show _ + 24 ≤ 110000; omega⟩ (by exact Nat.le_of_ble_eq_true rfl) (fun _ _ z => z.elim) (fun v18 h18 p18 => ?_)
  obtain ⟨rfl, H18⟩ := p18
  dsimp only [gk_push]
  clear e18 ob18 H17 hk17 b17
  refine gk_bipush C dL_eight_81 (by decide) ?_
  refine gk_iload_n C dL_eight_83 rfl ?_
  refine gk_isub C dL_eight_84 ?_
  rw [show ((31 : Int) - 7) = 24 by decide]
  refine gk_icmp_eq C (tgt := 90) (by omega) (by omega) dL_eight_85 (by decide) (fun c_85 => ?_) (fun c_85 => ?_)
  rotate_left
  · exact absurd c_85 (by omega)
  refine gk_iinc_1 C rfl (by exact Nat.le_of_ble_eq_true rfl) dL_eight_90 ?_
  rw [show ((7 : Int) + 1) = 8 by decide]
  refine gk_goto C (tgt := 63) dL_eight_93 (by decide) ?_
  refine gk_iload_n C dL_eight_63 rfl ?_
  refine gk_bipush C dL_eight_64 (by decide) ?_
  refine gk_icmp_ge C (tgt := 96) (by omega) (by omega) dL_eight_66 (by decide) (fun c_66 => ?_) (fun c_66 => ?_)
  · exact absurd c_66 (by omega)
  refine gk_aload_n C dL_eight_69 rfl ?_
  refine gk_iload_n C dL_eight_70 rfl ?_
  refine gk_iconst C dL_eight_71 ?_
  refine gk_irem C (by omega) (by omega) dL_eight_72 ?_
  rw [show ((8 : Int) % 4) = 0 by decide]
  refine gk_iload_n C dL_eight_73 rfl ?_
  refine gk_iconst C dL_eight_74 ?_
  refine gk_idiv C (by omega) (by omega) dL_eight_75 ?_
  rw [show ((8 : Int) / 4) = 2 by decide]
  refine gk_bipush C dL_eight_76 (by decide) ?_
  obtain ⟨σ19, e19, b19, hk19⟩ := chk_c hk18
  obtain ⟨fs19, ob19⟩ := H18.obj
  refine gk_callV C o_X4_mark k_L_71 dL_eight_78 (HC.dir (h_mark hfl H18 (j := (0)) (b := (2)) (m := (100)) (by omega) (by omega) (by omega)) e19 (by omega)) ob19 rfl rfl rfl ⟨Nat.le_of_ble_eq_true rfl, Nat.le_of_ble_eq_true rfl⟩ ⟨by show _ + 4 ≤ 2500; omega, by show _ + 24 ≤ 110000; omega⟩ (by exact Nat.le_of_ble_eq_true rfl) (fun _ _ z => z.elim) (fun v19 h19 p19 => ?_)
  obtain ⟨rfl, H19⟩ := p19
  dsimp only [gk_push]
  clear e19 ob19 H18 hk18 b18
  refine gk_bipush C dL_eight_81 (by decide) ?_
  refine gk_iload_n C dL_eight_83 rfl ?_
  refine gk_isub C dL_eight_84 ?_
  rw [show ((31 : Int) - 8) = 23 by decide]
  refine gk_icmp_eq C (tgt := 90) (by omega) (by omega) dL_eight_85 (by decide) (fun c_85 => ?_) (fun c_85 => ?_)
  rotate_left
  · exact absurd c_85 (by omega)
  refine gk_iinc_1 C rfl (by exact Nat.le_of_ble_eq_true rfl) dL_eight_90 ?_
  rw [show ((8 : Int) + 1) = 9 by decide]
  refine gk_goto C (tgt := 63) dL_eight_93 (by decide) ?_
  refine gk_iload_n C dL_eight_63 rfl ?_
  refine gk_bipush C dL_eight_64 (by decide) ?_
  refine gk_icmp_ge C (tgt := 96) (by omega) (by omega) dL_eight_66 (by decide) (fun c_66 => ?_) (fun c_66 => ?_)
  · exact absurd c_66 (by omega)
  refine gk_aload_n C dL_eight_69 rfl ?_
  refine gk_iload_n C dL_eight_70 rfl ?_
  refine gk_iconst C dL_eight_71 ?_
  refine gk_irem C (by omega) (by omega) dL_eight_72 ?_
  rw [show ((9 : Int) % 4) = 1 by decide]
  refine gk_iload_n C dL_eight_73 rfl ?_
  refine gk_iconst C dL_eight_74 ?_
  refine gk_idiv C (by omega) (by omega) dL_eight_75 ?_
  rw [show ((9 : Int) / 4) = 2 by decide]
  refine gk_bipush C dL_eight_76 (by decide) ?_
  obtain ⟨σ20, e20, b20, hk20⟩ := chk_c hk19
  obtain ⟨fs20, ob20⟩ := H19.obj
  refine gk_callV C o_X4_mark k_L_71 dL_eight_78 (HC.dir (h_mark hfl H19 (j := (1)) (b := (2)) (m := (100)) (by omega) (by omega) (by omega)) e20 (by omega)) ob20 rfl rfl rfl ⟨Nat.le_of_ble_eq_true rfl, Nat.le_of_ble_eq_true rfl⟩ ⟨by show _ + 4 ≤ 2500; omega, by show _ + 24 ≤ 110000; omega⟩ (by exact Nat.le_of_ble_eq_true rfl) (fun _ _ z => z.elim) (fun v20 h20 p20 => ?_)
  obtain ⟨rfl, H20⟩ := p20
  dsimp only [gk_push]
  clear e20 ob20 H19 hk19 b19
  refine gk_bipush C dL_eight_81 (by decide) ?_
  refine gk_iload_n C dL_eight_83 rfl ?_
  refine gk_isub C dL_eight_84 ?_
  rw [show ((31 : Int) - 9) = 22 by decide]
  refine gk_icmp_eq C (tgt := 90) (by omega) (by omega) dL_eight_85 (by decide) (fun c_85 => ?_) (fun c_85 => ?_)
  rotate_left
  · exact absurd c_85 (by omega)
  refine gk_iinc_1 C rfl (by exact Nat.le_of_ble_eq_true rfl) dL_eight_90 ?_
  rw [show ((9 : Int) + 1) = 10 by decide]
  refine gk_goto C (tgt := 63) dL_eight_93 (by decide) ?_
  refine gk_iload_n C dL_eight_63 rfl ?_
  refine gk_bipush C dL_eight_64 (by decide) ?_
  refine gk_icmp_ge C (tgt := 96) (by omega) (by omega) dL_eight_66 (by decide) (fun c_66 => ?_) (fun c_66 => ?_)
  · exact absurd c_66 (by omega)
  refine gk_aload_n C dL_eight_69 rfl ?_
  refine gk_iload_n C dL_eight_70 rfl ?_
  refine gk_iconst C dL_eight_71 ?_
  refine gk_irem C (by omega) (by omega) dL_eight_72 ?_
  rw [show ((10 : Int) % 4) = 2 by decide]
  refine gk_iload_n C dL_eight_73 rfl ?_
  refine gk_iconst C dL_eight_74 ?_
  refine gk_idiv C (by omega) (by omega) dL_eight_75 ?_
  rw [show ((10 : Int) / 4) = 2 by decide]
  refine gk_bipush C dL_eight_76 (by decide) ?_
  obtain ⟨σ21, e21, b21, hk21⟩ := chk_c hk20
  obtain ⟨fs21, ob21⟩ := H20.obj
  refine gk_callV C o_X4_mark k_L_71 dL_eight_78 (HC.dir (h_mark hfl H20 (j := (2)) (b := (2)) (m := (100)) (by omega) (by omega) (by omega)) e21 (by omega)) ob21 rfl rfl rfl ⟨Nat.le_of_ble_eq_true rfl, Nat.le_of_ble_eq_true rfl⟩ ⟨by show _ + 4 ≤ 2500; omega, by show _ + 24 ≤ 110000; omega⟩ (by exact Nat.le_of_ble_eq_true rfl) (fun _ _ z => z.elim) (fun v21 h21 p21 => ?_)
  obtain ⟨rfl, H21⟩ := p21
  dsimp only [gk_push]
  clear e21 ob21 H20 hk20 b20
  refine gk_bipush C dL_eight_81 (by decide) ?_
  refine gk_iload_n C dL_eight_83 rfl ?_
  refine gk_isub C dL_eight_84 ?_
  rw [show ((31 : Int) - 10) = 21 by decide]
  refine gk_icmp_eq C (tgt := 90) (by omega) (by omega) dL_eight_85 (by decide) (fun c_85 => ?_) (fun c_85 => ?_)
  rotate_left
  · exact absurd c_85 (by omega)
  refine gk_iinc_1 C rfl (by exact Nat.le_of_ble_eq_true rfl) dL_eight_90 ?_
  rw [show ((10 : Int) + 1) = 11 by decide]
  refine gk_goto C (tgt := 63) dL_eight_93 (by decide) ?_
  refine gk_iload_n C dL_eight_63 rfl ?_
  refine gk_bipush C dL_eight_64 (by decide) ?_
  refine gk_icmp_ge C (tgt := 96) (by omega) (by omega) dL_eight_66 (by decide) (fun c_66 => ?_) (fun c_66 => ?_)
  · exact absurd c_66 (by omega)
  refine gk_aload_n C dL_eight_69 rfl ?_
  refine gk_iload_n C dL_eight_70 rfl ?_
  refine gk_iconst C dL_eight_71 ?_
  refine gk_irem C (by omega) (by omega) dL_eight_72 ?_
  rw [show ((11 : Int) % 4) = 3 by decide]
  refine gk_iload_n C dL_eight_73 rfl ?_
  refine gk_iconst C dL_eight_74 ?_
  refine gk_idiv C (by omega) (by omega) dL_eight_75 ?_
  rw [show ((11 : Int) / 4) = 2 by decide]
  refine gk_bipush C dL_eight_76 (by decide) ?_
  obtain ⟨σ22, e22, b22, hk22⟩ := chk_c hk21
  obtain ⟨fs22, ob22⟩ := H21.obj
  refine gk_callV C o_X4_mark k_L_71 dL_eight_78 (HC.dir (h_mark hfl H21 (j := (3)) (b := (2)) (m := (100)) (by omega) (by omega) (by omega)) e22 (by omega)) ob22 rfl rfl rfl ⟨Nat.le_of_ble_eq_true rfl, Nat.le_of_ble_eq_true rfl⟩ ⟨by show _ + 4 ≤ 2500; omega, by show _ + 24 ≤ 110000; omega⟩ (by exact Nat.le_of_ble_eq_true rfl) (fun _ _ z => z.elim) (fun v22 h22 p22 => ?_)
  obtain ⟨rfl, H22⟩ := p22
  dsimp only [gk_push]
  clear e22 ob22 H21 hk21 b21
  refine gk_bipush C dL_eight_81 (by decide) ?_
  refine gk_iload_n C dL_eight_83 rfl ?_
  refine gk_isub C dL_eight_84 ?_
  rw [show ((31 : Int) - 11) = 20 by decide]
  refine gk_icmp_eq C (tgt := 90) (by omega) (by omega) dL_eight_85 (by decide) (fun c_85 => ?_) (fun c_85 => ?_)
  rotate_left
  · exact absurd c_85 (by omega)
  refine gk_iinc_1 C rfl (by exact Nat.le_of_ble_eq_true rfl) dL_eight_90 ?_
  rw [show ((11 : Int) + 1) = 12 by decide]
  refine gk_goto C (tgt := 63) dL_eight_93 (by decide) ?_
  refine gk_iload_n C dL_eight_63 rfl ?_
  refine gk_bipush C dL_eight_64 (by decide) ?_
  refine gk_icmp_ge C (tgt := 96) (by omega) (by omega) dL_eight_66 (by decide) (fun c_66 => ?_) (fun c_66 => ?_)
  · exact absurd c_66 (by omega)
  refine gk_aload_n C dL_eight_69 rfl ?_
  refine gk_iload_n C dL_eight_70 rfl ?_
  refine gk_iconst C dL_eight_71 ?_
  refine gk_irem C (by omega) (by omega) dL_eight_72 ?_
  rw [show ((12 : Int) % 4) = 0 by decide]
  refine gk_iload_n C dL_eight_73 rfl ?_
  refine gk_iconst C dL_eight_74 ?_
  refine gk_idiv C (by omega) (by omega) dL_eight_75 ?_
  rw [show ((12 : Int) / 4) = 3 by decide]
  refine gk_bipush C dL_eight_76 (by decide) ?_
  obtain ⟨σ23, e23, b23, hk23⟩ := chk_c hk22
  obtain ⟨fs23, ob23⟩ := H22.obj
  refine gk_callV C o_X4_mark k_L_71 dL_eight_78 (HC.dir (h_mark hfl H22 (j := (0)) (b := (3)) (m := (100)) (by omega) (by omega) (by omega)) e23 (by omega)) ob23 rfl rfl rfl ⟨Nat.le_of_ble_eq_true rfl, Nat.le_of_ble_eq_true rfl⟩ ⟨by show _ + 4 ≤ 2500; omega, by show _ + 24 ≤ 110000; omega⟩ (by exact Nat.le_of_ble_eq_true rfl) (fun _ _ z => z.elim) (fun v23 h23 p23 => ?_)
  obtain ⟨rfl, H23⟩ := p23
  dsimp only [gk_push]
  clear e23 ob23 H22 hk22 b22
  refine gk_bipush C dL_eight_81 (by decide) ?_
  refine gk_iload_n C dL_eight_83 rfl ?_
  refine gk_isub C dL_eight_84 ?_
  rw [show ((31 : Int) - 12) = 19 by decide]
  refine gk_icmp_eq C (tgt := 90) (by omega) (by omega) dL_eight_85 (by decide) (fun c_85 => ?_) (fun c_85 => ?_)
  rotate_left
  · exact absurd c_85 (by omega)
  refine gk_iinc_1 C rfl (by exact Nat.le_of_ble_eq_true rfl) dL_eight_90 ?_
  rw [show ((12 : Int) + 1) = 13 by decide]
  refine gk_goto C (tgt := 63) dL_eight_93 (by decide) ?_
  refine gk_iload_n C dL_eight_63 rfl ?_
  refine gk_bipush C dL_eight_64 (by decide) ?_
  refine gk_icmp_ge C (tgt := 96) (by omega) (by omega) dL_eight_66 (by decide) (fun c_66 => ?_) (fun c_66 => ?_)
  · exact absurd c_66 (by omega)
  refine gk_aload_n C dL_eight_69 rfl ?_
  refine gk_iload_n C dL_eight_70 rfl ?_
  refine gk_iconst C dL_eight_71 ?_
  refine gk_irem C (by omega) (by omega) dL_eight_72 ?_
  rw [show ((13 : Int) % 4) = 1 by decide]
  refine gk_iload_n C dL_eight_73 rfl ?_
  refine gk_iconst C dL_eight_74 ?_
  refine gk_idiv C (by omega) (by omega) dL_eight_75 ?_
  rw [show ((13 : Int) / 4) = 3 by decide]
  refine gk_bipush C dL_eight_76 (by decide) ?_
  obtain ⟨σ24, e24, b24, hk24⟩ := chk_c hk23
  obtain ⟨fs24, ob24⟩ := H23.obj
  refine gk_callV C o_X4_mark k_L_71 dL_eight_78 (HC.dir (h_mark hfl H23 (j := (1)) (b := (3)) (m := (100)) (by omega) (by omega) (by omega)) e24 (by omega)) ob24 rfl rfl rfl ⟨Nat.le_of_ble_eq_true rfl, Nat.le_of_ble_eq_true rfl⟩ ⟨by show _ + 4 ≤ 2500; omega, by show _ + 24 ≤ 110000; omega⟩ (by exact Nat.le_of_ble_eq_true rfl) (fun _ _ z => z.elim) (fun v24 h24 p24 => ?_)
  obtain ⟨rfl, H24⟩ := p24
  dsimp only [gk_push]
  clear e24 ob24 H23 hk23 b23
  refine gk_bipush C dL_eight_81 (by decide) ?_
  refine gk_iload_n C dL_eight_83 rfl ?_
  refine gk_isub C dL_eight_84 ?_
  rw [show ((31 : Int) - 13) = 18 by decide]
  refine gk_icmp_eq C (tgt := 90) (by omega) (by omega) dL_eight_85 (by decide) (fun c_85 => ?_) (fun c_85 => ?_)
  rotate_left
  · exact absurd c_85 (by omega)
  refine gk_iinc_1 C rfl (by exact Nat.le_of_ble_eq_true rfl) dL_eight_90 ?_
  rw [show ((13 : Int) + 1) = 14 by decide]
  refine gk_goto C (tgt := 63) dL_eight_93 (by decide) ?_
  refine gk_iload_n C dL_eight_63 rfl ?_
  refine gk_bipush C dL_eight_64 (by decide) ?_
  refine gk_icmp_ge C (tgt := 96) (by omega) (by omega) dL_eight_66 (by decide) (fun c_66 => ?_) (fun c_66 => ?_)
  · exact absurd c_66 (by omega)
  refine gk_aload_n C dL_eight_69 rfl ?_
  refine gk_iload_n C dL_eight_70 rfl ?_
  refine gk_iconst C dL_eight_71 ?_
  refine gk_irem C (by omega) (by omega) dL_eight_72 ?_
  rw [show ((14 : Int) % 4) = 2 by decide]
  refine gk_iload_n C dL_eight_73 rfl ?_
  refine gk_iconst C dL_eight_74 ?_
  refine gk_idiv C (by omega) (by omega) dL_eight_75 ?_
  rw [show ((14 : Int) / 4) = 3 by decide]
  refine gk_bipush C dL_eight_76 (by decide) ?_
  obtain ⟨σ25, e25, b25, hk25⟩ := chk_c hk24
  obtain ⟨fs25, ob25⟩ := H24.obj
  refine gk_callV C o_X4_mark k_L_71 dL_eight_78 (HC.dir (h_mark hfl H24 (j := (2)) (b := (3)) (m := (100)) (by omega) (by omega) (by omega)) e25 (by omega)) ob25 rfl rfl rfl ⟨Nat.le_of_ble_eq_true rfl, Nat.le_of_ble_eq_true rfl⟩ ⟨by show _ + 4 ≤ 2500; omega, by show _ + 24 ≤ 110000; omega⟩ (by exact Nat.le_of_ble_eq_true rfl) (fun _ _ z => z.elim) (fun v25 h25 p25 => ?_)
  obtain ⟨rfl, H25⟩ := p25
  dsimp only [gk_push]
  clear e25 ob25 H24 hk24 b24
  refine gk_bipush C dL_eight_81 (by decide) ?_
  refine gk_iload_n C dL_eight_83 rfl ?_
  refine gk_isub C dL_eight_84 ?_
  rw [show ((31 : Int) - 14) = 17 by decide]
  refine gk_icmp_eq C (tgt := 90) (by omega) (by omega) dL_eight_85 (by decide) (fun c_85 => ?_) (fun c_85 => ?_)
  rotate_left
  · exact absurd c_85 (by omega)
  refine gk_iinc_1 C rfl (by exact Nat.le_of_ble_eq_true rfl) dL_eight_90 ?_
  rw [show ((14 : Int) + 1) = 15 by decide]
  refine gk_goto C (tgt := 63) dL_eight_93 (by decide) ?_
  refine gk_iload_n C dL_eight_63 rfl ?_
  refine gk_bipush C dL_eight_64 (by decide) ?_
  refine gk_icmp_ge C (tgt := 96) (by omega) (by omega) dL_eight_66 (by decide) (fun c_66 => ?_) (fun c_66 => ?_)
  · exact absurd c_66 (by omega)
  refine gk_aload_n C dL_eight_69 rfl ?_
  refine gk_iload_n C dL_eight_70 rfl ?_
  refine gk_iconst C dL_eight_71 ?_
  refine gk_irem C (by omega) (by omega) dL_eight_72 ?_
  rw [show ((15 : Int) % 4) = 3 by decide]
  refine gk_iload_n C dL_eight_73 rfl ?_
  refine gk_iconst C dL_eight_74 ?_
  refine gk_idiv C (by omega) (by omega) dL_eight_75 ?_
  rw [show ((15 : Int) / 4) = 3 by decide]
  refine gk_bipush C dL_eight_76 (by decide) ?_
  obtain ⟨σ26, e26, b26, hk26⟩ := chk_c hk25
  obtain ⟨fs26, ob26⟩ := H25.obj
  refine gk_callV C o_X4_mark k_L_71 dL_eight_78 (HC.dir (h_mark hfl H25 (j := (3)) (b := (3)) (m := (100)) (by omega) (by omega) (by omega)) e26 (by omega)) ob26 rfl rfl rfl ⟨Nat.le_of_ble_eq_true rfl, Nat.le_of_ble_eq_true rfl⟩ ⟨by show _ + 4 ≤ 2500; omega, by show _ + 24 ≤ 110000; omega⟩ (by exact Nat.le_of_ble_eq_true rfl) (fun _ _ z => z.elim) (fun v26 h26 p26 => ?_)
  obtain ⟨rfl, H26⟩ := p26
  dsimp only [gk_push]
  clear e26 ob26 H25 hk25 b25
  refine gk_bipush C dL_eight_81 (by decide) ?_
  refine gk_iload_n C dL_eight_83 rfl ?_
  refine gk_isub C dL_eight_84 ?_
  rw [show ((31 : Int) - 15) = 16 by decide]
  refine gk_icmp_eq C (tgt := 90) (by omega) (by omega) dL_eight_85 (by decide) (fun c_85 => ?_) (fun c_85 => ?_)
  rotate_left
  · exact absurd c_85 (by omega)
  refine gk_iinc_1 C rfl (by exact Nat.le_of_ble_eq_true rfl) dL_eight_90 ?_
  rw [show ((15 : Int) + 1) = 16 by decide]
  refine gk_goto C (tgt := 63) dL_eight_93 (by decide) ?_
  refine gk_iload_n C dL_eight_63 rfl ?_
  refine gk_bipush C dL_eight_64 (by decide) ?_
  refine gk_icmp_ge C (tgt := 96) (by omega) (by omega) dL_eight_66 (by decide) (fun c_66 => ?_) (fun c_66 => ?_)
  · exact absurd c_66 (by omega)
  refine gk_aload_n C dL_eight_69 rfl ?_
  refine gk_iload_n C dL_eight_70 rfl ?_
  refine gk_iconst C dL_eight_71 ?_
  refine gk_irem C (by omega) (by omega) dL_eight_72 ?_
  rw [show ((16 : Int) % 4) = 0 by decide]
  refine gk_iload_n C dL_eight_73 rfl ?_
  refine gk_iconst C dL_eight_74 ?_
  refine gk_idiv C (by omega) (by omega) dL_eight_75 ?_
  rw [show ((16 : Int) / 4) = 4 by decide]
  refine gk_bipush C dL_eight_76 (by decide) ?_
  obtain ⟨σ27, e27, b27, hk27⟩ := chk_c hk26
  obtain ⟨fs27, ob27⟩ := H26.obj
  refine gk_callV C o_X4_mark k_L_71 dL_eight_78 (HC.dir (h_mark hfl H26 (j := (0)) (b := (4)) (m := (100)) (by omega) (by omega) (by omega)) e27 (by omega)) ob27 rfl rfl rfl ⟨Nat.le_of_ble_eq_true rfl, Nat.le_of_ble_eq_true rfl⟩ ⟨by show _ + 4 ≤ 2500; omega, by show _ + 24 ≤ 110000; omega⟩ (by exact Nat.le_of_ble_eq_true rfl) (fun _ _ z => z.elim) (fun v27 h27 p27 => ?_)
  obtain ⟨rfl, H27⟩ := p27
  dsimp only [gk_push]
  clear e27 ob27 H26 hk26 b26
  refine gk_bipush C dL_eight_81 (by decide) ?_
  refine gk_iload_n C dL_eight_83 rfl ?_
  refine gk_isub C dL_eight_84 ?_
  rw [show ((31 : Int) - 16) = 15 by decide]
  refine gk_icmp_eq C (tgt := 90) (by omega) (by omega) dL_eight_85 (by decide) (fun c_85 => ?_) (fun c_85 => ?_)
  rotate_left
  · exact absurd c_85 (by omega)
  refine gk_iinc_1 C rfl (by exact Nat.le_of_ble_eq_true rfl) dL_eight_90 ?_
  rw [show ((16 : Int) + 1) = 17 by decide]
  refine gk_goto C (tgt := 63) dL_eight_93 (by decide) ?_
  refine gk_iload_n C dL_eight_63 rfl ?_
  refine gk_bipush C dL_eight_64 (by decide) ?_
  refine gk_icmp_ge C (tgt := 96) (by omega) (by omega) dL_eight_66 (by decide) (fun c_66 => ?_) (fun c_66 => ?_)
  · exact absurd c_66 (by omega)
  refine gk_aload_n C dL_eight_69 rfl ?_
  refine gk_iload_n C dL_eight_70 rfl ?_
  refine gk_iconst C dL_eight_71 ?_
  refine gk_irem C (by omega) (by omega) dL_eight_72 ?_
  rw [show ((17 : Int) % 4) = 1 by decide]
  refine gk_iload_n C dL_eight_73 rfl ?_
  refine gk_iconst C dL_eight_74 ?_
  refine gk_idiv C (by omega) (by omega) dL_eight_75 ?_
  rw [show ((17 : Int) / 4) = 4 by decide]
  refine gk_bipush C dL_eight_76 (by decide) ?_
  obtain ⟨σ28, e28, b28, hk28⟩ := chk_c hk27
  obtain ⟨fs28, ob28⟩ := H27.obj
  refine gk_callV C o_X4_mark k_L_71 dL_eight_78 (HC.dir (h_mark hfl H27 (j := (1)) (b := (4)) (m := (100)) (by omega) (by omega) (by omega)) e28 (by omega)) ob28 rfl rfl rfl ⟨Nat.le_of_ble_eq_true rfl, Nat.le_of_ble_eq_true rfl⟩ ⟨by show _ + 4 ≤ 2500; omega, by show _ + 24 ≤ 110000; omega⟩ (by exact Nat.le_of_ble_eq_true rfl) (fun _ _ z => z.elim) (fun v28 h28 p28 => ?_)
  obtain ⟨rfl, H28⟩ := p28
  dsimp only [gk_push]
  clear e28 ob28 H27 hk27 b27
  refine gk_bipush C dL_eight_81 (by decide) ?_
  refine gk_iload_n C dL_eight_83 rfl ?_
  refine gk_isub C dL_eight_84 ?_
  rw [show ((31 : Int) - 17) = 14 by decide]
  refine gk_icmp_eq C (tgt := 90) (by omega) (by omega) dL_eight_85 (by decide) (fun c_85 => ?_) (fun c_85 => ?_)
  rotate_left
  · exact absurd c_85 (by omega)
  refine gk_iinc_1 C rfl (by exact Nat.le_of_ble_eq_true rfl) dL_eight_90 ?_
  rw [show ((17 : Int) + 1) = 18 by decide]
  refine gk_goto C (tgt := 63) dL_eight_93 (by decide) ?_
  refine gk_iload_n C dL_eight_63 rfl ?_
  refine gk_bipush C dL_eight_64 (by decide) ?_
  refine gk_icmp_ge C (tgt := 96) (by omega) (by omega) dL_eight_66 (by decide) (fun c_66 => ?_) (fun c_66 => ?_)
  · exact absurd c_66 (by omega)
  refine gk_aload_n C dL_eight_69 rfl ?_
  refine gk_iload_n C dL_eight_70 rfl ?_
  refine gk_iconst C dL_eight_71 ?_
  refine gk_irem C (by omega) (by omega) dL_eight_72 ?_
  rw [show ((18 : Int) % 4) = 2 by decide]
  refine gk_iload_n C dL_eight_73 rfl ?_
  refine gk_iconst C dL_eight_74 ?_
  refine gk_idiv C (by omega) (by omega) dL_eight_75 ?_
  rw [show ((18 : Int) / 4) = 4 by decide]
  refine gk_bipush C dL_eight_76 (by decide) ?_
  obtain ⟨σ29, e29, b29, hk29⟩ := chk_c hk28
  obtain ⟨fs29, ob29⟩ := H28.obj
  refine gk_callV C o_X4_mark k_L_71 dL_eight_78 (HC.dir (h_mark hfl H28 (j := (2)) (b := (4)) (m := (100)) (by omega) (by omega) (by omega)) e29 (by omega)) ob29 rfl rfl rfl ⟨Nat.le_of_ble_eq_true rfl, Nat.le_of_ble_eq_true rfl⟩ ⟨by show _ + 4 ≤ 2500; omega, by show _ + 24 ≤ 110000; omega⟩ (by exact Nat.le_of_ble_eq_true rfl) (fun _ _ z => z.elim) (fun v29 h29 p29 => ?_)
  obtain ⟨rfl, H29⟩ := p29
  dsimp only [gk_push]
  clear e29 ob29 H28 hk28 b28
  refine gk_bipush C dL_eight_81 (by decide) ?_
  refine gk_iload_n C dL_eight_83 rfl ?_
  refine gk_isub C dL_eight_84 ?_
  rw [show ((31 : Int) - 18) = 13 by decide]
  refine gk_icmp_eq C (tgt := 90) (by omega) (by omega) dL_eight_85 (by decide) (fun c_85 => ?_) (fun c_85 => ?_)
  rotate_left
  · exact absurd c_85 (by omega)
  refine gk_iinc_1 C rfl (by exact Nat.le_of_ble_eq_true rfl) dL_eight_90 ?_
  rw [show ((18 : Int) + 1) = 19 by decide]
  refine gk_goto C (tgt := 63) dL_eight_93 (by decide) ?_
  refine gk_iload_n C dL_eight_63 rfl ?_
  refine gk_bipush C dL_eight_64 (by decide) ?_
  refine gk_icmp_ge C (tgt := 96) (by omega) (by omega) dL_eight_66 (by decide) (fun c_66 => ?_) (fun c_66 => ?_)
  · exact absurd c_66 (by omega)
  refine gk_aload_n C dL_eight_69 rfl ?_
  refine gk_iload_n C dL_eight_70 rfl ?_
  refine gk_iconst C dL_eight_71 ?_
  refine gk_irem C (by omega) (by omega) dL_eight_72 ?_
  rw [show ((19 : Int) % 4) = 3 by decide]
  refine gk_iload_n C dL_eight_73 rfl ?_
  refine gk_iconst C dL_eight_74 ?_
  refine gk_idiv C (by omega) (by omega) dL_eight_75 ?_
  rw [show ((19 : Int) / 4) = 4 by decide]
  refine gk_bipush C dL_eight_76 (by decide) ?_
  obtain ⟨σ30, e30, b30, hk30⟩ := chk_c hk29
  obtain ⟨fs30, ob30⟩ := H29.obj
  refine gk_callV C o_X4_mark k_L_71 dL_eight_78 (HC.dir (h_mark hfl H29 (j := (3)) (b := (4)) (m := (100)) (by omega) (by omega) (by omega)) e30 (by omega)) ob30 rfl rfl rfl ⟨Nat.le_of_ble_eq_true rfl, Nat.le_of_ble_eq_true rfl⟩ ⟨by show _ + 4 ≤ 2500; omega, by show _ + 24 ≤ 110000; omega⟩ (by exact Nat.le_of_ble_eq_true rfl) (fun _ _ z => z.elim) (fun v30 h30 p30 => ?_)
  obtain ⟨rfl, H30⟩ := p30
  dsimp only [gk_push]
  clear e30 ob30 H29 hk29 b29
  refine gk_bipush C dL_eight_81 (by decide) ?_
  refine gk_iload_n C dL_eight_83 rfl ?_
  refine gk_isub C dL_eight_84 ?_
  rw [show ((31 : Int) - 19) = 12 by decide]
  refine gk_icmp_eq C (tgt := 90) (by omega) (by omega) dL_eight_85 (by decide) (fun c_85 => ?_) (fun c_85 => ?_)
  rotate_left
  · exact absurd c_85 (by omega)
  refine gk_iinc_1 C rfl (by exact Nat.le_of_ble_eq_true rfl) dL_eight_90 ?_
  rw [show ((19 : Int) + 1) = 20 by decide]
  refine gk_goto C (tgt := 63) dL_eight_93 (by decide) ?_
  refine gk_iload_n C dL_eight_63 rfl ?_
  refine gk_bipush C dL_eight_64 (by decide) ?_
  refine gk_icmp_ge C (tgt := 96) (by omega) (by omega) dL_eight_66 (by decide) (fun c_66 => ?_) (fun c_66 => ?_)
  · exact absurd c_66 (by omega)
  refine gk_aload_n C dL_eight_69 rfl ?_
  refine gk_iload_n C dL_eight_70 rfl ?_
  refine gk_iconst C dL_eight_71 ?_
  refine gk_irem C (by omega) (by omega) dL_eight_72 ?_
  rw [show ((20 : Int) % 4) = 0 by decide]
  refine gk_iload_n C dL_eight_73 rfl ?_
  refine gk_iconst C dL_eight_74 ?_
  refine gk_idiv C (by omega) (by omega) dL_eight_75 ?_
  rw [show ((20 : Int) / 4) = 5 by decide]
  refine gk_bipush C dL_eight_76 (by decide) ?_
  obtain ⟨σ31, e31, b31, hk31⟩ := chk_c hk30
  obtain ⟨fs31, ob31⟩ := H30.obj
  refine gk_callV C o_X4_mark k_L_71 dL_eight_78 (HC.dir (h_mark hfl H30 (j := (0)) (b := (5)) (m := (100)) (by omega) (by omega) (by omega)) e31 (by omega)) ob31 rfl rfl rfl ⟨Nat.le_of_ble_eq_true rfl, Nat.le_of_ble_eq_true rfl⟩ ⟨by show _ + 4 ≤ 2500; omega, by show _ + 24 ≤ 110000; omega⟩ (by exact Nat.le_of_ble_eq_true rfl) (fun _ _ z => z.elim) (fun v31 h31 p31 => ?_)
  obtain ⟨rfl, H31⟩ := p31
  dsimp only [gk_push]
  clear e31 ob31 H30 hk30 b30
  refine gk_bipush C dL_eight_81 (by decide) ?_
  refine gk_iload_n C dL_eight_83 rfl ?_
  refine gk_isub C dL_eight_84 ?_
  rw [show ((31 : Int) - 20) = 11 by decide]
  refine gk_icmp_eq C (tgt := 90) (by omega) (by omega) dL_eight_85 (by decide) (fun c_85 => ?_) (fun c_85 => ?_)
  rotate_left
  · exact absurd c_85 (by omega)
  refine gk_iinc_1 C rfl (by exact Nat.le_of_ble_eq_true rfl) dL_eight_90 ?_
  rw [show ((20 : Int) + 1) = 21 by decide]
  refine gk_goto C (tgt := 63) dL_eight_93 (by decide) ?_
  refine gk_iload_n C dL_eight_63 rfl ?_
  refine gk_bipush C dL_eight_64 (by decide) ?_
  refine gk_icmp_ge C (tgt := 96) (by omega) (by omega) dL_eight_66 (by decide) (fun c_66 => ?_) (fun c_66 => ?_)
  · exact absurd c_66 (by omega)
  refine gk_aload_n C dL_eight_69 rfl ?_
  refine gk_iload_n C dL_eight_70 rfl ?_
  refine gk_iconst C dL_eight_71 ?_
  refine gk_irem C (by omega) (by omega) dL_eight_72 ?_
  rw [show ((21 : Int) % 4) = 1 by decide]
  refine gk_iload_n C dL_eight_73 rfl ?_
  refine gk_iconst C dL_eight_74 ?_
  refine gk_idiv C (by omega) (by omega) dL_eight_75 ?_
  rw [show ((21 : Int) / 4) = 5 by decide]
  refine gk_bipush C dL_eight_76 (by decide) ?_
  obtain ⟨σ32, e32, b32, hk32⟩ := chk_c hk31
  obtain ⟨fs32, ob32⟩ := H31.obj
  refine gk_callV C o_X4_mark k_L_71 dL_eight_78 (HC.dir (h_mark hfl H31 (j := (1)) (b := (5)) (m := (100)) (by omega) (by omega) (by omega)) e32 (by omega)) ob32 rfl rfl rfl ⟨Nat.le_of_ble_eq_true rfl, Nat.le_of_ble_eq_true rfl⟩ ⟨by show _ + 4 ≤ 2500; omega, by show _ + 24 ≤ 110000; omega⟩ (by exact Nat.le_of_ble_eq_true rfl) (fun _ _ z => z.elim) (fun v32 h32 p32 => ?_)
  obtain ⟨rfl, H32⟩ := p32
  dsimp only [gk_push]
  clear e32 ob32 H31 hk31 b31
  refine gk_bipush C dL_eight_81 (by decide) ?_
  refine gk_iload_n C dL_eight_83 rfl ?_
  refine gk_isub C dL_eight_84 ?_
  rw [show ((31 : Int) - 21) = 10 by decide]
  refine gk_icmp_eq C (tgt := 90) (by omega) (by omega) dL_eight_85 (by decide) (fun c_85 => ?_) (fun c_85 => ?_)
  rotate_left
  · exact absurd c_85 (by omega)
  refine gk_iinc_1 C rfl (by exact Nat.le_of_ble_eq_true rfl) dL_eight_90 ?_
  rw [show ((21 : Int) + 1) = 22 by decide]
  refine gk_goto C (tgt := 63) dL_eight_93 (by decide) ?_
  refine gk_iload_n C dL_eight_63 rfl ?_
  refine gk_bipush C dL_eight_64 (by decide) ?_
  refine gk_icmp_ge C (tgt := 96) (by omega) (by omega) dL_eight_66 (by decide) (fun c_66 => ?_) (fun c_66 => ?_)
  · exact absurd c_66 (by omega)
  refine gk_aload_n C dL_eight_69 rfl ?_
  refine gk_iload_n C dL_eight_70 rfl ?_
  refine gk_iconst C dL_eight_71 ?_
  refine gk_irem C (by omega) (by omega) dL_eight_72 ?_
  rw [show ((22 : Int) % 4) = 2 by decide]
  refine gk_iload_n C dL_eight_73 rfl ?_
  refine gk_iconst C dL_eight_74 ?_
  refine gk_idiv C (by omega) (by omega) dL_eight_75 ?_
  rw [show ((22 : Int) / 4) = 5 by decide]
  refine gk_bipush C dL_eight_76 (by decide) ?_
  obtain ⟨σ33, e33, b33, hk33⟩ := chk_c hk32
  obtain ⟨fs33, ob33⟩ := H32.obj
  refine gk_callV C o_X4_mark k_L_71 dL_eight_78 (HC.dir (h_mark hfl H32 (j := (2)) (b := (5)) (m := (100)) (by omega) (by omega) (by omega)) e33 (by omega)) ob33 rfl rfl rfl ⟨Nat.le_of_ble_eq_true rfl, Nat.le_of_ble_eq_true rfl⟩ ⟨by show _ + 4 ≤ 2500; omega, by show _ + 24 ≤ 110000; omega⟩ (by exact Nat.le_of_ble_eq_true rfl) (fun _ _ z => z.elim) (fun v33 h33 p33 => ?_)
  obtain ⟨rfl, H33⟩ := p33
  dsimp only [gk_push]
  clear e33 ob33 H32 hk32 b32
  refine gk_bipush C dL_eight_81 (by decide) ?_
  refine gk_iload_n C dL_eight_83 rfl ?_
  refine gk_isub C dL_eight_84 ?_
  rw [show ((31 : Int) - 22) = 9 by decide]
  refine gk_icmp_eq C (tgt := 90) (by omega) (by omega) dL_eight_85 (by decide) (fun c_85 => ?_) (fun c_85 => ?_)
  rotate_left
  · exact absurd c_85 (by omega)
  refine gk_iinc_1 C rfl (by exact Nat.le_of_ble_eq_true rfl) dL_eight_90 ?_
  rw [show ((22 : Int) + 1) = 23 by decide]
  refine gk_goto C (tgt := 63) dL_eight_93 (by decide) ?_
  refine gk_iload_n C dL_eight_63 rfl ?_
  refine gk_bipush C dL_eight_64 (by decide) ?_
  refine gk_icmp_ge C (tgt := 96) (by omega) (by omega) dL_eight_66 (by decide) (fun c_66 => ?_) (fun c_66 => ?_)
  · exact absurd c_66 (by omega)
  refine gk_aload_n C dL_eight_69 rfl ?_
  refine gk_iload_n C dL_eight_70 rfl ?_
  refine gk_iconst C dL_eight_71 ?_
  refine gk_irem C (by omega) (by omega) dL_eight_72 ?_
  rw [show ((23 : Int) % 4) = 3 by decide]
  refine gk_iload_n C dL_eight_73 rfl ?_
  refine gk_iconst C dL_eight_74 ?_
  refine gk_idiv C (by omega) (by omega) dL_eight_75 ?_
  rw [show ((23 : Int) / 4) = 5 by decide]
  refine gk_bipush C dL_eight_76 (by decide) ?_
  obtain ⟨σ34, e34, b34, hk34⟩ := chk_c hk33
  obtain ⟨fs34, ob34⟩ := H33.obj
  refine gk_callV C o_X4_mark k_L_71 dL_eight_78 (HC.dir (h_mark hfl H33 (j := (3)) (b := (5)) (m := (100)) (by omega) (by omega) (by omega)) e34 (by omega)) ob34 rfl rfl rfl ⟨Nat.le_of_ble_eq_true rfl, Nat.le_of_ble_eq_true rfl⟩ ⟨by show _ + 4 ≤ 2500; omega, by show _ + 24 ≤ 110000; omega⟩ (by exact Nat.le_of_ble_eq_true rfl) (fun _ _ z => z.elim) (fun v34 h34 p34 => ?_)
  obtain ⟨rfl, H34⟩ := p34
  dsimp only [gk_push]
  clear e34 ob34 H33 hk33 b33
  refine gk_bipush C dL_eight_81 (by decide) ?_
  refine gk_iload_n C dL_eight_83 rfl ?_
  refine gk_isub C dL_eight_84 ?_
  rw [show ((31 : Int) - 23) = 8 by decide]
  refine gk_icmp_eq C (tgt := 90) (by omega) (by omega) dL_eight_85 (by decide) (fun c_85 => ?_) (fun c_85 => ?_)
  rotate_left
  · exact absurd c_85 (by omega)
  refine gk_iinc_1 C rfl (by exact Nat.le_of_ble_eq_true rfl) dL_eight_90 ?_
  rw [show ((23 : Int) + 1) = 24 by decide]
  refine gk_goto C (tgt := 63) dL_eight_93 (by decide) ?_
  refine gk_iload_n C dL_eight_63 rfl ?_
  refine gk_bipush C dL_eight_64 (by decide) ?_
  refine gk_icmp_ge C (tgt := 96) (by omega) (by omega) dL_eight_66 (by decide) (fun c_66 => ?_) (fun c_66 => ?_)
  · exact absurd c_66 (by omega)
  refine gk_aload_n C dL_eight_69 rfl ?_
  refine gk_iload_n C dL_eight_70 rfl ?_
  refine gk_iconst C dL_eight_71 ?_
  refine gk_irem C (by omega) (by omega) dL_eight_72 ?_
  rw [show ((24 : Int) % 4) = 0 by decide]
  refine gk_iload_n C dL_eight_73 rfl ?_
  refine gk_iconst C dL_eight_74 ?_
  refine gk_idiv C (by omega) (by omega) dL_eight_75 ?_
  rw [show ((24 : Int) / 4) = 6 by decide]
  refine gk_bipush C dL_eight_76 (by decide) ?_
  obtain ⟨σ35, e35, b35, hk35⟩ := chk_c hk34
  obtain ⟨fs35, ob35⟩ := H34.obj
  refine gk_callV C o_X4_mark k_L_71 dL_eight_78 (HC.dir (h_mark hfl H34 (j := (0)) (b := (6)) (m := (100)) (by omega) (by omega) (by omega)) e35 (by omega)) ob35 rfl rfl rfl ⟨Nat.le_of_ble_eq_true rfl, Nat.le_of_ble_eq_true rfl⟩ ⟨by show _ + 4 ≤ 2500; omega, by show _ + 24 ≤ 110000; omega⟩ (by exact Nat.le_of_ble_eq_true rfl) (fun _ _ z => z.elim) (fun v35 h35 p35 => ?_)
  obtain ⟨rfl, H35⟩ := p35
  dsimp only [gk_push]
  clear e35 ob35 H34 hk34 b34
  refine gk_bipush C dL_eight_81 (by decide) ?_
  refine gk_iload_n C dL_eight_83 rfl ?_
  refine gk_isub C dL_eight_84 ?_
  rw [show ((31 : Int) - 24) = 7 by decide]
  refine gk_icmp_eq C (tgt := 90) (by omega) (by omega) dL_eight_85 (by decide) (fun c_85 => ?_) (fun c_85 => ?_)
  rotate_left
  · exact absurd c_85 (by omega)
  refine gk_iinc_1 C rfl (by exact Nat.le_of_ble_eq_true rfl) dL_eight_90 ?_
  rw [show ((24 : Int) + 1) = 25 by decide]
  refine gk_goto C (tgt := 63) dL_eight_93 (by decide) ?_
  refine gk_iload_n C dL_eight_63 rfl ?_
  refine gk_bipush C dL_eight_64 (by decide) ?_
  refine gk_icmp_ge C (tgt := 96) (by omega) (by omega) dL_eight_66 (by decide) (fun c_66 => ?_) (fun c_66 => ?_)
  · exact absurd c_66 (by omega)
  refine gk_aload_n C dL_eight_69 rfl ?_
  refine gk_iload_n C dL_eight_70 rfl ?_
  refine gk_iconst C dL_eight_71 ?_
  refine gk_irem C (by omega) (by omega) dL_eight_72 ?_
  rw [show ((25 : Int) % 4) = 1 by decide]
  refine gk_iload_n C dL_eight_73 rfl ?_
  refine gk_iconst C dL_eight_74 ?_
  refine gk_idiv C (by omega) (by omega) dL_eight_75 ?_
  rw [show ((25 : Int) / 4) = 6 by decide]
  refine gk_bipush C dL_eight_76 (by decide) ?_
  obtain ⟨σ36, e36, b36, hk36⟩ := chk_c hk35
  obtain ⟨fs36, ob36⟩ := H35.obj
  refine gk_callV C o_X4_mark k_L_71 dL_eight_78 (HC.dir (h_mark hfl H35 (j := (1)) (b := (6)) (m := (100)) (by omega) (by omega) (by omega)) e36 (by omega)) ob36 rfl rfl rfl ⟨Nat.le_of_ble_eq_true rfl, Nat.le_of_ble_eq_true rfl⟩ ⟨by show _ + 4 ≤ 2500; omega, by show _ + 24 ≤ 110000; omega⟩ (by exact Nat.le_of_ble_eq_true rfl) (fun _ _ z => z.elim) (fun v36 h36 p36 => ?_)
  obtain ⟨rfl, H36⟩ := p36
  dsimp only [gk_push]
  clear e36 ob36 H35 hk35 b35
  refine gk_bipush C dL_eight_81 (by decide) ?_
  refine gk_iload_n C dL_eight_83 rfl ?_
  refine gk_isub C dL_eight_84 ?_
  rw [show ((31 : Int) - 25) = 6 by decide]
  refine gk_icmp_eq C (tgt := 90) (by omega) (by omega) dL_eight_85 (by decide) (fun c_85 => ?_) (fun c_85 => ?_)
  rotate_left
  · exact absurd c_85 (by omega)
  refine gk_iinc_1 C rfl (by exact Nat.le_of_ble_eq_true rfl) dL_eight_90 ?_
  rw [show ((25 : Int) + 1) = 26 by decide]
  refine gk_goto C (tgt := 63) dL_eight_93 (by decide) ?_
  refine gk_iload_n C dL_eight_63 rfl ?_
  refine gk_bipush C dL_eight_64 (by decide) ?_
  refine gk_icmp_ge C (tgt := 96) (by omega) (by omega) dL_eight_66 (by decide) (fun c_66 => ?_) (fun c_66 => ?_)
  · exact absurd c_66 (by omega)
  refine gk_aload_n C dL_eight_69 rfl ?_
  refine gk_iload_n C dL_eight_70 rfl ?_
  refine gk_iconst C dL_eight_71 ?_
  refine gk_irem C (by omega) (by omega) dL_eight_72 ?_
  rw [show ((26 : Int) % 4) = 2 by decide]
  refine gk_iload_n C dL_eight_73 rfl ?_
  refine gk_iconst C dL_eight_74 ?_
  refine gk_idiv C (by omega) (by omega) dL_eight_75 ?_
  rw [show ((26 : Int) / 4) = 6 by decide]
  refine gk_bipush C dL_eight_76 (by decide) ?_
  obtain ⟨σ37, e37, b37, hk37⟩ := chk_c hk36
  obtain ⟨fs37, ob37⟩ := H36.obj
  refine gk_callV C o_X4_mark k_L_71 dL_eight_78 (HC.dir (h_mark hfl H36 (j := (2)) (b := (6)) (m := (100)) (by omega) (by omega) (by omega)) e37 (by omega)) ob37 rfl rfl rfl ⟨Nat.le_of_ble_eq_true rfl, Nat.le_of_ble_eq_true rfl⟩ ⟨by show _ + 4 ≤ 2500; omega, by show _ + 24 ≤ 110000; omega⟩ (by exact Nat.le_of_ble_eq_true rfl) (fun _ _ z => z.elim) (fun v37 h37 p37 => ?_)
  obtain ⟨rfl, H37⟩ := p37
  dsimp only [gk_push]
  clear e37 ob37 H36 hk36 b36
  refine gk_bipush C dL_eight_81 (by decide) ?_
  refine gk_iload_n C dL_eight_83 rfl ?_
  refine gk_isub C dL_eight_84 ?_
  rw [show ((31 : Int) - 26) = 5 by decide]
  refine gk_icmp_eq C (tgt := 90) (by omega) (by omega) dL_eight_85 (by decide) (fun c_85 => ?_) (fun c_85 => ?_)
  rotate_left
  · exact absurd c_85 (by omega)
  refine gk_iinc_1 C rfl (by exact Nat.le_of_ble_eq_true rfl) dL_eight_90 ?_
  rw [show ((26 : Int) + 1) = 27 by decide]
  refine gk_goto C (tgt := 63) dL_eight_93 (by decide) ?_
  refine gk_iload_n C dL_eight_63 rfl ?_
  refine gk_bipush C dL_eight_64 (by decide) ?_
  refine gk_icmp_ge C (tgt := 96) (by omega) (by omega) dL_eight_66 (by decide) (fun c_66 => ?_) (fun c_66 => ?_)
  · exact absurd c_66 (by omega)
  refine gk_aload_n C dL_eight_69 rfl ?_
  refine gk_iload_n C dL_eight_70 rfl ?_
  refine gk_iconst C dL_eight_71 ?_
  refine gk_irem C (by omega) (by omega) dL_eight_72 ?_
  rw [show ((27 : Int) % 4) = 3 by decide]
  refine gk_iload_n C dL_eight_73 rfl ?_
  refine gk_iconst C dL_eight_74 ?_
  refine gk_idiv C (by omega) (by omega) dL_eight_75 ?_
  rw [show ((27 : Int) / 4) = 6 by decide]
  refine gk_bipush C dL_eight_76 (by decide) ?_
  obtain ⟨σ38, e38, b38, hk38⟩ := chk_c hk37
  obtain ⟨fs38, ob38⟩ := H37.obj
  refine gk_callV C o_X4_mark k_L_71 dL_eight_78 (HC.dir (h_mark hfl H37 (j := (3)) (b := (6)) (m := (100)) (by omega) (by omega) (by omega)) e38 (by omega)) ob38 rfl rfl rfl ⟨Nat.le_of_ble_eq_true rfl, Nat.le_of_ble_eq_true rfl⟩ ⟨by show _ + 4 ≤ 2500; omega, by show _ + 24 ≤ 110000; omega⟩ (by exact Nat.le_of_ble_eq_true rfl) (fun _ _ z => z.elim) (fun v38 h38 p38 => ?_)
  obtain ⟨rfl, H38⟩ := p38
  dsimp only [gk_push]
  clear e38 ob38 H37 hk37 b37
  refine gk_bipush C dL_eight_81 (by decide) ?_
  refine gk_iload_n C dL_eight_83 rfl ?_
  refine gk_isub C dL_eight_84 ?_
  rw [show ((31 : Int) - 27) = 4 by decide]
  refine gk_icmp_eq C (tgt := 90) (by omega) (by omega) dL_eight_85 (by decide) (fun c_85 => ?_) (fun c_85 => ?_)
  rotate_left
  · exact absurd c_85 (by omega)
  refine gk_iinc_1 C rfl (by exact Nat.le_of_ble_eq_true rfl) dL_eight_90 ?_
  rw [show ((27 : Int) + 1) = 28 by decide]
  refine gk_goto C (tgt := 63) dL_eight_93 (by decide) ?_
  refine gk_iload_n C dL_eight_63 rfl ?_
  refine gk_bipush C dL_eight_64 (by decide) ?_
  refine gk_icmp_ge C (tgt := 96) (by omega) (by omega) dL_eight_66 (by decide) (fun c_66 => ?_) (fun c_66 => ?_)
  · exact absurd c_66 (by omega)
  refine gk_aload_n C dL_eight_69 rfl ?_
  refine gk_iload_n C dL_eight_70 rfl ?_
  refine gk_iconst C dL_eight_71 ?_
  refine gk_irem C (by omega) (by omega) dL_eight_72 ?_
  rw [show ((28 : Int) % 4) = 0 by decide]
  refine gk_iload_n C dL_eight_73 rfl ?_
  refine gk_iconst C dL_eight_74 ?_
  refine gk_idiv C (by omega) (by omega) dL_eight_75 ?_
  rw [show ((28 : Int) / 4) = 7 by decide]
  refine gk_bipush C dL_eight_76 (by decide) ?_
  obtain ⟨σ39, e39, b39, hk39⟩ := chk_c hk38
  obtain ⟨fs39, ob39⟩ := H38.obj
  refine gk_callV C o_X4_mark k_L_71 dL_eight_78 (HC.dir (h_mark hfl H38 (j := (0)) (b := (7)) (m := (100)) (by omega) (by omega) (by omega)) e39 (by omega)) ob39 rfl rfl rfl ⟨Nat.le_of_ble_eq_true rfl, Nat.le_of_ble_eq_true rfl⟩ ⟨by show _ + 4 ≤ 2500; omega, by show _ + 24 ≤ 110000; omega⟩ (by exact Nat.le_of_ble_eq_true rfl) (fun _ _ z => z.elim) (fun v39 h39 p39 => ?_)
  obtain ⟨rfl, H39⟩ := p39
  dsimp only [gk_push]
  clear e39 ob39 H38 hk38 b38
  refine gk_bipush C dL_eight_81 (by decide) ?_
  refine gk_iload_n C dL_eight_83 rfl ?_
  refine gk_isub C dL_eight_84 ?_
  rw [show ((31 : Int) - 28) = 3 by decide]
  refine gk_icmp_eq C (tgt := 90) (by omega) (by omega) dL_eight_85 (by decide) (fun c_85 => ?_) (fun c_85 => ?_)
  rotate_left
  · exact absurd c_85 (by omega)
  refine gk_iinc_1 C rfl (by exact Nat.le_of_ble_eq_true rfl) dL_eight_90 ?_
  rw [show ((28 : Int) + 1) = 29 by decide]
  refine gk_goto C (tgt := 63) dL_eight_93 (by decide) ?_
  refine gk_iload_n C dL_eight_63 rfl ?_
  refine gk_bipush C dL_eight_64 (by decide) ?_
  refine gk_icmp_ge C (tgt := 96) (by omega) (by omega) dL_eight_66 (by decide) (fun c_66 => ?_) (fun c_66 => ?_)
  · exact absurd c_66 (by omega)
  refine gk_aload_n C dL_eight_69 rfl ?_
  refine gk_iload_n C dL_eight_70 rfl ?_
  refine gk_iconst C dL_eight_71 ?_
  refine gk_irem C (by omega) (by omega) dL_eight_72 ?_
  rw [show ((29 : Int) % 4) = 1 by decide]
  refine gk_iload_n C dL_eight_73 rfl ?_
  refine gk_iconst C dL_eight_74 ?_
  refine gk_idiv C (by omega) (by omega) dL_eight_75 ?_
  rw [show ((29 : Int) / 4) = 7 by decide]
  refine gk_bipush C dL_eight_76 (by decide) ?_
  obtain ⟨σ40, e40, b40, hk40⟩ := chk_c hk39
  obtain ⟨fs40, ob40⟩ := H39.obj
  refine gk_callV C o_X4_mark k_L_71 dL_eight_78 (HC.dir (h_mark hfl H39 (j := (1)) (b := (7)) (m := (100)) (by omega) (by omega) (by omega)) e40 (by omega)) ob40 rfl rfl rfl ⟨Nat.le_of_ble_eq_true rfl, Nat.le_of_ble_eq_true rfl⟩ ⟨by show _ + 4 ≤ 2500; omega, by show _ + 24 ≤ 110000; omega⟩ (by exact Nat.le_of_ble_eq_true rfl) (fun _ _ z => z.elim) (fun v40 h40 p40 => ?_)
  obtain ⟨rfl, H40⟩ := p40
  dsimp only [gk_push]
  clear e40 ob40 H39 hk39 b39
  refine gk_bipush C dL_eight_81 (by decide) ?_
  refine gk_iload_n C dL_eight_83 rfl ?_
  refine gk_isub C dL_eight_84 ?_
  rw [show ((31 : Int) - 29) = 2 by decide]
  refine gk_icmp_eq C (tgt := 90) (by omega) (by omega) dL_eight_85 (by decide) (fun c_85 => ?_) (fun c_85 => ?_)
  rotate_left
  · exact absurd c_85 (by omega)
  refine gk_iinc_1 C rfl (by exact Nat.le_of_ble_eq_true rfl) dL_eight_90 ?_
  rw [show ((29 : Int) + 1) = 30 by decide]
  refine gk_goto C (tgt := 63) dL_eight_93 (by decide) ?_
  refine gk_iload_n C dL_eight_63 rfl ?_
  refine gk_bipush C dL_eight_64 (by decide) ?_
  refine gk_icmp_ge C (tgt := 96) (by omega) (by omega) dL_eight_66 (by decide) (fun c_66 => ?_) (fun c_66 => ?_)
  · exact absurd c_66 (by omega)
  refine gk_aload_n C dL_eight_69 rfl ?_
  refine gk_iload_n C dL_eight_70 rfl ?_
  refine gk_iconst C dL_eight_71 ?_
  refine gk_irem C (by omega) (by omega) dL_eight_72 ?_
  rw [show ((30 : Int) % 4) = 2 by decide]
  refine gk_iload_n C dL_eight_73 rfl ?_
  refine gk_iconst C dL_eight_74 ?_
  refine gk_idiv C (by omega) (by omega) dL_eight_75 ?_
  rw [show ((30 : Int) / 4) = 7 by decide]
  refine gk_bipush C dL_eight_76 (by decide) ?_
  obtain ⟨σ41, e41, b41, hk41⟩ := chk_c hk40
  obtain ⟨fs41, ob41⟩ := H40.obj
  refine gk_callV C o_X4_mark k_L_71 dL_eight_78 (HC.dir (h_mark hfl H40 (j := (2)) (b := (7)) (m := (100)) (by omega) (by omega) (by omega)) e41 (by omega)) ob41 rfl rfl rfl ⟨Nat.le_of_ble_eq_true rfl, Nat.le_of_ble_eq_true rfl⟩ ⟨by show _ + 4 ≤ 2500; omega, by show _ + 24 ≤ 110000; omega⟩ (by exact Nat.le_of_ble_eq_true rfl) (fun _ _ z => z.elim) (fun v41 h41 p41 => ?_)
  obtain ⟨rfl, H41⟩ := p41
  dsimp only [gk_push]
  clear e41 ob41 H40 hk40 b40
  refine gk_bipush C dL_eight_81 (by decide) ?_
  refine gk_iload_n C dL_eight_83 rfl ?_
  refine gk_isub C dL_eight_84 ?_
  rw [show ((31 : Int) - 30) = 1 by decide]
  refine gk_icmp_eq C (tgt := 90) (by omega) (by omega) dL_eight_85 (by decide) (fun c_85 => ?_) (fun c_85 => ?_)
  rotate_left
  · exact absurd c_85 (by omega)
  refine gk_iinc_1 C rfl (by exact Nat.le_of_ble_eq_true rfl) dL_eight_90 ?_
  rw [show ((30 : Int) + 1) = 31 by decide]
  refine gk_goto C (tgt := 63) dL_eight_93 (by decide) ?_
  refine gk_iload_n C dL_eight_63 rfl ?_
  refine gk_bipush C dL_eight_64 (by decide) ?_
  refine gk_icmp_ge C (tgt := 96) (by omega) (by omega) dL_eight_66 (by decide) (fun c_66 => ?_) (fun c_66 => ?_)
  · exact absurd c_66 (by omega)
  refine gk_aload_n C dL_eight_69 rfl ?_
  refine gk_iload_n C dL_eight_70 rfl ?_
  refine gk_iconst C dL_eight_71 ?_
  refine gk_irem C (by omega) (by omega) dL_eight_72 ?_
  rw [show ((31 : Int) % 4) = 3 by decide]
  refine gk_iload_n C dL_eight_73 rfl ?_
  refine gk_iconst C dL_eight_74 ?_
  refine gk_idiv C (by omega) (by omega) dL_eight_75 ?_
  rw [show ((31 : Int) / 4) = 7 by decide]
  refine gk_bipush C dL_eight_76 (by decide) ?_
  obtain ⟨σ42, e42, b42, hk42⟩ := chk_c hk41
  obtain ⟨fs42, ob42⟩ := H41.obj
  refine gk_callV C o_X4_mark k_L_71 dL_eight_78 (HC.dir (h_mark hfl H41 (j := (3)) (b := (7)) (m := (100)) (by omega) (by omega) (by omega)) e42 (by omega)) ob42 rfl rfl rfl ⟨Nat.le_of_ble_eq_true rfl, Nat.le_of_ble_eq_true rfl⟩ ⟨by show _ + 4 ≤ 2500; omega, by show _ + 24 ≤ 110000; omega⟩ (by exact Nat.le_of_ble_eq_true rfl) (fun _ _ z => z.elim) (fun v42 h42 p42 => ?_)
  obtain ⟨rfl, H42⟩ := p42
  dsimp only [gk_push]
  clear e42 ob42 H41 hk41 b41
  refine gk_bipush C dL_eight_81 (by decide) ?_
  refine gk_iload_n C dL_eight_83 rfl ?_
  refine gk_isub C dL_eight_84 ?_
  rw [show ((31 : Int) - 31) = 0 by decide]
  refine gk_icmp_eq C (tgt := 90) (by omega) (by omega) dL_eight_85 (by decide) (fun c_85 => ?_) (fun c_85 => ?_)
  rotate_left
  · exact absurd c_85 (by omega)
  refine gk_iinc_1 C rfl (by exact Nat.le_of_ble_eq_true rfl) dL_eight_90 ?_
  rw [show ((31 : Int) + 1) = 32 by decide]
  refine gk_goto C (tgt := 63) dL_eight_93 (by decide) ?_
  refine gk_iload_n C dL_eight_63 rfl ?_
  refine gk_bipush C dL_eight_64 (by decide) ?_
  refine gk_icmp_ge C (tgt := 96) (by omega) (by omega) dL_eight_66 (by decide) (fun c_66 => ?_) (fun c_66 => ?_)
  rotate_left
  · exact absurd c_66 (by omega)
  refine gk_aload_n C dL_eight_96 rfl ?_
  obtain ⟨σ43, e43, b43, hk43⟩ := chk_c hk42
  obtain ⟨fs43, ob43⟩ := H42.obj
  refine gk_callV C o_X4_close k_L_74 dL_eight_97 (HC.dir (h_close hfl H42  (Nat.le_trans b42 (by omega))) e43 (by omega)) ob43 rfl rfl rfl ⟨Nat.le_of_ble_eq_true rfl, Nat.le_of_ble_eq_true rfl⟩ ⟨by show _ + 1 ≤ 2500; omega, by show _ + 6 ≤ 110000; omega⟩ (by exact Nat.le_of_ble_eq_true rfl) (fun _ _ z => z.elim) (fun v43 h43 p43 => ?_)
  obtain ⟨rfl, H43⟩ := p43
  dsimp only [gk_push]
  clear e43 ob43 H42 hk42 b42
  refine gk_if_ne C (tgt := 266) (by omega) dL_eight_100 (by decide) (fun c_100 => ?_) (fun c_100 => ?_)
  · exact absurd c_100 (by omega)
  refine gk_aload_n C dL_eight_103 rfl ?_
  refine gk_iconst C dL_eight_104 ?_
  refine gk_iconst C dL_eight_105 ?_
  refine gk_bipush C dL_eight_106 (by decide) ?_
  refine gk_iconst C dL_eight_108 ?_
  refine gk_iconst C dL_eight_109 ?_
  refine gk_iconst C dL_eight_110 ?_
  refine gk_callS C o_L_band k_L_148 dL_eight_111 (r_band hfl H43 (by omega) (by omega) (by omega) (by omega) (by omega) (by omega) hk43) rfl rfl ⟨Nat.le_of_ble_eq_true rfl, Nat.le_of_ble_eq_true rfl⟩ ⟨by show _ + 10 ≤ 2500; omega, by show _ + 60 ≤ 110000; omega⟩ (by exact Nat.le_of_ble_eq_true rfl) (fun _ _ z => z.elim) (fun v44 h44 p44 => ?_)
  obtain ⟨rfl, σ44, H44, hk44, b44⟩ := p44
  dsimp only [gk_push]
  clear H43 hk43 b43
  refine gk_if_eq C (tgt := 266) (by omega) dL_eight_114 (by decide) (fun c_114 => ?_) (fun c_114 => ?_)
  · exact absurd c_114 (by omega)
  refine gk_aload_n C dL_eight_117 rfl ?_
  refine gk_iconst C dL_eight_118 ?_
  refine gk_iconst C dL_eight_119 ?_
  refine gk_iconst C dL_eight_120 ?_
  refine gk_iconst C dL_eight_121 ?_
  refine gk_iconst C dL_eight_122 ?_
  refine gk_iconst C dL_eight_123 ?_
  refine gk_callS C o_L_band k_L_148 dL_eight_124 (r_band hfl H44 (by omega) (by omega) (by omega) (by omega) (by omega) (by omega) hk44) rfl rfl ⟨Nat.le_of_ble_eq_true rfl, Nat.le_of_ble_eq_true rfl⟩ ⟨by show _ + 10 ≤ 2500; omega, by show _ + 60 ≤ 110000; omega⟩ (by exact Nat.le_of_ble_eq_true rfl) (fun _ _ z => z.elim) (fun v45 h45 p45 => ?_)
  obtain ⟨rfl, σ45, H45, hk45, b45⟩ := p45
  dsimp only [gk_push]
  clear H44 hk44 b44
  refine gk_if_eq C (tgt := 266) (by omega) dL_eight_127 (by decide) (fun c_127 => ?_) (fun c_127 => ?_)
  · exact absurd c_127 (by omega)
  refine gk_aload_n C dL_eight_130 rfl ?_
  refine gk_iconst C dL_eight_131 ?_
  refine gk_iconst C dL_eight_132 ?_
  refine gk_iconst C dL_eight_133 ?_
  refine gk_iconst C dL_eight_134 ?_
  refine gk_iconst C dL_eight_135 ?_
  refine gk_iconst C dL_eight_136 ?_
  refine gk_callS C o_L_band k_L_148 dL_eight_137 (r_band hfl H45 (by omega) (by omega) (by omega) (by omega) (by omega) (by omega) hk45) rfl rfl ⟨Nat.le_of_ble_eq_true rfl, Nat.le_of_ble_eq_true rfl⟩ ⟨by show _ + 10 ≤ 2500; omega, by show _ + 60 ≤ 110000; omega⟩ (by exact Nat.le_of_ble_eq_true rfl) (fun _ _ z => z.elim) (fun v46 h46 p46 => ?_)
  obtain ⟨rfl, σ46, H46, hk46, b46⟩ := p46
  dsimp only [gk_push]
  clear H45 hk45 b45
  refine gk_if_eq C (tgt := 266) (by omega) dL_eight_140 (by decide) (fun c_140 => ?_) (fun c_140 => ?_)
  · exact absurd c_140 (by omega)
  refine gk_aload_n C dL_eight_143 rfl ?_
  refine gk_iconst C dL_eight_144 ?_
  refine gk_iconst C dL_eight_145 ?_
  refine gk_iconst C dL_eight_146 ?_
  refine gk_iconst C dL_eight_147 ?_
  refine gk_iconst C dL_eight_148 ?_
  refine gk_iconst C dL_eight_149 ?_
  refine gk_callS C o_L_band k_L_148 dL_eight_150 (r_band hfl H46 (by omega) (by omega) (by omega) (by omega) (by omega) (by omega) hk46) rfl rfl ⟨Nat.le_of_ble_eq_true rfl, Nat.le_of_ble_eq_true rfl⟩ ⟨by show _ + 10 ≤ 2500; omega, by show _ + 60 ≤ 110000; omega⟩ (by exact Nat.le_of_ble_eq_true rfl) (fun _ _ z => z.elim) (fun v47 h47 p47 => ?_)
  obtain ⟨rfl, σ47, H47, hk47, b47⟩ := p47
  dsimp only [gk_push]
  clear H46 hk46 b46
  refine gk_if_eq C (tgt := 266) (by omega) dL_eight_153 (by decide) (fun c_153 => ?_) (fun c_153 => ?_)
  · exact absurd c_153 (by omega)
  refine gk_aload_n C dL_eight_156 rfl ?_
  refine gk_iconst C dL_eight_157 ?_
  refine gk_iconst C dL_eight_158 ?_
  refine gk_iconst C dL_eight_159 ?_
  refine gk_iconst C dL_eight_160 ?_
  refine gk_iconst C dL_eight_161 ?_
  refine gk_iconst C dL_eight_162 ?_
  refine gk_callS C o_L_band k_L_148 dL_eight_163 (r_band hfl H47 (by omega) (by omega) (by omega) (by omega) (by omega) (by omega) hk47) rfl rfl ⟨Nat.le_of_ble_eq_true rfl, Nat.le_of_ble_eq_true rfl⟩ ⟨by show _ + 10 ≤ 2500; omega, by show _ + 60 ≤ 110000; omega⟩ (by exact Nat.le_of_ble_eq_true rfl) (fun _ _ z => z.elim) (fun v48 h48 p48 => ?_)
  obtain ⟨rfl, σ48, H48, hk48, b48⟩ := p48
  dsimp only [gk_push]
  clear H47 hk47 b47
  refine gk_if_eq C (tgt := 266) (by omega) dL_eight_166 (by decide) (fun c_166 => ?_) (fun c_166 => ?_)
  · exact absurd c_166 (by omega)
  refine gk_aload_n C dL_eight_169 rfl ?_
  refine gk_iconst C dL_eight_170 ?_
  refine gk_iconst C dL_eight_171 ?_
  refine gk_iconst C dL_eight_172 ?_
  refine gk_bipush C dL_eight_173 (by decide) ?_
  refine gk_iconst C dL_eight_175 ?_
  refine gk_iconst C dL_eight_176 ?_
  refine gk_callS C o_L_band k_L_148 dL_eight_177 (r_band hfl H48 (by omega) (by omega) (by omega) (by omega) (by omega) (by omega) hk48) rfl rfl ⟨Nat.le_of_ble_eq_true rfl, Nat.le_of_ble_eq_true rfl⟩ ⟨by show _ + 10 ≤ 2500; omega, by show _ + 60 ≤ 110000; omega⟩ (by exact Nat.le_of_ble_eq_true rfl) (fun _ _ z => z.elim) (fun v49 h49 p49 => ?_)
  obtain ⟨rfl, σ49, H49, hk49, b49⟩ := p49
  dsimp only [gk_push]
  clear H48 hk48 b48
  refine gk_if_eq C (tgt := 266) (by omega) dL_eight_180 (by decide) (fun c_180 => ?_) (fun c_180 => ?_)
  · exact absurd c_180 (by omega)
  refine gk_aload_n C dL_eight_183 rfl ?_
  refine gk_bipush C dL_eight_184 (by decide) ?_
  refine gk_iconst C dL_eight_186 ?_
  refine gk_iconst C dL_eight_187 ?_
  refine gk_bipush C dL_eight_188 (by decide) ?_
  refine gk_iconst C dL_eight_190 ?_
  refine gk_iconst C dL_eight_191 ?_
  refine gk_callS C o_L_band k_L_148 dL_eight_192 (r_band hfl H49 (by omega) (by omega) (by omega) (by omega) (by omega) (by omega) hk49) rfl rfl ⟨Nat.le_of_ble_eq_true rfl, Nat.le_of_ble_eq_true rfl⟩ ⟨by show _ + 10 ≤ 2500; omega, by show _ + 60 ≤ 110000; omega⟩ (by exact Nat.le_of_ble_eq_true rfl) (fun _ _ z => z.elim) (fun v50 h50 p50 => ?_)
  obtain ⟨rfl, σ50, H50, hk50, b50⟩ := p50
  dsimp only [gk_push]
  clear H49 hk49 b49
  refine gk_if_eq C (tgt := 266) (by omega) dL_eight_195 (by decide) (fun c_195 => ?_) (fun c_195 => ?_)
  · exact absurd c_195 (by omega)
  refine gk_aload_n C dL_eight_198 rfl ?_
  refine gk_bipush C dL_eight_199 (by decide) ?_
  refine gk_iconst C dL_eight_201 ?_
  refine gk_iconst C dL_eight_202 ?_
  refine gk_bipush C dL_eight_203 (by decide) ?_
  refine gk_iconst C dL_eight_205 ?_
  refine gk_iconst C dL_eight_206 ?_
  refine gk_callS C o_L_band k_L_148 dL_eight_207 (r_band hfl H50 (by omega) (by omega) (by omega) (by omega) (by omega) (by omega) hk50) rfl rfl ⟨Nat.le_of_ble_eq_true rfl, Nat.le_of_ble_eq_true rfl⟩ ⟨by show _ + 10 ≤ 2500; omega, by show _ + 60 ≤ 110000; omega⟩ (by exact Nat.le_of_ble_eq_true rfl) (fun _ _ z => z.elim) (fun v51 h51 p51 => ?_)
  obtain ⟨rfl, σ51, H51, hk51, b51⟩ := p51
  dsimp only [gk_push]
  clear H50 hk50 b50
  refine gk_if_eq C (tgt := 266) (by omega) dL_eight_210 (by decide) (fun c_210 => ?_) (fun c_210 => ?_)
  · exact absurd c_210 (by omega)
  refine gk_aload_n C dL_eight_213 rfl ?_
  obtain ⟨σ52, e52, b52, hk52⟩ := chk_c hk51
  obtain ⟨fs52, ob52⟩ := H51.obj
  refine gk_callV C o_X4_season k_L_77 dL_eight_214 (HC.dir (h_season hfl H51  ) e52 (by omega)) ob52 rfl rfl rfl ⟨Nat.le_of_ble_eq_true rfl, Nat.le_of_ble_eq_true rfl⟩ ⟨by show _ + 1 ≤ 2500; omega, by show _ + 6 ≤ 110000; omega⟩ (by exact Nat.le_of_ble_eq_true rfl) (fun _ _ z => z.elim) (fun v52 h52 p52 => ?_)
  obtain ⟨rfl, H52⟩ := p52
  dsimp only [gk_push]
  clear e52 ob52 H51 hk51 b51
  refine gk_iconst C dL_eight_217 ?_
  refine gk_icmp_ne C (tgt := 266) (by omega) (by omega) dL_eight_218 (by decide) (fun c_218 => ?_) (fun c_218 => ?_)
  · exact absurd c_218 (by omega)
  refine gk_aload_n C dL_eight_221 rfl ?_
  refine gk_bipush C dL_eight_222 (by decide) ?_
  refine gk_iconst C dL_eight_224 ?_
  obtain ⟨σ53, e53, b53, hk53⟩ := chk_c hk52
  obtain ⟨fs53, ob53⟩ := H52.obj
  refine gk_callV C o_X4_ofBand k_L_80 dL_eight_225 (HC.dir (h_ofBand hfl H52 (b := (7)) (w := (0)) (by omega) (by omega)) e53 (by omega)) ob53 rfl rfl rfl ⟨Nat.le_of_ble_eq_true rfl, Nat.le_of_ble_eq_true rfl⟩ ⟨by show _ + 2 ≤ 2500; omega, by show _ + 12 ≤ 110000; omega⟩ (by exact Nat.le_of_ble_eq_true rfl) (fun _ _ z => z.elim) (fun v53 h53 p53 => ?_)
  obtain ⟨rfl, H53⟩ := p53
  dsimp only [gk_push]
  clear e53 ob53 H52 hk52 b52
  refine gk_iconst C dL_eight_228 ?_
  refine gk_icmp_ne C (tgt := 266) (by omega) (by omega) dL_eight_229 (by decide) (fun c_229 => ?_) (fun c_229 => ?_)
  · exact absurd c_229 (by omega)
  refine gk_aload_n C dL_eight_232 rfl ?_
  refine gk_iconst C dL_eight_233 ?_
  refine gk_iconst C dL_eight_234 ?_
  obtain ⟨σ54, e54, b54, hk54⟩ := chk_c hk53
  obtain ⟨fs54, ob54⟩ := H53.obj
  refine gk_callV C o_X4_ofBand k_L_80 dL_eight_235 (HC.dir (h_ofBand hfl H53 (b := (0)) (w := (0)) (by omega) (by omega)) e54 (by omega)) ob54 rfl rfl rfl ⟨Nat.le_of_ble_eq_true rfl, Nat.le_of_ble_eq_true rfl⟩ ⟨by show _ + 2 ≤ 2500; omega, by show _ + 12 ≤ 110000; omega⟩ (by exact Nat.le_of_ble_eq_true rfl) (fun _ _ z => z.elim) (fun v54 h54 p54 => ?_)
  obtain ⟨rfl, H54⟩ := p54
  dsimp only [gk_push]
  clear e54 ob54 H53 hk53 b53
  refine gk_iconst C dL_eight_238 ?_
  refine gk_icmp_ne C (tgt := 266) (by omega) (by omega) dL_eight_239 (by decide) (fun c_239 => ?_) (fun c_239 => ?_)
  · exact absurd c_239 (by omega)
  refine gk_aload_n C dL_eight_242 rfl ?_
  refine gk_iconst C dL_eight_243 ?_
  refine gk_iconst C dL_eight_244 ?_
  obtain ⟨σ55, e55, b55, hk55⟩ := chk_c hk54
  obtain ⟨fs55, ob55⟩ := H54.obj
  refine gk_callV C o_X4_ofBand k_L_80 dL_eight_245 (HC.dir (h_ofBand hfl H54 (b := (0)) (w := (1)) (by omega) (by omega)) e55 (by omega)) ob55 rfl rfl rfl ⟨Nat.le_of_ble_eq_true rfl, Nat.le_of_ble_eq_true rfl⟩ ⟨by show _ + 2 ≤ 2500; omega, by show _ + 12 ≤ 110000; omega⟩ (by exact Nat.le_of_ble_eq_true rfl) (fun _ _ z => z.elim) (fun v55 h55 p55 => ?_)
  obtain ⟨rfl, H55⟩ := p55
  dsimp only [gk_push]
  clear e55 ob55 H54 hk54 b54
  refine gk_if_ne C (tgt := 266) (by omega) dL_eight_248 (by decide) (fun c_248 => ?_) (fun c_248 => ?_)
  · exact absurd c_248 (by omega)
  refine gk_aload_n C dL_eight_251 rfl ?_
  refine gk_iconst C dL_eight_252 ?_
  refine gk_iconst C dL_eight_253 ?_
  refine gk_bipush C dL_eight_254 (by decide) ?_
  obtain ⟨⟨n1_56, n2_56, n3_56⟩, b56, hk56⟩ := chk_n hk55
  refine gk_callS C o_L_refuses k_L_107 dL_eight_256 (r_refuses hfl H55 n1_56 n2_56 n3_56 (Nat.le_trans b55 (by omega))) rfl rfl ⟨Nat.le_of_ble_eq_true rfl, Nat.le_of_ble_eq_true rfl⟩ ⟨by show _ + 1600 ≤ 2500; omega, by show _ + 70000 ≤ 110000; omega⟩ (by exact Nat.le_of_ble_eq_true rfl) (fun _ _ z => z.elim) (fun v56 h56 p56 => ?_)
  obtain ⟨rfl, H56⟩ := p56
  dsimp only [gk_push]
  clear n1_56 n2_56 n3_56 H55 hk55 b55
  refine gk_if_eq C (tgt := 266) (by omega) dL_eight_259 (by decide) (fun c_259 => ?_) (fun c_259 => ?_)
  · exact absurd c_259 (by omega)
  refine gk_iconst C dL_eight_262 ?_
  refine gk_goto C (tgt := 267) dL_eight_263 (by decide) ?_
  refine (R _ _ _ _ _ (Nat.le_of_ble_eq_true rfl) (Nat.le_of_ble_eq_true rfl)).2.1 _ rfl (by omega) dL_eight_267 ?_
  rfl
