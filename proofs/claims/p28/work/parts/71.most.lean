/-! a run by hand: most -/
def ca_most : List CA := [(0, (0), (0), (0), (0), (0)), (0, (1), (0), (0), (0), (1)), (0, (2), (0), (0), (0), (2)), (0, (3), (0), (0), (0), (3)), (0, (0), (0), (0), (0), (4)), (0, (1), (0), (0), (0), (5)), (0, (2), (0), (0), (0), (6)), (0, (3), (0), (0), (0), (7)), (0, (0), (0), (0), (0), (8)), (0, (1), (0), (0), (0), (9)), (0, (2), (0), (0), (0), (-7000003)), (1, (9), (0), (1), (0), (1)), (1, (9), (1), (1), (0), (2)), (1, (9), (0), (1), (0), (3)), (1, (9), (1), (1), (0), (4)), (2, (9), (1), (0), (0), (-7000003)), (1, (9), (0), (1), (0), (5)), (1, (9), (1), (1), (0), (6)), (1, (9), (0), (1), (0), (7)), (1, (9), (1), (1), (0), (8)), (2, (9), (1), (0), (0), (-7000003)), (1, (9), (0), (1), (0), (9)), (1, (9), (1), (1), (0), (10)), (1, (9), (0), (1), (0), (11)), (1, (9), (1), (1), (0), (12)), (2, (9), (1), (0), (0), (-7000003)), (1, (9), (0), (1), (0), (13)), (1, (9), (1), (1), (0), (14)), (1, (9), (0), (1), (0), (15)), (1, (9), (1), (1), (0), (16)), (2, (9), (1), (0), (0), (1)), (1, (9), (0), (1), (0), (17)), (1, (9), (1), (1), (0), (18)), (1, (9), (0), (1), (0), (19)), (1, (9), (1), (1), (0), (20)), (1, (9), (0), (1), (0), (21)), (1, (9), (1), (1), (0), (22)), (1, (9), (0), (1), (0), (23)), (1, (9), (1), (1), (0), (24)), (1, (9), (0), (1), (0), (25)), (1, (9), (1), (1), (0), (26)), (1, (9), (0), (1), (0), (27)), (1, (9), (1), (1), (0), (28)), (1, (9), (0), (1), (0), (29)), (1, (9), (1), (1), (0), (30)), (1, (9), (0), (1), (0), (31)), (1, (9), (1), (1), (0), (32)), (1, (9), (0), (1), (0), (33)), (1, (9), (1), (1), (0), (34)), (1, (9), (0), (1), (0), (35)), (1, (9), (1), (1), (0), (36)), (1, (9), (0), (1), (0), (37)), (1, (9), (1), (1), (0), (38)), (1, (9), (0), (1), (0), (39)), (1, (9), (1), (1), (0), (40)), (1, (9), (0), (1), (0), (41)), (1, (9), (1), (1), (0), (42)), (1, (9), (0), (1), (0), (43)), (1, (9), (1), (1), (0), (44)), (1, (9), (0), (1), (0), (45)), (1, (9), (1), (1), (0), (46)), (1, (9), (0), (1), (0), (47)), (1, (9), (1), (1), (0), (48)), (1, (9), (0), (1), (0), (49)), (1, (9), (1), (1), (0), (50)), (1, (9), (0), (1), (0), (51)), (1, (9), (1), (1), (0), (52)), (1, (9), (0), (1), (0), (53)), (1, (9), (1), (1), (0), (54)), (1, (9), (0), (1), (0), (55)), (1, (9), (1), (1), (0), (56)), (1, (9), (0), (1), (0), (57)), (1, (9), (1), (1), (0), (58)), (1, (9), (0), (1), (0), (59)), (1, (9), (1), (1), (0), (60)), (1, (9), (0), (1), (0), (61)), (1, (9), (1), (1), (0), (62)), (1, (9), (0), (1), (0), (63)), (1, (9), (1), (1), (0), (64)), (1, (9), (0), (1), (0), (-7000003)), (1, (1), (0), (16), (0), (1)), (2, (1), (0), (0), (0), (1)), (1, (1), (1), (16), (0), (2)), (2, (1), (0), (0), (0), (1)), (1, (1), (0), (16), (0), (3)), (2, (1), (0), (0), (0), (1)), (1, (1), (1), (16), (0), (4)), (2, (1), (0), (0), (0), (1)), (1, (1), (0), (16), (0), (5)), (2, (1), (0), (0), (0), (1)), (1, (1), (1), (16), (0), (6)), (2, (1), (0), (0), (0), (1)), (1, (1), (0), (16), (0), (7)), (2, (1), (0), (0), (0), (1)), (1, (1), (1), (16), (0), (8)), (2, (1), (0), (0), (0), (1)), (1, (1), (0), (16), (0), (9)), (2, (1), (0), (0), (0), (-7000003)), (2, (9), (1), (0), (0), (3)), (4, (9), (0), (0), (0), (1)), (4, (9), (1), (0), (0), (128)), (4, (9), (2), (0), (0), (128)), (4, (9), (3), (0), (0), (0)), (4, (9), (4), (0), (0), (0)), (4, (9), (5), (0), (0), (2)), (4, (9), (6), (0), (0), (0)), (4, (1), (0), (0), (0), (1)), (4, (1), (1), (0), (0), (8)), (4, (1), (2), (0), (0), (128)), (4, (1), (3), (0), (0), (0)), (4, (1), (4), (0), (0), (0)), (4, (1), (5), (0), (0), (8)), (4, (1), (6), (0), (0), (1)), (5, (9), (9), (0), (0), (128)), (5, (1), (9), (0), (0), (8)), (1, (3), (6), (1), (3), (1)), (1, (3), (7), (1), (4), (2)), (1, (3), (6), (1), (5), (3)), (1, (3), (1), (1), (6), (4)), (1, (3), (4), (1), (7), (5)), (1, (3), (1), (1), (8), (6)), (1, (3), (3), (1), (1), (7)), (1, (3), (4), (1), (2), (8)), (1, (3), (0), (1), (5), (9)), (26, (0), (0), (0), (0), (10)), (27, (0), (0), (0), (0), (0)), (28, (0), (0), (0), (0), (0))]
set_option maxRecDepth 100000 in
theorem ck_most : chk σ0 ca_most = true := by decide +kernel
set_option maxRecDepth 100000 in
set_option maxHeartbeats 20000000 in
theorem r_most {l : Launch} {Γ : GA} (hfl : l.stackTraces = false) : Ct l Γ m_L_most [] (fun _ => none) (fun v _ => v = some (iv 1)) (fun _ _ => False) := by
  have hk := ck_most
  unfold ca_most at hk
  have hb0 : σ0.2.2.2.2 ≤ 100 := Nat.zero_le _
  refine Ct.intro hfl (by decide +kernel) rfl (Nat.le_of_ble_eq_true rfl) ?_
  intro G C R T
  show G 0 [none, none] [] (fun _ => none) 0 0
  refine gk_new C n_L_8 ⟨by show _ + 1 ≤ 3000; omega, by show _ + 9 ≤ 130000; omega⟩ dL_most_0 (fun q0 e0 => ?_)
  refine gk_dup C rfl dL_most_3 ?_
  refine gk_callI C o_X4_init rfl k_L_106 dL_most_4 (h_new hfl) rfl rfl ⟨Nat.le_of_ble_eq_true rfl, Nat.le_of_ble_eq_true rfl⟩ ⟨by show _ + 8 ≤ 3000; omega, by show _ + 37 ≤ 130000; omega⟩ (by exact Nat.le_of_ble_eq_true rfl) (fun _ _ z => z.elim) (fun v0 h0 p0 => ?_)
  obtain ⟨rfl, H0⟩ := p0
  dsimp only [gk_push]
  refine gk_astore_n_0 C (by exact Nat.le_of_ble_eq_true rfl) dL_most_7 ?_
  refine gk_iconst C dL_most_8 ?_
  refine gk_istore_n_1 C rfl (by exact Nat.le_of_ble_eq_true rfl) dL_most_9 ?_
  refine gk_iload_n C dL_most_10 rfl ?_
  refine gk_bipush C dL_most_11 (by decide) ?_
  refine gk_icmp_ge C (tgt := 50) (by omega) (by omega) dL_most_13 (by decide) (fun c_13 => ?_) (fun c_13 => ?_)
  · exact absurd c_13 (by omega)
  refine gk_aload_n C dL_most_16 rfl ?_
  refine gk_iconst C dL_most_17 ?_
  refine gk_iload_n C dL_most_18 rfl ?_
  refine gk_iconst C dL_most_19 ?_
  refine gk_irem C (by omega) (by omega) dL_most_20 ?_
  rw [show ((0 : Int) % 4) = 0 by decide]
  refine gk_iconst C dL_most_21 ?_
  refine gk_iconst C dL_most_22 ?_
  refine gk_iconst C dL_most_23 ?_
  obtain ⟨σ1, e1, b1, hk1⟩ := chk_c hk
  refine gk_callSH C o_L_act k_L_100 dL_most_24 (act_e hfl H0 (w := 0) (a := (0)) (b := (0)) (c := (0)) (d := (0)) rfl (by omega) (by omega) (by omega) (by omega) (by omega) (Nat.le_trans hb0 (by omega)) e1) rfl rfl ⟨Nat.le_of_ble_eq_true rfl, Nat.le_of_ble_eq_true rfl⟩ ⟨by show _ + 9 ≤ 3000; omega, by show _ + 418 ≤ 130000; omega⟩ (by exact Nat.le_of_ble_eq_true rfl) (fun v1 h1 p1 => ?_)
  obtain ⟨rfl, H1⟩ := p1
  dsimp only [gk_push]
  clear e1 H0 hk hb0
  refine gk_iload_n C dL_most_27 rfl ?_
  refine gk_bipush C dL_most_28 (by decide) ?_
  refine gk_icmp_ge C (tgt := 37) (by omega) (by omega) dL_most_30 (by decide) (fun c_30 => ?_) (fun c_30 => ?_)
  · exact absurd c_30 (by omega)
  refine gk_iload_n C dL_most_33 rfl ?_
  refine gk_goto C (tgt := 39) dL_most_34 (by decide) ?_
  refine gk_icmp_eq C (tgt := 44) (by omega) (by omega) dL_most_39 (by decide) (fun c_39 => ?_) (fun c_39 => ?_)
  rotate_left
  · exact absurd c_39 (by omega)
  refine gk_iinc_1 C rfl (by exact Nat.le_of_ble_eq_true rfl) dL_most_44 ?_
  rw [show ((0 : Int) + 1) = 1 by decide]
  refine gk_goto C (tgt := 10) dL_most_47 (by decide) ?_
  refine gk_iload_n C dL_most_10 rfl ?_
  refine gk_bipush C dL_most_11 (by decide) ?_
  refine gk_icmp_ge C (tgt := 50) (by omega) (by omega) dL_most_13 (by decide) (fun c_13 => ?_) (fun c_13 => ?_)
  · exact absurd c_13 (by omega)
  refine gk_aload_n C dL_most_16 rfl ?_
  refine gk_iconst C dL_most_17 ?_
  refine gk_iload_n C dL_most_18 rfl ?_
  refine gk_iconst C dL_most_19 ?_
  refine gk_irem C (by omega) (by omega) dL_most_20 ?_
  rw [show ((1 : Int) % 4) = 1 by decide]
  refine gk_iconst C dL_most_21 ?_
  refine gk_iconst C dL_most_22 ?_
  refine gk_iconst C dL_most_23 ?_
  obtain ⟨σ2, e2, b2, hk2⟩ := chk_c hk1
  refine gk_callSH C o_L_act k_L_100 dL_most_24 (act_e hfl H1 (w := 0) (a := (1)) (b := (0)) (c := (0)) (d := (0)) rfl (by omega) (by omega) (by omega) (by omega) (by omega) (Nat.le_trans b1 (by omega)) e2) rfl rfl ⟨Nat.le_of_ble_eq_true rfl, Nat.le_of_ble_eq_true rfl⟩ ⟨by show _ + 9 ≤ 3000; omega, by show _ + 418 ≤ 130000; omega⟩ (by exact Nat.le_of_ble_eq_true rfl) (fun v2 h2 p2 => ?_)
  obtain ⟨rfl, H2⟩ := p2
  dsimp only [gk_push]
  clear e2 H1 hk1 b1
  refine gk_iload_n C dL_most_27 rfl ?_
  refine gk_bipush C dL_most_28 (by decide) ?_
  refine gk_icmp_ge C (tgt := 37) (by omega) (by omega) dL_most_30 (by decide) (fun c_30 => ?_) (fun c_30 => ?_)
  · exact absurd c_30 (by omega)
  refine gk_iload_n C dL_most_33 rfl ?_
  refine gk_goto C (tgt := 39) dL_most_34 (by decide) ?_
  refine gk_icmp_eq C (tgt := 44) (by omega) (by omega) dL_most_39 (by decide) (fun c_39 => ?_) (fun c_39 => ?_)
  rotate_left
  · exact absurd c_39 (by omega)
  refine gk_iinc_1 C rfl (by exact Nat.le_of_ble_eq_true rfl) dL_most_44 ?_
  rw [show ((1 : Int) + 1) = 2 by decide]
  refine gk_goto C (tgt := 10) dL_most_47 (by decide) ?_
  refine gk_iload_n C dL_most_10 rfl ?_
  refine gk_bipush C dL_most_11 (by decide) ?_
  refine gk_icmp_ge C (tgt := 50) (by omega) (by omega) dL_most_13 (by decide) (fun c_13 => ?_) (fun c_13 => ?_)
  · exact absurd c_13 (by omega)
  refine gk_aload_n C dL_most_16 rfl ?_
  refine gk_iconst C dL_most_17 ?_
  refine gk_iload_n C dL_most_18 rfl ?_
  refine gk_iconst C dL_most_19 ?_
  refine gk_irem C (by omega) (by omega) dL_most_20 ?_
  rw [show ((2 : Int) % 4) = 2 by decide]
  refine gk_iconst C dL_most_21 ?_
  refine gk_iconst C dL_most_22 ?_
  refine gk_iconst C dL_most_23 ?_
  obtain ⟨σ3, e3, b3, hk3⟩ := chk_c hk2
  refine gk_callSH C o_L_act k_L_100 dL_most_24 (act_e hfl H2 (w := 0) (a := (2)) (b := (0)) (c := (0)) (d := (0)) rfl (by omega) (by omega) (by omega) (by omega) (by omega) (Nat.le_trans b2 (by omega)) e3) rfl rfl ⟨Nat.le_of_ble_eq_true rfl, Nat.le_of_ble_eq_true rfl⟩ ⟨by show _ + 9 ≤ 3000; omega, by show _ + 418 ≤ 130000; omega⟩ (by exact Nat.le_of_ble_eq_true rfl) (fun v3 h3 p3 => ?_)
  obtain ⟨rfl, H3⟩ := p3
  dsimp only [gk_push]
  clear e3 H2 hk2 b2
  refine gk_iload_n C dL_most_27 rfl ?_
  refine gk_bipush C dL_most_28 (by decide) ?_
  refine gk_icmp_ge C (tgt := 37) (by omega) (by omega) dL_most_30 (by decide) (fun c_30 => ?_) (fun c_30 => ?_)
  · exact absurd c_30 (by omega)
  refine gk_iload_n C dL_most_33 rfl ?_
  refine gk_goto C (tgt := 39) dL_most_34 (by decide) ?_
  refine gk_icmp_eq C (tgt := 44) (by omega) (by omega) dL_most_39 (by decide) (fun c_39 => ?_) (fun c_39 => ?_)
  rotate_left
  · exact absurd c_39 (by omega)
  refine gk_iinc_1 C rfl (by exact Nat.le_of_ble_eq_true rfl) dL_most_44 ?_
  rw [show ((2 : Int) + 1) = 3 by decide]
  refine gk_goto C (tgt := 10) dL_most_47 (by decide) ?_
  refine gk_iload_n C dL_most_10 rfl ?_
  refine gk_bipush C dL_most_11 (by decide) ?_
  refine gk_icmp_ge C (tgt := 50) (by omega) (by omega) dL_most_13 (by decide) (fun c_13 => ?_) (fun c_13 => ?_)
  · exact absurd c_13 (by omega)
  refine gk_aload_n C dL_most_16 rfl ?_
  refine gk_iconst C dL_most_17 ?_
  refine gk_iload_n C dL_most_18 rfl ?_
  refine gk_iconst C dL_most_19 ?_
  refine gk_irem C (by omega) (by omega) dL_most_20 ?_
  rw [show ((3 : Int) % 4) = 3 by decide]
  refine gk_iconst C dL_most_21 ?_
  refine gk_iconst C dL_most_22 ?_
  refine gk_iconst C dL_most_23 ?_
  obtain ⟨σ4, e4, b4, hk4⟩ := chk_c hk3
  refine gk_callSH C o_L_act k_L_100 dL_most_24 (act_e hfl H3 (w := 0) (a := (3)) (b := (0)) (c := (0)) (d := (0)) rfl (by omega) (by omega) (by omega) (by omega) (by omega) (Nat.le_trans b3 (by omega)) e4) rfl rfl ⟨Nat.le_of_ble_eq_true rfl, Nat.le_of_ble_eq_true rfl⟩ ⟨by show _ + 9 ≤ 3000; omega, by show _ + 418 ≤ 130000; omega⟩ (by exact Nat.le_of_ble_eq_true rfl) (fun v4 h4 p4 => ?_)
  obtain ⟨rfl, H4⟩ := p4
  dsimp only [gk_push]
  clear e4 H3 hk3 b3
  refine gk_iload_n C dL_most_27 rfl ?_
  refine gk_bipush C dL_most_28 (by decide) ?_
  refine gk_icmp_ge C (tgt := 37) (by omega) (by omega) dL_most_30 (by decide) (fun c_30 => ?_) (fun c_30 => ?_)
  · exact absurd c_30 (by omega)
  refine gk_iload_n C dL_most_33 rfl ?_
  refine gk_goto C (tgt := 39) dL_most_34 (by decide) ?_
  refine gk_icmp_eq C (tgt := 44) (by omega) (by omega) dL_most_39 (by decide) (fun c_39 => ?_) (fun c_39 => ?_)
  rotate_left
  · exact absurd c_39 (by omega)
  refine gk_iinc_1 C rfl (by exact Nat.le_of_ble_eq_true rfl) dL_most_44 ?_
  rw [show ((3 : Int) + 1) = 4 by decide]
  refine gk_goto C (tgt := 10) dL_most_47 (by decide) ?_
  refine gk_iload_n C dL_most_10 rfl ?_
  refine gk_bipush C dL_most_11 (by decide) ?_
  refine gk_icmp_ge C (tgt := 50) (by omega) (by omega) dL_most_13 (by decide) (fun c_13 => ?_) (fun c_13 => ?_)
  · exact absurd c_13 (by omega)
  refine gk_aload_n C dL_most_16 rfl ?_
  refine gk_iconst C dL_most_17 ?_
  refine gk_iload_n C dL_most_18 rfl ?_
  refine gk_iconst C dL_most_19 ?_
  refine gk_irem C (by omega) (by omega) dL_most_20 ?_
  rw [show ((4 : Int) % 4) = 0 by decide]
  refine gk_iconst C dL_most_21 ?_
  refine gk_iconst C dL_most_22 ?_
  refine gk_iconst C dL_most_23 ?_
  obtain ⟨σ5, e5, b5, hk5⟩ := chk_c hk4
  refine gk_callSH C o_L_act k_L_100 dL_most_24 (act_e hfl H4 (w := 0) (a := (0)) (b := (0)) (c := (0)) (d := (0)) rfl (by omega) (by omega) (by omega) (by omega) (by omega) (Nat.le_trans b4 (by omega)) e5) rfl rfl ⟨Nat.le_of_ble_eq_true rfl, Nat.le_of_ble_eq_true rfl⟩ ⟨by show _ + 9 ≤ 3000; omega, by show _ + 418 ≤ 130000; omega⟩ (by exact Nat.le_of_ble_eq_true rfl) (fun v5 h5 p5 => ?_)
  obtain ⟨rfl, H5⟩ := p5
  dsimp only [gk_push]
  clear e5 H4 hk4 b4
  refine gk_iload_n C dL_most_27 rfl ?_
  refine gk_bipush C dL_most_28 (by decide) ?_
  refine gk_icmp_ge C (tgt := 37) (by omega) (by omega) dL_most_30 (by decide) (fun c_30 => ?_) (fun c_30 => ?_)
  · exact absurd c_30 (by omega)
  refine gk_iload_n C dL_most_33 rfl ?_
  refine gk_goto C (tgt := 39) dL_most_34 (by decide) ?_
  refine gk_icmp_eq C (tgt := 44) (by omega) (by omega) dL_most_39 (by decide) (fun c_39 => ?_) (fun c_39 => ?_)
  rotate_left
  · exact absurd c_39 (by omega)
  refine gk_iinc_1 C rfl (by exact Nat.le_of_ble_eq_true rfl) dL_most_44 ?_
  rw [show ((4 : Int) + 1) = 5 by decide]
  refine gk_goto C (tgt := 10) dL_most_47 (by decide) ?_
  refine gk_iload_n C dL_most_10 rfl ?_
  refine gk_bipush C dL_most_11 (by decide) ?_
  refine gk_icmp_ge C (tgt := 50) (by omega) (by omega) dL_most_13 (by decide) (fun c_13 => ?_) (fun c_13 => ?_)
  · exact absurd c_13 (by omega)
  refine gk_aload_n C dL_most_16 rfl ?_
  refine gk_iconst C dL_most_17 ?_
  refine gk_iload_n C dL_most_18 rfl ?_
  refine gk_iconst C dL_most_19 ?_
  refine gk_irem C (by omega) (by omega) dL_most_20 ?_
  rw [show ((5 : Int) % 4) = 1 by decide]
  refine gk_iconst C dL_most_21 ?_
  refine gk_iconst C dL_most_22 ?_
  refine gk_iconst C dL_most_23 ?_
  obtain ⟨σ6, e6, b6, hk6⟩ := chk_c hk5
  refine gk_callSH C o_L_act k_L_100 dL_most_24 (act_e hfl H5 (w := 0) (a := (1)) (b := (0)) (c := (0)) (d := (0)) rfl (by omega) (by omega) (by omega) (by omega) (by omega) (Nat.le_trans b5 (by omega)) e6) rfl rfl ⟨Nat.le_of_ble_eq_true rfl, Nat.le_of_ble_eq_true rfl⟩ ⟨by show _ + 9 ≤ 3000; omega, by show _ + 418 ≤ 130000; omega⟩ (by exact Nat.le_of_ble_eq_true rfl) (fun v6 h6 p6 => ?_)
  obtain ⟨rfl, H6⟩ := p6
  dsimp only [gk_push]
  clear e6 H5 hk5 b5
  refine gk_iload_n C dL_most_27 rfl ?_
  refine gk_bipush C dL_most_28 (by decide) ?_
  refine gk_icmp_ge C (tgt := 37) (by omega) (by omega) dL_most_30 (by decide) (fun c_30 => ?_) (fun c_30 => ?_)
  · exact absurd c_30 (by omega)
  refine gk_iload_n C dL_most_33 rfl ?_
  refine gk_goto C (tgt := 39) dL_most_34 (by decide) ?_
  refine gk_icmp_eq C (tgt := 44) (by omega) (by omega) dL_most_39 (by decide) (fun c_39 => ?_) (fun c_39 => ?_)
  rotate_left
  · exact absurd c_39 (by omega)
  refine gk_iinc_1 C rfl (by exact Nat.le_of_ble_eq_true rfl) dL_most_44 ?_
  rw [show ((5 : Int) + 1) = 6 by decide]
  refine gk_goto C (tgt := 10) dL_most_47 (by decide) ?_
  refine gk_iload_n C dL_most_10 rfl ?_
  refine gk_bipush C dL_most_11 (by decide) ?_
  refine gk_icmp_ge C (tgt := 50) (by omega) (by omega) dL_most_13 (by decide) (fun c_13 => ?_) (fun c_13 => ?_)
  · exact absurd c_13 (by omega)
  refine gk_aload_n C dL_most_16 rfl ?_
  refine gk_iconst C dL_most_17 ?_
  refine gk_iload_n C dL_most_18 rfl ?_
  refine gk_iconst C dL_most_19 ?_
  refine gk_irem C (by omega) (by omega) dL_most_20 ?_
  rw [show ((6 : Int) % 4) = 2 by decide]
  refine gk_iconst C dL_most_21 ?_
  refine gk_iconst C dL_most_22 ?_
  refine gk_iconst C dL_most_23 ?_
  obtain ⟨σ7, e7, b7, hk7⟩ := chk_c hk6
  refine gk_callSH C o_L_act k_L_100 dL_most_24 (act_e hfl H6 (w := 0) (a := (2)) (b := (0)) (c := (0)) (d := (0)) rfl (by omega) (by omega) (by omega) (by omega) (by omega) (Nat.le_trans b6 (by omega)) e7) rfl rfl ⟨Nat.le_of_ble_eq_true rfl, Nat.le_of_ble_eq_true rfl⟩ ⟨by show _ + 9 ≤ 3000; omega, by show _ + 418 ≤ 130000; omega⟩ (by exact Nat.le_of_ble_eq_true rfl) (fun v7 h7 p7 => ?_)
  obtain ⟨rfl, H7⟩ := p7
  dsimp only [gk_push]
  clear e7 H6 hk6 b6
  refine gk_iload_n C dL_most_27 rfl ?_
  refine gk_bipush C dL_most_28 (by decide) ?_
  refine gk_icmp_ge C (tgt := 37) (by omega) (by omega) dL_most_30 (by decide) (fun c_30 => ?_) (fun c_30 => ?_)
  · exact absurd c_30 (by omega)
  refine gk_iload_n C dL_most_33 rfl ?_
  refine gk_goto C (tgt := 39) dL_most_34 (by decide) ?_
  refine gk_icmp_eq C (tgt := 44) (by omega) (by omega) dL_most_39 (by decide) (fun c_39 => ?_) (fun c_39 => ?_)
  rotate_left
  · exact absurd c_39 (by omega)
  refine gk_iinc_1 C rfl (by exact Nat.le_of_ble_eq_true rfl) dL_most_44 ?_
  rw [show ((6 : Int) + 1) = 7 by decide]
  refine gk_goto C (tgt := 10) dL_most_47 (by decide) ?_
  refine gk_iload_n C dL_most_10 rfl ?_
  refine gk_bipush C dL_most_11 (by decide) ?_
  refine gk_icmp_ge C (tgt := 50) (by omega) (by omega) dL_most_13 (by decide) (fun c_13 => ?_) (fun c_13 => ?_)
  · exact absurd c_13 (by omega)
  refine gk_aload_n C dL_most_16 rfl ?_
  refine gk_iconst C dL_most_17 ?_
  refine gk_iload_n C dL_most_18 rfl ?_
  refine gk_iconst C dL_most_19 ?_
  refine gk_irem C (by omega) (by omega) dL_most_20 ?_
  rw [show ((7 : Int) % 4) = 3 by decide]
  refine gk_iconst C dL_most_21 ?_
  refine gk_iconst C dL_most_22 ?_
  refine gk_iconst C dL_most_23 ?_
  obtain ⟨σ8, e8, b8, hk8⟩ := chk_c hk7
  refine gk_callSH C o_L_act k_L_100 dL_most_24 (act_e hfl H7 (w := 0) (a := (3)) (b := (0)) (c := (0)) (d := (0)) rfl (by omega) (by omega) (by omega) (by omega) (by omega) (Nat.le_trans b7 (by omega)) e8) rfl rfl ⟨Nat.le_of_ble_eq_true rfl, Nat.le_of_ble_eq_true rfl⟩ ⟨by show _ + 9 ≤ 3000; omega, by show _ + 418 ≤ 130000; omega⟩ (by exact Nat.le_of_ble_eq_true rfl) (fun v8 h8 p8 => ?_)
  obtain ⟨rfl, H8⟩ := p8
  dsimp only [gk_push]
  clear e8 H7 hk7 b7
  refine gk_iload_n C dL_most_27 rfl ?_
  refine gk_bipush C dL_most_28 (by decide) ?_
  refine gk_icmp_ge C (tgt := 37) (by omega) (by omega) dL_most_30 (by decide) (fun c_30 => ?_) (fun c_30 => ?_)
  · exact absurd c_30 (by omega)
  refine gk_iload_n C dL_most_33 rfl ?_
  refine gk_goto C (tgt := 39) dL_most_34 (by decide) ?_
  refine gk_icmp_eq C (tgt := 44) (by omega) (by omega) dL_most_39 (by decide) (fun c_39 => ?_) (fun c_39 => ?_)
  rotate_left
  · exact absurd c_39 (by omega)
  refine gk_iinc_1 C rfl (by exact Nat.le_of_ble_eq_true rfl) dL_most_44 ?_
  rw [show ((7 : Int) + 1) = 8 by decide]
  refine gk_goto C (tgt := 10) dL_most_47 (by decide) ?_
  refine gk_iload_n C dL_most_10 rfl ?_
  refine gk_bipush C dL_most_11 (by decide) ?_
  refine gk_icmp_ge C (tgt := 50) (by omega) (by omega) dL_most_13 (by decide) (fun c_13 => ?_) (fun c_13 => ?_)
  · exact absurd c_13 (by omega)
  refine gk_aload_n C dL_most_16 rfl ?_
  refine gk_iconst C dL_most_17 ?_
  refine gk_iload_n C dL_most_18 rfl ?_
  refine gk_iconst C dL_most_19 ?_
  refine gk_irem C (by omega) (by omega) dL_most_20 ?_
  rw [show ((8 : Int) % 4) = 0 by decide]
  refine gk_iconst C dL_most_21 ?_
  refine gk_iconst C dL_most_22 ?_
  refine gk_iconst C dL_most_23 ?_
  obtain ⟨σ9, e9, b9, hk9⟩ := chk_c hk8
  refine gk_callSH C o_L_act k_L_100 dL_most_24 (act_e hfl H8 (w := 0) (a := (0)) (b := (0)) (c := (0)) (d := (0)) rfl (by omega) (by omega) (by omega) (by omega) (by omega) (Nat.le_trans b8 (by omega)) e9) rfl rfl ⟨Nat.le_of_ble_eq_true rfl, Nat.le_of_ble_eq_true rfl⟩ ⟨by show _ + 9 ≤ 3000; omega, by show _ + 418 ≤ 130000; omega⟩ (by exact Nat.le_of_ble_eq_true rfl) (fun v9 h9 p9 => ?_)
  obtain ⟨rfl, H9⟩ := p9
  dsimp only [gk_push]
  clear e9 H8 hk8 b8
  refine gk_iload_n C dL_most_27 rfl ?_
  refine gk_bipush C dL_most_28 (by decide) ?_
  refine gk_icmp_ge C (tgt := 37) (by omega) (by omega) dL_most_30 (by decide) (fun c_30 => ?_) (fun c_30 => ?_)
  · exact absurd c_30 (by omega)
  refine gk_iload_n C dL_most_33 rfl ?_
  refine gk_goto C (tgt := 39) dL_most_34 (by decide) ?_
  refine gk_icmp_eq C (tgt := 44) (by omega) (by omega) dL_most_39 (by decide) (fun c_39 => ?_) (fun c_39 => ?_)
  rotate_left
  · exact absurd c_39 (by omega)
  refine gk_iinc_1 C rfl (by exact Nat.le_of_ble_eq_true rfl) dL_most_44 ?_
  rw [show ((8 : Int) + 1) = 9 by decide]
  refine gk_goto C (tgt := 10) dL_most_47 (by decide) ?_
  refine gk_iload_n C dL_most_10 rfl ?_
  refine gk_bipush C dL_most_11 (by decide) ?_
  refine gk_icmp_ge C (tgt := 50) (by omega) (by omega) dL_most_13 (by decide) (fun c_13 => ?_) (fun c_13 => ?_)
  · exact absurd c_13 (by omega)
  refine gk_aload_n C dL_most_16 rfl ?_
  refine gk_iconst C dL_most_17 ?_
  refine gk_iload_n C dL_most_18 rfl ?_
  refine gk_iconst C dL_most_19 ?_
  refine gk_irem C (by omega) (by omega) dL_most_20 ?_
  rw [show ((9 : Int) % 4) = 1 by decide]
  refine gk_iconst C dL_most_21 ?_
  refine gk_iconst C dL_most_22 ?_
  refine gk_iconst C dL_most_23 ?_
  obtain ⟨σ10, e10, b10, hk10⟩ := chk_c hk9
  refine gk_callSH C o_L_act k_L_100 dL_most_24 (act_e hfl H9 (w := 0) (a := (1)) (b := (0)) (c := (0)) (d := (0)) rfl (by omega) (by omega) (by omega) (by omega) (by omega) (Nat.le_trans b9 (by omega)) e10) rfl rfl ⟨Nat.le_of_ble_eq_true rfl, Nat.le_of_ble_eq_true rfl⟩ ⟨by show _ + 9 ≤ 3000; omega, by show _ + 418 ≤ 130000; omega⟩ (by exact Nat.le_of_ble_eq_true rfl) (fun v10 h10 p10 => ?_)
  obtain ⟨rfl, H10⟩ := p10
  dsimp only [gk_push]
  clear e10 H9 hk9 b9
  refine gk_iload_n C dL_most_27 rfl ?_
  refine gk_bipush C dL_most_28 (by decide) ?_
  refine gk_icmp_ge C (tgt := 37) (by omega) (by omega) dL_most_30 (by decide) (fun c_30 => ?_) (fun c_30 => ?_)
  · exact absurd c_30 (by omega)
  refine gk_iload_n C dL_most_33 rfl ?_
  refine gk_goto C (tgt := 39) dL_most_34 (by decide) ?_
  refine gk_icmp_eq C (tgt := 44) (by omega) (by omega) dL_most_39 (by decide) (fun c_39 => ?_) (fun c_39 => ?_)
  rotate_left
  · exact absurd c_39 (by omega)
  refine gk_iinc_1 C rfl (by exact Nat.le_of_ble_eq_true rfl) dL_most_44 ?_
  rw [show ((9 : Int) + 1) = 10 by decide]
  refine gk_goto C (tgt := 10) dL_most_47 (by decide) ?_
  refine gk_iload_n C dL_most_10 rfl ?_
  refine gk_bipush C dL_most_11 (by decide) ?_
  refine gk_icmp_ge C (tgt := 50) (by omega) (by omega) dL_most_13 (by decide) (fun c_13 => ?_) (fun c_13 => ?_)
  · exact absurd c_13 (by omega)
  refine gk_aload_n C dL_most_16 rfl ?_
  refine gk_iconst C dL_most_17 ?_
  refine gk_iload_n C dL_most_18 rfl ?_
  refine gk_iconst C dL_most_19 ?_
  refine gk_irem C (by omega) (by omega) dL_most_20 ?_
  rw [show ((10 : Int) % 4) = 2 by decide]
  refine gk_iconst C dL_most_21 ?_
  refine gk_iconst C dL_most_22 ?_
  refine gk_iconst C dL_most_23 ?_
  obtain ⟨σ11, e11, b11, hk11⟩ := chk_c hk10
  refine gk_callSH C o_L_act k_L_100 dL_most_24 (act_e hfl H10 (w := 0) (a := (2)) (b := (0)) (c := (0)) (d := (0)) rfl (by omega) (by omega) (by omega) (by omega) (by omega) (Nat.le_trans b10 (by omega)) e11) rfl rfl ⟨Nat.le_of_ble_eq_true rfl, Nat.le_of_ble_eq_true rfl⟩ ⟨by show _ + 9 ≤ 3000; omega, by show _ + 418 ≤ 130000; omega⟩ (by exact Nat.le_of_ble_eq_true rfl) (fun v11 h11 p11 => ?_)
  obtain ⟨rfl, H11⟩ := p11
  dsimp only [gk_push]
  clear e11 H10 hk10 b10
  refine gk_iload_n C dL_most_27 rfl ?_
  refine gk_bipush C dL_most_28 (by decide) ?_
  refine gk_icmp_ge C (tgt := 37) (by omega) (by omega) dL_most_30 (by decide) (fun c_30 => ?_) (fun c_30 => ?_)
  rotate_left
  · exact absurd c_30 (by omega)
  refine gk_ldc C cn_L_91 dL_most_37 ?_
  refine gk_icmp_eq C (tgt := 44) (by omega) (by omega) dL_most_39 (by decide) (fun c_39 => ?_) (fun c_39 => ?_)
  rotate_left
  · exact absurd c_39 (by omega)
  refine gk_iinc_1 C rfl (by exact Nat.le_of_ble_eq_true rfl) dL_most_44 ?_
  rw [show ((10 : Int) + 1) = 11 by decide]
  refine gk_goto C (tgt := 10) dL_most_47 (by decide) ?_
  refine gk_iload_n C dL_most_10 rfl ?_
  refine gk_bipush C dL_most_11 (by decide) ?_
  refine gk_icmp_ge C (tgt := 50) (by omega) (by omega) dL_most_13 (by decide) (fun c_13 => ?_) (fun c_13 => ?_)
  rotate_left
  · exact absurd c_13 (by omega)
  refine gk_iconst C dL_most_50 ?_
  refine gk_istore_n_1 C rfl (by exact Nat.le_of_ble_eq_true rfl) dL_most_51 ?_
  refine gk_iload_n C dL_most_52 rfl ?_
  refine gk_bipush C dL_most_53 (by decide) ?_
  refine gk_icmp_ge C (tgt := 135) (by omega) (by omega) dL_most_55 (by decide) (fun c_55 => ?_) (fun c_55 => ?_)
  · exact absurd c_55 (by omega)
  refine gk_aload_n C dL_most_58 rfl ?_
  refine gk_iconst C dL_most_59 ?_
  refine gk_bipush C dL_most_60 (by decide) ?_
  refine gk_iload_n C dL_most_62 rfl ?_
  refine gk_iconst C dL_most_63 ?_
  refine gk_irem C (by omega) (by omega) dL_most_64 ?_
  rw [show ((0 : Int) % 2) = 0 by decide]
  refine gk_iconst C dL_most_65 ?_
  refine gk_iconst C dL_most_66 ?_
  obtain ⟨σ12, e12, b12, hk12⟩ := chk_c hk11
  refine gk_callSH C o_L_act k_L_100 dL_most_67 (act_e hfl H11 (w := 1) (a := (9)) (b := (0)) (c := (1)) (d := (0)) rfl (by omega) (by omega) (by omega) (by omega) (by omega) (Nat.le_trans b11 (by omega)) e12) rfl rfl ⟨Nat.le_of_ble_eq_true rfl, Nat.le_of_ble_eq_true rfl⟩ ⟨by show _ + 9 ≤ 3000; omega, by show _ + 418 ≤ 130000; omega⟩ (by exact Nat.le_of_ble_eq_true rfl) (fun v12 h12 p12 => ?_)
  obtain ⟨rfl, H12⟩ := p12
  dsimp only [gk_push]
  clear e12 H11 hk11 b11
  refine gk_iload_n C dL_most_70 rfl ?_
  refine gk_bipush C dL_most_71 (by decide) ?_
  refine gk_icmp_ge C (tgt := 82) (by omega) (by omega) dL_most_73 (by decide) (fun c_73 => ?_) (fun c_73 => ?_)
  · exact absurd c_73 (by omega)
  refine gk_iload_n C dL_most_76 rfl ?_
  refine gk_iconst C dL_most_77 ?_
  refine gk_iadd C dL_most_78 ?_
  rw [show ((0 : Int) + 1) = 1 by decide]
  refine gk_goto C (tgt := 84) dL_most_79 (by decide) ?_
  refine gk_icmp_eq C (tgt := 89) (by omega) (by omega) dL_most_84 (by decide) (fun c_84 => ?_) (fun c_84 => ?_)
  rotate_left
  · exact absurd c_84 (by omega)
  refine gk_iload_n C dL_most_89 rfl ?_
  refine gk_iconst C dL_most_90 ?_
  refine gk_irem C (by omega) (by omega) dL_most_91 ?_
  rw [show ((0 : Int) % 4) = 0 by decide]
  refine gk_iconst C dL_most_92 ?_
  refine gk_icmp_ne C (tgt := 129) (by omega) (by omega) dL_most_93 (by decide) (fun c_93 => ?_) (fun c_93 => ?_)
  rotate_left
  · exact absurd c_93 (by omega)
  refine gk_iinc_1 C rfl (by exact Nat.le_of_ble_eq_true rfl) dL_most_129 ?_
  rw [show ((0 : Int) + 1) = 1 by decide]
  refine gk_goto C (tgt := 52) dL_most_132 (by decide) ?_
  refine gk_iload_n C dL_most_52 rfl ?_
  refine gk_bipush C dL_most_53 (by decide) ?_
  refine gk_icmp_ge C (tgt := 135) (by omega) (by omega) dL_most_55 (by decide) (fun c_55 => ?_) (fun c_55 => ?_)
  · exact absurd c_55 (by omega)
  refine gk_aload_n C dL_most_58 rfl ?_
  refine gk_iconst C dL_most_59 ?_
  refine gk_bipush C dL_most_60 (by decide) ?_
  refine gk_iload_n C dL_most_62 rfl ?_
  refine gk_iconst C dL_most_63 ?_
  refine gk_irem C (by omega) (by omega) dL_most_64 ?_
  rw [show ((1 : Int) % 2) = 1 by decide]
  refine gk_iconst C dL_most_65 ?_
  refine gk_iconst C dL_most_66 ?_
  obtain ⟨σ13, e13, b13, hk13⟩ := chk_c hk12
  refine gk_callSH C o_L_act k_L_100 dL_most_67 (act_e hfl H12 (w := 1) (a := (9)) (b := (1)) (c := (1)) (d := (0)) rfl (by omega) (by omega) (by omega) (by omega) (by omega) (Nat.le_trans b12 (by omega)) e13) rfl rfl ⟨Nat.le_of_ble_eq_true rfl, Nat.le_of_ble_eq_true rfl⟩ ⟨by show _ + 9 ≤ 3000; omega, by show _ + 418 ≤ 130000; omega⟩ (by exact Nat.le_of_ble_eq_true rfl) (fun v13 h13 p13 => ?_)
  obtain ⟨rfl, H13⟩ := p13
  dsimp only [gk_push]
  clear e13 H12 hk12 b12
  refine gk_iload_n C dL_most_70 rfl ?_
  refine gk_bipush C dL_most_71 (by decide) ?_
  refine gk_icmp_ge C (tgt := 82) (by omega) (by omega) dL_most_73 (by decide) (fun c_73 => ?_) (fun c_73 => ?_)
  · exact absurd c_73 (by omega)
  refine gk_iload_n C dL_most_76 rfl ?_
  refine gk_iconst C dL_most_77 ?_
  refine gk_iadd C dL_most_78 ?_
  rw [show ((1 : Int) + 1) = 2 by decide]
  refine gk_goto C (tgt := 84) dL_most_79 (by decide) ?_
  refine gk_icmp_eq C (tgt := 89) (by omega) (by omega) dL_most_84 (by decide) (fun c_84 => ?_) (fun c_84 => ?_)
  rotate_left
  · exact absurd c_84 (by omega)
  refine gk_iload_n C dL_most_89 rfl ?_
  refine gk_iconst C dL_most_90 ?_
  refine gk_irem C (by omega) (by omega) dL_most_91 ?_
  rw [show ((1 : Int) % 4) = 1 by decide]
  refine gk_iconst C dL_most_92 ?_
  refine gk_icmp_ne C (tgt := 129) (by omega) (by omega) dL_most_93 (by decide) (fun c_93 => ?_) (fun c_93 => ?_)
  rotate_left
  · exact absurd c_93 (by omega)
  refine gk_iinc_1 C rfl (by exact Nat.le_of_ble_eq_true rfl) dL_most_129 ?_
  rw [show ((1 : Int) + 1) = 2 by decide]
  refine gk_goto C (tgt := 52) dL_most_132 (by decide) ?_
  refine gk_iload_n C dL_most_52 rfl ?_
  refine gk_bipush C dL_most_53 (by decide) ?_
  refine gk_icmp_ge C (tgt := 135) (by omega) (by omega) dL_most_55 (by decide) (fun c_55 => ?_) (fun c_55 => ?_)
  · exact absurd c_55 (by omega)
  refine gk_aload_n C dL_most_58 rfl ?_
  refine gk_iconst C dL_most_59 ?_
  refine gk_bipush C dL_most_60 (by decide) ?_
  refine gk_iload_n C dL_most_62 rfl ?_
  refine gk_iconst C dL_most_63 ?_
  refine gk_irem C (by omega) (by omega) dL_most_64 ?_
  rw [show ((2 : Int) % 2) = 0 by decide]
  refine gk_iconst C dL_most_65 ?_
  refine gk_iconst C dL_most_66 ?_
  obtain ⟨σ14, e14, b14, hk14⟩ := chk_c hk13
  refine gk_callSH C o_L_act k_L_100 dL_most_67 (act_e hfl H13 (w := 1) (a := (9)) (b := (0)) (c := (1)) (d := (0)) rfl (by omega) (by omega) (by omega) (by omega) (by omega) (Nat.le_trans b13 (by omega)) e14) rfl rfl ⟨Nat.le_of_ble_eq_true rfl, Nat.le_of_ble_eq_true rfl⟩ ⟨by show _ + 9 ≤ 3000; omega, by show _ + 418 ≤ 130000; omega⟩ (by exact Nat.le_of_ble_eq_true rfl) (fun v14 h14 p14 => ?_)
  obtain ⟨rfl, H14⟩ := p14
  dsimp only [gk_push]
  clear e14 H13 hk13 b13
  refine gk_iload_n C dL_most_70 rfl ?_
  refine gk_bipush C dL_most_71 (by decide) ?_
  refine gk_icmp_ge C (tgt := 82) (by omega) (by omega) dL_most_73 (by decide) (fun c_73 => ?_) (fun c_73 => ?_)
  · exact absurd c_73 (by omega)
  refine gk_iload_n C dL_most_76 rfl ?_
  refine gk_iconst C dL_most_77 ?_
  refine gk_iadd C dL_most_78 ?_
  rw [show ((2 : Int) + 1) = 3 by decide]
  refine gk_goto C (tgt := 84) dL_most_79 (by decide) ?_
  refine gk_icmp_eq C (tgt := 89) (by omega) (by omega) dL_most_84 (by decide) (fun c_84 => ?_) (fun c_84 => ?_)
  rotate_left
  · exact absurd c_84 (by omega)
  refine gk_iload_n C dL_most_89 rfl ?_
  refine gk_iconst C dL_most_90 ?_
  refine gk_irem C (by omega) (by omega) dL_most_91 ?_
  rw [show ((2 : Int) % 4) = 2 by decide]
  refine gk_iconst C dL_most_92 ?_
  refine gk_icmp_ne C (tgt := 129) (by omega) (by omega) dL_most_93 (by decide) (fun c_93 => ?_) (fun c_93 => ?_)
  rotate_left
  · exact absurd c_93 (by omega)
  refine gk_iinc_1 C rfl (by exact Nat.le_of_ble_eq_true rfl) dL_most_129 ?_
  rw [show ((2 : Int) + 1) = 3 by decide]
  refine gk_goto C (tgt := 52) dL_most_132 (by decide) ?_
  refine gk_iload_n C dL_most_52 rfl ?_
  refine gk_bipush C dL_most_53 (by decide) ?_
  refine gk_icmp_ge C (tgt := 135) (by omega) (by omega) dL_most_55 (by decide) (fun c_55 => ?_) (fun c_55 => ?_)
  · exact absurd c_55 (by omega)
  refine gk_aload_n C dL_most_58 rfl ?_
  refine gk_iconst C dL_most_59 ?_
  refine gk_bipush C dL_most_60 (by decide) ?_
  refine gk_iload_n C dL_most_62 rfl ?_
  refine gk_iconst C dL_most_63 ?_
  refine gk_irem C (by omega) (by omega) dL_most_64 ?_
  rw [show ((3 : Int) % 2) = 1 by decide]
  refine gk_iconst C dL_most_65 ?_
  refine gk_iconst C dL_most_66 ?_
  obtain ⟨σ15, e15, b15, hk15⟩ := chk_c hk14
  refine gk_callSH C o_L_act k_L_100 dL_most_67 (act_e hfl H14 (w := 1) (a := (9)) (b := (1)) (c := (1)) (d := (0)) rfl (by omega) (by omega) (by omega) (by omega) (by omega) (Nat.le_trans b14 (by omega)) e15) rfl rfl ⟨Nat.le_of_ble_eq_true rfl, Nat.le_of_ble_eq_true rfl⟩ ⟨by show _ + 9 ≤ 3000; omega, by show _ + 418 ≤ 130000; omega⟩ (by exact Nat.le_of_ble_eq_true rfl) (fun v15 h15 p15 => ?_)
  obtain ⟨rfl, H15⟩ := p15
  dsimp only [gk_push]
  clear e15 H14 hk14 b14
  refine gk_iload_n C dL_most_70 rfl ?_
  refine gk_bipush C dL_most_71 (by decide) ?_
  refine gk_icmp_ge C (tgt := 82) (by omega) (by omega) dL_most_73 (by decide) (fun c_73 => ?_) (fun c_73 => ?_)
  · exact absurd c_73 (by omega)
  refine gk_iload_n C dL_most_76 rfl ?_
  refine gk_iconst C dL_most_77 ?_
  refine gk_iadd C dL_most_78 ?_
  rw [show ((3 : Int) + 1) = 4 by decide]
  refine gk_goto C (tgt := 84) dL_most_79 (by decide) ?_
  refine gk_icmp_eq C (tgt := 89) (by omega) (by omega) dL_most_84 (by decide) (fun c_84 => ?_) (fun c_84 => ?_)
  rotate_left
  · exact absurd c_84 (by omega)
  refine gk_iload_n C dL_most_89 rfl ?_
  refine gk_iconst C dL_most_90 ?_
  refine gk_irem C (by omega) (by omega) dL_most_91 ?_
  rw [show ((3 : Int) % 4) = 3 by decide]
  refine gk_iconst C dL_most_92 ?_
  refine gk_icmp_ne C (tgt := 129) (by omega) (by omega) dL_most_93 (by decide) (fun c_93 => ?_) (fun c_93 => ?_)
  · exact absurd c_93 (by omega)
  refine gk_iload_n C dL_most_96 rfl ?_
  refine gk_bipush C dL_most_97 (by decide) ?_
  refine gk_icmp_ge C (tgt := 129) (by omega) (by omega) dL_most_99 (by decide) (fun c_99 => ?_) (fun c_99 => ?_)
  · exact absurd c_99 (by omega)
  refine gk_aload_n C dL_most_102 rfl ?_
  refine gk_iconst C dL_most_103 ?_
  refine gk_bipush C dL_most_104 (by decide) ?_
  refine gk_iconst C dL_most_106 ?_
  refine gk_iconst C dL_most_107 ?_
  refine gk_iconst C dL_most_108 ?_
  obtain ⟨σ16, e16, b16, hk16⟩ := chk_c hk15
  refine gk_callSH C o_L_act k_L_100 dL_most_109 (act_e hfl H15 (w := 2) (a := (9)) (b := (1)) (c := (0)) (d := (0)) rfl (by omega) (by omega) (by omega) (by omega) (by omega) (Nat.le_trans b15 (by omega)) e16) rfl rfl ⟨Nat.le_of_ble_eq_true rfl, Nat.le_of_ble_eq_true rfl⟩ ⟨by show _ + 9 ≤ 3000; omega, by show _ + 418 ≤ 130000; omega⟩ (by exact Nat.le_of_ble_eq_true rfl) (fun v16 h16 p16 => ?_)
  obtain ⟨rfl, H16⟩ := p16
  dsimp only [gk_push]
  clear e16 H15 hk15 b15
  refine gk_iload_n C dL_most_112 rfl ?_
  refine gk_bipush C dL_most_113 (by decide) ?_
  refine gk_icmp_ne C (tgt := 122) (by omega) (by omega) dL_most_115 (by decide) (fun c_115 => ?_) (fun c_115 => ?_)
  rotate_left
  · exact absurd c_115 (by omega)
  refine gk_ldc C cn_L_91 dL_most_122 ?_
  refine gk_icmp_eq C (tgt := 129) (by omega) (by omega) dL_most_124 (by decide) (fun c_124 => ?_) (fun c_124 => ?_)
  rotate_left
  · exact absurd c_124 (by omega)
  refine gk_iinc_1 C rfl (by exact Nat.le_of_ble_eq_true rfl) dL_most_129 ?_
  rw [show ((3 : Int) + 1) = 4 by decide]
  refine gk_goto C (tgt := 52) dL_most_132 (by decide) ?_
  refine gk_iload_n C dL_most_52 rfl ?_
  refine gk_bipush C dL_most_53 (by decide) ?_
  refine gk_icmp_ge C (tgt := 135) (by omega) (by omega) dL_most_55 (by decide) (fun c_55 => ?_) (fun c_55 => ?_)
  · exact absurd c_55 (by omega)
  refine gk_aload_n C dL_most_58 rfl ?_
  refine gk_iconst C dL_most_59 ?_
  refine gk_bipush C dL_most_60 (by decide) ?_
  refine gk_iload_n C dL_most_62 rfl ?_
  refine gk_iconst C dL_most_63 ?_
  refine gk_irem C (by omega) (by omega) dL_most_64 ?_
  rw [show ((4 : Int) % 2) = 0 by decide]
  refine gk_iconst C dL_most_65 ?_
  refine gk_iconst C dL_most_66 ?_
  obtain ⟨σ17, e17, b17, hk17⟩ := chk_c hk16
  refine gk_callSH C o_L_act k_L_100 dL_most_67 (act_e hfl H16 (w := 1) (a := (9)) (b := (0)) (c := (1)) (d := (0)) rfl (by omega) (by omega) (by omega) (by omega) (by omega) (Nat.le_trans b16 (by omega)) e17) rfl rfl ⟨Nat.le_of_ble_eq_true rfl, Nat.le_of_ble_eq_true rfl⟩ ⟨by show _ + 9 ≤ 3000; omega, by show _ + 418 ≤ 130000; omega⟩ (by exact Nat.le_of_ble_eq_true rfl) (fun v17 h17 p17 => ?_)
  obtain ⟨rfl, H17⟩ := p17
  dsimp only [gk_push]
  clear e17 H16 hk16 b16
  refine gk_iload_n C dL_most_70 rfl ?_
  refine gk_bipush C dL_most_71 (by decide) ?_
  refine gk_icmp_ge C (tgt := 82) (by omega) (by omega) dL_most_73 (by decide) (fun c_73 => ?_) (fun c_73 => ?_)
  · exact absurd c_73 (by omega)
  refine gk_iload_n C dL_most_76 rfl ?_
  refine gk_iconst C dL_most_77 ?_
  refine gk_iadd C dL_most_78 ?_
  rw [show ((4 : Int) + 1) = 5 by decide]
  refine gk_goto C (tgt := 84) dL_most_79 (by decide) ?_
  refine gk_icmp_eq C (tgt := 89) (by omega) (by omega) dL_most_84 (by decide) (fun c_84 => ?_) (fun c_84 => ?_)
  rotate_left
  · exact absurd c_84 (by omega)
  refine gk_iload_n C dL_most_89 rfl ?_
  refine gk_iconst C dL_most_90 ?_
  refine gk_irem C (by omega) (by omega) dL_most_91 ?_
  rw [show ((4 : Int) % 4) = 0 by decide]
  refine gk_iconst C dL_most_92 ?_
  refine gk_icmp_ne C (tgt := 129) (by omega) (by omega) dL_most_93 (by decide) (fun c_93 => ?_) (fun c_93 => ?_)
  rotate_left
  · exact absurd c_93 (by omega)
  refine gk_iinc_1 C rfl (by exact Nat.le_of_ble_eq_true rfl) dL_most_129 ?_
  rw [show ((4 : Int) + 1) = 5 by decide]
  refine gk_goto C (tgt := 52) dL_most_132 (by decide) ?_
  refine gk_iload_n C dL_most_52 rfl ?_
  refine gk_bipush C dL_most_53 (by decide) ?_
  refine gk_icmp_ge C (tgt := 135) (by omega) (by omega) dL_most_55 (by decide) (fun c_55 => ?_) (fun c_55 => ?_)
  · exact absurd c_55 (by omega)
  refine gk_aload_n C dL_most_58 rfl ?_
  refine gk_iconst C dL_most_59 ?_
  refine gk_bipush C dL_most_60 (by decide) ?_
  refine gk_iload_n C dL_most_62 rfl ?_
  refine gk_iconst C dL_most_63 ?_
  refine gk_irem C (by omega) (by omega) dL_most_64 ?_
  rw [show ((5 : Int) % 2) = 1 by decide]
  refine gk_iconst C dL_most_65 ?_
  refine gk_iconst C dL_most_66 ?_
  obtain ⟨σ18, e18, b18, hk18⟩ := chk_c hk17
  refine gk_callSH C o_L_act k_L_100 dL_most_67 (act_e hfl H17 (w := 1) (a := (9)) (b := (1)) (c := (1)) (d := (0)) rfl (by omega) (by omega) (by omega) (by omega) (by omega) (Nat.le_trans b17 (by omega)) e18) rfl rfl ⟨Nat.le_of_ble_eq_true rfl, Nat.le_of_ble_eq_true rfl⟩ ⟨by show _ + 9 ≤ 3000; omega, by show _ + 418 ≤ 130000; omega⟩ (by exact Nat.le_of_ble_eq_true rfl) (fun v18 h18 p18 => ?_)
  obtain ⟨rfl, H18⟩ := p18
  dsimp only [gk_push]
  clear e18 H17 hk17 b17
  refine gk_iload_n C dL_most_70 rfl ?_
  refine gk_bipush C dL_most_71 (by decide) ?_
  refine gk_icmp_ge C (tgt := 82) (by omega) (by omega) dL_most_73 (by decide) (fun c_73 => ?_) (fun c_73 => ?_)
  · exact absurd c_73 (by omega)
  refine gk_iload_n C dL_most_76 rfl ?_
  refine gk_iconst C dL_most_77 ?_
  refine gk_iadd C dL_most_78 ?_
  rw [show ((5 : Int) + 1) = 6 by decide]
  refine gk_goto C (tgt := 84) dL_most_79 (by decide) ?_
  refine gk_icmp_eq C (tgt := 89) (by omega) (by omega) dL_most_84 (by decide) (fun c_84 => ?_) (fun c_84 => ?_)
  rotate_left
  · exact absurd c_84 (by omega)
  refine gk_iload_n C dL_most_89 rfl ?_
  refine gk_iconst C dL_most_90 ?_
  refine gk_irem C (by omega) (by omega) dL_most_91 ?_
  rw [show ((5 : Int) % 4) = 1 by decide]
  refine gk_iconst C dL_most_92 ?_
  refine gk_icmp_ne C (tgt := 129) (by omega) (by omega) dL_most_93 (by decide) (fun c_93 => ?_) (fun c_93 => ?_)
  rotate_left
  · exact absurd c_93 (by omega)
  refine gk_iinc_1 C rfl (by exact Nat.le_of_ble_eq_true rfl) dL_most_129 ?_
  rw [show ((5 : Int) + 1) = 6 by decide]
  refine gk_goto C (tgt := 52) dL_most_132 (by decide) ?_
  refine gk_iload_n C dL_most_52 rfl ?_
  refine gk_bipush C dL_most_53 (by decide) ?_
  refine gk_icmp_ge C (tgt := 135) (by omega) (by omega) dL_most_55 (by decide) (fun c_55 => ?_) (fun c_55 => ?_)
  · exact absurd c_55 (by omega)
  refine gk_aload_n C dL_most_58 rfl ?_
  refine gk_iconst C dL_most_59 ?_
  refine gk_bipush C dL_most_60 (by decide) ?_
  refine gk_iload_n C dL_most_62 rfl ?_
  refine gk_iconst C dL_most_63 ?_
  refine gk_irem C (by omega) (by omega) dL_most_64 ?_
  rw [show ((6 : Int) % 2) = 0 by decide]
  refine gk_iconst C dL_most_65 ?_
  refine gk_iconst C dL_most_66 ?_
  obtain ⟨σ19, e19, b19, hk19⟩ := chk_c hk18
  refine gk_callSH C o_L_act k_L_100 dL_most_67 (act_e hfl H18 (w := 1) (a := (9)) (b := (0)) (c := (1)) (d := (0)) rfl (by omega) (by omega) (by omega) (by omega) (by omega) (Nat.le_trans b18 (by omega)) e19) rfl rfl ⟨Nat.le_of_ble_eq_true rfl, Nat.le_of_ble_eq_true rfl⟩ ⟨by show _ + 9 ≤ 3000; omega, by show _ + 418 ≤ 130000; omega⟩ (by exact Nat.le_of_ble_eq_true rfl) (fun v19 h19 p19 => ?_)
  obtain ⟨rfl, H19⟩ := p19
  dsimp only [gk_push]
  clear e19 H18 hk18 b18
  refine gk_iload_n C dL_most_70 rfl ?_
  refine gk_bipush C dL_most_71 (by decide) ?_
  refine gk_icmp_ge C (tgt := 82) (by omega) (by omega) dL_most_73 (by decide) (fun c_73 => ?_) (fun c_73 => ?_)
  · exact absurd c_73 (by omega)
  refine gk_iload_n C dL_most_76 rfl ?_
  refine gk_iconst C dL_most_77 ?_
  refine gk_iadd C dL_most_78 ?_
  rw [show ((6 : Int) + 1) = 7 by decide]
  refine gk_goto C (tgt := 84) dL_most_79 (by decide) ?_
  refine gk_icmp_eq C (tgt := 89) (by omega) (by omega) dL_most_84 (by decide) (fun c_84 => ?_) (fun c_84 => ?_)
  rotate_left
  · exact absurd c_84 (by omega)
  refine gk_iload_n C dL_most_89 rfl ?_
  refine gk_iconst C dL_most_90 ?_
  refine gk_irem C (by omega) (by omega) dL_most_91 ?_
  rw [show ((6 : Int) % 4) = 2 by decide]
  refine gk_iconst C dL_most_92 ?_
  refine gk_icmp_ne C (tgt := 129) (by omega) (by omega) dL_most_93 (by decide) (fun c_93 => ?_) (fun c_93 => ?_)
  rotate_left
  · exact absurd c_93 (by omega)
  refine gk_iinc_1 C rfl (by exact Nat.le_of_ble_eq_true rfl) dL_most_129 ?_
  rw [show ((6 : Int) + 1) = 7 by decide]
  refine gk_goto C (tgt := 52) dL_most_132 (by decide) ?_
  refine gk_iload_n C dL_most_52 rfl ?_
  refine gk_bipush C dL_most_53 (by decide) ?_
  refine gk_icmp_ge C (tgt := 135) (by omega) (by omega) dL_most_55 (by decide) (fun c_55 => ?_) (fun c_55 => ?_)
  · exact absurd c_55 (by omega)
  refine gk_aload_n C dL_most_58 rfl ?_
  refine gk_iconst C dL_most_59 ?_
  refine gk_bipush C dL_most_60 (by decide) ?_
  refine gk_iload_n C dL_most_62 rfl ?_
  refine gk_iconst C dL_most_63 ?_
  refine gk_irem C (by omega) (by omega) dL_most_64 ?_
  rw [show ((7 : Int) % 2) = 1 by decide]
  refine gk_iconst C dL_most_65 ?_
  refine gk_iconst C dL_most_66 ?_
  obtain ⟨σ20, e20, b20, hk20⟩ := chk_c hk19
  refine gk_callSH C o_L_act k_L_100 dL_most_67 (act_e hfl H19 (w := 1) (a := (9)) (b := (1)) (c := (1)) (d := (0)) rfl (by omega) (by omega) (by omega) (by omega) (by omega) (Nat.le_trans b19 (by omega)) e20) rfl rfl ⟨Nat.le_of_ble_eq_true rfl, Nat.le_of_ble_eq_true rfl⟩ ⟨by show _ + 9 ≤ 3000; omega, by show _ + 418 ≤ 130000; omega⟩ (by exact Nat.le_of_ble_eq_true rfl) (fun v20 h20 p20 => ?_)
  obtain ⟨rfl, H20⟩ := p20
  dsimp only [gk_push]
  clear e20 H19 hk19 b19
  refine gk_iload_n C dL_most_70 rfl ?_
  refine gk_bipush C dL_most_71 (by decide) ?_
  refine gk_icmp_ge C (tgt := 82) (by omega) (by omega) dL_most_73 (by decide) (fun c_73 => ?_) (fun c_73 => ?_)
  · exact absurd c_73 (by omega)
  refine gk_iload_n C dL_most_76 rfl ?_
  refine gk_iconst C dL_most_77 ?_
  refine gk_iadd C dL_most_78 ?_
  rw [show ((7 : Int) + 1) = 8 by decide]
  refine gk_goto C (tgt := 84) dL_most_79 (by decide) ?_
  refine gk_icmp_eq C (tgt := 89) (by omega) (by omega) dL_most_84 (by decide) (fun c_84 => ?_) (fun c_84 => ?_)
  rotate_left
  · exact absurd c_84 (by omega)
  refine gk_iload_n C dL_most_89 rfl ?_
  refine gk_iconst C dL_most_90 ?_
  refine gk_irem C (by omega) (by omega) dL_most_91 ?_
  rw [show ((7 : Int) % 4) = 3 by decide]
  refine gk_iconst C dL_most_92 ?_
  refine gk_icmp_ne C (tgt := 129) (by omega) (by omega) dL_most_93 (by decide) (fun c_93 => ?_) (fun c_93 => ?_)
  · exact absurd c_93 (by omega)
  refine gk_iload_n C dL_most_96 rfl ?_
  refine gk_bipush C dL_most_97 (by decide) ?_
  refine gk_icmp_ge C (tgt := 129) (by omega) (by omega) dL_most_99 (by decide) (fun c_99 => ?_) (fun c_99 => ?_)
  · exact absurd c_99 (by omega)
  refine gk_aload_n C dL_most_102 rfl ?_
  refine gk_iconst C dL_most_103 ?_
  refine gk_bipush C dL_most_104 (by decide) ?_
  refine gk_iconst C dL_most_106 ?_
  refine gk_iconst C dL_most_107 ?_
  refine gk_iconst C dL_most_108 ?_
  obtain ⟨σ21, e21, b21, hk21⟩ := chk_c hk20
  refine gk_callSH C o_L_act k_L_100 dL_most_109 (act_e hfl H20 (w := 2) (a := (9)) (b := (1)) (c := (0)) (d := (0)) rfl (by omega) (by omega) (by omega) (by omega) (by omega) (Nat.le_trans b20 (by omega)) e21) rfl rfl ⟨Nat.le_of_ble_eq_true rfl, Nat.le_of_ble_eq_true rfl⟩ ⟨by show _ + 9 ≤ 3000; omega, by show _ + 418 ≤ 130000; omega⟩ (by exact Nat.le_of_ble_eq_true rfl) (fun v21 h21 p21 => ?_)
  obtain ⟨rfl, H21⟩ := p21
  dsimp only [gk_push]
  clear e21 H20 hk20 b20
  refine gk_iload_n C dL_most_112 rfl ?_
  refine gk_bipush C dL_most_113 (by decide) ?_
  refine gk_icmp_ne C (tgt := 122) (by omega) (by omega) dL_most_115 (by decide) (fun c_115 => ?_) (fun c_115 => ?_)
  rotate_left
  · exact absurd c_115 (by omega)
  refine gk_ldc C cn_L_91 dL_most_122 ?_
  refine gk_icmp_eq C (tgt := 129) (by omega) (by omega) dL_most_124 (by decide) (fun c_124 => ?_) (fun c_124 => ?_)
  rotate_left
  · exact absurd c_124 (by omega)
  refine gk_iinc_1 C rfl (by exact Nat.le_of_ble_eq_true rfl) dL_most_129 ?_
  rw [show ((7 : Int) + 1) = 8 by decide]
  refine gk_goto C (tgt := 52) dL_most_132 (by decide) ?_
  refine gk_iload_n C dL_most_52 rfl ?_
  refine gk_bipush C dL_most_53 (by decide) ?_
  refine gk_icmp_ge C (tgt := 135) (by omega) (by omega) dL_most_55 (by decide) (fun c_55 => ?_) (fun c_55 => ?_)
  · exact absurd c_55 (by omega)
  refine gk_aload_n C dL_most_58 rfl ?_
  refine gk_iconst C dL_most_59 ?_
  refine gk_bipush C dL_most_60 (by decide) ?_
  refine gk_iload_n C dL_most_62 rfl ?_
  refine gk_iconst C dL_most_63 ?_
  refine gk_irem C (by omega) (by omega) dL_most_64 ?_
  rw [show ((8 : Int) % 2) = 0 by decide]
  refine gk_iconst C dL_most_65 ?_
  refine gk_iconst C dL_most_66 ?_
  obtain ⟨σ22, e22, b22, hk22⟩ := chk_c hk21
  refine gk_callSH C o_L_act k_L_100 dL_most_67 (act_e hfl H21 (w := 1) (a := (9)) (b := (0)) (c := (1)) (d := (0)) rfl (by omega) (by omega) (by omega) (by omega) (by omega) (Nat.le_trans b21 (by omega)) e22) rfl rfl ⟨Nat.le_of_ble_eq_true rfl, Nat.le_of_ble_eq_true rfl⟩ ⟨by show _ + 9 ≤ 3000; omega, by show _ + 418 ≤ 130000; omega⟩ (by exact Nat.le_of_ble_eq_true rfl) (fun v22 h22 p22 => ?_)
  obtain ⟨rfl, H22⟩ := p22
  dsimp only [gk_push]
  clear e22 H21 hk21 b21
  refine gk_iload_n C dL_most_70 rfl ?_
  refine gk_bipush C dL_most_71 (by decide) ?_
  refine gk_icmp_ge C (tgt := 82) (by omega) (by omega) dL_most_73 (by decide) (fun c_73 => ?_) (fun c_73 => ?_)
  · exact absurd c_73 (by omega)
  refine gk_iload_n C dL_most_76 rfl ?_
  refine gk_iconst C dL_most_77 ?_
  refine gk_iadd C dL_most_78 ?_
  rw [show ((8 : Int) + 1) = 9 by decide]
  refine gk_goto C (tgt := 84) dL_most_79 (by decide) ?_
  refine gk_icmp_eq C (tgt := 89) (by omega) (by omega) dL_most_84 (by decide) (fun c_84 => ?_) (fun c_84 => ?_)
  rotate_left
  · exact absurd c_84 (by omega)
  refine gk_iload_n C dL_most_89 rfl ?_
  refine gk_iconst C dL_most_90 ?_
  refine gk_irem C (by omega) (by omega) dL_most_91 ?_
  rw [show ((8 : Int) % 4) = 0 by decide]
  refine gk_iconst C dL_most_92 ?_
  refine gk_icmp_ne C (tgt := 129) (by omega) (by omega) dL_most_93 (by decide) (fun c_93 => ?_) (fun c_93 => ?_)
  rotate_left
  · exact absurd c_93 (by omega)
  refine gk_iinc_1 C rfl (by exact Nat.le_of_ble_eq_true rfl) dL_most_129 ?_
  rw [show ((8 : Int) + 1) = 9 by decide]
  refine gk_goto C (tgt := 52) dL_most_132 (by decide) ?_
  refine gk_iload_n C dL_most_52 rfl ?_
  refine gk_bipush C dL_most_53 (by decide) ?_
  refine gk_icmp_ge C (tgt := 135) (by omega) (by omega) dL_most_55 (by decide) (fun c_55 => ?_) (fun c_55 => ?_)
  · exact absurd c_55 (by omega)
  refine gk_aload_n C dL_most_58 rfl ?_
  refine gk_iconst C dL_most_59 ?_
  refine gk_bipush C dL_most_60 (by decide) ?_
  refine gk_iload_n C dL_most_62 rfl ?_
  refine gk_iconst C dL_most_63 ?_
  refine gk_irem C (by omega) (by omega) dL_most_64 ?_
  rw [show ((9 : Int) % 2) = 1 by decide]
  refine gk_iconst C dL_most_65 ?_
  refine gk_iconst C dL_most_66 ?_
  obtain ⟨σ23, e23, b23, hk23⟩ := chk_c hk22
  refine gk_callSH C o_L_act k_L_100 dL_most_67 (act_e hfl H22 (w := 1) (a := (9)) (b := (1)) (c := (1)) (d := (0)) rfl (by omega) (by omega) (by omega) (by omega) (by omega) (Nat.le_trans b22 (by omega)) e23) rfl rfl ⟨Nat.le_of_ble_eq_true rfl, Nat.le_of_ble_eq_true rfl⟩ ⟨by show _ + 9 ≤ 3000; omega, by show _ + 418 ≤ 130000; omega⟩ (by exact Nat.le_of_ble_eq_true rfl) (fun v23 h23 p23 => ?_)
  obtain ⟨rfl, H23⟩ := p23
  dsimp only [gk_push]
  clear e23 H22 hk22 b22
  refine gk_iload_n C dL_most_70 rfl ?_
  refine gk_bipush C dL_most_71 (by decide) ?_
  refine gk_icmp_ge C (tgt := 82) (by omega) (by omega) dL_most_73 (by decide) (fun c_73 => ?_) (fun c_73 => ?_)
  · exact absurd c_73 (by omega)
  refine gk_iload_n C dL_most_76 rfl ?_
  refine gk_iconst C dL_most_77 ?_
  refine gk_iadd C dL_most_78 ?_
  rw [show ((9 : Int) + 1) = 10 by decide]
  refine gk_goto C (tgt := 84) dL_most_79 (by decide) ?_
  refine gk_icmp_eq C (tgt := 89) (by omega) (by omega) dL_most_84 (by decide) (fun c_84 => ?_) (fun c_84 => ?_)
  rotate_left
  · exact absurd c_84 (by omega)
  refine gk_iload_n C dL_most_89 rfl ?_
  refine gk_iconst C dL_most_90 ?_
  refine gk_irem C (by omega) (by omega) dL_most_91 ?_
  rw [show ((9 : Int) % 4) = 1 by decide]
  refine gk_iconst C dL_most_92 ?_
  refine gk_icmp_ne C (tgt := 129) (by omega) (by omega) dL_most_93 (by decide) (fun c_93 => ?_) (fun c_93 => ?_)
  rotate_left
  · exact absurd c_93 (by omega)
  refine gk_iinc_1 C rfl (by exact Nat.le_of_ble_eq_true rfl) dL_most_129 ?_
  rw [show ((9 : Int) + 1) = 10 by decide]
  refine gk_goto C (tgt := 52) dL_most_132 (by decide) ?_
  refine gk_iload_n C dL_most_52 rfl ?_
  refine gk_bipush C dL_most_53 (by decide) ?_
  refine gk_icmp_ge C (tgt := 135) (by omega) (by omega) dL_most_55 (by decide) (fun c_55 => ?_) (fun c_55 => ?_)
  · exact absurd c_55 (by omega)
  refine gk_aload_n C dL_most_58 rfl ?_
  refine gk_iconst C dL_most_59 ?_
  refine gk_bipush C dL_most_60 (by decide) ?_
  refine gk_iload_n C dL_most_62 rfl ?_
  refine gk_iconst C dL_most_63 ?_
  refine gk_irem C (by omega) (by omega) dL_most_64 ?_
  rw [show ((10 : Int) % 2) = 0 by decide]
  refine gk_iconst C dL_most_65 ?_
  refine gk_iconst C dL_most_66 ?_
  obtain ⟨σ24, e24, b24, hk24⟩ := chk_c hk23
  refine gk_callSH C o_L_act k_L_100 dL_most_67 (act_e hfl H23 (w := 1) (a := (9)) (b := (0)) (c := (1)) (d := (0)) rfl (by omega) (by omega) (by omega) (by omega) (by omega) (Nat.le_trans b23 (by omega)) e24) rfl rfl ⟨Nat.le_of_ble_eq_true rfl, Nat.le_of_ble_eq_true rfl⟩ ⟨by show _ + 9 ≤ 3000; omega, by show _ + 418 ≤ 130000; omega⟩ (by exact Nat.le_of_ble_eq_true rfl) (fun v24 h24 p24 => ?_)
  obtain ⟨rfl, H24⟩ := p24
  dsimp only [gk_push]
  clear e24 H23 hk23 b23
  refine gk_iload_n C dL_most_70 rfl ?_
  refine gk_bipush C dL_most_71 (by decide) ?_
  refine gk_icmp_ge C (tgt := 82) (by omega) (by omega) dL_most_73 (by decide) (fun c_73 => ?_) (fun c_73 => ?_)
  · exact absurd c_73 (by omega)
  refine gk_iload_n C dL_most_76 rfl ?_
  refine gk_iconst C dL_most_77 ?_
  refine gk_iadd C dL_most_78 ?_
  rw [show ((10 : Int) + 1) = 11 by decide]
  refine gk_goto C (tgt := 84) dL_most_79 (by decide) ?_
  refine gk_icmp_eq C (tgt := 89) (by omega) (by omega) dL_most_84 (by decide) (fun c_84 => ?_) (fun c_84 => ?_)
  rotate_left
  · exact absurd c_84 (by omega)
  refine gk_iload_n C dL_most_89 rfl ?_
  refine gk_iconst C dL_most_90 ?_
  refine gk_irem C (by omega) (by omega) dL_most_91 ?_
  rw [show ((10 : Int) % 4) = 2 by decide]
  refine gk_iconst C dL_most_92 ?_
  refine gk_icmp_ne C (tgt := 129) (by omega) (by omega) dL_most_93 (by decide) (fun c_93 => ?_) (fun c_93 => ?_)
  rotate_left
  · exact absurd c_93 (by omega)
  refine gk_iinc_1 C rfl (by exact Nat.le_of_ble_eq_true rfl) dL_most_129 ?_
  rw [show ((10 : Int) + 1) = 11 by decide]
  refine gk_goto C (tgt := 52) dL_most_132 (by decide) ?_
  refine gk_iload_n C dL_most_52 rfl ?_
  refine gk_bipush C dL_most_53 (by decide) ?_
  refine gk_icmp_ge C (tgt := 135) (by omega) (by omega) dL_most_55 (by decide) (fun c_55 => ?_) (fun c_55 => ?_)
  · exact absurd c_55 (by omega)
  refine gk_aload_n C dL_most_58 rfl ?_
  refine gk_iconst C dL_most_59 ?_
  refine gk_bipush C dL_most_60 (by decide) ?_
  refine gk_iload_n C dL_most_62 rfl ?_
  refine gk_iconst C dL_most_63 ?_
  refine gk_irem C (by omega) (by omega) dL_most_64 ?_
  rw [show ((11 : Int) % 2) = 1 by decide]
  refine gk_iconst C dL_most_65 ?_
  refine gk_iconst C dL_most_66 ?_
  obtain ⟨σ25, e25, b25, hk25⟩ := chk_c hk24
  refine gk_callSH C o_L_act k_L_100 dL_most_67 (act_e hfl H24 (w := 1) (a := (9)) (b := (1)) (c := (1)) (d := (0)) rfl (by omega) (by omega) (by omega) (by omega) (by omega) (Nat.le_trans b24 (by omega)) e25) rfl rfl ⟨Nat.le_of_ble_eq_true rfl, Nat.le_of_ble_eq_true rfl⟩ ⟨by show _ + 9 ≤ 3000; omega, by show _ + 418 ≤ 130000; omega⟩ (by exact Nat.le_of_ble_eq_true rfl) (fun v25 h25 p25 => ?_)
  obtain ⟨rfl, H25⟩ := p25
  dsimp only [gk_push]
  clear e25 H24 hk24 b24
  refine gk_iload_n C dL_most_70 rfl ?_
  refine gk_bipush C dL_most_71 (by decide) ?_
  refine gk_icmp_ge C (tgt := 82) (by omega) (by omega) dL_most_73 (by decide) (fun c_73 => ?_) (fun c_73 => ?_)
  · exact absurd c_73 (by omega)
  refine gk_iload_n C dL_most_76 rfl ?_
  refine gk_iconst C dL_most_77 ?_
  refine gk_iadd C dL_most_78 ?_
  rw [show ((11 : Int) + 1) = 12 by decide]
  refine gk_goto C (tgt := 84) dL_most_79 (by decide) ?_
  refine gk_icmp_eq C (tgt := 89) (by omega) (by omega) dL_most_84 (by decide) (fun c_84 => ?_) (fun c_84 => ?_)
  rotate_left
  · exact absurd c_84 (by omega)
  refine gk_iload_n C dL_most_89 rfl ?_
  refine gk_iconst C dL_most_90 ?_
  refine gk_irem C (by omega) (by omega) dL_most_91 ?_
  rw [show ((11 : Int) % 4) = 3 by decide]
  refine gk_iconst C dL_most_92 ?_
  refine gk_icmp_ne C (tgt := 129) (by omega) (by omega) dL_most_93 (by decide) (fun c_93 => ?_) (fun c_93 => ?_)
  · exact absurd c_93 (by omega)
  refine gk_iload_n C dL_most_96 rfl ?_
  refine gk_bipush C dL_most_97 (by decide) ?_
  refine gk_icmp_ge C (tgt := 129) (by omega) (by omega) dL_most_99 (by decide) (fun c_99 => ?_) (fun c_99 => ?_)
  · exact absurd c_99 (by omega)
  refine gk_aload_n C dL_most_102 rfl ?_
  refine gk_iconst C dL_most_103 ?_
  refine gk_bipush C dL_most_104 (by decide) ?_
  refine gk_iconst C dL_most_106 ?_
  refine gk_iconst C dL_most_107 ?_
  refine gk_iconst C dL_most_108 ?_
  obtain ⟨σ26, e26, b26, hk26⟩ := chk_c hk25
  refine gk_callSH C o_L_act k_L_100 dL_most_109 (act_e hfl H25 (w := 2) (a := (9)) (b := (1)) (c := (0)) (d := (0)) rfl (by omega) (by omega) (by omega) (by omega) (by omega) (Nat.le_trans b25 (by omega)) e26) rfl rfl ⟨Nat.le_of_ble_eq_true rfl, Nat.le_of_ble_eq_true rfl⟩ ⟨by show _ + 9 ≤ 3000; omega, by show _ + 418 ≤ 130000; omega⟩ (by exact Nat.le_of_ble_eq_true rfl) (fun v26 h26 p26 => ?_)
  obtain ⟨rfl, H26⟩ := p26
  dsimp only [gk_push]
  clear e26 H25 hk25 b25
  refine gk_iload_n C dL_most_112 rfl ?_
  refine gk_bipush C dL_most_113 (by decide) ?_
  refine gk_icmp_ne C (tgt := 122) (by omega) (by omega) dL_most_115 (by decide) (fun c_115 => ?_) (fun c_115 => ?_)
  rotate_left
  · exact absurd c_115 (by omega)
  refine gk_ldc C cn_L_91 dL_most_122 ?_
  refine gk_icmp_eq C (tgt := 129) (by omega) (by omega) dL_most_124 (by decide) (fun c_124 => ?_) (fun c_124 => ?_)
  rotate_left
  · exact absurd c_124 (by omega)
  refine gk_iinc_1 C rfl (by exact Nat.le_of_ble_eq_true rfl) dL_most_129 ?_
  rw [show ((11 : Int) + 1) = 12 by decide]
  refine gk_goto C (tgt := 52) dL_most_132 (by decide) ?_
  refine gk_iload_n C dL_most_52 rfl ?_
  refine gk_bipush C dL_most_53 (by decide) ?_
  refine gk_icmp_ge C (tgt := 135) (by omega) (by omega) dL_most_55 (by decide) (fun c_55 => ?_) (fun c_55 => ?_)
  · exact absurd c_55 (by omega)
  refine gk_aload_n C dL_most_58 rfl ?_
  refine gk_iconst C dL_most_59 ?_
  refine gk_bipush C dL_most_60 (by decide) ?_
  refine gk_iload_n C dL_most_62 rfl ?_
  refine gk_iconst C dL_most_63 ?_
  refine gk_irem C (by omega) (by omega) dL_most_64 ?_
  rw [show ((12 : Int) % 2) = 0 by decide]
  refine gk_iconst C dL_most_65 ?_
  refine gk_iconst C dL_most_66 ?_
  obtain ⟨σ27, e27, b27, hk27⟩ := chk_c hk26
  refine gk_callSH C o_L_act k_L_100 dL_most_67 (act_e hfl H26 (w := 1) (a := (9)) (b := (0)) (c := (1)) (d := (0)) rfl (by omega) (by omega) (by omega) (by omega) (by omega) (Nat.le_trans b26 (by omega)) e27) rfl rfl ⟨Nat.le_of_ble_eq_true rfl, Nat.le_of_ble_eq_true rfl⟩ ⟨by show _ + 9 ≤ 3000; omega, by show _ + 418 ≤ 130000; omega⟩ (by exact Nat.le_of_ble_eq_true rfl) (fun v27 h27 p27 => ?_)
  obtain ⟨rfl, H27⟩ := p27
  dsimp only [gk_push]
  clear e27 H26 hk26 b26
  refine gk_iload_n C dL_most_70 rfl ?_
  refine gk_bipush C dL_most_71 (by decide) ?_
  refine gk_icmp_ge C (tgt := 82) (by omega) (by omega) dL_most_73 (by decide) (fun c_73 => ?_) (fun c_73 => ?_)
  · exact absurd c_73 (by omega)
  refine gk_iload_n C dL_most_76 rfl ?_
  refine gk_iconst C dL_most_77 ?_
  refine gk_iadd C dL_most_78 ?_
  rw [show ((12 : Int) + 1) = 13 by decide]
  refine gk_goto C (tgt := 84) dL_most_79 (by decide) ?_
  refine gk_icmp_eq C (tgt := 89) (by omega) (by omega) dL_most_84 (by decide) (fun c_84 => ?_) (fun c_84 => ?_)
  rotate_left
  · exact absurd c_84 (by omega)
  refine gk_iload_n C dL_most_89 rfl ?_
  refine gk_iconst C dL_most_90 ?_
  refine gk_irem C (by omega) (by omega) dL_most_91 ?_
  rw [show ((12 : Int) % 4) = 0 by decide]
  refine gk_iconst C dL_most_92 ?_
  refine gk_icmp_ne C (tgt := 129) (by omega) (by omega) dL_most_93 (by decide) (fun c_93 => ?_) (fun c_93 => ?_)
  rotate_left
  · exact absurd c_93 (by omega)
  refine gk_iinc_1 C rfl (by exact Nat.le_of_ble_eq_true rfl) dL_most_129 ?_
  rw [show ((12 : Int) + 1) = 13 by decide]
  refine gk_goto C (tgt := 52) dL_most_132 (by decide) ?_
  refine gk_iload_n C dL_most_52 rfl ?_
  refine gk_bipush C dL_most_53 (by decide) ?_
  refine gk_icmp_ge C (tgt := 135) (by omega) (by omega) dL_most_55 (by decide) (fun c_55 => ?_) (fun c_55 => ?_)
  · exact absurd c_55 (by omega)
  refine gk_aload_n C dL_most_58 rfl ?_
  refine gk_iconst C dL_most_59 ?_
  refine gk_bipush C dL_most_60 (by decide) ?_
  refine gk_iload_n C dL_most_62 rfl ?_
  refine gk_iconst C dL_most_63 ?_
  refine gk_irem C (by omega) (by omega) dL_most_64 ?_
  rw [show ((13 : Int) % 2) = 1 by decide]
  refine gk_iconst C dL_most_65 ?_
  refine gk_iconst C dL_most_66 ?_
  obtain ⟨σ28, e28, b28, hk28⟩ := chk_c hk27
  refine gk_callSH C o_L_act k_L_100 dL_most_67 (act_e hfl H27 (w := 1) (a := (9)) (b := (1)) (c := (1)) (d := (0)) rfl (by omega) (by omega) (by omega) (by omega) (by omega) (Nat.le_trans b27 (by omega)) e28) rfl rfl ⟨Nat.le_of_ble_eq_true rfl, Nat.le_of_ble_eq_true rfl⟩ ⟨by show _ + 9 ≤ 3000; omega, by show _ + 418 ≤ 130000; omega⟩ (by exact Nat.le_of_ble_eq_true rfl) (fun v28 h28 p28 => ?_)
  obtain ⟨rfl, H28⟩ := p28
  dsimp only [gk_push]
  clear e28 H27 hk27 b27
  refine gk_iload_n C dL_most_70 rfl ?_
  refine gk_bipush C dL_most_71 (by decide) ?_
  refine gk_icmp_ge C (tgt := 82) (by omega) (by omega) dL_most_73 (by decide) (fun c_73 => ?_) (fun c_73 => ?_)
  · exact absurd c_73 (by omega)
  refine gk_iload_n C dL_most_76 rfl ?_
  refine gk_iconst C dL_most_77 ?_
  refine gk_iadd C dL_most_78 ?_
  rw [show ((13 : Int) + 1) = 14 by decide]
  refine gk_goto C (tgt := 84) dL_most_79 (by decide) ?_
  refine gk_icmp_eq C (tgt := 89) (by omega) (by omega) dL_most_84 (by decide) (fun c_84 => ?_) (fun c_84 => ?_)
  rotate_left
  · exact absurd c_84 (by omega)
  refine gk_iload_n C dL_most_89 rfl ?_
  refine gk_iconst C dL_most_90 ?_
  refine gk_irem C (by omega) (by omega) dL_most_91 ?_
  rw [show ((13 : Int) % 4) = 1 by decide]
  refine gk_iconst C dL_most_92 ?_
  refine gk_icmp_ne C (tgt := 129) (by omega) (by omega) dL_most_93 (by decide) (fun c_93 => ?_) (fun c_93 => ?_)
  rotate_left
  · exact absurd c_93 (by omega)
  refine gk_iinc_1 C rfl (by exact Nat.le_of_ble_eq_true rfl) dL_most_129 ?_
  rw [show ((13 : Int) + 1) = 14 by decide]
  refine gk_goto C (tgt := 52) dL_most_132 (by decide) ?_
  refine gk_iload_n C dL_most_52 rfl ?_
  refine gk_bipush C dL_most_53 (by decide) ?_
  refine gk_icmp_ge C (tgt := 135) (by omega) (by omega) dL_most_55 (by decide) (fun c_55 => ?_) (fun c_55 => ?_)
  · exact absurd c_55 (by omega)
  refine gk_aload_n C dL_most_58 rfl ?_
  refine gk_iconst C dL_most_59 ?_
  refine gk_bipush C dL_most_60 (by decide) ?_
  refine gk_iload_n C dL_most_62 rfl ?_
  refine gk_iconst C dL_most_63 ?_
  refine gk_irem C (by omega) (by omega) dL_most_64 ?_
  rw [show ((14 : Int) % 2) = 0 by decide]
  refine gk_iconst C dL_most_65 ?_
  refine gk_iconst C dL_most_66 ?_
  obtain ⟨σ29, e29, b29, hk29⟩ := chk_c hk28
  refine gk_callSH C o_L_act k_L_100 dL_most_67 (act_e hfl H28 (w := 1) (a := (9)) (b := (0)) (c := (1)) (d := (0)) rfl (by omega) (by omega) (by omega) (by omega) (by omega) (Nat.le_trans b28 (by omega)) e29) rfl rfl ⟨Nat.le_of_ble_eq_true rfl, Nat.le_of_ble_eq_true rfl⟩ ⟨by show _ + 9 ≤ 3000; omega, by show _ + 418 ≤ 130000; omega⟩ (by exact Nat.le_of_ble_eq_true rfl) (fun v29 h29 p29 => ?_)
  obtain ⟨rfl, H29⟩ := p29
  dsimp only [gk_push]
  clear e29 H28 hk28 b28
  refine gk_iload_n C dL_most_70 rfl ?_
  refine gk_bipush C dL_most_71 (by decide) ?_
  refine gk_icmp_ge C (tgt := 82) (by omega) (by omega) dL_most_73 (by decide) (fun c_73 => ?_) (fun c_73 => ?_)
  · exact absurd c_73 (by omega)
  refine gk_iload_n C dL_most_76 rfl ?_
  refine gk_iconst C dL_most_77 ?_
  refine gk_iadd C dL_most_78 ?_
  rw [show ((14 : Int) + 1) = 15 by decide]
  refine gk_goto C (tgt := 84) dL_most_79 (by decide) ?_
  refine gk_icmp_eq C (tgt := 89) (by omega) (by omega) dL_most_84 (by decide) (fun c_84 => ?_) (fun c_84 => ?_)
  rotate_left
  · exact absurd c_84 (by omega)
  refine gk_iload_n C dL_most_89 rfl ?_
  refine gk_iconst C dL_most_90 ?_
  refine gk_irem C (by omega) (by omega) dL_most_91 ?_
  rw [show ((14 : Int) % 4) = 2 by decide]
  refine gk_iconst C dL_most_92 ?_
  refine gk_icmp_ne C (tgt := 129) (by omega) (by omega) dL_most_93 (by decide) (fun c_93 => ?_) (fun c_93 => ?_)
  rotate_left
  · exact absurd c_93 (by omega)
  refine gk_iinc_1 C rfl (by exact Nat.le_of_ble_eq_true rfl) dL_most_129 ?_
  rw [show ((14 : Int) + 1) = 15 by decide]
  refine gk_goto C (tgt := 52) dL_most_132 (by decide) ?_
  refine gk_iload_n C dL_most_52 rfl ?_
  refine gk_bipush C dL_most_53 (by decide) ?_
  refine gk_icmp_ge C (tgt := 135) (by omega) (by omega) dL_most_55 (by decide) (fun c_55 => ?_) (fun c_55 => ?_)
  · exact absurd c_55 (by omega)
  refine gk_aload_n C dL_most_58 rfl ?_
  refine gk_iconst C dL_most_59 ?_
  refine gk_bipush C dL_most_60 (by decide) ?_
  refine gk_iload_n C dL_most_62 rfl ?_
  refine gk_iconst C dL_most_63 ?_
  refine gk_irem C (by omega) (by omega) dL_most_64 ?_
  rw [show ((15 : Int) % 2) = 1 by decide]
  refine gk_iconst C dL_most_65 ?_
  refine gk_iconst C dL_most_66 ?_
  obtain ⟨σ30, e30, b30, hk30⟩ := chk_c hk29
  refine gk_callSH C o_L_act k_L_100 dL_most_67 (act_e hfl H29 (w := 1) (a := (9)) (b := (1)) (c := (1)) (d := (0)) rfl (by omega) (by omega) (by omega) (by omega) (by omega) (Nat.le_trans b29 (by omega)) e30) rfl rfl ⟨Nat.le_of_ble_eq_true rfl, Nat.le_of_ble_eq_true rfl⟩ ⟨by show _ + 9 ≤ 3000; omega, by show _ + 418 ≤ 130000; omega⟩ (by exact Nat.le_of_ble_eq_true rfl) (fun v30 h30 p30 => ?_)
  obtain ⟨rfl, H30⟩ := p30
  dsimp only [gk_push]
  clear e30 H29 hk29 b29
  refine gk_iload_n C dL_most_70 rfl ?_
  refine gk_bipush C dL_most_71 (by decide) ?_
  refine gk_icmp_ge C (tgt := 82) (by omega) (by omega) dL_most_73 (by decide) (fun c_73 => ?_) (fun c_73 => ?_)
  · exact absurd c_73 (by omega)
  refine gk_iload_n C dL_most_76 rfl ?_
  refine gk_iconst C dL_most_77 ?_
  refine gk_iadd C dL_most_78 ?_
  rw [show ((15 : Int) + 1) = 16 by decide]
  refine gk_goto C (tgt := 84) dL_most_79 (by decide) ?_
  refine gk_icmp_eq C (tgt := 89) (by omega) (by omega) dL_most_84 (by decide) (fun c_84 => ?_) (fun c_84 => ?_)
  rotate_left
  · exact absurd c_84 (by omega)
  refine gk_iload_n C dL_most_89 rfl ?_
  refine gk_iconst C dL_most_90 ?_
  refine gk_irem C (by omega) (by omega) dL_most_91 ?_
  rw [show ((15 : Int) % 4) = 3 by decide]
  refine gk_iconst C dL_most_92 ?_
  refine gk_icmp_ne C (tgt := 129) (by omega) (by omega) dL_most_93 (by decide) (fun c_93 => ?_) (fun c_93 => ?_)
  · exact absurd c_93 (by omega)
  refine gk_iload_n C dL_most_96 rfl ?_
  refine gk_bipush C dL_most_97 (by decide) ?_
  refine gk_icmp_ge C (tgt := 129) (by omega) (by omega) dL_most_99 (by decide) (fun c_99 => ?_) (fun c_99 => ?_)
  · exact absurd c_99 (by omega)
  refine gk_aload_n C dL_most_102 rfl ?_
  refine gk_iconst C dL_most_103 ?_
  refine gk_bipush C dL_most_104 (by decide) ?_
  refine gk_iconst C dL_most_106 ?_
  refine gk_iconst C dL_most_107 ?_
  refine gk_iconst C dL_most_108 ?_
  obtain ⟨σ31, e31, b31, hk31⟩ := chk_c hk30
  refine gk_callSH C o_L_act k_L_100 dL_most_109 (act_e hfl H30 (w := 2) (a := (9)) (b := (1)) (c := (0)) (d := (0)) rfl (by omega) (by omega) (by omega) (by omega) (by omega) (Nat.le_trans b30 (by omega)) e31) rfl rfl ⟨Nat.le_of_ble_eq_true rfl, Nat.le_of_ble_eq_true rfl⟩ ⟨by show _ + 9 ≤ 3000; omega, by show _ + 418 ≤ 130000; omega⟩ (by exact Nat.le_of_ble_eq_true rfl) (fun v31 h31 p31 => ?_)
  obtain ⟨rfl, H31⟩ := p31
  dsimp only [gk_push]
  clear e31 H30 hk30 b30
  refine gk_iload_n C dL_most_112 rfl ?_
  refine gk_bipush C dL_most_113 (by decide) ?_
  refine gk_icmp_ne C (tgt := 122) (by omega) (by omega) dL_most_115 (by decide) (fun c_115 => ?_) (fun c_115 => ?_)
  · exact absurd c_115 (by omega)
  refine gk_iconst C dL_most_118 ?_
  refine gk_goto C (tgt := 124) dL_most_119 (by decide) ?_
  refine gk_icmp_eq C (tgt := 129) (by omega) (by omega) dL_most_124 (by decide) (fun c_124 => ?_) (fun c_124 => ?_)
  rotate_left
  · exact absurd c_124 (by omega)
  refine gk_iinc_1 C rfl (by exact Nat.le_of_ble_eq_true rfl) dL_most_129 ?_
  rw [show ((15 : Int) + 1) = 16 by decide]
  refine gk_goto C (tgt := 52) dL_most_132 (by decide) ?_
  refine gk_iload_n C dL_most_52 rfl ?_
  refine gk_bipush C dL_most_53 (by decide) ?_
  refine gk_icmp_ge C (tgt := 135) (by omega) (by omega) dL_most_55 (by decide) (fun c_55 => ?_) (fun c_55 => ?_)
  · exact absurd c_55 (by omega)
  refine gk_aload_n C dL_most_58 rfl ?_
  refine gk_iconst C dL_most_59 ?_
  refine gk_bipush C dL_most_60 (by decide) ?_
  refine gk_iload_n C dL_most_62 rfl ?_
  refine gk_iconst C dL_most_63 ?_
  refine gk_irem C (by omega) (by omega) dL_most_64 ?_
  rw [show ((16 : Int) % 2) = 0 by decide]
  refine gk_iconst C dL_most_65 ?_
  refine gk_iconst C dL_most_66 ?_
  obtain ⟨σ32, e32, b32, hk32⟩ := chk_c hk31
  refine gk_callSH C o_L_act k_L_100 dL_most_67 (act_e hfl H31 (w := 1) (a := (9)) (b := (0)) (c := (1)) (d := (0)) rfl (by omega) (by omega) (by omega) (by omega) (by omega) (Nat.le_trans b31 (by omega)) e32) rfl rfl ⟨Nat.le_of_ble_eq_true rfl, Nat.le_of_ble_eq_true rfl⟩ ⟨by show _ + 9 ≤ 3000; omega, by show _ + 418 ≤ 130000; omega⟩ (by exact Nat.le_of_ble_eq_true rfl) (fun v32 h32 p32 => ?_)
  obtain ⟨rfl, H32⟩ := p32
  dsimp only [gk_push]
  clear e32 H31 hk31 b31
  refine gk_iload_n C dL_most_70 rfl ?_
  refine gk_bipush C dL_most_71 (by decide) ?_
  refine gk_icmp_ge C (tgt := 82) (by omega) (by omega) dL_most_73 (by decide) (fun c_73 => ?_) (fun c_73 => ?_)
  · exact absurd c_73 (by omega)
  refine gk_iload_n C dL_most_76 rfl ?_
  refine gk_iconst C dL_most_77 ?_
  refine gk_iadd C dL_most_78 ?_
  rw [show ((16 : Int) + 1) = 17 by decide]
  refine gk_goto C (tgt := 84) dL_most_79 (by decide) ?_
  refine gk_icmp_eq C (tgt := 89) (by omega) (by omega) dL_most_84 (by decide) (fun c_84 => ?_) (fun c_84 => ?_)
  rotate_left
  · exact absurd c_84 (by omega)
  refine gk_iload_n C dL_most_89 rfl ?_
  refine gk_iconst C dL_most_90 ?_
  refine gk_irem C (by omega) (by omega) dL_most_91 ?_
  rw [show ((16 : Int) % 4) = 0 by decide]
  refine gk_iconst C dL_most_92 ?_
  refine gk_icmp_ne C (tgt := 129) (by omega) (by omega) dL_most_93 (by decide) (fun c_93 => ?_) (fun c_93 => ?_)
  rotate_left
  · exact absurd c_93 (by omega)
  refine gk_iinc_1 C rfl (by exact Nat.le_of_ble_eq_true rfl) dL_most_129 ?_
  rw [show ((16 : Int) + 1) = 17 by decide]
  refine gk_goto C (tgt := 52) dL_most_132 (by decide) ?_
  refine gk_iload_n C dL_most_52 rfl ?_
  refine gk_bipush C dL_most_53 (by decide) ?_
  refine gk_icmp_ge C (tgt := 135) (by omega) (by omega) dL_most_55 (by decide) (fun c_55 => ?_) (fun c_55 => ?_)
  · exact absurd c_55 (by omega)
  refine gk_aload_n C dL_most_58 rfl ?_
  refine gk_iconst C dL_most_59 ?_
  refine gk_bipush C dL_most_60 (by decide) ?_
  refine gk_iload_n C dL_most_62 rfl ?_
  refine gk_iconst C dL_most_63 ?_
  refine gk_irem C (by omega) (by omega) dL_most_64 ?_
  rw [show ((17 : Int) % 2) = 1 by decide]
  refine gk_iconst C dL_most_65 ?_
  refine gk_iconst C dL_most_66 ?_
  obtain ⟨σ33, e33, b33, hk33⟩ := chk_c hk32
  refine gk_callSH C o_L_act k_L_100 dL_most_67 (act_e hfl H32 (w := 1) (a := (9)) (b := (1)) (c := (1)) (d := (0)) rfl (by omega) (by omega) (by omega) (by omega) (by omega) (Nat.le_trans b32 (by omega)) e33) rfl rfl ⟨Nat.le_of_ble_eq_true rfl, Nat.le_of_ble_eq_true rfl⟩ ⟨by show _ + 9 ≤ 3000; omega, by show _ + 418 ≤ 130000; omega⟩ (by exact Nat.le_of_ble_eq_true rfl) (fun v33 h33 p33 => ?_)
  obtain ⟨rfl, H33⟩ := p33
  dsimp only [gk_push]
  clear e33 H32 hk32 b32
  refine gk_iload_n C dL_most_70 rfl ?_
  refine gk_bipush C dL_most_71 (by decide) ?_
  refine gk_icmp_ge C (tgt := 82) (by omega) (by omega) dL_most_73 (by decide) (fun c_73 => ?_) (fun c_73 => ?_)
  · exact absurd c_73 (by omega)
  refine gk_iload_n C dL_most_76 rfl ?_
  refine gk_iconst C dL_most_77 ?_
  refine gk_iadd C dL_most_78 ?_
  rw [show ((17 : Int) + 1) = 18 by decide]
  refine gk_goto C (tgt := 84) dL_most_79 (by decide) ?_
  refine gk_icmp_eq C (tgt := 89) (by omega) (by omega) dL_most_84 (by decide) (fun c_84 => ?_) (fun c_84 => ?_)
  rotate_left
  · exact absurd c_84 (by omega)
  refine gk_iload_n C dL_most_89 rfl ?_
  refine gk_iconst C dL_most_90 ?_
  refine gk_irem C (by omega) (by omega) dL_most_91 ?_
  rw [show ((17 : Int) % 4) = 1 by decide]
  refine gk_iconst C dL_most_92 ?_
  refine gk_icmp_ne C (tgt := 129) (by omega) (by omega) dL_most_93 (by decide) (fun c_93 => ?_) (fun c_93 => ?_)
  rotate_left
  · exact absurd c_93 (by omega)
  refine gk_iinc_1 C rfl (by exact Nat.le_of_ble_eq_true rfl) dL_most_129 ?_
  rw [show ((17 : Int) + 1) = 18 by decide]
  refine gk_goto C (tgt := 52) dL_most_132 (by decide) ?_
  refine gk_iload_n C dL_most_52 rfl ?_
  refine gk_bipush C dL_most_53 (by decide) ?_
  refine gk_icmp_ge C (tgt := 135) (by omega) (by omega) dL_most_55 (by decide) (fun c_55 => ?_) (fun c_55 => ?_)
  · exact absurd c_55 (by omega)
  refine gk_aload_n C dL_most_58 rfl ?_
  refine gk_iconst C dL_most_59 ?_
  refine gk_bipush C dL_most_60 (by decide) ?_
  refine gk_iload_n C dL_most_62 rfl ?_
  refine gk_iconst C dL_most_63 ?_
  refine gk_irem C (by omega) (by omega) dL_most_64 ?_
  rw [show ((18 : Int) % 2) = 0 by decide]
  refine gk_iconst C dL_most_65 ?_
  refine gk_iconst C dL_most_66 ?_
  obtain ⟨σ34, e34, b34, hk34⟩ := chk_c hk33
  refine gk_callSH C o_L_act k_L_100 dL_most_67 (act_e hfl H33 (w := 1) (a := (9)) (b := (0)) (c := (1)) (d := (0)) rfl (by omega) (by omega) (by omega) (by omega) (by omega) (Nat.le_trans b33 (by omega)) e34) rfl rfl ⟨Nat.le_of_ble_eq_true rfl, Nat.le_of_ble_eq_true rfl⟩ ⟨by show _ + 9 ≤ 3000; omega, by show _ + 418 ≤ 130000; omega⟩ (by exact Nat.le_of_ble_eq_true rfl) (fun v34 h34 p34 => ?_)
  obtain ⟨rfl, H34⟩ := p34
  dsimp only [gk_push]
  clear e34 H33 hk33 b33
  refine gk_iload_n C dL_most_70 rfl ?_
  refine gk_bipush C dL_most_71 (by decide) ?_
  refine gk_icmp_ge C (tgt := 82) (by omega) (by omega) dL_most_73 (by decide) (fun c_73 => ?_) (fun c_73 => ?_)
  · exact absurd c_73 (by omega)
  refine gk_iload_n C dL_most_76 rfl ?_
  refine gk_iconst C dL_most_77 ?_
  refine gk_iadd C dL_most_78 ?_
  rw [show ((18 : Int) + 1) = 19 by decide]
  refine gk_goto C (tgt := 84) dL_most_79 (by decide) ?_
  refine gk_icmp_eq C (tgt := 89) (by omega) (by omega) dL_most_84 (by decide) (fun c_84 => ?_) (fun c_84 => ?_)
  rotate_left
  · exact absurd c_84 (by omega)
  refine gk_iload_n C dL_most_89 rfl ?_
  refine gk_iconst C dL_most_90 ?_
  refine gk_irem C (by omega) (by omega) dL_most_91 ?_
  rw [show ((18 : Int) % 4) = 2 by decide]
  refine gk_iconst C dL_most_92 ?_
  refine gk_icmp_ne C (tgt := 129) (by omega) (by omega) dL_most_93 (by decide) (fun c_93 => ?_) (fun c_93 => ?_)
  rotate_left
  · exact absurd c_93 (by omega)
  refine gk_iinc_1 C rfl (by exact Nat.le_of_ble_eq_true rfl) dL_most_129 ?_
  rw [show ((18 : Int) + 1) = 19 by decide]
  refine gk_goto C (tgt := 52) dL_most_132 (by decide) ?_
  refine gk_iload_n C dL_most_52 rfl ?_
  refine gk_bipush C dL_most_53 (by decide) ?_
  refine gk_icmp_ge C (tgt := 135) (by omega) (by omega) dL_most_55 (by decide) (fun c_55 => ?_) (fun c_55 => ?_)
  · exact absurd c_55 (by omega)
  refine gk_aload_n C dL_most_58 rfl ?_
  refine gk_iconst C dL_most_59 ?_
  refine gk_bipush C dL_most_60 (by decide) ?_
  refine gk_iload_n C dL_most_62 rfl ?_
  refine gk_iconst C dL_most_63 ?_
  refine gk_irem C (by omega) (by omega) dL_most_64 ?_
  rw [show ((19 : Int) % 2) = 1 by decide]
  refine gk_iconst C dL_most_65 ?_
  refine gk_iconst C dL_most_66 ?_
  obtain ⟨σ35, e35, b35, hk35⟩ := chk_c hk34
  refine gk_callSH C o_L_act k_L_100 dL_most_67 (act_e hfl H34 (w := 1) (a := (9)) (b := (1)) (c := (1)) (d := (0)) rfl (by omega) (by omega) (by omega) (by omega) (by omega) (Nat.le_trans b34 (by omega)) e35) rfl rfl ⟨Nat.le_of_ble_eq_true rfl, Nat.le_of_ble_eq_true rfl⟩ ⟨by show _ + 9 ≤ 3000; omega, by show _ + 418 ≤ 130000; omega⟩ (by exact Nat.le_of_ble_eq_true rfl) (fun v35 h35 p35 => ?_)
  obtain ⟨rfl, H35⟩ := p35
  dsimp only [gk_push]
  clear e35 H34 hk34 b34
  refine gk_iload_n C dL_most_70 rfl ?_
  refine gk_bipush C dL_most_71 (by decide) ?_
  refine gk_icmp_ge C (tgt := 82) (by omega) (by omega) dL_most_73 (by decide) (fun c_73 => ?_) (fun c_73 => ?_)
  · exact absurd c_73 (by omega)
  refine gk_iload_n C dL_most_76 rfl ?_
  refine gk_iconst C dL_most_77 ?_
  refine gk_iadd C dL_most_78 ?_
  rw [show ((19 : Int) + 1) = 20 by decide]
  refine gk_goto C (tgt := 84) dL_most_79 (by decide) ?_
  refine gk_icmp_eq C (tgt := 89) (by omega) (by omega) dL_most_84 (by decide) (fun c_84 => ?_) (fun c_84 => ?_)
  rotate_left
  · exact absurd c_84 (by omega)
  refine gk_iload_n C dL_most_89 rfl ?_
  refine gk_iconst C dL_most_90 ?_
  refine gk_irem C (by omega) (by omega) dL_most_91 ?_
  rw [show ((19 : Int) % 4) = 3 by decide]
  refine gk_iconst C dL_most_92 ?_
  refine gk_icmp_ne C (tgt := 129) (by omega) (by omega) dL_most_93 (by decide) (fun c_93 => ?_) (fun c_93 => ?_)
  · exact absurd c_93 (by omega)
  refine gk_iload_n C dL_most_96 rfl ?_
  refine gk_bipush C dL_most_97 (by decide) ?_
  refine gk_icmp_ge C (tgt := 129) (by omega) (by omega) dL_most_99 (by decide) (fun c_99 => ?_) (fun c_99 => ?_)
  rotate_left
  · exact absurd c_99 (by omega)
  refine gk_iinc_1 C rfl (by exact Nat.le_of_ble_eq_true rfl) dL_most_129 ?_
  rw [show ((19 : Int) + 1) = 20 by decide]
  refine gk_goto C (tgt := 52) dL_most_132 (by decide) ?_
  refine gk_iload_n C dL_most_52 rfl ?_
  refine gk_bipush C dL_most_53 (by decide) ?_
  refine gk_icmp_ge C (tgt := 135) (by omega) (by omega) dL_most_55 (by decide) (fun c_55 => ?_) (fun c_55 => ?_)
  · exact absurd c_55 (by omega)
  refine gk_aload_n C dL_most_58 rfl ?_
  refine gk_iconst C dL_most_59 ?_
  refine gk_bipush C dL_most_60 (by decide) ?_
  refine gk_iload_n C dL_most_62 rfl ?_
  refine gk_iconst C dL_most_63 ?_
  refine gk_irem C (by omega) (by omega) dL_most_64 ?_
  rw [show ((20 : Int) % 2) = 0 by decide]
  refine gk_iconst C dL_most_65 ?_
  refine gk_iconst C dL_most_66 ?_
  obtain ⟨σ36, e36, b36, hk36⟩ := chk_c hk35
  refine gk_callSH C o_L_act k_L_100 dL_most_67 (act_e hfl H35 (w := 1) (a := (9)) (b := (0)) (c := (1)) (d := (0)) rfl (by omega) (by omega) (by omega) (by omega) (by omega) (Nat.le_trans b35 (by omega)) e36) rfl rfl ⟨Nat.le_of_ble_eq_true rfl, Nat.le_of_ble_eq_true rfl⟩ ⟨by show _ + 9 ≤ 3000; omega, by show _ + 418 ≤ 130000; omega⟩ (by exact Nat.le_of_ble_eq_true rfl) (fun v36 h36 p36 => ?_)
  obtain ⟨rfl, H36⟩ := p36
  dsimp only [gk_push]
  clear e36 H35 hk35 b35
  refine gk_iload_n C dL_most_70 rfl ?_
  refine gk_bipush C dL_most_71 (by decide) ?_
  refine gk_icmp_ge C (tgt := 82) (by omega) (by omega) dL_most_73 (by decide) (fun c_73 => ?_) (fun c_73 => ?_)
  · exact absurd c_73 (by omega)
  refine gk_iload_n C dL_most_76 rfl ?_
  refine gk_iconst C dL_most_77 ?_
  refine gk_iadd C dL_most_78 ?_
  rw [show ((20 : Int) + 1) = 21 by decide]
  refine gk_goto C (tgt := 84) dL_most_79 (by decide) ?_
  refine gk_icmp_eq C (tgt := 89) (by omega) (by omega) dL_most_84 (by decide) (fun c_84 => ?_) (fun c_84 => ?_)
  rotate_left
  · exact absurd c_84 (by omega)
  refine gk_iload_n C dL_most_89 rfl ?_
  refine gk_iconst C dL_most_90 ?_
  refine gk_irem C (by omega) (by omega) dL_most_91 ?_
  rw [show ((20 : Int) % 4) = 0 by decide]
  refine gk_iconst C dL_most_92 ?_
  refine gk_icmp_ne C (tgt := 129) (by omega) (by omega) dL_most_93 (by decide) (fun c_93 => ?_) (fun c_93 => ?_)
  rotate_left
  · exact absurd c_93 (by omega)
  refine gk_iinc_1 C rfl (by exact Nat.le_of_ble_eq_true rfl) dL_most_129 ?_
  rw [show ((20 : Int) + 1) = 21 by decide]
  refine gk_goto C (tgt := 52) dL_most_132 (by decide) ?_
  refine gk_iload_n C dL_most_52 rfl ?_
  refine gk_bipush C dL_most_53 (by decide) ?_
  refine gk_icmp_ge C (tgt := 135) (by omega) (by omega) dL_most_55 (by decide) (fun c_55 => ?_) (fun c_55 => ?_)
  · exact absurd c_55 (by omega)
  refine gk_aload_n C dL_most_58 rfl ?_
  refine gk_iconst C dL_most_59 ?_
  refine gk_bipush C dL_most_60 (by decide) ?_
  refine gk_iload_n C dL_most_62 rfl ?_
  refine gk_iconst C dL_most_63 ?_
  refine gk_irem C (by omega) (by omega) dL_most_64 ?_
  rw [show ((21 : Int) % 2) = 1 by decide]
  refine gk_iconst C dL_most_65 ?_
  refine gk_iconst C dL_most_66 ?_
  obtain ⟨σ37, e37, b37, hk37⟩ := chk_c hk36
  refine gk_callSH C o_L_act k_L_100 dL_most_67 (act_e hfl H36 (w := 1) (a := (9)) (b := (1)) (c := (1)) (d := (0)) rfl (by omega) (by omega) (by omega) (by omega) (by omega) (Nat.le_trans b36 (by omega)) e37) rfl rfl ⟨Nat.le_of_ble_eq_true rfl, Nat.le_of_ble_eq_true rfl⟩ ⟨by show _ + 9 ≤ 3000; omega, by show _ + 418 ≤ 130000; omega⟩ (by exact Nat.le_of_ble_eq_true rfl) (fun v37 h37 p37 => ?_)
  obtain ⟨rfl, H37⟩ := p37
  dsimp only [gk_push]
  clear e37 H36 hk36 b36
  refine gk_iload_n C dL_most_70 rfl ?_
  refine gk_bipush C dL_most_71 (by decide) ?_
  refine gk_icmp_ge C (tgt := 82) (by omega) (by omega) dL_most_73 (by decide) (fun c_73 => ?_) (fun c_73 => ?_)
  · exact absurd c_73 (by omega)
  refine gk_iload_n C dL_most_76 rfl ?_
  refine gk_iconst C dL_most_77 ?_
  refine gk_iadd C dL_most_78 ?_
  rw [show ((21 : Int) + 1) = 22 by decide]
  refine gk_goto C (tgt := 84) dL_most_79 (by decide) ?_
  refine gk_icmp_eq C (tgt := 89) (by omega) (by omega) dL_most_84 (by decide) (fun c_84 => ?_) (fun c_84 => ?_)
  rotate_left
  · exact absurd c_84 (by omega)
  refine gk_iload_n C dL_most_89 rfl ?_
  refine gk_iconst C dL_most_90 ?_
  refine gk_irem C (by omega) (by omega) dL_most_91 ?_
  rw [show ((21 : Int) % 4) = 1 by decide]
  refine gk_iconst C dL_most_92 ?_
  refine gk_icmp_ne C (tgt := 129) (by omega) (by omega) dL_most_93 (by decide) (fun c_93 => ?_) (fun c_93 => ?_)
  rotate_left
  · exact absurd c_93 (by omega)
  refine gk_iinc_1 C rfl (by exact Nat.le_of_ble_eq_true rfl) dL_most_129 ?_
  rw [show ((21 : Int) + 1) = 22 by decide]
  refine gk_goto C (tgt := 52) dL_most_132 (by decide) ?_
  refine gk_iload_n C dL_most_52 rfl ?_
  refine gk_bipush C dL_most_53 (by decide) ?_
  refine gk_icmp_ge C (tgt := 135) (by omega) (by omega) dL_most_55 (by decide) (fun c_55 => ?_) (fun c_55 => ?_)
  · exact absurd c_55 (by omega)
  refine gk_aload_n C dL_most_58 rfl ?_
  refine gk_iconst C dL_most_59 ?_
  refine gk_bipush C dL_most_60 (by decide) ?_
  refine gk_iload_n C dL_most_62 rfl ?_
  refine gk_iconst C dL_most_63 ?_
  refine gk_irem C (by omega) (by omega) dL_most_64 ?_
  rw [show ((22 : Int) % 2) = 0 by decide]
  refine gk_iconst C dL_most_65 ?_
  refine gk_iconst C dL_most_66 ?_
  obtain ⟨σ38, e38, b38, hk38⟩ := chk_c hk37
  refine gk_callSH C o_L_act k_L_100 dL_most_67 (act_e hfl H37 (w := 1) (a := (9)) (b := (0)) (c := (1)) (d := (0)) rfl (by omega) (by omega) (by omega) (by omega) (by omega) (Nat.le_trans b37 (by omega)) e38) rfl rfl ⟨Nat.le_of_ble_eq_true rfl, Nat.le_of_ble_eq_true rfl⟩ ⟨by show _ + 9 ≤ 3000; omega, by show _ + 418 ≤ 130000; omega⟩ (by exact Nat.le_of_ble_eq_true rfl) (fun v38 h38 p38 => ?_)
  obtain ⟨rfl, H38⟩ := p38
  dsimp only [gk_push]
  clear e38 H37 hk37 b37
  refine gk_iload_n C dL_most_70 rfl ?_
  refine gk_bipush C dL_most_71 (by decide) ?_
  refine gk_icmp_ge C (tgt := 82) (by omega) (by omega) dL_most_73 (by decide) (fun c_73 => ?_) (fun c_73 => ?_)
  · exact absurd c_73 (by omega)
  refine gk_iload_n C dL_most_76 rfl ?_
  refine gk_iconst C dL_most_77 ?_
  refine gk_iadd C dL_most_78 ?_
  rw [show ((22 : Int) + 1) = 23 by decide]
  refine gk_goto C (tgt := 84) dL_most_79 (by decide) ?_
  refine gk_icmp_eq C (tgt := 89) (by omega) (by omega) dL_most_84 (by decide) (fun c_84 => ?_) (fun c_84 => ?_)
  rotate_left
  · exact absurd c_84 (by omega)
  refine gk_iload_n C dL_most_89 rfl ?_
  refine gk_iconst C dL_most_90 ?_
  refine gk_irem C (by omega) (by omega) dL_most_91 ?_
  rw [show ((22 : Int) % 4) = 2 by decide]
  refine gk_iconst C dL_most_92 ?_
  refine gk_icmp_ne C (tgt := 129) (by omega) (by omega) dL_most_93 (by decide) (fun c_93 => ?_) (fun c_93 => ?_)
  rotate_left
  · exact absurd c_93 (by omega)
  refine gk_iinc_1 C rfl (by exact Nat.le_of_ble_eq_true rfl) dL_most_129 ?_
  rw [show ((22 : Int) + 1) = 23 by decide]
  refine gk_goto C (tgt := 52) dL_most_132 (by decide) ?_
  refine gk_iload_n C dL_most_52 rfl ?_
  refine gk_bipush C dL_most_53 (by decide) ?_
  refine gk_icmp_ge C (tgt := 135) (by omega) (by omega) dL_most_55 (by decide) (fun c_55 => ?_) (fun c_55 => ?_)
  · exact absurd c_55 (by omega)
  refine gk_aload_n C dL_most_58 rfl ?_
  refine gk_iconst C dL_most_59 ?_
  refine gk_bipush C dL_most_60 (by decide) ?_
  refine gk_iload_n C dL_most_62 rfl ?_
  refine gk_iconst C dL_most_63 ?_
  refine gk_irem C (by omega) (by omega) dL_most_64 ?_
  rw [show ((23 : Int) % 2) = 1 by decide]
  refine gk_iconst C dL_most_65 ?_
  refine gk_iconst C dL_most_66 ?_
  obtain ⟨σ39, e39, b39, hk39⟩ := chk_c hk38
  refine gk_callSH C o_L_act k_L_100 dL_most_67 (act_e hfl H38 (w := 1) (a := (9)) (b := (1)) (c := (1)) (d := (0)) rfl (by omega) (by omega) (by omega) (by omega) (by omega) (Nat.le_trans b38 (by omega)) e39) rfl rfl ⟨Nat.le_of_ble_eq_true rfl, Nat.le_of_ble_eq_true rfl⟩ ⟨by show _ + 9 ≤ 3000; omega, by show _ + 418 ≤ 130000; omega⟩ (by exact Nat.le_of_ble_eq_true rfl) (fun v39 h39 p39 => ?_)
  obtain ⟨rfl, H39⟩ := p39
  dsimp only [gk_push]
  clear e39 H38 hk38 b38
  refine gk_iload_n C dL_most_70 rfl ?_
  refine gk_bipush C dL_most_71 (by decide) ?_
  refine gk_icmp_ge C (tgt := 82) (by omega) (by omega) dL_most_73 (by decide) (fun c_73 => ?_) (fun c_73 => ?_)
  · exact absurd c_73 (by omega)
  refine gk_iload_n C dL_most_76 rfl ?_
  refine gk_iconst C dL_most_77 ?_
  refine gk_iadd C dL_most_78 ?_
  rw [show ((23 : Int) + 1) = 24 by decide]
  refine gk_goto C (tgt := 84) dL_most_79 (by decide) ?_
  refine gk_icmp_eq C (tgt := 89) (by omega) (by omega) dL_most_84 (by decide) (fun c_84 => ?_) (fun c_84 => ?_)
  rotate_left
  · exact absurd c_84 (by omega)
  refine gk_iload_n C dL_most_89 rfl ?_
  refine gk_iconst C dL_most_90 ?_
  refine gk_irem C (by omega) (by omega) dL_most_91 ?_
  rw [show ((23 : Int) % 4) = 3 by decide]
  refine gk_iconst C dL_most_92 ?_
  refine gk_icmp_ne C (tgt := 129) (by omega) (by omega) dL_most_93 (by decide) (fun c_93 => ?_) (fun c_93 => ?_)
  · exact absurd c_93 (by omega)
  refine gk_iload_n C dL_most_96 rfl ?_
  refine gk_bipush C dL_most_97 (by decide) ?_
  refine gk_icmp_ge C (tgt := 129) (by omega) (by omega) dL_most_99 (by decide) (fun c_99 => ?_) (fun c_99 => ?_)
  rotate_left
  · exact absurd c_99 (by omega)
  refine gk_iinc_1 C rfl (by exact Nat.le_of_ble_eq_true rfl) dL_most_129 ?_
  rw [show ((23 : Int) + 1) = 24 by decide]
  refine gk_goto C (tgt := 52) dL_most_132 (by decide) ?_
  refine gk_iload_n C dL_most_52 rfl ?_
  refine gk_bipush C dL_most_53 (by decide) ?_
  refine gk_icmp_ge C (tgt := 135) (by omega) (by omega) dL_most_55 (by decide) (fun c_55 => ?_) (fun c_55 => ?_)
  · exact absurd c_55 (by omega)
  refine gk_aload_n C dL_most_58 rfl ?_
  refine gk_iconst C dL_most_59 ?_
  refine gk_bipush C dL_most_60 (by decide) ?_
  refine gk_iload_n C dL_most_62 rfl ?_
  refine gk_iconst C dL_most_63 ?_
  refine gk_irem C (by omega) (by omega) dL_most_64 ?_
  rw [show ((24 : Int) % 2) = 0 by decide]
  refine gk_iconst C dL_most_65 ?_
  refine gk_iconst C dL_most_66 ?_
  obtain ⟨σ40, e40, b40, hk40⟩ := chk_c hk39
  refine gk_callSH C o_L_act k_L_100 dL_most_67 (act_e hfl H39 (w := 1) (a := (9)) (b := (0)) (c := (1)) (d := (0)) rfl (by omega) (by omega) (by omega) (by omega) (by omega) (Nat.le_trans b39 (by omega)) e40) rfl rfl ⟨Nat.le_of_ble_eq_true rfl, Nat.le_of_ble_eq_true rfl⟩ ⟨by show _ + 9 ≤ 3000; omega, by show _ + 418 ≤ 130000; omega⟩ (by exact Nat.le_of_ble_eq_true rfl) (fun v40 h40 p40 => ?_)
  obtain ⟨rfl, H40⟩ := p40
  dsimp only [gk_push]
  clear e40 H39 hk39 b39
  refine gk_iload_n C dL_most_70 rfl ?_
  refine gk_bipush C dL_most_71 (by decide) ?_
  refine gk_icmp_ge C (tgt := 82) (by omega) (by omega) dL_most_73 (by decide) (fun c_73 => ?_) (fun c_73 => ?_)
  · exact absurd c_73 (by omega)
  refine gk_iload_n C dL_most_76 rfl ?_
  refine gk_iconst C dL_most_77 ?_
  refine gk_iadd C dL_most_78 ?_
  rw [show ((24 : Int) + 1) = 25 by decide]
  refine gk_goto C (tgt := 84) dL_most_79 (by decide) ?_
  refine gk_icmp_eq C (tgt := 89) (by omega) (by omega) dL_most_84 (by decide) (fun c_84 => ?_) (fun c_84 => ?_)
  rotate_left
  · exact absurd c_84 (by omega)
  refine gk_iload_n C dL_most_89 rfl ?_
  refine gk_iconst C dL_most_90 ?_
  refine gk_irem C (by omega) (by omega) dL_most_91 ?_
  rw [show ((24 : Int) % 4) = 0 by decide]
  refine gk_iconst C dL_most_92 ?_
  refine gk_icmp_ne C (tgt := 129) (by omega) (by omega) dL_most_93 (by decide) (fun c_93 => ?_) (fun c_93 => ?_)
  rotate_left
  · exact absurd c_93 (by omega)
  refine gk_iinc_1 C rfl (by exact Nat.le_of_ble_eq_true rfl) dL_most_129 ?_
  rw [show ((24 : Int) + 1) = 25 by decide]
  refine gk_goto C (tgt := 52) dL_most_132 (by decide) ?_
  refine gk_iload_n C dL_most_52 rfl ?_
  refine gk_bipush C dL_most_53 (by decide) ?_
  refine gk_icmp_ge C (tgt := 135) (by omega) (by omega) dL_most_55 (by decide) (fun c_55 => ?_) (fun c_55 => ?_)
  · exact absurd c_55 (by omega)
  refine gk_aload_n C dL_most_58 rfl ?_
  refine gk_iconst C dL_most_59 ?_
  refine gk_bipush C dL_most_60 (by decide) ?_
  refine gk_iload_n C dL_most_62 rfl ?_
  refine gk_iconst C dL_most_63 ?_
  refine gk_irem C (by omega) (by omega) dL_most_64 ?_
  rw [show ((25 : Int) % 2) = 1 by decide]
  refine gk_iconst C dL_most_65 ?_
  refine gk_iconst C dL_most_66 ?_
  obtain ⟨σ41, e41, b41, hk41⟩ := chk_c hk40
  refine gk_callSH C o_L_act k_L_100 dL_most_67 (act_e hfl H40 (w := 1) (a := (9)) (b := (1)) (c := (1)) (d := (0)) rfl (by omega) (by omega) (by omega) (by omega) (by omega) (Nat.le_trans b40 (by omega)) e41) rfl rfl ⟨Nat.le_of_ble_eq_true rfl, Nat.le_of_ble_eq_true rfl⟩ ⟨by show _ + 9 ≤ 3000; omega, by show _ + 418 ≤ 130000; omega⟩ (by exact Nat.le_of_ble_eq_true rfl) (fun v41 h41 p41 => ?_)
  obtain ⟨rfl, H41⟩ := p41
  dsimp only [gk_push]
  clear e41 H40 hk40 b40
  refine gk_iload_n C dL_most_70 rfl ?_
  refine gk_bipush C dL_most_71 (by decide) ?_
  refine gk_icmp_ge C (tgt := 82) (by omega) (by omega) dL_most_73 (by decide) (fun c_73 => ?_) (fun c_73 => ?_)
  · exact absurd c_73 (by omega)
  refine gk_iload_n C dL_most_76 rfl ?_
  refine gk_iconst C dL_most_77 ?_
  refine gk_iadd C dL_most_78 ?_
  rw [show ((25 : Int) + 1) = 26 by decide]
  refine gk_goto C (tgt := 84) dL_most_79 (by decide) ?_
  refine gk_icmp_eq C (tgt := 89) (by omega) (by omega) dL_most_84 (by decide) (fun c_84 => ?_) (fun c_84 => ?_)
  rotate_left
  · exact absurd c_84 (by omega)
  refine gk_iload_n C dL_most_89 rfl ?_
  refine gk_iconst C dL_most_90 ?_
  refine gk_irem C (by omega) (by omega) dL_most_91 ?_
  rw [show ((25 : Int) % 4) = 1 by decide]
  refine gk_iconst C dL_most_92 ?_
  refine gk_icmp_ne C (tgt := 129) (by omega) (by omega) dL_most_93 (by decide) (fun c_93 => ?_) (fun c_93 => ?_)
  rotate_left
  · exact absurd c_93 (by omega)
  refine gk_iinc_1 C rfl (by exact Nat.le_of_ble_eq_true rfl) dL_most_129 ?_
  rw [show ((25 : Int) + 1) = 26 by decide]
  refine gk_goto C (tgt := 52) dL_most_132 (by decide) ?_
  refine gk_iload_n C dL_most_52 rfl ?_
  refine gk_bipush C dL_most_53 (by decide) ?_
  refine gk_icmp_ge C (tgt := 135) (by omega) (by omega) dL_most_55 (by decide) (fun c_55 => ?_) (fun c_55 => ?_)
  · exact absurd c_55 (by omega)
  refine gk_aload_n C dL_most_58 rfl ?_
  refine gk_iconst C dL_most_59 ?_
  refine gk_bipush C dL_most_60 (by decide) ?_
  refine gk_iload_n C dL_most_62 rfl ?_
  refine gk_iconst C dL_most_63 ?_
  refine gk_irem C (by omega) (by omega) dL_most_64 ?_
  rw [show ((26 : Int) % 2) = 0 by decide]
  refine gk_iconst C dL_most_65 ?_
  refine gk_iconst C dL_most_66 ?_
  obtain ⟨σ42, e42, b42, hk42⟩ := chk_c hk41
  refine gk_callSH C o_L_act k_L_100 dL_most_67 (act_e hfl H41 (w := 1) (a := (9)) (b := (0)) (c := (1)) (d := (0)) rfl (by omega) (by omega) (by omega) (by omega) (by omega) (Nat.le_trans b41 (by omega)) e42) rfl rfl ⟨Nat.le_of_ble_eq_true rfl, Nat.le_of_ble_eq_true rfl⟩ ⟨by show _ + 9 ≤ 3000; omega, by show _ + 418 ≤ 130000; omega⟩ (by exact Nat.le_of_ble_eq_true rfl) (fun v42 h42 p42 => ?_)
  obtain ⟨rfl, H42⟩ := p42
  dsimp only [gk_push]
  clear e42 H41 hk41 b41
  refine gk_iload_n C dL_most_70 rfl ?_
  refine gk_bipush C dL_most_71 (by decide) ?_
  refine gk_icmp_ge C (tgt := 82) (by omega) (by omega) dL_most_73 (by decide) (fun c_73 => ?_) (fun c_73 => ?_)
  · exact absurd c_73 (by omega)
  refine gk_iload_n C dL_most_76 rfl ?_
  refine gk_iconst C dL_most_77 ?_
  refine gk_iadd C dL_most_78 ?_
  rw [show ((26 : Int) + 1) = 27 by decide]
  refine gk_goto C (tgt := 84) dL_most_79 (by decide) ?_
  refine gk_icmp_eq C (tgt := 89) (by omega) (by omega) dL_most_84 (by decide) (fun c_84 => ?_) (fun c_84 => ?_)
  rotate_left
  · exact absurd c_84 (by omega)
  refine gk_iload_n C dL_most_89 rfl ?_
  refine gk_iconst C dL_most_90 ?_
  refine gk_irem C (by omega) (by omega) dL_most_91 ?_
  rw [show ((26 : Int) % 4) = 2 by decide]
  refine gk_iconst C dL_most_92 ?_
  refine gk_icmp_ne C (tgt := 129) (by omega) (by omega) dL_most_93 (by decide) (fun c_93 => ?_) (fun c_93 => ?_)
  rotate_left
  · exact absurd c_93 (by omega)
  refine gk_iinc_1 C rfl (by exact Nat.le_of_ble_eq_true rfl) dL_most_129 ?_
  rw [show ((26 : Int) + 1) = 27 by decide]
  refine gk_goto C (tgt := 52) dL_most_132 (by decide) ?_
  refine gk_iload_n C dL_most_52 rfl ?_
  refine gk_bipush C dL_most_53 (by decide) ?_
  refine gk_icmp_ge C (tgt := 135) (by omega) (by omega) dL_most_55 (by decide) (fun c_55 => ?_) (fun c_55 => ?_)
  · exact absurd c_55 (by omega)
  refine gk_aload_n C dL_most_58 rfl ?_
  refine gk_iconst C dL_most_59 ?_
  refine gk_bipush C dL_most_60 (by decide) ?_
  refine gk_iload_n C dL_most_62 rfl ?_
  refine gk_iconst C dL_most_63 ?_
  refine gk_irem C (by omega) (by omega) dL_most_64 ?_
  rw [show ((27 : Int) % 2) = 1 by decide]
  refine gk_iconst C dL_most_65 ?_
  refine gk_iconst C dL_most_66 ?_
  obtain ⟨σ43, e43, b43, hk43⟩ := chk_c hk42
  refine gk_callSH C o_L_act k_L_100 dL_most_67 (act_e hfl H42 (w := 1) (a := (9)) (b := (1)) (c := (1)) (d := (0)) rfl (by omega) (by omega) (by omega) (by omega) (by omega) (Nat.le_trans b42 (by omega)) e43) rfl rfl ⟨Nat.le_of_ble_eq_true rfl, Nat.le_of_ble_eq_true rfl⟩ ⟨by show _ + 9 ≤ 3000; omega, by show _ + 418 ≤ 130000; omega⟩ (by exact Nat.le_of_ble_eq_true rfl) (fun v43 h43 p43 => ?_)
  obtain ⟨rfl, H43⟩ := p43
  dsimp only [gk_push]
  clear e43 H42 hk42 b42
  refine gk_iload_n C dL_most_70 rfl ?_
  refine gk_bipush C dL_most_71 (by decide) ?_
  refine gk_icmp_ge C (tgt := 82) (by omega) (by omega) dL_most_73 (by decide) (fun c_73 => ?_) (fun c_73 => ?_)
  · exact absurd c_73 (by omega)
  refine gk_iload_n C dL_most_76 rfl ?_
  refine gk_iconst C dL_most_77 ?_
  refine gk_iadd C dL_most_78 ?_
  rw [show ((27 : Int) + 1) = 28 by decide]
  refine gk_goto C (tgt := 84) dL_most_79 (by decide) ?_
  refine gk_icmp_eq C (tgt := 89) (by omega) (by omega) dL_most_84 (by decide) (fun c_84 => ?_) (fun c_84 => ?_)
  rotate_left
  · exact absurd c_84 (by omega)
  refine gk_iload_n C dL_most_89 rfl ?_
  refine gk_iconst C dL_most_90 ?_
  refine gk_irem C (by omega) (by omega) dL_most_91 ?_
  rw [show ((27 : Int) % 4) = 3 by decide]
  refine gk_iconst C dL_most_92 ?_
  refine gk_icmp_ne C (tgt := 129) (by omega) (by omega) dL_most_93 (by decide) (fun c_93 => ?_) (fun c_93 => ?_)
  · exact absurd c_93 (by omega)
  refine gk_iload_n C dL_most_96 rfl ?_
  refine gk_bipush C dL_most_97 (by decide) ?_
  refine gk_icmp_ge C (tgt := 129) (by omega) (by omega) dL_most_99 (by decide) (fun c_99 => ?_) (fun c_99 => ?_)
  rotate_left
  · exact absurd c_99 (by omega)
  refine gk_iinc_1 C rfl (by exact Nat.le_of_ble_eq_true rfl) dL_most_129 ?_
  rw [show ((27 : Int) + 1) = 28 by decide]
  refine gk_goto C (tgt := 52) dL_most_132 (by decide) ?_
  refine gk_iload_n C dL_most_52 rfl ?_
  refine gk_bipush C dL_most_53 (by decide) ?_
  refine gk_icmp_ge C (tgt := 135) (by omega) (by omega) dL_most_55 (by decide) (fun c_55 => ?_) (fun c_55 => ?_)
  · exact absurd c_55 (by omega)
  refine gk_aload_n C dL_most_58 rfl ?_
  refine gk_iconst C dL_most_59 ?_
  refine gk_bipush C dL_most_60 (by decide) ?_
  refine gk_iload_n C dL_most_62 rfl ?_
  refine gk_iconst C dL_most_63 ?_
  refine gk_irem C (by omega) (by omega) dL_most_64 ?_
  rw [show ((28 : Int) % 2) = 0 by decide]
  refine gk_iconst C dL_most_65 ?_
  refine gk_iconst C dL_most_66 ?_
  obtain ⟨σ44, e44, b44, hk44⟩ := chk_c hk43
  refine gk_callSH C o_L_act k_L_100 dL_most_67 (act_e hfl H43 (w := 1) (a := (9)) (b := (0)) (c := (1)) (d := (0)) rfl (by omega) (by omega) (by omega) (by omega) (by omega) (Nat.le_trans b43 (by omega)) e44) rfl rfl ⟨Nat.le_of_ble_eq_true rfl, Nat.le_of_ble_eq_true rfl⟩ ⟨by show _ + 9 ≤ 3000; omega, by show _ + 418 ≤ 130000; omega⟩ (by exact Nat.le_of_ble_eq_true rfl) (fun v44 h44 p44 => ?_)
  obtain ⟨rfl, H44⟩ := p44
  dsimp only [gk_push]
  clear e44 H43 hk43 b43
  refine gk_iload_n C dL_most_70 rfl ?_
  refine gk_bipush C dL_most_71 (by decide) ?_
  refine gk_icmp_ge C (tgt := 82) (by omega) (by omega) dL_most_73 (by decide) (fun c_73 => ?_) (fun c_73 => ?_)
  · exact absurd c_73 (by omega)
  refine gk_iload_n C dL_most_76 rfl ?_
  refine gk_iconst C dL_most_77 ?_
  refine gk_iadd C dL_most_78 ?_
  rw [show ((28 : Int) + 1) = 29 by decide]
  refine gk_goto C (tgt := 84) dL_most_79 (by decide) ?_
  refine gk_icmp_eq C (tgt := 89) (by omega) (by omega) dL_most_84 (by decide) (fun c_84 => ?_) (fun c_84 => ?_)
  rotate_left
  · exact absurd c_84 (by omega)
  refine gk_iload_n C dL_most_89 rfl ?_
  refine gk_iconst C dL_most_90 ?_
  refine gk_irem C (by omega) (by omega) dL_most_91 ?_
  rw [show ((28 : Int) % 4) = 0 by decide]
  refine gk_iconst C dL_most_92 ?_
  refine gk_icmp_ne C (tgt := 129) (by omega) (by omega) dL_most_93 (by decide) (fun c_93 => ?_) (fun c_93 => ?_)
  rotate_left
  · exact absurd c_93 (by omega)
  refine gk_iinc_1 C rfl (by exact Nat.le_of_ble_eq_true rfl) dL_most_129 ?_
  rw [show ((28 : Int) + 1) = 29 by decide]
  refine gk_goto C (tgt := 52) dL_most_132 (by decide) ?_
  refine gk_iload_n C dL_most_52 rfl ?_
  refine gk_bipush C dL_most_53 (by decide) ?_
  refine gk_icmp_ge C (tgt := 135) (by omega) (by omega) dL_most_55 (by decide) (fun c_55 => ?_) (fun c_55 => ?_)
  · exact absurd c_55 (by omega)
  refine gk_aload_n C dL_most_58 rfl ?_
  refine gk_iconst C dL_most_59 ?_
  refine gk_bipush C dL_most_60 (by decide) ?_
  refine gk_iload_n C dL_most_62 rfl ?_
  refine gk_iconst C dL_most_63 ?_
  refine gk_irem C (by omega) (by omega) dL_most_64 ?_
  rw [show ((29 : Int) % 2) = 1 by decide]
  refine gk_iconst C dL_most_65 ?_
  refine gk_iconst C dL_most_66 ?_
  obtain ⟨σ45, e45, b45, hk45⟩ := chk_c hk44
  refine gk_callSH C o_L_act k_L_100 dL_most_67 (act_e hfl H44 (w := 1) (a := (9)) (b := (1)) (c := (1)) (d := (0)) rfl (by omega) (by omega) (by omega) (by omega) (by omega) (Nat.le_trans b44 (by omega)) e45) rfl rfl ⟨Nat.le_of_ble_eq_true rfl, Nat.le_of_ble_eq_true rfl⟩ ⟨by show _ + 9 ≤ 3000; omega, by show _ + 418 ≤ 130000; omega⟩ (by exact Nat.le_of_ble_eq_true rfl) (fun v45 h45 p45 => ?_)
  obtain ⟨rfl, H45⟩ := p45
  dsimp only [gk_push]
  clear e45 H44 hk44 b44
  refine gk_iload_n C dL_most_70 rfl ?_
  refine gk_bipush C dL_most_71 (by decide) ?_
  refine gk_icmp_ge C (tgt := 82) (by omega) (by omega) dL_most_73 (by decide) (fun c_73 => ?_) (fun c_73 => ?_)
  · exact absurd c_73 (by omega)
  refine gk_iload_n C dL_most_76 rfl ?_
  refine gk_iconst C dL_most_77 ?_
  refine gk_iadd C dL_most_78 ?_
  rw [show ((29 : Int) + 1) = 30 by decide]
  refine gk_goto C (tgt := 84) dL_most_79 (by decide) ?_
  refine gk_icmp_eq C (tgt := 89) (by omega) (by omega) dL_most_84 (by decide) (fun c_84 => ?_) (fun c_84 => ?_)
  rotate_left
  · exact absurd c_84 (by omega)
  refine gk_iload_n C dL_most_89 rfl ?_
  refine gk_iconst C dL_most_90 ?_
  refine gk_irem C (by omega) (by omega) dL_most_91 ?_
  rw [show ((29 : Int) % 4) = 1 by decide]
  refine gk_iconst C dL_most_92 ?_
  refine gk_icmp_ne C (tgt := 129) (by omega) (by omega) dL_most_93 (by decide) (fun c_93 => ?_) (fun c_93 => ?_)
  rotate_left
  · exact absurd c_93 (by omega)
  refine gk_iinc_1 C rfl (by exact Nat.le_of_ble_eq_true rfl) dL_most_129 ?_
  rw [show ((29 : Int) + 1) = 30 by decide]
  refine gk_goto C (tgt := 52) dL_most_132 (by decide) ?_
  refine gk_iload_n C dL_most_52 rfl ?_
  refine gk_bipush C dL_most_53 (by decide) ?_
  refine gk_icmp_ge C (tgt := 135) (by omega) (by omega) dL_most_55 (by decide) (fun c_55 => ?_) (fun c_55 => ?_)
  · exact absurd c_55 (by omega)
  refine gk_aload_n C dL_most_58 rfl ?_
  refine gk_iconst C dL_most_59 ?_
  refine gk_bipush C dL_most_60 (by decide) ?_
  refine gk_iload_n C dL_most_62 rfl ?_
  refine gk_iconst C dL_most_63 ?_
  refine gk_irem C (by omega) (by omega) dL_most_64 ?_
  rw [show ((30 : Int) % 2) = 0 by decide]
  refine gk_iconst C dL_most_65 ?_
  refine gk_iconst C dL_most_66 ?_
  obtain ⟨σ46, e46, b46, hk46⟩ := chk_c hk45
  refine gk_callSH C o_L_act k_L_100 dL_most_67 (act_e hfl H45 (w := 1) (a := (9)) (b := (0)) (c := (1)) (d := (0)) rfl (by omega) (by omega) (by omega) (by omega) (by omega) (Nat.le_trans b45 (by omega)) e46) rfl rfl ⟨Nat.le_of_ble_eq_true rfl, Nat.le_of_ble_eq_true rfl⟩ ⟨by show _ + 9 ≤ 3000; omega, by show _ + 418 ≤ 130000; omega⟩ (by exact Nat.le_of_ble_eq_true rfl) (fun v46 h46 p46 => ?_)
  obtain ⟨rfl, H46⟩ := p46
  dsimp only [gk_push]
  clear e46 H45 hk45 b45
  refine gk_iload_n C dL_most_70 rfl ?_
  refine gk_bipush C dL_most_71 (by decide) ?_
  refine gk_icmp_ge C (tgt := 82) (by omega) (by omega) dL_most_73 (by decide) (fun c_73 => ?_) (fun c_73 => ?_)
  · exact absurd c_73 (by omega)
  refine gk_iload_n C dL_most_76 rfl ?_
  refine gk_iconst C dL_most_77 ?_
  refine gk_iadd C dL_most_78 ?_
  rw [show ((30 : Int) + 1) = 31 by decide]
  refine gk_goto C (tgt := 84) dL_most_79 (by decide) ?_
  refine gk_icmp_eq C (tgt := 89) (by omega) (by omega) dL_most_84 (by decide) (fun c_84 => ?_) (fun c_84 => ?_)
  rotate_left
  · exact absurd c_84 (by omega)
  refine gk_iload_n C dL_most_89 rfl ?_
  refine gk_iconst C dL_most_90 ?_
  refine gk_irem C (by omega) (by omega) dL_most_91 ?_
  rw [show ((30 : Int) % 4) = 2 by decide]
  refine gk_iconst C dL_most_92 ?_
  refine gk_icmp_ne C (tgt := 129) (by omega) (by omega) dL_most_93 (by decide) (fun c_93 => ?_) (fun c_93 => ?_)
  rotate_left
  · exact absurd c_93 (by omega)
  refine gk_iinc_1 C rfl (by exact Nat.le_of_ble_eq_true rfl) dL_most_129 ?_
  rw [show ((30 : Int) + 1) = 31 by decide]
  refine gk_goto C (tgt := 52) dL_most_132 (by decide) ?_
  refine gk_iload_n C dL_most_52 rfl ?_
  refine gk_bipush C dL_most_53 (by decide) ?_
  refine gk_icmp_ge C (tgt := 135) (by omega) (by omega) dL_most_55 (by decide) (fun c_55 => ?_) (fun c_55 => ?_)
  · exact absurd c_55 (by omega)
  refine gk_aload_n C dL_most_58 rfl ?_
  refine gk_iconst C dL_most_59 ?_
  refine gk_bipush C dL_most_60 (by decide) ?_
  refine gk_iload_n C dL_most_62 rfl ?_
  refine gk_iconst C dL_most_63 ?_
  refine gk_irem C (by omega) (by omega) dL_most_64 ?_
  rw [show ((31 : Int) % 2) = 1 by decide]
  refine gk_iconst C dL_most_65 ?_
  refine gk_iconst C dL_most_66 ?_
  obtain ⟨σ47, e47, b47, hk47⟩ := chk_c hk46
  refine gk_callSH C o_L_act k_L_100 dL_most_67 (act_e hfl H46 (w := 1) (a := (9)) (b := (1)) (c := (1)) (d := (0)) rfl (by omega) (by omega) (by omega) (by omega) (by omega) (Nat.le_trans b46 (by omega)) e47) rfl rfl ⟨Nat.le_of_ble_eq_true rfl, Nat.le_of_ble_eq_true rfl⟩ ⟨by show _ + 9 ≤ 3000; omega, by show _ + 418 ≤ 130000; omega⟩ (by exact Nat.le_of_ble_eq_true rfl) (fun v47 h47 p47 => ?_)
  obtain ⟨rfl, H47⟩ := p47
  dsimp only [gk_push]
  clear e47 H46 hk46 b46
  refine gk_iload_n C dL_most_70 rfl ?_
  refine gk_bipush C dL_most_71 (by decide) ?_
  refine gk_icmp_ge C (tgt := 82) (by omega) (by omega) dL_most_73 (by decide) (fun c_73 => ?_) (fun c_73 => ?_)
  · exact absurd c_73 (by omega)
  refine gk_iload_n C dL_most_76 rfl ?_
  refine gk_iconst C dL_most_77 ?_
  refine gk_iadd C dL_most_78 ?_
  rw [show ((31 : Int) + 1) = 32 by decide]
  refine gk_goto C (tgt := 84) dL_most_79 (by decide) ?_
  refine gk_icmp_eq C (tgt := 89) (by omega) (by omega) dL_most_84 (by decide) (fun c_84 => ?_) (fun c_84 => ?_)
  rotate_left
  · exact absurd c_84 (by omega)
  refine gk_iload_n C dL_most_89 rfl ?_
  refine gk_iconst C dL_most_90 ?_
  refine gk_irem C (by omega) (by omega) dL_most_91 ?_
  rw [show ((31 : Int) % 4) = 3 by decide]
  refine gk_iconst C dL_most_92 ?_
  refine gk_icmp_ne C (tgt := 129) (by omega) (by omega) dL_most_93 (by decide) (fun c_93 => ?_) (fun c_93 => ?_)
  · exact absurd c_93 (by omega)
  refine gk_iload_n C dL_most_96 rfl ?_
  refine gk_bipush C dL_most_97 (by decide) ?_
  refine gk_icmp_ge C (tgt := 129) (by omega) (by omega) dL_most_99 (by decide) (fun c_99 => ?_) (fun c_99 => ?_)
  rotate_left
  · exact absurd c_99 (by omega)
  refine gk_iinc_1 C rfl (by exact Nat.le_of_ble_eq_true rfl) dL_most_129 ?_
  rw [show ((31 : Int) + 1) = 32 by decide]
  refine gk_goto C (tgt := 52) dL_most_132 (by decide) ?_
  refine gk_iload_n C dL_most_52 rfl ?_
  refine gk_bipush C dL_most_53 (by decide) ?_
  refine gk_icmp_ge C (tgt := 135) (by omega) (by omega) dL_most_55 (by decide) (fun c_55 => ?_) (fun c_55 => ?_)
  · exact absurd c_55 (by omega)
  refine gk_aload_n C dL_most_58 rfl ?_
  refine gk_iconst C dL_most_59 ?_
  refine gk_bipush C dL_most_60 (by decide) ?_
  refine gk_iload_n C dL_most_62 rfl ?_
  refine gk_iconst C dL_most_63 ?_
  refine gk_irem C (by omega) (by omega) dL_most_64 ?_
  rw [show ((32 : Int) % 2) = 0 by decide]
  refine gk_iconst C dL_most_65 ?_
  refine gk_iconst C dL_most_66 ?_
  obtain ⟨σ48, e48, b48, hk48⟩ := chk_c hk47
  refine gk_callSH C o_L_act k_L_100 dL_most_67 (act_e hfl H47 (w := 1) (a := (9)) (b := (0)) (c := (1)) (d := (0)) rfl (by omega) (by omega) (by omega) (by omega) (by omega) (Nat.le_trans b47 (by omega)) e48) rfl rfl ⟨Nat.le_of_ble_eq_true rfl, Nat.le_of_ble_eq_true rfl⟩ ⟨by show _ + 9 ≤ 3000; omega, by show _ + 418 ≤ 130000; omega⟩ (by exact Nat.le_of_ble_eq_true rfl) (fun v48 h48 p48 => ?_)
  obtain ⟨rfl, H48⟩ := p48
  dsimp only [gk_push]
  clear e48 H47 hk47 b47
  refine gk_iload_n C dL_most_70 rfl ?_
  refine gk_bipush C dL_most_71 (by decide) ?_
  refine gk_icmp_ge C (tgt := 82) (by omega) (by omega) dL_most_73 (by decide) (fun c_73 => ?_) (fun c_73 => ?_)
  · exact absurd c_73 (by omega)
  refine gk_iload_n C dL_most_76 rfl ?_
  refine gk_iconst C dL_most_77 ?_
  refine gk_iadd C dL_most_78 ?_
  rw [show ((32 : Int) + 1) = 33 by decide]
  refine gk_goto C (tgt := 84) dL_most_79 (by decide) ?_
  refine gk_icmp_eq C (tgt := 89) (by omega) (by omega) dL_most_84 (by decide) (fun c_84 => ?_) (fun c_84 => ?_)
  rotate_left
  · exact absurd c_84 (by omega)
  refine gk_iload_n C dL_most_89 rfl ?_
  refine gk_iconst C dL_most_90 ?_
  refine gk_irem C (by omega) (by omega) dL_most_91 ?_
  rw [show ((32 : Int) % 4) = 0 by decide]
  refine gk_iconst C dL_most_92 ?_
  refine gk_icmp_ne C (tgt := 129) (by omega) (by omega) dL_most_93 (by decide) (fun c_93 => ?_) (fun c_93 => ?_)
  rotate_left
  · exact absurd c_93 (by omega)
  refine gk_iinc_1 C rfl (by exact Nat.le_of_ble_eq_true rfl) dL_most_129 ?_
  rw [show ((32 : Int) + 1) = 33 by decide]
  refine gk_goto C (tgt := 52) dL_most_132 (by decide) ?_
  refine gk_iload_n C dL_most_52 rfl ?_
  refine gk_bipush C dL_most_53 (by decide) ?_
  refine gk_icmp_ge C (tgt := 135) (by omega) (by omega) dL_most_55 (by decide) (fun c_55 => ?_) (fun c_55 => ?_)
  · exact absurd c_55 (by omega)
  refine gk_aload_n C dL_most_58 rfl ?_
  refine gk_iconst C dL_most_59 ?_
  refine gk_bipush C dL_most_60 (by decide) ?_
  refine gk_iload_n C dL_most_62 rfl ?_
  refine gk_iconst C dL_most_63 ?_
  refine gk_irem C (by omega) (by omega) dL_most_64 ?_
  rw [show ((33 : Int) % 2) = 1 by decide]
  refine gk_iconst C dL_most_65 ?_
  refine gk_iconst C dL_most_66 ?_
  obtain ⟨σ49, e49, b49, hk49⟩ := chk_c hk48
  refine gk_callSH C o_L_act k_L_100 dL_most_67 (act_e hfl H48 (w := 1) (a := (9)) (b := (1)) (c := (1)) (d := (0)) rfl (by omega) (by omega) (by omega) (by omega) (by omega) (Nat.le_trans b48 (by omega)) e49) rfl rfl ⟨Nat.le_of_ble_eq_true rfl, Nat.le_of_ble_eq_true rfl⟩ ⟨by show _ + 9 ≤ 3000; omega, by show _ + 418 ≤ 130000; omega⟩ (by exact Nat.le_of_ble_eq_true rfl) (fun v49 h49 p49 => ?_)
  obtain ⟨rfl, H49⟩ := p49
  dsimp only [gk_push]
  clear e49 H48 hk48 b48
  refine gk_iload_n C dL_most_70 rfl ?_
  refine gk_bipush C dL_most_71 (by decide) ?_
  refine gk_icmp_ge C (tgt := 82) (by omega) (by omega) dL_most_73 (by decide) (fun c_73 => ?_) (fun c_73 => ?_)
  · exact absurd c_73 (by omega)
  refine gk_iload_n C dL_most_76 rfl ?_
  refine gk_iconst C dL_most_77 ?_
  refine gk_iadd C dL_most_78 ?_
  rw [show ((33 : Int) + 1) = 34 by decide]
  refine gk_goto C (tgt := 84) dL_most_79 (by decide) ?_
  refine gk_icmp_eq C (tgt := 89) (by omega) (by omega) dL_most_84 (by decide) (fun c_84 => ?_) (fun c_84 => ?_)
  rotate_left
  · exact absurd c_84 (by omega)
  refine gk_iload_n C dL_most_89 rfl ?_
  refine gk_iconst C dL_most_90 ?_
  refine gk_irem C (by omega) (by omega) dL_most_91 ?_
  rw [show ((33 : Int) % 4) = 1 by decide]
  refine gk_iconst C dL_most_92 ?_
  refine gk_icmp_ne C (tgt := 129) (by omega) (by omega) dL_most_93 (by decide) (fun c_93 => ?_) (fun c_93 => ?_)
  rotate_left
  · exact absurd c_93 (by omega)
  refine gk_iinc_1 C rfl (by exact Nat.le_of_ble_eq_true rfl) dL_most_129 ?_
  rw [show ((33 : Int) + 1) = 34 by decide]
  refine gk_goto C (tgt := 52) dL_most_132 (by decide) ?_
  refine gk_iload_n C dL_most_52 rfl ?_
  refine gk_bipush C dL_most_53 (by decide) ?_
  refine gk_icmp_ge C (tgt := 135) (by omega) (by omega) dL_most_55 (by decide) (fun c_55 => ?_) (fun c_55 => ?_)
  · exact absurd c_55 (by omega)
  refine gk_aload_n C dL_most_58 rfl ?_
  refine gk_iconst C dL_most_59 ?_
  refine gk_bipush C dL_most_60 (by decide) ?_
  refine gk_iload_n C dL_most_62 rfl ?_
  refine gk_iconst C dL_most_63 ?_
  refine gk_irem C (by omega) (by omega) dL_most_64 ?_
  rw [show ((34 : Int) % 2) = 0 by decide]
  refine gk_iconst C dL_most_65 ?_
  refine gk_iconst C dL_most_66 ?_
  obtain ⟨σ50, e50, b50, hk50⟩ := chk_c hk49
  refine gk_callSH C o_L_act k_L_100 dL_most_67 (act_e hfl H49 (w := 1) (a := (9)) (b := (0)) (c := (1)) (d := (0)) rfl (by omega) (by omega) (by omega) (by omega) (by omega) (Nat.le_trans b49 (by omega)) e50) rfl rfl ⟨Nat.le_of_ble_eq_true rfl, Nat.le_of_ble_eq_true rfl⟩ ⟨by show _ + 9 ≤ 3000; omega, by show _ + 418 ≤ 130000; omega⟩ (by exact Nat.le_of_ble_eq_true rfl) (fun v50 h50 p50 => ?_)
  obtain ⟨rfl, H50⟩ := p50
  dsimp only [gk_push]
  clear e50 H49 hk49 b49
  refine gk_iload_n C dL_most_70 rfl ?_
  refine gk_bipush C dL_most_71 (by decide) ?_
  refine gk_icmp_ge C (tgt := 82) (by omega) (by omega) dL_most_73 (by decide) (fun c_73 => ?_) (fun c_73 => ?_)
  · exact absurd c_73 (by omega)
  refine gk_iload_n C dL_most_76 rfl ?_
  refine gk_iconst C dL_most_77 ?_
  refine gk_iadd C dL_most_78 ?_
  rw [show ((34 : Int) + 1) = 35 by decide]
  refine gk_goto C (tgt := 84) dL_most_79 (by decide) ?_
  refine gk_icmp_eq C (tgt := 89) (by omega) (by omega) dL_most_84 (by decide) (fun c_84 => ?_) (fun c_84 => ?_)
  rotate_left
  · exact absurd c_84 (by omega)
  refine gk_iload_n C dL_most_89 rfl ?_
  refine gk_iconst C dL_most_90 ?_
  refine gk_irem C (by omega) (by omega) dL_most_91 ?_
  rw [show ((34 : Int) % 4) = 2 by decide]
  refine gk_iconst C dL_most_92 ?_
  refine gk_icmp_ne C (tgt := 129) (by omega) (by omega) dL_most_93 (by decide) (fun c_93 => ?_) (fun c_93 => ?_)
  rotate_left
  · exact absurd c_93 (by omega)
  refine gk_iinc_1 C rfl (by exact Nat.le_of_ble_eq_true rfl) dL_most_129 ?_
  rw [show ((34 : Int) + 1) = 35 by decide]
  refine gk_goto C (tgt := 52) dL_most_132 (by decide) ?_
  refine gk_iload_n C dL_most_52 rfl ?_
  refine gk_bipush C dL_most_53 (by decide) ?_
  refine gk_icmp_ge C (tgt := 135) (by omega) (by omega) dL_most_55 (by decide) (fun c_55 => ?_) (fun c_55 => ?_)
  · exact absurd c_55 (by omega)
  refine gk_aload_n C dL_most_58 rfl ?_
  refine gk_iconst C dL_most_59 ?_
  refine gk_bipush C dL_most_60 (by decide) ?_
  refine gk_iload_n C dL_most_62 rfl ?_
  refine gk_iconst C dL_most_63 ?_
  refine gk_irem C (by omega) (by omega) dL_most_64 ?_
  rw [show ((35 : Int) % 2) = 1 by decide]
  refine gk_iconst C dL_most_65 ?_
  refine gk_iconst C dL_most_66 ?_
  obtain ⟨σ51, e51, b51, hk51⟩ := chk_c hk50
  refine gk_callSH C o_L_act k_L_100 dL_most_67 (act_e hfl H50 (w := 1) (a := (9)) (b := (1)) (c := (1)) (d := (0)) rfl (by omega) (by omega) (by omega) (by omega) (by omega) (Nat.le_trans b50 (by omega)) e51) rfl rfl ⟨Nat.le_of_ble_eq_true rfl, Nat.le_of_ble_eq_true rfl⟩ ⟨by show _ + 9 ≤ 3000; omega, by show _ + 418 ≤ 130000; omega⟩ (by exact Nat.le_of_ble_eq_true rfl) (fun v51 h51 p51 => ?_)
  obtain ⟨rfl, H51⟩ := p51
  dsimp only [gk_push]
  clear e51 H50 hk50 b50
  refine gk_iload_n C dL_most_70 rfl ?_
  refine gk_bipush C dL_most_71 (by decide) ?_
  refine gk_icmp_ge C (tgt := 82) (by omega) (by omega) dL_most_73 (by decide) (fun c_73 => ?_) (fun c_73 => ?_)
  · exact absurd c_73 (by omega)
  refine gk_iload_n C dL_most_76 rfl ?_
  refine gk_iconst C dL_most_77 ?_
  refine gk_iadd C dL_most_78 ?_
  rw [show ((35 : Int) + 1) = 36 by decide]
  refine gk_goto C (tgt := 84) dL_most_79 (by decide) ?_
  refine gk_icmp_eq C (tgt := 89) (by omega) (by omega) dL_most_84 (by decide) (fun c_84 => ?_) (fun c_84 => ?_)
  rotate_left
  · exact absurd c_84 (by omega)
  refine gk_iload_n C dL_most_89 rfl ?_
  refine gk_iconst C dL_most_90 ?_
  refine gk_irem C (by omega) (by omega) dL_most_91 ?_
  rw [show ((35 : Int) % 4) = 3 by decide]
  refine gk_iconst C dL_most_92 ?_
  refine gk_icmp_ne C (tgt := 129) (by omega) (by omega) dL_most_93 (by decide) (fun c_93 => ?_) (fun c_93 => ?_)
  · exact absurd c_93 (by omega)
  refine gk_iload_n C dL_most_96 rfl ?_
  refine gk_bipush C dL_most_97 (by decide) ?_
  refine gk_icmp_ge C (tgt := 129) (by omega) (by omega) dL_most_99 (by decide) (fun c_99 => ?_) (fun c_99 => ?_)
  rotate_left
  · exact absurd c_99 (by omega)
  refine gk_iinc_1 C rfl (by exact Nat.le_of_ble_eq_true rfl) dL_most_129 ?_
  rw [show ((35 : Int) + 1) = 36 by decide]
  refine gk_goto C (tgt := 52) dL_most_132 (by decide) ?_
  refine gk_iload_n C dL_most_52 rfl ?_
  refine gk_bipush C dL_most_53 (by decide) ?_
  refine gk_icmp_ge C (tgt := 135) (by omega) (by omega) dL_most_55 (by decide) (fun c_55 => ?_) (fun c_55 => ?_)
  · exact absurd c_55 (by omega)
  refine gk_aload_n C dL_most_58 rfl ?_
  refine gk_iconst C dL_most_59 ?_
  refine gk_bipush C dL_most_60 (by decide) ?_
  refine gk_iload_n C dL_most_62 rfl ?_
  refine gk_iconst C dL_most_63 ?_
  refine gk_irem C (by omega) (by omega) dL_most_64 ?_
  rw [show ((36 : Int) % 2) = 0 by decide]
  refine gk_iconst C dL_most_65 ?_
  refine gk_iconst C dL_most_66 ?_
  obtain ⟨σ52, e52, b52, hk52⟩ := chk_c hk51
  refine gk_callSH C o_L_act k_L_100 dL_most_67 (act_e hfl H51 (w := 1) (a := (9)) (b := (0)) (c := (1)) (d := (0)) rfl (by omega) (by omega) (by omega) (by omega) (by omega) (Nat.le_trans b51 (by omega)) e52) rfl rfl ⟨Nat.le_of_ble_eq_true rfl, Nat.le_of_ble_eq_true rfl⟩ ⟨by show _ + 9 ≤ 3000; omega, by show _ + 418 ≤ 130000; omega⟩ (by exact Nat.le_of_ble_eq_true rfl) (fun v52 h52 p52 => ?_)
  obtain ⟨rfl, H52⟩ := p52
  dsimp only [gk_push]
  clear e52 H51 hk51 b51
  refine gk_iload_n C dL_most_70 rfl ?_
  refine gk_bipush C dL_most_71 (by decide) ?_
  refine gk_icmp_ge C (tgt := 82) (by omega) (by omega) dL_most_73 (by decide) (fun c_73 => ?_) (fun c_73 => ?_)
  · exact absurd c_73 (by omega)
  refine gk_iload_n C dL_most_76 rfl ?_
  refine gk_iconst C dL_most_77 ?_
  refine gk_iadd C dL_most_78 ?_
  rw [show ((36 : Int) + 1) = 37 by decide]
  refine gk_goto C (tgt := 84) dL_most_79 (by decide) ?_
  refine gk_icmp_eq C (tgt := 89) (by omega) (by omega) dL_most_84 (by decide) (fun c_84 => ?_) (fun c_84 => ?_)
  rotate_left
  · exact absurd c_84 (by omega)
  refine gk_iload_n C dL_most_89 rfl ?_
  refine gk_iconst C dL_most_90 ?_
  refine gk_irem C (by omega) (by omega) dL_most_91 ?_
  rw [show ((36 : Int) % 4) = 0 by decide]
  refine gk_iconst C dL_most_92 ?_
  refine gk_icmp_ne C (tgt := 129) (by omega) (by omega) dL_most_93 (by decide) (fun c_93 => ?_) (fun c_93 => ?_)
  rotate_left
  · exact absurd c_93 (by omega)
  refine gk_iinc_1 C rfl (by exact Nat.le_of_ble_eq_true rfl) dL_most_129 ?_
  rw [show ((36 : Int) + 1) = 37 by decide]
  refine gk_goto C (tgt := 52) dL_most_132 (by decide) ?_
  refine gk_iload_n C dL_most_52 rfl ?_
  refine gk_bipush C dL_most_53 (by decide) ?_
  refine gk_icmp_ge C (tgt := 135) (by omega) (by omega) dL_most_55 (by decide) (fun c_55 => ?_) (fun c_55 => ?_)
  · exact absurd c_55 (by omega)
  refine gk_aload_n C dL_most_58 rfl ?_
  refine gk_iconst C dL_most_59 ?_
  refine gk_bipush C dL_most_60 (by decide) ?_
  refine gk_iload_n C dL_most_62 rfl ?_
  refine gk_iconst C dL_most_63 ?_
  refine gk_irem C (by omega) (by omega) dL_most_64 ?_
  rw [show ((37 : Int) % 2) = 1 by decide]
  refine gk_iconst C dL_most_65 ?_
  refine gk_iconst C dL_most_66 ?_
  obtain ⟨σ53, e53, b53, hk53⟩ := chk_c hk52
  refine gk_callSH C o_L_act k_L_100 dL_most_67 (act_e hfl H52 (w := 1) (a := (9)) (b := (1)) (c := (1)) (d := (0)) rfl (by omega) (by omega) (by omega) (by omega) (by omega) (Nat.le_trans b52 (by omega)) e53) rfl rfl ⟨Nat.le_of_ble_eq_true rfl, Nat.le_of_ble_eq_true rfl⟩ ⟨by show _ + 9 ≤ 3000; omega, by show _ + 418 ≤ 130000; omega⟩ (by exact Nat.le_of_ble_eq_true rfl) (fun v53 h53 p53 => ?_)
  obtain ⟨rfl, H53⟩ := p53
  dsimp only [gk_push]
  clear e53 H52 hk52 b52
  refine gk_iload_n C dL_most_70 rfl ?_
  refine gk_bipush C dL_most_71 (by decide) ?_
  refine gk_icmp_ge C (tgt := 82) (by omega) (by omega) dL_most_73 (by decide) (fun c_73 => ?_) (fun c_73 => ?_)
  · exact absurd c_73 (by omega)
  refine gk_iload_n C dL_most_76 rfl ?_
  refine gk_iconst C dL_most_77 ?_
  refine gk_iadd C dL_most_78 ?_
  rw [show ((37 : Int) + 1) = 38 by decide]
  refine gk_goto C (tgt := 84) dL_most_79 (by decide) ?_
  refine gk_icmp_eq C (tgt := 89) (by omega) (by omega) dL_most_84 (by decide) (fun c_84 => ?_) (fun c_84 => ?_)
  rotate_left
  · exact absurd c_84 (by omega)
  refine gk_iload_n C dL_most_89 rfl ?_
  refine gk_iconst C dL_most_90 ?_
  refine gk_irem C (by omega) (by omega) dL_most_91 ?_
  rw [show ((37 : Int) % 4) = 1 by decide]
  refine gk_iconst C dL_most_92 ?_
  refine gk_icmp_ne C (tgt := 129) (by omega) (by omega) dL_most_93 (by decide) (fun c_93 => ?_) (fun c_93 => ?_)
  rotate_left
  · exact absurd c_93 (by omega)
  refine gk_iinc_1 C rfl (by exact Nat.le_of_ble_eq_true rfl) dL_most_129 ?_
  rw [show ((37 : Int) + 1) = 38 by decide]
  refine gk_goto C (tgt := 52) dL_most_132 (by decide) ?_
  refine gk_iload_n C dL_most_52 rfl ?_
  refine gk_bipush C dL_most_53 (by decide) ?_
  refine gk_icmp_ge C (tgt := 135) (by omega) (by omega) dL_most_55 (by decide) (fun c_55 => ?_) (fun c_55 => ?_)
  · exact absurd c_55 (by omega)
  refine gk_aload_n C dL_most_58 rfl ?_
  refine gk_iconst C dL_most_59 ?_
  refine gk_bipush C dL_most_60 (by decide) ?_
  refine gk_iload_n C dL_most_62 rfl ?_
  refine gk_iconst C dL_most_63 ?_
  refine gk_irem C (by omega) (by omega) dL_most_64 ?_
  rw [show ((38 : Int) % 2) = 0 by decide]
  refine gk_iconst C dL_most_65 ?_
  refine gk_iconst C dL_most_66 ?_
  obtain ⟨σ54, e54, b54, hk54⟩ := chk_c hk53
  refine gk_callSH C o_L_act k_L_100 dL_most_67 (act_e hfl H53 (w := 1) (a := (9)) (b := (0)) (c := (1)) (d := (0)) rfl (by omega) (by omega) (by omega) (by omega) (by omega) (Nat.le_trans b53 (by omega)) e54) rfl rfl ⟨Nat.le_of_ble_eq_true rfl, Nat.le_of_ble_eq_true rfl⟩ ⟨by show _ + 9 ≤ 3000; omega, by show _ + 418 ≤ 130000; omega⟩ (by exact Nat.le_of_ble_eq_true rfl) (fun v54 h54 p54 => ?_)
  obtain ⟨rfl, H54⟩ := p54
  dsimp only [gk_push]
  clear e54 H53 hk53 b53
  refine gk_iload_n C dL_most_70 rfl ?_
  refine gk_bipush C dL_most_71 (by decide) ?_
  refine gk_icmp_ge C (tgt := 82) (by omega) (by omega) dL_most_73 (by decide) (fun c_73 => ?_) (fun c_73 => ?_)
  · exact absurd c_73 (by omega)
  refine gk_iload_n C dL_most_76 rfl ?_
  refine gk_iconst C dL_most_77 ?_
  refine gk_iadd C dL_most_78 ?_
  rw [show ((38 : Int) + 1) = 39 by decide]
  refine gk_goto C (tgt := 84) dL_most_79 (by decide) ?_
  refine gk_icmp_eq C (tgt := 89) (by omega) (by omega) dL_most_84 (by decide) (fun c_84 => ?_) (fun c_84 => ?_)
  rotate_left
  · exact absurd c_84 (by omega)
  refine gk_iload_n C dL_most_89 rfl ?_
  refine gk_iconst C dL_most_90 ?_
  refine gk_irem C (by omega) (by omega) dL_most_91 ?_
  rw [show ((38 : Int) % 4) = 2 by decide]
  refine gk_iconst C dL_most_92 ?_
  refine gk_icmp_ne C (tgt := 129) (by omega) (by omega) dL_most_93 (by decide) (fun c_93 => ?_) (fun c_93 => ?_)
  rotate_left
  · exact absurd c_93 (by omega)
  refine gk_iinc_1 C rfl (by exact Nat.le_of_ble_eq_true rfl) dL_most_129 ?_
  rw [show ((38 : Int) + 1) = 39 by decide]
  refine gk_goto C (tgt := 52) dL_most_132 (by decide) ?_
  refine gk_iload_n C dL_most_52 rfl ?_
  refine gk_bipush C dL_most_53 (by decide) ?_
  refine gk_icmp_ge C (tgt := 135) (by omega) (by omega) dL_most_55 (by decide) (fun c_55 => ?_) (fun c_55 => ?_)
  · exact absurd c_55 (by omega)
  refine gk_aload_n C dL_most_58 rfl ?_
  refine gk_iconst C dL_most_59 ?_
  refine gk_bipush C dL_most_60 (by decide) ?_
  refine gk_iload_n C dL_most_62 rfl ?_
  refine gk_iconst C dL_most_63 ?_
  refine gk_irem C (by omega) (by omega) dL_most_64 ?_
  rw [show ((39 : Int) % 2) = 1 by decide]
  refine gk_iconst C dL_most_65 ?_
  refine gk_iconst C dL_most_66 ?_
  obtain ⟨σ55, e55, b55, hk55⟩ := chk_c hk54
  refine gk_callSH C o_L_act k_L_100 dL_most_67 (act_e hfl H54 (w := 1) (a := (9)) (b := (1)) (c := (1)) (d := (0)) rfl (by omega) (by omega) (by omega) (by omega) (by omega) (Nat.le_trans b54 (by omega)) e55) rfl rfl ⟨Nat.le_of_ble_eq_true rfl, Nat.le_of_ble_eq_true rfl⟩ ⟨by show _ + 9 ≤ 3000; omega, by show _ + 418 ≤ 130000; omega⟩ (by exact Nat.le_of_ble_eq_true rfl) (fun v55 h55 p55 => ?_)
  obtain ⟨rfl, H55⟩ := p55
  dsimp only [gk_push]
  clear e55 H54 hk54 b54
  refine gk_iload_n C dL_most_70 rfl ?_
  refine gk_bipush C dL_most_71 (by decide) ?_
  refine gk_icmp_ge C (tgt := 82) (by omega) (by omega) dL_most_73 (by decide) (fun c_73 => ?_) (fun c_73 => ?_)
  · exact absurd c_73 (by omega)
  refine gk_iload_n C dL_most_76 rfl ?_
  refine gk_iconst C dL_most_77 ?_
  refine gk_iadd C dL_most_78 ?_
  rw [show ((39 : Int) + 1) = 40 by decide]
  refine gk_goto C (tgt := 84) dL_most_79 (by decide) ?_
  refine gk_icmp_eq C (tgt := 89) (by omega) (by omega) dL_most_84 (by decide) (fun c_84 => ?_) (fun c_84 => ?_)
  rotate_left
  · exact absurd c_84 (by omega)
  refine gk_iload_n C dL_most_89 rfl ?_
  refine gk_iconst C dL_most_90 ?_
  refine gk_irem C (by omega) (by omega) dL_most_91 ?_
  rw [show ((39 : Int) % 4) = 3 by decide]
  refine gk_iconst C dL_most_92 ?_
  refine gk_icmp_ne C (tgt := 129) (by omega) (by omega) dL_most_93 (by decide) (fun c_93 => ?_) (fun c_93 => ?_)
  · exact absurd c_93 (by omega)
  refine gk_iload_n C dL_most_96 rfl ?_
  refine gk_bipush C dL_most_97 (by decide) ?_
  refine gk_icmp_ge C (tgt := 129) (by omega) (by omega) dL_most_99 (by decide) (fun c_99 => ?_) (fun c_99 => ?_)
  rotate_left
  · exact absurd c_99 (by omega)
  refine gk_iinc_1 C rfl (by exact Nat.le_of_ble_eq_true rfl) dL_most_129 ?_
  rw [show ((39 : Int) + 1) = 40 by decide]
  refine gk_goto C (tgt := 52) dL_most_132 (by decide) ?_
  refine gk_iload_n C dL_most_52 rfl ?_
  refine gk_bipush C dL_most_53 (by decide) ?_
  refine gk_icmp_ge C (tgt := 135) (by omega) (by omega) dL_most_55 (by decide) (fun c_55 => ?_) (fun c_55 => ?_)
  · exact absurd c_55 (by omega)
  refine gk_aload_n C dL_most_58 rfl ?_
  refine gk_iconst C dL_most_59 ?_
  refine gk_bipush C dL_most_60 (by decide) ?_
  refine gk_iload_n C dL_most_62 rfl ?_
  refine gk_iconst C dL_most_63 ?_
  refine gk_irem C (by omega) (by omega) dL_most_64 ?_
  rw [show ((40 : Int) % 2) = 0 by decide]
  refine gk_iconst C dL_most_65 ?_
  refine gk_iconst C dL_most_66 ?_
  obtain ⟨σ56, e56, b56, hk56⟩ := chk_c hk55
  refine gk_callSH C o_L_act k_L_100 dL_most_67 (act_e hfl H55 (w := 1) (a := (9)) (b := (0)) (c := (1)) (d := (0)) rfl (by omega) (by omega) (by omega) (by omega) (by omega) (Nat.le_trans b55 (by omega)) e56) rfl rfl ⟨Nat.le_of_ble_eq_true rfl, Nat.le_of_ble_eq_true rfl⟩ ⟨by show _ + 9 ≤ 3000; omega, by show _ + 418 ≤ 130000; omega⟩ (by exact Nat.le_of_ble_eq_true rfl) (fun v56 h56 p56 => ?_)
  obtain ⟨rfl, H56⟩ := p56
  dsimp only [gk_push]
  clear e56 H55 hk55 b55
  refine gk_iload_n C dL_most_70 rfl ?_
  refine gk_bipush C dL_most_71 (by decide) ?_
  refine gk_icmp_ge C (tgt := 82) (by omega) (by omega) dL_most_73 (by decide) (fun c_73 => ?_) (fun c_73 => ?_)
  · exact absurd c_73 (by omega)
  refine gk_iload_n C dL_most_76 rfl ?_
  refine gk_iconst C dL_most_77 ?_
  refine gk_iadd C dL_most_78 ?_
  rw [show ((40 : Int) + 1) = 41 by decide]
  refine gk_goto C (tgt := 84) dL_most_79 (by decide) ?_
  refine gk_icmp_eq C (tgt := 89) (by omega) (by omega) dL_most_84 (by decide) (fun c_84 => ?_) (fun c_84 => ?_)
  rotate_left
  · exact absurd c_84 (by omega)
  refine gk_iload_n C dL_most_89 rfl ?_
  refine gk_iconst C dL_most_90 ?_
  refine gk_irem C (by omega) (by omega) dL_most_91 ?_
  rw [show ((40 : Int) % 4) = 0 by decide]
  refine gk_iconst C dL_most_92 ?_
  refine gk_icmp_ne C (tgt := 129) (by omega) (by omega) dL_most_93 (by decide) (fun c_93 => ?_) (fun c_93 => ?_)
  rotate_left
  · exact absurd c_93 (by omega)
  refine gk_iinc_1 C rfl (by exact Nat.le_of_ble_eq_true rfl) dL_most_129 ?_
  rw [show ((40 : Int) + 1) = 41 by decide]
  refine gk_goto C (tgt := 52) dL_most_132 (by decide) ?_
  refine gk_iload_n C dL_most_52 rfl ?_
  refine gk_bipush C dL_most_53 (by decide) ?_
  refine gk_icmp_ge C (tgt := 135) (by omega) (by omega) dL_most_55 (by decide) (fun c_55 => ?_) (fun c_55 => ?_)
  · exact absurd c_55 (by omega)
  refine gk_aload_n C dL_most_58 rfl ?_
  refine gk_iconst C dL_most_59 ?_
  refine gk_bipush C dL_most_60 (by decide) ?_
  refine gk_iload_n C dL_most_62 rfl ?_
  refine gk_iconst C dL_most_63 ?_
  refine gk_irem C (by omega) (by omega) dL_most_64 ?_
  rw [show ((41 : Int) % 2) = 1 by decide]
  refine gk_iconst C dL_most_65 ?_
  refine gk_iconst C dL_most_66 ?_
  obtain ⟨σ57, e57, b57, hk57⟩ := chk_c hk56
  refine gk_callSH C o_L_act k_L_100 dL_most_67 (act_e hfl H56 (w := 1) (a := (9)) (b := (1)) (c := (1)) (d := (0)) rfl (by omega) (by omega) (by omega) (by omega) (by omega) (Nat.le_trans b56 (by omega)) e57) rfl rfl ⟨Nat.le_of_ble_eq_true rfl, Nat.le_of_ble_eq_true rfl⟩ ⟨by show _ + 9 ≤ 3000; omega, by show _ + 418 ≤ 130000; omega⟩ (by exact Nat.le_of_ble_eq_true rfl) (fun v57 h57 p57 => ?_)
  obtain ⟨rfl, H57⟩ := p57
  dsimp only [gk_push]
  clear e57 H56 hk56 b56
  refine gk_iload_n C dL_most_70 rfl ?_
  refine gk_bipush C dL_most_71 (by decide) ?_
  refine gk_icmp_ge C (tgt := 82) (by omega) (by omega) dL_most_73 (by decide) (fun c_73 => ?_) (fun c_73 => ?_)
  · exact absurd c_73 (by omega)
  refine gk_iload_n C dL_most_76 rfl ?_
  refine gk_iconst C dL_most_77 ?_
  refine gk_iadd C dL_most_78 ?_
  rw [show ((41 : Int) + 1) = 42 by decide]
  refine gk_goto C (tgt := 84) dL_most_79 (by decide) ?_
  refine gk_icmp_eq C (tgt := 89) (by omega) (by omega) dL_most_84 (by decide) (fun c_84 => ?_) (fun c_84 => ?_)
  rotate_left
  · exact absurd c_84 (by omega)
  refine gk_iload_n C dL_most_89 rfl ?_
  refine gk_iconst C dL_most_90 ?_
  refine gk_irem C (by omega) (by omega) dL_most_91 ?_
  rw [show ((41 : Int) % 4) = 1 by decide]
  refine gk_iconst C dL_most_92 ?_
  refine gk_icmp_ne C (tgt := 129) (by omega) (by omega) dL_most_93 (by decide) (fun c_93 => ?_) (fun c_93 => ?_)
  rotate_left
  · exact absurd c_93 (by omega)
  refine gk_iinc_1 C rfl (by exact Nat.le_of_ble_eq_true rfl) dL_most_129 ?_
  rw [show ((41 : Int) + 1) = 42 by decide]
  refine gk_goto C (tgt := 52) dL_most_132 (by decide) ?_
  refine gk_iload_n C dL_most_52 rfl ?_
  refine gk_bipush C dL_most_53 (by decide) ?_
  refine gk_icmp_ge C (tgt := 135) (by omega) (by omega) dL_most_55 (by decide) (fun c_55 => ?_) (fun c_55 => ?_)
  · exact absurd c_55 (by omega)
  refine gk_aload_n C dL_most_58 rfl ?_
  refine gk_iconst C dL_most_59 ?_
  refine gk_bipush C dL_most_60 (by decide) ?_
  refine gk_iload_n C dL_most_62 rfl ?_
  refine gk_iconst C dL_most_63 ?_
  refine gk_irem C (by omega) (by omega) dL_most_64 ?_
  rw [show ((42 : Int) % 2) = 0 by decide]
  refine gk_iconst C dL_most_65 ?_
  refine gk_iconst C dL_most_66 ?_
  obtain ⟨σ58, e58, b58, hk58⟩ := chk_c hk57
  refine gk_callSH C o_L_act k_L_100 dL_most_67 (act_e hfl H57 (w := 1) (a := (9)) (b := (0)) (c := (1)) (d := (0)) rfl (by omega) (by omega) (by omega) (by omega) (by omega) (Nat.le_trans b57 (by omega)) e58) rfl rfl ⟨Nat.le_of_ble_eq_true rfl, Nat.le_of_ble_eq_true rfl⟩ ⟨by show _ + 9 ≤ 3000; omega, by show _ + 418 ≤ 130000; omega⟩ (by exact Nat.le_of_ble_eq_true rfl) (fun v58 h58 p58 => ?_)
  obtain ⟨rfl, H58⟩ := p58
  dsimp only [gk_push]
  clear e58 H57 hk57 b57
  refine gk_iload_n C dL_most_70 rfl ?_
  refine gk_bipush C dL_most_71 (by decide) ?_
  refine gk_icmp_ge C (tgt := 82) (by omega) (by omega) dL_most_73 (by decide) (fun c_73 => ?_) (fun c_73 => ?_)
  · exact absurd c_73 (by omega)
  refine gk_iload_n C dL_most_76 rfl ?_
  refine gk_iconst C dL_most_77 ?_
  refine gk_iadd C dL_most_78 ?_
  rw [show ((42 : Int) + 1) = 43 by decide]
  refine gk_goto C (tgt := 84) dL_most_79 (by decide) ?_
  refine gk_icmp_eq C (tgt := 89) (by omega) (by omega) dL_most_84 (by decide) (fun c_84 => ?_) (fun c_84 => ?_)
  rotate_left
  · exact absurd c_84 (by omega)
  refine gk_iload_n C dL_most_89 rfl ?_
  refine gk_iconst C dL_most_90 ?_
  refine gk_irem C (by omega) (by omega) dL_most_91 ?_
  rw [show ((42 : Int) % 4) = 2 by decide]
  refine gk_iconst C dL_most_92 ?_
  refine gk_icmp_ne C (tgt := 129) (by omega) (by omega) dL_most_93 (by decide) (fun c_93 => ?_) (fun c_93 => ?_)
  rotate_left
  · exact absurd c_93 (by omega)
  refine gk_iinc_1 C rfl (by exact Nat.le_of_ble_eq_true rfl) dL_most_129 ?_
  rw [show ((42 : Int) + 1) = 43 by decide]
  refine gk_goto C (tgt := 52) dL_most_132 (by decide) ?_
  refine gk_iload_n C dL_most_52 rfl ?_
  refine gk_bipush C dL_most_53 (by decide) ?_
  refine gk_icmp_ge C (tgt := 135) (by omega) (by omega) dL_most_55 (by decide) (fun c_55 => ?_) (fun c_55 => ?_)
  · exact absurd c_55 (by omega)
  refine gk_aload_n C dL_most_58 rfl ?_
  refine gk_iconst C dL_most_59 ?_
  refine gk_bipush C dL_most_60 (by decide) ?_
  refine gk_iload_n C dL_most_62 rfl ?_
  refine gk_iconst C dL_most_63 ?_
  refine gk_irem C (by omega) (by omega) dL_most_64 ?_
  rw [show ((43 : Int) % 2) = 1 by decide]
  refine gk_iconst C dL_most_65 ?_
  refine gk_iconst C dL_most_66 ?_
  obtain ⟨σ59, e59, b59, hk59⟩ := chk_c hk58
  refine gk_callSH C o_L_act k_L_100 dL_most_67 (act_e hfl H58 (w := 1) (a := (9)) (b := (1)) (c := (1)) (d := (0)) rfl (by omega) (by omega) (by omega) (by omega) (by omega) (Nat.le_trans b58 (by omega)) e59) rfl rfl ⟨Nat.le_of_ble_eq_true rfl, Nat.le_of_ble_eq_true rfl⟩ ⟨by show _ + 9 ≤ 3000; omega, by show _ + 418 ≤ 130000; omega⟩ (by exact Nat.le_of_ble_eq_true rfl) (fun v59 h59 p59 => ?_)
  obtain ⟨rfl, H59⟩ := p59
  dsimp only [gk_push]
  clear e59 H58 hk58 b58
  refine gk_iload_n C dL_most_70 rfl ?_
  refine gk_bipush C dL_most_71 (by decide) ?_
  refine gk_icmp_ge C (tgt := 82) (by omega) (by omega) dL_most_73 (by decide) (fun c_73 => ?_) (fun c_73 => ?_)
  · exact absurd c_73 (by omega)
  refine gk_iload_n C dL_most_76 rfl ?_
  refine gk_iconst C dL_most_77 ?_
  refine gk_iadd C dL_most_78 ?_
  rw [show ((43 : Int) + 1) = 44 by decide]
  refine gk_goto C (tgt := 84) dL_most_79 (by decide) ?_
  refine gk_icmp_eq C (tgt := 89) (by omega) (by omega) dL_most_84 (by decide) (fun c_84 => ?_) (fun c_84 => ?_)
  rotate_left
  · exact absurd c_84 (by omega)
  refine gk_iload_n C dL_most_89 rfl ?_
  refine gk_iconst C dL_most_90 ?_
  refine gk_irem C (by omega) (by omega) dL_most_91 ?_
  rw [show ((43 : Int) % 4) = 3 by decide]
  refine gk_iconst C dL_most_92 ?_
  refine gk_icmp_ne C (tgt := 129) (by omega) (by omega) dL_most_93 (by decide) (fun c_93 => ?_) (fun c_93 => ?_)
  · exact absurd c_93 (by omega)
  refine gk_iload_n C dL_most_96 rfl ?_
  refine gk_bipush C dL_most_97 (by decide) ?_
  refine gk_icmp_ge C (tgt := 129) (by omega) (by omega) dL_most_99 (by decide) (fun c_99 => ?_) (fun c_99 => ?_)
  rotate_left
  · exact absurd c_99 (by omega)
  refine gk_iinc_1 C rfl (by exact Nat.le_of_ble_eq_true rfl) dL_most_129 ?_
  rw [show ((43 : Int) + 1) = 44 by decide]
  refine gk_goto C (tgt := 52) dL_most_132 (by decide) ?_
  refine gk_iload_n C dL_most_52 rfl ?_
  refine gk_bipush C dL_most_53 (by decide) ?_
  refine gk_icmp_ge C (tgt := 135) (by omega) (by omega) dL_most_55 (by decide) (fun c_55 => ?_) (fun c_55 => ?_)
  · exact absurd c_55 (by omega)
  refine gk_aload_n C dL_most_58 rfl ?_
  refine gk_iconst C dL_most_59 ?_
  refine gk_bipush C dL_most_60 (by decide) ?_
  refine gk_iload_n C dL_most_62 rfl ?_
  refine gk_iconst C dL_most_63 ?_
  refine gk_irem C (by omega) (by omega) dL_most_64 ?_
  rw [show ((44 : Int) % 2) = 0 by decide]
  refine gk_iconst C dL_most_65 ?_
  refine gk_iconst C dL_most_66 ?_
  obtain ⟨σ60, e60, b60, hk60⟩ := chk_c hk59
  refine gk_callSH C o_L_act k_L_100 dL_most_67 (act_e hfl H59 (w := 1) (a := (9)) (b := (0)) (c := (1)) (d := (0)) rfl (by omega) (by omega) (by omega) (by omega) (by omega) (Nat.le_trans b59 (by omega)) e60) rfl rfl ⟨Nat.le_of_ble_eq_true rfl, Nat.le_of_ble_eq_true rfl⟩ ⟨by show _ + 9 ≤ 3000; omega, by show _ + 418 ≤ 130000; omega⟩ (by exact Nat.le_of_ble_eq_true rfl) (fun v60 h60 p60 => ?_)
  obtain ⟨rfl, H60⟩ := p60
  dsimp only [gk_push]
  clear e60 H59 hk59 b59
  refine gk_iload_n C dL_most_70 rfl ?_
  refine gk_bipush C dL_most_71 (by decide) ?_
  refine gk_icmp_ge C (tgt := 82) (by omega) (by omega) dL_most_73 (by decide) (fun c_73 => ?_) (fun c_73 => ?_)
  · exact absurd c_73 (by omega)
  refine gk_iload_n C dL_most_76 rfl ?_
  refine gk_iconst C dL_most_77 ?_
  refine gk_iadd C dL_most_78 ?_
  rw [show ((44 : Int) + 1) = 45 by decide]
  refine gk_goto C (tgt := 84) dL_most_79 (by decide) ?_
  refine gk_icmp_eq C (tgt := 89) (by omega) (by omega) dL_most_84 (by decide) (fun c_84 => ?_) (fun c_84 => ?_)
  rotate_left
  · exact absurd c_84 (by omega)
  refine gk_iload_n C dL_most_89 rfl ?_
  refine gk_iconst C dL_most_90 ?_
  refine gk_irem C (by omega) (by omega) dL_most_91 ?_
  rw [show ((44 : Int) % 4) = 0 by decide]
  refine gk_iconst C dL_most_92 ?_
  refine gk_icmp_ne C (tgt := 129) (by omega) (by omega) dL_most_93 (by decide) (fun c_93 => ?_) (fun c_93 => ?_)
  rotate_left
  · exact absurd c_93 (by omega)
  refine gk_iinc_1 C rfl (by exact Nat.le_of_ble_eq_true rfl) dL_most_129 ?_
  rw [show ((44 : Int) + 1) = 45 by decide]
  refine gk_goto C (tgt := 52) dL_most_132 (by decide) ?_
  refine gk_iload_n C dL_most_52 rfl ?_
  refine gk_bipush C dL_most_53 (by decide) ?_
  refine gk_icmp_ge C (tgt := 135) (by omega) (by omega) dL_most_55 (by decide) (fun c_55 => ?_) (fun c_55 => ?_)
  · exact absurd c_55 (by omega)
  refine gk_aload_n C dL_most_58 rfl ?_
  refine gk_iconst C dL_most_59 ?_
  refine gk_bipush C dL_most_60 (by decide) ?_
  refine gk_iload_n C dL_most_62 rfl ?_
  refine gk_iconst C dL_most_63 ?_
  refine gk_irem C (by omega) (by omega) dL_most_64 ?_
  rw [show ((45 : Int) % 2) = 1 by decide]
  refine gk_iconst C dL_most_65 ?_
  refine gk_iconst C dL_most_66 ?_
  obtain ⟨σ61, e61, b61, hk61⟩ := chk_c hk60
  refine gk_callSH C o_L_act k_L_100 dL_most_67 (act_e hfl H60 (w := 1) (a := (9)) (b := (1)) (c := (1)) (d := (0)) rfl (by omega) (by omega) (by omega) (by omega) (by omega) (Nat.le_trans b60 (by omega)) e61) rfl rfl ⟨Nat.le_of_ble_eq_true rfl, Nat.le_of_ble_eq_true rfl⟩ ⟨by show _ + 9 ≤ 3000; omega, by show _ + 418 ≤ 130000; omega⟩ (by exact Nat.le_of_ble_eq_true rfl) (fun v61 h61 p61 => ?_)
  obtain ⟨rfl, H61⟩ := p61
  dsimp only [gk_push]
  clear e61 H60 hk60 b60
  refine gk_iload_n C dL_most_70 rfl ?_
  refine gk_bipush C dL_most_71 (by decide) ?_
  refine gk_icmp_ge C (tgt := 82) (by omega) (by omega) dL_most_73 (by decide) (fun c_73 => ?_) (fun c_73 => ?_)
  · exact absurd c_73 (by omega)
  refine gk_iload_n C dL_most_76 rfl ?_
  refine gk_iconst C dL_most_77 ?_
  refine gk_iadd C dL_most_78 ?_
  rw [show ((45 : Int) + 1) = 46 by decide]
  refine gk_goto C (tgt := 84) dL_most_79 (by decide) ?_
  refine gk_icmp_eq C (tgt := 89) (by omega) (by omega) dL_most_84 (by decide) (fun c_84 => ?_) (fun c_84 => ?_)
  rotate_left
  · exact absurd c_84 (by omega)
  refine gk_iload_n C dL_most_89 rfl ?_
  refine gk_iconst C dL_most_90 ?_
  refine gk_irem C (by omega) (by omega) dL_most_91 ?_
  rw [show ((45 : Int) % 4) = 1 by decide]
  refine gk_iconst C dL_most_92 ?_
  refine gk_icmp_ne C (tgt := 129) (by omega) (by omega) dL_most_93 (by decide) (fun c_93 => ?_) (fun c_93 => ?_)
  rotate_left
  · exact absurd c_93 (by omega)
  refine gk_iinc_1 C rfl (by exact Nat.le_of_ble_eq_true rfl) dL_most_129 ?_
  rw [show ((45 : Int) + 1) = 46 by decide]
  refine gk_goto C (tgt := 52) dL_most_132 (by decide) ?_
  refine gk_iload_n C dL_most_52 rfl ?_
  refine gk_bipush C dL_most_53 (by decide) ?_
  refine gk_icmp_ge C (tgt := 135) (by omega) (by omega) dL_most_55 (by decide) (fun c_55 => ?_) (fun c_55 => ?_)
  · exact absurd c_55 (by omega)
  refine gk_aload_n C dL_most_58 rfl ?_
  refine gk_iconst C dL_most_59 ?_
  refine gk_bipush C dL_most_60 (by decide) ?_
  refine gk_iload_n C dL_most_62 rfl ?_
  refine gk_iconst C dL_most_63 ?_
  refine gk_irem C (by omega) (by omega) dL_most_64 ?_
  rw [show ((46 : Int) % 2) = 0 by decide]
  refine gk_iconst C dL_most_65 ?_
  refine gk_iconst C dL_most_66 ?_
  obtain ⟨σ62, e62, b62, hk62⟩ := chk_c hk61
  refine gk_callSH C o_L_act k_L_100 dL_most_67 (act_e hfl H61 (w := 1) (a := (9)) (b := (0)) (c := (1)) (d := (0)) rfl (by omega) (by omega) (by omega) (by omega) (by omega) (Nat.le_trans b61 (by omega)) e62) rfl rfl ⟨Nat.le_of_ble_eq_true rfl, Nat.le_of_ble_eq_true rfl⟩ ⟨by show _ + 9 ≤ 3000; omega, by show _ + 418 ≤ 130000; omega⟩ (by exact Nat.le_of_ble_eq_true rfl) (fun v62 h62 p62 => ?_)
  obtain ⟨rfl, H62⟩ := p62
  dsimp only [gk_push]
  clear e62 H61 hk61 b61
  refine gk_iload_n C dL_most_70 rfl ?_
  refine gk_bipush C dL_most_71 (by decide) ?_
  refine gk_icmp_ge C (tgt := 82) (by omega) (by omega) dL_most_73 (by decide) (fun c_73 => ?_) (fun c_73 => ?_)
  · exact absurd c_73 (by omega)
  refine gk_iload_n C dL_most_76 rfl ?_
  refine gk_iconst C dL_most_77 ?_
  refine gk_iadd C dL_most_78 ?_
  rw [show ((46 : Int) + 1) = 47 by decide]
  refine gk_goto C (tgt := 84) dL_most_79 (by decide) ?_
  refine gk_icmp_eq C (tgt := 89) (by omega) (by omega) dL_most_84 (by decide) (fun c_84 => ?_) (fun c_84 => ?_)
  rotate_left
  · exact absurd c_84 (by omega)
  refine gk_iload_n C dL_most_89 rfl ?_
  refine gk_iconst C dL_most_90 ?_
  refine gk_irem C (by omega) (by omega) dL_most_91 ?_
  rw [show ((46 : Int) % 4) = 2 by decide]
  refine gk_iconst C dL_most_92 ?_
  refine gk_icmp_ne C (tgt := 129) (by omega) (by omega) dL_most_93 (by decide) (fun c_93 => ?_) (fun c_93 => ?_)
  rotate_left
  · exact absurd c_93 (by omega)
  refine gk_iinc_1 C rfl (by exact Nat.le_of_ble_eq_true rfl) dL_most_129 ?_
  rw [show ((46 : Int) + 1) = 47 by decide]
  refine gk_goto C (tgt := 52) dL_most_132 (by decide) ?_
  refine gk_iload_n C dL_most_52 rfl ?_
  refine gk_bipush C dL_most_53 (by decide) ?_
  refine gk_icmp_ge C (tgt := 135) (by omega) (by omega) dL_most_55 (by decide) (fun c_55 => ?_) (fun c_55 => ?_)
  · exact absurd c_55 (by omega)
  refine gk_aload_n C dL_most_58 rfl ?_
  refine gk_iconst C dL_most_59 ?_
  refine gk_bipush C dL_most_60 (by decide) ?_
  refine gk_iload_n C dL_most_62 rfl ?_
  refine gk_iconst C dL_most_63 ?_
  refine gk_irem C (by omega) (by omega) dL_most_64 ?_
  rw [show ((47 : Int) % 2) = 1 by decide]
  refine gk_iconst C dL_most_65 ?_
  refine gk_iconst C dL_most_66 ?_
  obtain ⟨σ63, e63, b63, hk63⟩ := chk_c hk62
  refine gk_callSH C o_L_act k_L_100 dL_most_67 (act_e hfl H62 (w := 1) (a := (9)) (b := (1)) (c := (1)) (d := (0)) rfl (by omega) (by omega) (by omega) (by omega) (by omega) (Nat.le_trans b62 (by omega)) e63) rfl rfl ⟨Nat.le_of_ble_eq_true rfl, Nat.le_of_ble_eq_true rfl⟩ ⟨by show _ + 9 ≤ 3000; omega, by show _ + 418 ≤ 130000; omega⟩ (by exact Nat.le_of_ble_eq_true rfl) (fun v63 h63 p63 => ?_)
  obtain ⟨rfl, H63⟩ := p63
  dsimp only [gk_push]
  clear e63 H62 hk62 b62
  refine gk_iload_n C dL_most_70 rfl ?_
  refine gk_bipush C dL_most_71 (by decide) ?_
  refine gk_icmp_ge C (tgt := 82) (by omega) (by omega) dL_most_73 (by decide) (fun c_73 => ?_) (fun c_73 => ?_)
  · exact absurd c_73 (by omega)
  refine gk_iload_n C dL_most_76 rfl ?_
  refine gk_iconst C dL_most_77 ?_
  refine gk_iadd C dL_most_78 ?_
  rw [show ((47 : Int) + 1) = 48 by decide]
  refine gk_goto C (tgt := 84) dL_most_79 (by decide) ?_
  refine gk_icmp_eq C (tgt := 89) (by omega) (by omega) dL_most_84 (by decide) (fun c_84 => ?_) (fun c_84 => ?_)
  rotate_left
  · exact absurd c_84 (by omega)
  refine gk_iload_n C dL_most_89 rfl ?_
  refine gk_iconst C dL_most_90 ?_
  refine gk_irem C (by omega) (by omega) dL_most_91 ?_
  rw [show ((47 : Int) % 4) = 3 by decide]
  refine gk_iconst C dL_most_92 ?_
  refine gk_icmp_ne C (tgt := 129) (by omega) (by omega) dL_most_93 (by decide) (fun c_93 => ?_) (fun c_93 => ?_)
  · exact absurd c_93 (by omega)
  refine gk_iload_n C dL_most_96 rfl ?_
  refine gk_bipush C dL_most_97 (by decide) ?_
  refine gk_icmp_ge C (tgt := 129) (by omega) (by omega) dL_most_99 (by decide) (fun c_99 => ?_) (fun c_99 => ?_)
  rotate_left
  · exact absurd c_99 (by omega)
  refine gk_iinc_1 C rfl (by exact Nat.le_of_ble_eq_true rfl) dL_most_129 ?_
  rw [show ((47 : Int) + 1) = 48 by decide]
  refine gk_goto C (tgt := 52) dL_most_132 (by decide) ?_
  refine gk_iload_n C dL_most_52 rfl ?_
  refine gk_bipush C dL_most_53 (by decide) ?_
  refine gk_icmp_ge C (tgt := 135) (by omega) (by omega) dL_most_55 (by decide) (fun c_55 => ?_) (fun c_55 => ?_)
  · exact absurd c_55 (by omega)
  refine gk_aload_n C dL_most_58 rfl ?_
  refine gk_iconst C dL_most_59 ?_
  refine gk_bipush C dL_most_60 (by decide) ?_
  refine gk_iload_n C dL_most_62 rfl ?_
  refine gk_iconst C dL_most_63 ?_
  refine gk_irem C (by omega) (by omega) dL_most_64 ?_
  rw [show ((48 : Int) % 2) = 0 by decide]
  refine gk_iconst C dL_most_65 ?_
  refine gk_iconst C dL_most_66 ?_
  obtain ⟨σ64, e64, b64, hk64⟩ := chk_c hk63
  refine gk_callSH C o_L_act k_L_100 dL_most_67 (act_e hfl H63 (w := 1) (a := (9)) (b := (0)) (c := (1)) (d := (0)) rfl (by omega) (by omega) (by omega) (by omega) (by omega) (Nat.le_trans b63 (by omega)) e64) rfl rfl ⟨Nat.le_of_ble_eq_true rfl, Nat.le_of_ble_eq_true rfl⟩ ⟨by show _ + 9 ≤ 3000; omega, by show _ + 418 ≤ 130000; omega⟩ (by exact Nat.le_of_ble_eq_true rfl) (fun v64 h64 p64 => ?_)
  obtain ⟨rfl, H64⟩ := p64
  dsimp only [gk_push]
  clear e64 H63 hk63 b63
  refine gk_iload_n C dL_most_70 rfl ?_
  refine gk_bipush C dL_most_71 (by decide) ?_
  refine gk_icmp_ge C (tgt := 82) (by omega) (by omega) dL_most_73 (by decide) (fun c_73 => ?_) (fun c_73 => ?_)
  · exact absurd c_73 (by omega)
  refine gk_iload_n C dL_most_76 rfl ?_
  refine gk_iconst C dL_most_77 ?_
  refine gk_iadd C dL_most_78 ?_
  rw [show ((48 : Int) + 1) = 49 by decide]
  refine gk_goto C (tgt := 84) dL_most_79 (by decide) ?_
  refine gk_icmp_eq C (tgt := 89) (by omega) (by omega) dL_most_84 (by decide) (fun c_84 => ?_) (fun c_84 => ?_)
  rotate_left
  · exact absurd c_84 (by omega)
  refine gk_iload_n C dL_most_89 rfl ?_
  refine gk_iconst C dL_most_90 ?_
  refine gk_irem C (by omega) (by omega) dL_most_91 ?_
  rw [show ((48 : Int) % 4) = 0 by decide]
  refine gk_iconst C dL_most_92 ?_
  refine gk_icmp_ne C (tgt := 129) (by omega) (by omega) dL_most_93 (by decide) (fun c_93 => ?_) (fun c_93 => ?_)
  rotate_left
  · exact absurd c_93 (by omega)
  refine gk_iinc_1 C rfl (by exact Nat.le_of_ble_eq_true rfl) dL_most_129 ?_
  rw [show ((48 : Int) + 1) = 49 by decide]
  refine gk_goto C (tgt := 52) dL_most_132 (by decide) ?_
  refine gk_iload_n C dL_most_52 rfl ?_
  refine gk_bipush C dL_most_53 (by decide) ?_
  refine gk_icmp_ge C (tgt := 135) (by omega) (by omega) dL_most_55 (by decide) (fun c_55 => ?_) (fun c_55 => ?_)
  · exact absurd c_55 (by omega)
  refine gk_aload_n C dL_most_58 rfl ?_
  refine gk_iconst C dL_most_59 ?_
  refine gk_bipush C dL_most_60 (by decide) ?_
  refine gk_iload_n C dL_most_62 rfl ?_
  refine gk_iconst C dL_most_63 ?_
  refine gk_irem C (by omega) (by omega) dL_most_64 ?_
  rw [show ((49 : Int) % 2) = 1 by decide]
  refine gk_iconst C dL_most_65 ?_
  refine gk_iconst C dL_most_66 ?_
  obtain ⟨σ65, e65, b65, hk65⟩ := chk_c hk64
  refine gk_callSH C o_L_act k_L_100 dL_most_67 (act_e hfl H64 (w := 1) (a := (9)) (b := (1)) (c := (1)) (d := (0)) rfl (by omega) (by omega) (by omega) (by omega) (by omega) (Nat.le_trans b64 (by omega)) e65) rfl rfl ⟨Nat.le_of_ble_eq_true rfl, Nat.le_of_ble_eq_true rfl⟩ ⟨by show _ + 9 ≤ 3000; omega, by show _ + 418 ≤ 130000; omega⟩ (by exact Nat.le_of_ble_eq_true rfl) (fun v65 h65 p65 => ?_)
  obtain ⟨rfl, H65⟩ := p65
  dsimp only [gk_push]
  clear e65 H64 hk64 b64
  refine gk_iload_n C dL_most_70 rfl ?_
  refine gk_bipush C dL_most_71 (by decide) ?_
  refine gk_icmp_ge C (tgt := 82) (by omega) (by omega) dL_most_73 (by decide) (fun c_73 => ?_) (fun c_73 => ?_)
  · exact absurd c_73 (by omega)
  refine gk_iload_n C dL_most_76 rfl ?_
  refine gk_iconst C dL_most_77 ?_
  refine gk_iadd C dL_most_78 ?_
  rw [show ((49 : Int) + 1) = 50 by decide]
  refine gk_goto C (tgt := 84) dL_most_79 (by decide) ?_
  refine gk_icmp_eq C (tgt := 89) (by omega) (by omega) dL_most_84 (by decide) (fun c_84 => ?_) (fun c_84 => ?_)
  rotate_left
  · exact absurd c_84 (by omega)
  refine gk_iload_n C dL_most_89 rfl ?_
  refine gk_iconst C dL_most_90 ?_
  refine gk_irem C (by omega) (by omega) dL_most_91 ?_
  rw [show ((49 : Int) % 4) = 1 by decide]
  refine gk_iconst C dL_most_92 ?_
  refine gk_icmp_ne C (tgt := 129) (by omega) (by omega) dL_most_93 (by decide) (fun c_93 => ?_) (fun c_93 => ?_)
  rotate_left
  · exact absurd c_93 (by omega)
  refine gk_iinc_1 C rfl (by exact Nat.le_of_ble_eq_true rfl) dL_most_129 ?_
  rw [show ((49 : Int) + 1) = 50 by decide]
  refine gk_goto C (tgt := 52) dL_most_132 (by decide) ?_
  refine gk_iload_n C dL_most_52 rfl ?_
  refine gk_bipush C dL_most_53 (by decide) ?_
  refine gk_icmp_ge C (tgt := 135) (by omega) (by omega) dL_most_55 (by decide) (fun c_55 => ?_) (fun c_55 => ?_)
  · exact absurd c_55 (by omega)
  refine gk_aload_n C dL_most_58 rfl ?_
  refine gk_iconst C dL_most_59 ?_
  refine gk_bipush C dL_most_60 (by decide) ?_
  refine gk_iload_n C dL_most_62 rfl ?_
  refine gk_iconst C dL_most_63 ?_
  refine gk_irem C (by omega) (by omega) dL_most_64 ?_
  rw [show ((50 : Int) % 2) = 0 by decide]
  refine gk_iconst C dL_most_65 ?_
  refine gk_iconst C dL_most_66 ?_
  obtain ⟨σ66, e66, b66, hk66⟩ := chk_c hk65
  refine gk_callSH C o_L_act k_L_100 dL_most_67 (act_e hfl H65 (w := 1) (a := (9)) (b := (0)) (c := (1)) (d := (0)) rfl (by omega) (by omega) (by omega) (by omega) (by omega) (Nat.le_trans b65 (by omega)) e66) rfl rfl ⟨Nat.le_of_ble_eq_true rfl, Nat.le_of_ble_eq_true rfl⟩ ⟨by show _ + 9 ≤ 3000; omega, by show _ + 418 ≤ 130000; omega⟩ (by exact Nat.le_of_ble_eq_true rfl) (fun v66 h66 p66 => ?_)
  obtain ⟨rfl, H66⟩ := p66
  dsimp only [gk_push]
  clear e66 H65 hk65 b65
  refine gk_iload_n C dL_most_70 rfl ?_
  refine gk_bipush C dL_most_71 (by decide) ?_
  refine gk_icmp_ge C (tgt := 82) (by omega) (by omega) dL_most_73 (by decide) (fun c_73 => ?_) (fun c_73 => ?_)
  · exact absurd c_73 (by omega)
  refine gk_iload_n C dL_most_76 rfl ?_
  refine gk_iconst C dL_most_77 ?_
  refine gk_iadd C dL_most_78 ?_
  rw [show ((50 : Int) + 1) = 51 by decide]
  refine gk_goto C (tgt := 84) dL_most_79 (by decide) ?_
  refine gk_icmp_eq C (tgt := 89) (by omega) (by omega) dL_most_84 (by decide) (fun c_84 => ?_) (fun c_84 => ?_)
  rotate_left
  · exact absurd c_84 (by omega)
  refine gk_iload_n C dL_most_89 rfl ?_
  refine gk_iconst C dL_most_90 ?_
  refine gk_irem C (by omega) (by omega) dL_most_91 ?_
  rw [show ((50 : Int) % 4) = 2 by decide]
  refine gk_iconst C dL_most_92 ?_
  refine gk_icmp_ne C (tgt := 129) (by omega) (by omega) dL_most_93 (by decide) (fun c_93 => ?_) (fun c_93 => ?_)
  rotate_left
  · exact absurd c_93 (by omega)
  refine gk_iinc_1 C rfl (by exact Nat.le_of_ble_eq_true rfl) dL_most_129 ?_
  rw [show ((50 : Int) + 1) = 51 by decide]
  refine gk_goto C (tgt := 52) dL_most_132 (by decide) ?_
  refine gk_iload_n C dL_most_52 rfl ?_
  refine gk_bipush C dL_most_53 (by decide) ?_
  refine gk_icmp_ge C (tgt := 135) (by omega) (by omega) dL_most_55 (by decide) (fun c_55 => ?_) (fun c_55 => ?_)
  · exact absurd c_55 (by omega)
  refine gk_aload_n C dL_most_58 rfl ?_
  refine gk_iconst C dL_most_59 ?_
  refine gk_bipush C dL_most_60 (by decide) ?_
  refine gk_iload_n C dL_most_62 rfl ?_
  refine gk_iconst C dL_most_63 ?_
  refine gk_irem C (by omega) (by omega) dL_most_64 ?_
  rw [show ((51 : Int) % 2) = 1 by decide]
  refine gk_iconst C dL_most_65 ?_
  refine gk_iconst C dL_most_66 ?_
  obtain ⟨σ67, e67, b67, hk67⟩ := chk_c hk66
  refine gk_callSH C o_L_act k_L_100 dL_most_67 (act_e hfl H66 (w := 1) (a := (9)) (b := (1)) (c := (1)) (d := (0)) rfl (by omega) (by omega) (by omega) (by omega) (by omega) (Nat.le_trans b66 (by omega)) e67) rfl rfl ⟨Nat.le_of_ble_eq_true rfl, Nat.le_of_ble_eq_true rfl⟩ ⟨by show _ + 9 ≤ 3000; omega, by show _ + 418 ≤ 130000; omega⟩ (by exact Nat.le_of_ble_eq_true rfl) (fun v67 h67 p67 => ?_)
  obtain ⟨rfl, H67⟩ := p67
  dsimp only [gk_push]
  clear e67 H66 hk66 b66
  refine gk_iload_n C dL_most_70 rfl ?_
  refine gk_bipush C dL_most_71 (by decide) ?_
  refine gk_icmp_ge C (tgt := 82) (by omega) (by omega) dL_most_73 (by decide) (fun c_73 => ?_) (fun c_73 => ?_)
  · exact absurd c_73 (by omega)
  refine gk_iload_n C dL_most_76 rfl ?_
  refine gk_iconst C dL_most_77 ?_
  refine gk_iadd C dL_most_78 ?_
  rw [show ((51 : Int) + 1) = 52 by decide]
  refine gk_goto C (tgt := 84) dL_most_79 (by decide) ?_
  refine gk_icmp_eq C (tgt := 89) (by omega) (by omega) dL_most_84 (by decide) (fun c_84 => ?_) (fun c_84 => ?_)
  rotate_left
  · exact absurd c_84 (by omega)
  refine gk_iload_n C dL_most_89 rfl ?_
  refine gk_iconst C dL_most_90 ?_
  refine gk_irem C (by omega) (by omega) dL_most_91 ?_
  rw [show ((51 : Int) % 4) = 3 by decide]
  refine gk_iconst C dL_most_92 ?_
  refine gk_icmp_ne C (tgt := 129) (by omega) (by omega) dL_most_93 (by decide) (fun c_93 => ?_) (fun c_93 => ?_)
  · exact absurd c_93 (by omega)
  refine gk_iload_n C dL_most_96 rfl ?_
  refine gk_bipush C dL_most_97 (by decide) ?_
  refine gk_icmp_ge C (tgt := 129) (by omega) (by omega) dL_most_99 (by decide) (fun c_99 => ?_) (fun c_99 => ?_)
  rotate_left
  · exact absurd c_99 (by omega)
  refine gk_iinc_1 C rfl (by exact Nat.le_of_ble_eq_true rfl) dL_most_129 ?_
  rw [show ((51 : Int) + 1) = 52 by decide]
  refine gk_goto C (tgt := 52) dL_most_132 (by decide) ?_
  refine gk_iload_n C dL_most_52 rfl ?_
  refine gk_bipush C dL_most_53 (by decide) ?_
  refine gk_icmp_ge C (tgt := 135) (by omega) (by omega) dL_most_55 (by decide) (fun c_55 => ?_) (fun c_55 => ?_)
  · exact absurd c_55 (by omega)
  refine gk_aload_n C dL_most_58 rfl ?_
  refine gk_iconst C dL_most_59 ?_
  refine gk_bipush C dL_most_60 (by decide) ?_
  refine gk_iload_n C dL_most_62 rfl ?_
  refine gk_iconst C dL_most_63 ?_
  refine gk_irem C (by omega) (by omega) dL_most_64 ?_
  rw [show ((52 : Int) % 2) = 0 by decide]
  refine gk_iconst C dL_most_65 ?_
  refine gk_iconst C dL_most_66 ?_
  obtain ⟨σ68, e68, b68, hk68⟩ := chk_c hk67
  refine gk_callSH C o_L_act k_L_100 dL_most_67 (act_e hfl H67 (w := 1) (a := (9)) (b := (0)) (c := (1)) (d := (0)) rfl (by omega) (by omega) (by omega) (by omega) (by omega) (Nat.le_trans b67 (by omega)) e68) rfl rfl ⟨Nat.le_of_ble_eq_true rfl, Nat.le_of_ble_eq_true rfl⟩ ⟨by show _ + 9 ≤ 3000; omega, by show _ + 418 ≤ 130000; omega⟩ (by exact Nat.le_of_ble_eq_true rfl) (fun v68 h68 p68 => ?_)
  obtain ⟨rfl, H68⟩ := p68
  dsimp only [gk_push]
  clear e68 H67 hk67 b67
  refine gk_iload_n C dL_most_70 rfl ?_
  refine gk_bipush C dL_most_71 (by decide) ?_
  refine gk_icmp_ge C (tgt := 82) (by omega) (by omega) dL_most_73 (by decide) (fun c_73 => ?_) (fun c_73 => ?_)
  · exact absurd c_73 (by omega)
  refine gk_iload_n C dL_most_76 rfl ?_
  refine gk_iconst C dL_most_77 ?_
  refine gk_iadd C dL_most_78 ?_
  rw [show ((52 : Int) + 1) = 53 by decide]
  refine gk_goto C (tgt := 84) dL_most_79 (by decide) ?_
  refine gk_icmp_eq C (tgt := 89) (by omega) (by omega) dL_most_84 (by decide) (fun c_84 => ?_) (fun c_84 => ?_)
  rotate_left
  · exact absurd c_84 (by omega)
  refine gk_iload_n C dL_most_89 rfl ?_
  refine gk_iconst C dL_most_90 ?_
  refine gk_irem C (by omega) (by omega) dL_most_91 ?_
  rw [show ((52 : Int) % 4) = 0 by decide]
  refine gk_iconst C dL_most_92 ?_
  refine gk_icmp_ne C (tgt := 129) (by omega) (by omega) dL_most_93 (by decide) (fun c_93 => ?_) (fun c_93 => ?_)
  rotate_left
  · exact absurd c_93 (by omega)
  refine gk_iinc_1 C rfl (by exact Nat.le_of_ble_eq_true rfl) dL_most_129 ?_
  rw [show ((52 : Int) + 1) = 53 by decide]
  refine gk_goto C (tgt := 52) dL_most_132 (by decide) ?_
  refine gk_iload_n C dL_most_52 rfl ?_
  refine gk_bipush C dL_most_53 (by decide) ?_
  refine gk_icmp_ge C (tgt := 135) (by omega) (by omega) dL_most_55 (by decide) (fun c_55 => ?_) (fun c_55 => ?_)
  · exact absurd c_55 (by omega)
  refine gk_aload_n C dL_most_58 rfl ?_
  refine gk_iconst C dL_most_59 ?_
  refine gk_bipush C dL_most_60 (by decide) ?_
  refine gk_iload_n C dL_most_62 rfl ?_
  refine gk_iconst C dL_most_63 ?_
  refine gk_irem C (by omega) (by omega) dL_most_64 ?_
  rw [show ((53 : Int) % 2) = 1 by decide]
  refine gk_iconst C dL_most_65 ?_
  refine gk_iconst C dL_most_66 ?_
  obtain ⟨σ69, e69, b69, hk69⟩ := chk_c hk68
  refine gk_callSH C o_L_act k_L_100 dL_most_67 (act_e hfl H68 (w := 1) (a := (9)) (b := (1)) (c := (1)) (d := (0)) rfl (by omega) (by omega) (by omega) (by omega) (by omega) (Nat.le_trans b68 (by omega)) e69) rfl rfl ⟨Nat.le_of_ble_eq_true rfl, Nat.le_of_ble_eq_true rfl⟩ ⟨by show _ + 9 ≤ 3000; omega, by show _ + 418 ≤ 130000; omega⟩ (by exact Nat.le_of_ble_eq_true rfl) (fun v69 h69 p69 => ?_)
  obtain ⟨rfl, H69⟩ := p69
  dsimp only [gk_push]
  clear e69 H68 hk68 b68
  refine gk_iload_n C dL_most_70 rfl ?_
  refine gk_bipush C dL_most_71 (by decide) ?_
  refine gk_icmp_ge C (tgt := 82) (by omega) (by omega) dL_most_73 (by decide) (fun c_73 => ?_) (fun c_73 => ?_)
  · exact absurd c_73 (by omega)
  refine gk_iload_n C dL_most_76 rfl ?_
  refine gk_iconst C dL_most_77 ?_
  refine gk_iadd C dL_most_78 ?_
  rw [show ((53 : Int) + 1) = 54 by decide]
  refine gk_goto C (tgt := 84) dL_most_79 (by decide) ?_
  refine gk_icmp_eq C (tgt := 89) (by omega) (by omega) dL_most_84 (by decide) (fun c_84 => ?_) (fun c_84 => ?_)
  rotate_left
  · exact absurd c_84 (by omega)
  refine gk_iload_n C dL_most_89 rfl ?_
  refine gk_iconst C dL_most_90 ?_
  refine gk_irem C (by omega) (by omega) dL_most_91 ?_
  rw [show ((53 : Int) % 4) = 1 by decide]
  refine gk_iconst C dL_most_92 ?_
  refine gk_icmp_ne C (tgt := 129) (by omega) (by omega) dL_most_93 (by decide) (fun c_93 => ?_) (fun c_93 => ?_)
  rotate_left
  · exact absurd c_93 (by omega)
  refine gk_iinc_1 C rfl (by exact Nat.le_of_ble_eq_true rfl) dL_most_129 ?_
  rw [show ((53 : Int) + 1) = 54 by decide]
  refine gk_goto C (tgt := 52) dL_most_132 (by decide) ?_
  refine gk_iload_n C dL_most_52 rfl ?_
  refine gk_bipush C dL_most_53 (by decide) ?_
  refine gk_icmp_ge C (tgt := 135) (by omega) (by omega) dL_most_55 (by decide) (fun c_55 => ?_) (fun c_55 => ?_)
  · exact absurd c_55 (by omega)
  refine gk_aload_n C dL_most_58 rfl ?_
  refine gk_iconst C dL_most_59 ?_
  refine gk_bipush C dL_most_60 (by decide) ?_
  refine gk_iload_n C dL_most_62 rfl ?_
  refine gk_iconst C dL_most_63 ?_
  refine gk_irem C (by omega) (by omega) dL_most_64 ?_
  rw [show ((54 : Int) % 2) = 0 by decide]
  refine gk_iconst C dL_most_65 ?_
  refine gk_iconst C dL_most_66 ?_
  obtain ⟨σ70, e70, b70, hk70⟩ := chk_c hk69
  refine gk_callSH C o_L_act k_L_100 dL_most_67 (act_e hfl H69 (w := 1) (a := (9)) (b := (0)) (c := (1)) (d := (0)) rfl (by omega) (by omega) (by omega) (by omega) (by omega) (Nat.le_trans b69 (by omega)) e70) rfl rfl ⟨Nat.le_of_ble_eq_true rfl, Nat.le_of_ble_eq_true rfl⟩ ⟨by show _ + 9 ≤ 3000; omega, by show _ + 418 ≤ 130000; omega⟩ (by exact Nat.le_of_ble_eq_true rfl) (fun v70 h70 p70 => ?_)
  obtain ⟨rfl, H70⟩ := p70
  dsimp only [gk_push]
  clear e70 H69 hk69 b69
  refine gk_iload_n C dL_most_70 rfl ?_
  refine gk_bipush C dL_most_71 (by decide) ?_
  refine gk_icmp_ge C (tgt := 82) (by omega) (by omega) dL_most_73 (by decide) (fun c_73 => ?_) (fun c_73 => ?_)
  · exact absurd c_73 (by omega)
  refine gk_iload_n C dL_most_76 rfl ?_
  refine gk_iconst C dL_most_77 ?_
  refine gk_iadd C dL_most_78 ?_
  rw [show ((54 : Int) + 1) = 55 by decide]
  refine gk_goto C (tgt := 84) dL_most_79 (by decide) ?_
  refine gk_icmp_eq C (tgt := 89) (by omega) (by omega) dL_most_84 (by decide) (fun c_84 => ?_) (fun c_84 => ?_)
  rotate_left
  · exact absurd c_84 (by omega)
  refine gk_iload_n C dL_most_89 rfl ?_
  refine gk_iconst C dL_most_90 ?_
  refine gk_irem C (by omega) (by omega) dL_most_91 ?_
  rw [show ((54 : Int) % 4) = 2 by decide]
  refine gk_iconst C dL_most_92 ?_
  refine gk_icmp_ne C (tgt := 129) (by omega) (by omega) dL_most_93 (by decide) (fun c_93 => ?_) (fun c_93 => ?_)
  rotate_left
  · exact absurd c_93 (by omega)
  refine gk_iinc_1 C rfl (by exact Nat.le_of_ble_eq_true rfl) dL_most_129 ?_
  rw [show ((54 : Int) + 1) = 55 by decide]
  refine gk_goto C (tgt := 52) dL_most_132 (by decide) ?_
  refine gk_iload_n C dL_most_52 rfl ?_
  refine gk_bipush C dL_most_53 (by decide) ?_
  refine gk_icmp_ge C (tgt := 135) (by omega) (by omega) dL_most_55 (by decide) (fun c_55 => ?_) (fun c_55 => ?_)
  · exact absurd c_55 (by omega)
  refine gk_aload_n C dL_most_58 rfl ?_
  refine gk_iconst C dL_most_59 ?_
  refine gk_bipush C dL_most_60 (by decide) ?_
  refine gk_iload_n C dL_most_62 rfl ?_
  refine gk_iconst C dL_most_63 ?_
  refine gk_irem C (by omega) (by omega) dL_most_64 ?_
  rw [show ((55 : Int) % 2) = 1 by decide]
  refine gk_iconst C dL_most_65 ?_
  refine gk_iconst C dL_most_66 ?_
  obtain ⟨σ71, e71, b71, hk71⟩ := chk_c hk70
  refine gk_callSH C o_L_act k_L_100 dL_most_67 (act_e hfl H70 (w := 1) (a := (9)) (b := (1)) (c := (1)) (d := (0)) rfl (by omega) (by omega) (by omega) (by omega) (by omega) (Nat.le_trans b70 (by omega)) e71) rfl rfl ⟨Nat.le_of_ble_eq_true rfl, Nat.le_of_ble_eq_true rfl⟩ ⟨by show _ + 9 ≤ 3000; omega, by show _ + 418 ≤ 130000; omega⟩ (by exact Nat.le_of_ble_eq_true rfl) (fun v71 h71 p71 => ?_)
  obtain ⟨rfl, H71⟩ := p71
  dsimp only [gk_push]
  clear e71 H70 hk70 b70
  refine gk_iload_n C dL_most_70 rfl ?_
  refine gk_bipush C dL_most_71 (by decide) ?_
  refine gk_icmp_ge C (tgt := 82) (by omega) (by omega) dL_most_73 (by decide) (fun c_73 => ?_) (fun c_73 => ?_)
  · exact absurd c_73 (by omega)
  refine gk_iload_n C dL_most_76 rfl ?_
  refine gk_iconst C dL_most_77 ?_
  refine gk_iadd C dL_most_78 ?_
  rw [show ((55 : Int) + 1) = 56 by decide]
  refine gk_goto C (tgt := 84) dL_most_79 (by decide) ?_
  refine gk_icmp_eq C (tgt := 89) (by omega) (by omega) dL_most_84 (by decide) (fun c_84 => ?_) (fun c_84 => ?_)
  rotate_left
  · exact absurd c_84 (by omega)
  refine gk_iload_n C dL_most_89 rfl ?_
  refine gk_iconst C dL_most_90 ?_
  refine gk_irem C (by omega) (by omega) dL_most_91 ?_
  rw [show ((55 : Int) % 4) = 3 by decide]
  refine gk_iconst C dL_most_92 ?_
  refine gk_icmp_ne C (tgt := 129) (by omega) (by omega) dL_most_93 (by decide) (fun c_93 => ?_) (fun c_93 => ?_)
  · exact absurd c_93 (by omega)
  refine gk_iload_n C dL_most_96 rfl ?_
  refine gk_bipush C dL_most_97 (by decide) ?_
  refine gk_icmp_ge C (tgt := 129) (by omega) (by omega) dL_most_99 (by decide) (fun c_99 => ?_) (fun c_99 => ?_)
  rotate_left
  · exact absurd c_99 (by omega)
  refine gk_iinc_1 C rfl (by exact Nat.le_of_ble_eq_true rfl) dL_most_129 ?_
  rw [show ((55 : Int) + 1) = 56 by decide]
  refine gk_goto C (tgt := 52) dL_most_132 (by decide) ?_
  refine gk_iload_n C dL_most_52 rfl ?_
  refine gk_bipush C dL_most_53 (by decide) ?_
  refine gk_icmp_ge C (tgt := 135) (by omega) (by omega) dL_most_55 (by decide) (fun c_55 => ?_) (fun c_55 => ?_)
  · exact absurd c_55 (by omega)
  refine gk_aload_n C dL_most_58 rfl ?_
  refine gk_iconst C dL_most_59 ?_
  refine gk_bipush C dL_most_60 (by decide) ?_
  refine gk_iload_n C dL_most_62 rfl ?_
  refine gk_iconst C dL_most_63 ?_
  refine gk_irem C (by omega) (by omega) dL_most_64 ?_
  rw [show ((56 : Int) % 2) = 0 by decide]
  refine gk_iconst C dL_most_65 ?_
  refine gk_iconst C dL_most_66 ?_
  obtain ⟨σ72, e72, b72, hk72⟩ := chk_c hk71
  refine gk_callSH C o_L_act k_L_100 dL_most_67 (act_e hfl H71 (w := 1) (a := (9)) (b := (0)) (c := (1)) (d := (0)) rfl (by omega) (by omega) (by omega) (by omega) (by omega) (Nat.le_trans b71 (by omega)) e72) rfl rfl ⟨Nat.le_of_ble_eq_true rfl, Nat.le_of_ble_eq_true rfl⟩ ⟨by show _ + 9 ≤ 3000; omega, by show _ + 418 ≤ 130000; omega⟩ (by exact Nat.le_of_ble_eq_true rfl) (fun v72 h72 p72 => ?_)
  obtain ⟨rfl, H72⟩ := p72
  dsimp only [gk_push]
  clear e72 H71 hk71 b71
  refine gk_iload_n C dL_most_70 rfl ?_
  refine gk_bipush C dL_most_71 (by decide) ?_
  refine gk_icmp_ge C (tgt := 82) (by omega) (by omega) dL_most_73 (by decide) (fun c_73 => ?_) (fun c_73 => ?_)
  · exact absurd c_73 (by omega)
  refine gk_iload_n C dL_most_76 rfl ?_
  refine gk_iconst C dL_most_77 ?_
  refine gk_iadd C dL_most_78 ?_
  rw [show ((56 : Int) + 1) = 57 by decide]
  refine gk_goto C (tgt := 84) dL_most_79 (by decide) ?_
  refine gk_icmp_eq C (tgt := 89) (by omega) (by omega) dL_most_84 (by decide) (fun c_84 => ?_) (fun c_84 => ?_)
  rotate_left
  · exact absurd c_84 (by omega)
  refine gk_iload_n C dL_most_89 rfl ?_
  refine gk_iconst C dL_most_90 ?_
  refine gk_irem C (by omega) (by omega) dL_most_91 ?_
  rw [show ((56 : Int) % 4) = 0 by decide]
  refine gk_iconst C dL_most_92 ?_
  refine gk_icmp_ne C (tgt := 129) (by omega) (by omega) dL_most_93 (by decide) (fun c_93 => ?_) (fun c_93 => ?_)
  rotate_left
  · exact absurd c_93 (by omega)
  refine gk_iinc_1 C rfl (by exact Nat.le_of_ble_eq_true rfl) dL_most_129 ?_
  rw [show ((56 : Int) + 1) = 57 by decide]
  refine gk_goto C (tgt := 52) dL_most_132 (by decide) ?_
  refine gk_iload_n C dL_most_52 rfl ?_
  refine gk_bipush C dL_most_53 (by decide) ?_
  refine gk_icmp_ge C (tgt := 135) (by omega) (by omega) dL_most_55 (by decide) (fun c_55 => ?_) (fun c_55 => ?_)
  · exact absurd c_55 (by omega)
  refine gk_aload_n C dL_most_58 rfl ?_
  refine gk_iconst C dL_most_59 ?_
  refine gk_bipush C dL_most_60 (by decide) ?_
  refine gk_iload_n C dL_most_62 rfl ?_
  refine gk_iconst C dL_most_63 ?_
  refine gk_irem C (by omega) (by omega) dL_most_64 ?_
  rw [show ((57 : Int) % 2) = 1 by decide]
  refine gk_iconst C dL_most_65 ?_
  refine gk_iconst C dL_most_66 ?_
  obtain ⟨σ73, e73, b73, hk73⟩ := chk_c hk72
  refine gk_callSH C o_L_act k_L_100 dL_most_67 (act_e hfl H72 (w := 1) (a := (9)) (b := (1)) (c := (1)) (d := (0)) rfl (by omega) (by omega) (by omega) (by omega) (by omega) (Nat.le_trans b72 (by omega)) e73) rfl rfl ⟨Nat.le_of_ble_eq_true rfl, Nat.le_of_ble_eq_true rfl⟩ ⟨by show _ + 9 ≤ 3000; omega, by show _ + 418 ≤ 130000; omega⟩ (by exact Nat.le_of_ble_eq_true rfl) (fun v73 h73 p73 => ?_)
  obtain ⟨rfl, H73⟩ := p73
  dsimp only [gk_push]
  clear e73 H72 hk72 b72
  refine gk_iload_n C dL_most_70 rfl ?_
  refine gk_bipush C dL_most_71 (by decide) ?_
  refine gk_icmp_ge C (tgt := 82) (by omega) (by omega) dL_most_73 (by decide) (fun c_73 => ?_) (fun c_73 => ?_)
  · exact absurd c_73 (by omega)
  refine gk_iload_n C dL_most_76 rfl ?_
  refine gk_iconst C dL_most_77 ?_
  refine gk_iadd C dL_most_78 ?_
  rw [show ((57 : Int) + 1) = 58 by decide]
  refine gk_goto C (tgt := 84) dL_most_79 (by decide) ?_
  refine gk_icmp_eq C (tgt := 89) (by omega) (by omega) dL_most_84 (by decide) (fun c_84 => ?_) (fun c_84 => ?_)
  rotate_left
  · exact absurd c_84 (by omega)
  refine gk_iload_n C dL_most_89 rfl ?_
  refine gk_iconst C dL_most_90 ?_
  refine gk_irem C (by omega) (by omega) dL_most_91 ?_
  rw [show ((57 : Int) % 4) = 1 by decide]
  refine gk_iconst C dL_most_92 ?_
  refine gk_icmp_ne C (tgt := 129) (by omega) (by omega) dL_most_93 (by decide) (fun c_93 => ?_) (fun c_93 => ?_)
  rotate_left
  · exact absurd c_93 (by omega)
  refine gk_iinc_1 C rfl (by exact Nat.le_of_ble_eq_true rfl) dL_most_129 ?_
  rw [show ((57 : Int) + 1) = 58 by decide]
  refine gk_goto C (tgt := 52) dL_most_132 (by decide) ?_
  refine gk_iload_n C dL_most_52 rfl ?_
  refine gk_bipush C dL_most_53 (by decide) ?_
  refine gk_icmp_ge C (tgt := 135) (by omega) (by omega) dL_most_55 (by decide) (fun c_55 => ?_) (fun c_55 => ?_)
  · exact absurd c_55 (by omega)
  refine gk_aload_n C dL_most_58 rfl ?_
  refine gk_iconst C dL_most_59 ?_
  refine gk_bipush C dL_most_60 (by decide) ?_
  refine gk_iload_n C dL_most_62 rfl ?_
  refine gk_iconst C dL_most_63 ?_
  refine gk_irem C (by omega) (by omega) dL_most_64 ?_
  rw [show ((58 : Int) % 2) = 0 by decide]
  refine gk_iconst C dL_most_65 ?_
  refine gk_iconst C dL_most_66 ?_
  obtain ⟨σ74, e74, b74, hk74⟩ := chk_c hk73
  refine gk_callSH C o_L_act k_L_100 dL_most_67 (act_e hfl H73 (w := 1) (a := (9)) (b := (0)) (c := (1)) (d := (0)) rfl (by omega) (by omega) (by omega) (by omega) (by omega) (Nat.le_trans b73 (by omega)) e74) rfl rfl ⟨Nat.le_of_ble_eq_true rfl, Nat.le_of_ble_eq_true rfl⟩ ⟨by show _ + 9 ≤ 3000; omega, by show _ + 418 ≤ 130000; omega⟩ (by exact Nat.le_of_ble_eq_true rfl) (fun v74 h74 p74 => ?_)
  obtain ⟨rfl, H74⟩ := p74
  dsimp only [gk_push]
  clear e74 H73 hk73 b73
  refine gk_iload_n C dL_most_70 rfl ?_
  refine gk_bipush C dL_most_71 (by decide) ?_
  refine gk_icmp_ge C (tgt := 82) (by omega) (by omega) dL_most_73 (by decide) (fun c_73 => ?_) (fun c_73 => ?_)
  · exact absurd c_73 (by omega)
  refine gk_iload_n C dL_most_76 rfl ?_
  refine gk_iconst C dL_most_77 ?_
  refine gk_iadd C dL_most_78 ?_
  rw [show ((58 : Int) + 1) = 59 by decide]
  refine gk_goto C (tgt := 84) dL_most_79 (by decide) ?_
  refine gk_icmp_eq C (tgt := 89) (by omega) (by omega) dL_most_84 (by decide) (fun c_84 => ?_) (fun c_84 => ?_)
  rotate_left
  · exact absurd c_84 (by omega)
  refine gk_iload_n C dL_most_89 rfl ?_
  refine gk_iconst C dL_most_90 ?_
  refine gk_irem C (by omega) (by omega) dL_most_91 ?_
  rw [show ((58 : Int) % 4) = 2 by decide]
  refine gk_iconst C dL_most_92 ?_
  refine gk_icmp_ne C (tgt := 129) (by omega) (by omega) dL_most_93 (by decide) (fun c_93 => ?_) (fun c_93 => ?_)
  rotate_left
  · exact absurd c_93 (by omega)
  refine gk_iinc_1 C rfl (by exact Nat.le_of_ble_eq_true rfl) dL_most_129 ?_
  rw [show ((58 : Int) + 1) = 59 by decide]
  refine gk_goto C (tgt := 52) dL_most_132 (by decide) ?_
  refine gk_iload_n C dL_most_52 rfl ?_
  refine gk_bipush C dL_most_53 (by decide) ?_
  refine gk_icmp_ge C (tgt := 135) (by omega) (by omega) dL_most_55 (by decide) (fun c_55 => ?_) (fun c_55 => ?_)
  · exact absurd c_55 (by omega)
  refine gk_aload_n C dL_most_58 rfl ?_
  refine gk_iconst C dL_most_59 ?_
  refine gk_bipush C dL_most_60 (by decide) ?_
  refine gk_iload_n C dL_most_62 rfl ?_
  refine gk_iconst C dL_most_63 ?_
  refine gk_irem C (by omega) (by omega) dL_most_64 ?_
  rw [show ((59 : Int) % 2) = 1 by decide]
  refine gk_iconst C dL_most_65 ?_
  refine gk_iconst C dL_most_66 ?_
  obtain ⟨σ75, e75, b75, hk75⟩ := chk_c hk74
  refine gk_callSH C o_L_act k_L_100 dL_most_67 (act_e hfl H74 (w := 1) (a := (9)) (b := (1)) (c := (1)) (d := (0)) rfl (by omega) (by omega) (by omega) (by omega) (by omega) (Nat.le_trans b74 (by omega)) e75) rfl rfl ⟨Nat.le_of_ble_eq_true rfl, Nat.le_of_ble_eq_true rfl⟩ ⟨by show _ + 9 ≤ 3000; omega, by show _ + 418 ≤ 130000; omega⟩ (by exact Nat.le_of_ble_eq_true rfl) (fun v75 h75 p75 => ?_)
  obtain ⟨rfl, H75⟩ := p75
  dsimp only [gk_push]
  clear e75 H74 hk74 b74
  refine gk_iload_n C dL_most_70 rfl ?_
  refine gk_bipush C dL_most_71 (by decide) ?_
  refine gk_icmp_ge C (tgt := 82) (by omega) (by omega) dL_most_73 (by decide) (fun c_73 => ?_) (fun c_73 => ?_)
  · exact absurd c_73 (by omega)
  refine gk_iload_n C dL_most_76 rfl ?_
  refine gk_iconst C dL_most_77 ?_
  refine gk_iadd C dL_most_78 ?_
  rw [show ((59 : Int) + 1) = 60 by decide]
  refine gk_goto C (tgt := 84) dL_most_79 (by decide) ?_
  refine gk_icmp_eq C (tgt := 89) (by omega) (by omega) dL_most_84 (by decide) (fun c_84 => ?_) (fun c_84 => ?_)
  rotate_left
  · exact absurd c_84 (by omega)
  refine gk_iload_n C dL_most_89 rfl ?_
  refine gk_iconst C dL_most_90 ?_
  refine gk_irem C (by omega) (by omega) dL_most_91 ?_
  rw [show ((59 : Int) % 4) = 3 by decide]
  refine gk_iconst C dL_most_92 ?_
  refine gk_icmp_ne C (tgt := 129) (by omega) (by omega) dL_most_93 (by decide) (fun c_93 => ?_) (fun c_93 => ?_)
  · exact absurd c_93 (by omega)
  refine gk_iload_n C dL_most_96 rfl ?_
  refine gk_bipush C dL_most_97 (by decide) ?_
  refine gk_icmp_ge C (tgt := 129) (by omega) (by omega) dL_most_99 (by decide) (fun c_99 => ?_) (fun c_99 => ?_)
  rotate_left
  · exact absurd c_99 (by omega)
  refine gk_iinc_1 C rfl (by exact Nat.le_of_ble_eq_true rfl) dL_most_129 ?_
  rw [show ((59 : Int) + 1) = 60 by decide]
  refine gk_goto C (tgt := 52) dL_most_132 (by decide) ?_
  refine gk_iload_n C dL_most_52 rfl ?_
  refine gk_bipush C dL_most_53 (by decide) ?_
  refine gk_icmp_ge C (tgt := 135) (by omega) (by omega) dL_most_55 (by decide) (fun c_55 => ?_) (fun c_55 => ?_)
  · exact absurd c_55 (by omega)
  refine gk_aload_n C dL_most_58 rfl ?_
  refine gk_iconst C dL_most_59 ?_
  refine gk_bipush C dL_most_60 (by decide) ?_
  refine gk_iload_n C dL_most_62 rfl ?_
  refine gk_iconst C dL_most_63 ?_
  refine gk_irem C (by omega) (by omega) dL_most_64 ?_
  rw [show ((60 : Int) % 2) = 0 by decide]
  refine gk_iconst C dL_most_65 ?_
  refine gk_iconst C dL_most_66 ?_
  obtain ⟨σ76, e76, b76, hk76⟩ := chk_c hk75
  refine gk_callSH C o_L_act k_L_100 dL_most_67 (act_e hfl H75 (w := 1) (a := (9)) (b := (0)) (c := (1)) (d := (0)) rfl (by omega) (by omega) (by omega) (by omega) (by omega) (Nat.le_trans b75 (by omega)) e76) rfl rfl ⟨Nat.le_of_ble_eq_true rfl, Nat.le_of_ble_eq_true rfl⟩ ⟨by show _ + 9 ≤ 3000; omega, by show _ + 418 ≤ 130000; omega⟩ (by exact Nat.le_of_ble_eq_true rfl) (fun v76 h76 p76 => ?_)
  obtain ⟨rfl, H76⟩ := p76
  dsimp only [gk_push]
  clear e76 H75 hk75 b75
  refine gk_iload_n C dL_most_70 rfl ?_
  refine gk_bipush C dL_most_71 (by decide) ?_
  refine gk_icmp_ge C (tgt := 82) (by omega) (by omega) dL_most_73 (by decide) (fun c_73 => ?_) (fun c_73 => ?_)
  · exact absurd c_73 (by omega)
  refine gk_iload_n C dL_most_76 rfl ?_
  refine gk_iconst C dL_most_77 ?_
  refine gk_iadd C dL_most_78 ?_
  rw [show ((60 : Int) + 1) = 61 by decide]
  refine gk_goto C (tgt := 84) dL_most_79 (by decide) ?_
  refine gk_icmp_eq C (tgt := 89) (by omega) (by omega) dL_most_84 (by decide) (fun c_84 => ?_) (fun c_84 => ?_)
  rotate_left
  · exact absurd c_84 (by omega)
  refine gk_iload_n C dL_most_89 rfl ?_
  refine gk_iconst C dL_most_90 ?_
  refine gk_irem C (by omega) (by omega) dL_most_91 ?_
  rw [show ((60 : Int) % 4) = 0 by decide]
  refine gk_iconst C dL_most_92 ?_
  refine gk_icmp_ne C (tgt := 129) (by omega) (by omega) dL_most_93 (by decide) (fun c_93 => ?_) (fun c_93 => ?_)
  rotate_left
  · exact absurd c_93 (by omega)
  refine gk_iinc_1 C rfl (by exact Nat.le_of_ble_eq_true rfl) dL_most_129 ?_
  rw [show ((60 : Int) + 1) = 61 by decide]
  refine gk_goto C (tgt := 52) dL_most_132 (by decide) ?_
  refine gk_iload_n C dL_most_52 rfl ?_
  refine gk_bipush C dL_most_53 (by decide) ?_
  refine gk_icmp_ge C (tgt := 135) (by omega) (by omega) dL_most_55 (by decide) (fun c_55 => ?_) (fun c_55 => ?_)
  · exact absurd c_55 (by omega)
  refine gk_aload_n C dL_most_58 rfl ?_
  refine gk_iconst C dL_most_59 ?_
  refine gk_bipush C dL_most_60 (by decide) ?_
  refine gk_iload_n C dL_most_62 rfl ?_
  refine gk_iconst C dL_most_63 ?_
  refine gk_irem C (by omega) (by omega) dL_most_64 ?_
  rw [show ((61 : Int) % 2) = 1 by decide]
  refine gk_iconst C dL_most_65 ?_
  refine gk_iconst C dL_most_66 ?_
  obtain ⟨σ77, e77, b77, hk77⟩ := chk_c hk76
  refine gk_callSH C o_L_act k_L_100 dL_most_67 (act_e hfl H76 (w := 1) (a := (9)) (b := (1)) (c := (1)) (d := (0)) rfl (by omega) (by omega) (by omega) (by omega) (by omega) (Nat.le_trans b76 (by omega)) e77) rfl rfl ⟨Nat.le_of_ble_eq_true rfl, Nat.le_of_ble_eq_true rfl⟩ ⟨by show _ + 9 ≤ 3000; omega, by show _ + 418 ≤ 130000; omega⟩ (by exact Nat.le_of_ble_eq_true rfl) (fun v77 h77 p77 => ?_)
  obtain ⟨rfl, H77⟩ := p77
  dsimp only [gk_push]
  clear e77 H76 hk76 b76
  refine gk_iload_n C dL_most_70 rfl ?_
  refine gk_bipush C dL_most_71 (by decide) ?_
  refine gk_icmp_ge C (tgt := 82) (by omega) (by omega) dL_most_73 (by decide) (fun c_73 => ?_) (fun c_73 => ?_)
  · exact absurd c_73 (by omega)
  refine gk_iload_n C dL_most_76 rfl ?_
  refine gk_iconst C dL_most_77 ?_
  refine gk_iadd C dL_most_78 ?_
  rw [show ((61 : Int) + 1) = 62 by decide]
  refine gk_goto C (tgt := 84) dL_most_79 (by decide) ?_
  refine gk_icmp_eq C (tgt := 89) (by omega) (by omega) dL_most_84 (by decide) (fun c_84 => ?_) (fun c_84 => ?_)
  rotate_left
  · exact absurd c_84 (by omega)
  refine gk_iload_n C dL_most_89 rfl ?_
  refine gk_iconst C dL_most_90 ?_
  refine gk_irem C (by omega) (by omega) dL_most_91 ?_
  rw [show ((61 : Int) % 4) = 1 by decide]
  refine gk_iconst C dL_most_92 ?_
  refine gk_icmp_ne C (tgt := 129) (by omega) (by omega) dL_most_93 (by decide) (fun c_93 => ?_) (fun c_93 => ?_)
  rotate_left
  · exact absurd c_93 (by omega)
  refine gk_iinc_1 C rfl (by exact Nat.le_of_ble_eq_true rfl) dL_most_129 ?_
  rw [show ((61 : Int) + 1) = 62 by decide]
  refine gk_goto C (tgt := 52) dL_most_132 (by decide) ?_
  refine gk_iload_n C dL_most_52 rfl ?_
  refine gk_bipush C dL_most_53 (by decide) ?_
  refine gk_icmp_ge C (tgt := 135) (by omega) (by omega) dL_most_55 (by decide) (fun c_55 => ?_) (fun c_55 => ?_)
  · exact absurd c_55 (by omega)
  refine gk_aload_n C dL_most_58 rfl ?_
  refine gk_iconst C dL_most_59 ?_
  refine gk_bipush C dL_most_60 (by decide) ?_
  refine gk_iload_n C dL_most_62 rfl ?_
  refine gk_iconst C dL_most_63 ?_
  refine gk_irem C (by omega) (by omega) dL_most_64 ?_
  rw [show ((62 : Int) % 2) = 0 by decide]
  refine gk_iconst C dL_most_65 ?_
  refine gk_iconst C dL_most_66 ?_
  obtain ⟨σ78, e78, b78, hk78⟩ := chk_c hk77
  refine gk_callSH C o_L_act k_L_100 dL_most_67 (act_e hfl H77 (w := 1) (a := (9)) (b := (0)) (c := (1)) (d := (0)) rfl (by omega) (by omega) (by omega) (by omega) (by omega) (Nat.le_trans b77 (by omega)) e78) rfl rfl ⟨Nat.le_of_ble_eq_true rfl, Nat.le_of_ble_eq_true rfl⟩ ⟨by show _ + 9 ≤ 3000; omega, by show _ + 418 ≤ 130000; omega⟩ (by exact Nat.le_of_ble_eq_true rfl) (fun v78 h78 p78 => ?_)
  obtain ⟨rfl, H78⟩ := p78
  dsimp only [gk_push]
  clear e78 H77 hk77 b77
  refine gk_iload_n C dL_most_70 rfl ?_
  refine gk_bipush C dL_most_71 (by decide) ?_
  refine gk_icmp_ge C (tgt := 82) (by omega) (by omega) dL_most_73 (by decide) (fun c_73 => ?_) (fun c_73 => ?_)
  · exact absurd c_73 (by omega)
  refine gk_iload_n C dL_most_76 rfl ?_
  refine gk_iconst C dL_most_77 ?_
  refine gk_iadd C dL_most_78 ?_
  rw [show ((62 : Int) + 1) = 63 by decide]
  refine gk_goto C (tgt := 84) dL_most_79 (by decide) ?_
  refine gk_icmp_eq C (tgt := 89) (by omega) (by omega) dL_most_84 (by decide) (fun c_84 => ?_) (fun c_84 => ?_)
  rotate_left
  · exact absurd c_84 (by omega)
  refine gk_iload_n C dL_most_89 rfl ?_
  refine gk_iconst C dL_most_90 ?_
  refine gk_irem C (by omega) (by omega) dL_most_91 ?_
  rw [show ((62 : Int) % 4) = 2 by decide]
  refine gk_iconst C dL_most_92 ?_
  refine gk_icmp_ne C (tgt := 129) (by omega) (by omega) dL_most_93 (by decide) (fun c_93 => ?_) (fun c_93 => ?_)
  rotate_left
  · exact absurd c_93 (by omega)
  refine gk_iinc_1 C rfl (by exact Nat.le_of_ble_eq_true rfl) dL_most_129 ?_
  rw [show ((62 : Int) + 1) = 63 by decide]
  refine gk_goto C (tgt := 52) dL_most_132 (by decide) ?_
  refine gk_iload_n C dL_most_52 rfl ?_
  refine gk_bipush C dL_most_53 (by decide) ?_
  refine gk_icmp_ge C (tgt := 135) (by omega) (by omega) dL_most_55 (by decide) (fun c_55 => ?_) (fun c_55 => ?_)
  · exact absurd c_55 (by omega)
  refine gk_aload_n C dL_most_58 rfl ?_
  refine gk_iconst C dL_most_59 ?_
  refine gk_bipush C dL_most_60 (by decide) ?_
  refine gk_iload_n C dL_most_62 rfl ?_
  refine gk_iconst C dL_most_63 ?_
  refine gk_irem C (by omega) (by omega) dL_most_64 ?_
  rw [show ((63 : Int) % 2) = 1 by decide]
  refine gk_iconst C dL_most_65 ?_
  refine gk_iconst C dL_most_66 ?_
  obtain ⟨σ79, e79, b79, hk79⟩ := chk_c hk78
  refine gk_callSH C o_L_act k_L_100 dL_most_67 (act_e hfl H78 (w := 1) (a := (9)) (b := (1)) (c := (1)) (d := (0)) rfl (by omega) (by omega) (by omega) (by omega) (by omega) (Nat.le_trans b78 (by omega)) e79) rfl rfl ⟨Nat.le_of_ble_eq_true rfl, Nat.le_of_ble_eq_true rfl⟩ ⟨by show _ + 9 ≤ 3000; omega, by show _ + 418 ≤ 130000; omega⟩ (by exact Nat.le_of_ble_eq_true rfl) (fun v79 h79 p79 => ?_)
  obtain ⟨rfl, H79⟩ := p79
  dsimp only [gk_push]
  clear e79 H78 hk78 b78
  refine gk_iload_n C dL_most_70 rfl ?_
  refine gk_bipush C dL_most_71 (by decide) ?_
  refine gk_icmp_ge C (tgt := 82) (by omega) (by omega) dL_most_73 (by decide) (fun c_73 => ?_) (fun c_73 => ?_)
  · exact absurd c_73 (by omega)
  refine gk_iload_n C dL_most_76 rfl ?_
  refine gk_iconst C dL_most_77 ?_
  refine gk_iadd C dL_most_78 ?_
  rw [show ((63 : Int) + 1) = 64 by decide]
  refine gk_goto C (tgt := 84) dL_most_79 (by decide) ?_
  refine gk_icmp_eq C (tgt := 89) (by omega) (by omega) dL_most_84 (by decide) (fun c_84 => ?_) (fun c_84 => ?_)
  rotate_left
  · exact absurd c_84 (by omega)
  refine gk_iload_n C dL_most_89 rfl ?_
  refine gk_iconst C dL_most_90 ?_
  refine gk_irem C (by omega) (by omega) dL_most_91 ?_
  rw [show ((63 : Int) % 4) = 3 by decide]
  refine gk_iconst C dL_most_92 ?_
  refine gk_icmp_ne C (tgt := 129) (by omega) (by omega) dL_most_93 (by decide) (fun c_93 => ?_) (fun c_93 => ?_)
  · exact absurd c_93 (by omega)
  refine gk_iload_n C dL_most_96 rfl ?_
  refine gk_bipush C dL_most_97 (by decide) ?_
  refine gk_icmp_ge C (tgt := 129) (by omega) (by omega) dL_most_99 (by decide) (fun c_99 => ?_) (fun c_99 => ?_)
  rotate_left
  · exact absurd c_99 (by omega)
  refine gk_iinc_1 C rfl (by exact Nat.le_of_ble_eq_true rfl) dL_most_129 ?_
  rw [show ((63 : Int) + 1) = 64 by decide]
  refine gk_goto C (tgt := 52) dL_most_132 (by decide) ?_
  refine gk_iload_n C dL_most_52 rfl ?_
  refine gk_bipush C dL_most_53 (by decide) ?_
  refine gk_icmp_ge C (tgt := 135) (by omega) (by omega) dL_most_55 (by decide) (fun c_55 => ?_) (fun c_55 => ?_)
  · exact absurd c_55 (by omega)
  refine gk_aload_n C dL_most_58 rfl ?_
  refine gk_iconst C dL_most_59 ?_
  refine gk_bipush C dL_most_60 (by decide) ?_
  refine gk_iload_n C dL_most_62 rfl ?_
  refine gk_iconst C dL_most_63 ?_
  refine gk_irem C (by omega) (by omega) dL_most_64 ?_
  rw [show ((64 : Int) % 2) = 0 by decide]
  refine gk_iconst C dL_most_65 ?_
  refine gk_iconst C dL_most_66 ?_
  obtain ⟨σ80, e80, b80, hk80⟩ := chk_c hk79
  refine gk_callSH C o_L_act k_L_100 dL_most_67 (act_e hfl H79 (w := 1) (a := (9)) (b := (0)) (c := (1)) (d := (0)) rfl (by omega) (by omega) (by omega) (by omega) (by omega) (Nat.le_trans b79 (by omega)) e80) rfl rfl ⟨Nat.le_of_ble_eq_true rfl, Nat.le_of_ble_eq_true rfl⟩ ⟨by show _ + 9 ≤ 3000; omega, by show _ + 418 ≤ 130000; omega⟩ (by exact Nat.le_of_ble_eq_true rfl) (fun v80 h80 p80 => ?_)
  obtain ⟨rfl, H80⟩ := p80
  dsimp only [gk_push]
  clear e80 H79 hk79 b79
  refine gk_iload_n C dL_most_70 rfl ?_
  refine gk_bipush C dL_most_71 (by decide) ?_
  refine gk_icmp_ge C (tgt := 82) (by omega) (by omega) dL_most_73 (by decide) (fun c_73 => ?_) (fun c_73 => ?_)
  rotate_left
  · exact absurd c_73 (by omega)
  refine gk_ldc C cn_L_91 dL_most_82 ?_
  refine gk_icmp_eq C (tgt := 89) (by omega) (by omega) dL_most_84 (by decide) (fun c_84 => ?_) (fun c_84 => ?_)
  rotate_left
  · exact absurd c_84 (by omega)
  refine gk_iload_n C dL_most_89 rfl ?_
  refine gk_iconst C dL_most_90 ?_
  refine gk_irem C (by omega) (by omega) dL_most_91 ?_
  rw [show ((64 : Int) % 4) = 0 by decide]
  refine gk_iconst C dL_most_92 ?_
  refine gk_icmp_ne C (tgt := 129) (by omega) (by omega) dL_most_93 (by decide) (fun c_93 => ?_) (fun c_93 => ?_)
  rotate_left
  · exact absurd c_93 (by omega)
  refine gk_iinc_1 C rfl (by exact Nat.le_of_ble_eq_true rfl) dL_most_129 ?_
  rw [show ((64 : Int) + 1) = 65 by decide]
  refine gk_goto C (tgt := 52) dL_most_132 (by decide) ?_
  refine gk_iload_n C dL_most_52 rfl ?_
  refine gk_bipush C dL_most_53 (by decide) ?_
  refine gk_icmp_ge C (tgt := 135) (by omega) (by omega) dL_most_55 (by decide) (fun c_55 => ?_) (fun c_55 => ?_)
  rotate_left
  · exact absurd c_55 (by omega)
  refine gk_iconst C dL_most_135 ?_
  refine gk_istore_n_1 C rfl (by exact Nat.le_of_ble_eq_true rfl) dL_most_136 ?_
  refine gk_iload_n C dL_most_137 rfl ?_
  refine gk_bipush C dL_most_138 (by decide) ?_
  refine gk_icmp_ge C (tgt := 193) (by omega) (by omega) dL_most_140 (by decide) (fun c_140 => ?_) (fun c_140 => ?_)
  · exact absurd c_140 (by omega)
  refine gk_aload_n C dL_most_143 rfl ?_
  refine gk_iconst C dL_most_144 ?_
  refine gk_iconst C dL_most_145 ?_
  refine gk_iload_n C dL_most_146 rfl ?_
  refine gk_iconst C dL_most_147 ?_
  refine gk_irem C (by omega) (by omega) dL_most_148 ?_
  rw [show ((0 : Int) % 2) = 0 by decide]
  refine gk_bipush C dL_most_149 (by decide) ?_
  refine gk_iconst C dL_most_151 ?_
  obtain ⟨σ81, e81, b81, hk81⟩ := chk_c hk80
  refine gk_callSH C o_L_act k_L_100 dL_most_152 (act_e hfl H80 (w := 1) (a := (1)) (b := (0)) (c := (16)) (d := (0)) rfl (by omega) (by omega) (by omega) (by omega) (by omega) (Nat.le_trans b80 (by omega)) e81) rfl rfl ⟨Nat.le_of_ble_eq_true rfl, Nat.le_of_ble_eq_true rfl⟩ ⟨by show _ + 9 ≤ 3000; omega, by show _ + 418 ≤ 130000; omega⟩ (by exact Nat.le_of_ble_eq_true rfl) (fun v81 h81 p81 => ?_)
  obtain ⟨rfl, H81⟩ := p81
  dsimp only [gk_push]
  clear e81 H80 hk80 b80
  refine gk_iload_n C dL_most_155 rfl ?_
  refine gk_iconst C dL_most_156 ?_
  refine gk_iadd C dL_most_157 ?_
  rw [show ((0 : Int) + 1) = 1 by decide]
  refine gk_icmp_ne C (tgt := 185) (by omega) (by omega) dL_most_158 (by decide) (fun c_158 => ?_) (fun c_158 => ?_)
  · exact absurd c_158 (by omega)
  refine gk_aload_n C dL_most_161 rfl ?_
  refine gk_iconst C dL_most_162 ?_
  refine gk_iconst C dL_most_163 ?_
  refine gk_iconst C dL_most_164 ?_
  refine gk_iconst C dL_most_165 ?_
  refine gk_iconst C dL_most_166 ?_
  obtain ⟨σ82, e82, b82, hk82⟩ := chk_c hk81
  refine gk_callSH C o_L_act k_L_100 dL_most_167 (act_e hfl H81 (w := 2) (a := (1)) (b := (0)) (c := (0)) (d := (0)) rfl (by omega) (by omega) (by omega) (by omega) (by omega) (Nat.le_trans b81 (by omega)) e82) rfl rfl ⟨Nat.le_of_ble_eq_true rfl, Nat.le_of_ble_eq_true rfl⟩ ⟨by show _ + 9 ≤ 3000; omega, by show _ + 418 ≤ 130000; omega⟩ (by exact Nat.le_of_ble_eq_true rfl) (fun v82 h82 p82 => ?_)
  obtain ⟨rfl, H82⟩ := p82
  dsimp only [gk_push]
  clear e82 H81 hk81 b81
  refine gk_iload_n C dL_most_170 rfl ?_
  refine gk_bipush C dL_most_171 (by decide) ?_
  refine gk_icmp_ge C (tgt := 180) (by omega) (by omega) dL_most_173 (by decide) (fun c_173 => ?_) (fun c_173 => ?_)
  · exact absurd c_173 (by omega)
  refine gk_iconst C dL_most_176 ?_
  refine gk_goto C (tgt := 182) dL_most_177 (by decide) ?_
  refine gk_icmp_eq C (tgt := 187) (by omega) (by omega) dL_most_182 (by decide) (fun c_182 => ?_) (fun c_182 => ?_)
  rotate_left
  · exact absurd c_182 (by omega)
  refine gk_iinc_1 C rfl (by exact Nat.le_of_ble_eq_true rfl) dL_most_187 ?_
  rw [show ((0 : Int) + 1) = 1 by decide]
  refine gk_goto C (tgt := 137) dL_most_190 (by decide) ?_
  refine gk_iload_n C dL_most_137 rfl ?_
  refine gk_bipush C dL_most_138 (by decide) ?_
  refine gk_icmp_ge C (tgt := 193) (by omega) (by omega) dL_most_140 (by decide) (fun c_140 => ?_) (fun c_140 => ?_)
  · exact absurd c_140 (by omega)
  refine gk_aload_n C dL_most_143 rfl ?_
  refine gk_iconst C dL_most_144 ?_
  refine gk_iconst C dL_most_145 ?_
  refine gk_iload_n C dL_most_146 rfl ?_
  refine gk_iconst C dL_most_147 ?_
  refine gk_irem C (by omega) (by omega) dL_most_148 ?_
  rw [show ((1 : Int) % 2) = 1 by decide]
  refine gk_bipush C dL_most_149 (by decide) ?_
  refine gk_iconst C dL_most_151 ?_
  obtain ⟨σ83, e83, b83, hk83⟩ := chk_c hk82
  refine gk_callSH C o_L_act k_L_100 dL_most_152 (act_e hfl H82 (w := 1) (a := (1)) (b := (1)) (c := (16)) (d := (0)) rfl (by omega) (by omega) (by omega) (by omega) (by omega) (Nat.le_trans b82 (by omega)) e83) rfl rfl ⟨Nat.le_of_ble_eq_true rfl, Nat.le_of_ble_eq_true rfl⟩ ⟨by show _ + 9 ≤ 3000; omega, by show _ + 418 ≤ 130000; omega⟩ (by exact Nat.le_of_ble_eq_true rfl) (fun v83 h83 p83 => ?_)
  obtain ⟨rfl, H83⟩ := p83
  dsimp only [gk_push]
  clear e83 H82 hk82 b82
  refine gk_iload_n C dL_most_155 rfl ?_
  refine gk_iconst C dL_most_156 ?_
  refine gk_iadd C dL_most_157 ?_
  rw [show ((1 : Int) + 1) = 2 by decide]
  refine gk_icmp_ne C (tgt := 185) (by omega) (by omega) dL_most_158 (by decide) (fun c_158 => ?_) (fun c_158 => ?_)
  · exact absurd c_158 (by omega)
  refine gk_aload_n C dL_most_161 rfl ?_
  refine gk_iconst C dL_most_162 ?_
  refine gk_iconst C dL_most_163 ?_
  refine gk_iconst C dL_most_164 ?_
  refine gk_iconst C dL_most_165 ?_
  refine gk_iconst C dL_most_166 ?_
  obtain ⟨σ84, e84, b84, hk84⟩ := chk_c hk83
  refine gk_callSH C o_L_act k_L_100 dL_most_167 (act_e hfl H83 (w := 2) (a := (1)) (b := (0)) (c := (0)) (d := (0)) rfl (by omega) (by omega) (by omega) (by omega) (by omega) (Nat.le_trans b83 (by omega)) e84) rfl rfl ⟨Nat.le_of_ble_eq_true rfl, Nat.le_of_ble_eq_true rfl⟩ ⟨by show _ + 9 ≤ 3000; omega, by show _ + 418 ≤ 130000; omega⟩ (by exact Nat.le_of_ble_eq_true rfl) (fun v84 h84 p84 => ?_)
  obtain ⟨rfl, H84⟩ := p84
  dsimp only [gk_push]
  clear e84 H83 hk83 b83
  refine gk_iload_n C dL_most_170 rfl ?_
  refine gk_bipush C dL_most_171 (by decide) ?_
  refine gk_icmp_ge C (tgt := 180) (by omega) (by omega) dL_most_173 (by decide) (fun c_173 => ?_) (fun c_173 => ?_)
  · exact absurd c_173 (by omega)
  refine gk_iconst C dL_most_176 ?_
  refine gk_goto C (tgt := 182) dL_most_177 (by decide) ?_
  refine gk_icmp_eq C (tgt := 187) (by omega) (by omega) dL_most_182 (by decide) (fun c_182 => ?_) (fun c_182 => ?_)
  rotate_left
  · exact absurd c_182 (by omega)
  refine gk_iinc_1 C rfl (by exact Nat.le_of_ble_eq_true rfl) dL_most_187 ?_
  rw [show ((1 : Int) + 1) = 2 by decide]
  refine gk_goto C (tgt := 137) dL_most_190 (by decide) ?_
  refine gk_iload_n C dL_most_137 rfl ?_
  refine gk_bipush C dL_most_138 (by decide) ?_
  refine gk_icmp_ge C (tgt := 193) (by omega) (by omega) dL_most_140 (by decide) (fun c_140 => ?_) (fun c_140 => ?_)
  · exact absurd c_140 (by omega)
  refine gk_aload_n C dL_most_143 rfl ?_
  refine gk_iconst C dL_most_144 ?_
  refine gk_iconst C dL_most_145 ?_
  refine gk_iload_n C dL_most_146 rfl ?_
  refine gk_iconst C dL_most_147 ?_
  refine gk_irem C (by omega) (by omega) dL_most_148 ?_
  rw [show ((2 : Int) % 2) = 0 by decide]
  refine gk_bipush C dL_most_149 (by decide) ?_
  refine gk_iconst C dL_most_151 ?_
  obtain ⟨σ85, e85, b85, hk85⟩ := chk_c hk84
  refine gk_callSH C o_L_act k_L_100 dL_most_152 (act_e hfl H84 (w := 1) (a := (1)) (b := (0)) (c := (16)) (d := (0)) rfl (by omega) (by omega) (by omega) (by omega) (by omega) (Nat.le_trans b84 (by omega)) e85) rfl rfl ⟨Nat.le_of_ble_eq_true rfl, Nat.le_of_ble_eq_true rfl⟩ ⟨by show _ + 9 ≤ 3000; omega, by show _ + 418 ≤ 130000; omega⟩ (by exact Nat.le_of_ble_eq_true rfl) (fun v85 h85 p85 => ?_)
  obtain ⟨rfl, H85⟩ := p85
  dsimp only [gk_push]
  clear e85 H84 hk84 b84
  refine gk_iload_n C dL_most_155 rfl ?_
  refine gk_iconst C dL_most_156 ?_
  refine gk_iadd C dL_most_157 ?_
  rw [show ((2 : Int) + 1) = 3 by decide]
  refine gk_icmp_ne C (tgt := 185) (by omega) (by omega) dL_most_158 (by decide) (fun c_158 => ?_) (fun c_158 => ?_)
  · exact absurd c_158 (by omega)
  refine gk_aload_n C dL_most_161 rfl ?_
  refine gk_iconst C dL_most_162 ?_
  refine gk_iconst C dL_most_163 ?_
  refine gk_iconst C dL_most_164 ?_
  refine gk_iconst C dL_most_165 ?_
  refine gk_iconst C dL_most_166 ?_
  obtain ⟨σ86, e86, b86, hk86⟩ := chk_c hk85
  refine gk_callSH C o_L_act k_L_100 dL_most_167 (act_e hfl H85 (w := 2) (a := (1)) (b := (0)) (c := (0)) (d := (0)) rfl (by omega) (by omega) (by omega) (by omega) (by omega) (Nat.le_trans b85 (by omega)) e86) rfl rfl ⟨Nat.le_of_ble_eq_true rfl, Nat.le_of_ble_eq_true rfl⟩ ⟨by show _ + 9 ≤ 3000; omega, by show _ + 418 ≤ 130000; omega⟩ (by exact Nat.le_of_ble_eq_true rfl) (fun v86 h86 p86 => ?_)
  obtain ⟨rfl, H86⟩ := p86
  dsimp only [gk_push]
  clear e86 H85 hk85 b85
  refine gk_iload_n C dL_most_170 rfl ?_
  refine gk_bipush C dL_most_171 (by decide) ?_
  refine gk_icmp_ge C (tgt := 180) (by omega) (by omega) dL_most_173 (by decide) (fun c_173 => ?_) (fun c_173 => ?_)
  · exact absurd c_173 (by omega)
  refine gk_iconst C dL_most_176 ?_
  refine gk_goto C (tgt := 182) dL_most_177 (by decide) ?_
  refine gk_icmp_eq C (tgt := 187) (by omega) (by omega) dL_most_182 (by decide) (fun c_182 => ?_) (fun c_182 => ?_)
  rotate_left
  · exact absurd c_182 (by omega)
  refine gk_iinc_1 C rfl (by exact Nat.le_of_ble_eq_true rfl) dL_most_187 ?_
  rw [show ((2 : Int) + 1) = 3 by decide]
  refine gk_goto C (tgt := 137) dL_most_190 (by decide) ?_
  refine gk_iload_n C dL_most_137 rfl ?_
  refine gk_bipush C dL_most_138 (by decide) ?_
  refine gk_icmp_ge C (tgt := 193) (by omega) (by omega) dL_most_140 (by decide) (fun c_140 => ?_) (fun c_140 => ?_)
  · exact absurd c_140 (by omega)
  refine gk_aload_n C dL_most_143 rfl ?_
  refine gk_iconst C dL_most_144 ?_
  refine gk_iconst C dL_most_145 ?_
  refine gk_iload_n C dL_most_146 rfl ?_
  refine gk_iconst C dL_most_147 ?_
  refine gk_irem C (by omega) (by omega) dL_most_148 ?_
  rw [show ((3 : Int) % 2) = 1 by decide]
  refine gk_bipush C dL_most_149 (by decide) ?_
  refine gk_iconst C dL_most_151 ?_
  obtain ⟨σ87, e87, b87, hk87⟩ := chk_c hk86
  refine gk_callSH C o_L_act k_L_100 dL_most_152 (act_e hfl H86 (w := 1) (a := (1)) (b := (1)) (c := (16)) (d := (0)) rfl (by omega) (by omega) (by omega) (by omega) (by omega) (Nat.le_trans b86 (by omega)) e87) rfl rfl ⟨Nat.le_of_ble_eq_true rfl, Nat.le_of_ble_eq_true rfl⟩ ⟨by show _ + 9 ≤ 3000; omega, by show _ + 418 ≤ 130000; omega⟩ (by exact Nat.le_of_ble_eq_true rfl) (fun v87 h87 p87 => ?_)
  obtain ⟨rfl, H87⟩ := p87
  dsimp only [gk_push]
  clear e87 H86 hk86 b86
  refine gk_iload_n C dL_most_155 rfl ?_
  refine gk_iconst C dL_most_156 ?_
  refine gk_iadd C dL_most_157 ?_
  rw [show ((3 : Int) + 1) = 4 by decide]
  refine gk_icmp_ne C (tgt := 185) (by omega) (by omega) dL_most_158 (by decide) (fun c_158 => ?_) (fun c_158 => ?_)
  · exact absurd c_158 (by omega)
  refine gk_aload_n C dL_most_161 rfl ?_
  refine gk_iconst C dL_most_162 ?_
  refine gk_iconst C dL_most_163 ?_
  refine gk_iconst C dL_most_164 ?_
  refine gk_iconst C dL_most_165 ?_
  refine gk_iconst C dL_most_166 ?_
  obtain ⟨σ88, e88, b88, hk88⟩ := chk_c hk87
  refine gk_callSH C o_L_act k_L_100 dL_most_167 (act_e hfl H87 (w := 2) (a := (1)) (b := (0)) (c := (0)) (d := (0)) rfl (by omega) (by omega) (by omega) (by omega) (by omega) (Nat.le_trans b87 (by omega)) e88) rfl rfl ⟨Nat.le_of_ble_eq_true rfl, Nat.le_of_ble_eq_true rfl⟩ ⟨by show _ + 9 ≤ 3000; omega, by show _ + 418 ≤ 130000; omega⟩ (by exact Nat.le_of_ble_eq_true rfl) (fun v88 h88 p88 => ?_)
  obtain ⟨rfl, H88⟩ := p88
  dsimp only [gk_push]
  clear e88 H87 hk87 b87
  refine gk_iload_n C dL_most_170 rfl ?_
  refine gk_bipush C dL_most_171 (by decide) ?_
  refine gk_icmp_ge C (tgt := 180) (by omega) (by omega) dL_most_173 (by decide) (fun c_173 => ?_) (fun c_173 => ?_)
  · exact absurd c_173 (by omega)
  refine gk_iconst C dL_most_176 ?_
  refine gk_goto C (tgt := 182) dL_most_177 (by decide) ?_
  refine gk_icmp_eq C (tgt := 187) (by omega) (by omega) dL_most_182 (by decide) (fun c_182 => ?_) (fun c_182 => ?_)
  rotate_left
  · exact absurd c_182 (by omega)
  refine gk_iinc_1 C rfl (by exact Nat.le_of_ble_eq_true rfl) dL_most_187 ?_
  rw [show ((3 : Int) + 1) = 4 by decide]
  refine gk_goto C (tgt := 137) dL_most_190 (by decide) ?_
  refine gk_iload_n C dL_most_137 rfl ?_
  refine gk_bipush C dL_most_138 (by decide) ?_
  refine gk_icmp_ge C (tgt := 193) (by omega) (by omega) dL_most_140 (by decide) (fun c_140 => ?_) (fun c_140 => ?_)
  · exact absurd c_140 (by omega)
  refine gk_aload_n C dL_most_143 rfl ?_
  refine gk_iconst C dL_most_144 ?_
  refine gk_iconst C dL_most_145 ?_
  refine gk_iload_n C dL_most_146 rfl ?_
  refine gk_iconst C dL_most_147 ?_
  refine gk_irem C (by omega) (by omega) dL_most_148 ?_
  rw [show ((4 : Int) % 2) = 0 by decide]
  refine gk_bipush C dL_most_149 (by decide) ?_
  refine gk_iconst C dL_most_151 ?_
  obtain ⟨σ89, e89, b89, hk89⟩ := chk_c hk88
  refine gk_callSH C o_L_act k_L_100 dL_most_152 (act_e hfl H88 (w := 1) (a := (1)) (b := (0)) (c := (16)) (d := (0)) rfl (by omega) (by omega) (by omega) (by omega) (by omega) (Nat.le_trans b88 (by omega)) e89) rfl rfl ⟨Nat.le_of_ble_eq_true rfl, Nat.le_of_ble_eq_true rfl⟩ ⟨by show _ + 9 ≤ 3000; omega, by show _ + 418 ≤ 130000; omega⟩ (by exact Nat.le_of_ble_eq_true rfl) (fun v89 h89 p89 => ?_)
  obtain ⟨rfl, H89⟩ := p89
  dsimp only [gk_push]
  clear e89 H88 hk88 b88
  refine gk_iload_n C dL_most_155 rfl ?_
  refine gk_iconst C dL_most_156 ?_
  refine gk_iadd C dL_most_157 ?_
  rw [show ((4 : Int) + 1) = 5 by decide]
  refine gk_icmp_ne C (tgt := 185) (by omega) (by omega) dL_most_158 (by decide) (fun c_158 => ?_) (fun c_158 => ?_)
  · exact absurd c_158 (by omega)
  refine gk_aload_n C dL_most_161 rfl ?_
  refine gk_iconst C dL_most_162 ?_
  refine gk_iconst C dL_most_163 ?_
  refine gk_iconst C dL_most_164 ?_
  refine gk_iconst C dL_most_165 ?_
  refine gk_iconst C dL_most_166 ?_
  obtain ⟨σ90, e90, b90, hk90⟩ := chk_c hk89
  refine gk_callSH C o_L_act k_L_100 dL_most_167 (act_e hfl H89 (w := 2) (a := (1)) (b := (0)) (c := (0)) (d := (0)) rfl (by omega) (by omega) (by omega) (by omega) (by omega) (Nat.le_trans b89 (by omega)) e90) rfl rfl ⟨Nat.le_of_ble_eq_true rfl, Nat.le_of_ble_eq_true rfl⟩ ⟨by show _ + 9 ≤ 3000; omega, by show _ + 418 ≤ 130000; omega⟩ (by exact Nat.le_of_ble_eq_true rfl) (fun v90 h90 p90 => ?_)
  obtain ⟨rfl, H90⟩ := p90
  dsimp only [gk_push]
  clear e90 H89 hk89 b89
  refine gk_iload_n C dL_most_170 rfl ?_
  refine gk_bipush C dL_most_171 (by decide) ?_
  refine gk_icmp_ge C (tgt := 180) (by omega) (by omega) dL_most_173 (by decide) (fun c_173 => ?_) (fun c_173 => ?_)
  · exact absurd c_173 (by omega)
  refine gk_iconst C dL_most_176 ?_
  refine gk_goto C (tgt := 182) dL_most_177 (by decide) ?_
  refine gk_icmp_eq C (tgt := 187) (by omega) (by omega) dL_most_182 (by decide) (fun c_182 => ?_) (fun c_182 => ?_)
  rotate_left
  · exact absurd c_182 (by omega)
  refine gk_iinc_1 C rfl (by exact Nat.le_of_ble_eq_true rfl) dL_most_187 ?_
  rw [show ((4 : Int) + 1) = 5 by decide]
  refine gk_goto C (tgt := 137) dL_most_190 (by decide) ?_
  refine gk_iload_n C dL_most_137 rfl ?_
  refine gk_bipush C dL_most_138 (by decide) ?_
  refine gk_icmp_ge C (tgt := 193) (by omega) (by omega) dL_most_140 (by decide) (fun c_140 => ?_) (fun c_140 => ?_)
  · exact absurd c_140 (by omega)
  refine gk_aload_n C dL_most_143 rfl ?_
  refine gk_iconst C dL_most_144 ?_
  refine gk_iconst C dL_most_145 ?_
  refine gk_iload_n C dL_most_146 rfl ?_
  refine gk_iconst C dL_most_147 ?_
  refine gk_irem C (by omega) (by omega) dL_most_148 ?_
  rw [show ((5 : Int) % 2) = 1 by decide]
  refine gk_bipush C dL_most_149 (by decide) ?_
  refine gk_iconst C dL_most_151 ?_
  obtain ⟨σ91, e91, b91, hk91⟩ := chk_c hk90
  refine gk_callSH C o_L_act k_L_100 dL_most_152 (act_e hfl H90 (w := 1) (a := (1)) (b := (1)) (c := (16)) (d := (0)) rfl (by omega) (by omega) (by omega) (by omega) (by omega) (Nat.le_trans b90 (by omega)) e91) rfl rfl ⟨Nat.le_of_ble_eq_true rfl, Nat.le_of_ble_eq_true rfl⟩ ⟨by show _ + 9 ≤ 3000; omega, by show _ + 418 ≤ 130000; omega⟩ (by exact Nat.le_of_ble_eq_true rfl) (fun v91 h91 p91 => ?_)
  obtain ⟨rfl, H91⟩ := p91
  dsimp only [gk_push]
  clear e91 H90 hk90 b90
  refine gk_iload_n C dL_most_155 rfl ?_
  refine gk_iconst C dL_most_156 ?_
  refine gk_iadd C dL_most_157 ?_
  rw [show ((5 : Int) + 1) = 6 by decide]
  refine gk_icmp_ne C (tgt := 185) (by omega) (by omega) dL_most_158 (by decide) (fun c_158 => ?_) (fun c_158 => ?_)
  · exact absurd c_158 (by omega)
  refine gk_aload_n C dL_most_161 rfl ?_
  refine gk_iconst C dL_most_162 ?_
  refine gk_iconst C dL_most_163 ?_
  refine gk_iconst C dL_most_164 ?_
  refine gk_iconst C dL_most_165 ?_
  refine gk_iconst C dL_most_166 ?_
  obtain ⟨σ92, e92, b92, hk92⟩ := chk_c hk91
  refine gk_callSH C o_L_act k_L_100 dL_most_167 (act_e hfl H91 (w := 2) (a := (1)) (b := (0)) (c := (0)) (d := (0)) rfl (by omega) (by omega) (by omega) (by omega) (by omega) (Nat.le_trans b91 (by omega)) e92) rfl rfl ⟨Nat.le_of_ble_eq_true rfl, Nat.le_of_ble_eq_true rfl⟩ ⟨by show _ + 9 ≤ 3000; omega, by show _ + 418 ≤ 130000; omega⟩ (by exact Nat.le_of_ble_eq_true rfl) (fun v92 h92 p92 => ?_)
  obtain ⟨rfl, H92⟩ := p92
  dsimp only [gk_push]
  clear e92 H91 hk91 b91
  refine gk_iload_n C dL_most_170 rfl ?_
  refine gk_bipush C dL_most_171 (by decide) ?_
  refine gk_icmp_ge C (tgt := 180) (by omega) (by omega) dL_most_173 (by decide) (fun c_173 => ?_) (fun c_173 => ?_)
  · exact absurd c_173 (by omega)
  refine gk_iconst C dL_most_176 ?_
  refine gk_goto C (tgt := 182) dL_most_177 (by decide) ?_
  refine gk_icmp_eq C (tgt := 187) (by omega) (by omega) dL_most_182 (by decide) (fun c_182 => ?_) (fun c_182 => ?_)
  rotate_left
  · exact absurd c_182 (by omega)
  refine gk_iinc_1 C rfl (by exact Nat.le_of_ble_eq_true rfl) dL_most_187 ?_
  rw [show ((5 : Int) + 1) = 6 by decide]
  refine gk_goto C (tgt := 137) dL_most_190 (by decide) ?_
  refine gk_iload_n C dL_most_137 rfl ?_
  refine gk_bipush C dL_most_138 (by decide) ?_
  refine gk_icmp_ge C (tgt := 193) (by omega) (by omega) dL_most_140 (by decide) (fun c_140 => ?_) (fun c_140 => ?_)
  · exact absurd c_140 (by omega)
  refine gk_aload_n C dL_most_143 rfl ?_
  refine gk_iconst C dL_most_144 ?_
  refine gk_iconst C dL_most_145 ?_
  refine gk_iload_n C dL_most_146 rfl ?_
  refine gk_iconst C dL_most_147 ?_
  refine gk_irem C (by omega) (by omega) dL_most_148 ?_
  rw [show ((6 : Int) % 2) = 0 by decide]
  refine gk_bipush C dL_most_149 (by decide) ?_
  refine gk_iconst C dL_most_151 ?_
  obtain ⟨σ93, e93, b93, hk93⟩ := chk_c hk92
  refine gk_callSH C o_L_act k_L_100 dL_most_152 (act_e hfl H92 (w := 1) (a := (1)) (b := (0)) (c := (16)) (d := (0)) rfl (by omega) (by omega) (by omega) (by omega) (by omega) (Nat.le_trans b92 (by omega)) e93) rfl rfl ⟨Nat.le_of_ble_eq_true rfl, Nat.le_of_ble_eq_true rfl⟩ ⟨by show _ + 9 ≤ 3000; omega, by show _ + 418 ≤ 130000; omega⟩ (by exact Nat.le_of_ble_eq_true rfl) (fun v93 h93 p93 => ?_)
  obtain ⟨rfl, H93⟩ := p93
  dsimp only [gk_push]
  clear e93 H92 hk92 b92
  refine gk_iload_n C dL_most_155 rfl ?_
  refine gk_iconst C dL_most_156 ?_
  refine gk_iadd C dL_most_157 ?_
  rw [show ((6 : Int) + 1) = 7 by decide]
  refine gk_icmp_ne C (tgt := 185) (by omega) (by omega) dL_most_158 (by decide) (fun c_158 => ?_) (fun c_158 => ?_)
  · exact absurd c_158 (by omega)
  refine gk_aload_n C dL_most_161 rfl ?_
  refine gk_iconst C dL_most_162 ?_
  refine gk_iconst C dL_most_163 ?_
  refine gk_iconst C dL_most_164 ?_
  refine gk_iconst C dL_most_165 ?_
  refine gk_iconst C dL_most_166 ?_
  obtain ⟨σ94, e94, b94, hk94⟩ := chk_c hk93
  refine gk_callSH C o_L_act k_L_100 dL_most_167 (act_e hfl H93 (w := 2) (a := (1)) (b := (0)) (c := (0)) (d := (0)) rfl (by omega) (by omega) (by omega) (by omega) (by omega) (Nat.le_trans b93 (by omega)) e94) rfl rfl ⟨Nat.le_of_ble_eq_true rfl, Nat.le_of_ble_eq_true rfl⟩ ⟨by show _ + 9 ≤ 3000; omega, by show _ + 418 ≤ 130000; omega⟩ (by exact Nat.le_of_ble_eq_true rfl) (fun v94 h94 p94 => ?_)
  obtain ⟨rfl, H94⟩ := p94
  dsimp only [gk_push]
  clear e94 H93 hk93 b93
  refine gk_iload_n C dL_most_170 rfl ?_
  refine gk_bipush C dL_most_171 (by decide) ?_
  refine gk_icmp_ge C (tgt := 180) (by omega) (by omega) dL_most_173 (by decide) (fun c_173 => ?_) (fun c_173 => ?_)
  · exact absurd c_173 (by omega)
  refine gk_iconst C dL_most_176 ?_
  refine gk_goto C (tgt := 182) dL_most_177 (by decide) ?_
  refine gk_icmp_eq C (tgt := 187) (by omega) (by omega) dL_most_182 (by decide) (fun c_182 => ?_) (fun c_182 => ?_)
  rotate_left
  · exact absurd c_182 (by omega)
  refine gk_iinc_1 C rfl (by exact Nat.le_of_ble_eq_true rfl) dL_most_187 ?_
  rw [show ((6 : Int) + 1) = 7 by decide]
  refine gk_goto C (tgt := 137) dL_most_190 (by decide) ?_
  refine gk_iload_n C dL_most_137 rfl ?_
  refine gk_bipush C dL_most_138 (by decide) ?_
  refine gk_icmp_ge C (tgt := 193) (by omega) (by omega) dL_most_140 (by decide) (fun c_140 => ?_) (fun c_140 => ?_)
  · exact absurd c_140 (by omega)
  refine gk_aload_n C dL_most_143 rfl ?_
  refine gk_iconst C dL_most_144 ?_
  refine gk_iconst C dL_most_145 ?_
  refine gk_iload_n C dL_most_146 rfl ?_
  refine gk_iconst C dL_most_147 ?_
  refine gk_irem C (by omega) (by omega) dL_most_148 ?_
  rw [show ((7 : Int) % 2) = 1 by decide]
  refine gk_bipush C dL_most_149 (by decide) ?_
  refine gk_iconst C dL_most_151 ?_
  obtain ⟨σ95, e95, b95, hk95⟩ := chk_c hk94
  refine gk_callSH C o_L_act k_L_100 dL_most_152 (act_e hfl H94 (w := 1) (a := (1)) (b := (1)) (c := (16)) (d := (0)) rfl (by omega) (by omega) (by omega) (by omega) (by omega) (Nat.le_trans b94 (by omega)) e95) rfl rfl ⟨Nat.le_of_ble_eq_true rfl, Nat.le_of_ble_eq_true rfl⟩ ⟨by show _ + 9 ≤ 3000; omega, by show _ + 418 ≤ 130000; omega⟩ (by exact Nat.le_of_ble_eq_true rfl) (fun v95 h95 p95 => ?_)
  obtain ⟨rfl, H95⟩ := p95
  dsimp only [gk_push]
  clear e95 H94 hk94 b94
  refine gk_iload_n C dL_most_155 rfl ?_
  refine gk_iconst C dL_most_156 ?_
  refine gk_iadd C dL_most_157 ?_
  rw [show ((7 : Int) + 1) = 8 by decide]
  refine gk_icmp_ne C (tgt := 185) (by omega) (by omega) dL_most_158 (by decide) (fun c_158 => ?_) (fun c_158 => ?_)
  · exact absurd c_158 (by omega)
  refine gk_aload_n C dL_most_161 rfl ?_
  refine gk_iconst C dL_most_162 ?_
  refine gk_iconst C dL_most_163 ?_
  refine gk_iconst C dL_most_164 ?_
  refine gk_iconst C dL_most_165 ?_
  refine gk_iconst C dL_most_166 ?_
  obtain ⟨σ96, e96, b96, hk96⟩ := chk_c hk95
  refine gk_callSH C o_L_act k_L_100 dL_most_167 (act_e hfl H95 (w := 2) (a := (1)) (b := (0)) (c := (0)) (d := (0)) rfl (by omega) (by omega) (by omega) (by omega) (by omega) (Nat.le_trans b95 (by omega)) e96) rfl rfl ⟨Nat.le_of_ble_eq_true rfl, Nat.le_of_ble_eq_true rfl⟩ ⟨by show _ + 9 ≤ 3000; omega, by show _ + 418 ≤ 130000; omega⟩ (by exact Nat.le_of_ble_eq_true rfl) (fun v96 h96 p96 => ?_)
  obtain ⟨rfl, H96⟩ := p96
  dsimp only [gk_push]
  clear e96 H95 hk95 b95
  refine gk_iload_n C dL_most_170 rfl ?_
  refine gk_bipush C dL_most_171 (by decide) ?_
  refine gk_icmp_ge C (tgt := 180) (by omega) (by omega) dL_most_173 (by decide) (fun c_173 => ?_) (fun c_173 => ?_)
  · exact absurd c_173 (by omega)
  refine gk_iconst C dL_most_176 ?_
  refine gk_goto C (tgt := 182) dL_most_177 (by decide) ?_
  refine gk_icmp_eq C (tgt := 187) (by omega) (by omega) dL_most_182 (by decide) (fun c_182 => ?_) (fun c_182 => ?_)
  rotate_left
  · exact absurd c_182 (by omega)
  refine gk_iinc_1 C rfl (by exact Nat.le_of_ble_eq_true rfl) dL_most_187 ?_
  rw [show ((7 : Int) + 1) = 8 by decide]
  refine gk_goto C (tgt := 137) dL_most_190 (by decide) ?_
  refine gk_iload_n C dL_most_137 rfl ?_
  refine gk_bipush C dL_most_138 (by decide) ?_
  refine gk_icmp_ge C (tgt := 193) (by omega) (by omega) dL_most_140 (by decide) (fun c_140 => ?_) (fun c_140 => ?_)
  · exact absurd c_140 (by omega)
  refine gk_aload_n C dL_most_143 rfl ?_
  refine gk_iconst C dL_most_144 ?_
  refine gk_iconst C dL_most_145 ?_
  refine gk_iload_n C dL_most_146 rfl ?_
  refine gk_iconst C dL_most_147 ?_
  refine gk_irem C (by omega) (by omega) dL_most_148 ?_
  rw [show ((8 : Int) % 2) = 0 by decide]
  refine gk_bipush C dL_most_149 (by decide) ?_
  refine gk_iconst C dL_most_151 ?_
  obtain ⟨σ97, e97, b97, hk97⟩ := chk_c hk96
  refine gk_callSH C o_L_act k_L_100 dL_most_152 (act_e hfl H96 (w := 1) (a := (1)) (b := (0)) (c := (16)) (d := (0)) rfl (by omega) (by omega) (by omega) (by omega) (by omega) (Nat.le_trans b96 (by omega)) e97) rfl rfl ⟨Nat.le_of_ble_eq_true rfl, Nat.le_of_ble_eq_true rfl⟩ ⟨by show _ + 9 ≤ 3000; omega, by show _ + 418 ≤ 130000; omega⟩ (by exact Nat.le_of_ble_eq_true rfl) (fun v97 h97 p97 => ?_)
  obtain ⟨rfl, H97⟩ := p97
  dsimp only [gk_push]
  clear e97 H96 hk96 b96
  refine gk_iload_n C dL_most_155 rfl ?_
  refine gk_iconst C dL_most_156 ?_
  refine gk_iadd C dL_most_157 ?_
  rw [show ((8 : Int) + 1) = 9 by decide]
  refine gk_icmp_ne C (tgt := 185) (by omega) (by omega) dL_most_158 (by decide) (fun c_158 => ?_) (fun c_158 => ?_)
  · exact absurd c_158 (by omega)
  refine gk_aload_n C dL_most_161 rfl ?_
  refine gk_iconst C dL_most_162 ?_
  refine gk_iconst C dL_most_163 ?_
  refine gk_iconst C dL_most_164 ?_
  refine gk_iconst C dL_most_165 ?_
  refine gk_iconst C dL_most_166 ?_
  obtain ⟨σ98, e98, b98, hk98⟩ := chk_c hk97
  refine gk_callSH C o_L_act k_L_100 dL_most_167 (act_e hfl H97 (w := 2) (a := (1)) (b := (0)) (c := (0)) (d := (0)) rfl (by omega) (by omega) (by omega) (by omega) (by omega) (Nat.le_trans b97 (by omega)) e98) rfl rfl ⟨Nat.le_of_ble_eq_true rfl, Nat.le_of_ble_eq_true rfl⟩ ⟨by show _ + 9 ≤ 3000; omega, by show _ + 418 ≤ 130000; omega⟩ (by exact Nat.le_of_ble_eq_true rfl) (fun v98 h98 p98 => ?_)
  obtain ⟨rfl, H98⟩ := p98
  dsimp only [gk_push]
  clear e98 H97 hk97 b97
  refine gk_iload_n C dL_most_170 rfl ?_
  refine gk_bipush C dL_most_171 (by decide) ?_
  refine gk_icmp_ge C (tgt := 180) (by omega) (by omega) dL_most_173 (by decide) (fun c_173 => ?_) (fun c_173 => ?_)
  rotate_left
  · exact absurd c_173 (by omega)
  refine gk_ldc C cn_L_91 dL_most_180 ?_
  refine gk_icmp_eq C (tgt := 187) (by omega) (by omega) dL_most_182 (by decide) (fun c_182 => ?_) (fun c_182 => ?_)
  rotate_left
  · exact absurd c_182 (by omega)
  refine gk_iinc_1 C rfl (by exact Nat.le_of_ble_eq_true rfl) dL_most_187 ?_
  rw [show ((8 : Int) + 1) = 9 by decide]
  refine gk_goto C (tgt := 137) dL_most_190 (by decide) ?_
  refine gk_iload_n C dL_most_137 rfl ?_
  refine gk_bipush C dL_most_138 (by decide) ?_
  refine gk_icmp_ge C (tgt := 193) (by omega) (by omega) dL_most_140 (by decide) (fun c_140 => ?_) (fun c_140 => ?_)
  rotate_left
  · exact absurd c_140 (by omega)
  refine gk_aload_n C dL_most_193 rfl ?_
  refine gk_bipush C dL_most_194 (by decide) ?_
  refine gk_iconst C dL_most_196 ?_
  obtain ⟨σ99, e99, b99, hk99⟩ := chk_c hk98
  obtain ⟨fs99, ob99⟩ := H98.obj
  refine gk_callV C o_X4_part k_L_17 dL_most_197 (HC.dir (h_part hfl H98 (t := (9)) (rep := (1)) (by omega) (by omega)) e99 (by omega)) ob99 rfl rfl rfl ⟨Nat.le_of_ble_eq_true rfl, Nat.le_of_ble_eq_true rfl⟩ ⟨by show _ + 2 ≤ 3000; omega, by show _ + 12 ≤ 130000; omega⟩ (by exact Nat.le_of_ble_eq_true rfl) (fun _ _ z => z.elim) (fun v99 h99 p99 => ?_)
  obtain ⟨rfl, H99⟩ := p99
  dsimp only [gk_push]
  clear e99 ob99 H98 hk98 b98
  refine gk_iconst C dL_most_200 ?_
  refine gk_icmp_ne C (tgt := 402) (by omega) (by omega) dL_most_201 (by decide) (fun c_201 => ?_) (fun c_201 => ?_)
  · exact absurd c_201 (by omega)
  refine gk_aload_n C dL_most_204 rfl ?_
  refine gk_bipush C dL_most_205 (by decide) ?_
  refine gk_iconst C dL_most_207 ?_
  refine gk_sipush C dL_most_208 (by decide) ?_
  refine gk_sipush C dL_most_211 (by decide) ?_
  refine gk_iconst C dL_most_214 ?_
  refine gk_iconst C dL_most_215 ?_
  refine gk_iconst C dL_most_216 ?_
  refine gk_iconst C dL_most_217 ?_
  refine gk_callS C o_L_tune k_L_111 dL_most_218 (r_tune hfl H99 (by omega) (by omega) (by omega) (by omega) (by omega) (by omega) (by omega) (by omega) hk99) rfl rfl ⟨Nat.le_of_ble_eq_true rfl, Nat.le_of_ble_eq_true rfl⟩ ⟨by show _ + 14 ≤ 3000; omega, by show _ + 84 ≤ 130000; omega⟩ (by exact Nat.le_of_ble_eq_true rfl) (fun _ _ z => z.elim) (fun v100 h100 p100 => ?_)
  obtain ⟨rfl, σ100, H100, hk100, b100⟩ := p100
  dsimp only [gk_push]
  clear H99 hk99 b99
  refine gk_if_eq C (tgt := 402) (by omega) dL_most_221 (by decide) (fun c_221 => ?_) (fun c_221 => ?_)
  · exact absurd c_221 (by omega)
  refine gk_aload_n C dL_most_224 rfl ?_
  refine gk_iconst C dL_most_225 ?_
  refine gk_iconst C dL_most_226 ?_
  refine gk_bipush C dL_most_227 (by decide) ?_
  refine gk_sipush C dL_most_229 (by decide) ?_
  refine gk_iconst C dL_most_232 ?_
  refine gk_iconst C dL_most_233 ?_
  refine gk_bipush C dL_most_234 (by decide) ?_
  refine gk_iconst C dL_most_236 ?_
  refine gk_callS C o_L_tune k_L_111 dL_most_237 (r_tune hfl H100 (by omega) (by omega) (by omega) (by omega) (by omega) (by omega) (by omega) (by omega) hk100) rfl rfl ⟨Nat.le_of_ble_eq_true rfl, Nat.le_of_ble_eq_true rfl⟩ ⟨by show _ + 14 ≤ 3000; omega, by show _ + 84 ≤ 130000; omega⟩ (by exact Nat.le_of_ble_eq_true rfl) (fun _ _ z => z.elim) (fun v101 h101 p101 => ?_)
  obtain ⟨rfl, σ101, H101, hk101, b101⟩ := p101
  dsimp only [gk_push]
  clear H100 hk100 b100
  refine gk_if_eq C (tgt := 402) (by omega) dL_most_240 (by decide) (fun c_240 => ?_) (fun c_240 => ?_)
  · exact absurd c_240 (by omega)
  refine gk_aload_n C dL_most_243 rfl ?_
  refine gk_bipush C dL_most_244 (by decide) ?_
  refine gk_bipush C dL_most_246 (by decide) ?_
  obtain ⟨σ102, e102, b102, hk102⟩ := chk_c hk101
  obtain ⟨fs102, ob102⟩ := H101.obj
  refine gk_callV C o_X4_alike k_L_29 dL_most_248 (HC.dir (h_alike hfl H101 (t := (9)) (u := (9)) (by omega) (by omega)) e102 (by omega)) ob102 rfl rfl rfl ⟨Nat.le_of_ble_eq_true rfl, Nat.le_of_ble_eq_true rfl⟩ ⟨by show _ + 2 ≤ 3000; omega, by show _ + 12 ≤ 130000; omega⟩ (by exact Nat.le_of_ble_eq_true rfl) (fun _ _ z => z.elim) (fun v102 h102 p102 => ?_)
  obtain ⟨rfl, H102⟩ := p102
  dsimp only [gk_push]
  clear e102 ob102 H101 hk101 b101
  refine gk_sipush C dL_most_251 (by decide) ?_
  refine gk_icmp_ne C (tgt := 402) (by omega) (by omega) dL_most_254 (by decide) (fun c_254 => ?_) (fun c_254 => ?_)
  · exact absurd c_254 (by omega)
  refine gk_aload_n C dL_most_257 rfl ?_
  refine gk_iconst C dL_most_258 ?_
  refine gk_bipush C dL_most_259 (by decide) ?_
  obtain ⟨σ103, e103, b103, hk103⟩ := chk_c hk102
  obtain ⟨fs103, ob103⟩ := H102.obj
  refine gk_callV C o_X4_alike k_L_29 dL_most_261 (HC.dir (h_alike hfl H102 (t := (1)) (u := (9)) (by omega) (by omega)) e103 (by omega)) ob103 rfl rfl rfl ⟨Nat.le_of_ble_eq_true rfl, Nat.le_of_ble_eq_true rfl⟩ ⟨by show _ + 2 ≤ 3000; omega, by show _ + 12 ≤ 130000; omega⟩ (by exact Nat.le_of_ble_eq_true rfl) (fun _ _ z => z.elim) (fun v103 h103 p103 => ?_)
  obtain ⟨rfl, H103⟩ := p103
  dsimp only [gk_push]
  clear e103 ob103 H102 hk102 b102
  refine gk_bipush C dL_most_264 (by decide) ?_
  refine gk_icmp_ne C (tgt := 402) (by omega) (by omega) dL_most_266 (by decide) (fun c_266 => ?_) (fun c_266 => ?_)
  · exact absurd c_266 (by omega)
  refine gk_aload_n C dL_most_269 rfl ?_
  refine gk_iconst C dL_most_270 ?_
  refine gk_bipush C dL_most_271 (by decide) ?_
  refine gk_iconst C dL_most_273 ?_
  refine gk_iconst C dL_most_274 ?_
  obtain ⟨σ104, e104, b104, hk104⟩ := chk_c hk103
  obtain ⟨fs104, ob104⟩ := H103.obj
  refine gk_callV C o_X4_note k_L_13 dL_most_275 (HC.dir (h_note hfl H103 (t := (3)) (a := (6)) (b := (1)) (g := (3)) (by omega) (by omega) (by omega) (by omega)) e104 (by omega)) ob104 rfl rfl rfl ⟨Nat.le_of_ble_eq_true rfl, Nat.le_of_ble_eq_true rfl⟩ ⟨by show _ + 3 ≤ 3000; omega, by show _ + 18 ≤ 130000; omega⟩ (by exact Nat.le_of_ble_eq_true rfl) (fun _ _ z => z.elim) (fun v104 h104 p104 => ?_)
  obtain ⟨rfl, H104⟩ := p104
  dsimp only [gk_push]
  clear e104 ob104 H103 hk103 b103
  refine gk_iconst C dL_most_278 ?_
  refine gk_icmp_ne C (tgt := 402) (by omega) (by omega) dL_most_279 (by decide) (fun c_279 => ?_) (fun c_279 => ?_)
  · exact absurd c_279 (by omega)
  refine gk_aload_n C dL_most_282 rfl ?_
  refine gk_iconst C dL_most_283 ?_
  refine gk_bipush C dL_most_284 (by decide) ?_
  refine gk_iconst C dL_most_286 ?_
  refine gk_iconst C dL_most_287 ?_
  obtain ⟨σ105, e105, b105, hk105⟩ := chk_c hk104
  obtain ⟨fs105, ob105⟩ := H104.obj
  refine gk_callV C o_X4_note k_L_13 dL_most_288 (HC.dir (h_note hfl H104 (t := (3)) (a := (7)) (b := (1)) (g := (4)) (by omega) (by omega) (by omega) (by omega)) e105 (by omega)) ob105 rfl rfl rfl ⟨Nat.le_of_ble_eq_true rfl, Nat.le_of_ble_eq_true rfl⟩ ⟨by show _ + 3 ≤ 3000; omega, by show _ + 18 ≤ 130000; omega⟩ (by exact Nat.le_of_ble_eq_true rfl) (fun _ _ z => z.elim) (fun v105 h105 p105 => ?_)
  obtain ⟨rfl, H105⟩ := p105
  dsimp only [gk_push]
  clear e105 ob105 H104 hk104 b104
  refine gk_iconst C dL_most_291 ?_
  refine gk_icmp_ne C (tgt := 402) (by omega) (by omega) dL_most_292 (by decide) (fun c_292 => ?_) (fun c_292 => ?_)
  · exact absurd c_292 (by omega)
  refine gk_aload_n C dL_most_295 rfl ?_
  refine gk_iconst C dL_most_296 ?_
  refine gk_bipush C dL_most_297 (by decide) ?_
  refine gk_iconst C dL_most_299 ?_
  refine gk_iconst C dL_most_300 ?_
  obtain ⟨σ106, e106, b106, hk106⟩ := chk_c hk105
  obtain ⟨fs106, ob106⟩ := H105.obj
  refine gk_callV C o_X4_note k_L_13 dL_most_301 (HC.dir (h_note hfl H105 (t := (3)) (a := (6)) (b := (1)) (g := (5)) (by omega) (by omega) (by omega) (by omega)) e106 (by omega)) ob106 rfl rfl rfl ⟨Nat.le_of_ble_eq_true rfl, Nat.le_of_ble_eq_true rfl⟩ ⟨by show _ + 3 ≤ 3000; omega, by show _ + 18 ≤ 130000; omega⟩ (by exact Nat.le_of_ble_eq_true rfl) (fun _ _ z => z.elim) (fun v106 h106 p106 => ?_)
  obtain ⟨rfl, H106⟩ := p106
  dsimp only [gk_push]
  clear e106 ob106 H105 hk105 b105
  refine gk_iconst C dL_most_304 ?_
  refine gk_icmp_ne C (tgt := 402) (by omega) (by omega) dL_most_305 (by decide) (fun c_305 => ?_) (fun c_305 => ?_)
  · exact absurd c_305 (by omega)
  refine gk_aload_n C dL_most_308 rfl ?_
  refine gk_iconst C dL_most_309 ?_
  refine gk_iconst C dL_most_310 ?_
  refine gk_iconst C dL_most_311 ?_
  refine gk_bipush C dL_most_312 (by decide) ?_
  obtain ⟨σ107, e107, b107, hk107⟩ := chk_c hk106
  obtain ⟨fs107, ob107⟩ := H106.obj
  refine gk_callV C o_X4_note k_L_13 dL_most_314 (HC.dir (h_note hfl H106 (t := (3)) (a := (1)) (b := (1)) (g := (6)) (by omega) (by omega) (by omega) (by omega)) e107 (by omega)) ob107 rfl rfl rfl ⟨Nat.le_of_ble_eq_true rfl, Nat.le_of_ble_eq_true rfl⟩ ⟨by show _ + 3 ≤ 3000; omega, by show _ + 18 ≤ 130000; omega⟩ (by exact Nat.le_of_ble_eq_true rfl) (fun _ _ z => z.elim) (fun v107 h107 p107 => ?_)
  obtain ⟨rfl, H107⟩ := p107
  dsimp only [gk_push]
  clear e107 ob107 H106 hk106 b106
  refine gk_iconst C dL_most_317 ?_
  refine gk_icmp_ne C (tgt := 402) (by omega) (by omega) dL_most_318 (by decide) (fun c_318 => ?_) (fun c_318 => ?_)
  · exact absurd c_318 (by omega)
  refine gk_aload_n C dL_most_321 rfl ?_
  refine gk_iconst C dL_most_322 ?_
  refine gk_iconst C dL_most_323 ?_
  refine gk_iconst C dL_most_324 ?_
  refine gk_bipush C dL_most_325 (by decide) ?_
  obtain ⟨σ108, e108, b108, hk108⟩ := chk_c hk107
  obtain ⟨fs108, ob108⟩ := H107.obj
  refine gk_callV C o_X4_note k_L_13 dL_most_327 (HC.dir (h_note hfl H107 (t := (3)) (a := (4)) (b := (1)) (g := (7)) (by omega) (by omega) (by omega) (by omega)) e108 (by omega)) ob108 rfl rfl rfl ⟨Nat.le_of_ble_eq_true rfl, Nat.le_of_ble_eq_true rfl⟩ ⟨by show _ + 3 ≤ 3000; omega, by show _ + 18 ≤ 130000; omega⟩ (by exact Nat.le_of_ble_eq_true rfl) (fun _ _ z => z.elim) (fun v108 h108 p108 => ?_)
  obtain ⟨rfl, H108⟩ := p108
  dsimp only [gk_push]
  clear e108 ob108 H107 hk107 b107
  refine gk_iconst C dL_most_330 ?_
  refine gk_icmp_ne C (tgt := 402) (by omega) (by omega) dL_most_331 (by decide) (fun c_331 => ?_) (fun c_331 => ?_)
  · exact absurd c_331 (by omega)
  refine gk_aload_n C dL_most_334 rfl ?_
  refine gk_iconst C dL_most_335 ?_
  refine gk_iconst C dL_most_336 ?_
  refine gk_iconst C dL_most_337 ?_
  refine gk_bipush C dL_most_338 (by decide) ?_
  obtain ⟨σ109, e109, b109, hk109⟩ := chk_c hk108
  obtain ⟨fs109, ob109⟩ := H108.obj
  refine gk_callV C o_X4_note k_L_13 dL_most_340 (HC.dir (h_note hfl H108 (t := (3)) (a := (1)) (b := (1)) (g := (8)) (by omega) (by omega) (by omega) (by omega)) e109 (by omega)) ob109 rfl rfl rfl ⟨Nat.le_of_ble_eq_true rfl, Nat.le_of_ble_eq_true rfl⟩ ⟨by show _ + 3 ≤ 3000; omega, by show _ + 18 ≤ 130000; omega⟩ (by exact Nat.le_of_ble_eq_true rfl) (fun _ _ z => z.elim) (fun v109 h109 p109 => ?_)
  obtain ⟨rfl, H109⟩ := p109
  dsimp only [gk_push]
  clear e109 ob109 H108 hk108 b108
  refine gk_bipush C dL_most_343 (by decide) ?_
  refine gk_icmp_ne C (tgt := 402) (by omega) (by omega) dL_most_345 (by decide) (fun c_345 => ?_) (fun c_345 => ?_)
  · exact absurd c_345 (by omega)
  refine gk_aload_n C dL_most_348 rfl ?_
  refine gk_iconst C dL_most_349 ?_
  refine gk_iconst C dL_most_350 ?_
  refine gk_iconst C dL_most_351 ?_
  refine gk_iconst C dL_most_352 ?_
  obtain ⟨σ110, e110, b110, hk110⟩ := chk_c hk109
  obtain ⟨fs110, ob110⟩ := H109.obj
  refine gk_callV C o_X4_note k_L_13 dL_most_353 (HC.dir (h_note hfl H109 (t := (3)) (a := (3)) (b := (1)) (g := (1)) (by omega) (by omega) (by omega) (by omega)) e110 (by omega)) ob110 rfl rfl rfl ⟨Nat.le_of_ble_eq_true rfl, Nat.le_of_ble_eq_true rfl⟩ ⟨by show _ + 3 ≤ 3000; omega, by show _ + 18 ≤ 130000; omega⟩ (by exact Nat.le_of_ble_eq_true rfl) (fun _ _ z => z.elim) (fun v110 h110 p110 => ?_)
  obtain ⟨rfl, H110⟩ := p110
  dsimp only [gk_push]
  clear e110 ob110 H109 hk109 b109
  refine gk_bipush C dL_most_356 (by decide) ?_
  refine gk_icmp_ne C (tgt := 402) (by omega) (by omega) dL_most_358 (by decide) (fun c_358 => ?_) (fun c_358 => ?_)
  · exact absurd c_358 (by omega)
  refine gk_aload_n C dL_most_361 rfl ?_
  refine gk_iconst C dL_most_362 ?_
  refine gk_iconst C dL_most_363 ?_
  refine gk_iconst C dL_most_364 ?_
  refine gk_iconst C dL_most_365 ?_
  obtain ⟨σ111, e111, b111, hk111⟩ := chk_c hk110
  obtain ⟨fs111, ob111⟩ := H110.obj
  refine gk_callV C o_X4_note k_L_13 dL_most_366 (HC.dir (h_note hfl H110 (t := (3)) (a := (4)) (b := (1)) (g := (2)) (by omega) (by omega) (by omega) (by omega)) e111 (by omega)) ob111 rfl rfl rfl ⟨Nat.le_of_ble_eq_true rfl, Nat.le_of_ble_eq_true rfl⟩ ⟨by show _ + 3 ≤ 3000; omega, by show _ + 18 ≤ 130000; omega⟩ (by exact Nat.le_of_ble_eq_true rfl) (fun _ _ z => z.elim) (fun v111 h111 p111 => ?_)
  obtain ⟨rfl, H111⟩ := p111
  dsimp only [gk_push]
  clear e111 ob111 H110 hk110 b110
  refine gk_bipush C dL_most_369 (by decide) ?_
  refine gk_icmp_ne C (tgt := 402) (by omega) (by omega) dL_most_371 (by decide) (fun c_371 => ?_) (fun c_371 => ?_)
  · exact absurd c_371 (by omega)
  refine gk_aload_n C dL_most_374 rfl ?_
  refine gk_iconst C dL_most_375 ?_
  refine gk_iconst C dL_most_376 ?_
  refine gk_iconst C dL_most_377 ?_
  refine gk_iconst C dL_most_378 ?_
  obtain ⟨σ112, e112, b112, hk112⟩ := chk_c hk111
  obtain ⟨fs112, ob112⟩ := H111.obj
  refine gk_callV C o_X4_note k_L_13 dL_most_379 (HC.dir (h_note hfl H111 (t := (3)) (a := (0)) (b := (1)) (g := (5)) (by omega) (by omega) (by omega) (by omega)) e112 (by omega)) ob112 rfl rfl rfl ⟨Nat.le_of_ble_eq_true rfl, Nat.le_of_ble_eq_true rfl⟩ ⟨by show _ + 3 ≤ 3000; omega, by show _ + 18 ≤ 130000; omega⟩ (by exact Nat.le_of_ble_eq_true rfl) (fun _ _ z => z.elim) (fun v112 h112 p112 => ?_)
  obtain ⟨rfl, H112⟩ := p112
  dsimp only [gk_push]
  clear e112 ob112 H111 hk111 b111
  refine gk_bipush C dL_most_382 (by decide) ?_
  refine gk_icmp_ne C (tgt := 402) (by omega) (by omega) dL_most_384 (by decide) (fun c_384 => ?_) (fun c_384 => ?_)
  · exact absurd c_384 (by omega)
  refine gk_aload_n C dL_most_387 rfl ?_
  refine gk_bipush C dL_most_388 (by decide) ?_
  refine gk_iconst C dL_most_390 ?_
  refine gk_iconst C dL_most_391 ?_
  obtain ⟨⟨n1_113, n2_113, n3_113⟩, b113, hk113⟩ := chk_n hk112
  refine gk_callS C o_L_refuses k_L_107 dL_most_392 (r_refuses hfl H112 n1_113 n2_113 n3_113 (Nat.le_trans b112 (by omega))) rfl rfl ⟨Nat.le_of_ble_eq_true rfl, Nat.le_of_ble_eq_true rfl⟩ ⟨by show _ + 1600 ≤ 3000; omega, by show _ + 70000 ≤ 130000; omega⟩ (by exact Nat.le_of_ble_eq_true rfl) (fun _ _ z => z.elim) (fun v113 h113 p113 => ?_)
  obtain ⟨rfl, H113⟩ := p113
  dsimp only [gk_push]
  clear n1_113 n2_113 n3_113 H112 hk112 b112
  refine gk_if_eq C (tgt := 402) (by omega) dL_most_395 (by decide) (fun c_395 => ?_) (fun c_395 => ?_)
  · exact absurd c_395 (by omega)
  refine gk_iconst C dL_most_398 ?_
  refine gk_goto C (tgt := 403) dL_most_399 (by decide) ?_
  refine (R _ _ _ _ _ (Nat.le_of_ble_eq_true rfl) (Nat.le_of_ble_eq_true rfl)).2.1 _ rfl (by omega) dL_most_403 ?_
  rfl
