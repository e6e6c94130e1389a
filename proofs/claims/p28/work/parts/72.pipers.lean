/-! a run by hand: pipers -/
def ca_pipers : List CA := [(22, (0), (0), (0), (0), (0)), (23, (0), (0), (0), (0), (-1)), (12, (120), (9), (40), (0), (0)), (9, (10), (20), (3), (0), (0)), (23, (0), (0), (0), (0), (-1)), (9, (0), (25), (9), (0), (1)), (23, (0), (0), (0), (0), (0)), (9, (-5), (30), (0), (0), (2)), (26, (0), (0), (0), (0), (0)), (27, (0), (0), (0), (0), (3)), (28, (0), (0), (0), (0), (0)), (22, (0), (0), (0), (0), (5)), (23, (0), (0), (0), (0), (2)), (13, (2), (0), (0), (0), (55)), (13, (2), (1), (0), (0), (-5)), (13, (2), (2), (0), (0), (0)), (13, (2), (3), (0), (0), (0)), (13, (2), (4), (0), (0), (0)), (13, (2), (5), (0), (0), (-5)), (13, (0), (0), (0), (0), (50)), (13, (0), (1), (0), (0), (10)), (13, (0), (2), (0), (0), (0)), (13, (0), (3), (0), (0), (0)), (13, (0), (4), (0), (0), (0)), (13, (0), (5), (0), (0), (0)), (10, (2), (-5), (0), (0), (-5)), (22, (0), (0), (0), (0), (0)), (23, (0), (0), (0), (0), (0)), (10, (2), (-96), (0), (0), (-7000002)), (15, (1), (2), (5), (0), (9)), (12, (1), (2), (5), (0), (9)), (13, (0), (0), (0), (0), (48)), (13, (0), (1), (0), (0), (10)), (13, (0), (2), (0), (0), (0)), (13, (0), (3), (0), (0), (1)), (13, (0), (4), (0), (0), (5)), (13, (0), (5), (0), (0), (0)), (13, (1), (0), (0), (0), (42)), (13, (1), (1), (0), (0), (0)), (13, (1), (2), (0), (0), (0)), (13, (1), (3), (0), (0), (1)), (13, (1), (4), (0), (0), (11)), (13, (1), (5), (0), (0), (6)), (13, (2), (0), (0), (0), (51)), (13, (2), (1), (0), (0), (-5)), (13, (2), (2), (0), (0), (-5)), (13, (2), (3), (0), (0), (1)), (13, (2), (4), (0), (0), (2)), (13, (2), (5), (0), (0), (-3)), (23, (0), (0), (0), (0), (1)), (25, (0), (1), (0), (0), (6)), (25, (1), (0), (0), (0), (6)), (25, (2), (2), (0), (0), (0)), (11, (1), (1), (0), (0), (0)), (11, (1), (1), (0), (0), (1)), (22, (0), (0), (0), (0), (3)), (23, (0), (0), (0), (0), (0)), (13, (1), (0), (0), (0), (42)), (13, (1), (1), (0), (0), (0)), (13, (1), (2), (0), (0), (0)), (13, (1), (3), (0), (0), (1)), (13, (1), (4), (0), (0), (11)), (13, (1), (5), (0), (0), (6)), (15, (2), (0), (0), (0), (9)), (13, (0), (0), (0), (0), (48)), (13, (0), (1), (0), (0), (10)), (13, (0), (2), (0), (0), (0)), (13, (0), (3), (0), (0), (1)), (13, (0), (4), (0), (0), (5)), (13, (0), (5), (0), (0), (0)), (12, (2), (0), (0), (0), (9)), (13, (0), (0), (0), (0), (39)), (13, (0), (1), (0), (0), (10)), (13, (0), (2), (0), (0), (0)), (13, (0), (3), (0), (0), (0)), (13, (0), (4), (0), (0), (11)), (13, (0), (5), (0), (0), (0)), (13, (1), (0), (0), (0), (43)), (13, (1), (1), (0), (0), (0)), (13, (1), (2), (0), (0), (0)), (13, (1), (3), (0), (0), (0)), (13, (1), (4), (0), (0), (7)), (13, (1), (5), (0), (0), (-4)), (13, (2), (0), (0), (0), (48)), (13, (2), (1), (0), (0), (-5)), (13, (2), (2), (0), (0), (-5)), (13, (2), (3), (0), (0), (0)), (13, (2), (4), (0), (0), (2)), (13, (2), (5), (0), (0), (-9)), (9, (-99), (10), (9), (0), (3)), (12, (11), (0), (0), (0), (226)), (13, (3), (0), (0), (0), (-178)), (13, (3), (1), (0), (0), (-99)), (13, (3), (2), (0), (0), (0)), (13, (3), (3), (0), (0), (0)), (13, (3), (4), (0), (0), (99)), (13, (3), (5), (0), (0), (184)), (13, (0), (4), (0), (0), (44)), (13, (1), (4), (0), (0), (0)), (12, (1), (0), (0), (0), (228)), (13, (3), (0), (0), (0), (-180)), (13, (3), (1), (0), (0), (-100)), (13, (3), (2), (0), (0), (0)), (13, (3), (3), (0), (0), (0)), (13, (3), (4), (0), (0), (100)), (13, (3), (5), (0), (0), (183)), (12, (1), (0), (0), (0), (228)), (13, (3), (0), (0), (0), (-180)), (13, (3), (1), (0), (0), (-100)), (13, (3), (2), (0), (0), (0)), (13, (3), (3), (0), (0), (0)), (13, (3), (4), (0), (0), (100)), (13, (3), (5), (0), (0), (180)), (11, (0), (1), (0), (0), (0)), (11, (1), (1), (0), (0), (1)), (11, (2), (1), (0), (0), (0)), (11, (3), (1), (0), (0), (0)), (22, (0), (0), (0), (0), (0)), (23, (0), (0), (0), (0), (-1)), (13, (3), (5), (0), (0), (0)), (12, (3), (9), (40), (0), (0)), (13, (3), (4), (0), (0), (94)), (13, (3), (1), (0), (0), (-100)), (13, (3), (3), (0), (0), (0)), (9, (100), (40), (9), (0), (4)), (9, (100), (40), (9), (0), (5)), (9, (100), (40), (9), (0), (6)), (9, (100), (40), (9), (0), (7)), (9, (100), (40), (9), (0), (-7000003)), (22, (0), (0), (0), (0), (0)), (23, (0), (0), (0), (0), (4)), (12, (40), (9), (40), (0), (0)), (13, (4), (3), (0), (0), (40)), (13, (4), (4), (0), (0), (100)), (13, (4), (1), (0), (0), (65)), (13, (4), (0), (0), (0), (165)), (12, (1), (0), (3), (0), (0)), (13, (4), (3), (0), (0), (39)), (26, (0), (0), (0), (0), (0)), (27, (0), (0), (0), (0), (8)), (28, (0), (0), (0), (0), (0))]
set_option maxRecDepth 100000 in
theorem ck_pipers : chk σ0 ca_pipers = true := by decide +kernel
set_option maxRecDepth 100000 in
set_option maxHeartbeats 20000000 in
theorem r_pipers {l : Launch} {Γ : GA} (hfl : l.stackTraces = false) : Ct l Γ m_L_pipers [] (fun _ => none) (fun v _ => v = some (iv 1)) (fun _ _ => False) := by
  have hk := ck_pipers
  unfold ca_pipers at hk
  have hb0 : σ0.2.2.2.2 ≤ 100 := Nat.zero_le _
  refine Ct.intro hfl (by decide +kernel) rfl (Nat.le_of_ble_eq_true rfl) ?_
  intro G C R T
  show G 0 [none, none] [] (fun _ => none) 0 0
  refine gk_new C n_L_8 ⟨by show _ + 1 ≤ 5000; omega, by show _ + 9 ≤ 200000; omega⟩ dL_pipers_0 (fun q0 e0 => ?_)
  refine gk_dup C rfl dL_pipers_3 ?_
  refine gk_callI C o_X4_init rfl k_L_106 dL_pipers_4 (h_new hfl) rfl rfl ⟨Nat.le_of_ble_eq_true rfl, Nat.le_of_ble_eq_true rfl⟩ ⟨by show _ + 8 ≤ 5000; omega, by show _ + 37 ≤ 200000; omega⟩ (by exact Nat.le_of_ble_eq_true rfl) (fun _ _ z => z.elim) (fun v0 h0 p0 => ?_)
  obtain ⟨rfl, H0⟩ := p0
  dsimp only [gk_push]
  refine gk_astore_n_0 C (by exact Nat.le_of_ble_eq_true rfl) dL_pipers_7 ?_
  refine gk_aload_n C dL_pipers_8 rfl ?_
  obtain ⟨σ1, e1, b1, hk1⟩ := chk_c hk
  obtain ⟨fs1, ob1⟩ := H0.obj
  refine gk_callV C o_X4_spread k_L_93 dL_pipers_9 (HC.dir (h_spread hfl H0  ) e1 (by omega)) ob1 rfl rfl rfl ⟨Nat.le_of_ble_eq_true rfl, Nat.le_of_ble_eq_true rfl⟩ ⟨by show _ + 0 ≤ 5000; omega, by show _ + 0 ≤ 200000; omega⟩ (by exact Nat.le_of_ble_eq_true rfl) (fun _ _ z => z.elim) (fun v1 h1 p1 => ?_)
  obtain ⟨rfl, H1⟩ := p1
  dsimp only [gk_push]
  clear e1 ob1 H0 hk hb0
  refine gk_if_ne C (tgt := 450) (by omega) dL_pipers_12 (by decide) (fun c_12 => ?_) (fun c_12 => ?_)
  · exact absurd c_12 (by omega)
  refine gk_aload_n C dL_pipers_15 rfl ?_
  obtain ⟨σ2, e2, b2, hk2⟩ := chk_c hk1
  obtain ⟨fs2, ob2⟩ := H1.obj
  refine gk_callV C o_X4_odd k_L_138 dL_pipers_16 (HC.dir (h_odd hfl H1  ) e2 (by omega)) ob2 rfl rfl rfl ⟨Nat.le_of_ble_eq_true rfl, Nat.le_of_ble_eq_true rfl⟩ ⟨by show _ + 0 ≤ 5000; omega, by show _ + 0 ≤ 200000; omega⟩ (by exact Nat.le_of_ble_eq_true rfl) (fun _ _ z => z.elim) (fun v2 h2 p2 => ?_)
  obtain ⟨rfl, H2⟩ := p2
  dsimp only [gk_push]
  clear e2 ob2 H1 hk1 b1
  refine gk_iconst C dL_pipers_19 ?_
  refine gk_icmp_ne C (tgt := 450) (by omega) (by omega) dL_pipers_20 (by decide) (fun c_20 => ?_) (fun c_20 => ?_)
  · exact absurd c_20 (by omega)
  refine gk_aload_n C dL_pipers_23 rfl ?_
  refine gk_bipush C dL_pipers_24 (by decide) ?_
  refine gk_bipush C dL_pipers_26 (by decide) ?_
  refine gk_bipush C dL_pipers_28 (by decide) ?_
  obtain ⟨σ3, e3, b3, hk3⟩ := chk_c hk2
  obtain ⟨fs3, ob3⟩ := H2.obj
  refine gk_callV C o_X4_play k_L_52 dL_pipers_30 (HC.dir (h_play hfl H2 (m := (120)) (r := (9)) (t := (40)) (by omega) (by omega) (by omega)) e3 (by omega)) ob3 rfl rfl rfl ⟨Nat.le_of_ble_eq_true rfl, Nat.le_of_ble_eq_true rfl⟩ ⟨by show _ + 1 ≤ 5000; omega, by show _ + 6 ≤ 200000; omega⟩ (by exact Nat.le_of_ble_eq_true rfl) (fun _ _ z => z.elim) (fun v3 h3 p3 => ?_)
  obtain ⟨rfl, H3⟩ := p3
  dsimp only [gk_push]
  clear e3 ob3 H2 hk2 b2
  refine gk_if_ne C (tgt := 450) (by omega) dL_pipers_33 (by decide) (fun c_33 => ?_) (fun c_33 => ?_)
  · exact absurd c_33 (by omega)
  refine gk_aload_n C dL_pipers_36 rfl ?_
  refine gk_bipush C dL_pipers_37 (by decide) ?_
  refine gk_bipush C dL_pipers_39 (by decide) ?_
  refine gk_iconst C dL_pipers_41 ?_
  obtain ⟨σ4, e4, b4, hk4⟩ := chk_c hk3
  obtain ⟨fs4, ob4⟩ := H3.obj
  refine gk_callV C o_X4_piper k_L_42 dL_pipers_42 (HC.dir (h_piper hfl H3 (a := (10)) (b := (20)) (e := (3)) (by omega) (by omega) (by omega)) e4 (by omega)) ob4 rfl rfl rfl ⟨Nat.le_of_ble_eq_true rfl, Nat.le_of_ble_eq_true rfl⟩ ⟨by show _ + 4 ≤ 5000; omega, by show _ + 29 ≤ 200000; omega⟩ (by exact Nat.le_of_ble_eq_true rfl) (fun _ _ z => z.elim) (fun v4 h4 p4 => ?_)
  obtain ⟨rfl, H4⟩ := p4
  dsimp only [gk_push]
  clear e4 ob4 H3 hk3 b3
  refine gk_if_ne C (tgt := 450) (by omega) dL_pipers_45 (by decide) (fun c_45 => ?_) (fun c_45 => ?_)
  · exact absurd c_45 (by omega)
  refine gk_aload_n C dL_pipers_48 rfl ?_
  obtain ⟨σ5, e5, b5, hk5⟩ := chk_c hk4
  obtain ⟨fs5, ob5⟩ := H4.obj
  refine gk_callV C o_X4_odd k_L_138 dL_pipers_49 (HC.dir (h_odd hfl H4  ) e5 (by omega)) ob5 rfl rfl rfl ⟨Nat.le_of_ble_eq_true rfl, Nat.le_of_ble_eq_true rfl⟩ ⟨by show _ + 0 ≤ 5000; omega, by show _ + 0 ≤ 200000; omega⟩ (by exact Nat.le_of_ble_eq_true rfl) (fun _ _ z => z.elim) (fun v5 h5 p5 => ?_)
  obtain ⟨rfl, H5⟩ := p5
  dsimp only [gk_push]
  clear e5 ob5 H4 hk4 b4
  refine gk_iconst C dL_pipers_52 ?_
  refine gk_icmp_ne C (tgt := 450) (by omega) (by omega) dL_pipers_53 (by decide) (fun c_53 => ?_) (fun c_53 => ?_)
  · exact absurd c_53 (by omega)
  refine gk_aload_n C dL_pipers_56 rfl ?_
  refine gk_iconst C dL_pipers_57 ?_
  refine gk_bipush C dL_pipers_58 (by decide) ?_
  refine gk_bipush C dL_pipers_60 (by decide) ?_
  obtain ⟨σ6, e6, b6, hk6⟩ := chk_c hk5
  obtain ⟨fs6, ob6⟩ := H5.obj
  refine gk_callV C o_X4_piper k_L_42 dL_pipers_62 (HC.dir (h_piper hfl H5 (a := (0)) (b := (25)) (e := (9)) (by omega) (by omega) (by omega)) e6 (by omega)) ob6 rfl rfl rfl ⟨Nat.le_of_ble_eq_true rfl, Nat.le_of_ble_eq_true rfl⟩ ⟨by show _ + 4 ≤ 5000; omega, by show _ + 29 ≤ 200000; omega⟩ (by exact Nat.le_of_ble_eq_true rfl) (fun _ _ z => z.elim) (fun v6 h6 p6 => ?_)
  obtain ⟨rfl, H6⟩ := p6
  dsimp only [gk_push]
  clear e6 ob6 H5 hk5 b5
  refine gk_iconst C dL_pipers_65 ?_
  refine gk_icmp_ne C (tgt := 450) (by omega) (by omega) dL_pipers_66 (by decide) (fun c_66 => ?_) (fun c_66 => ?_)
  · exact absurd c_66 (by omega)
  refine gk_aload_n C dL_pipers_69 rfl ?_
  obtain ⟨σ7, e7, b7, hk7⟩ := chk_c hk6
  obtain ⟨fs7, ob7⟩ := H6.obj
  refine gk_callV C o_X4_odd k_L_138 dL_pipers_70 (HC.dir (h_odd hfl H6  ) e7 (by omega)) ob7 rfl rfl rfl ⟨Nat.le_of_ble_eq_true rfl, Nat.le_of_ble_eq_true rfl⟩ ⟨by show _ + 0 ≤ 5000; omega, by show _ + 0 ≤ 200000; omega⟩ (by exact Nat.le_of_ble_eq_true rfl) (fun _ _ z => z.elim) (fun v7 h7 p7 => ?_)
  obtain ⟨rfl, H7⟩ := p7
  dsimp only [gk_push]
  clear e7 ob7 H6 hk6 b6
  refine gk_if_ne C (tgt := 450) (by omega) dL_pipers_73 (by decide) (fun c_73 => ?_) (fun c_73 => ?_)
  · exact absurd c_73 (by omega)
  refine gk_aload_n C dL_pipers_76 rfl ?_
  refine gk_bipush C dL_pipers_77 (by decide) ?_
  refine gk_bipush C dL_pipers_79 (by decide) ?_
  refine gk_iconst C dL_pipers_81 ?_
  obtain ⟨σ8, e8, b8, hk8⟩ := chk_c hk7
  obtain ⟨fs8, ob8⟩ := H7.obj
  refine gk_callV C o_X4_piper k_L_42 dL_pipers_82 (HC.dir (h_piper hfl H7 (a := (-5)) (b := (30)) (e := (0)) (by omega) (by omega) (by omega)) e8 (by omega)) ob8 rfl rfl rfl ⟨Nat.le_of_ble_eq_true rfl, Nat.le_of_ble_eq_true rfl⟩ ⟨by show _ + 4 ≤ 5000; omega, by show _ + 29 ≤ 200000; omega⟩ (by exact Nat.le_of_ble_eq_true rfl) (fun _ _ z => z.elim) (fun v8 h8 p8 => ?_)
  obtain ⟨rfl, H8⟩ := p8
  dsimp only [gk_push]
  clear e8 ob8 H7 hk7 b7
  refine gk_iconst C dL_pipers_85 ?_
  refine gk_icmp_ne C (tgt := 450) (by omega) (by omega) dL_pipers_86 (by decide) (fun c_86 => ?_) (fun c_86 => ?_)
  · exact absurd c_86 (by omega)
  refine gk_aload_n C dL_pipers_89 rfl ?_
  refine gk_iconst C dL_pipers_90 ?_
  refine gk_iconst C dL_pipers_91 ?_
  refine gk_iconst C dL_pipers_92 ?_
  obtain ⟨⟨n1_9, n2_9, n3_9⟩, b9, hk9⟩ := chk_n hk8
  refine gk_callS C o_L_refuses k_L_107 dL_pipers_93 (r_refuses hfl H8 n1_9 n2_9 n3_9 (Nat.le_trans b8 (by omega))) rfl rfl ⟨Nat.le_of_ble_eq_true rfl, Nat.le_of_ble_eq_true rfl⟩ ⟨by show _ + 1600 ≤ 5000; omega, by show _ + 70000 ≤ 200000; omega⟩ (by exact Nat.le_of_ble_eq_true rfl) (fun _ _ z => z.elim) (fun v9 h9 p9 => ?_)
  obtain ⟨rfl, H9⟩ := p9
  dsimp only [gk_push]
  clear n1_9 n2_9 n3_9 H8 hk8 b8
  refine gk_if_eq C (tgt := 450) (by omega) dL_pipers_96 (by decide) (fun c_96 => ?_) (fun c_96 => ?_)
  · exact absurd c_96 (by omega)
  refine gk_aload_n C dL_pipers_99 rfl ?_
  obtain ⟨σ10, e10, b10, hk10⟩ := chk_c hk9
  obtain ⟨fs10, ob10⟩ := H9.obj
  refine gk_callV C o_X4_spread k_L_93 dL_pipers_100 (HC.dir (h_spread hfl H9  ) e10 (by omega)) ob10 rfl rfl rfl ⟨Nat.le_of_ble_eq_true rfl, Nat.le_of_ble_eq_true rfl⟩ ⟨by show _ + 0 ≤ 5000; omega, by show _ + 0 ≤ 200000; omega⟩ (by exact Nat.le_of_ble_eq_true rfl) (fun _ _ z => z.elim) (fun v10 h10 p10 => ?_)
  obtain ⟨rfl, H10⟩ := p10
  dsimp only [gk_push]
  clear e10 ob10 H9 hk9 b9
  refine gk_iconst C dL_pipers_103 ?_
  refine gk_icmp_ne C (tgt := 450) (by omega) (by omega) dL_pipers_104 (by decide) (fun c_104 => ?_) (fun c_104 => ?_)
  · exact absurd c_104 (by omega)
  refine gk_aload_n C dL_pipers_107 rfl ?_
  obtain ⟨σ11, e11, b11, hk11⟩ := chk_c hk10
  obtain ⟨fs11, ob11⟩ := H10.obj
  refine gk_callV C o_X4_odd k_L_138 dL_pipers_108 (HC.dir (h_odd hfl H10  ) e11 (by omega)) ob11 rfl rfl rfl ⟨Nat.le_of_ble_eq_true rfl, Nat.le_of_ble_eq_true rfl⟩ ⟨by show _ + 0 ≤ 5000; omega, by show _ + 0 ≤ 200000; omega⟩ (by exact Nat.le_of_ble_eq_true rfl) (fun _ _ z => z.elim) (fun v11 h11 p11 => ?_)
  obtain ⟨rfl, H11⟩ := p11
  dsimp only [gk_push]
  clear e11 ob11 H10 hk10 b10
  refine gk_iconst C dL_pipers_111 ?_
  refine gk_icmp_ne C (tgt := 450) (by omega) (by omega) dL_pipers_112 (by decide) (fun c_112 => ?_) (fun c_112 => ?_)
  · exact absurd c_112 (by omega)
  refine gk_aload_n C dL_pipers_115 rfl ?_
  refine gk_iconst C dL_pipers_116 ?_
  refine gk_bipush C dL_pipers_117 (by decide) ?_
  refine gk_bipush C dL_pipers_119 (by decide) ?_
  refine gk_iconst C dL_pipers_121 ?_
  refine gk_iconst C dL_pipers_122 ?_
  refine gk_iconst C dL_pipers_123 ?_
  refine gk_bipush C dL_pipers_124 (by decide) ?_
  refine gk_callS C o_L_piper k_L_141 dL_pipers_126 (r_piper hfl H11 (by omega) (by omega) (by omega) (by omega) (by omega) (by omega) (by omega) hk11) rfl rfl ⟨Nat.le_of_ble_eq_true rfl, Nat.le_of_ble_eq_true rfl⟩ ⟨by show _ + 12 ≤ 5000; omega, by show _ + 72 ≤ 200000; omega⟩ (by exact Nat.le_of_ble_eq_true rfl) (fun _ _ z => z.elim) (fun v12 h12 p12 => ?_)
  obtain ⟨rfl, σ12, H12, hk12, b12⟩ := p12
  dsimp only [gk_push]
  clear H11 hk11 b11
  refine gk_if_eq C (tgt := 450) (by omega) dL_pipers_129 (by decide) (fun c_129 => ?_) (fun c_129 => ?_)
  · exact absurd c_129 (by omega)
  refine gk_aload_n C dL_pipers_132 rfl ?_
  refine gk_iconst C dL_pipers_133 ?_
  refine gk_bipush C dL_pipers_134 (by decide) ?_
  refine gk_bipush C dL_pipers_136 (by decide) ?_
  refine gk_iconst C dL_pipers_138 ?_
  refine gk_iconst C dL_pipers_139 ?_
  refine gk_iconst C dL_pipers_140 ?_
  refine gk_iconst C dL_pipers_141 ?_
  refine gk_callS C o_L_piper k_L_141 dL_pipers_142 (r_piper hfl H12 (by omega) (by omega) (by omega) (by omega) (by omega) (by omega) (by omega) hk12) rfl rfl ⟨Nat.le_of_ble_eq_true rfl, Nat.le_of_ble_eq_true rfl⟩ ⟨by show _ + 12 ≤ 5000; omega, by show _ + 72 ≤ 200000; omega⟩ (by exact Nat.le_of_ble_eq_true rfl) (fun _ _ z => z.elim) (fun v13 h13 p13 => ?_)
  obtain ⟨rfl, σ13, H13, hk13, b13⟩ := p13
  dsimp only [gk_push]
  clear H12 hk12 b12
  refine gk_if_eq C (tgt := 450) (by omega) dL_pipers_145 (by decide) (fun c_145 => ?_) (fun c_145 => ?_)
  · exact absurd c_145 (by omega)
  refine gk_aload_n C dL_pipers_148 rfl ?_
  refine gk_iconst C dL_pipers_149 ?_
  refine gk_bipush C dL_pipers_150 (by decide) ?_
  obtain ⟨σ14, e14, b14, hk14⟩ := chk_c hk13
  obtain ⟨fs14, ob14⟩ := H13.obj
  refine gk_callV C o_X4_seat k_L_45 dL_pipers_152 (HC.dir (h_seat hfl H13 (p := (2)) (b := (-5)) (by omega) (by omega)) e14 (by omega)) ob14 rfl rfl rfl ⟨Nat.le_of_ble_eq_true rfl, Nat.le_of_ble_eq_true rfl⟩ ⟨by show _ + 2 ≤ 5000; omega, by show _ + 12 ≤ 200000; omega⟩ (by exact Nat.le_of_ble_eq_true rfl) (fun _ _ z => z.elim) (fun v14 h14 p14 => ?_)
  obtain ⟨rfl, H14⟩ := p14
  dsimp only [gk_push]
  clear e14 ob14 H13 hk13 b13
  refine gk_bipush C dL_pipers_155 (by decide) ?_
  refine gk_icmp_ne C (tgt := 450) (by omega) (by omega) dL_pipers_157 (by decide) (fun c_157 => ?_) (fun c_157 => ?_)
  · exact absurd c_157 (by omega)
  refine gk_aload_n C dL_pipers_160 rfl ?_
  obtain ⟨σ15, e15, b15, hk15⟩ := chk_c hk14
  obtain ⟨fs15, ob15⟩ := H14.obj
  refine gk_callV C o_X4_spread k_L_93 dL_pipers_161 (HC.dir (h_spread hfl H14  ) e15 (by omega)) ob15 rfl rfl rfl ⟨Nat.le_of_ble_eq_true rfl, Nat.le_of_ble_eq_true rfl⟩ ⟨by show _ + 0 ≤ 5000; omega, by show _ + 0 ≤ 200000; omega⟩ (by exact Nat.le_of_ble_eq_true rfl) (fun _ _ z => z.elim) (fun v15 h15 p15 => ?_)
  obtain ⟨rfl, H15⟩ := p15
  dsimp only [gk_push]
  clear e15 ob15 H14 hk14 b14
  refine gk_if_ne C (tgt := 450) (by omega) dL_pipers_164 (by decide) (fun c_164 => ?_) (fun c_164 => ?_)
  · exact absurd c_164 (by omega)
  refine gk_aload_n C dL_pipers_167 rfl ?_
  obtain ⟨σ16, e16, b16, hk16⟩ := chk_c hk15
  obtain ⟨fs16, ob16⟩ := H15.obj
  refine gk_callV C o_X4_odd k_L_138 dL_pipers_168 (HC.dir (h_odd hfl H15  ) e16 (by omega)) ob16 rfl rfl rfl ⟨Nat.le_of_ble_eq_true rfl, Nat.le_of_ble_eq_true rfl⟩ ⟨by show _ + 0 ≤ 5000; omega, by show _ + 0 ≤ 200000; omega⟩ (by exact Nat.le_of_ble_eq_true rfl) (fun _ _ z => z.elim) (fun v16 h16 p16 => ?_)
  obtain ⟨rfl, H16⟩ := p16
  dsimp only [gk_push]
  clear e16 ob16 H15 hk15 b15
  refine gk_if_ne C (tgt := 450) (by omega) dL_pipers_171 (by decide) (fun c_171 => ?_) (fun c_171 => ?_)
  · exact absurd c_171 (by omega)
  refine gk_aload_n C dL_pipers_174 rfl ?_
  refine gk_bipush C dL_pipers_175 (by decide) ?_
  refine gk_iconst C dL_pipers_177 ?_
  refine gk_bipush C dL_pipers_178 (by decide) ?_
  refine gk_iconst C dL_pipers_180 ?_
  refine gk_iconst C dL_pipers_181 ?_
  obtain ⟨σ17, e17, b17, hk17⟩ := chk_c hk16
  refine gk_callSH C o_L_act k_L_100 dL_pipers_182 (act_e hfl H16 (w := 10) (a := (2)) (b := (-96)) (c := (0)) (d := (0)) rfl (by omega) (by omega) (by omega) (by omega) (by omega) (Nat.le_trans b16 (by omega)) e17) rfl rfl ⟨Nat.le_of_ble_eq_true rfl, Nat.le_of_ble_eq_true rfl⟩ ⟨by show _ + 9 ≤ 5000; omega, by show _ + 418 ≤ 200000; omega⟩ (by exact Nat.le_of_ble_eq_true rfl) (fun v17 h17 p17 => ?_)
  obtain ⟨rfl, H17⟩ := p17
  dsimp only [gk_push]
  clear e17 H16 hk16 b16
  refine gk_ldc C cn_L_88 dL_pipers_185 ?_
  refine gk_icmp_ne C (tgt := 450) (by omega) (by omega) dL_pipers_187 (by decide) (fun c_187 => ?_) (fun c_187 => ?_)
  · exact absurd c_187 (by omega)
  refine gk_aload_n C dL_pipers_190 rfl ?_
  refine gk_iconst C dL_pipers_191 ?_
  refine gk_iconst C dL_pipers_192 ?_
  refine gk_iconst C dL_pipers_193 ?_
  obtain ⟨σ18, e18, b18, hk18⟩ := chk_c hk17
  obtain ⟨fs18, ob18⟩ := H17.obj
  refine gk_callV C o_X4_ahead k_L_62 dL_pipers_194 (HC.dir (h_ahead hfl H17 (m := (1)) (r := (2)) (t := (5)) (by omega) (by omega) (by omega)) e18 (by omega)) ob18 rfl rfl rfl ⟨Nat.le_of_ble_eq_true rfl, Nat.le_of_ble_eq_true rfl⟩ ⟨by show _ + 1 ≤ 5000; omega, by show _ + 6 ≤ 200000; omega⟩ (by exact Nat.le_of_ble_eq_true rfl) (fun _ _ z => z.elim) (fun v18 h18 p18 => ?_)
  obtain ⟨rfl, H18⟩ := p18
  dsimp only [gk_push]
  clear e18 ob18 H17 hk17 b17
  refine gk_bipush C dL_pipers_197 (by decide) ?_
  refine gk_icmp_ne C (tgt := 450) (by omega) (by omega) dL_pipers_199 (by decide) (fun c_199 => ?_) (fun c_199 => ?_)
  · exact absurd c_199 (by omega)
  refine gk_aload_n C dL_pipers_202 rfl ?_
  refine gk_iconst C dL_pipers_203 ?_
  refine gk_iconst C dL_pipers_204 ?_
  refine gk_iconst C dL_pipers_205 ?_
  obtain ⟨σ19, e19, b19, hk19⟩ := chk_c hk18
  obtain ⟨fs19, ob19⟩ := H18.obj
  refine gk_callV C o_X4_play k_L_52 dL_pipers_206 (HC.dir (h_play hfl H18 (m := (1)) (r := (2)) (t := (5)) (by omega) (by omega) (by omega)) e19 (by omega)) ob19 rfl rfl rfl ⟨Nat.le_of_ble_eq_true rfl, Nat.le_of_ble_eq_true rfl⟩ ⟨by show _ + 1 ≤ 5000; omega, by show _ + 6 ≤ 200000; omega⟩ (by exact Nat.le_of_ble_eq_true rfl) (fun _ _ z => z.elim) (fun v19 h19 p19 => ?_)
  obtain ⟨rfl, H19⟩ := p19
  dsimp only [gk_push]
  clear e19 ob19 H18 hk18 b18
  refine gk_bipush C dL_pipers_209 (by decide) ?_
  refine gk_icmp_ne C (tgt := 450) (by omega) (by omega) dL_pipers_211 (by decide) (fun c_211 => ?_) (fun c_211 => ?_)
  · exact absurd c_211 (by omega)
  refine gk_aload_n C dL_pipers_214 rfl ?_
  refine gk_iconst C dL_pipers_215 ?_
  refine gk_bipush C dL_pipers_216 (by decide) ?_
  refine gk_bipush C dL_pipers_218 (by decide) ?_
  refine gk_iconst C dL_pipers_220 ?_
  refine gk_iconst C dL_pipers_221 ?_
  refine gk_iconst C dL_pipers_222 ?_
  refine gk_iconst C dL_pipers_223 ?_
  refine gk_callS C o_L_piper k_L_141 dL_pipers_224 (r_piper hfl H19 (by omega) (by omega) (by omega) (by omega) (by omega) (by omega) (by omega) hk19) rfl rfl ⟨Nat.le_of_ble_eq_true rfl, Nat.le_of_ble_eq_true rfl⟩ ⟨by show _ + 12 ≤ 5000; omega, by show _ + 72 ≤ 200000; omega⟩ (by exact Nat.le_of_ble_eq_true rfl) (fun _ _ z => z.elim) (fun v20 h20 p20 => ?_)
  obtain ⟨rfl, σ20, H20, hk20, b20⟩ := p20
  dsimp only [gk_push]
  clear H19 hk19 b19
  refine gk_if_eq C (tgt := 450) (by omega) dL_pipers_227 (by decide) (fun c_227 => ?_) (fun c_227 => ?_)
  · exact absurd c_227 (by omega)
  refine gk_aload_n C dL_pipers_230 rfl ?_
  refine gk_iconst C dL_pipers_231 ?_
  refine gk_bipush C dL_pipers_232 (by decide) ?_
  refine gk_iconst C dL_pipers_234 ?_
  refine gk_iconst C dL_pipers_235 ?_
  refine gk_iconst C dL_pipers_236 ?_
  refine gk_bipush C dL_pipers_237 (by decide) ?_
  refine gk_bipush C dL_pipers_239 (by decide) ?_
  refine gk_callS C o_L_piper k_L_141 dL_pipers_241 (r_piper hfl H20 (by omega) (by omega) (by omega) (by omega) (by omega) (by omega) (by omega) hk20) rfl rfl ⟨Nat.le_of_ble_eq_true rfl, Nat.le_of_ble_eq_true rfl⟩ ⟨by show _ + 12 ≤ 5000; omega, by show _ + 72 ≤ 200000; omega⟩ (by exact Nat.le_of_ble_eq_true rfl) (fun _ _ z => z.elim) (fun v21 h21 p21 => ?_)
  obtain ⟨rfl, σ21, H21, hk21, b21⟩ := p21
  dsimp only [gk_push]
  clear H20 hk20 b20
  refine gk_if_eq C (tgt := 450) (by omega) dL_pipers_244 (by decide) (fun c_244 => ?_) (fun c_244 => ?_)
  · exact absurd c_244 (by omega)
  refine gk_aload_n C dL_pipers_247 rfl ?_
  refine gk_iconst C dL_pipers_248 ?_
  refine gk_bipush C dL_pipers_249 (by decide) ?_
  refine gk_bipush C dL_pipers_251 (by decide) ?_
  refine gk_bipush C dL_pipers_253 (by decide) ?_
  refine gk_iconst C dL_pipers_255 ?_
  refine gk_iconst C dL_pipers_256 ?_
  refine gk_bipush C dL_pipers_257 (by decide) ?_
  refine gk_callS C o_L_piper k_L_141 dL_pipers_259 (r_piper hfl H21 (by omega) (by omega) (by omega) (by omega) (by omega) (by omega) (by omega) hk21) rfl rfl ⟨Nat.le_of_ble_eq_true rfl, Nat.le_of_ble_eq_true rfl⟩ ⟨by show _ + 12 ≤ 5000; omega, by show _ + 72 ≤ 200000; omega⟩ (by exact Nat.le_of_ble_eq_true rfl) (fun _ _ z => z.elim) (fun v22 h22 p22 => ?_)
  obtain ⟨rfl, σ22, H22, hk22, b22⟩ := p22
  dsimp only [gk_push]
  clear H21 hk21 b21
  refine gk_if_eq C (tgt := 450) (by omega) dL_pipers_262 (by decide) (fun c_262 => ?_) (fun c_262 => ?_)
  · exact absurd c_262 (by omega)
  refine gk_aload_n C dL_pipers_265 rfl ?_
  obtain ⟨σ23, e23, b23, hk23⟩ := chk_c hk22
  obtain ⟨fs23, ob23⟩ := H22.obj
  refine gk_callV C o_X4_odd k_L_138 dL_pipers_266 (HC.dir (h_odd hfl H22  ) e23 (by omega)) ob23 rfl rfl rfl ⟨Nat.le_of_ble_eq_true rfl, Nat.le_of_ble_eq_true rfl⟩ ⟨by show _ + 0 ≤ 5000; omega, by show _ + 0 ≤ 200000; omega⟩ (by exact Nat.le_of_ble_eq_true rfl) (fun _ _ z => z.elim) (fun v23 h23 p23 => ?_)
  obtain ⟨rfl, H23⟩ := p23
  dsimp only [gk_push]
  clear e23 ob23 H22 hk22 b22
  refine gk_iconst C dL_pipers_269 ?_
  refine gk_icmp_ne C (tgt := 450) (by omega) (by omega) dL_pipers_270 (by decide) (fun c_270 => ?_) (fun c_270 => ?_)
  · exact absurd c_270 (by omega)
  refine gk_aload_n C dL_pipers_273 rfl ?_
  refine gk_iconst C dL_pipers_274 ?_
  refine gk_iconst C dL_pipers_275 ?_
  obtain ⟨σ24, e24, b24, hk24⟩ := chk_c hk23
  obtain ⟨fs24, ob24⟩ := H23.obj
  refine gk_callV C o_X4_beats k_L_58 dL_pipers_276 (beats_d (h_beats hfl H23 (p := (0)) (q := (1)) (by omega) (by omega)) e24 (by omega)) ob24 rfl rfl rfl ⟨Nat.le_of_ble_eq_true rfl, Nat.le_of_ble_eq_true rfl⟩ ⟨by show _ + 2 ≤ 5000; omega, by show _ + 12 ≤ 200000; omega⟩ (by exact Nat.le_of_ble_eq_true rfl) (fun _ _ z => z.elim) (fun v24 h24 p24 => ?_)
  obtain ⟨rfl, H24⟩ := p24
  dsimp only [gk_push]
  clear e24 ob24 H23 hk23 b23
  refine gk_ldcf C cn_L_143 dL_pipers_279 ?_
  refine gk_fcmp C (z := 0) dL_pipers_281 (by decide +kernel) ?_
  refine gk_if_ne C (tgt := 450) (by omega) dL_pipers_282 (by decide) (fun c_282 => ?_) (fun c_282 => ?_)
  · exact absurd c_282 (by omega)
  refine gk_aload_n C dL_pipers_285 rfl ?_
  refine gk_iconst C dL_pipers_286 ?_
  refine gk_iconst C dL_pipers_287 ?_
  obtain ⟨σ25, e25, b25, hk25⟩ := chk_c hk24
  obtain ⟨fs25, ob25⟩ := H24.obj
  refine gk_callV C o_X4_beats k_L_58 dL_pipers_288 (beats_d (h_beats hfl H24 (p := (1)) (q := (0)) (by omega) (by omega)) e25 (by omega)) ob25 rfl rfl rfl ⟨Nat.le_of_ble_eq_true rfl, Nat.le_of_ble_eq_true rfl⟩ ⟨by show _ + 2 ≤ 5000; omega, by show _ + 12 ≤ 200000; omega⟩ (by exact Nat.le_of_ble_eq_true rfl) (fun _ _ z => z.elim) (fun v25 h25 p25 => ?_)
  obtain ⟨rfl, H25⟩ := p25
  dsimp only [gk_push]
  clear e25 ob25 H24 hk24 b24
  refine gk_ldcf C cn_L_143 dL_pipers_291 ?_
  refine gk_fcmp C (z := 0) dL_pipers_293 (by decide +kernel) ?_
  refine gk_if_ne C (tgt := 450) (by omega) dL_pipers_294 (by decide) (fun c_294 => ?_) (fun c_294 => ?_)
  · exact absurd c_294 (by omega)
  refine gk_aload_n C dL_pipers_297 rfl ?_
  refine gk_iconst C dL_pipers_298 ?_
  refine gk_iconst C dL_pipers_299 ?_
  obtain ⟨σ26, e26, b26, hk26⟩ := chk_c hk25
  obtain ⟨fs26, ob26⟩ := H25.obj
  refine gk_callV C o_X4_beats k_L_58 dL_pipers_300 (beats_d (h_beats hfl H25 (p := (2)) (q := (2)) (by omega) (by omega)) e26 (by omega)) ob26 rfl rfl rfl ⟨Nat.le_of_ble_eq_true rfl, Nat.le_of_ble_eq_true rfl⟩ ⟨by show _ + 2 ≤ 5000; omega, by show _ + 12 ≤ 200000; omega⟩ (by exact Nat.le_of_ble_eq_true rfl) (fun _ _ z => z.elim) (fun v26 h26 p26 => ?_)
  obtain ⟨rfl, H26⟩ := p26
  dsimp only [gk_push]
  clear e26 ob26 H25 hk25 b25
  refine gk_fconst0 C dL_pipers_303 ?_
  refine gk_fcmp C (z := 0) dL_pipers_304 (by decide +kernel) ?_
  refine gk_if_ne C (tgt := 450) (by omega) dL_pipers_305 (by decide) (fun c_305 => ?_) (fun c_305 => ?_)
  · exact absurd c_305 (by omega)
  refine gk_aload_n C dL_pipers_308 rfl ?_
  refine gk_iconst C dL_pipers_309 ?_
  refine gk_iconst C dL_pipers_310 ?_
  obtain ⟨σ27, e27, b27, hk27⟩ := chk_c hk26
  obtain ⟨fs27, ob27⟩ := H26.obj
  refine gk_callV C o_X4_rest k_L_48 dL_pipers_311 (HC.dir (h_rest hfl H26 (p := (1)) (b := (1)) (by omega) (by omega)) e27 (by omega)) ob27 rfl rfl rfl ⟨Nat.le_of_ble_eq_true rfl, Nat.le_of_ble_eq_true rfl⟩ ⟨by show _ + 1 ≤ 5000; omega, by show _ + 6 ≤ 200000; omega⟩ (by exact Nat.le_of_ble_eq_true rfl) (fun _ _ z => z.elim) (fun v27 h27 p27 => ?_)
  obtain ⟨rfl, H27⟩ := p27
  dsimp only [gk_push]
  clear e27 ob27 H26 hk26 b26
  refine gk_if_ne C (tgt := 450) (by omega) dL_pipers_314 (by decide) (fun c_314 => ?_) (fun c_314 => ?_)
  · exact absurd c_314 (by omega)
  refine gk_aload_n C dL_pipers_317 rfl ?_
  refine gk_iconst C dL_pipers_318 ?_
  refine gk_iconst C dL_pipers_319 ?_
  obtain ⟨σ28, e28, b28, hk28⟩ := chk_c hk27
  obtain ⟨fs28, ob28⟩ := H27.obj
  refine gk_callV C o_X4_rest k_L_48 dL_pipers_320 (HC.dir (h_rest hfl H27 (p := (1)) (b := (1)) (by omega) (by omega)) e28 (by omega)) ob28 rfl rfl rfl ⟨Nat.le_of_ble_eq_true rfl, Nat.le_of_ble_eq_true rfl⟩ ⟨by show _ + 1 ≤ 5000; omega, by show _ + 6 ≤ 200000; omega⟩ (by exact Nat.le_of_ble_eq_true rfl) (fun _ _ z => z.elim) (fun v28 h28 p28 => ?_)
  obtain ⟨rfl, H28⟩ := p28
  dsimp only [gk_push]
  clear e28 ob28 H27 hk27 b27
  refine gk_if_eq C (tgt := 450) (by omega) dL_pipers_323 (by decide) (fun c_323 => ?_) (fun c_323 => ?_)
  · exact absurd c_323 (by omega)
  refine gk_aload_n C dL_pipers_326 rfl ?_
  obtain ⟨σ29, e29, b29, hk29⟩ := chk_c hk28
  obtain ⟨fs29, ob29⟩ := H28.obj
  refine gk_callV C o_X4_spread k_L_93 dL_pipers_327 (HC.dir (h_spread hfl H28  ) e29 (by omega)) ob29 rfl rfl rfl ⟨Nat.le_of_ble_eq_true rfl, Nat.le_of_ble_eq_true rfl⟩ ⟨by show _ + 0 ≤ 5000; omega, by show _ + 0 ≤ 200000; omega⟩ (by exact Nat.le_of_ble_eq_true rfl) (fun _ _ z => z.elim) (fun v29 h29 p29 => ?_)
  obtain ⟨rfl, H29⟩ := p29
  dsimp only [gk_push]
  clear e29 ob29 H28 hk28 b28
  refine gk_iconst C dL_pipers_330 ?_
  refine gk_icmp_ne C (tgt := 450) (by omega) (by omega) dL_pipers_331 (by decide) (fun c_331 => ?_) (fun c_331 => ?_)
  · exact absurd c_331 (by omega)
  refine gk_aload_n C dL_pipers_334 rfl ?_
  obtain ⟨σ30, e30, b30, hk30⟩ := chk_c hk29
  obtain ⟨fs30, ob30⟩ := H29.obj
  refine gk_callV C o_X4_odd k_L_138 dL_pipers_335 (HC.dir (h_odd hfl H29  ) e30 (by omega)) ob30 rfl rfl rfl ⟨Nat.le_of_ble_eq_true rfl, Nat.le_of_ble_eq_true rfl⟩ ⟨by show _ + 0 ≤ 5000; omega, by show _ + 0 ≤ 200000; omega⟩ (by exact Nat.le_of_ble_eq_true rfl) (fun _ _ z => z.elim) (fun v30 h30 p30 => ?_)
  obtain ⟨rfl, H30⟩ := p30
  dsimp only [gk_push]
  clear e30 ob30 H29 hk29 b29
  refine gk_if_ne C (tgt := 450) (by omega) dL_pipers_338 (by decide) (fun c_338 => ?_) (fun c_338 => ?_)
  · exact absurd c_338 (by omega)
  refine gk_aload_n C dL_pipers_341 rfl ?_
  refine gk_iconst C dL_pipers_342 ?_
  refine gk_bipush C dL_pipers_343 (by decide) ?_
  refine gk_iconst C dL_pipers_345 ?_
  refine gk_iconst C dL_pipers_346 ?_
  refine gk_iconst C dL_pipers_347 ?_
  refine gk_bipush C dL_pipers_348 (by decide) ?_
  refine gk_bipush C dL_pipers_350 (by decide) ?_
  refine gk_callS C o_L_piper k_L_141 dL_pipers_352 (r_piper hfl H30 (by omega) (by omega) (by omega) (by omega) (by omega) (by omega) (by omega) hk30) rfl rfl ⟨Nat.le_of_ble_eq_true rfl, Nat.le_of_ble_eq_true rfl⟩ ⟨by show _ + 12 ≤ 5000; omega, by show _ + 72 ≤ 200000; omega⟩ (by exact Nat.le_of_ble_eq_true rfl) (fun _ _ z => z.elim) (fun v31 h31 p31 => ?_)
  obtain ⟨rfl, σ31, H31, hk31, b31⟩ := p31
  dsimp only [gk_push]
  clear H30 hk30 b30
  refine gk_if_eq C (tgt := 450) (by omega) dL_pipers_355 (by decide) (fun c_355 => ?_) (fun c_355 => ?_)
  · exact absurd c_355 (by omega)
  refine gk_aload_n C dL_pipers_358 rfl ?_
  refine gk_iconst C dL_pipers_359 ?_
  refine gk_iconst C dL_pipers_360 ?_
  refine gk_iconst C dL_pipers_361 ?_
  obtain ⟨σ32, e32, b32, hk32⟩ := chk_c hk31
  obtain ⟨fs32, ob32⟩ := H31.obj
  refine gk_callV C o_X4_ahead k_L_62 dL_pipers_362 (HC.dir (h_ahead hfl H31 (m := (2)) (r := (0)) (t := (0)) (by omega) (by omega) (by omega)) e32 (by omega)) ob32 rfl rfl rfl ⟨Nat.le_of_ble_eq_true rfl, Nat.le_of_ble_eq_true rfl⟩ ⟨by show _ + 1 ≤ 5000; omega, by show _ + 6 ≤ 200000; omega⟩ (by exact Nat.le_of_ble_eq_true rfl) (fun _ _ z => z.elim) (fun v32 h32 p32 => ?_)
  obtain ⟨rfl, H32⟩ := p32
  dsimp only [gk_push]
  clear e32 ob32 H31 hk31 b31
  refine gk_bipush C dL_pipers_365 (by decide) ?_
  refine gk_icmp_ne C (tgt := 450) (by omega) (by omega) dL_pipers_367 (by decide) (fun c_367 => ?_) (fun c_367 => ?_)
  · exact absurd c_367 (by omega)
  refine gk_aload_n C dL_pipers_370 rfl ?_
  refine gk_iconst C dL_pipers_371 ?_
  refine gk_bipush C dL_pipers_372 (by decide) ?_
  refine gk_bipush C dL_pipers_374 (by decide) ?_
  refine gk_iconst C dL_pipers_376 ?_
  refine gk_iconst C dL_pipers_377 ?_
  refine gk_iconst C dL_pipers_378 ?_
  refine gk_iconst C dL_pipers_379 ?_
  refine gk_callS C o_L_piper k_L_141 dL_pipers_380 (r_piper hfl H32 (by omega) (by omega) (by omega) (by omega) (by omega) (by omega) (by omega) hk32) rfl rfl ⟨Nat.le_of_ble_eq_true rfl, Nat.le_of_ble_eq_true rfl⟩ ⟨by show _ + 12 ≤ 5000; omega, by show _ + 72 ≤ 200000; omega⟩ (by exact Nat.le_of_ble_eq_true rfl) (fun _ _ z => z.elim) (fun v33 h33 p33 => ?_)
  obtain ⟨rfl, σ33, H33, hk33, b33⟩ := p33
  dsimp only [gk_push]
  clear H32 hk32 b32
  refine gk_if_eq C (tgt := 450) (by omega) dL_pipers_383 (by decide) (fun c_383 => ?_) (fun c_383 => ?_)
  · exact absurd c_383 (by omega)
  refine gk_aload_n C dL_pipers_386 rfl ?_
  refine gk_iconst C dL_pipers_387 ?_
  refine gk_iconst C dL_pipers_388 ?_
  refine gk_iconst C dL_pipers_389 ?_
  obtain ⟨σ34, e34, b34, hk34⟩ := chk_c hk33
  obtain ⟨fs34, ob34⟩ := H33.obj
  refine gk_callV C o_X4_play k_L_52 dL_pipers_390 (HC.dir (h_play hfl H33 (m := (2)) (r := (0)) (t := (0)) (by omega) (by omega) (by omega)) e34 (by omega)) ob34 rfl rfl rfl ⟨Nat.le_of_ble_eq_true rfl, Nat.le_of_ble_eq_true rfl⟩ ⟨by show _ + 1 ≤ 5000; omega, by show _ + 6 ≤ 200000; omega⟩ (by exact Nat.le_of_ble_eq_true rfl) (fun _ _ z => z.elim) (fun v34 h34 p34 => ?_)
  obtain ⟨rfl, H34⟩ := p34
  dsimp only [gk_push]
  clear e34 ob34 H33 hk33 b33
  refine gk_bipush C dL_pipers_393 (by decide) ?_
  refine gk_icmp_ne C (tgt := 450) (by omega) (by omega) dL_pipers_395 (by decide) (fun c_395 => ?_) (fun c_395 => ?_)
  · exact absurd c_395 (by omega)
  refine gk_aload_n C dL_pipers_398 rfl ?_
  refine gk_iconst C dL_pipers_399 ?_
  refine gk_bipush C dL_pipers_400 (by decide) ?_
  refine gk_bipush C dL_pipers_402 (by decide) ?_
  refine gk_iconst C dL_pipers_404 ?_
  refine gk_iconst C dL_pipers_405 ?_
  refine gk_bipush C dL_pipers_406 (by decide) ?_
  refine gk_iconst C dL_pipers_408 ?_
  refine gk_callS C o_L_piper k_L_141 dL_pipers_409 (r_piper hfl H34 (by omega) (by omega) (by omega) (by omega) (by omega) (by omega) (by omega) hk34) rfl rfl ⟨Nat.le_of_ble_eq_true rfl, Nat.le_of_ble_eq_true rfl⟩ ⟨by show _ + 12 ≤ 5000; omega, by show _ + 72 ≤ 200000; omega⟩ (by exact Nat.le_of_ble_eq_true rfl) (fun _ _ z => z.elim) (fun v35 h35 p35 => ?_)
  obtain ⟨rfl, σ35, H35, hk35, b35⟩ := p35
  dsimp only [gk_push]
  clear H34 hk34 b34
  refine gk_if_eq C (tgt := 450) (by omega) dL_pipers_412 (by decide) (fun c_412 => ?_) (fun c_412 => ?_)
  · exact absurd c_412 (by omega)
  refine gk_aload_n C dL_pipers_415 rfl ?_
  refine gk_iconst C dL_pipers_416 ?_
  refine gk_bipush C dL_pipers_417 (by decide) ?_
  refine gk_iconst C dL_pipers_419 ?_
  refine gk_iconst C dL_pipers_420 ?_
  refine gk_iconst C dL_pipers_421 ?_
  refine gk_bipush C dL_pipers_422 (by decide) ?_
  refine gk_bipush C dL_pipers_424 (by decide) ?_
  refine gk_callS C o_L_piper k_L_141 dL_pipers_426 (r_piper hfl H35 (by omega) (by omega) (by omega) (by omega) (by omega) (by omega) (by omega) hk35) rfl rfl ⟨Nat.le_of_ble_eq_true rfl, Nat.le_of_ble_eq_true rfl⟩ ⟨by show _ + 12 ≤ 5000; omega, by show _ + 72 ≤ 200000; omega⟩ (by exact Nat.le_of_ble_eq_true rfl) (fun _ _ z => z.elim) (fun v36 h36 p36 => ?_)
  obtain ⟨rfl, σ36, H36, hk36, b36⟩ := p36
  dsimp only [gk_push]
  clear H35 hk35 b35
  refine gk_if_eq C (tgt := 450) (by omega) dL_pipers_429 (by decide) (fun c_429 => ?_) (fun c_429 => ?_)
  · exact absurd c_429 (by omega)
  refine gk_aload_n C dL_pipers_432 rfl ?_
  refine gk_iconst C dL_pipers_433 ?_
  refine gk_bipush C dL_pipers_434 (by decide) ?_
  refine gk_bipush C dL_pipers_436 (by decide) ?_
  refine gk_bipush C dL_pipers_438 (by decide) ?_
  refine gk_iconst C dL_pipers_440 ?_
  refine gk_iconst C dL_pipers_441 ?_
  refine gk_bipush C dL_pipers_442 (by decide) ?_
  refine gk_callS C o_L_piper k_L_141 dL_pipers_444 (r_piper hfl H36 (by omega) (by omega) (by omega) (by omega) (by omega) (by omega) (by omega) hk36) rfl rfl ⟨Nat.le_of_ble_eq_true rfl, Nat.le_of_ble_eq_true rfl⟩ ⟨by show _ + 12 ≤ 5000; omega, by show _ + 72 ≤ 200000; omega⟩ (by exact Nat.le_of_ble_eq_true rfl) (fun _ _ z => z.elim) (fun v37 h37 p37 => ?_)
  obtain ⟨rfl, σ37, H37, hk37, b37⟩ := p37
  dsimp only [gk_push]
  clear H36 hk36 b36
  refine gk_if_ne C (tgt := 452) (by omega) dL_pipers_447 (by decide) (fun c_447 => ?_) (fun c_447 => ?_)
  rotate_left
  · exact absurd c_447 (by omega)
  refine gk_aload_n C dL_pipers_452 rfl ?_
  refine gk_bipush C dL_pipers_453 (by decide) ?_
  refine gk_bipush C dL_pipers_455 (by decide) ?_
  refine gk_bipush C dL_pipers_457 (by decide) ?_
  obtain ⟨σ38, e38, b38, hk38⟩ := chk_c hk37
  obtain ⟨fs38, ob38⟩ := H37.obj
  refine gk_callV C o_X4_piper k_L_42 dL_pipers_459 (HC.dir (h_piper hfl H37 (a := (-99)) (b := (10)) (e := (9)) (by omega) (by omega) (by omega)) e38 (by omega)) ob38 rfl rfl rfl ⟨Nat.le_of_ble_eq_true rfl, Nat.le_of_ble_eq_true rfl⟩ ⟨by show _ + 4 ≤ 5000; omega, by show _ + 29 ≤ 200000; omega⟩ (by exact Nat.le_of_ble_eq_true rfl) (fun _ _ z => z.elim) (fun v38 h38 p38 => ?_)
  obtain ⟨rfl, H38⟩ := p38
  dsimp only [gk_push]
  clear e38 ob38 H37 hk37 b37
  refine gk_iconst C dL_pipers_462 ?_
  refine gk_icmp_ne C (tgt := 586) (by omega) (by omega) dL_pipers_463 (by decide) (fun c_463 => ?_) (fun c_463 => ?_)
  · exact absurd c_463 (by omega)
  refine gk_aload_n C dL_pipers_466 rfl ?_
  refine gk_bipush C dL_pipers_467 (by decide) ?_
  refine gk_iconst C dL_pipers_469 ?_
  refine gk_iconst C dL_pipers_470 ?_
  obtain ⟨σ39, e39, b39, hk39⟩ := chk_c hk38
  obtain ⟨fs39, ob39⟩ := H38.obj
  refine gk_callV C o_X4_play k_L_52 dL_pipers_471 (HC.dir (h_play hfl H38 (m := (11)) (r := (0)) (t := (0)) (by omega) (by omega) (by omega)) e39 (by omega)) ob39 rfl rfl rfl ⟨Nat.le_of_ble_eq_true rfl, Nat.le_of_ble_eq_true rfl⟩ ⟨by show _ + 1 ≤ 5000; omega, by show _ + 6 ≤ 200000; omega⟩ (by exact Nat.le_of_ble_eq_true rfl) (fun _ _ z => z.elim) (fun v39 h39 p39 => ?_)
  obtain ⟨rfl, H39⟩ := p39
  dsimp only [gk_push]
  clear e39 ob39 H38 hk38 b38
  refine gk_sipush C dL_pipers_474 (by decide) ?_
  refine gk_icmp_ne C (tgt := 586) (by omega) (by omega) dL_pipers_477 (by decide) (fun c_477 => ?_) (fun c_477 => ?_)
  · exact absurd c_477 (by omega)
  refine gk_aload_n C dL_pipers_480 rfl ?_
  refine gk_iconst C dL_pipers_481 ?_
  refine gk_sipush C dL_pipers_482 (by decide) ?_
  refine gk_bipush C dL_pipers_485 (by decide) ?_
  refine gk_iconst C dL_pipers_487 ?_
  refine gk_iconst C dL_pipers_488 ?_
  refine gk_bipush C dL_pipers_489 (by decide) ?_
  refine gk_sipush C dL_pipers_491 (by decide) ?_
  refine gk_callS C o_L_piper k_L_141 dL_pipers_494 (r_piper hfl H39 (by omega) (by omega) (by omega) (by omega) (by omega) (by omega) (by omega) hk39) rfl rfl ⟨Nat.le_of_ble_eq_true rfl, Nat.le_of_ble_eq_true rfl⟩ ⟨by show _ + 12 ≤ 5000; omega, by show _ + 72 ≤ 200000; omega⟩ (by exact Nat.le_of_ble_eq_true rfl) (fun _ _ z => z.elim) (fun v40 h40 p40 => ?_)
  obtain ⟨rfl, σ40, H40, hk40, b40⟩ := p40
  dsimp only [gk_push]
  clear H39 hk39 b39
  refine gk_if_eq C (tgt := 586) (by omega) dL_pipers_497 (by decide) (fun c_497 => ?_) (fun c_497 => ?_)
  · exact absurd c_497 (by omega)
  refine gk_aload_n C dL_pipers_500 rfl ?_
  refine gk_iconst C dL_pipers_501 ?_
  refine gk_iconst C dL_pipers_502 ?_
  obtain ⟨σ41, e41, b41, hk41⟩ := chk_c hk40
  obtain ⟨fs41, ob41⟩ := H40.obj
  refine gk_callV C o_X4_ofPiper k_L_55 dL_pipers_503 (HC.dir (h_ofPiper hfl H40 (p := (0)) (w := (4)) (by omega) (by omega)) e41 (by omega)) ob41 rfl rfl rfl ⟨Nat.le_of_ble_eq_true rfl, Nat.le_of_ble_eq_true rfl⟩ ⟨by show _ + 2 ≤ 5000; omega, by show _ + 12 ≤ 200000; omega⟩ (by exact Nat.le_of_ble_eq_true rfl) (fun _ _ z => z.elim) (fun v41 h41 p41 => ?_)
  obtain ⟨rfl, H41⟩ := p41
  dsimp only [gk_push]
  clear e41 ob41 H40 hk40 b40
  refine gk_bipush C dL_pipers_506 (by decide) ?_
  refine gk_icmp_ne C (tgt := 586) (by omega) (by omega) dL_pipers_508 (by decide) (fun c_508 => ?_) (fun c_508 => ?_)
  · exact absurd c_508 (by omega)
  refine gk_aload_n C dL_pipers_511 rfl ?_
  refine gk_iconst C dL_pipers_512 ?_
  refine gk_iconst C dL_pipers_513 ?_
  obtain ⟨σ42, e42, b42, hk42⟩ := chk_c hk41
  obtain ⟨fs42, ob42⟩ := H41.obj
  refine gk_callV C o_X4_ofPiper k_L_55 dL_pipers_514 (HC.dir (h_ofPiper hfl H41 (p := (1)) (w := (4)) (by omega) (by omega)) e42 (by omega)) ob42 rfl rfl rfl ⟨Nat.le_of_ble_eq_true rfl, Nat.le_of_ble_eq_true rfl⟩ ⟨by show _ + 2 ≤ 5000; omega, by show _ + 12 ≤ 200000; omega⟩ (by exact Nat.le_of_ble_eq_true rfl) (fun _ _ z => z.elim) (fun v42 h42 p42 => ?_)
  obtain ⟨rfl, H42⟩ := p42
  dsimp only [gk_push]
  clear e42 ob42 H41 hk41 b41
  refine gk_if_ne C (tgt := 586) (by omega) dL_pipers_517 (by decide) (fun c_517 => ?_) (fun c_517 => ?_)
  · exact absurd c_517 (by omega)
  refine gk_aload_n C dL_pipers_520 rfl ?_
  refine gk_iconst C dL_pipers_521 ?_
  refine gk_iconst C dL_pipers_522 ?_
  refine gk_iconst C dL_pipers_523 ?_
  obtain ⟨σ43, e43, b43, hk43⟩ := chk_c hk42
  obtain ⟨fs43, ob43⟩ := H42.obj
  refine gk_callV C o_X4_play k_L_52 dL_pipers_524 (HC.dir (h_play hfl H42 (m := (1)) (r := (0)) (t := (0)) (by omega) (by omega) (by omega)) e43 (by omega)) ob43 rfl rfl rfl ⟨Nat.le_of_ble_eq_true rfl, Nat.le_of_ble_eq_true rfl⟩ ⟨by show _ + 1 ≤ 5000; omega, by show _ + 6 ≤ 200000; omega⟩ (by exact Nat.le_of_ble_eq_true rfl) (fun _ _ z => z.elim) (fun v43 h43 p43 => ?_)
  obtain ⟨rfl, H43⟩ := p43
  dsimp only [gk_push]
  clear e43 ob43 H42 hk42 b42
  refine gk_sipush C dL_pipers_527 (by decide) ?_
  refine gk_icmp_ne C (tgt := 586) (by omega) (by omega) dL_pipers_530 (by decide) (fun c_530 => ?_) (fun c_530 => ?_)
  · exact absurd c_530 (by omega)
  refine gk_aload_n C dL_pipers_533 rfl ?_
  refine gk_iconst C dL_pipers_534 ?_
  refine gk_sipush C dL_pipers_535 (by decide) ?_
  refine gk_bipush C dL_pipers_538 (by decide) ?_
  refine gk_iconst C dL_pipers_540 ?_
  refine gk_iconst C dL_pipers_541 ?_
  refine gk_bipush C dL_pipers_542 (by decide) ?_
  refine gk_sipush C dL_pipers_544 (by decide) ?_
  refine gk_callS C o_L_piper k_L_141 dL_pipers_547 (r_piper hfl H43 (by omega) (by omega) (by omega) (by omega) (by omega) (by omega) (by omega) hk43) rfl rfl ⟨Nat.le_of_ble_eq_true rfl, Nat.le_of_ble_eq_true rfl⟩ ⟨by show _ + 12 ≤ 5000; omega, by show _ + 72 ≤ 200000; omega⟩ (by exact Nat.le_of_ble_eq_true rfl) (fun _ _ z => z.elim) (fun v44 h44 p44 => ?_)
  obtain ⟨rfl, σ44, H44, hk44, b44⟩ := p44
  dsimp only [gk_push]
  clear H43 hk43 b43
  refine gk_if_eq C (tgt := 586) (by omega) dL_pipers_550 (by decide) (fun c_550 => ?_) (fun c_550 => ?_)
  · exact absurd c_550 (by omega)
  refine gk_aload_n C dL_pipers_553 rfl ?_
  refine gk_iconst C dL_pipers_554 ?_
  refine gk_iconst C dL_pipers_555 ?_
  refine gk_iconst C dL_pipers_556 ?_
  obtain ⟨σ45, e45, b45, hk45⟩ := chk_c hk44
  obtain ⟨fs45, ob45⟩ := H44.obj
  refine gk_callV C o_X4_play k_L_52 dL_pipers_557 (HC.dir (h_play hfl H44 (m := (1)) (r := (0)) (t := (0)) (by omega) (by omega) (by omega)) e45 (by omega)) ob45 rfl rfl rfl ⟨Nat.le_of_ble_eq_true rfl, Nat.le_of_ble_eq_true rfl⟩ ⟨by show _ + 1 ≤ 5000; omega, by show _ + 6 ≤ 200000; omega⟩ (by exact Nat.le_of_ble_eq_true rfl) (fun _ _ z => z.elim) (fun v45 h45 p45 => ?_)
  obtain ⟨rfl, H45⟩ := p45
  dsimp only [gk_push]
  clear e45 ob45 H44 hk44 b44
  refine gk_sipush C dL_pipers_560 (by decide) ?_
  refine gk_icmp_ne C (tgt := 586) (by omega) (by omega) dL_pipers_563 (by decide) (fun c_563 => ?_) (fun c_563 => ?_)
  · exact absurd c_563 (by omega)
  refine gk_aload_n C dL_pipers_566 rfl ?_
  refine gk_iconst C dL_pipers_567 ?_
  refine gk_sipush C dL_pipers_568 (by decide) ?_
  refine gk_bipush C dL_pipers_571 (by decide) ?_
  refine gk_iconst C dL_pipers_573 ?_
  refine gk_iconst C dL_pipers_574 ?_
  refine gk_bipush C dL_pipers_575 (by decide) ?_
  refine gk_sipush C dL_pipers_577 (by decide) ?_
  refine gk_callS C o_L_piper k_L_141 dL_pipers_580 (r_piper hfl H45 (by omega) (by omega) (by omega) (by omega) (by omega) (by omega) (by omega) hk45) rfl rfl ⟨Nat.le_of_ble_eq_true rfl, Nat.le_of_ble_eq_true rfl⟩ ⟨by show _ + 12 ≤ 5000; omega, by show _ + 72 ≤ 200000; omega⟩ (by exact Nat.le_of_ble_eq_true rfl) (fun _ _ z => z.elim) (fun v46 h46 p46 => ?_)
  obtain ⟨rfl, σ46, H46, hk46, b46⟩ := p46
  dsimp only [gk_push]
  clear H45 hk45 b45
  refine gk_if_ne C (tgt := 588) (by omega) dL_pipers_583 (by decide) (fun c_583 => ?_) (fun c_583 => ?_)
  rotate_left
  · exact absurd c_583 (by omega)
  refine gk_iconst C dL_pipers_588 ?_
  refine gk_istore_n_1 C rfl (by exact Nat.le_of_ble_eq_true rfl) dL_pipers_589 ?_
  refine gk_iload_n C dL_pipers_590 rfl ?_
  refine gk_iconst C dL_pipers_591 ?_
  refine gk_icmp_ge C (tgt := 622) (by omega) (by omega) dL_pipers_592 (by decide) (fun c_592 => ?_) (fun c_592 => ?_)
  · exact absurd c_592 (by omega)
  refine gk_aload_n C dL_pipers_595 rfl ?_
  refine gk_iload_n C dL_pipers_596 rfl ?_
  refine gk_iconst C dL_pipers_597 ?_
  obtain ⟨σ47, e47, b47, hk47⟩ := chk_c hk46
  obtain ⟨fs47, ob47⟩ := H46.obj
  refine gk_callV C o_X4_rest k_L_48 dL_pipers_598 (HC.dir (h_rest hfl H46 (p := (0)) (b := (1)) (by omega) (by omega)) e47 (by omega)) ob47 rfl rfl rfl ⟨Nat.le_of_ble_eq_true rfl, Nat.le_of_ble_eq_true rfl⟩ ⟨by show _ + 1 ≤ 5000; omega, by show _ + 6 ≤ 200000; omega⟩ (by exact Nat.le_of_ble_eq_true rfl) (fun _ _ z => z.elim) (fun v47 h47 p47 => ?_)
  obtain ⟨rfl, H47⟩ := p47
  dsimp only [gk_push]
  clear e47 ob47 H46 hk46 b46
  refine gk_iload_n C dL_pipers_601 rfl ?_
  refine gk_iconst C dL_pipers_602 ?_
  refine gk_icmp_ne C (tgt := 610) (by omega) (by omega) dL_pipers_603 (by decide) (fun c_603 => ?_) (fun c_603 => ?_)
  rotate_left
  · exact absurd c_603 (by omega)
  refine gk_iconst C dL_pipers_610 ?_
  refine gk_icmp_eq C (tgt := 616) (by omega) (by omega) dL_pipers_611 (by decide) (fun c_611 => ?_) (fun c_611 => ?_)
  rotate_left
  · exact absurd c_611 (by omega)
  refine gk_iinc_1 C rfl (by exact Nat.le_of_ble_eq_true rfl) dL_pipers_616 ?_
  rw [show ((0 : Int) + 1) = 1 by decide]
  refine gk_goto C (tgt := 590) dL_pipers_619 (by decide) ?_
  refine gk_iload_n C dL_pipers_590 rfl ?_
  refine gk_iconst C dL_pipers_591 ?_
  refine gk_icmp_ge C (tgt := 622) (by omega) (by omega) dL_pipers_592 (by decide) (fun c_592 => ?_) (fun c_592 => ?_)
  · exact absurd c_592 (by omega)
  refine gk_aload_n C dL_pipers_595 rfl ?_
  refine gk_iload_n C dL_pipers_596 rfl ?_
  refine gk_iconst C dL_pipers_597 ?_
  obtain ⟨σ48, e48, b48, hk48⟩ := chk_c hk47
  obtain ⟨fs48, ob48⟩ := H47.obj
  refine gk_callV C o_X4_rest k_L_48 dL_pipers_598 (HC.dir (h_rest hfl H47 (p := (1)) (b := (1)) (by omega) (by omega)) e48 (by omega)) ob48 rfl rfl rfl ⟨Nat.le_of_ble_eq_true rfl, Nat.le_of_ble_eq_true rfl⟩ ⟨by show _ + 1 ≤ 5000; omega, by show _ + 6 ≤ 200000; omega⟩ (by exact Nat.le_of_ble_eq_true rfl) (fun _ _ z => z.elim) (fun v48 h48 p48 => ?_)
  obtain ⟨rfl, H48⟩ := p48
  dsimp only [gk_push]
  clear e48 ob48 H47 hk47 b47
  refine gk_iload_n C dL_pipers_601 rfl ?_
  refine gk_iconst C dL_pipers_602 ?_
  refine gk_icmp_ne C (tgt := 610) (by omega) (by omega) dL_pipers_603 (by decide) (fun c_603 => ?_) (fun c_603 => ?_)
  · exact absurd c_603 (by omega)
  refine gk_iconst C dL_pipers_606 ?_
  refine gk_goto C (tgt := 611) dL_pipers_607 (by decide) ?_
  refine gk_icmp_eq C (tgt := 616) (by omega) (by omega) dL_pipers_611 (by decide) (fun c_611 => ?_) (fun c_611 => ?_)
  rotate_left
  · exact absurd c_611 (by omega)
  refine gk_iinc_1 C rfl (by exact Nat.le_of_ble_eq_true rfl) dL_pipers_616 ?_
  rw [show ((1 : Int) + 1) = 2 by decide]
  refine gk_goto C (tgt := 590) dL_pipers_619 (by decide) ?_
  refine gk_iload_n C dL_pipers_590 rfl ?_
  refine gk_iconst C dL_pipers_591 ?_
  refine gk_icmp_ge C (tgt := 622) (by omega) (by omega) dL_pipers_592 (by decide) (fun c_592 => ?_) (fun c_592 => ?_)
  · exact absurd c_592 (by omega)
  refine gk_aload_n C dL_pipers_595 rfl ?_
  refine gk_iload_n C dL_pipers_596 rfl ?_
  refine gk_iconst C dL_pipers_597 ?_
  obtain ⟨σ49, e49, b49, hk49⟩ := chk_c hk48
  obtain ⟨fs49, ob49⟩ := H48.obj
  refine gk_callV C o_X4_rest k_L_48 dL_pipers_598 (HC.dir (h_rest hfl H48 (p := (2)) (b := (1)) (by omega) (by omega)) e49 (by omega)) ob49 rfl rfl rfl ⟨Nat.le_of_ble_eq_true rfl, Nat.le_of_ble_eq_true rfl⟩ ⟨by show _ + 1 ≤ 5000; omega, by show _ + 6 ≤ 200000; omega⟩ (by exact Nat.le_of_ble_eq_true rfl) (fun _ _ z => z.elim) (fun v49 h49 p49 => ?_)
  obtain ⟨rfl, H49⟩ := p49
  dsimp only [gk_push]
  clear e49 ob49 H48 hk48 b48
  refine gk_iload_n C dL_pipers_601 rfl ?_
  refine gk_iconst C dL_pipers_602 ?_
  refine gk_icmp_ne C (tgt := 610) (by omega) (by omega) dL_pipers_603 (by decide) (fun c_603 => ?_) (fun c_603 => ?_)
  rotate_left
  · exact absurd c_603 (by omega)
  refine gk_iconst C dL_pipers_610 ?_
  refine gk_icmp_eq C (tgt := 616) (by omega) (by omega) dL_pipers_611 (by decide) (fun c_611 => ?_) (fun c_611 => ?_)
  rotate_left
  · exact absurd c_611 (by omega)
  refine gk_iinc_1 C rfl (by exact Nat.le_of_ble_eq_true rfl) dL_pipers_616 ?_
  rw [show ((2 : Int) + 1) = 3 by decide]
  refine gk_goto C (tgt := 590) dL_pipers_619 (by decide) ?_
  refine gk_iload_n C dL_pipers_590 rfl ?_
  refine gk_iconst C dL_pipers_591 ?_
  refine gk_icmp_ge C (tgt := 622) (by omega) (by omega) dL_pipers_592 (by decide) (fun c_592 => ?_) (fun c_592 => ?_)
  · exact absurd c_592 (by omega)
  refine gk_aload_n C dL_pipers_595 rfl ?_
  refine gk_iload_n C dL_pipers_596 rfl ?_
  refine gk_iconst C dL_pipers_597 ?_
  obtain ⟨σ50, e50, b50, hk50⟩ := chk_c hk49
  obtain ⟨fs50, ob50⟩ := H49.obj
  refine gk_callV C o_X4_rest k_L_48 dL_pipers_598 (HC.dir (h_rest hfl H49 (p := (3)) (b := (1)) (by omega) (by omega)) e50 (by omega)) ob50 rfl rfl rfl ⟨Nat.le_of_ble_eq_true rfl, Nat.le_of_ble_eq_true rfl⟩ ⟨by show _ + 1 ≤ 5000; omega, by show _ + 6 ≤ 200000; omega⟩ (by exact Nat.le_of_ble_eq_true rfl) (fun _ _ z => z.elim) (fun v50 h50 p50 => ?_)
  obtain ⟨rfl, H50⟩ := p50
  dsimp only [gk_push]
  clear e50 ob50 H49 hk49 b49
  refine gk_iload_n C dL_pipers_601 rfl ?_
  refine gk_iconst C dL_pipers_602 ?_
  refine gk_icmp_ne C (tgt := 610) (by omega) (by omega) dL_pipers_603 (by decide) (fun c_603 => ?_) (fun c_603 => ?_)
  rotate_left
  · exact absurd c_603 (by omega)
  refine gk_iconst C dL_pipers_610 ?_
  refine gk_icmp_eq C (tgt := 616) (by omega) (by omega) dL_pipers_611 (by decide) (fun c_611 => ?_) (fun c_611 => ?_)
  rotate_left
  · exact absurd c_611 (by omega)
  refine gk_iinc_1 C rfl (by exact Nat.le_of_ble_eq_true rfl) dL_pipers_616 ?_
  rw [show ((3 : Int) + 1) = 4 by decide]
  refine gk_goto C (tgt := 590) dL_pipers_619 (by decide) ?_
  refine gk_iload_n C dL_pipers_590 rfl ?_
  refine gk_iconst C dL_pipers_591 ?_
  refine gk_icmp_ge C (tgt := 622) (by omega) (by omega) dL_pipers_592 (by decide) (fun c_592 => ?_) (fun c_592 => ?_)
  rotate_left
  · exact absurd c_592 (by omega)
  refine gk_aload_n C dL_pipers_622 rfl ?_
  obtain ⟨σ51, e51, b51, hk51⟩ := chk_c hk50
  obtain ⟨fs51, ob51⟩ := H50.obj
  refine gk_callV C o_X4_spread k_L_93 dL_pipers_623 (HC.dir (h_spread hfl H50  ) e51 (by omega)) ob51 rfl rfl rfl ⟨Nat.le_of_ble_eq_true rfl, Nat.le_of_ble_eq_true rfl⟩ ⟨by show _ + 0 ≤ 5000; omega, by show _ + 0 ≤ 200000; omega⟩ (by exact Nat.le_of_ble_eq_true rfl) (fun _ _ z => z.elim) (fun v51 h51 p51 => ?_)
  obtain ⟨rfl, H51⟩ := p51
  dsimp only [gk_push]
  clear e51 ob51 H50 hk50 b50
  refine gk_if_ne C (tgt := 700) (by omega) dL_pipers_626 (by decide) (fun c_626 => ?_) (fun c_626 => ?_)
  · exact absurd c_626 (by omega)
  refine gk_aload_n C dL_pipers_629 rfl ?_
  obtain ⟨σ52, e52, b52, hk52⟩ := chk_c hk51
  obtain ⟨fs52, ob52⟩ := H51.obj
  refine gk_callV C o_X4_odd k_L_138 dL_pipers_630 (HC.dir (h_odd hfl H51  ) e52 (by omega)) ob52 rfl rfl rfl ⟨Nat.le_of_ble_eq_true rfl, Nat.le_of_ble_eq_true rfl⟩ ⟨by show _ + 0 ≤ 5000; omega, by show _ + 0 ≤ 200000; omega⟩ (by exact Nat.le_of_ble_eq_true rfl) (fun _ _ z => z.elim) (fun v52 h52 p52 => ?_)
  obtain ⟨rfl, H52⟩ := p52
  dsimp only [gk_push]
  clear e52 ob52 H51 hk51 b51
  refine gk_iconst C dL_pipers_633 ?_
  refine gk_icmp_ne C (tgt := 700) (by omega) (by omega) dL_pipers_634 (by decide) (fun c_634 => ?_) (fun c_634 => ?_)
  · exact absurd c_634 (by omega)
  refine gk_aload_n C dL_pipers_637 rfl ?_
  refine gk_iconst C dL_pipers_638 ?_
  refine gk_iconst C dL_pipers_639 ?_
  obtain ⟨σ53, e53, b53, hk53⟩ := chk_c hk52
  obtain ⟨fs53, ob53⟩ := H52.obj
  refine gk_callV C o_X4_ofPiper k_L_55 dL_pipers_640 (HC.dir (h_ofPiper hfl H52 (p := (3)) (w := (5)) (by omega) (by omega)) e53 (by omega)) ob53 rfl rfl rfl ⟨Nat.le_of_ble_eq_true rfl, Nat.le_of_ble_eq_true rfl⟩ ⟨by show _ + 2 ≤ 5000; omega, by show _ + 12 ≤ 200000; omega⟩ (by exact Nat.le_of_ble_eq_true rfl) (fun _ _ z => z.elim) (fun v53 h53 p53 => ?_)
  obtain ⟨rfl, H53⟩ := p53
  dsimp only [gk_push]
  clear e53 ob53 H52 hk52 b52
  refine gk_if_ne C (tgt := 700) (by omega) dL_pipers_643 (by decide) (fun c_643 => ?_) (fun c_643 => ?_)
  · exact absurd c_643 (by omega)
  refine gk_aload_n C dL_pipers_646 rfl ?_
  refine gk_iconst C dL_pipers_647 ?_
  refine gk_bipush C dL_pipers_648 (by decide) ?_
  refine gk_bipush C dL_pipers_650 (by decide) ?_
  obtain ⟨σ54, e54, b54, hk54⟩ := chk_c hk53
  obtain ⟨fs54, ob54⟩ := H53.obj
  refine gk_callV C o_X4_play k_L_52 dL_pipers_652 (HC.dir (h_play hfl H53 (m := (3)) (r := (9)) (t := (40)) (by omega) (by omega) (by omega)) e54 (by omega)) ob54 rfl rfl rfl ⟨Nat.le_of_ble_eq_true rfl, Nat.le_of_ble_eq_true rfl⟩ ⟨by show _ + 1 ≤ 5000; omega, by show _ + 6 ≤ 200000; omega⟩ (by exact Nat.le_of_ble_eq_true rfl) (fun _ _ z => z.elim) (fun v54 h54 p54 => ?_)
  obtain ⟨rfl, H54⟩ := p54
  dsimp only [gk_push]
  clear e54 ob54 H53 hk53 b53
  refine gk_if_ne C (tgt := 700) (by omega) dL_pipers_655 (by decide) (fun c_655 => ?_) (fun c_655 => ?_)
  · exact absurd c_655 (by omega)
  refine gk_aload_n C dL_pipers_658 rfl ?_
  refine gk_iconst C dL_pipers_659 ?_
  refine gk_iconst C dL_pipers_660 ?_
  obtain ⟨σ55, e55, b55, hk55⟩ := chk_c hk54
  obtain ⟨fs55, ob55⟩ := H54.obj
  refine gk_callV C o_X4_ofPiper k_L_55 dL_pipers_661 (HC.dir (h_ofPiper hfl H54 (p := (3)) (w := (4)) (by omega) (by omega)) e55 (by omega)) ob55 rfl rfl rfl ⟨Nat.le_of_ble_eq_true rfl, Nat.le_of_ble_eq_true rfl⟩ ⟨by show _ + 2 ≤ 5000; omega, by show _ + 12 ≤ 200000; omega⟩ (by exact Nat.le_of_ble_eq_true rfl) (fun _ _ z => z.elim) (fun v55 h55 p55 => ?_)
  obtain ⟨rfl, H55⟩ := p55
  dsimp only [gk_push]
  clear e55 ob55 H54 hk54 b54
  refine gk_bipush C dL_pipers_664 (by decide) ?_
  refine gk_icmp_ne C (tgt := 700) (by omega) (by omega) dL_pipers_666 (by decide) (fun c_666 => ?_) (fun c_666 => ?_)
  · exact absurd c_666 (by omega)
  refine gk_aload_n C dL_pipers_669 rfl ?_
  refine gk_iconst C dL_pipers_670 ?_
  refine gk_iconst C dL_pipers_671 ?_
  obtain ⟨σ56, e56, b56, hk56⟩ := chk_c hk55
  obtain ⟨fs56, ob56⟩ := H55.obj
  refine gk_callV C o_X4_ofPiper k_L_55 dL_pipers_672 (HC.dir (h_ofPiper hfl H55 (p := (3)) (w := (1)) (by omega) (by omega)) e56 (by omega)) ob56 rfl rfl rfl ⟨Nat.le_of_ble_eq_true rfl, Nat.le_of_ble_eq_true rfl⟩ ⟨by show _ + 2 ≤ 5000; omega, by show _ + 12 ≤ 200000; omega⟩ (by exact Nat.le_of_ble_eq_true rfl) (fun _ _ z => z.elim) (fun v56 h56 p56 => ?_)
  obtain ⟨rfl, H56⟩ := p56
  dsimp only [gk_push]
  clear e56 ob56 H55 hk55 b55
  refine gk_bipush C dL_pipers_675 (by decide) ?_
  refine gk_icmp_ne C (tgt := 700) (by omega) (by omega) dL_pipers_677 (by decide) (fun c_677 => ?_) (fun c_677 => ?_)
  · exact absurd c_677 (by omega)
  refine gk_aload_n C dL_pipers_680 rfl ?_
  refine gk_iconst C dL_pipers_681 ?_
  refine gk_iconst C dL_pipers_682 ?_
  obtain ⟨σ57, e57, b57, hk57⟩ := chk_c hk56
  obtain ⟨fs57, ob57⟩ := H56.obj
  refine gk_callV C o_X4_ofPiper k_L_55 dL_pipers_683 (HC.dir (h_ofPiper hfl H56 (p := (3)) (w := (3)) (by omega) (by omega)) e57 (by omega)) ob57 rfl rfl rfl ⟨Nat.le_of_ble_eq_true rfl, Nat.le_of_ble_eq_true rfl⟩ ⟨by show _ + 2 ≤ 5000; omega, by show _ + 12 ≤ 200000; omega⟩ (by exact Nat.le_of_ble_eq_true rfl) (fun _ _ z => z.elim) (fun v57 h57 p57 => ?_)
  obtain ⟨rfl, H57⟩ := p57
  dsimp only [gk_push]
  clear e57 ob57 H56 hk56 b56
  refine gk_if_ne C (tgt := 700) (by omega) dL_pipers_686 (by decide) (fun c_686 => ?_) (fun c_686 => ?_)
  · exact absurd c_686 (by omega)
  refine gk_aload_n C dL_pipers_689 rfl ?_
  refine gk_callS C o_L_full k_L_144 dL_pipers_690 (r_full hfl H57 hk57 b57) rfl rfl ⟨Nat.le_of_ble_eq_true rfl, Nat.le_of_ble_eq_true rfl⟩ ⟨by show _ + 1800 ≤ 5000; omega, by show _ + 80000 ≤ 200000; omega⟩ (by exact Nat.le_of_ble_eq_true rfl) (fun _ _ z => z.elim) (fun v58 h58 p58 => ?_)
  subst p58
  dsimp only [gk_push]
  refine gk_if_eq C (tgt := 700) (by omega) dL_pipers_693 (by decide) (fun c_693 => ?_) (fun c_693 => ?_)
  · exact absurd c_693 (by omega)
  refine gk_iconst C dL_pipers_696 ?_
  refine gk_goto C (tgt := 701) dL_pipers_697 (by decide) ?_
  refine (R _ _ _ _ _ (Nat.le_of_ble_eq_true rfl) (Nat.le_of_ble_eq_true rfl)).2.1 _ rfl (by omega) dL_pipers_701 ?_
  rfl
