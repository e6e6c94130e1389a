/-! a run by hand: tunes -/
def ca_tunes : List CA := [(26, (0), (0), (0), (0), (0)), (27, (0), (0), (0), (0), (0)), (28, (0), (0), (0), (0), (0)), (8, (0), (0), (0), (0), (-7000003)), (0, (0), (0), (0), (0), (0)), (2, (0), (0), (0), (0), (-7000003)), (1, (0), (4), (4), (7), (1)), (1, (0), (4), (4), (0), (-7000003)), (1, (0), (4), (4), (1), (-7000003)), (2, (0), (0), (0), (0), (-7000003)), (1, (0), (4), (4), (2), (2)), (1, (0), (1), (5), (8), (3)), (1, (0), (0), (4), (0), (-7000003)), (1, (0), (0), (3), (0), (4)), (4, (0), (0), (0), (0), (0)), (4, (0), (1), (0), (0), (0)), (4, (0), (2), (0), (0), (0)), (4, (0), (3), (0), (0), (0)), (4, (0), (4), (0), (0), (0)), (4, (0), (5), (0), (0), (0)), (4, (0), (6), (0), (0), (4)), (2, (0), (1), (0), (0), (2)), (2, (0), (1), (0), (0), (-7000003)), (1, (0), (0), (8), (0), (-7000003)), (1, (0), (0), (8), (6), (-7000003)), (1, (0), (0), (8), (1), (5)), (4, (0), (0), (0), (0), (0)), (4, (0), (1), (0), (0), (8)), (4, (0), (2), (0), (0), (32)), (4, (0), (3), (0), (0), (0)), (4, (0), (4), (0), (0), (16)), (4, (0), (5), (0), (0), (1)), (4, (0), (6), (0), (0), (1)), (2, (0), (0), (0), (0), (1)), (4, (0), (0), (0), (0), (0)), (4, (0), (1), (0), (0), (9)), (4, (0), (2), (0), (0), (40)), (4, (0), (3), (0), (0), (0)), (4, (0), (4), (0), (0), (17)), (4, (0), (5), (0), (0), (2)), (4, (0), (6), (0), (0), (0)), (3, (0), (0), (0), (0), (4)), (3, (0), (0), (1), (0), (4)), (3, (0), (0), (2), (0), (7)), (3, (0), (0), (3), (0), (0)), (3, (0), (0), (4), (0), (0)), (3, (0), (3), (0), (0), (0)), (3, (0), (3), (1), (0), (3)), (3, (0), (3), (2), (0), (0)), (3, (0), (3), (3), (0), (13)), (3, (0), (3), (4), (0), (0)), (3, (0), (4), (0), (0), (4)), (3, (0), (4), (1), (0), (4)), (3, (0), (4), (2), (0), (7)), (3, (0), (4), (3), (0), (16)), (3, (0), (4), (4), (0), (0)), (3, (0), (8), (0), (0), (0)), (3, (0), (8), (1), (0), (8)), (3, (0), (8), (2), (0), (1)), (3, (0), (8), (3), (0), (32)), (3, (0), (8), (4), (0), (1)), (3, (0), (9), (0), (0), (-7000001)), (3, (0), (8), (5), (0), (-7000002)), (0, (3), (0), (0), (0), (1)), (1, (1), (2), (7), (0), (-7000003)), (1, (1), (7), (6), (3), (-7000003)), (1, (1), (8), (6), (4), (-7000003)), (1, (1), (7), (6), (5), (-7000003)), (1, (1), (0), (6), (6), (-7000003)), (1, (1), (5), (6), (7), (-7000003)), (1, (1), (2), (6), (8), (-7000003)), (1, (1), (4), (6), (1), (-7000003)), (1, (1), (5), (6), (2), (-7000003)), (1, (1), (2), (6), (0), (1)), (2, (1), (1), (0), (0), (1)), (4, (1), (0), (0), (0), (3)), (4, (1), (1), (0), (0), (2)), (4, (1), (2), (0), (0), (12)), (4, (1), (3), (0), (0), (1)), (4, (1), (4), (0), (0), (0)), (4, (1), (5), (0), (0), (1)), (4, (1), (6), (0), (0), (0)), (0, (2), (0), (0), (0), (2)), (7, (2), (100), (0), (0), (-7000003)), (1, (2), (1), (2), (0), (1)), (1, (2), (0), (2), (0), (2)), (1, (2), (4), (4), (0), (3)), (2, (2), (0), (0), (0), (1)), (5, (0), (1), (0), (0), (0)), (5, (0), (0), (0), (0), (9)), (6, (0), (0), (0), (0), (9)), (5, (0), (2), (0), (0), (3)), (5, (2), (0), (0), (0), (3)), (6, (0), (2), (0), (0), (3)), (6, (2), (1), (0), (0), (0)), (24, (0), (0), (0), (0), (0)), (7, (2), (100), (0), (0), (1)), (24, (0), (0), (0), (0), (4800)), (7, (0), (50), (0), (0), (2)), (7, (0), (49), (0), (0), (-7000003)), (7, (0), (50), (0), (0), (3)), (7, (2), (30), (0), (0), (4)), (7, (1), (60), (0), (0), (5)), (7, (1), (60), (0), (0), (-7000003)), (7, (1), (59), (0), (0), (-7000003)), (8, (0), (0), (0), (0), (1)), (24, (0), (0), (0), (0), (116800)), (7, (1), (59), (0), (0), (5)), (24, (0), (0), (0), (0), (129003)), (1, (1), (8), (3), (0), (2)), (1, (1), (7), (3), (0), (3)), (2, (1), (0), (0), (0), (1)), (24, (0), (0), (0), (0), (135105)), (7, (1), (59), (0), (0), (6)), (7, (0), (600), (0), (0), (7)), (7, (2), (600), (0), (0), (8)), (7, (2), (600), (0), (0), (-7000003)), (8, (0), (0), (0), (0), (2)), (26, (0), (0), (0), (0), (3)), (27, (0), (0), (0), (0), (0)), (28, (0), (0), (0), (0), (0))]
set_option maxRecDepth 100000 in
theorem ck_tunes : chk σ0 ca_tunes = true := by decide +kernel
set_option maxRecDepth 100000 in
set_option maxHeartbeats 20000000 in
theorem r_tunes {l : Launch} {Γ : GA} (hfl : l.stackTraces = false) : Ct l Γ m_L_tunes [] (fun _ => none) (fun v _ => v = some (iv 1)) (fun _ _ => False) := by
  have hk := ck_tunes
  unfold ca_tunes at hk
  have hb0 : σ0.2.2.2.2 ≤ 100 := Nat.zero_le _
  refine Ct.intro hfl (by decide +kernel) rfl (Nat.le_of_ble_eq_true rfl) ?_
  intro G C R T
  show G 0 [none] [] (fun _ => none) 0 0
  refine gk_new C n_L_8 ⟨by show _ + 1 ≤ 20000; omega, by show _ + 9 ≤ 900000; omega⟩ dL_tunes_0 (fun q0 e0 => ?_)
  refine gk_dup C rfl dL_tunes_3 ?_
  refine gk_callI C o_X4_init rfl k_L_106 dL_tunes_4 (h_new hfl) rfl rfl ⟨Nat.le_of_ble_eq_true rfl, Nat.le_of_ble_eq_true rfl⟩ ⟨by show _ + 8 ≤ 20000; omega, by show _ + 37 ≤ 900000; omega⟩ (by exact Nat.le_of_ble_eq_true rfl) (fun _ _ z => z.elim) (fun v0 h0 p0 => ?_)
  obtain ⟨rfl, H0⟩ := p0
  dsimp only [gk_push]
  refine gk_astore_n_0 C (by exact Nat.le_of_ble_eq_true rfl) dL_tunes_7 ?_
  refine gk_aload_n C dL_tunes_8 rfl ?_
  refine gk_iconst C dL_tunes_9 ?_
  refine gk_iconst C dL_tunes_10 ?_
  refine gk_iconst C dL_tunes_11 ?_
  obtain ⟨⟨n1_1, n2_1, n3_1⟩, b1, hk1⟩ := chk_n hk
  refine gk_callS C o_L_refuses k_L_107 dL_tunes_12 (r_refuses hfl H0 n1_1 n2_1 n3_1 (Nat.le_trans hb0 (by omega))) rfl rfl ⟨Nat.le_of_ble_eq_true rfl, Nat.le_of_ble_eq_true rfl⟩ ⟨by show _ + 1600 ≤ 20000; omega, by show _ + 70000 ≤ 900000; omega⟩ (by exact Nat.le_of_ble_eq_true rfl) (fun _ _ z => z.elim) (fun v1 h1 p1 => ?_)
  obtain ⟨rfl, H1⟩ := p1
  dsimp only [gk_push]
  clear n1_1 n2_1 n3_1 H0 hk hb0
  refine gk_if_eq C (tgt := 383) (by omega) dL_tunes_15 (by decide) (fun c_15 => ?_) (fun c_15 => ?_)
  · exact absurd c_15 (by omega)
  refine gk_aload_n C dL_tunes_18 rfl ?_
  refine gk_bipush C dL_tunes_19 (by decide) ?_
  refine gk_iconst C dL_tunes_21 ?_
  refine gk_iconst C dL_tunes_22 ?_
  refine gk_iconst C dL_tunes_23 ?_
  refine gk_iconst C dL_tunes_24 ?_
  obtain ⟨σ2, e2, b2, hk2⟩ := chk_c hk1
  refine gk_callSH C o_L_act k_L_100 dL_tunes_25 (act_e hfl H1 (w := 8) (a := (0)) (b := (0)) (c := (0)) (d := (0)) rfl (by omega) (by omega) (by omega) (by omega) (by omega) (Nat.le_trans b1 (by omega)) e2) rfl rfl ⟨Nat.le_of_ble_eq_true rfl, Nat.le_of_ble_eq_true rfl⟩ ⟨by show _ + 9 ≤ 20000; omega, by show _ + 418 ≤ 900000; omega⟩ (by exact Nat.le_of_ble_eq_true rfl) (fun v2 h2 p2 => ?_)
  obtain ⟨rfl, H2⟩ := p2
  dsimp only [gk_push]
  clear e2 H1 hk1 b1
  refine gk_ldc C cn_L_91 dL_tunes_28 ?_
  refine gk_icmp_ne C (tgt := 383) (by omega) (by omega) dL_tunes_30 (by decide) (fun c_30 => ?_) (fun c_30 => ?_)
  · exact absurd c_30 (by omega)
  refine gk_aload_n C dL_tunes_33 rfl ?_
  refine gk_iconst C dL_tunes_34 ?_
  obtain ⟨σ3, e3, b3, hk3⟩ := chk_c hk2
  obtain ⟨fs3, ob3⟩ := H2.obj
  refine gk_callV C o_X4_tune k_L_7 dL_tunes_35 (HC.dir (h_tune hfl H2 (z := (0)) (by omega)) e3 (by omega)) ob3 rfl rfl rfl ⟨Nat.le_of_ble_eq_true rfl, Nat.le_of_ble_eq_true rfl⟩ ⟨by show _ + 9 ≤ 20000; omega, by show _ + 418 ≤ 900000; omega⟩ (by exact Nat.le_of_ble_eq_true rfl) (fun _ _ z => z.elim) (fun v3 h3 p3 => ?_)
  obtain ⟨rfl, H3⟩ := p3
  dsimp only [gk_push]
  clear e3 ob3 H2 hk2 b2
  refine gk_if_ne C (tgt := 383) (by omega) dL_tunes_38 (by decide) (fun c_38 => ?_) (fun c_38 => ?_)
  · exact absurd c_38 (by omega)
  refine gk_aload_n C dL_tunes_41 rfl ?_
  refine gk_iconst C dL_tunes_42 ?_
  refine gk_iconst C dL_tunes_43 ?_
  refine gk_iconst C dL_tunes_44 ?_
  refine gk_iconst C dL_tunes_45 ?_
  refine gk_iconst C dL_tunes_46 ?_
  obtain ⟨σ4, e4, b4, hk4⟩ := chk_c hk3
  refine gk_callSH C o_L_act k_L_100 dL_tunes_47 (act_e hfl H3 (w := 2) (a := (0)) (b := (0)) (c := (0)) (d := (0)) rfl (by omega) (by omega) (by omega) (by omega) (by omega) (Nat.le_trans b3 (by omega)) e4) rfl rfl ⟨Nat.le_of_ble_eq_true rfl, Nat.le_of_ble_eq_true rfl⟩ ⟨by show _ + 9 ≤ 20000; omega, by show _ + 418 ≤ 900000; omega⟩ (by exact Nat.le_of_ble_eq_true rfl) (fun v4 h4 p4 => ?_)
  obtain ⟨rfl, H4⟩ := p4
  dsimp only [gk_push]
  clear e4 H3 hk3 b3
  refine gk_ldc C cn_L_91 dL_tunes_50 ?_
  refine gk_icmp_ne C (tgt := 383) (by omega) (by omega) dL_tunes_52 (by decide) (fun c_52 => ?_) (fun c_52 => ?_)
  · exact absurd c_52 (by omega)
  refine gk_aload_n C dL_tunes_55 rfl ?_
  refine gk_iconst C dL_tunes_56 ?_
  refine gk_iconst C dL_tunes_57 ?_
  refine gk_iconst C dL_tunes_58 ?_
  refine gk_bipush C dL_tunes_59 (by decide) ?_
  obtain ⟨σ5, e5, b5, hk5⟩ := chk_c hk4
  obtain ⟨fs5, ob5⟩ := H4.obj
  refine gk_callV C o_X4_note k_L_13 dL_tunes_61 (HC.dir (h_note hfl H4 (t := (0)) (a := (4)) (b := (4)) (g := (7)) (by omega) (by omega) (by omega) (by omega)) e5 (by omega)) ob5 rfl rfl rfl ⟨Nat.le_of_ble_eq_true rfl, Nat.le_of_ble_eq_true rfl⟩ ⟨by show _ + 3 ≤ 20000; omega, by show _ + 18 ≤ 900000; omega⟩ (by exact Nat.le_of_ble_eq_true rfl) (fun _ _ z => z.elim) (fun v5 h5 p5 => ?_)
  obtain ⟨rfl, H5⟩ := p5
  dsimp only [gk_push]
  clear e5 ob5 H4 hk4 b4
  refine gk_iconst C dL_tunes_64 ?_
  refine gk_icmp_ne C (tgt := 383) (by omega) (by omega) dL_tunes_65 (by decide) (fun c_65 => ?_) (fun c_65 => ?_)
  · exact absurd c_65 (by omega)
  refine gk_aload_n C dL_tunes_68 rfl ?_
  refine gk_iconst C dL_tunes_69 ?_
  refine gk_iconst C dL_tunes_70 ?_
  refine gk_iconst C dL_tunes_71 ?_
  refine gk_iconst C dL_tunes_72 ?_
  refine gk_iconst C dL_tunes_73 ?_
  obtain ⟨σ6, e6, b6, hk6⟩ := chk_c hk5
  refine gk_callSH C o_L_act k_L_100 dL_tunes_74 (act_e hfl H5 (w := 1) (a := (0)) (b := (4)) (c := (4)) (d := (0)) rfl (by omega) (by omega) (by omega) (by omega) (by omega) (Nat.le_trans b5 (by omega)) e6) rfl rfl ⟨Nat.le_of_ble_eq_true rfl, Nat.le_of_ble_eq_true rfl⟩ ⟨by show _ + 9 ≤ 20000; omega, by show _ + 418 ≤ 900000; omega⟩ (by exact Nat.le_of_ble_eq_true rfl) (fun v6 h6 p6 => ?_)
  obtain ⟨rfl, H6⟩ := p6
  dsimp only [gk_push]
  clear e6 H5 hk5 b5
  refine gk_ldc C cn_L_91 dL_tunes_77 ?_
  refine gk_icmp_ne C (tgt := 383) (by omega) (by omega) dL_tunes_79 (by decide) (fun c_79 => ?_) (fun c_79 => ?_)
  · exact absurd c_79 (by omega)
  refine gk_aload_n C dL_tunes_82 rfl ?_
  refine gk_iconst C dL_tunes_83 ?_
  refine gk_iconst C dL_tunes_84 ?_
  refine gk_iconst C dL_tunes_85 ?_
  refine gk_iconst C dL_tunes_86 ?_
  refine gk_iconst C dL_tunes_87 ?_
  obtain ⟨σ7, e7, b7, hk7⟩ := chk_c hk6
  refine gk_callSH C o_L_act k_L_100 dL_tunes_88 (act_e hfl H6 (w := 1) (a := (0)) (b := (4)) (c := (4)) (d := (1)) rfl (by omega) (by omega) (by omega) (by omega) (by omega) (Nat.le_trans b6 (by omega)) e7) rfl rfl ⟨Nat.le_of_ble_eq_true rfl, Nat.le_of_ble_eq_true rfl⟩ ⟨by show _ + 9 ≤ 20000; omega, by show _ + 418 ≤ 900000; omega⟩ (by exact Nat.le_of_ble_eq_true rfl) (fun v7 h7 p7 => ?_)
  obtain ⟨rfl, H7⟩ := p7
  dsimp only [gk_push]
  clear e7 H6 hk6 b6
  refine gk_ldc C cn_L_91 dL_tunes_91 ?_
  refine gk_icmp_ne C (tgt := 383) (by omega) (by omega) dL_tunes_93 (by decide) (fun c_93 => ?_) (fun c_93 => ?_)
  · exact absurd c_93 (by omega)
  refine gk_aload_n C dL_tunes_96 rfl ?_
  refine gk_iconst C dL_tunes_97 ?_
  refine gk_iconst C dL_tunes_98 ?_
  refine gk_iconst C dL_tunes_99 ?_
  refine gk_iconst C dL_tunes_100 ?_
  refine gk_iconst C dL_tunes_101 ?_
  obtain ⟨σ8, e8, b8, hk8⟩ := chk_c hk7
  refine gk_callSH C o_L_act k_L_100 dL_tunes_102 (act_e hfl H7 (w := 2) (a := (0)) (b := (0)) (c := (0)) (d := (0)) rfl (by omega) (by omega) (by omega) (by omega) (by omega) (Nat.le_trans b7 (by omega)) e8) rfl rfl ⟨Nat.le_of_ble_eq_true rfl, Nat.le_of_ble_eq_true rfl⟩ ⟨by show _ + 9 ≤ 20000; omega, by show _ + 418 ≤ 900000; omega⟩ (by exact Nat.le_of_ble_eq_true rfl) (fun v8 h8 p8 => ?_)
  obtain ⟨rfl, H8⟩ := p8
  dsimp only [gk_push]
  clear e8 H7 hk7 b7
  refine gk_ldc C cn_L_91 dL_tunes_105 ?_
  refine gk_icmp_ne C (tgt := 383) (by omega) (by omega) dL_tunes_107 (by decide) (fun c_107 => ?_) (fun c_107 => ?_)
  · exact absurd c_107 (by omega)
  refine gk_aload_n C dL_tunes_110 rfl ?_
  refine gk_iconst C dL_tunes_111 ?_
  refine gk_iconst C dL_tunes_112 ?_
  refine gk_iconst C dL_tunes_113 ?_
  refine gk_iconst C dL_tunes_114 ?_
  obtain ⟨σ9, e9, b9, hk9⟩ := chk_c hk8
  obtain ⟨fs9, ob9⟩ := H8.obj
  refine gk_callV C o_X4_note k_L_13 dL_tunes_115 (HC.dir (h_note hfl H8 (t := (0)) (a := (4)) (b := (4)) (g := (2)) (by omega) (by omega) (by omega) (by omega)) e9 (by omega)) ob9 rfl rfl rfl ⟨Nat.le_of_ble_eq_true rfl, Nat.le_of_ble_eq_true rfl⟩ ⟨by show _ + 3 ≤ 20000; omega, by show _ + 18 ≤ 900000; omega⟩ (by exact Nat.le_of_ble_eq_true rfl) (fun _ _ z => z.elim) (fun v9 h9 p9 => ?_)
  obtain ⟨rfl, H9⟩ := p9
  dsimp only [gk_push]
  clear e9 ob9 H8 hk8 b8
  refine gk_iconst C dL_tunes_118 ?_
  refine gk_icmp_ne C (tgt := 383) (by omega) (by omega) dL_tunes_119 (by decide) (fun c_119 => ?_) (fun c_119 => ?_)
  · exact absurd c_119 (by omega)
  refine gk_aload_n C dL_tunes_122 rfl ?_
  refine gk_iconst C dL_tunes_123 ?_
  refine gk_iconst C dL_tunes_124 ?_
  refine gk_iconst C dL_tunes_125 ?_
  refine gk_bipush C dL_tunes_126 (by decide) ?_
  obtain ⟨σ10, e10, b10, hk10⟩ := chk_c hk9
  obtain ⟨fs10, ob10⟩ := H9.obj
  refine gk_callV C o_X4_note k_L_13 dL_tunes_128 (HC.dir (h_note hfl H9 (t := (0)) (a := (1)) (b := (5)) (g := (8)) (by omega) (by omega) (by omega) (by omega)) e10 (by omega)) ob10 rfl rfl rfl ⟨Nat.le_of_ble_eq_true rfl, Nat.le_of_ble_eq_true rfl⟩ ⟨by show _ + 3 ≤ 20000; omega, by show _ + 18 ≤ 900000; omega⟩ (by exact Nat.le_of_ble_eq_true rfl) (fun _ _ z => z.elim) (fun v10 h10 p10 => ?_)
  obtain ⟨rfl, H10⟩ := p10
  dsimp only [gk_push]
  clear e10 ob10 H9 hk9 b9
  refine gk_iconst C dL_tunes_131 ?_
  refine gk_icmp_ne C (tgt := 383) (by omega) (by omega) dL_tunes_132 (by decide) (fun c_132 => ?_) (fun c_132 => ?_)
  · exact absurd c_132 (by omega)
  refine gk_aload_n C dL_tunes_135 rfl ?_
  refine gk_iconst C dL_tunes_136 ?_
  refine gk_iconst C dL_tunes_137 ?_
  refine gk_iconst C dL_tunes_138 ?_
  refine gk_iconst C dL_tunes_139 ?_
  refine gk_iconst C dL_tunes_140 ?_
  obtain ⟨σ11, e11, b11, hk11⟩ := chk_c hk10
  refine gk_callSH C o_L_act k_L_100 dL_tunes_141 (act_e hfl H10 (w := 1) (a := (0)) (b := (0)) (c := (4)) (d := (0)) rfl (by omega) (by omega) (by omega) (by omega) (by omega) (Nat.le_trans b10 (by omega)) e11) rfl rfl ⟨Nat.le_of_ble_eq_true rfl, Nat.le_of_ble_eq_true rfl⟩ ⟨by show _ + 9 ≤ 20000; omega, by show _ + 418 ≤ 900000; omega⟩ (by exact Nat.le_of_ble_eq_true rfl) (fun v11 h11 p11 => ?_)
  obtain ⟨rfl, H11⟩ := p11
  dsimp only [gk_push]
  clear e11 H10 hk10 b10
  refine gk_ldc C cn_L_91 dL_tunes_144 ?_
  refine gk_icmp_ne C (tgt := 383) (by omega) (by omega) dL_tunes_146 (by decide) (fun c_146 => ?_) (fun c_146 => ?_)
  · exact absurd c_146 (by omega)
  refine gk_aload_n C dL_tunes_149 rfl ?_
  refine gk_iconst C dL_tunes_150 ?_
  refine gk_iconst C dL_tunes_151 ?_
  refine gk_iconst C dL_tunes_152 ?_
  refine gk_iconst C dL_tunes_153 ?_
  obtain ⟨σ12, e12, b12, hk12⟩ := chk_c hk11
  obtain ⟨fs12, ob12⟩ := H11.obj
  refine gk_callV C o_X4_note k_L_13 dL_tunes_154 (HC.dir (h_note hfl H11 (t := (0)) (a := (0)) (b := (3)) (g := (0)) (by omega) (by omega) (by omega) (by omega)) e12 (by omega)) ob12 rfl rfl rfl ⟨Nat.le_of_ble_eq_true rfl, Nat.le_of_ble_eq_true rfl⟩ ⟨by show _ + 3 ≤ 20000; omega, by show _ + 18 ≤ 900000; omega⟩ (by exact Nat.le_of_ble_eq_true rfl) (fun _ _ z => z.elim) (fun v12 h12 p12 => ?_)
  obtain ⟨rfl, H12⟩ := p12
  dsimp only [gk_push]
  clear e12 ob12 H11 hk11 b11
  refine gk_iconst C dL_tunes_157 ?_
  refine gk_icmp_ne C (tgt := 383) (by omega) (by omega) dL_tunes_158 (by decide) (fun c_158 => ?_) (fun c_158 => ?_)
  · exact absurd c_158 (by omega)
  refine gk_aload_n C dL_tunes_161 rfl ?_
  refine gk_iconst C dL_tunes_162 ?_
  refine gk_iconst C dL_tunes_163 ?_
  refine gk_iconst C dL_tunes_164 ?_
  refine gk_iconst C dL_tunes_165 ?_
  refine gk_iconst C dL_tunes_166 ?_
  refine gk_iconst C dL_tunes_167 ?_
  refine gk_iconst C dL_tunes_168 ?_
  refine gk_iconst C dL_tunes_169 ?_
  refine gk_callS C o_L_tune k_L_111 dL_tunes_170 (r_tune hfl H12 (by omega) (by omega) (by omega) (by omega) (by omega) (by omega) (by omega) (by omega) hk12) rfl rfl ⟨Nat.le_of_ble_eq_true rfl, Nat.le_of_ble_eq_true rfl⟩ ⟨by show _ + 14 ≤ 20000; omega, by show _ + 84 ≤ 900000; omega⟩ (by exact Nat.le_of_ble_eq_true rfl) (fun _ _ z => z.elim) (fun v13 h13 p13 => ?_)
  obtain ⟨rfl, σ13, H13, hk13, b13⟩ := p13
  dsimp only [gk_push]
  clear H12 hk12 b12
  refine gk_if_eq C (tgt := 383) (by omega) dL_tunes_173 (by decide) (fun c_173 => ?_) (fun c_173 => ?_)
  · exact absurd c_173 (by omega)
  refine gk_aload_n C dL_tunes_176 rfl ?_
  refine gk_iconst C dL_tunes_177 ?_
  refine gk_iconst C dL_tunes_178 ?_
  obtain ⟨σ14, e14, b14, hk14⟩ := chk_c hk13
  obtain ⟨fs14, ob14⟩ := H13.obj
  refine gk_callV C o_X4_part k_L_17 dL_tunes_179 (HC.dir (h_part hfl H13 (t := (0)) (rep := (1)) (by omega) (by omega)) e14 (by omega)) ob14 rfl rfl rfl ⟨Nat.le_of_ble_eq_true rfl, Nat.le_of_ble_eq_true rfl⟩ ⟨by show _ + 2 ≤ 20000; omega, by show _ + 12 ≤ 900000; omega⟩ (by exact Nat.le_of_ble_eq_true rfl) (fun _ _ z => z.elim) (fun v14 h14 p14 => ?_)
  obtain ⟨rfl, H14⟩ := p14
  dsimp only [gk_push]
  clear e14 ob14 H13 hk13 b13
  refine gk_iconst C dL_tunes_182 ?_
  refine gk_icmp_ne C (tgt := 383) (by omega) (by omega) dL_tunes_183 (by decide) (fun c_183 => ?_) (fun c_183 => ?_)
  · exact absurd c_183 (by omega)
  refine gk_aload_n C dL_tunes_186 rfl ?_
  refine gk_iconst C dL_tunes_187 ?_
  refine gk_iconst C dL_tunes_188 ?_
  refine gk_iconst C dL_tunes_189 ?_
  refine gk_iconst C dL_tunes_190 ?_
  refine gk_iconst C dL_tunes_191 ?_
  obtain ⟨σ15, e15, b15, hk15⟩ := chk_c hk14
  refine gk_callSH C o_L_act k_L_100 dL_tunes_192 (act_e hfl H14 (w := 2) (a := (0)) (b := (1)) (c := (0)) (d := (0)) rfl (by omega) (by omega) (by omega) (by omega) (by omega) (Nat.le_trans b14 (by omega)) e15) rfl rfl ⟨Nat.le_of_ble_eq_true rfl, Nat.le_of_ble_eq_true rfl⟩ ⟨by show _ + 9 ≤ 20000; omega, by show _ + 418 ≤ 900000; omega⟩ (by exact Nat.le_of_ble_eq_true rfl) (fun v15 h15 p15 => ?_)
  obtain ⟨rfl, H15⟩ := p15
  dsimp only [gk_push]
  clear e15 H14 hk14 b14
  refine gk_ldc C cn_L_91 dL_tunes_195 ?_
  refine gk_icmp_ne C (tgt := 383) (by omega) (by omega) dL_tunes_197 (by decide) (fun c_197 => ?_) (fun c_197 => ?_)
  · exact absurd c_197 (by omega)
  refine gk_aload_n C dL_tunes_200 rfl ?_
  refine gk_iconst C dL_tunes_201 ?_
  refine gk_iconst C dL_tunes_202 ?_
  refine gk_iconst C dL_tunes_203 ?_
  refine gk_bipush C dL_tunes_204 (by decide) ?_
  refine gk_iconst C dL_tunes_206 ?_
  obtain ⟨σ16, e16, b16, hk16⟩ := chk_c hk15
  refine gk_callSH C o_L_act k_L_100 dL_tunes_207 (act_e hfl H15 (w := 1) (a := (0)) (b := (0)) (c := (8)) (d := (0)) rfl (by omega) (by omega) (by omega) (by omega) (by omega) (Nat.le_trans b15 (by omega)) e16) rfl rfl ⟨Nat.le_of_ble_eq_true rfl, Nat.le_of_ble_eq_true rfl⟩ ⟨by show _ + 9 ≤ 20000; omega, by show _ + 418 ≤ 900000; omega⟩ (by exact Nat.le_of_ble_eq_true rfl) (fun v16 h16 p16 => ?_)
  obtain ⟨rfl, H16⟩ := p16
  dsimp only [gk_push]
  clear e16 H15 hk15 b15
  refine gk_ldc C cn_L_91 dL_tunes_210 ?_
  refine gk_icmp_ne C (tgt := 383) (by omega) (by omega) dL_tunes_212 (by decide) (fun c_212 => ?_) (fun c_212 => ?_)
  · exact absurd c_212 (by omega)
  refine gk_aload_n C dL_tunes_215 rfl ?_
  refine gk_iconst C dL_tunes_216 ?_
  refine gk_iconst C dL_tunes_217 ?_
  refine gk_iconst C dL_tunes_218 ?_
  refine gk_bipush C dL_tunes_219 (by decide) ?_
  refine gk_bipush C dL_tunes_221 (by decide) ?_
  obtain ⟨σ17, e17, b17, hk17⟩ := chk_c hk16
  refine gk_callSH C o_L_act k_L_100 dL_tunes_223 (act_e hfl H16 (w := 1) (a := (0)) (b := (0)) (c := (8)) (d := (6)) rfl (by omega) (by omega) (by omega) (by omega) (by omega) (Nat.le_trans b16 (by omega)) e17) rfl rfl ⟨Nat.le_of_ble_eq_true rfl, Nat.le_of_ble_eq_true rfl⟩ ⟨by show _ + 9 ≤ 20000; omega, by show _ + 418 ≤ 900000; omega⟩ (by exact Nat.le_of_ble_eq_true rfl) (fun v17 h17 p17 => ?_)
  obtain ⟨rfl, H17⟩ := p17
  dsimp only [gk_push]
  clear e17 H16 hk16 b16
  refine gk_ldc C cn_L_91 dL_tunes_226 ?_
  refine gk_icmp_ne C (tgt := 383) (by omega) (by omega) dL_tunes_228 (by decide) (fun c_228 => ?_) (fun c_228 => ?_)
  · exact absurd c_228 (by omega)
  refine gk_aload_n C dL_tunes_231 rfl ?_
  refine gk_iconst C dL_tunes_232 ?_
  refine gk_iconst C dL_tunes_233 ?_
  refine gk_bipush C dL_tunes_234 (by decide) ?_
  refine gk_iconst C dL_tunes_236 ?_
  obtain ⟨σ18, e18, b18, hk18⟩ := chk_c hk17
  obtain ⟨fs18, ob18⟩ := H17.obj
  refine gk_callV C o_X4_note k_L_13 dL_tunes_237 (HC.dir (h_note hfl H17 (t := (0)) (a := (0)) (b := (8)) (g := (1)) (by omega) (by omega) (by omega) (by omega)) e18 (by omega)) ob18 rfl rfl rfl ⟨Nat.le_of_ble_eq_true rfl, Nat.le_of_ble_eq_true rfl⟩ ⟨by show _ + 3 ≤ 20000; omega, by show _ + 18 ≤ 900000; omega⟩ (by exact Nat.le_of_ble_eq_true rfl) (fun _ _ z => z.elim) (fun v18 h18 p18 => ?_)
  obtain ⟨rfl, H18⟩ := p18
  dsimp only [gk_push]
  clear e18 ob18 H17 hk17 b17
  refine gk_iconst C dL_tunes_240 ?_
  refine gk_icmp_ne C (tgt := 383) (by omega) (by omega) dL_tunes_241 (by decide) (fun c_241 => ?_) (fun c_241 => ?_)
  · exact absurd c_241 (by omega)
  refine gk_aload_n C dL_tunes_244 rfl ?_
  refine gk_iconst C dL_tunes_245 ?_
  refine gk_iconst C dL_tunes_246 ?_
  refine gk_bipush C dL_tunes_247 (by decide) ?_
  refine gk_bipush C dL_tunes_249 (by decide) ?_
  refine gk_iconst C dL_tunes_251 ?_
  refine gk_bipush C dL_tunes_252 (by decide) ?_
  refine gk_iconst C dL_tunes_254 ?_
  refine gk_iconst C dL_tunes_255 ?_
  refine gk_callS C o_L_tune k_L_111 dL_tunes_256 (r_tune hfl H18 (by omega) (by omega) (by omega) (by omega) (by omega) (by omega) (by omega) (by omega) hk18) rfl rfl ⟨Nat.le_of_ble_eq_true rfl, Nat.le_of_ble_eq_true rfl⟩ ⟨by show _ + 14 ≤ 20000; omega, by show _ + 84 ≤ 900000; omega⟩ (by exact Nat.le_of_ble_eq_true rfl) (fun _ _ z => z.elim) (fun v19 h19 p19 => ?_)
  obtain ⟨rfl, σ19, H19, hk19, b19⟩ := p19
  dsimp only [gk_push]
  clear H18 hk18 b18
  refine gk_if_eq C (tgt := 383) (by omega) dL_tunes_259 (by decide) (fun c_259 => ?_) (fun c_259 => ?_)
  · exact absurd c_259 (by omega)
  refine gk_aload_n C dL_tunes_262 rfl ?_
  refine gk_iconst C dL_tunes_263 ?_
  refine gk_iconst C dL_tunes_264 ?_
  obtain ⟨σ20, e20, b20, hk20⟩ := chk_c hk19
  obtain ⟨fs20, ob20⟩ := H19.obj
  refine gk_callV C o_X4_part k_L_17 dL_tunes_265 (HC.dir (h_part hfl H19 (t := (0)) (rep := (0)) (by omega) (by omega)) e20 (by omega)) ob20 rfl rfl rfl ⟨Nat.le_of_ble_eq_true rfl, Nat.le_of_ble_eq_true rfl⟩ ⟨by show _ + 2 ≤ 20000; omega, by show _ + 12 ≤ 900000; omega⟩ (by exact Nat.le_of_ble_eq_true rfl) (fun _ _ z => z.elim) (fun v20 h20 p20 => ?_)
  obtain ⟨rfl, H20⟩ := p20
  dsimp only [gk_push]
  clear e20 ob20 H19 hk19 b19
  refine gk_iconst C dL_tunes_268 ?_
  refine gk_icmp_ne C (tgt := 383) (by omega) (by omega) dL_tunes_269 (by decide) (fun c_269 => ?_) (fun c_269 => ?_)
  · exact absurd c_269 (by omega)
  refine gk_aload_n C dL_tunes_272 rfl ?_
  refine gk_iconst C dL_tunes_273 ?_
  refine gk_iconst C dL_tunes_274 ?_
  refine gk_bipush C dL_tunes_275 (by decide) ?_
  refine gk_bipush C dL_tunes_277 (by decide) ?_
  refine gk_iconst C dL_tunes_279 ?_
  refine gk_bipush C dL_tunes_280 (by decide) ?_
  refine gk_iconst C dL_tunes_282 ?_
  refine gk_iconst C dL_tunes_283 ?_
  refine gk_callS C o_L_tune k_L_111 dL_tunes_284 (r_tune hfl H20 (by omega) (by omega) (by omega) (by omega) (by omega) (by omega) (by omega) (by omega) hk20) rfl rfl ⟨Nat.le_of_ble_eq_true rfl, Nat.le_of_ble_eq_true rfl⟩ ⟨by show _ + 14 ≤ 20000; omega, by show _ + 84 ≤ 900000; omega⟩ (by exact Nat.le_of_ble_eq_true rfl) (fun _ _ z => z.elim) (fun v21 h21 p21 => ?_)
  obtain ⟨rfl, σ21, H21, hk21, b21⟩ := p21
  dsimp only [gk_push]
  clear H20 hk20 b20
  refine gk_if_eq C (tgt := 383) (by omega) dL_tunes_287 (by decide) (fun c_287 => ?_) (fun c_287 => ?_)
  · exact absurd c_287 (by omega)
  refine gk_aload_n C dL_tunes_290 rfl ?_
  refine gk_iconst C dL_tunes_291 ?_
  refine gk_iconst C dL_tunes_292 ?_
  refine gk_iconst C dL_tunes_293 ?_
  refine gk_iconst C dL_tunes_294 ?_
  refine gk_bipush C dL_tunes_295 (by decide) ?_
  refine gk_iconst C dL_tunes_297 ?_
  refine gk_iconst C dL_tunes_298 ?_
  refine gk_callS C o_L_played k_L_114 dL_tunes_299 (r_played hfl H21 (by omega) (by omega) (by omega) (by omega) (by omega) (by omega) (by omega) hk21) rfl rfl ⟨Nat.le_of_ble_eq_true rfl, Nat.le_of_ble_eq_true rfl⟩ ⟨by show _ + 15 ≤ 20000; omega, by show _ + 90 ≤ 900000; omega⟩ (by exact Nat.le_of_ble_eq_true rfl) (fun _ _ z => z.elim) (fun v22 h22 p22 => ?_)
  obtain ⟨rfl, σ22, H22, hk22, b22⟩ := p22
  dsimp only [gk_push]
  clear H21 hk21 b21
  refine gk_if_eq C (tgt := 383) (by omega) dL_tunes_302 (by decide) (fun c_302 => ?_) (fun c_302 => ?_)
  · exact absurd c_302 (by omega)
  refine gk_aload_n C dL_tunes_305 rfl ?_
  refine gk_iconst C dL_tunes_306 ?_
  refine gk_iconst C dL_tunes_307 ?_
  refine gk_iconst C dL_tunes_308 ?_
  refine gk_iconst C dL_tunes_309 ?_
  refine gk_iconst C dL_tunes_310 ?_
  refine gk_bipush C dL_tunes_311 (by decide) ?_
  refine gk_iconst C dL_tunes_313 ?_
  refine gk_callS C o_L_played k_L_114 dL_tunes_314 (r_played hfl H22 (by omega) (by omega) (by omega) (by omega) (by omega) (by omega) (by omega) hk22) rfl rfl ⟨Nat.le_of_ble_eq_true rfl, Nat.le_of_ble_eq_true rfl⟩ ⟨by show _ + 15 ≤ 20000; omega, by show _ + 90 ≤ 900000; omega⟩ (by exact Nat.le_of_ble_eq_true rfl) (fun _ _ z => z.elim) (fun v23 h23 p23 => ?_)
  obtain ⟨rfl, σ23, H23, hk23, b23⟩ := p23
  dsimp only [gk_push]
  clear H22 hk22 b22
  refine gk_if_eq C (tgt := 383) (by omega) dL_tunes_317 (by decide) (fun c_317 => ?_) (fun c_317 => ?_)
  · exact absurd c_317 (by omega)
  refine gk_aload_n C dL_tunes_320 rfl ?_
  refine gk_iconst C dL_tunes_321 ?_
  refine gk_iconst C dL_tunes_322 ?_
  refine gk_iconst C dL_tunes_323 ?_
  refine gk_iconst C dL_tunes_324 ?_
  refine gk_bipush C dL_tunes_325 (by decide) ?_
  refine gk_bipush C dL_tunes_327 (by decide) ?_
  refine gk_iconst C dL_tunes_329 ?_
  refine gk_callS C o_L_played k_L_114 dL_tunes_330 (r_played hfl H23 (by omega) (by omega) (by omega) (by omega) (by omega) (by omega) (by omega) hk23) rfl rfl ⟨Nat.le_of_ble_eq_true rfl, Nat.le_of_ble_eq_true rfl⟩ ⟨by show _ + 15 ≤ 20000; omega, by show _ + 90 ≤ 900000; omega⟩ (by exact Nat.le_of_ble_eq_true rfl) (fun _ _ z => z.elim) (fun v24 h24 p24 => ?_)
  obtain ⟨rfl, σ24, H24, hk24, b24⟩ := p24
  dsimp only [gk_push]
  clear H23 hk23 b23
  refine gk_if_eq C (tgt := 383) (by omega) dL_tunes_333 (by decide) (fun c_333 => ?_) (fun c_333 => ?_)
  · exact absurd c_333 (by omega)
  refine gk_aload_n C dL_tunes_336 rfl ?_
  refine gk_iconst C dL_tunes_337 ?_
  refine gk_bipush C dL_tunes_338 (by decide) ?_
  refine gk_iconst C dL_tunes_340 ?_
  refine gk_bipush C dL_tunes_341 (by decide) ?_
  refine gk_iconst C dL_tunes_343 ?_
  refine gk_bipush C dL_tunes_344 (by decide) ?_
  refine gk_iconst C dL_tunes_346 ?_
  refine gk_callS C o_L_played k_L_114 dL_tunes_347 (r_played hfl H24 (by omega) (by omega) (by omega) (by omega) (by omega) (by omega) (by omega) hk24) rfl rfl ⟨Nat.le_of_ble_eq_true rfl, Nat.le_of_ble_eq_true rfl⟩ ⟨by show _ + 15 ≤ 20000; omega, by show _ + 90 ≤ 900000; omega⟩ (by exact Nat.le_of_ble_eq_true rfl) (fun _ _ z => z.elim) (fun v25 h25 p25 => ?_)
  obtain ⟨rfl, σ25, H25, hk25, b25⟩ := p25
  dsimp only [gk_push]
  clear H24 hk24 b24
  refine gk_if_eq C (tgt := 383) (by omega) dL_tunes_350 (by decide) (fun c_350 => ?_) (fun c_350 => ?_)
  · exact absurd c_350 (by omega)
  refine gk_aload_n C dL_tunes_353 rfl ?_
  refine gk_iconst C dL_tunes_354 ?_
  refine gk_iconst C dL_tunes_355 ?_
  refine gk_bipush C dL_tunes_356 (by decide) ?_
  refine gk_iconst C dL_tunes_358 ?_
  refine gk_iconst C dL_tunes_359 ?_
  obtain ⟨σ26, e26, b26, hk26⟩ := chk_c hk25
  refine gk_callSH C o_L_act k_L_100 dL_tunes_360 (act_e hfl H25 (w := 3) (a := (0)) (b := (9)) (c := (0)) (d := (0)) rfl (by omega) (by omega) (by omega) (by omega) (by omega) (Nat.le_trans b25 (by omega)) e26) rfl rfl ⟨Nat.le_of_ble_eq_true rfl, Nat.le_of_ble_eq_true rfl⟩ ⟨by show _ + 9 ≤ 20000; omega, by show _ + 418 ≤ 900000; omega⟩ (by exact Nat.le_of_ble_eq_true rfl) (fun v26 h26 p26 => ?_)
  obtain ⟨rfl, H26⟩ := p26
  dsimp only [gk_push]
  clear e26 H25 hk25 b25
  refine gk_ldc C cn_L_85 dL_tunes_363 ?_
  refine gk_icmp_ne C (tgt := 383) (by omega) (by omega) dL_tunes_365 (by decide) (fun c_365 => ?_) (fun c_365 => ?_)
  · exact absurd c_365 (by omega)
  refine gk_aload_n C dL_tunes_368 rfl ?_
  refine gk_iconst C dL_tunes_369 ?_
  refine gk_iconst C dL_tunes_370 ?_
  refine gk_bipush C dL_tunes_371 (by decide) ?_
  refine gk_iconst C dL_tunes_373 ?_
  refine gk_iconst C dL_tunes_374 ?_
  obtain ⟨σ27, e27, b27, hk27⟩ := chk_c hk26
  refine gk_callSH C o_L_act k_L_100 dL_tunes_375 (act_e hfl H26 (w := 3) (a := (0)) (b := (8)) (c := (5)) (d := (0)) rfl (by omega) (by omega) (by omega) (by omega) (by omega) (Nat.le_trans b26 (by omega)) e27) rfl rfl ⟨Nat.le_of_ble_eq_true rfl, Nat.le_of_ble_eq_true rfl⟩ ⟨by show _ + 9 ≤ 20000; omega, by show _ + 418 ≤ 900000; omega⟩ (by exact Nat.le_of_ble_eq_true rfl) (fun v27 h27 p27 => ?_)
  obtain ⟨rfl, H27⟩ := p27
  dsimp only [gk_push]
  clear e27 H26 hk26 b26
  refine gk_ldc C cn_L_88 dL_tunes_378 ?_
  refine gk_icmp_eq C (tgt := 385) (by omega) (by omega) dL_tunes_380 (by decide) (fun c_380 => ?_) (fun c_380 => ?_)
  rotate_left
  · exact absurd c_380 (by omega)
  refine gk_aload_n C dL_tunes_385 rfl ?_
  refine gk_iconst C dL_tunes_386 ?_
  obtain ⟨σ28, e28, b28, hk28⟩ := chk_c hk27
  obtain ⟨fs28, ob28⟩ := H27.obj
  refine gk_callV C o_X4_tune k_L_7 dL_tunes_387 (HC.dir (h_tune hfl H27 (z := (3)) (by omega)) e28 (by omega)) ob28 rfl rfl rfl ⟨Nat.le_of_ble_eq_true rfl, Nat.le_of_ble_eq_true rfl⟩ ⟨by show _ + 9 ≤ 20000; omega, by show _ + 418 ≤ 900000; omega⟩ (by exact Nat.le_of_ble_eq_true rfl) (fun _ _ z => z.elim) (fun v28 h28 p28 => ?_)
  obtain ⟨rfl, H28⟩ := p28
  dsimp only [gk_push]
  clear e28 ob28 H27 hk27 b27
  refine gk_iconst C dL_tunes_390 ?_
  refine gk_icmp_ne C (tgt := 715) (by omega) (by omega) dL_tunes_391 (by decide) (fun c_391 => ?_) (fun c_391 => ?_)
  · exact absurd c_391 (by omega)
  refine gk_aload_n C dL_tunes_394 rfl ?_
  refine gk_iconst C dL_tunes_395 ?_
  refine gk_iconst C dL_tunes_396 ?_
  refine gk_iconst C dL_tunes_397 ?_
  refine gk_bipush C dL_tunes_398 (by decide) ?_
  refine gk_iconst C dL_tunes_400 ?_
  obtain ⟨σ29, e29, b29, hk29⟩ := chk_c hk28
  refine gk_callSH C o_L_act k_L_100 dL_tunes_401 (act_e hfl H28 (w := 1) (a := (1)) (b := (2)) (c := (7)) (d := (0)) rfl (by omega) (by omega) (by omega) (by omega) (by omega) (Nat.le_trans b28 (by omega)) e29) rfl rfl ⟨Nat.le_of_ble_eq_true rfl, Nat.le_of_ble_eq_true rfl⟩ ⟨by show _ + 9 ≤ 20000; omega, by show _ + 418 ≤ 900000; omega⟩ (by exact Nat.le_of_ble_eq_true rfl) (fun v29 h29 p29 => ?_)
  obtain ⟨rfl, H29⟩ := p29
  dsimp only [gk_push]
  clear e29 H28 hk28 b28
  refine gk_ldc C cn_L_91 dL_tunes_404 ?_
  refine gk_icmp_ne C (tgt := 715) (by omega) (by omega) dL_tunes_406 (by decide) (fun c_406 => ?_) (fun c_406 => ?_)
  · exact absurd c_406 (by omega)
  refine gk_aload_n C dL_tunes_409 rfl ?_
  refine gk_iconst C dL_tunes_410 ?_
  refine gk_iconst C dL_tunes_411 ?_
  refine gk_bipush C dL_tunes_412 (by decide) ?_
  refine gk_bipush C dL_tunes_414 (by decide) ?_
  refine gk_iconst C dL_tunes_416 ?_
  obtain ⟨σ30, e30, b30, hk30⟩ := chk_c hk29
  refine gk_callSH C o_L_act k_L_100 dL_tunes_417 (act_e hfl H29 (w := 1) (a := (1)) (b := (7)) (c := (6)) (d := (3)) rfl (by omega) (by omega) (by omega) (by omega) (by omega) (Nat.le_trans b29 (by omega)) e30) rfl rfl ⟨Nat.le_of_ble_eq_true rfl, Nat.le_of_ble_eq_true rfl⟩ ⟨by show _ + 9 ≤ 20000; omega, by show _ + 418 ≤ 900000; omega⟩ (by exact Nat.le_of_ble_eq_true rfl) (fun v30 h30 p30 => ?_)
  obtain ⟨rfl, H30⟩ := p30
  dsimp only [gk_push]
  clear e30 H29 hk29 b29
  refine gk_ldc C cn_L_91 dL_tunes_420 ?_
  refine gk_icmp_ne C (tgt := 715) (by omega) (by omega) dL_tunes_422 (by decide) (fun c_422 => ?_) (fun c_422 => ?_)
  · exact absurd c_422 (by omega)
  refine gk_aload_n C dL_tunes_425 rfl ?_
  refine gk_iconst C dL_tunes_426 ?_
  refine gk_iconst C dL_tunes_427 ?_
  refine gk_bipush C dL_tunes_428 (by decide) ?_
  refine gk_bipush C dL_tunes_430 (by decide) ?_
  refine gk_iconst C dL_tunes_432 ?_
  obtain ⟨σ31, e31, b31, hk31⟩ := chk_c hk30
  refine gk_callSH C o_L_act k_L_100 dL_tunes_433 (act_e hfl H30 (w := 1) (a := (1)) (b := (8)) (c := (6)) (d := (4)) rfl (by omega) (by omega) (by omega) (by omega) (by omega) (Nat.le_trans b30 (by omega)) e31) rfl rfl ⟨Nat.le_of_ble_eq_true rfl, Nat.le_of_ble_eq_true rfl⟩ ⟨by show _ + 9 ≤ 20000; omega, by show _ + 418 ≤ 900000; omega⟩ (by exact Nat.le_of_ble_eq_true rfl) (fun v31 h31 p31 => ?_)
  obtain ⟨rfl, H31⟩ := p31
  dsimp only [gk_push]
  clear e31 H30 hk30 b30
  refine gk_ldc C cn_L_91 dL_tunes_436 ?_
  refine gk_icmp_ne C (tgt := 715) (by omega) (by omega) dL_tunes_438 (by decide) (fun c_438 => ?_) (fun c_438 => ?_)
  · exact absurd c_438 (by omega)
  refine gk_aload_n C dL_tunes_441 rfl ?_
  refine gk_iconst C dL_tunes_442 ?_
  refine gk_iconst C dL_tunes_443 ?_
  refine gk_bipush C dL_tunes_444 (by decide) ?_
  refine gk_bipush C dL_tunes_446 (by decide) ?_
  refine gk_iconst C dL_tunes_448 ?_
  obtain ⟨σ32, e32, b32, hk32⟩ := chk_c hk31
  refine gk_callSH C o_L_act k_L_100 dL_tunes_449 (act_e hfl H31 (w := 1) (a := (1)) (b := (7)) (c := (6)) (d := (5)) rfl (by omega) (by omega) (by omega) (by omega) (by omega) (Nat.le_trans b31 (by omega)) e32) rfl rfl ⟨Nat.le_of_ble_eq_true rfl, Nat.le_of_ble_eq_true rfl⟩ ⟨by show _ + 9 ≤ 20000; omega, by show _ + 418 ≤ 900000; omega⟩ (by exact Nat.le_of_ble_eq_true rfl) (fun v32 h32 p32 => ?_)
  obtain ⟨rfl, H32⟩ := p32
  dsimp only [gk_push]
  clear e32 H31 hk31 b31
  refine gk_ldc C cn_L_91 dL_tunes_452 ?_
  refine gk_icmp_ne C (tgt := 715) (by omega) (by omega) dL_tunes_454 (by decide) (fun c_454 => ?_) (fun c_454 => ?_)
  · exact absurd c_454 (by omega)
  refine gk_aload_n C dL_tunes_457 rfl ?_
  refine gk_iconst C dL_tunes_458 ?_
  refine gk_iconst C dL_tunes_459 ?_
  refine gk_iconst C dL_tunes_460 ?_
  refine gk_bipush C dL_tunes_461 (by decide) ?_
  refine gk_bipush C dL_tunes_463 (by decide) ?_
  obtain ⟨σ33, e33, b33, hk33⟩ := chk_c hk32
  refine gk_callSH C o_L_act k_L_100 dL_tunes_465 (act_e hfl H32 (w := 1) (a := (1)) (b := (0)) (c := (6)) (d := (6)) rfl (by omega) (by omega) (by omega) (by omega) (by omega) (Nat.le_trans b32 (by omega)) e33) rfl rfl ⟨Nat.le_of_ble_eq_true rfl, Nat.le_of_ble_eq_true rfl⟩ ⟨by show _ + 9 ≤ 20000; omega, by show _ + 418 ≤ 900000; omega⟩ (by exact Nat.le_of_ble_eq_true rfl) (fun v33 h33 p33 => ?_)
  obtain ⟨rfl, H33⟩ := p33
  dsimp only [gk_push]
  clear e33 H32 hk32 b32
  refine gk_ldc C cn_L_91 dL_tunes_468 ?_
  refine gk_icmp_ne C (tgt := 715) (by omega) (by omega) dL_tunes_470 (by decide) (fun c_470 => ?_) (fun c_470 => ?_)
  · exact absurd c_470 (by omega)
  refine gk_aload_n C dL_tunes_473 rfl ?_
  refine gk_iconst C dL_tunes_474 ?_
  refine gk_iconst C dL_tunes_475 ?_
  refine gk_iconst C dL_tunes_476 ?_
  refine gk_bipush C dL_tunes_477 (by decide) ?_
  refine gk_bipush C dL_tunes_479 (by decide) ?_
  obtain ⟨σ34, e34, b34, hk34⟩ := chk_c hk33
  refine gk_callSH C o_L_act k_L_100 dL_tunes_481 (act_e hfl H33 (w := 1) (a := (1)) (b := (5)) (c := (6)) (d := (7)) rfl (by omega) (by omega) (by omega) (by omega) (by omega) (Nat.le_trans b33 (by omega)) e34) rfl rfl ⟨Nat.le_of_ble_eq_true rfl, Nat.le_of_ble_eq_true rfl⟩ ⟨by show _ + 9 ≤ 20000; omega, by show _ + 418 ≤ 900000; omega⟩ (by exact Nat.le_of_ble_eq_true rfl) (fun v34 h34 p34 => ?_)
  obtain ⟨rfl, H34⟩ := p34
  dsimp only [gk_push]
  clear e34 H33 hk33 b33
  refine gk_ldc C cn_L_91 dL_tunes_484 ?_
  refine gk_icmp_ne C (tgt := 715) (by omega) (by omega) dL_tunes_486 (by decide) (fun c_486 => ?_) (fun c_486 => ?_)
  · exact absurd c_486 (by omega)
  refine gk_aload_n C dL_tunes_489 rfl ?_
  refine gk_iconst C dL_tunes_490 ?_
  refine gk_iconst C dL_tunes_491 ?_
  refine gk_iconst C dL_tunes_492 ?_
  refine gk_bipush C dL_tunes_493 (by decide) ?_
  refine gk_bipush C dL_tunes_495 (by decide) ?_
  obtain ⟨σ35, e35, b35, hk35⟩ := chk_c hk34
  refine gk_callSH C o_L_act k_L_100 dL_tunes_497 (act_e hfl H34 (w := 1) (a := (1)) (b := (2)) (c := (6)) (d := (8)) rfl (by omega) (by omega) (by omega) (by omega) (by omega) (Nat.le_trans b34 (by omega)) e35) rfl rfl ⟨Nat.le_of_ble_eq_true rfl, Nat.le_of_ble_eq_true rfl⟩ ⟨by show _ + 9 ≤ 20000; omega, by show _ + 418 ≤ 900000; omega⟩ (by exact Nat.le_of_ble_eq_true rfl) (fun v35 h35 p35 => ?_)
  obtain ⟨rfl, H35⟩ := p35
  dsimp only [gk_push]
  clear e35 H34 hk34 b34
  refine gk_ldc C cn_L_91 dL_tunes_500 ?_
  refine gk_icmp_ne C (tgt := 715) (by omega) (by omega) dL_tunes_502 (by decide) (fun c_502 => ?_) (fun c_502 => ?_)
  · exact absurd c_502 (by omega)
  refine gk_aload_n C dL_tunes_505 rfl ?_
  refine gk_iconst C dL_tunes_506 ?_
  refine gk_iconst C dL_tunes_507 ?_
  refine gk_iconst C dL_tunes_508 ?_
  refine gk_bipush C dL_tunes_509 (by decide) ?_
  refine gk_iconst C dL_tunes_511 ?_
  obtain ⟨σ36, e36, b36, hk36⟩ := chk_c hk35
  refine gk_callSH C o_L_act k_L_100 dL_tunes_512 (act_e hfl H35 (w := 1) (a := (1)) (b := (4)) (c := (6)) (d := (1)) rfl (by omega) (by omega) (by omega) (by omega) (by omega) (Nat.le_trans b35 (by omega)) e36) rfl rfl ⟨Nat.le_of_ble_eq_true rfl, Nat.le_of_ble_eq_true rfl⟩ ⟨by show _ + 9 ≤ 20000; omega, by show _ + 418 ≤ 900000; omega⟩ (by exact Nat.le_of_ble_eq_true rfl) (fun v36 h36 p36 => ?_)
  obtain ⟨rfl, H36⟩ := p36
  dsimp only [gk_push]
  clear e36 H35 hk35 b35
  refine gk_ldc C cn_L_91 dL_tunes_515 ?_
  refine gk_icmp_ne C (tgt := 715) (by omega) (by omega) dL_tunes_517 (by decide) (fun c_517 => ?_) (fun c_517 => ?_)
  · exact absurd c_517 (by omega)
  refine gk_aload_n C dL_tunes_520 rfl ?_
  refine gk_iconst C dL_tunes_521 ?_
  refine gk_iconst C dL_tunes_522 ?_
  refine gk_iconst C dL_tunes_523 ?_
  refine gk_bipush C dL_tunes_524 (by decide) ?_
  refine gk_iconst C dL_tunes_526 ?_
  obtain ⟨σ37, e37, b37, hk37⟩ := chk_c hk36
  refine gk_callSH C o_L_act k_L_100 dL_tunes_527 (act_e hfl H36 (w := 1) (a := (1)) (b := (5)) (c := (6)) (d := (2)) rfl (by omega) (by omega) (by omega) (by omega) (by omega) (Nat.le_trans b36 (by omega)) e37) rfl rfl ⟨Nat.le_of_ble_eq_true rfl, Nat.le_of_ble_eq_true rfl⟩ ⟨by show _ + 9 ≤ 20000; omega, by show _ + 418 ≤ 900000; omega⟩ (by exact Nat.le_of_ble_eq_true rfl) (fun v37 h37 p37 => ?_)
  obtain ⟨rfl, H37⟩ := p37
  dsimp only [gk_push]
  clear e37 H36 hk36 b36
  refine gk_ldc C cn_L_91 dL_tunes_530 ?_
  refine gk_icmp_ne C (tgt := 715) (by omega) (by omega) dL_tunes_532 (by decide) (fun c_532 => ?_) (fun c_532 => ?_)
  · exact absurd c_532 (by omega)
  refine gk_aload_n C dL_tunes_535 rfl ?_
  refine gk_iconst C dL_tunes_536 ?_
  refine gk_iconst C dL_tunes_537 ?_
  refine gk_bipush C dL_tunes_538 (by decide) ?_
  refine gk_iconst C dL_tunes_540 ?_
  obtain ⟨σ38, e38, b38, hk38⟩ := chk_c hk37
  obtain ⟨fs38, ob38⟩ := H37.obj
  refine gk_callV C o_X4_note k_L_13 dL_tunes_541 (HC.dir (h_note hfl H37 (t := (1)) (a := (2)) (b := (6)) (g := (0)) (by omega) (by omega) (by omega) (by omega)) e38 (by omega)) ob38 rfl rfl rfl ⟨Nat.le_of_ble_eq_true rfl, Nat.le_of_ble_eq_true rfl⟩ ⟨by show _ + 3 ≤ 20000; omega, by show _ + 18 ≤ 900000; omega⟩ (by exact Nat.le_of_ble_eq_true rfl) (fun _ _ z => z.elim) (fun v38 h38 p38 => ?_)
  obtain ⟨rfl, H38⟩ := p38
  dsimp only [gk_push]
  clear e38 ob38 H37 hk37 b37
  refine gk_iconst C dL_tunes_544 ?_
  refine gk_icmp_ne C (tgt := 715) (by omega) (by omega) dL_tunes_545 (by decide) (fun c_545 => ?_) (fun c_545 => ?_)
  · exact absurd c_545 (by omega)
  refine gk_aload_n C dL_tunes_548 rfl ?_
  refine gk_iconst C dL_tunes_549 ?_
  refine gk_iconst C dL_tunes_550 ?_
  obtain ⟨σ39, e39, b39, hk39⟩ := chk_c hk38
  obtain ⟨fs39, ob39⟩ := H38.obj
  refine gk_callV C o_X4_part k_L_17 dL_tunes_551 (HC.dir (h_part hfl H38 (t := (1)) (rep := (1)) (by omega) (by omega)) e39 (by omega)) ob39 rfl rfl rfl ⟨Nat.le_of_ble_eq_true rfl, Nat.le_of_ble_eq_true rfl⟩ ⟨by show _ + 2 ≤ 20000; omega, by show _ + 12 ≤ 900000; omega⟩ (by exact Nat.le_of_ble_eq_true rfl) (fun _ _ z => z.elim) (fun v39 h39 p39 => ?_)
  obtain ⟨rfl, H39⟩ := p39
  dsimp only [gk_push]
  clear e39 ob39 H38 hk38 b38
  refine gk_iconst C dL_tunes_554 ?_
  refine gk_icmp_ne C (tgt := 715) (by omega) (by omega) dL_tunes_555 (by decide) (fun c_555 => ?_) (fun c_555 => ?_)
  · exact absurd c_555 (by omega)
  refine gk_aload_n C dL_tunes_558 rfl ?_
  refine gk_iconst C dL_tunes_559 ?_
  refine gk_iconst C dL_tunes_560 ?_
  refine gk_iconst C dL_tunes_561 ?_
  refine gk_bipush C dL_tunes_562 (by decide) ?_
  refine gk_iconst C dL_tunes_564 ?_
  refine gk_iconst C dL_tunes_565 ?_
  refine gk_iconst C dL_tunes_566 ?_
  refine gk_iconst C dL_tunes_567 ?_
  refine gk_callS C o_L_tune k_L_111 dL_tunes_568 (r_tune hfl H39 (by omega) (by omega) (by omega) (by omega) (by omega) (by omega) (by omega) (by omega) hk39) rfl rfl ⟨Nat.le_of_ble_eq_true rfl, Nat.le_of_ble_eq_true rfl⟩ ⟨by show _ + 14 ≤ 20000; omega, by show _ + 84 ≤ 900000; omega⟩ (by exact Nat.le_of_ble_eq_true rfl) (fun _ _ z => z.elim) (fun v40 h40 p40 => ?_)
  obtain ⟨rfl, σ40, H40, hk40, b40⟩ := p40
  dsimp only [gk_push]
  clear H39 hk39 b39
  refine gk_if_eq C (tgt := 715) (by omega) dL_tunes_571 (by decide) (fun c_571 => ?_) (fun c_571 => ?_)
  · exact absurd c_571 (by omega)
  refine gk_aload_n C dL_tunes_574 rfl ?_
  refine gk_iconst C dL_tunes_575 ?_
  obtain ⟨σ41, e41, b41, hk41⟩ := chk_c hk40
  obtain ⟨fs41, ob41⟩ := H40.obj
  refine gk_callV C o_X4_tune k_L_7 dL_tunes_576 (HC.dir (h_tune hfl H40 (z := (2)) (by omega)) e41 (by omega)) ob41 rfl rfl rfl ⟨Nat.le_of_ble_eq_true rfl, Nat.le_of_ble_eq_true rfl⟩ ⟨by show _ + 9 ≤ 20000; omega, by show _ + 418 ≤ 900000; omega⟩ (by exact Nat.le_of_ble_eq_true rfl) (fun _ _ z => z.elim) (fun v41 h41 p41 => ?_)
  obtain ⟨rfl, H41⟩ := p41
  dsimp only [gk_push]
  clear e41 ob41 H40 hk40 b40
  refine gk_iconst C dL_tunes_579 ?_
  refine gk_icmp_ne C (tgt := 715) (by omega) (by omega) dL_tunes_580 (by decide) (fun c_580 => ?_) (fun c_580 => ?_)
  · exact absurd c_580 (by omega)
  refine gk_aload_n C dL_tunes_583 rfl ?_
  refine gk_bipush C dL_tunes_584 (by decide) ?_
  refine gk_iconst C dL_tunes_586 ?_
  refine gk_bipush C dL_tunes_587 (by decide) ?_
  refine gk_iconst C dL_tunes_589 ?_
  refine gk_iconst C dL_tunes_590 ?_
  obtain ⟨σ42, e42, b42, hk42⟩ := chk_c hk41
  refine gk_callSH C o_L_act k_L_100 dL_tunes_591 (act_e hfl H41 (w := 7) (a := (2)) (b := (100)) (c := (0)) (d := (0)) rfl (by omega) (by omega) (by omega) (by omega) (by omega) (Nat.le_trans b41 (by omega)) e42) rfl rfl ⟨Nat.le_of_ble_eq_true rfl, Nat.le_of_ble_eq_true rfl⟩ ⟨by show _ + 9 ≤ 20000; omega, by show _ + 418 ≤ 900000; omega⟩ (by exact Nat.le_of_ble_eq_true rfl) (fun v42 h42 p42 => ?_)
  obtain ⟨rfl, H42⟩ := p42
  dsimp only [gk_push]
  clear e42 H41 hk41 b41
  refine gk_ldc C cn_L_91 dL_tunes_594 ?_
  refine gk_icmp_ne C (tgt := 715) (by omega) (by omega) dL_tunes_596 (by decide) (fun c_596 => ?_) (fun c_596 => ?_)
  · exact absurd c_596 (by omega)
  refine gk_aload_n C dL_tunes_599 rfl ?_
  refine gk_iconst C dL_tunes_600 ?_
  refine gk_iconst C dL_tunes_601 ?_
  refine gk_iconst C dL_tunes_602 ?_
  refine gk_iconst C dL_tunes_603 ?_
  obtain ⟨σ43, e43, b43, hk43⟩ := chk_c hk42
  obtain ⟨fs43, ob43⟩ := H42.obj
  refine gk_callV C o_X4_note k_L_13 dL_tunes_604 (HC.dir (h_note hfl H42 (t := (2)) (a := (1)) (b := (2)) (g := (0)) (by omega) (by omega) (by omega) (by omega)) e43 (by omega)) ob43 rfl rfl rfl ⟨Nat.le_of_ble_eq_true rfl, Nat.le_of_ble_eq_true rfl⟩ ⟨by show _ + 3 ≤ 20000; omega, by show _ + 18 ≤ 900000; omega⟩ (by exact Nat.le_of_ble_eq_true rfl) (fun _ _ z => z.elim) (fun v43 h43 p43 => ?_)
  obtain ⟨rfl, H43⟩ := p43
  dsimp only [gk_push]
  clear e43 ob43 H42 hk42 b42
  refine gk_iconst C dL_tunes_607 ?_
  refine gk_icmp_ne C (tgt := 715) (by omega) (by omega) dL_tunes_608 (by decide) (fun c_608 => ?_) (fun c_608 => ?_)
  · exact absurd c_608 (by omega)
  refine gk_aload_n C dL_tunes_611 rfl ?_
  refine gk_iconst C dL_tunes_612 ?_
  refine gk_iconst C dL_tunes_613 ?_
  refine gk_iconst C dL_tunes_614 ?_
  refine gk_iconst C dL_tunes_615 ?_
  obtain ⟨σ44, e44, b44, hk44⟩ := chk_c hk43
  obtain ⟨fs44, ob44⟩ := H43.obj
  refine gk_callV C o_X4_note k_L_13 dL_tunes_616 (HC.dir (h_note hfl H43 (t := (2)) (a := (0)) (b := (2)) (g := (0)) (by omega) (by omega) (by omega) (by omega)) e44 (by omega)) ob44 rfl rfl rfl ⟨Nat.le_of_ble_eq_true rfl, Nat.le_of_ble_eq_true rfl⟩ ⟨by show _ + 3 ≤ 20000; omega, by show _ + 18 ≤ 900000; omega⟩ (by exact Nat.le_of_ble_eq_true rfl) (fun _ _ z => z.elim) (fun v44 h44 p44 => ?_)
  obtain ⟨rfl, H44⟩ := p44
  dsimp only [gk_push]
  clear e44 ob44 H43 hk43 b43
  refine gk_iconst C dL_tunes_619 ?_
  refine gk_icmp_ne C (tgt := 715) (by omega) (by omega) dL_tunes_620 (by decide) (fun c_620 => ?_) (fun c_620 => ?_)
  · exact absurd c_620 (by omega)
  refine gk_aload_n C dL_tunes_623 rfl ?_
  refine gk_iconst C dL_tunes_624 ?_
  refine gk_iconst C dL_tunes_625 ?_
  refine gk_iconst C dL_tunes_626 ?_
  refine gk_iconst C dL_tunes_627 ?_
  obtain ⟨σ45, e45, b45, hk45⟩ := chk_c hk44
  obtain ⟨fs45, ob45⟩ := H44.obj
  refine gk_callV C o_X4_note k_L_13 dL_tunes_628 (HC.dir (h_note hfl H44 (t := (2)) (a := (4)) (b := (4)) (g := (0)) (by omega) (by omega) (by omega) (by omega)) e45 (by omega)) ob45 rfl rfl rfl ⟨Nat.le_of_ble_eq_true rfl, Nat.le_of_ble_eq_true rfl⟩ ⟨by show _ + 3 ≤ 20000; omega, by show _ + 18 ≤ 900000; omega⟩ (by exact Nat.le_of_ble_eq_true rfl) (fun _ _ z => z.elim) (fun v45 h45 p45 => ?_)
  obtain ⟨rfl, H45⟩ := p45
  dsimp only [gk_push]
  clear e45 ob45 H44 hk44 b44
  refine gk_iconst C dL_tunes_631 ?_
  refine gk_icmp_ne C (tgt := 715) (by omega) (by omega) dL_tunes_632 (by decide) (fun c_632 => ?_) (fun c_632 => ?_)
  · exact absurd c_632 (by omega)
  refine gk_aload_n C dL_tunes_635 rfl ?_
  refine gk_iconst C dL_tunes_636 ?_
  refine gk_iconst C dL_tunes_637 ?_
  obtain ⟨σ46, e46, b46, hk46⟩ := chk_c hk45
  obtain ⟨fs46, ob46⟩ := H45.obj
  refine gk_callV C o_X4_part k_L_17 dL_tunes_638 (HC.dir (h_part hfl H45 (t := (2)) (rep := (0)) (by omega) (by omega)) e46 (by omega)) ob46 rfl rfl rfl ⟨Nat.le_of_ble_eq_true rfl, Nat.le_of_ble_eq_true rfl⟩ ⟨by show _ + 2 ≤ 20000; omega, by show _ + 12 ≤ 900000; omega⟩ (by exact Nat.le_of_ble_eq_true rfl) (fun _ _ z => z.elim) (fun v46 h46 p46 => ?_)
  obtain ⟨rfl, H46⟩ := p46
  dsimp only [gk_push]
  clear e46 ob46 H45 hk45 b45
  refine gk_iconst C dL_tunes_641 ?_
  refine gk_icmp_ne C (tgt := 715) (by omega) (by omega) dL_tunes_642 (by decide) (fun c_642 => ?_) (fun c_642 => ?_)
  · exact absurd c_642 (by omega)
  refine gk_aload_n C dL_tunes_645 rfl ?_
  refine gk_iconst C dL_tunes_646 ?_
  refine gk_iconst C dL_tunes_647 ?_
  obtain ⟨σ47, e47, b47, hk47⟩ := chk_c hk46
  obtain ⟨fs47, ob47⟩ := H46.obj
  refine gk_callV C o_X4_alike k_L_29 dL_tunes_648 (HC.dir (h_alike hfl H46 (t := (0)) (u := (1)) (by omega) (by omega)) e47 (by omega)) ob47 rfl rfl rfl ⟨Nat.le_of_ble_eq_true rfl, Nat.le_of_ble_eq_true rfl⟩ ⟨by show _ + 2 ≤ 20000; omega, by show _ + 12 ≤ 900000; omega⟩ (by exact Nat.le_of_ble_eq_true rfl) (fun _ _ z => z.elim) (fun v47 h47 p47 => ?_)
  obtain ⟨rfl, H47⟩ := p47
  dsimp only [gk_push]
  clear e47 ob47 H46 hk46 b46
  refine gk_if_ne C (tgt := 715) (by omega) dL_tunes_651 (by decide) (fun c_651 => ?_) (fun c_651 => ?_)
  · exact absurd c_651 (by omega)
  refine gk_aload_n C dL_tunes_654 rfl ?_
  refine gk_iconst C dL_tunes_655 ?_
  refine gk_iconst C dL_tunes_656 ?_
  obtain ⟨σ48, e48, b48, hk48⟩ := chk_c hk47
  obtain ⟨fs48, ob48⟩ := H47.obj
  refine gk_callV C o_X4_alike k_L_29 dL_tunes_657 (HC.dir (h_alike hfl H47 (t := (0)) (u := (0)) (by omega) (by omega)) e48 (by omega)) ob48 rfl rfl rfl ⟨Nat.le_of_ble_eq_true rfl, Nat.le_of_ble_eq_true rfl⟩ ⟨by show _ + 2 ≤ 20000; omega, by show _ + 12 ≤ 900000; omega⟩ (by exact Nat.le_of_ble_eq_true rfl) (fun _ _ z => z.elim) (fun v48 h48 p48 => ?_)
  obtain ⟨rfl, H48⟩ := p48
  dsimp only [gk_push]
  clear e48 ob48 H47 hk47 b47
  refine gk_bipush C dL_tunes_660 (by decide) ?_
  refine gk_icmp_ne C (tgt := 715) (by omega) (by omega) dL_tunes_662 (by decide) (fun c_662 => ?_) (fun c_662 => ?_)
  · exact absurd c_662 (by omega)
  refine gk_aload_n C dL_tunes_665 rfl ?_
  refine gk_iconst C dL_tunes_666 ?_
  refine gk_iconst C dL_tunes_667 ?_
  obtain ⟨σ49, e49, b49, hk49⟩ := chk_c hk48
  obtain ⟨fs49, ob49⟩ := H48.obj
  refine gk_callV C o_X4_alikeAnew k_L_32 dL_tunes_668 (HC.dir (h_alikeAnew hfl H48 (t := (0)) (u := (0)) (by omega) (by omega)) e49 (by omega)) ob49 rfl rfl rfl ⟨Nat.le_of_ble_eq_true rfl, Nat.le_of_ble_eq_true rfl⟩ ⟨by show _ + 2 ≤ 20000; omega, by show _ + 12 ≤ 900000; omega⟩ (by exact Nat.le_of_ble_eq_true rfl) (fun _ _ z => z.elim) (fun v49 h49 p49 => ?_)
  obtain ⟨rfl, H49⟩ := p49
  dsimp only [gk_push]
  clear e49 ob49 H48 hk48 b48
  refine gk_bipush C dL_tunes_671 (by decide) ?_
  refine gk_icmp_ne C (tgt := 715) (by omega) (by omega) dL_tunes_673 (by decide) (fun c_673 => ?_) (fun c_673 => ?_)
  · exact absurd c_673 (by omega)
  refine gk_aload_n C dL_tunes_676 rfl ?_
  refine gk_iconst C dL_tunes_677 ?_
  refine gk_iconst C dL_tunes_678 ?_
  obtain ⟨σ50, e50, b50, hk50⟩ := chk_c hk49
  obtain ⟨fs50, ob50⟩ := H49.obj
  refine gk_callV C o_X4_alike k_L_29 dL_tunes_679 (HC.dir (h_alike hfl H49 (t := (0)) (u := (2)) (by omega) (by omega)) e50 (by omega)) ob50 rfl rfl rfl ⟨Nat.le_of_ble_eq_true rfl, Nat.le_of_ble_eq_true rfl⟩ ⟨by show _ + 2 ≤ 20000; omega, by show _ + 12 ≤ 900000; omega⟩ (by exact Nat.le_of_ble_eq_true rfl) (fun _ _ z => z.elim) (fun v50 h50 p50 => ?_)
  obtain ⟨rfl, H50⟩ := p50
  dsimp only [gk_push]
  clear e50 ob50 H49 hk49 b49
  refine gk_iconst C dL_tunes_682 ?_
  refine gk_icmp_ne C (tgt := 715) (by omega) (by omega) dL_tunes_683 (by decide) (fun c_683 => ?_) (fun c_683 => ?_)
  · exact absurd c_683 (by omega)
  refine gk_aload_n C dL_tunes_686 rfl ?_
  refine gk_iconst C dL_tunes_687 ?_
  refine gk_iconst C dL_tunes_688 ?_
  obtain ⟨σ51, e51, b51, hk51⟩ := chk_c hk50
  obtain ⟨fs51, ob51⟩ := H50.obj
  refine gk_callV C o_X4_alike k_L_29 dL_tunes_689 (HC.dir (h_alike hfl H50 (t := (2)) (u := (0)) (by omega) (by omega)) e51 (by omega)) ob51 rfl rfl rfl ⟨Nat.le_of_ble_eq_true rfl, Nat.le_of_ble_eq_true rfl⟩ ⟨by show _ + 2 ≤ 20000; omega, by show _ + 12 ≤ 900000; omega⟩ (by exact Nat.le_of_ble_eq_true rfl) (fun _ _ z => z.elim) (fun v51 h51 p51 => ?_)
  obtain ⟨rfl, H51⟩ := p51
  dsimp only [gk_push]
  clear e51 ob51 H50 hk50 b50
  refine gk_iconst C dL_tunes_692 ?_
  refine gk_icmp_ne C (tgt := 715) (by omega) (by omega) dL_tunes_693 (by decide) (fun c_693 => ?_) (fun c_693 => ?_)
  · exact absurd c_693 (by omega)
  refine gk_aload_n C dL_tunes_696 rfl ?_
  refine gk_iconst C dL_tunes_697 ?_
  refine gk_iconst C dL_tunes_698 ?_
  obtain ⟨σ52, e52, b52, hk52⟩ := chk_c hk51
  obtain ⟨fs52, ob52⟩ := H51.obj
  refine gk_callV C o_X4_alikeAnew k_L_32 dL_tunes_699 (HC.dir (h_alikeAnew hfl H51 (t := (0)) (u := (2)) (by omega) (by omega)) e52 (by omega)) ob52 rfl rfl rfl ⟨Nat.le_of_ble_eq_true rfl, Nat.le_of_ble_eq_true rfl⟩ ⟨by show _ + 2 ≤ 20000; omega, by show _ + 12 ≤ 900000; omega⟩ (by exact Nat.le_of_ble_eq_true rfl) (fun _ _ z => z.elim) (fun v52 h52 p52 => ?_)
  obtain ⟨rfl, H52⟩ := p52
  dsimp only [gk_push]
  clear e52 ob52 H51 hk51 b51
  refine gk_iconst C dL_tunes_702 ?_
  refine gk_icmp_ne C (tgt := 715) (by omega) (by omega) dL_tunes_703 (by decide) (fun c_703 => ?_) (fun c_703 => ?_)
  · exact absurd c_703 (by omega)
  refine gk_aload_n C dL_tunes_706 rfl ?_
  refine gk_iconst C dL_tunes_707 ?_
  refine gk_iconst C dL_tunes_708 ?_
  obtain ⟨σ53, e53, b53, hk53⟩ := chk_c hk52
  obtain ⟨fs53, ob53⟩ := H52.obj
  refine gk_callV C o_X4_alikeAnew k_L_32 dL_tunes_709 (HC.dir (h_alikeAnew hfl H52 (t := (2)) (u := (1)) (by omega) (by omega)) e53 (by omega)) ob53 rfl rfl rfl ⟨Nat.le_of_ble_eq_true rfl, Nat.le_of_ble_eq_true rfl⟩ ⟨by show _ + 2 ≤ 20000; omega, by show _ + 12 ≤ 900000; omega⟩ (by exact Nat.le_of_ble_eq_true rfl) (fun _ _ z => z.elim) (fun v53 h53 p53 => ?_)
  obtain ⟨rfl, H53⟩ := p53
  dsimp only [gk_push]
  clear e53 ob53 H52 hk52 b52
  refine gk_if_eq C (tgt := 717) (by omega) dL_tunes_712 (by decide) (fun c_712 => ?_) (fun c_712 => ?_)
  rotate_left
  · exact absurd c_712 (by omega)
  refine gk_aload_n C dL_tunes_717 rfl ?_
  obtain ⟨σ54, e54, b54, hk54⟩ := chk_c hk53
  obtain ⟨fs54, ob54⟩ := H53.obj
  refine gk_callV C o_X4_time k_L_96 dL_tunes_718 (time_d (h_time hfl H53  ) e54) ob54 rfl rfl rfl ⟨Nat.le_of_ble_eq_true rfl, Nat.le_of_ble_eq_true rfl⟩ ⟨by show _ + 0 ≤ 20000; omega, by show _ + 0 ≤ 900000; omega⟩ (by exact Nat.le_of_ble_eq_true rfl) (fun _ _ z => z.elim) (fun v54 h54 p54 => ?_)
  obtain ⟨rfl, H54⟩ := p54
  dsimp only [gk_push]
  clear e54 ob54 H53 hk53 b53
  refine gk_lconst C (z := 0) dL_tunes_721 (by decide) ?_
  refine gk_lcmp C (by omega) (by omega) dL_tunes_722 (fun z55 z55a z55b z55c => ?_)
  refine gk_if_ne C (tgt := 1001) (by omega) dL_tunes_723 (by decide) (fun c_723 => ?_) (fun c_723 => ?_)
  · exact absurd c_723 (by omega)
  refine gk_aload_n C dL_tunes_726 rfl ?_
  refine gk_iconst C dL_tunes_727 ?_
  refine gk_bipush C dL_tunes_728 (by decide) ?_
  obtain ⟨σ56, e56, b56, hk56⟩ := chk_c hk54
  obtain ⟨fs56, ob56⟩ := H54.obj
  refine gk_callV C o_X4_follow k_L_35 dL_tunes_730 (HC.dir (h_follow hfl H54 (t := (2)) (tp := (100)) (by omega) (by omega)) e56 (by omega)) ob56 rfl rfl rfl ⟨Nat.le_of_ble_eq_true rfl, Nat.le_of_ble_eq_true rfl⟩ ⟨by show _ + 4 ≤ 20000; omega, by show _ + 28 ≤ 900000; omega⟩ (by exact Nat.le_of_ble_eq_true rfl) (fun _ _ z => z.elim) (fun v56 h56 p56 => ?_)
  obtain ⟨rfl, H56⟩ := p56
  dsimp only [gk_push]
  clear e56 ob56 H54 hk54 b54
  refine gk_iconst C dL_tunes_733 ?_
  refine gk_icmp_ne C (tgt := 1001) (by omega) (by omega) dL_tunes_734 (by decide) (fun c_734 => ?_) (fun c_734 => ?_)
  · exact absurd c_734 (by omega)
  refine gk_aload_n C dL_tunes_737 rfl ?_
  obtain ⟨σ57, e57, b57, hk57⟩ := chk_c hk56
  obtain ⟨fs57, ob57⟩ := H56.obj
  refine gk_callV C o_X4_time k_L_96 dL_tunes_738 (time_d (h_time hfl H56  ) e57) ob57 rfl rfl rfl ⟨Nat.le_of_ble_eq_true rfl, Nat.le_of_ble_eq_true rfl⟩ ⟨by show _ + 0 ≤ 20000; omega, by show _ + 0 ≤ 900000; omega⟩ (by exact Nat.le_of_ble_eq_true rfl) (fun _ _ z => z.elim) (fun v57 h57 p57 => ?_)
  obtain ⟨rfl, H57⟩ := p57
  dsimp only [gk_push]
  clear e57 ob57 H56 hk56 b56
  refine gk_ldc2 C cn_L_117 dL_tunes_741 ?_
  refine gk_lcmp C (by omega) (by omega) dL_tunes_744 (fun z58 z58a z58b z58c => ?_)
  refine gk_if_ne C (tgt := 1001) (by omega) dL_tunes_745 (by decide) (fun c_745 => ?_) (fun c_745 => ?_)
  · exact absurd c_745 (by omega)
  refine gk_aload_n C dL_tunes_748 rfl ?_
  refine gk_iconst C dL_tunes_749 ?_
  refine gk_bipush C dL_tunes_750 (by decide) ?_
  obtain ⟨σ59, e59, b59, hk59⟩ := chk_c hk57
  obtain ⟨fs59, ob59⟩ := H57.obj
  refine gk_callV C o_X4_follow k_L_35 dL_tunes_752 (HC.dir (h_follow hfl H57 (t := (0)) (tp := (50)) (by omega) (by omega)) e59 (by omega)) ob59 rfl rfl rfl ⟨Nat.le_of_ble_eq_true rfl, Nat.le_of_ble_eq_true rfl⟩ ⟨by show _ + 4 ≤ 20000; omega, by show _ + 28 ≤ 900000; omega⟩ (by exact Nat.le_of_ble_eq_true rfl) (fun _ _ z => z.elim) (fun v59 h59 p59 => ?_)
  obtain ⟨rfl, H59⟩ := p59
  dsimp only [gk_push]
  clear e59 ob59 H57 hk57 b57
  refine gk_iconst C dL_tunes_755 ?_
  refine gk_icmp_ne C (tgt := 1001) (by omega) (by omega) dL_tunes_756 (by decide) (fun c_756 => ?_) (fun c_756 => ?_)
  · exact absurd c_756 (by omega)
  refine gk_aload_n C dL_tunes_759 rfl ?_
  refine gk_bipush C dL_tunes_760 (by decide) ?_
  refine gk_iconst C dL_tunes_762 ?_
  refine gk_bipush C dL_tunes_763 (by decide) ?_
  refine gk_iconst C dL_tunes_765 ?_
  refine gk_iconst C dL_tunes_766 ?_
  obtain ⟨σ60, e60, b60, hk60⟩ := chk_c hk59
  refine gk_callSH C o_L_act k_L_100 dL_tunes_767 (act_e hfl H59 (w := 7) (a := (0)) (b := (49)) (c := (0)) (d := (0)) rfl (by omega) (by omega) (by omega) (by omega) (by omega) (Nat.le_trans b59 (by omega)) e60) rfl rfl ⟨Nat.le_of_ble_eq_true rfl, Nat.le_of_ble_eq_true rfl⟩ ⟨by show _ + 9 ≤ 20000; omega, by show _ + 418 ≤ 900000; omega⟩ (by exact Nat.le_of_ble_eq_true rfl) (fun v60 h60 p60 => ?_)
  obtain ⟨rfl, H60⟩ := p60
  dsimp only [gk_push]
  clear e60 H59 hk59 b59
  refine gk_ldc C cn_L_91 dL_tunes_770 ?_
  refine gk_icmp_ne C (tgt := 1001) (by omega) (by omega) dL_tunes_772 (by decide) (fun c_772 => ?_) (fun c_772 => ?_)
  · exact absurd c_772 (by omega)
  refine gk_aload_n C dL_tunes_775 rfl ?_
  refine gk_iconst C dL_tunes_776 ?_
  refine gk_bipush C dL_tunes_777 (by decide) ?_
  obtain ⟨σ61, e61, b61, hk61⟩ := chk_c hk60
  obtain ⟨fs61, ob61⟩ := H60.obj
  refine gk_callV C o_X4_follow k_L_35 dL_tunes_779 (HC.dir (h_follow hfl H60 (t := (0)) (tp := (50)) (by omega) (by omega)) e61 (by omega)) ob61 rfl rfl rfl ⟨Nat.le_of_ble_eq_true rfl, Nat.le_of_ble_eq_true rfl⟩ ⟨by show _ + 4 ≤ 20000; omega, by show _ + 28 ≤ 900000; omega⟩ (by exact Nat.le_of_ble_eq_true rfl) (fun _ _ z => z.elim) (fun v61 h61 p61 => ?_)
  obtain ⟨rfl, H61⟩ := p61
  dsimp only [gk_push]
  clear e61 ob61 H60 hk60 b60
  refine gk_iconst C dL_tunes_782 ?_
  refine gk_icmp_ne C (tgt := 1001) (by omega) (by omega) dL_tunes_783 (by decide) (fun c_783 => ?_) (fun c_783 => ?_)
  · exact absurd c_783 (by omega)
  refine gk_aload_n C dL_tunes_786 rfl ?_
  refine gk_iconst C dL_tunes_787 ?_
  refine gk_bipush C dL_tunes_788 (by decide) ?_
  obtain ⟨σ62, e62, b62, hk62⟩ := chk_c hk61
  obtain ⟨fs62, ob62⟩ := H61.obj
  refine gk_callV C o_X4_follow k_L_35 dL_tunes_790 (HC.dir (h_follow hfl H61 (t := (2)) (tp := (30)) (by omega) (by omega)) e62 (by omega)) ob62 rfl rfl rfl ⟨Nat.le_of_ble_eq_true rfl, Nat.le_of_ble_eq_true rfl⟩ ⟨by show _ + 4 ≤ 20000; omega, by show _ + 28 ≤ 900000; omega⟩ (by exact Nat.le_of_ble_eq_true rfl) (fun _ _ z => z.elim) (fun v62 h62 p62 => ?_)
  obtain ⟨rfl, H62⟩ := p62
  dsimp only [gk_push]
  clear e62 ob62 H61 hk61 b61
  refine gk_iconst C dL_tunes_793 ?_
  refine gk_icmp_ne C (tgt := 1001) (by omega) (by omega) dL_tunes_794 (by decide) (fun c_794 => ?_) (fun c_794 => ?_)
  · exact absurd c_794 (by omega)
  refine gk_aload_n C dL_tunes_797 rfl ?_
  refine gk_iconst C dL_tunes_798 ?_
  refine gk_bipush C dL_tunes_799 (by decide) ?_
  obtain ⟨σ63, e63, b63, hk63⟩ := chk_c hk62
  obtain ⟨fs63, ob63⟩ := H62.obj
  refine gk_callV C o_X4_follow k_L_35 dL_tunes_801 (HC.dir (h_follow hfl H62 (t := (1)) (tp := (60)) (by omega) (by omega)) e63 (by omega)) ob63 rfl rfl rfl ⟨Nat.le_of_ble_eq_true rfl, Nat.le_of_ble_eq_true rfl⟩ ⟨by show _ + 4 ≤ 20000; omega, by show _ + 28 ≤ 900000; omega⟩ (by exact Nat.le_of_ble_eq_true rfl) (fun _ _ z => z.elim) (fun v63 h63 p63 => ?_)
  obtain ⟨rfl, H63⟩ := p63
  dsimp only [gk_push]
  clear e63 ob63 H62 hk62 b62
  refine gk_iconst C dL_tunes_804 ?_
  refine gk_icmp_ne C (tgt := 1001) (by omega) (by omega) dL_tunes_805 (by decide) (fun c_805 => ?_) (fun c_805 => ?_)
  · exact absurd c_805 (by omega)
  refine gk_aload_n C dL_tunes_808 rfl ?_
  refine gk_bipush C dL_tunes_809 (by decide) ?_
  refine gk_iconst C dL_tunes_811 ?_
  refine gk_bipush C dL_tunes_812 (by decide) ?_
  refine gk_iconst C dL_tunes_814 ?_
  refine gk_iconst C dL_tunes_815 ?_
  obtain ⟨σ64, e64, b64, hk64⟩ := chk_c hk63
  refine gk_callSH C o_L_act k_L_100 dL_tunes_816 (act_e hfl H63 (w := 7) (a := (1)) (b := (60)) (c := (0)) (d := (0)) rfl (by omega) (by omega) (by omega) (by omega) (by omega) (Nat.le_trans b63 (by omega)) e64) rfl rfl ⟨Nat.le_of_ble_eq_true rfl, Nat.le_of_ble_eq_true rfl⟩ ⟨by show _ + 9 ≤ 20000; omega, by show _ + 418 ≤ 900000; omega⟩ (by exact Nat.le_of_ble_eq_true rfl) (fun v64 h64 p64 => ?_)
  obtain ⟨rfl, H64⟩ := p64
  dsimp only [gk_push]
  clear e64 H63 hk63 b63
  refine gk_ldc C cn_L_91 dL_tunes_819 ?_
  refine gk_icmp_ne C (tgt := 1001) (by omega) (by omega) dL_tunes_821 (by decide) (fun c_821 => ?_) (fun c_821 => ?_)
  · exact absurd c_821 (by omega)
  refine gk_aload_n C dL_tunes_824 rfl ?_
  refine gk_bipush C dL_tunes_825 (by decide) ?_
  refine gk_iconst C dL_tunes_827 ?_
  refine gk_bipush C dL_tunes_828 (by decide) ?_
  refine gk_iconst C dL_tunes_830 ?_
  refine gk_iconst C dL_tunes_831 ?_
  obtain ⟨σ65, e65, b65, hk65⟩ := chk_c hk64
  refine gk_callSH C o_L_act k_L_100 dL_tunes_832 (act_e hfl H64 (w := 7) (a := (1)) (b := (59)) (c := (0)) (d := (0)) rfl (by omega) (by omega) (by omega) (by omega) (by omega) (Nat.le_trans b64 (by omega)) e65) rfl rfl ⟨Nat.le_of_ble_eq_true rfl, Nat.le_of_ble_eq_true rfl⟩ ⟨by show _ + 9 ≤ 20000; omega, by show _ + 418 ≤ 900000; omega⟩ (by exact Nat.le_of_ble_eq_true rfl) (fun v65 h65 p65 => ?_)
  obtain ⟨rfl, H65⟩ := p65
  dsimp only [gk_push]
  clear e65 H64 hk64 b64
  refine gk_ldc C cn_L_91 dL_tunes_835 ?_
  refine gk_icmp_ne C (tgt := 1001) (by omega) (by omega) dL_tunes_837 (by decide) (fun c_837 => ?_) (fun c_837 => ?_)
  · exact absurd c_837 (by omega)
  refine gk_aload_n C dL_tunes_840 rfl ?_
  obtain ⟨σ66, e66, b66, hk66⟩ := chk_c hk65
  obtain ⟨fs66, ob66⟩ := H65.obj
  refine gk_callV C o_X4_drop k_L_38 dL_tunes_841 (HC.dir (h_drop hfl H65  ) e66 (by omega)) ob66 rfl rfl rfl ⟨Nat.le_of_ble_eq_true rfl, Nat.le_of_ble_eq_true rfl⟩ ⟨by show _ + 1 ≤ 20000; omega, by show _ + 6 ≤ 900000; omega⟩ (by exact Nat.le_of_ble_eq_true rfl) (fun _ _ z => z.elim) (fun v66 h66 p66 => ?_)
  obtain ⟨rfl, H66⟩ := p66
  dsimp only [gk_push]
  clear e66 ob66 H65 hk65 b65
  refine gk_iconst C dL_tunes_844 ?_
  refine gk_icmp_ne C (tgt := 1001) (by omega) (by omega) dL_tunes_845 (by decide) (fun c_845 => ?_) (fun c_845 => ?_)
  · exact absurd c_845 (by omega)
  refine gk_aload_n C dL_tunes_848 rfl ?_
  obtain ⟨σ67, e67, b67, hk67⟩ := chk_c hk66
  obtain ⟨fs67, ob67⟩ := H66.obj
  refine gk_callV C o_X4_time k_L_96 dL_tunes_849 (time_d (h_time hfl H66  ) e67) ob67 rfl rfl rfl ⟨Nat.le_of_ble_eq_true rfl, Nat.le_of_ble_eq_true rfl⟩ ⟨by show _ + 0 ≤ 20000; omega, by show _ + 0 ≤ 900000; omega⟩ (by exact Nat.le_of_ble_eq_true rfl) (fun _ _ z => z.elim) (fun v67 h67 p67 => ?_)
  obtain ⟨rfl, H67⟩ := p67
  dsimp only [gk_push]
  clear e67 ob67 H66 hk66 b66
  refine gk_ldc2 C cn_L_119 dL_tunes_852 ?_
  refine gk_lcmp C (by omega) (by omega) dL_tunes_855 (fun z68 z68a z68b z68c => ?_)
  refine gk_if_ne C (tgt := 1001) (by omega) dL_tunes_856 (by decide) (fun c_856 => ?_) (fun c_856 => ?_)
  · exact absurd c_856 (by omega)
  refine gk_aload_n C dL_tunes_859 rfl ?_
  refine gk_iconst C dL_tunes_860 ?_
  refine gk_bipush C dL_tunes_861 (by decide) ?_
  obtain ⟨σ69, e69, b69, hk69⟩ := chk_c hk67
  obtain ⟨fs69, ob69⟩ := H67.obj
  refine gk_callV C o_X4_follow k_L_35 dL_tunes_863 (HC.dir (h_follow hfl H67 (t := (1)) (tp := (59)) (by omega) (by omega)) e69 (by omega)) ob69 rfl rfl rfl ⟨Nat.le_of_ble_eq_true rfl, Nat.le_of_ble_eq_true rfl⟩ ⟨by show _ + 4 ≤ 20000; omega, by show _ + 28 ≤ 900000; omega⟩ (by exact Nat.le_of_ble_eq_true rfl) (fun _ _ z => z.elim) (fun v69 h69 p69 => ?_)
  obtain ⟨rfl, H69⟩ := p69
  dsimp only [gk_push]
  clear e69 ob69 H67 hk67 b67
  refine gk_iconst C dL_tunes_866 ?_
  refine gk_icmp_ne C (tgt := 1001) (by omega) (by omega) dL_tunes_867 (by decide) (fun c_867 => ?_) (fun c_867 => ?_)
  · exact absurd c_867 (by omega)
  refine gk_aload_n C dL_tunes_870 rfl ?_
  obtain ⟨σ70, e70, b70, hk70⟩ := chk_c hk69
  obtain ⟨fs70, ob70⟩ := H69.obj
  refine gk_callV C o_X4_time k_L_96 dL_tunes_871 (time_d (h_time hfl H69  ) e70) ob70 rfl rfl rfl ⟨Nat.le_of_ble_eq_true rfl, Nat.le_of_ble_eq_true rfl⟩ ⟨by show _ + 0 ≤ 20000; omega, by show _ + 0 ≤ 900000; omega⟩ (by exact Nat.le_of_ble_eq_true rfl) (fun _ _ z => z.elim) (fun v70 h70 p70 => ?_)
  obtain ⟨rfl, H70⟩ := p70
  dsimp only [gk_push]
  clear e70 ob70 H69 hk69 b69
  refine gk_ldc2 C cn_L_121 dL_tunes_874 ?_
  refine gk_lcmp C (by omega) (by omega) dL_tunes_877 (fun z71 z71a z71b z71c => ?_)
  refine gk_if_ne C (tgt := 1001) (by omega) dL_tunes_878 (by decide) (fun c_878 => ?_) (fun c_878 => ?_)
  · exact absurd c_878 (by omega)
  refine gk_aload_n C dL_tunes_881 rfl ?_
  refine gk_iconst C dL_tunes_882 ?_
  refine gk_bipush C dL_tunes_883 (by decide) ?_
  refine gk_iconst C dL_tunes_885 ?_
  refine gk_iconst C dL_tunes_886 ?_
  obtain ⟨σ72, e72, b72, hk72⟩ := chk_c hk70
  obtain ⟨fs72, ob72⟩ := H70.obj
  refine gk_callV C o_X4_note k_L_13 dL_tunes_887 (HC.dir (h_note hfl H70 (t := (1)) (a := (8)) (b := (3)) (g := (0)) (by omega) (by omega) (by omega) (by omega)) e72 (by omega)) ob72 rfl rfl rfl ⟨Nat.le_of_ble_eq_true rfl, Nat.le_of_ble_eq_true rfl⟩ ⟨by show _ + 3 ≤ 20000; omega, by show _ + 18 ≤ 900000; omega⟩ (by exact Nat.le_of_ble_eq_true rfl) (fun _ _ z => z.elim) (fun v72 h72 p72 => ?_)
  obtain ⟨rfl, H72⟩ := p72
  dsimp only [gk_push]
  clear e72 ob72 H70 hk70 b70
  refine gk_iconst C dL_tunes_890 ?_
  refine gk_icmp_ne C (tgt := 1001) (by omega) (by omega) dL_tunes_891 (by decide) (fun c_891 => ?_) (fun c_891 => ?_)
  · exact absurd c_891 (by omega)
  refine gk_aload_n C dL_tunes_894 rfl ?_
  refine gk_iconst C dL_tunes_895 ?_
  refine gk_bipush C dL_tunes_896 (by decide) ?_
  refine gk_iconst C dL_tunes_898 ?_
  refine gk_iconst C dL_tunes_899 ?_
  obtain ⟨σ73, e73, b73, hk73⟩ := chk_c hk72
  obtain ⟨fs73, ob73⟩ := H72.obj
  refine gk_callV C o_X4_note k_L_13 dL_tunes_900 (HC.dir (h_note hfl H72 (t := (1)) (a := (7)) (b := (3)) (g := (0)) (by omega) (by omega) (by omega) (by omega)) e73 (by omega)) ob73 rfl rfl rfl ⟨Nat.le_of_ble_eq_true rfl, Nat.le_of_ble_eq_true rfl⟩ ⟨by show _ + 3 ≤ 20000; omega, by show _ + 18 ≤ 900000; omega⟩ (by exact Nat.le_of_ble_eq_true rfl) (fun _ _ z => z.elim) (fun v73 h73 p73 => ?_)
  obtain ⟨rfl, H73⟩ := p73
  dsimp only [gk_push]
  clear e73 ob73 H72 hk72 b72
  refine gk_iconst C dL_tunes_903 ?_
  refine gk_icmp_ne C (tgt := 1001) (by omega) (by omega) dL_tunes_904 (by decide) (fun c_904 => ?_) (fun c_904 => ?_)
  · exact absurd c_904 (by omega)
  refine gk_aload_n C dL_tunes_907 rfl ?_
  refine gk_iconst C dL_tunes_908 ?_
  refine gk_iconst C dL_tunes_909 ?_
  obtain ⟨σ74, e74, b74, hk74⟩ := chk_c hk73
  obtain ⟨fs74, ob74⟩ := H73.obj
  refine gk_callV C o_X4_part k_L_17 dL_tunes_910 (HC.dir (h_part hfl H73 (t := (1)) (rep := (0)) (by omega) (by omega)) e74 (by omega)) ob74 rfl rfl rfl ⟨Nat.le_of_ble_eq_true rfl, Nat.le_of_ble_eq_true rfl⟩ ⟨by show _ + 2 ≤ 20000; omega, by show _ + 12 ≤ 900000; omega⟩ (by exact Nat.le_of_ble_eq_true rfl) (fun _ _ z => z.elim) (fun v74 h74 p74 => ?_)
  obtain ⟨rfl, H74⟩ := p74
  dsimp only [gk_push]
  clear e74 ob74 H73 hk73 b73
  refine gk_iconst C dL_tunes_913 ?_
  refine gk_icmp_ne C (tgt := 1001) (by omega) (by omega) dL_tunes_914 (by decide) (fun c_914 => ?_) (fun c_914 => ?_)
  · exact absurd c_914 (by omega)
  refine gk_aload_n C dL_tunes_917 rfl ?_
  obtain ⟨σ75, e75, b75, hk75⟩ := chk_c hk74
  obtain ⟨fs75, ob75⟩ := H74.obj
  refine gk_callV C o_X4_time k_L_96 dL_tunes_918 (time_d (h_time hfl H74  ) e75) ob75 rfl rfl rfl ⟨Nat.le_of_ble_eq_true rfl, Nat.le_of_ble_eq_true rfl⟩ ⟨by show _ + 0 ≤ 20000; omega, by show _ + 0 ≤ 900000; omega⟩ (by exact Nat.le_of_ble_eq_true rfl) (fun _ _ z => z.elim) (fun v75 h75 p75 => ?_)
  obtain ⟨rfl, H75⟩ := p75
  dsimp only [gk_push]
  clear e75 ob75 H74 hk74 b74
  refine gk_ldc2 C cn_L_123 dL_tunes_921 ?_
  refine gk_lcmp C (by omega) (by omega) dL_tunes_924 (fun z76 z76a z76b z76c => ?_)
  refine gk_if_ne C (tgt := 1001) (by omega) dL_tunes_925 (by decide) (fun c_925 => ?_) (fun c_925 => ?_)
  · exact absurd c_925 (by omega)
  refine gk_aload_n C dL_tunes_928 rfl ?_
  refine gk_iconst C dL_tunes_929 ?_
  refine gk_bipush C dL_tunes_930 (by decide) ?_
  obtain ⟨σ77, e77, b77, hk77⟩ := chk_c hk75
  obtain ⟨fs77, ob77⟩ := H75.obj
  refine gk_callV C o_X4_follow k_L_35 dL_tunes_932 (HC.dir (h_follow hfl H75 (t := (1)) (tp := (59)) (by omega) (by omega)) e77 (by omega)) ob77 rfl rfl rfl ⟨Nat.le_of_ble_eq_true rfl, Nat.le_of_ble_eq_true rfl⟩ ⟨by show _ + 4 ≤ 20000; omega, by show _ + 28 ≤ 900000; omega⟩ (by exact Nat.le_of_ble_eq_true rfl) (fun _ _ z => z.elim) (fun v77 h77 p77 => ?_)
  obtain ⟨rfl, H77⟩ := p77
  dsimp only [gk_push]
  clear e77 ob77 H75 hk75 b75
  refine gk_bipush C dL_tunes_935 (by decide) ?_
  refine gk_icmp_ne C (tgt := 1001) (by omega) (by omega) dL_tunes_937 (by decide) (fun c_937 => ?_) (fun c_937 => ?_)
  · exact absurd c_937 (by omega)
  refine gk_aload_n C dL_tunes_940 rfl ?_
  refine gk_iconst C dL_tunes_941 ?_
  refine gk_sipush C dL_tunes_942 (by decide) ?_
  obtain ⟨σ78, e78, b78, hk78⟩ := chk_c hk77
  obtain ⟨fs78, ob78⟩ := H77.obj
  refine gk_callV C o_X4_follow k_L_35 dL_tunes_945 (HC.dir (h_follow hfl H77 (t := (0)) (tp := (600)) (by omega) (by omega)) e78 (by omega)) ob78 rfl rfl rfl ⟨Nat.le_of_ble_eq_true rfl, Nat.le_of_ble_eq_true rfl⟩ ⟨by show _ + 4 ≤ 20000; omega, by show _ + 28 ≤ 900000; omega⟩ (by exact Nat.le_of_ble_eq_true rfl) (fun _ _ z => z.elim) (fun v78 h78 p78 => ?_)
  obtain ⟨rfl, H78⟩ := p78
  dsimp only [gk_push]
  clear e78 ob78 H77 hk77 b77
  refine gk_bipush C dL_tunes_948 (by decide) ?_
  refine gk_icmp_ne C (tgt := 1001) (by omega) (by omega) dL_tunes_950 (by decide) (fun c_950 => ?_) (fun c_950 => ?_)
  · exact absurd c_950 (by omega)
  refine gk_aload_n C dL_tunes_953 rfl ?_
  refine gk_iconst C dL_tunes_954 ?_
  refine gk_sipush C dL_tunes_955 (by decide) ?_
  obtain ⟨σ79, e79, b79, hk79⟩ := chk_c hk78
  obtain ⟨fs79, ob79⟩ := H78.obj
  refine gk_callV C o_X4_follow k_L_35 dL_tunes_958 (HC.dir (h_follow hfl H78 (t := (2)) (tp := (600)) (by omega) (by omega)) e79 (by omega)) ob79 rfl rfl rfl ⟨Nat.le_of_ble_eq_true rfl, Nat.le_of_ble_eq_true rfl⟩ ⟨by show _ + 4 ≤ 20000; omega, by show _ + 28 ≤ 900000; omega⟩ (by exact Nat.le_of_ble_eq_true rfl) (fun _ _ z => z.elim) (fun v79 h79 p79 => ?_)
  obtain ⟨rfl, H79⟩ := p79
  dsimp only [gk_push]
  clear e79 ob79 H78 hk78 b78
  refine gk_bipush C dL_tunes_961 (by decide) ?_
  refine gk_icmp_ne C (tgt := 1001) (by omega) (by omega) dL_tunes_963 (by decide) (fun c_963 => ?_) (fun c_963 => ?_)
  · exact absurd c_963 (by omega)
  refine gk_aload_n C dL_tunes_966 rfl ?_
  refine gk_bipush C dL_tunes_967 (by decide) ?_
  refine gk_iconst C dL_tunes_969 ?_
  refine gk_sipush C dL_tunes_970 (by decide) ?_
  refine gk_iconst C dL_tunes_973 ?_
  refine gk_iconst C dL_tunes_974 ?_
  obtain ⟨σ80, e80, b80, hk80⟩ := chk_c hk79
  refine gk_callSH C o_L_act k_L_100 dL_tunes_975 (act_e hfl H79 (w := 7) (a := (2)) (b := (600)) (c := (0)) (d := (0)) rfl (by omega) (by omega) (by omega) (by omega) (by omega) (Nat.le_trans b79 (by omega)) e80) rfl rfl ⟨Nat.le_of_ble_eq_true rfl, Nat.le_of_ble_eq_true rfl⟩ ⟨by show _ + 9 ≤ 20000; omega, by show _ + 418 ≤ 900000; omega⟩ (by exact Nat.le_of_ble_eq_true rfl) (fun v80 h80 p80 => ?_)
  obtain ⟨rfl, H80⟩ := p80
  dsimp only [gk_push]
  clear e80 H79 hk79 b79
  refine gk_ldc C cn_L_91 dL_tunes_978 ?_
  refine gk_icmp_ne C (tgt := 1001) (by omega) (by omega) dL_tunes_980 (by decide) (fun c_980 => ?_) (fun c_980 => ?_)
  · exact absurd c_980 (by omega)
  refine gk_aload_n C dL_tunes_983 rfl ?_
  obtain ⟨σ81, e81, b81, hk81⟩ := chk_c hk80
  obtain ⟨fs81, ob81⟩ := H80.obj
  refine gk_callV C o_X4_drop k_L_38 dL_tunes_984 (HC.dir (h_drop hfl H80  ) e81 (by omega)) ob81 rfl rfl rfl ⟨Nat.le_of_ble_eq_true rfl, Nat.le_of_ble_eq_true rfl⟩ ⟨by show _ + 1 ≤ 20000; omega, by show _ + 6 ≤ 900000; omega⟩ (by exact Nat.le_of_ble_eq_true rfl) (fun _ _ z => z.elim) (fun v81 h81 p81 => ?_)
  obtain ⟨rfl, H81⟩ := p81
  dsimp only [gk_push]
  clear e81 ob81 H80 hk80 b80
  refine gk_iconst C dL_tunes_987 ?_
  refine gk_icmp_ne C (tgt := 1001) (by omega) (by omega) dL_tunes_988 (by decide) (fun c_988 => ?_) (fun c_988 => ?_)
  · exact absurd c_988 (by omega)
  refine gk_aload_n C dL_tunes_991 rfl ?_
  refine gk_iconst C dL_tunes_992 ?_
  refine gk_iconst C dL_tunes_993 ?_
  refine gk_iconst C dL_tunes_994 ?_
  obtain ⟨⟨n1_82, n2_82, n3_82⟩, b82, hk82⟩ := chk_n hk81
  refine gk_callS C o_L_refuses k_L_107 dL_tunes_995 (r_refuses hfl H81 n1_82 n2_82 n3_82 (Nat.le_trans b81 (by omega))) rfl rfl ⟨Nat.le_of_ble_eq_true rfl, Nat.le_of_ble_eq_true rfl⟩ ⟨by show _ + 1600 ≤ 20000; omega, by show _ + 70000 ≤ 900000; omega⟩ (by exact Nat.le_of_ble_eq_true rfl) (fun _ _ z => z.elim) (fun v82 h82 p82 => ?_)
  obtain ⟨rfl, H82⟩ := p82
  dsimp only [gk_push]
  clear n1_82 n2_82 n3_82 H81 hk81 b81
  refine gk_if_ne C (tgt := 1003) (by omega) dL_tunes_998 (by decide) (fun c_998 => ?_) (fun c_998 => ?_)
  rotate_left
  · exact absurd c_998 (by omega)
  refine gk_none C ?_
  refine gk_callS C o_L_most k_L_125 dL_tunes_1003 (r_most hfl) rfl rfl ⟨Nat.le_of_ble_eq_true rfl, Nat.le_of_ble_eq_true rfl⟩ ⟨by show _ + 3000 ≤ 20000; omega, by show _ + 130000 ≤ 900000; omega⟩ (by exact Nat.le_of_ble_eq_true rfl) (fun _ _ z => z.elim) (fun v83 h83 p83 => ?_)
  subst p83
  dsimp only [gk_push]
  refine gk_if_eq C (tgt := 1031) (by omega) dL_tunes_1006 (by decide) (fun c_1006 => ?_) (fun c_1006 => ?_)
  · exact absurd c_1006 (by omega)
  refine gk_none C ?_
  refine gk_callS C o_L_pipers k_L_129 dL_tunes_1009 (r_pipers hfl) rfl rfl ⟨Nat.le_of_ble_eq_true rfl, Nat.le_of_ble_eq_true rfl⟩ ⟨by show _ + 5000 ≤ 20000; omega, by show _ + 200000 ≤ 900000; omega⟩ (by exact Nat.le_of_ble_eq_true rfl) (fun _ _ z => z.elim) (fun v84 h84 p84 => ?_)
  subst p84
  dsimp only [gk_push]
  refine gk_if_eq C (tgt := 1031) (by omega) dL_tunes_1012 (by decide) (fun c_1012 => ?_) (fun c_1012 => ?_)
  · exact absurd c_1012 (by omega)
  refine gk_none C ?_
  refine gk_callS C o_L_bands k_L_132 dL_tunes_1015 (r_bands hfl) rfl rfl ⟨Nat.le_of_ble_eq_true rfl, Nat.le_of_ble_eq_true rfl⟩ ⟨by show _ + 3500 ≤ 20000; omega, by show _ + 150000 ≤ 900000; omega⟩ (by exact Nat.le_of_ble_eq_true rfl) (fun _ _ z => z.elim) (fun v85 h85 p85 => ?_)
  subst p85
  dsimp only [gk_push]
  refine gk_if_eq C (tgt := 1031) (by omega) dL_tunes_1018 (by decide) (fun c_1018 => ?_) (fun c_1018 => ?_)
  · exact absurd c_1018 (by omega)
  refine gk_none C ?_
  refine gk_callS C o_L_eight k_L_135 dL_tunes_1021 (r_eight hfl) rfl rfl ⟨Nat.le_of_ble_eq_true rfl, Nat.le_of_ble_eq_true rfl⟩ ⟨by show _ + 2500 ≤ 20000; omega, by show _ + 110000 ≤ 900000; omega⟩ (by exact Nat.le_of_ble_eq_true rfl) (fun _ _ z => z.elim) (fun v86 h86 p86 => ?_)
  subst p86
  dsimp only [gk_push]
  refine gk_if_eq C (tgt := 1031) (by omega) dL_tunes_1024 (by decide) (fun c_1024 => ?_) (fun c_1024 => ?_)
  · exact absurd c_1024 (by omega)
  refine gk_iconst C dL_tunes_1027 ?_
  refine gk_goto C (tgt := 1032) dL_tunes_1028 (by decide) ?_
  refine (R _ _ _ _ _ (Nat.le_of_ble_eq_true rfl) (Nat.le_of_ble_eq_true rfl)).2.1 _ rfl (by omega) dL_tunes_1032 ?_
  rfl
