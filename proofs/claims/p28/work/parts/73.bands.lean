/-! a run by hand: bands -/
def ca_bands : List CA := [(19, (0), (0), (0), (0), (-7000003)), (17, (3), (0), (0), (0), (-7000003)), (20, (0), (0), (0), (0), (0)), (16, (3), (0), (0), (0), (0)), (16, (3), (0), (0), (0), (1)), (16, (3), (0), (0), (0), (2)), (16, (2), (0), (0), (0), (3)), (16, (4), (0), (0), (0), (4)), (17, (4), (0), (0), (0), (-7000003)), (18, (0), (0), (50), (0), (-7000003)), (21, (0), (0), (0), (0), (3)), (21, (0), (1), (0), (0), (0)), (21, (0), (2), (0), (0), (-1)), (21, (0), (3), (0), (0), (-1)), (21, (0), (4), (0), (0), (0)), (17, (3), (0), (0), (0), (3)), (17, (3), (0), (0), (0), (-7000003)), (16, (3), (0), (0), (0), (5)), (18, (0), (5), (50), (0), (-7000003)), (18, (0), (3), (50), (0), (-7000003)), (18, (0), (0), (80), (0), (11)), (18, (0), (0), (80), (0), (-7000003)), (19, (0), (0), (0), (0), (-7000003)), (20, (0), (0), (0), (0), (-7000003)), (18, (0), (1), (70), (0), (10)), (18, (0), (2), (80), (0), (9)), (18, (1), (0), (60), (0), (8)), (18, (1), (1), (90), (0), (7)), (18, (1), (2), (60), (0), (6)), (18, (2), (0), (50), (0), (5)), (18, (2), (1), (50), (0), (4)), (18, (2), (2), (40), (0), (3)), (18, (3), (0), (10), (0), (2)), (18, (3), (1), (20), (0), (1)), (18, (3), (2), (30), (0), (0)), (26, (0), (0), (0), (0), (0)), (27, (0), (0), (0), (0), (0)), (28, (0), (0), (0), (0), (6)), (19, (0), (0), (0), (0), (2)), (21, (2), (0), (0), (0), (3)), (21, (2), (1), (0), (0), (6)), (21, (2), (2), (0), (0), (1)), (21, (2), (3), (0), (0), (7)), (21, (2), (4), (0), (0), (1)), (21, (1), (0), (0), (0), (3)), (21, (1), (1), (0), (0), (4)), (21, (1), (2), (0), (0), (2)), (21, (1), (3), (0), (0), (7)), (21, (1), (4), (0), (0), (0)), (21, (0), (0), (0), (0), (3)), (21, (0), (1), (0), (0), (3)), (21, (0), (2), (0), (0), (3)), (21, (0), (3), (0), (0), (7)), (21, (0), (4), (0), (0), (0)), (21, (3), (0), (0), (0), (2)), (21, (3), (1), (0), (0), (0)), (21, (3), (2), (0), (0), (-1)), (21, (3), (3), (0), (0), (-1)), (21, (3), (4), (0), (0), (0)), (21, (5), (0), (0), (0), (3)), (21, (5), (1), (0), (0), (0)), (21, (5), (2), (0), (0), (-1)), (21, (5), (3), (0), (0), (-1)), (21, (5), (4), (0), (0), (0)), (19, (0), (0), (0), (0), (-7000003)), (17, (3), (0), (0), (0), (4)), (18, (0), (0), (90), (0), (15)), (18, (0), (1), (80), (0), (14)), (18, (0), (2), (70), (0), (13)), (18, (1), (0), (50), (0), (12)), (18, (1), (1), (50), (0), (11)), (18, (1), (2), (50), (0), (10)), (18, (2), (0), (70), (0), (9)), (18, (2), (1), (80), (0), (8)), (18, (2), (2), (90), (0), (7)), (18, (3), (0), (5), (0), (6)), (18, (3), (1), (5), (0), (5)), (18, (3), (2), (5), (0), (4)), (18, (0), (5), (0), (0), (3)), (18, (1), (5), (0), (0), (2)), (18, (2), (5), (0), (0), (1)), (18, (3), (5), (0), (0), (0)), (19, (0), (0), (0), (0), (0)), (21, (0), (0), (0), (0), (3)), (21, (0), (1), (0), (0), (9)), (21, (0), (2), (0), (0), (1)), (21, (0), (3), (0), (0), (6)), (21, (0), (4), (0), (0), (1)), (21, (1), (0), (0), (0), (3)), (21, (1), (1), (0), (0), (8)), (21, (1), (2), (0), (0), (2)), (21, (1), (3), (0), (0), (6)), (21, (1), (4), (0), (0), (0)), (21, (2), (0), (0), (0), (3)), (21, (2), (1), (0), (0), (9)), (21, (2), (2), (0), (0), (3)), (21, (2), (3), (0), (0), (6)), (21, (2), (4), (0), (0), (1)), (21, (5), (0), (0), (0), (3)), (21, (5), (1), (0), (0), (2)), (21, (5), (2), (0), (0), (4)), (21, (5), (3), (0), (0), (16)), (21, (5), (4), (0), (0), (0)), (17, (3), (0), (0), (0), (4)), (18, (0), (0), (0), (0), (15)), (18, (0), (1), (0), (0), (14)), (18, (0), (2), (0), (0), (13)), (18, (1), (0), (0), (0), (12)), (18, (1), (1), (0), (0), (11)), (18, (1), (2), (0), (0), (10)), (18, (2), (0), (0), (0), (9)), (18, (2), (1), (0), (0), (8)), (18, (2), (2), (0), (0), (7)), (18, (3), (0), (100), (0), (6)), (18, (3), (1), (100), (0), (5)), (18, (3), (2), (100), (0), (4)), (18, (0), (5), (0), (0), (3)), (18, (1), (5), (0), (0), (2)), (18, (2), (5), (0), (0), (1)), (18, (3), (5), (99), (0), (0)), (19, (0), (0), (0), (0), (0)), (21, (0), (0), (0), (0), (3)), (21, (0), (1), (0), (0), (15)), (21, (0), (2), (0), (0), (1)), (21, (0), (3), (0), (0), (4)), (21, (0), (4), (0), (0), (2)), (21, (1), (0), (0), (0), (3)), (21, (1), (1), (0), (0), (12)), (21, (1), (2), (0), (0), (2)), (21, (1), (3), (0), (0), (4)), (21, (1), (4), (0), (0), (0)), (21, (2), (0), (0), (0), (3)), (21, (2), (1), (0), (0), (12)), (21, (2), (2), (0), (0), (3)), (21, (2), (3), (0), (0), (4)), (21, (2), (4), (0), (0), (1)), (21, (5), (0), (0), (0), (3)), (21, (5), (1), (0), (0), (4)), (21, (5), (2), (0), (0), (4)), (21, (5), (3), (0), (0), (7)), (21, (5), (4), (0), (0), (0)), (20, (0), (0), (0), (0), (2)), (21, (0), (0), (0), (0), (2)), (21, (0), (1), (0), (0), (0)), (21, (0), (2), (0), (0), (1)), (21, (0), (3), (0), (0), (4)), (21, (0), (4), (0), (0), (2)), (21, (1), (0), (0), (0), (3)), (21, (1), (1), (0), (0), (0)), (21, (1), (2), (0), (0), (2)), (21, (1), (3), (0), (0), (4)), (21, (1), (4), (0), (0), (0)), (21, (2), (0), (0), (0), (3)), (21, (2), (1), (0), (0), (0)), (21, (2), (2), (0), (0), (3)), (21, (2), (3), (0), (0), (4)), (21, (2), (4), (0), (0), (1)), (21, (5), (0), (0), (0), (4)), (21, (5), (1), (0), (0), (0)), (21, (5), (2), (0), (0), (4)), (21, (5), (3), (0), (0), (7)), (21, (5), (4), (0), (0), (0)), (21, (3), (0), (0), (0), (2)), (21, (3), (1), (0), (0), (0)), (21, (3), (2), (0), (0), (-1)), (21, (3), (3), (0), (0), (-1)), (21, (3), (4), (0), (0), (0)), (21, (4), (0), (0), (0), (4)), (21, (4), (1), (0), (0), (0)), (21, (4), (2), (0), (0), (-1)), (21, (4), (3), (0), (0), (-1)), (21, (4), (4), (0), (0), (0)), (20, (0), (0), (0), (0), (3)), (21, (3), (0), (0), (0), (3)), (21, (0), (0), (0), (0), (2)), (21, (1), (0), (0), (0), (3)), (21, (2), (0), (0), (0), (4)), (21, (5), (0), (0), (0), (5)), (21, (4), (0), (0), (0), (4)), (20, (0), (0), (0), (0), (2)), (21, (3), (0), (0), (0), (4)), (21, (4), (0), (0), (0), (5)), (21, (2), (0), (0), (0), (4)), (21, (5), (0), (0), (0), (5)), (21, (1), (0), (0), (0), (3))]
set_option maxRecDepth 100000 in
theorem ck_bands : chk σ0 ca_bands = true := by decide +kernel
set_option maxRecDepth 100000 in
set_option maxHeartbeats 20000000 in
theorem r_bands {l : Launch} {Γ : GA} (hfl : l.stackTraces = false) : Ct l Γ m_L_bands [] (fun _ => none) (fun v _ => v = some (iv 1)) (fun _ _ => False) := by
  have hk := ck_bands
  unfold ca_bands at hk
  have hb0 : σ0.2.2.2.2 ≤ 100 := Nat.zero_le _
  refine Ct.intro hfl (by decide +kernel) rfl (Nat.le_of_ble_eq_true rfl) ?_
  intro G C R T
  show G 0 [none] [] (fun _ => none) 0 0
  refine gk_new C n_L_8 ⟨by show _ + 1 ≤ 3500; omega, by show _ + 9 ≤ 150000; omega⟩ dL_bands_0 (fun q0 e0 => ?_)
  refine gk_dup C rfl dL_bands_3 ?_
  refine gk_callI C o_X4_init rfl k_L_106 dL_bands_4 (h_new hfl) rfl rfl ⟨Nat.le_of_ble_eq_true rfl, Nat.le_of_ble_eq_true rfl⟩ ⟨by show _ + 8 ≤ 3500; omega, by show _ + 37 ≤ 150000; omega⟩ (by exact Nat.le_of_ble_eq_true rfl) (fun _ _ z => z.elim) (fun v0 h0 p0 => ?_)
  obtain ⟨rfl, H0⟩ := p0
  dsimp only [gk_push]
  refine gk_astore_n_0 C (by exact Nat.le_of_ble_eq_true rfl) dL_bands_7 ?_
  refine gk_aload_n C dL_bands_8 rfl ?_
  refine gk_bipush C dL_bands_9 (by decide) ?_
  refine gk_iconst C dL_bands_11 ?_
  refine gk_iconst C dL_bands_12 ?_
  refine gk_iconst C dL_bands_13 ?_
  refine gk_iconst C dL_bands_14 ?_
  obtain ⟨σ1, e1, b1, hk1⟩ := chk_c hk
  refine gk_callSH C o_L_act k_L_100 dL_bands_15 (act_e hfl H0 (w := 19) (a := (0)) (b := (0)) (c := (0)) (d := (0)) rfl (by omega) (by omega) (by omega) (by omega) (by omega) (Nat.le_trans hb0 (by omega)) e1) rfl rfl ⟨Nat.le_of_ble_eq_true rfl, Nat.le_of_ble_eq_true rfl⟩ ⟨by show _ + 9 ≤ 3500; omega, by show _ + 418 ≤ 150000; omega⟩ (by exact Nat.le_of_ble_eq_true rfl) (fun v1 h1 p1 => ?_)
  obtain ⟨rfl, H1⟩ := p1
  dsimp only [gk_push]
  clear e1 H0 hk hb0
  refine gk_ldc C cn_L_91 dL_bands_18 ?_
  refine gk_icmp_ne C (tgt := 431) (by omega) (by omega) dL_bands_20 (by decide) (fun c_20 => ?_) (fun c_20 => ?_)
  · exact absurd c_20 (by omega)
  refine gk_aload_n C dL_bands_23 rfl ?_
  refine gk_bipush C dL_bands_24 (by decide) ?_
  refine gk_iconst C dL_bands_26 ?_
  refine gk_iconst C dL_bands_27 ?_
  refine gk_iconst C dL_bands_28 ?_
  refine gk_iconst C dL_bands_29 ?_
  obtain ⟨σ2, e2, b2, hk2⟩ := chk_c hk1
  refine gk_callSH C o_L_act k_L_100 dL_bands_30 (act_e hfl H1 (w := 17) (a := (3)) (b := (0)) (c := (0)) (d := (0)) rfl (by omega) (by omega) (by omega) (by omega) (by omega) (Nat.le_trans b1 (by omega)) e2) rfl rfl ⟨Nat.le_of_ble_eq_true rfl, Nat.le_of_ble_eq_true rfl⟩ ⟨by show _ + 9 ≤ 3500; omega, by show _ + 418 ≤ 150000; omega⟩ (by exact Nat.le_of_ble_eq_true rfl) (fun v2 h2 p2 => ?_)
  obtain ⟨rfl, H2⟩ := p2
  dsimp only [gk_push]
  clear e2 H1 hk1 b1
  refine gk_ldc C cn_L_91 dL_bands_33 ?_
  refine gk_icmp_ne C (tgt := 431) (by omega) (by omega) dL_bands_35 (by decide) (fun c_35 => ?_) (fun c_35 => ?_)
  · exact absurd c_35 (by omega)
  refine gk_aload_n C dL_bands_38 rfl ?_
  obtain ⟨σ3, e3, b3, hk3⟩ := chk_c hk2
  obtain ⟨fs3, ob3⟩ := H2.obj
  refine gk_callV C o_X4_season k_L_77 dL_bands_39 (HC.dir (h_season hfl H2  ) e3 (by omega)) ob3 rfl rfl rfl ⟨Nat.le_of_ble_eq_true rfl, Nat.le_of_ble_eq_true rfl⟩ ⟨by show _ + 1 ≤ 3500; omega, by show _ + 6 ≤ 150000; omega⟩ (by exact Nat.le_of_ble_eq_true rfl) (fun _ _ z => z.elim) (fun v3 h3 p3 => ?_)
  obtain ⟨rfl, H3⟩ := p3
  dsimp only [gk_push]
  clear e3 ob3 H2 hk2 b2
  refine gk_if_ne C (tgt := 431) (by omega) dL_bands_42 (by decide) (fun c_42 => ?_) (fun c_42 => ?_)
  · exact absurd c_42 (by omega)
  refine gk_aload_n C dL_bands_45 rfl ?_
  refine gk_iconst C dL_bands_46 ?_
  obtain ⟨σ4, e4, b4, hk4⟩ := chk_c hk3
  obtain ⟨fs4, ob4⟩ := H3.obj
  refine gk_callV C o_X4_band k_L_65 dL_bands_47 (HC.dir (h_band hfl H3 (z := (3)) (by omega)) e4 (by omega)) ob4 rfl rfl rfl ⟨Nat.le_of_ble_eq_true rfl, Nat.le_of_ble_eq_true rfl⟩ ⟨by show _ + 6 ≤ 3500; omega, by show _ + 40 ≤ 150000; omega⟩ (by exact Nat.le_of_ble_eq_true rfl) (fun _ _ z => z.elim) (fun v4 h4 p4 => ?_)
  obtain ⟨rfl, H4⟩ := p4
  dsimp only [gk_push]
  clear e4 ob4 H3 hk3 b3
  refine gk_if_ne C (tgt := 431) (by omega) dL_bands_50 (by decide) (fun c_50 => ?_) (fun c_50 => ?_)
  · exact absurd c_50 (by omega)
  refine gk_aload_n C dL_bands_53 rfl ?_
  refine gk_iconst C dL_bands_54 ?_
  obtain ⟨σ5, e5, b5, hk5⟩ := chk_c hk4
  obtain ⟨fs5, ob5⟩ := H4.obj
  refine gk_callV C o_X4_band k_L_65 dL_bands_55 (HC.dir (h_band hfl H4 (z := (3)) (by omega)) e5 (by omega)) ob5 rfl rfl rfl ⟨Nat.le_of_ble_eq_true rfl, Nat.le_of_ble_eq_true rfl⟩ ⟨by show _ + 6 ≤ 3500; omega, by show _ + 40 ≤ 150000; omega⟩ (by exact Nat.le_of_ble_eq_true rfl) (fun _ _ z => z.elim) (fun v5 h5 p5 => ?_)
  obtain ⟨rfl, H5⟩ := p5
  dsimp only [gk_push]
  clear e5 ob5 H4 hk4 b4
  refine gk_iconst C dL_bands_58 ?_
  refine gk_icmp_ne C (tgt := 431) (by omega) (by omega) dL_bands_59 (by decide) (fun c_59 => ?_) (fun c_59 => ?_)
  · exact absurd c_59 (by omega)
  refine gk_aload_n C dL_bands_62 rfl ?_
  refine gk_iconst C dL_bands_63 ?_
  obtain ⟨σ6, e6, b6, hk6⟩ := chk_c hk5
  obtain ⟨fs6, ob6⟩ := H5.obj
  refine gk_callV C o_X4_band k_L_65 dL_bands_64 (HC.dir (h_band hfl H5 (z := (3)) (by omega)) e6 (by omega)) ob6 rfl rfl rfl ⟨Nat.le_of_ble_eq_true rfl, Nat.le_of_ble_eq_true rfl⟩ ⟨by show _ + 6 ≤ 3500; omega, by show _ + 40 ≤ 150000; omega⟩ (by exact Nat.le_of_ble_eq_true rfl) (fun _ _ z => z.elim) (fun v6 h6 p6 => ?_)
  obtain ⟨rfl, H6⟩ := p6
  dsimp only [gk_push]
  clear e6 ob6 H5 hk5 b5
  refine gk_iconst C dL_bands_67 ?_
  refine gk_icmp_ne C (tgt := 431) (by omega) (by omega) dL_bands_68 (by decide) (fun c_68 => ?_) (fun c_68 => ?_)
  · exact absurd c_68 (by omega)
  refine gk_aload_n C dL_bands_71 rfl ?_
  refine gk_iconst C dL_bands_72 ?_
  obtain ⟨σ7, e7, b7, hk7⟩ := chk_c hk6
  obtain ⟨fs7, ob7⟩ := H6.obj
  refine gk_callV C o_X4_band k_L_65 dL_bands_73 (HC.dir (h_band hfl H6 (z := (2)) (by omega)) e7 (by omega)) ob7 rfl rfl rfl ⟨Nat.le_of_ble_eq_true rfl, Nat.le_of_ble_eq_true rfl⟩ ⟨by show _ + 6 ≤ 3500; omega, by show _ + 40 ≤ 150000; omega⟩ (by exact Nat.le_of_ble_eq_true rfl) (fun _ _ z => z.elim) (fun v7 h7 p7 => ?_)
  obtain ⟨rfl, H7⟩ := p7
  dsimp only [gk_push]
  clear e7 ob7 H6 hk6 b6
  refine gk_iconst C dL_bands_76 ?_
  refine gk_icmp_ne C (tgt := 431) (by omega) (by omega) dL_bands_77 (by decide) (fun c_77 => ?_) (fun c_77 => ?_)
  · exact absurd c_77 (by omega)
  refine gk_aload_n C dL_bands_80 rfl ?_
  refine gk_iconst C dL_bands_81 ?_
  obtain ⟨σ8, e8, b8, hk8⟩ := chk_c hk7
  obtain ⟨fs8, ob8⟩ := H7.obj
  refine gk_callV C o_X4_band k_L_65 dL_bands_82 (HC.dir (h_band hfl H7 (z := (4)) (by omega)) e8 (by omega)) ob8 rfl rfl rfl ⟨Nat.le_of_ble_eq_true rfl, Nat.le_of_ble_eq_true rfl⟩ ⟨by show _ + 6 ≤ 3500; omega, by show _ + 40 ≤ 150000; omega⟩ (by exact Nat.le_of_ble_eq_true rfl) (fun _ _ z => z.elim) (fun v8 h8 p8 => ?_)
  obtain ⟨rfl, H8⟩ := p8
  dsimp only [gk_push]
  clear e8 ob8 H7 hk7 b7
  refine gk_iconst C dL_bands_85 ?_
  refine gk_icmp_ne C (tgt := 431) (by omega) (by omega) dL_bands_86 (by decide) (fun c_86 => ?_) (fun c_86 => ?_)
  · exact absurd c_86 (by omega)
  refine gk_aload_n C dL_bands_89 rfl ?_
  refine gk_bipush C dL_bands_90 (by decide) ?_
  refine gk_iconst C dL_bands_92 ?_
  refine gk_iconst C dL_bands_93 ?_
  refine gk_iconst C dL_bands_94 ?_
  refine gk_iconst C dL_bands_95 ?_
  obtain ⟨σ9, e9, b9, hk9⟩ := chk_c hk8
  refine gk_callSH C o_L_act k_L_100 dL_bands_96 (act_e hfl H8 (w := 17) (a := (4)) (b := (0)) (c := (0)) (d := (0)) rfl (by omega) (by omega) (by omega) (by omega) (by omega) (Nat.le_trans b8 (by omega)) e9) rfl rfl ⟨Nat.le_of_ble_eq_true rfl, Nat.le_of_ble_eq_true rfl⟩ ⟨by show _ + 9 ≤ 3500; omega, by show _ + 418 ≤ 150000; omega⟩ (by exact Nat.le_of_ble_eq_true rfl) (fun v9 h9 p9 => ?_)
  obtain ⟨rfl, H9⟩ := p9
  dsimp only [gk_push]
  clear e9 H8 hk8 b8
  refine gk_ldc C cn_L_91 dL_bands_99 ?_
  refine gk_icmp_ne C (tgt := 431) (by omega) (by omega) dL_bands_101 (by decide) (fun c_101 => ?_) (fun c_101 => ?_)
  · exact absurd c_101 (by omega)
  refine gk_aload_n C dL_bands_104 rfl ?_
  refine gk_bipush C dL_bands_105 (by decide) ?_
  refine gk_iconst C dL_bands_107 ?_
  refine gk_iconst C dL_bands_108 ?_
  refine gk_bipush C dL_bands_109 (by decide) ?_
  refine gk_iconst C dL_bands_111 ?_
  obtain ⟨σ10, e10, b10, hk10⟩ := chk_c hk9
  refine gk_callSH C o_L_act k_L_100 dL_bands_112 (act_e hfl H9 (w := 18) (a := (0)) (b := (0)) (c := (50)) (d := (0)) rfl (by omega) (by omega) (by omega) (by omega) (by omega) (Nat.le_trans b9 (by omega)) e10) rfl rfl ⟨Nat.le_of_ble_eq_true rfl, Nat.le_of_ble_eq_true rfl⟩ ⟨by show _ + 9 ≤ 3500; omega, by show _ + 418 ≤ 150000; omega⟩ (by exact Nat.le_of_ble_eq_true rfl) (fun v10 h10 p10 => ?_)
  obtain ⟨rfl, H10⟩ := p10
  dsimp only [gk_push]
  clear e10 H9 hk9 b9
  refine gk_ldc C cn_L_91 dL_bands_115 ?_
  refine gk_icmp_ne C (tgt := 431) (by omega) (by omega) dL_bands_117 (by decide) (fun c_117 => ?_) (fun c_117 => ?_)
  · exact absurd c_117 (by omega)
  refine gk_aload_n C dL_bands_120 rfl ?_
  refine gk_iconst C dL_bands_121 ?_
  refine gk_iconst C dL_bands_122 ?_
  refine gk_iconst C dL_bands_123 ?_
  refine gk_iconst C dL_bands_124 ?_
  refine gk_iconst C dL_bands_125 ?_
  refine gk_iconst C dL_bands_126 ?_
  refine gk_callS C o_L_band k_L_148 dL_bands_127 (r_band hfl H10 (by omega) (by omega) (by omega) (by omega) (by omega) (by omega) hk10) rfl rfl ⟨Nat.le_of_ble_eq_true rfl, Nat.le_of_ble_eq_true rfl⟩ ⟨by show _ + 10 ≤ 3500; omega, by show _ + 60 ≤ 150000; omega⟩ (by exact Nat.le_of_ble_eq_true rfl) (fun _ _ z => z.elim) (fun v11 h11 p11 => ?_)
  obtain ⟨rfl, σ11, H11, hk11, b11⟩ := p11
  dsimp only [gk_push]
  clear H10 hk10 b10
  refine gk_if_eq C (tgt := 431) (by omega) dL_bands_130 (by decide) (fun c_130 => ?_) (fun c_130 => ?_)
  · exact absurd c_130 (by omega)
  refine gk_aload_n C dL_bands_133 rfl ?_
  refine gk_iconst C dL_bands_134 ?_
  obtain ⟨σ12, e12, b12, hk12⟩ := chk_c hk11
  obtain ⟨fs12, ob12⟩ := H11.obj
  refine gk_callV C o_X4_contest k_L_68 dL_bands_135 (HC.dir (h_contest hfl H11 (g := (3)) (by omega)) e12 (by omega)) ob12 rfl rfl rfl ⟨Nat.le_of_ble_eq_true rfl, Nat.le_of_ble_eq_true rfl⟩ ⟨by show _ + 2 ≤ 3500; omega, by show _ + 12 ≤ 150000; omega⟩ (by exact Nat.le_of_ble_eq_true rfl) (fun _ _ z => z.elim) (fun v12 h12 p12 => ?_)
  obtain ⟨rfl, H12⟩ := p12
  dsimp only [gk_push]
  clear e12 ob12 H11 hk11 b11
  refine gk_iconst C dL_bands_138 ?_
  refine gk_icmp_ne C (tgt := 431) (by omega) (by omega) dL_bands_139 (by decide) (fun c_139 => ?_) (fun c_139 => ?_)
  · exact absurd c_139 (by omega)
  refine gk_aload_n C dL_bands_142 rfl ?_
  refine gk_bipush C dL_bands_143 (by decide) ?_
  refine gk_iconst C dL_bands_145 ?_
  refine gk_iconst C dL_bands_146 ?_
  refine gk_iconst C dL_bands_147 ?_
  refine gk_iconst C dL_bands_148 ?_
  obtain ⟨σ13, e13, b13, hk13⟩ := chk_c hk12
  refine gk_callSH C o_L_act k_L_100 dL_bands_149 (act_e hfl H12 (w := 17) (a := (3)) (b := (0)) (c := (0)) (d := (0)) rfl (by omega) (by omega) (by omega) (by omega) (by omega) (Nat.le_trans b12 (by omega)) e13) rfl rfl ⟨Nat.le_of_ble_eq_true rfl, Nat.le_of_ble_eq_true rfl⟩ ⟨by show _ + 9 ≤ 3500; omega, by show _ + 418 ≤ 150000; omega⟩ (by exact Nat.le_of_ble_eq_true rfl) (fun v13 h13 p13 => ?_)
  obtain ⟨rfl, H13⟩ := p13
  dsimp only [gk_push]
  clear e13 H12 hk12 b12
  refine gk_ldc C cn_L_91 dL_bands_152 ?_
  refine gk_icmp_ne C (tgt := 431) (by omega) (by omega) dL_bands_154 (by decide) (fun c_154 => ?_) (fun c_154 => ?_)
  · exact absurd c_154 (by omega)
  refine gk_aload_n C dL_bands_157 rfl ?_
  refine gk_iconst C dL_bands_158 ?_
  obtain ⟨σ14, e14, b14, hk14⟩ := chk_c hk13
  obtain ⟨fs14, ob14⟩ := H13.obj
  refine gk_callV C o_X4_band k_L_65 dL_bands_159 (HC.dir (h_band hfl H13 (z := (3)) (by omega)) e14 (by omega)) ob14 rfl rfl rfl ⟨Nat.le_of_ble_eq_true rfl, Nat.le_of_ble_eq_true rfl⟩ ⟨by show _ + 6 ≤ 3500; omega, by show _ + 40 ≤ 150000; omega⟩ (by exact Nat.le_of_ble_eq_true rfl) (fun _ _ z => z.elim) (fun v14 h14 p14 => ?_)
  obtain ⟨rfl, H14⟩ := p14
  dsimp only [gk_push]
  clear e14 ob14 H13 hk13 b13
  refine gk_iconst C dL_bands_162 ?_
  refine gk_icmp_ne C (tgt := 431) (by omega) (by omega) dL_bands_163 (by decide) (fun c_163 => ?_) (fun c_163 => ?_)
  · exact absurd c_163 (by omega)
  refine gk_aload_n C dL_bands_166 rfl ?_
  refine gk_bipush C dL_bands_167 (by decide) ?_
  refine gk_iconst C dL_bands_169 ?_
  refine gk_iconst C dL_bands_170 ?_
  refine gk_bipush C dL_bands_171 (by decide) ?_
  refine gk_iconst C dL_bands_173 ?_
  obtain ⟨σ15, e15, b15, hk15⟩ := chk_c hk14
  refine gk_callSH C o_L_act k_L_100 dL_bands_174 (act_e hfl H14 (w := 18) (a := (0)) (b := (5)) (c := (50)) (d := (0)) rfl (by omega) (by omega) (by omega) (by omega) (by omega) (Nat.le_trans b14 (by omega)) e15) rfl rfl ⟨Nat.le_of_ble_eq_true rfl, Nat.le_of_ble_eq_true rfl⟩ ⟨by show _ + 9 ≤ 3500; omega, by show _ + 418 ≤ 150000; omega⟩ (by exact Nat.le_of_ble_eq_true rfl) (fun v15 h15 p15 => ?_)
  obtain ⟨rfl, H15⟩ := p15
  dsimp only [gk_push]
  clear e15 H14 hk14 b14
  refine gk_ldc C cn_L_91 dL_bands_177 ?_
  refine gk_icmp_ne C (tgt := 431) (by omega) (by omega) dL_bands_179 (by decide) (fun c_179 => ?_) (fun c_179 => ?_)
  · exact absurd c_179 (by omega)
  refine gk_aload_n C dL_bands_182 rfl ?_
  refine gk_bipush C dL_bands_183 (by decide) ?_
  refine gk_iconst C dL_bands_185 ?_
  refine gk_iconst C dL_bands_186 ?_
  refine gk_bipush C dL_bands_187 (by decide) ?_
  refine gk_iconst C dL_bands_189 ?_
  obtain ⟨σ16, e16, b16, hk16⟩ := chk_c hk15
  refine gk_callSH C o_L_act k_L_100 dL_bands_190 (act_e hfl H15 (w := 18) (a := (0)) (b := (3)) (c := (50)) (d := (0)) rfl (by omega) (by omega) (by omega) (by omega) (by omega) (Nat.le_trans b15 (by omega)) e16) rfl rfl ⟨Nat.le_of_ble_eq_true rfl, Nat.le_of_ble_eq_true rfl⟩ ⟨by show _ + 9 ≤ 3500; omega, by show _ + 418 ≤ 150000; omega⟩ (by exact Nat.le_of_ble_eq_true rfl) (fun v16 h16 p16 => ?_)
  obtain ⟨rfl, H16⟩ := p16
  dsimp only [gk_push]
  clear e16 H15 hk15 b15
  refine gk_ldc C cn_L_91 dL_bands_193 ?_
  refine gk_icmp_ne C (tgt := 431) (by omega) (by omega) dL_bands_195 (by decide) (fun c_195 => ?_) (fun c_195 => ?_)
  · exact absurd c_195 (by omega)
  refine gk_aload_n C dL_bands_198 rfl ?_
  refine gk_iconst C dL_bands_199 ?_
  refine gk_iconst C dL_bands_200 ?_
  refine gk_bipush C dL_bands_201 (by decide) ?_
  obtain ⟨σ17, e17, b17, hk17⟩ := chk_c hk16
  obtain ⟨fs17, ob17⟩ := H16.obj
  refine gk_callV C o_X4_mark k_L_71 dL_bands_203 (HC.dir (h_mark hfl H16 (j := (0)) (b := (0)) (m := (80)) (by omega) (by omega) (by omega)) e17 (by omega)) ob17 rfl rfl rfl ⟨Nat.le_of_ble_eq_true rfl, Nat.le_of_ble_eq_true rfl⟩ ⟨by show _ + 4 ≤ 3500; omega, by show _ + 24 ≤ 150000; omega⟩ (by exact Nat.le_of_ble_eq_true rfl) (fun _ _ z => z.elim) (fun v17 h17 p17 => ?_)
  obtain ⟨rfl, H17⟩ := p17
  dsimp only [gk_push]
  clear e17 ob17 H16 hk16 b16
  refine gk_bipush C dL_bands_206 (by decide) ?_
  refine gk_icmp_ne C (tgt := 431) (by omega) (by omega) dL_bands_208 (by decide) (fun c_208 => ?_) (fun c_208 => ?_)
  · exact absurd c_208 (by omega)
  refine gk_aload_n C dL_bands_211 rfl ?_
  refine gk_bipush C dL_bands_212 (by decide) ?_
  refine gk_iconst C dL_bands_214 ?_
  refine gk_iconst C dL_bands_215 ?_
  refine gk_bipush C dL_bands_216 (by decide) ?_
  refine gk_iconst C dL_bands_218 ?_
  obtain ⟨σ18, e18, b18, hk18⟩ := chk_c hk17
  refine gk_callSH C o_L_act k_L_100 dL_bands_219 (act_e hfl H17 (w := 18) (a := (0)) (b := (0)) (c := (80)) (d := (0)) rfl (by omega) (by omega) (by omega) (by omega) (by omega) (Nat.le_trans b17 (by omega)) e18) rfl rfl ⟨Nat.le_of_ble_eq_true rfl, Nat.le_of_ble_eq_true rfl⟩ ⟨by show _ + 9 ≤ 3500; omega, by show _ + 418 ≤ 150000; omega⟩ (by exact Nat.le_of_ble_eq_true rfl) (fun v18 h18 p18 => ?_)
  obtain ⟨rfl, H18⟩ := p18
  dsimp only [gk_push]
  clear e18 H17 hk17 b17
  refine gk_ldc C cn_L_91 dL_bands_222 ?_
  refine gk_icmp_ne C (tgt := 431) (by omega) (by omega) dL_bands_224 (by decide) (fun c_224 => ?_) (fun c_224 => ?_)
  · exact absurd c_224 (by omega)
  refine gk_aload_n C dL_bands_227 rfl ?_
  refine gk_bipush C dL_bands_228 (by decide) ?_
  refine gk_iconst C dL_bands_230 ?_
  refine gk_iconst C dL_bands_231 ?_
  refine gk_iconst C dL_bands_232 ?_
  refine gk_iconst C dL_bands_233 ?_
  obtain ⟨σ19, e19, b19, hk19⟩ := chk_c hk18
  refine gk_callSH C o_L_act k_L_100 dL_bands_234 (act_e hfl H18 (w := 19) (a := (0)) (b := (0)) (c := (0)) (d := (0)) rfl (by omega) (by omega) (by omega) (by omega) (by omega) (Nat.le_trans b18 (by omega)) e19) rfl rfl ⟨Nat.le_of_ble_eq_true rfl, Nat.le_of_ble_eq_true rfl⟩ ⟨by show _ + 9 ≤ 3500; omega, by show _ + 418 ≤ 150000; omega⟩ (by exact Nat.le_of_ble_eq_true rfl) (fun v19 h19 p19 => ?_)
  obtain ⟨rfl, H19⟩ := p19
  dsimp only [gk_push]
  clear e19 H18 hk18 b18
  refine gk_ldc C cn_L_91 dL_bands_237 ?_
  refine gk_icmp_ne C (tgt := 431) (by omega) (by omega) dL_bands_239 (by decide) (fun c_239 => ?_) (fun c_239 => ?_)
  · exact absurd c_239 (by omega)
  refine gk_aload_n C dL_bands_242 rfl ?_
  refine gk_bipush C dL_bands_243 (by decide) ?_
  refine gk_iconst C dL_bands_245 ?_
  refine gk_iconst C dL_bands_246 ?_
  refine gk_iconst C dL_bands_247 ?_
  refine gk_iconst C dL_bands_248 ?_
  obtain ⟨σ20, e20, b20, hk20⟩ := chk_c hk19
  refine gk_callSH C o_L_act k_L_100 dL_bands_249 (act_e hfl H19 (w := 20) (a := (0)) (b := (0)) (c := (0)) (d := (0)) rfl (by omega) (by omega) (by omega) (by omega) (by omega) (Nat.le_trans b19 (by omega)) e20) rfl rfl ⟨Nat.le_of_ble_eq_true rfl, Nat.le_of_ble_eq_true rfl⟩ ⟨by show _ + 9 ≤ 3500; omega, by show _ + 418 ≤ 150000; omega⟩ (by exact Nat.le_of_ble_eq_true rfl) (fun v20 h20 p20 => ?_)
  obtain ⟨rfl, H20⟩ := p20
  dsimp only [gk_push]
  clear e20 H19 hk19 b19
  refine gk_ldc C cn_L_91 dL_bands_252 ?_
  refine gk_icmp_ne C (tgt := 431) (by omega) (by omega) dL_bands_254 (by decide) (fun c_254 => ?_) (fun c_254 => ?_)
  · exact absurd c_254 (by omega)
  refine gk_aload_n C dL_bands_257 rfl ?_
  refine gk_iconst C dL_bands_258 ?_
  refine gk_iconst C dL_bands_259 ?_
  refine gk_bipush C dL_bands_260 (by decide) ?_
  obtain ⟨σ21, e21, b21, hk21⟩ := chk_c hk20
  obtain ⟨fs21, ob21⟩ := H20.obj
  refine gk_callV C o_X4_mark k_L_71 dL_bands_262 (HC.dir (h_mark hfl H20 (j := (0)) (b := (1)) (m := (70)) (by omega) (by omega) (by omega)) e21 (by omega)) ob21 rfl rfl rfl ⟨Nat.le_of_ble_eq_true rfl, Nat.le_of_ble_eq_true rfl⟩ ⟨by show _ + 4 ≤ 3500; omega, by show _ + 24 ≤ 150000; omega⟩ (by exact Nat.le_of_ble_eq_true rfl) (fun _ _ z => z.elim) (fun v21 h21 p21 => ?_)
  obtain ⟨rfl, H21⟩ := p21
  dsimp only [gk_push]
  clear e21 ob21 H20 hk20 b20
  refine gk_bipush C dL_bands_265 (by decide) ?_
  refine gk_icmp_ne C (tgt := 431) (by omega) (by omega) dL_bands_267 (by decide) (fun c_267 => ?_) (fun c_267 => ?_)
  · exact absurd c_267 (by omega)
  refine gk_aload_n C dL_bands_270 rfl ?_
  refine gk_iconst C dL_bands_271 ?_
  refine gk_iconst C dL_bands_272 ?_
  refine gk_bipush C dL_bands_273 (by decide) ?_
  obtain ⟨σ22, e22, b22, hk22⟩ := chk_c hk21
  obtain ⟨fs22, ob22⟩ := H21.obj
  refine gk_callV C o_X4_mark k_L_71 dL_bands_275 (HC.dir (h_mark hfl H21 (j := (0)) (b := (2)) (m := (80)) (by omega) (by omega) (by omega)) e22 (by omega)) ob22 rfl rfl rfl ⟨Nat.le_of_ble_eq_true rfl, Nat.le_of_ble_eq_true rfl⟩ ⟨by show _ + 4 ≤ 3500; omega, by show _ + 24 ≤ 150000; omega⟩ (by exact Nat.le_of_ble_eq_true rfl) (fun _ _ z => z.elim) (fun v22 h22 p22 => ?_)
  obtain ⟨rfl, H22⟩ := p22
  dsimp only [gk_push]
  clear e22 ob22 H21 hk21 b21
  refine gk_bipush C dL_bands_278 (by decide) ?_
  refine gk_icmp_ne C (tgt := 431) (by omega) (by omega) dL_bands_280 (by decide) (fun c_280 => ?_) (fun c_280 => ?_)
  · exact absurd c_280 (by omega)
  refine gk_aload_n C dL_bands_283 rfl ?_
  refine gk_iconst C dL_bands_284 ?_
  refine gk_bipush C dL_bands_285 (by decide) ?_
  refine gk_bipush C dL_bands_287 (by decide) ?_
  refine gk_bipush C dL_bands_289 (by decide) ?_
  refine gk_callS C o_L_marks k_L_151 dL_bands_291 (r_marks hfl H22 (by omega) (by omega) (by omega) (by omega) (by omega) (by omega) (by omega) hk22) rfl rfl ⟨Nat.le_of_ble_eq_true rfl, Nat.le_of_ble_eq_true rfl⟩ ⟨by show _ + 12 ≤ 3500; omega, by show _ + 72 ≤ 150000; omega⟩ (by exact Nat.le_of_ble_eq_true rfl) (fun _ _ z => z.elim) (fun v23 h23 p23 => ?_)
  obtain ⟨rfl, σ23, H23, hk23, b23⟩ := p23
  dsimp only [gk_push]
  clear H22 hk22 b22
  refine gk_bipush C dL_bands_294 (by decide) ?_
  refine gk_icmp_ne C (tgt := 431) (by omega) (by omega) dL_bands_296 (by decide) (fun c_296 => ?_) (fun c_296 => ?_)
  · exact absurd c_296 (by omega)
  refine gk_aload_n C dL_bands_299 rfl ?_
  refine gk_iconst C dL_bands_300 ?_
  refine gk_bipush C dL_bands_301 (by decide) ?_
  refine gk_bipush C dL_bands_303 (by decide) ?_
  refine gk_bipush C dL_bands_305 (by decide) ?_
  refine gk_callS C o_L_marks k_L_151 dL_bands_307 (r_marks hfl H23 (by omega) (by omega) (by omega) (by omega) (by omega) (by omega) (by omega) hk23) rfl rfl ⟨Nat.le_of_ble_eq_true rfl, Nat.le_of_ble_eq_true rfl⟩ ⟨by show _ + 12 ≤ 3500; omega, by show _ + 72 ≤ 150000; omega⟩ (by exact Nat.le_of_ble_eq_true rfl) (fun _ _ z => z.elim) (fun v24 h24 p24 => ?_)
  obtain ⟨rfl, σ24, H24, hk24, b24⟩ := p24
  dsimp only [gk_push]
  clear H23 hk23 b23
  refine gk_iconst C dL_bands_310 ?_
  refine gk_icmp_ne C (tgt := 431) (by omega) (by omega) dL_bands_311 (by decide) (fun c_311 => ?_) (fun c_311 => ?_)
  · exact absurd c_311 (by omega)
  refine gk_aload_n C dL_bands_314 rfl ?_
  refine gk_iconst C dL_bands_315 ?_
  refine gk_bipush C dL_bands_316 (by decide) ?_
  refine gk_bipush C dL_bands_318 (by decide) ?_
  refine gk_bipush C dL_bands_320 (by decide) ?_
  refine gk_callS C o_L_marks k_L_151 dL_bands_322 (r_marks hfl H24 (by omega) (by omega) (by omega) (by omega) (by omega) (by omega) (by omega) hk24) rfl rfl ⟨Nat.le_of_ble_eq_true rfl, Nat.le_of_ble_eq_true rfl⟩ ⟨by show _ + 12 ≤ 3500; omega, by show _ + 72 ≤ 150000; omega⟩ (by exact Nat.le_of_ble_eq_true rfl) (fun _ _ z => z.elim) (fun v25 h25 p25 => ?_)
  obtain ⟨rfl, σ25, H25, hk25, b25⟩ := p25
  dsimp only [gk_push]
  clear H24 hk24 b24
  refine gk_if_ne C (tgt := 431) (by omega) dL_bands_325 (by decide) (fun c_325 => ?_) (fun c_325 => ?_)
  · exact absurd c_325 (by omega)
  refine gk_aload_n C dL_bands_328 rfl ?_
  refine gk_iconst C dL_bands_329 ?_
  refine gk_iconst C dL_bands_330 ?_
  refine gk_bipush C dL_bands_331 (by decide) ?_
  obtain ⟨⟨n1_26, n2_26, n3_26⟩, b26, hk26⟩ := chk_n hk25
  refine gk_callS C o_L_refuses k_L_107 dL_bands_333 (r_refuses hfl H25 n1_26 n2_26 n3_26 (Nat.le_trans b25 (by omega))) rfl rfl ⟨Nat.le_of_ble_eq_true rfl, Nat.le_of_ble_eq_true rfl⟩ ⟨by show _ + 1600 ≤ 3500; omega, by show _ + 70000 ≤ 150000; omega⟩ (by exact Nat.le_of_ble_eq_true rfl) (fun _ _ z => z.elim) (fun v26 h26 p26 => ?_)
  obtain ⟨rfl, H26⟩ := p26
  dsimp only [gk_push]
  clear n1_26 n2_26 n3_26 H25 hk25 b25
  refine gk_if_eq C (tgt := 431) (by omega) dL_bands_336 (by decide) (fun c_336 => ?_) (fun c_336 => ?_)
  · exact absurd c_336 (by omega)
  refine gk_aload_n C dL_bands_339 rfl ?_
  obtain ⟨σ27, e27, b27, hk27⟩ := chk_c hk26
  obtain ⟨fs27, ob27⟩ := H26.obj
  refine gk_callV C o_X4_close k_L_74 dL_bands_340 (HC.dir (h_close hfl H26  (Nat.le_trans b26 (by omega))) e27 (by omega)) ob27 rfl rfl rfl ⟨Nat.le_of_ble_eq_true rfl, Nat.le_of_ble_eq_true rfl⟩ ⟨by show _ + 1 ≤ 3500; omega, by show _ + 6 ≤ 150000; omega⟩ (by exact Nat.le_of_ble_eq_true rfl) (fun _ _ z => z.elim) (fun v27 h27 p27 => ?_)
  obtain ⟨rfl, H27⟩ := p27
  dsimp only [gk_push]
  clear e27 ob27 H26 hk26 b26
  refine gk_iconst C dL_bands_343 ?_
  refine gk_icmp_ne C (tgt := 431) (by omega) (by omega) dL_bands_344 (by decide) (fun c_344 => ?_) (fun c_344 => ?_)
  · exact absurd c_344 (by omega)
  refine gk_aload_n C dL_bands_347 rfl ?_
  refine gk_iconst C dL_bands_348 ?_
  refine gk_iconst C dL_bands_349 ?_
  refine gk_bipush C dL_bands_350 (by decide) ?_
  refine gk_iconst C dL_bands_352 ?_
  refine gk_bipush C dL_bands_353 (by decide) ?_
  refine gk_iconst C dL_bands_355 ?_
  refine gk_callS C o_L_band k_L_148 dL_bands_356 (r_band hfl H27 (by omega) (by omega) (by omega) (by omega) (by omega) (by omega) hk27) rfl rfl ⟨Nat.le_of_ble_eq_true rfl, Nat.le_of_ble_eq_true rfl⟩ ⟨by show _ + 10 ≤ 3500; omega, by show _ + 60 ≤ 150000; omega⟩ (by exact Nat.le_of_ble_eq_true rfl) (fun _ _ z => z.elim) (fun v28 h28 p28 => ?_)
  obtain ⟨rfl, σ28, H28, hk28, b28⟩ := p28
  dsimp only [gk_push]
  clear H27 hk27 b27
  refine gk_if_eq C (tgt := 431) (by omega) dL_bands_359 (by decide) (fun c_359 => ?_) (fun c_359 => ?_)
  · exact absurd c_359 (by omega)
  refine gk_aload_n C dL_bands_362 rfl ?_
  refine gk_iconst C dL_bands_363 ?_
  refine gk_iconst C dL_bands_364 ?_
  refine gk_iconst C dL_bands_365 ?_
  refine gk_iconst C dL_bands_366 ?_
  refine gk_bipush C dL_bands_367 (by decide) ?_
  refine gk_iconst C dL_bands_369 ?_
  refine gk_callS C o_L_band k_L_148 dL_bands_370 (r_band hfl H28 (by omega) (by omega) (by omega) (by omega) (by omega) (by omega) hk28) rfl rfl ⟨Nat.le_of_ble_eq_true rfl, Nat.le_of_ble_eq_true rfl⟩ ⟨by show _ + 10 ≤ 3500; omega, by show _ + 60 ≤ 150000; omega⟩ (by exact Nat.le_of_ble_eq_true rfl) (fun _ _ z => z.elim) (fun v29 h29 p29 => ?_)
  obtain ⟨rfl, σ29, H29, hk29, b29⟩ := p29
  dsimp only [gk_push]
  clear H28 hk28 b28
  refine gk_if_eq C (tgt := 431) (by omega) dL_bands_373 (by decide) (fun c_373 => ?_) (fun c_373 => ?_)
  · exact absurd c_373 (by omega)
  refine gk_aload_n C dL_bands_376 rfl ?_
  refine gk_iconst C dL_bands_377 ?_
  refine gk_iconst C dL_bands_378 ?_
  refine gk_iconst C dL_bands_379 ?_
  refine gk_iconst C dL_bands_380 ?_
  refine gk_bipush C dL_bands_381 (by decide) ?_
  refine gk_iconst C dL_bands_383 ?_
  refine gk_callS C o_L_band k_L_148 dL_bands_384 (r_band hfl H29 (by omega) (by omega) (by omega) (by omega) (by omega) (by omega) hk29) rfl rfl ⟨Nat.le_of_ble_eq_true rfl, Nat.le_of_ble_eq_true rfl⟩ ⟨by show _ + 10 ≤ 3500; omega, by show _ + 60 ≤ 150000; omega⟩ (by exact Nat.le_of_ble_eq_true rfl) (fun _ _ z => z.elim) (fun v30 h30 p30 => ?_)
  obtain ⟨rfl, σ30, H30, hk30, b30⟩ := p30
  dsimp only [gk_push]
  clear H29 hk29 b29
  refine gk_if_eq C (tgt := 431) (by omega) dL_bands_387 (by decide) (fun c_387 => ?_) (fun c_387 => ?_)
  · exact absurd c_387 (by omega)
  refine gk_aload_n C dL_bands_390 rfl ?_
  refine gk_iconst C dL_bands_391 ?_
  refine gk_iconst C dL_bands_392 ?_
  refine gk_iconst C dL_bands_393 ?_
  refine gk_iconst C dL_bands_394 ?_
  refine gk_iconst C dL_bands_395 ?_
  refine gk_iconst C dL_bands_396 ?_
  refine gk_callS C o_L_band k_L_148 dL_bands_397 (r_band hfl H30 (by omega) (by omega) (by omega) (by omega) (by omega) (by omega) hk30) rfl rfl ⟨Nat.le_of_ble_eq_true rfl, Nat.le_of_ble_eq_true rfl⟩ ⟨by show _ + 10 ≤ 3500; omega, by show _ + 60 ≤ 150000; omega⟩ (by exact Nat.le_of_ble_eq_true rfl) (fun _ _ z => z.elim) (fun v31 h31 p31 => ?_)
  obtain ⟨rfl, σ31, H31, hk31, b31⟩ := p31
  dsimp only [gk_push]
  clear H30 hk30 b30
  refine gk_if_eq C (tgt := 431) (by omega) dL_bands_400 (by decide) (fun c_400 => ?_) (fun c_400 => ?_)
  · exact absurd c_400 (by omega)
  refine gk_aload_n C dL_bands_403 rfl ?_
  refine gk_iconst C dL_bands_404 ?_
  refine gk_iconst C dL_bands_405 ?_
  refine gk_iconst C dL_bands_406 ?_
  refine gk_iconst C dL_bands_407 ?_
  refine gk_iconst C dL_bands_408 ?_
  refine gk_iconst C dL_bands_409 ?_
  refine gk_callS C o_L_band k_L_148 dL_bands_410 (r_band hfl H31 (by omega) (by omega) (by omega) (by omega) (by omega) (by omega) hk31) rfl rfl ⟨Nat.le_of_ble_eq_true rfl, Nat.le_of_ble_eq_true rfl⟩ ⟨by show _ + 10 ≤ 3500; omega, by show _ + 60 ≤ 150000; omega⟩ (by exact Nat.le_of_ble_eq_true rfl) (fun _ _ z => z.elim) (fun v32 h32 p32 => ?_)
  obtain ⟨rfl, σ32, H32, hk32, b32⟩ := p32
  dsimp only [gk_push]
  clear H31 hk31 b31
  refine gk_if_eq C (tgt := 431) (by omega) dL_bands_413 (by decide) (fun c_413 => ?_) (fun c_413 => ?_)
  · exact absurd c_413 (by omega)
  refine gk_aload_n C dL_bands_416 rfl ?_
  refine gk_bipush C dL_bands_417 (by decide) ?_
  refine gk_iconst C dL_bands_419 ?_
  refine gk_iconst C dL_bands_420 ?_
  refine gk_iconst C dL_bands_421 ?_
  refine gk_iconst C dL_bands_422 ?_
  obtain ⟨σ33, e33, b33, hk33⟩ := chk_c hk32
  refine gk_callSH C o_L_act k_L_100 dL_bands_423 (act_e hfl H32 (w := 19) (a := (0)) (b := (0)) (c := (0)) (d := (0)) rfl (by omega) (by omega) (by omega) (by omega) (by omega) (Nat.le_trans b32 (by omega)) e33) rfl rfl ⟨Nat.le_of_ble_eq_true rfl, Nat.le_of_ble_eq_true rfl⟩ ⟨by show _ + 9 ≤ 3500; omega, by show _ + 418 ≤ 150000; omega⟩ (by exact Nat.le_of_ble_eq_true rfl) (fun v33 h33 p33 => ?_)
  obtain ⟨rfl, H33⟩ := p33
  dsimp only [gk_push]
  clear e33 H32 hk32 b32
  refine gk_ldc C cn_L_91 dL_bands_426 ?_
  refine gk_icmp_eq C (tgt := 433) (by omega) (by omega) dL_bands_428 (by decide) (fun c_428 => ?_) (fun c_428 => ?_)
  rotate_left
  · exact absurd c_428 (by omega)
  refine gk_aload_n C dL_bands_433 rfl ?_
  refine gk_iconst C dL_bands_434 ?_
  obtain ⟨σ34, e34, b34, hk34⟩ := chk_c hk33
  obtain ⟨fs34, ob34⟩ := H33.obj
  refine gk_callV C o_X4_contest k_L_68 dL_bands_435 (HC.dir (h_contest hfl H33 (g := (3)) (by omega)) e34 (by omega)) ob34 rfl rfl rfl ⟨Nat.le_of_ble_eq_true rfl, Nat.le_of_ble_eq_true rfl⟩ ⟨by show _ + 2 ≤ 3500; omega, by show _ + 12 ≤ 150000; omega⟩ (by exact Nat.le_of_ble_eq_true rfl) (fun _ _ z => z.elim) (fun v34 h34 p34 => ?_)
  obtain ⟨rfl, H34⟩ := p34
  dsimp only [gk_push]
  clear e34 ob34 H33 hk33 b33
  refine gk_iconst C dL_bands_438 ?_
  refine gk_icmp_ne C (tgt := 611) (by omega) (by omega) dL_bands_439 (by decide) (fun c_439 => ?_) (fun c_439 => ?_)
  · exact absurd c_439 (by omega)
  refine gk_aload_n C dL_bands_442 rfl ?_
  refine gk_iconst C dL_bands_443 ?_
  refine gk_bipush C dL_bands_444 (by decide) ?_
  refine gk_bipush C dL_bands_446 (by decide) ?_
  refine gk_bipush C dL_bands_448 (by decide) ?_
  refine gk_callS C o_L_marks k_L_151 dL_bands_450 (r_marks hfl H34 (by omega) (by omega) (by omega) (by omega) (by omega) (by omega) (by omega) hk34) rfl rfl ⟨Nat.le_of_ble_eq_true rfl, Nat.le_of_ble_eq_true rfl⟩ ⟨by show _ + 12 ≤ 3500; omega, by show _ + 72 ≤ 150000; omega⟩ (by exact Nat.le_of_ble_eq_true rfl) (fun _ _ z => z.elim) (fun v35 h35 p35 => ?_)
  obtain ⟨rfl, σ35, H35, hk35, b35⟩ := p35
  dsimp only [gk_push]
  clear H34 hk34 b34
  refine gk_bipush C dL_bands_453 (by decide) ?_
  refine gk_icmp_ne C (tgt := 611) (by omega) (by omega) dL_bands_455 (by decide) (fun c_455 => ?_) (fun c_455 => ?_)
  · exact absurd c_455 (by omega)
  refine gk_aload_n C dL_bands_458 rfl ?_
  refine gk_iconst C dL_bands_459 ?_
  refine gk_bipush C dL_bands_460 (by decide) ?_
  refine gk_bipush C dL_bands_462 (by decide) ?_
  refine gk_bipush C dL_bands_464 (by decide) ?_
  refine gk_callS C o_L_marks k_L_151 dL_bands_466 (r_marks hfl H35 (by omega) (by omega) (by omega) (by omega) (by omega) (by omega) (by omega) hk35) rfl rfl ⟨Nat.le_of_ble_eq_true rfl, Nat.le_of_ble_eq_true rfl⟩ ⟨by show _ + 12 ≤ 3500; omega, by show _ + 72 ≤ 150000; omega⟩ (by exact Nat.le_of_ble_eq_true rfl) (fun _ _ z => z.elim) (fun v36 h36 p36 => ?_)
  obtain ⟨rfl, σ36, H36, hk36, b36⟩ := p36
  dsimp only [gk_push]
  clear H35 hk35 b35
  refine gk_bipush C dL_bands_469 (by decide) ?_
  refine gk_icmp_ne C (tgt := 611) (by omega) (by omega) dL_bands_471 (by decide) (fun c_471 => ?_) (fun c_471 => ?_)
  · exact absurd c_471 (by omega)
  refine gk_aload_n C dL_bands_474 rfl ?_
  refine gk_iconst C dL_bands_475 ?_
  refine gk_bipush C dL_bands_476 (by decide) ?_
  refine gk_bipush C dL_bands_478 (by decide) ?_
  refine gk_bipush C dL_bands_480 (by decide) ?_
  refine gk_callS C o_L_marks k_L_151 dL_bands_482 (r_marks hfl H36 (by omega) (by omega) (by omega) (by omega) (by omega) (by omega) (by omega) hk36) rfl rfl ⟨Nat.le_of_ble_eq_true rfl, Nat.le_of_ble_eq_true rfl⟩ ⟨by show _ + 12 ≤ 3500; omega, by show _ + 72 ≤ 150000; omega⟩ (by exact Nat.le_of_ble_eq_true rfl) (fun _ _ z => z.elim) (fun v37 h37 p37 => ?_)
  obtain ⟨rfl, σ37, H37, hk37, b37⟩ := p37
  dsimp only [gk_push]
  clear H36 hk36 b36
  refine gk_bipush C dL_bands_485 (by decide) ?_
  refine gk_icmp_ne C (tgt := 611) (by omega) (by omega) dL_bands_487 (by decide) (fun c_487 => ?_) (fun c_487 => ?_)
  · exact absurd c_487 (by omega)
  refine gk_aload_n C dL_bands_490 rfl ?_
  refine gk_iconst C dL_bands_491 ?_
  refine gk_iconst C dL_bands_492 ?_
  refine gk_iconst C dL_bands_493 ?_
  refine gk_iconst C dL_bands_494 ?_
  refine gk_callS C o_L_marks k_L_151 dL_bands_495 (r_marks hfl H37 (by omega) (by omega) (by omega) (by omega) (by omega) (by omega) (by omega) hk37) rfl rfl ⟨Nat.le_of_ble_eq_true rfl, Nat.le_of_ble_eq_true rfl⟩ ⟨by show _ + 12 ≤ 3500; omega, by show _ + 72 ≤ 150000; omega⟩ (by exact Nat.le_of_ble_eq_true rfl) (fun _ _ z => z.elim) (fun v38 h38 p38 => ?_)
  obtain ⟨rfl, σ38, H38, hk38, b38⟩ := p38
  dsimp only [gk_push]
  clear H37 hk37 b37
  refine gk_iconst C dL_bands_498 ?_
  refine gk_icmp_ne C (tgt := 611) (by omega) (by omega) dL_bands_499 (by decide) (fun c_499 => ?_) (fun c_499 => ?_)
  · exact absurd c_499 (by omega)
  refine gk_aload_n C dL_bands_502 rfl ?_
  refine gk_iconst C dL_bands_503 ?_
  refine gk_iconst C dL_bands_504 ?_
  refine gk_iconst C dL_bands_505 ?_
  obtain ⟨σ39, e39, b39, hk39⟩ := chk_c hk38
  obtain ⟨fs39, ob39⟩ := H38.obj
  refine gk_callV C o_X4_mark k_L_71 dL_bands_506 (HC.dir (h_mark hfl H38 (j := (0)) (b := (5)) (m := (0)) (by omega) (by omega) (by omega)) e39 (by omega)) ob39 rfl rfl rfl ⟨Nat.le_of_ble_eq_true rfl, Nat.le_of_ble_eq_true rfl⟩ ⟨by show _ + 4 ≤ 3500; omega, by show _ + 24 ≤ 150000; omega⟩ (by exact Nat.le_of_ble_eq_true rfl) (fun _ _ z => z.elim) (fun v39 h39 p39 => ?_)
  obtain ⟨rfl, H39⟩ := p39
  dsimp only [gk_push]
  clear e39 ob39 H38 hk38 b38
  refine gk_iconst C dL_bands_509 ?_
  refine gk_icmp_ne C (tgt := 611) (by omega) (by omega) dL_bands_510 (by decide) (fun c_510 => ?_) (fun c_510 => ?_)
  · exact absurd c_510 (by omega)
  refine gk_aload_n C dL_bands_513 rfl ?_
  refine gk_iconst C dL_bands_514 ?_
  refine gk_iconst C dL_bands_515 ?_
  refine gk_iconst C dL_bands_516 ?_
  obtain ⟨σ40, e40, b40, hk40⟩ := chk_c hk39
  obtain ⟨fs40, ob40⟩ := H39.obj
  refine gk_callV C o_X4_mark k_L_71 dL_bands_517 (HC.dir (h_mark hfl H39 (j := (1)) (b := (5)) (m := (0)) (by omega) (by omega) (by omega)) e40 (by omega)) ob40 rfl rfl rfl ⟨Nat.le_of_ble_eq_true rfl, Nat.le_of_ble_eq_true rfl⟩ ⟨by show _ + 4 ≤ 3500; omega, by show _ + 24 ≤ 150000; omega⟩ (by exact Nat.le_of_ble_eq_true rfl) (fun _ _ z => z.elim) (fun v40 h40 p40 => ?_)
  obtain ⟨rfl, H40⟩ := p40
  dsimp only [gk_push]
  clear e40 ob40 H39 hk39 b39
  refine gk_iconst C dL_bands_520 ?_
  refine gk_icmp_ne C (tgt := 611) (by omega) (by omega) dL_bands_521 (by decide) (fun c_521 => ?_) (fun c_521 => ?_)
  · exact absurd c_521 (by omega)
  refine gk_aload_n C dL_bands_524 rfl ?_
  refine gk_iconst C dL_bands_525 ?_
  refine gk_iconst C dL_bands_526 ?_
  refine gk_iconst C dL_bands_527 ?_
  obtain ⟨σ41, e41, b41, hk41⟩ := chk_c hk40
  obtain ⟨fs41, ob41⟩ := H40.obj
  refine gk_callV C o_X4_mark k_L_71 dL_bands_528 (HC.dir (h_mark hfl H40 (j := (2)) (b := (5)) (m := (0)) (by omega) (by omega) (by omega)) e41 (by omega)) ob41 rfl rfl rfl ⟨Nat.le_of_ble_eq_true rfl, Nat.le_of_ble_eq_true rfl⟩ ⟨by show _ + 4 ≤ 3500; omega, by show _ + 24 ≤ 150000; omega⟩ (by exact Nat.le_of_ble_eq_true rfl) (fun _ _ z => z.elim) (fun v41 h41 p41 => ?_)
  obtain ⟨rfl, H41⟩ := p41
  dsimp only [gk_push]
  clear e41 ob41 H40 hk40 b40
  refine gk_iconst C dL_bands_531 ?_
  refine gk_icmp_ne C (tgt := 611) (by omega) (by omega) dL_bands_532 (by decide) (fun c_532 => ?_) (fun c_532 => ?_)
  · exact absurd c_532 (by omega)
  refine gk_aload_n C dL_bands_535 rfl ?_
  refine gk_iconst C dL_bands_536 ?_
  refine gk_iconst C dL_bands_537 ?_
  refine gk_iconst C dL_bands_538 ?_
  obtain ⟨σ42, e42, b42, hk42⟩ := chk_c hk41
  obtain ⟨fs42, ob42⟩ := H41.obj
  refine gk_callV C o_X4_mark k_L_71 dL_bands_539 (HC.dir (h_mark hfl H41 (j := (3)) (b := (5)) (m := (0)) (by omega) (by omega) (by omega)) e42 (by omega)) ob42 rfl rfl rfl ⟨Nat.le_of_ble_eq_true rfl, Nat.le_of_ble_eq_true rfl⟩ ⟨by show _ + 4 ≤ 3500; omega, by show _ + 24 ≤ 150000; omega⟩ (by exact Nat.le_of_ble_eq_true rfl) (fun _ _ z => z.elim) (fun v42 h42 p42 => ?_)
  obtain ⟨rfl, H42⟩ := p42
  dsimp only [gk_push]
  clear e42 ob42 H41 hk41 b41
  refine gk_if_ne C (tgt := 611) (by omega) dL_bands_542 (by decide) (fun c_542 => ?_) (fun c_542 => ?_)
  · exact absurd c_542 (by omega)
  refine gk_aload_n C dL_bands_545 rfl ?_
  obtain ⟨σ43, e43, b43, hk43⟩ := chk_c hk42
  obtain ⟨fs43, ob43⟩ := H42.obj
  refine gk_callV C o_X4_close k_L_74 dL_bands_546 (HC.dir (h_close hfl H42  (Nat.le_trans b42 (by omega))) e43 (by omega)) ob43 rfl rfl rfl ⟨Nat.le_of_ble_eq_true rfl, Nat.le_of_ble_eq_true rfl⟩ ⟨by show _ + 1 ≤ 3500; omega, by show _ + 6 ≤ 150000; omega⟩ (by exact Nat.le_of_ble_eq_true rfl) (fun _ _ z => z.elim) (fun v43 h43 p43 => ?_)
  obtain ⟨rfl, H43⟩ := p43
  dsimp only [gk_push]
  clear e43 ob43 H42 hk42 b42
  refine gk_if_ne C (tgt := 611) (by omega) dL_bands_549 (by decide) (fun c_549 => ?_) (fun c_549 => ?_)
  · exact absurd c_549 (by omega)
  refine gk_aload_n C dL_bands_552 rfl ?_
  refine gk_iconst C dL_bands_553 ?_
  refine gk_iconst C dL_bands_554 ?_
  refine gk_bipush C dL_bands_555 (by decide) ?_
  refine gk_iconst C dL_bands_557 ?_
  refine gk_bipush C dL_bands_558 (by decide) ?_
  refine gk_iconst C dL_bands_560 ?_
  refine gk_callS C o_L_band k_L_148 dL_bands_561 (r_band hfl H43 (by omega) (by omega) (by omega) (by omega) (by omega) (by omega) hk43) rfl rfl ⟨Nat.le_of_ble_eq_true rfl, Nat.le_of_ble_eq_true rfl⟩ ⟨by show _ + 10 ≤ 3500; omega, by show _ + 60 ≤ 150000; omega⟩ (by exact Nat.le_of_ble_eq_true rfl) (fun _ _ z => z.elim) (fun v44 h44 p44 => ?_)
  obtain ⟨rfl, σ44, H44, hk44, b44⟩ := p44
  dsimp only [gk_push]
  clear H43 hk43 b43
  refine gk_if_eq C (tgt := 611) (by omega) dL_bands_564 (by decide) (fun c_564 => ?_) (fun c_564 => ?_)
  · exact absurd c_564 (by omega)
  refine gk_aload_n C dL_bands_567 rfl ?_
  refine gk_iconst C dL_bands_568 ?_
  refine gk_iconst C dL_bands_569 ?_
  refine gk_bipush C dL_bands_570 (by decide) ?_
  refine gk_iconst C dL_bands_572 ?_
  refine gk_bipush C dL_bands_573 (by decide) ?_
  refine gk_iconst C dL_bands_575 ?_
  refine gk_callS C o_L_band k_L_148 dL_bands_576 (r_band hfl H44 (by omega) (by omega) (by omega) (by omega) (by omega) (by omega) hk44) rfl rfl ⟨Nat.le_of_ble_eq_true rfl, Nat.le_of_ble_eq_true rfl⟩ ⟨by show _ + 10 ≤ 3500; omega, by show _ + 60 ≤ 150000; omega⟩ (by exact Nat.le_of_ble_eq_true rfl) (fun _ _ z => z.elim) (fun v45 h45 p45 => ?_)
  obtain ⟨rfl, σ45, H45, hk45, b45⟩ := p45
  dsimp only [gk_push]
  clear H44 hk44 b44
  refine gk_if_eq C (tgt := 611) (by omega) dL_bands_579 (by decide) (fun c_579 => ?_) (fun c_579 => ?_)
  · exact absurd c_579 (by omega)
  refine gk_aload_n C dL_bands_582 rfl ?_
  refine gk_iconst C dL_bands_583 ?_
  refine gk_iconst C dL_bands_584 ?_
  refine gk_bipush C dL_bands_585 (by decide) ?_
  refine gk_iconst C dL_bands_587 ?_
  refine gk_bipush C dL_bands_588 (by decide) ?_
  refine gk_iconst C dL_bands_590 ?_
  refine gk_callS C o_L_band k_L_148 dL_bands_591 (r_band hfl H45 (by omega) (by omega) (by omega) (by omega) (by omega) (by omega) hk45) rfl rfl ⟨Nat.le_of_ble_eq_true rfl, Nat.le_of_ble_eq_true rfl⟩ ⟨by show _ + 10 ≤ 3500; omega, by show _ + 60 ≤ 150000; omega⟩ (by exact Nat.le_of_ble_eq_true rfl) (fun _ _ z => z.elim) (fun v46 h46 p46 => ?_)
  obtain ⟨rfl, σ46, H46, hk46, b46⟩ := p46
  dsimp only [gk_push]
  clear H45 hk45 b45
  refine gk_if_eq C (tgt := 611) (by omega) dL_bands_594 (by decide) (fun c_594 => ?_) (fun c_594 => ?_)
  · exact absurd c_594 (by omega)
  refine gk_aload_n C dL_bands_597 rfl ?_
  refine gk_iconst C dL_bands_598 ?_
  refine gk_iconst C dL_bands_599 ?_
  refine gk_iconst C dL_bands_600 ?_
  refine gk_iconst C dL_bands_601 ?_
  refine gk_bipush C dL_bands_602 (by decide) ?_
  refine gk_iconst C dL_bands_604 ?_
  refine gk_callS C o_L_band k_L_148 dL_bands_605 (r_band hfl H46 (by omega) (by omega) (by omega) (by omega) (by omega) (by omega) hk46) rfl rfl ⟨Nat.le_of_ble_eq_true rfl, Nat.le_of_ble_eq_true rfl⟩ ⟨by show _ + 10 ≤ 3500; omega, by show _ + 60 ≤ 150000; omega⟩ (by exact Nat.le_of_ble_eq_true rfl) (fun _ _ z => z.elim) (fun v47 h47 p47 => ?_)
  obtain ⟨rfl, σ47, H47, hk47, b47⟩ := p47
  dsimp only [gk_push]
  clear H46 hk46 b46
  refine gk_if_ne C (tgt := 613) (by omega) dL_bands_608 (by decide) (fun c_608 => ?_) (fun c_608 => ?_)
  rotate_left
  · exact absurd c_608 (by omega)
  refine gk_aload_n C dL_bands_613 rfl ?_
  refine gk_iconst C dL_bands_614 ?_
  obtain ⟨σ48, e48, b48, hk48⟩ := chk_c hk47
  obtain ⟨fs48, ob48⟩ := H47.obj
  refine gk_callV C o_X4_contest k_L_68 dL_bands_615 (HC.dir (h_contest hfl H47 (g := (3)) (by omega)) e48 (by omega)) ob48 rfl rfl rfl ⟨Nat.le_of_ble_eq_true rfl, Nat.le_of_ble_eq_true rfl⟩ ⟨by show _ + 2 ≤ 3500; omega, by show _ + 12 ≤ 150000; omega⟩ (by exact Nat.le_of_ble_eq_true rfl) (fun _ _ z => z.elim) (fun v48 h48 p48 => ?_)
  obtain ⟨rfl, H48⟩ := p48
  dsimp only [gk_push]
  clear e48 ob48 H47 hk47 b47
  refine gk_iconst C dL_bands_618 ?_
  refine gk_icmp_ne C (tgt := 783) (by omega) (by omega) dL_bands_619 (by decide) (fun c_619 => ?_) (fun c_619 => ?_)
  · exact absurd c_619 (by omega)
  refine gk_aload_n C dL_bands_622 rfl ?_
  refine gk_iconst C dL_bands_623 ?_
  refine gk_iconst C dL_bands_624 ?_
  refine gk_iconst C dL_bands_625 ?_
  refine gk_iconst C dL_bands_626 ?_
  refine gk_callS C o_L_marks k_L_151 dL_bands_627 (r_marks hfl H48 (by omega) (by omega) (by omega) (by omega) (by omega) (by omega) (by omega) hk48) rfl rfl ⟨Nat.le_of_ble_eq_true rfl, Nat.le_of_ble_eq_true rfl⟩ ⟨by show _ + 12 ≤ 3500; omega, by show _ + 72 ≤ 150000; omega⟩ (by exact Nat.le_of_ble_eq_true rfl) (fun _ _ z => z.elim) (fun v49 h49 p49 => ?_)
  obtain ⟨rfl, σ49, H49, hk49, b49⟩ := p49
  dsimp only [gk_push]
  clear H48 hk48 b48
  refine gk_bipush C dL_bands_630 (by decide) ?_
  refine gk_icmp_ne C (tgt := 783) (by omega) (by omega) dL_bands_632 (by decide) (fun c_632 => ?_) (fun c_632 => ?_)
  · exact absurd c_632 (by omega)
  refine gk_aload_n C dL_bands_635 rfl ?_
  refine gk_iconst C dL_bands_636 ?_
  refine gk_iconst C dL_bands_637 ?_
  refine gk_iconst C dL_bands_638 ?_
  refine gk_iconst C dL_bands_639 ?_
  refine gk_callS C o_L_marks k_L_151 dL_bands_640 (r_marks hfl H49 (by omega) (by omega) (by omega) (by omega) (by omega) (by omega) (by omega) hk49) rfl rfl ⟨Nat.le_of_ble_eq_true rfl, Nat.le_of_ble_eq_true rfl⟩ ⟨by show _ + 12 ≤ 3500; omega, by show _ + 72 ≤ 150000; omega⟩ (by exact Nat.le_of_ble_eq_true rfl) (fun _ _ z => z.elim) (fun v50 h50 p50 => ?_)
  obtain ⟨rfl, σ50, H50, hk50, b50⟩ := p50
  dsimp only [gk_push]
  clear H49 hk49 b49
  refine gk_bipush C dL_bands_643 (by decide) ?_
  refine gk_icmp_ne C (tgt := 783) (by omega) (by omega) dL_bands_645 (by decide) (fun c_645 => ?_) (fun c_645 => ?_)
  · exact absurd c_645 (by omega)
  refine gk_aload_n C dL_bands_648 rfl ?_
  refine gk_iconst C dL_bands_649 ?_
  refine gk_iconst C dL_bands_650 ?_
  refine gk_iconst C dL_bands_651 ?_
  refine gk_iconst C dL_bands_652 ?_
  refine gk_callS C o_L_marks k_L_151 dL_bands_653 (r_marks hfl H50 (by omega) (by omega) (by omega) (by omega) (by omega) (by omega) (by omega) hk50) rfl rfl ⟨Nat.le_of_ble_eq_true rfl, Nat.le_of_ble_eq_true rfl⟩ ⟨by show _ + 12 ≤ 3500; omega, by show _ + 72 ≤ 150000; omega⟩ (by exact Nat.le_of_ble_eq_true rfl) (fun _ _ z => z.elim) (fun v51 h51 p51 => ?_)
  obtain ⟨rfl, σ51, H51, hk51, b51⟩ := p51
  dsimp only [gk_push]
  clear H50 hk50 b50
  refine gk_bipush C dL_bands_656 (by decide) ?_
  refine gk_icmp_ne C (tgt := 783) (by omega) (by omega) dL_bands_658 (by decide) (fun c_658 => ?_) (fun c_658 => ?_)
  · exact absurd c_658 (by omega)
  refine gk_aload_n C dL_bands_661 rfl ?_
  refine gk_iconst C dL_bands_662 ?_
  refine gk_bipush C dL_bands_663 (by decide) ?_
  refine gk_bipush C dL_bands_665 (by decide) ?_
  refine gk_bipush C dL_bands_667 (by decide) ?_
  refine gk_callS C o_L_marks k_L_151 dL_bands_669 (r_marks hfl H51 (by omega) (by omega) (by omega) (by omega) (by omega) (by omega) (by omega) hk51) rfl rfl ⟨Nat.le_of_ble_eq_true rfl, Nat.le_of_ble_eq_true rfl⟩ ⟨by show _ + 12 ≤ 3500; omega, by show _ + 72 ≤ 150000; omega⟩ (by exact Nat.le_of_ble_eq_true rfl) (fun _ _ z => z.elim) (fun v52 h52 p52 => ?_)
  obtain ⟨rfl, σ52, H52, hk52, b52⟩ := p52
  dsimp only [gk_push]
  clear H51 hk51 b51
  refine gk_iconst C dL_bands_672 ?_
  refine gk_icmp_ne C (tgt := 783) (by omega) (by omega) dL_bands_673 (by decide) (fun c_673 => ?_) (fun c_673 => ?_)
  · exact absurd c_673 (by omega)
  refine gk_aload_n C dL_bands_676 rfl ?_
  refine gk_iconst C dL_bands_677 ?_
  refine gk_iconst C dL_bands_678 ?_
  refine gk_iconst C dL_bands_679 ?_
  obtain ⟨σ53, e53, b53, hk53⟩ := chk_c hk52
  obtain ⟨fs53, ob53⟩ := H52.obj
  refine gk_callV C o_X4_mark k_L_71 dL_bands_680 (HC.dir (h_mark hfl H52 (j := (0)) (b := (5)) (m := (0)) (by omega) (by omega) (by omega)) e53 (by omega)) ob53 rfl rfl rfl ⟨Nat.le_of_ble_eq_true rfl, Nat.le_of_ble_eq_true rfl⟩ ⟨by show _ + 4 ≤ 3500; omega, by show _ + 24 ≤ 150000; omega⟩ (by exact Nat.le_of_ble_eq_true rfl) (fun _ _ z => z.elim) (fun v53 h53 p53 => ?_)
  obtain ⟨rfl, H53⟩ := p53
  dsimp only [gk_push]
  clear e53 ob53 H52 hk52 b52
  refine gk_iconst C dL_bands_683 ?_
  refine gk_icmp_ne C (tgt := 783) (by omega) (by omega) dL_bands_684 (by decide) (fun c_684 => ?_) (fun c_684 => ?_)
  · exact absurd c_684 (by omega)
  refine gk_aload_n C dL_bands_687 rfl ?_
  refine gk_iconst C dL_bands_688 ?_
  refine gk_iconst C dL_bands_689 ?_
  refine gk_iconst C dL_bands_690 ?_
  obtain ⟨σ54, e54, b54, hk54⟩ := chk_c hk53
  obtain ⟨fs54, ob54⟩ := H53.obj
  refine gk_callV C o_X4_mark k_L_71 dL_bands_691 (HC.dir (h_mark hfl H53 (j := (1)) (b := (5)) (m := (0)) (by omega) (by omega) (by omega)) e54 (by omega)) ob54 rfl rfl rfl ⟨Nat.le_of_ble_eq_true rfl, Nat.le_of_ble_eq_true rfl⟩ ⟨by show _ + 4 ≤ 3500; omega, by show _ + 24 ≤ 150000; omega⟩ (by exact Nat.le_of_ble_eq_true rfl) (fun _ _ z => z.elim) (fun v54 h54 p54 => ?_)
  obtain ⟨rfl, H54⟩ := p54
  dsimp only [gk_push]
  clear e54 ob54 H53 hk53 b53
  refine gk_iconst C dL_bands_694 ?_
  refine gk_icmp_ne C (tgt := 783) (by omega) (by omega) dL_bands_695 (by decide) (fun c_695 => ?_) (fun c_695 => ?_)
  · exact absurd c_695 (by omega)
  refine gk_aload_n C dL_bands_698 rfl ?_
  refine gk_iconst C dL_bands_699 ?_
  refine gk_iconst C dL_bands_700 ?_
  refine gk_iconst C dL_bands_701 ?_
  obtain ⟨σ55, e55, b55, hk55⟩ := chk_c hk54
  obtain ⟨fs55, ob55⟩ := H54.obj
  refine gk_callV C o_X4_mark k_L_71 dL_bands_702 (HC.dir (h_mark hfl H54 (j := (2)) (b := (5)) (m := (0)) (by omega) (by omega) (by omega)) e55 (by omega)) ob55 rfl rfl rfl ⟨Nat.le_of_ble_eq_true rfl, Nat.le_of_ble_eq_true rfl⟩ ⟨by show _ + 4 ≤ 3500; omega, by show _ + 24 ≤ 150000; omega⟩ (by exact Nat.le_of_ble_eq_true rfl) (fun _ _ z => z.elim) (fun v55 h55 p55 => ?_)
  obtain ⟨rfl, H55⟩ := p55
  dsimp only [gk_push]
  clear e55 ob55 H54 hk54 b54
  refine gk_iconst C dL_bands_705 ?_
  refine gk_icmp_ne C (tgt := 783) (by omega) (by omega) dL_bands_706 (by decide) (fun c_706 => ?_) (fun c_706 => ?_)
  · exact absurd c_706 (by omega)
  refine gk_aload_n C dL_bands_709 rfl ?_
  refine gk_iconst C dL_bands_710 ?_
  refine gk_iconst C dL_bands_711 ?_
  refine gk_bipush C dL_bands_712 (by decide) ?_
  obtain ⟨σ56, e56, b56, hk56⟩ := chk_c hk55
  obtain ⟨fs56, ob56⟩ := H55.obj
  refine gk_callV C o_X4_mark k_L_71 dL_bands_714 (HC.dir (h_mark hfl H55 (j := (3)) (b := (5)) (m := (99)) (by omega) (by omega) (by omega)) e56 (by omega)) ob56 rfl rfl rfl ⟨Nat.le_of_ble_eq_true rfl, Nat.le_of_ble_eq_true rfl⟩ ⟨by show _ + 4 ≤ 3500; omega, by show _ + 24 ≤ 150000; omega⟩ (by exact Nat.le_of_ble_eq_true rfl) (fun _ _ z => z.elim) (fun v56 h56 p56 => ?_)
  obtain ⟨rfl, H56⟩ := p56
  dsimp only [gk_push]
  clear e56 ob56 H55 hk55 b55
  refine gk_if_ne C (tgt := 783) (by omega) dL_bands_717 (by decide) (fun c_717 => ?_) (fun c_717 => ?_)
  · exact absurd c_717 (by omega)
  refine gk_aload_n C dL_bands_720 rfl ?_
  obtain ⟨σ57, e57, b57, hk57⟩ := chk_c hk56
  obtain ⟨fs57, ob57⟩ := H56.obj
  refine gk_callV C o_X4_close k_L_74 dL_bands_721 (HC.dir (h_close hfl H56  (Nat.le_trans b56 (by omega))) e57 (by omega)) ob57 rfl rfl rfl ⟨Nat.le_of_ble_eq_true rfl, Nat.le_of_ble_eq_true rfl⟩ ⟨by show _ + 1 ≤ 3500; omega, by show _ + 6 ≤ 150000; omega⟩ (by exact Nat.le_of_ble_eq_true rfl) (fun _ _ z => z.elim) (fun v57 h57 p57 => ?_)
  obtain ⟨rfl, H57⟩ := p57
  dsimp only [gk_push]
  clear e57 ob57 H56 hk56 b56
  refine gk_if_ne C (tgt := 783) (by omega) dL_bands_724 (by decide) (fun c_724 => ?_) (fun c_724 => ?_)
  · exact absurd c_724 (by omega)
  refine gk_aload_n C dL_bands_727 rfl ?_
  refine gk_iconst C dL_bands_728 ?_
  refine gk_iconst C dL_bands_729 ?_
  refine gk_bipush C dL_bands_730 (by decide) ?_
  refine gk_iconst C dL_bands_732 ?_
  refine gk_iconst C dL_bands_733 ?_
  refine gk_iconst C dL_bands_734 ?_
  refine gk_callS C o_L_band k_L_148 dL_bands_735 (r_band hfl H57 (by omega) (by omega) (by omega) (by omega) (by omega) (by omega) hk57) rfl rfl ⟨Nat.le_of_ble_eq_true rfl, Nat.le_of_ble_eq_true rfl⟩ ⟨by show _ + 10 ≤ 3500; omega, by show _ + 60 ≤ 150000; omega⟩ (by exact Nat.le_of_ble_eq_true rfl) (fun _ _ z => z.elim) (fun v58 h58 p58 => ?_)
  obtain ⟨rfl, σ58, H58, hk58, b58⟩ := p58
  dsimp only [gk_push]
  clear H57 hk57 b57
  refine gk_if_eq C (tgt := 783) (by omega) dL_bands_738 (by decide) (fun c_738 => ?_) (fun c_738 => ?_)
  · exact absurd c_738 (by omega)
  refine gk_aload_n C dL_bands_741 rfl ?_
  refine gk_iconst C dL_bands_742 ?_
  refine gk_iconst C dL_bands_743 ?_
  refine gk_bipush C dL_bands_744 (by decide) ?_
  refine gk_iconst C dL_bands_746 ?_
  refine gk_iconst C dL_bands_747 ?_
  refine gk_iconst C dL_bands_748 ?_
  refine gk_callS C o_L_band k_L_148 dL_bands_749 (r_band hfl H58 (by omega) (by omega) (by omega) (by omega) (by omega) (by omega) hk58) rfl rfl ⟨Nat.le_of_ble_eq_true rfl, Nat.le_of_ble_eq_true rfl⟩ ⟨by show _ + 10 ≤ 3500; omega, by show _ + 60 ≤ 150000; omega⟩ (by exact Nat.le_of_ble_eq_true rfl) (fun _ _ z => z.elim) (fun v59 h59 p59 => ?_)
  obtain ⟨rfl, σ59, H59, hk59, b59⟩ := p59
  dsimp only [gk_push]
  clear H58 hk58 b58
  refine gk_if_eq C (tgt := 783) (by omega) dL_bands_752 (by decide) (fun c_752 => ?_) (fun c_752 => ?_)
  · exact absurd c_752 (by omega)
  refine gk_aload_n C dL_bands_755 rfl ?_
  refine gk_iconst C dL_bands_756 ?_
  refine gk_iconst C dL_bands_757 ?_
  refine gk_bipush C dL_bands_758 (by decide) ?_
  refine gk_iconst C dL_bands_760 ?_
  refine gk_iconst C dL_bands_761 ?_
  refine gk_iconst C dL_bands_762 ?_
  refine gk_callS C o_L_band k_L_148 dL_bands_763 (r_band hfl H59 (by omega) (by omega) (by omega) (by omega) (by omega) (by omega) hk59) rfl rfl ⟨Nat.le_of_ble_eq_true rfl, Nat.le_of_ble_eq_true rfl⟩ ⟨by show _ + 10 ≤ 3500; omega, by show _ + 60 ≤ 150000; omega⟩ (by exact Nat.le_of_ble_eq_true rfl) (fun _ _ z => z.elim) (fun v60 h60 p60 => ?_)
  obtain ⟨rfl, σ60, H60, hk60, b60⟩ := p60
  dsimp only [gk_push]
  clear H59 hk59 b59
  refine gk_if_eq C (tgt := 783) (by omega) dL_bands_766 (by decide) (fun c_766 => ?_) (fun c_766 => ?_)
  · exact absurd c_766 (by omega)
  refine gk_aload_n C dL_bands_769 rfl ?_
  refine gk_iconst C dL_bands_770 ?_
  refine gk_iconst C dL_bands_771 ?_
  refine gk_iconst C dL_bands_772 ?_
  refine gk_iconst C dL_bands_773 ?_
  refine gk_bipush C dL_bands_774 (by decide) ?_
  refine gk_iconst C dL_bands_776 ?_
  refine gk_callS C o_L_band k_L_148 dL_bands_777 (r_band hfl H60 (by omega) (by omega) (by omega) (by omega) (by omega) (by omega) hk60) rfl rfl ⟨Nat.le_of_ble_eq_true rfl, Nat.le_of_ble_eq_true rfl⟩ ⟨by show _ + 10 ≤ 3500; omega, by show _ + 60 ≤ 150000; omega⟩ (by exact Nat.le_of_ble_eq_true rfl) (fun _ _ z => z.elim) (fun v61 h61 p61 => ?_)
  obtain ⟨rfl, σ61, H61, hk61, b61⟩ := p61
  dsimp only [gk_push]
  clear H60 hk60 b60
  refine gk_if_ne C (tgt := 785) (by omega) dL_bands_780 (by decide) (fun c_780 => ?_) (fun c_780 => ?_)
  rotate_left
  · exact absurd c_780 (by omega)
  refine gk_aload_n C dL_bands_785 rfl ?_
  obtain ⟨σ62, e62, b62, hk62⟩ := chk_c hk61
  obtain ⟨fs62, ob62⟩ := H61.obj
  refine gk_callV C o_X4_season k_L_77 dL_bands_786 (HC.dir (h_season hfl H61  ) e62 (by omega)) ob62 rfl rfl rfl ⟨Nat.le_of_ble_eq_true rfl, Nat.le_of_ble_eq_true rfl⟩ ⟨by show _ + 1 ≤ 3500; omega, by show _ + 6 ≤ 150000; omega⟩ (by exact Nat.le_of_ble_eq_true rfl) (fun _ _ z => z.elim) (fun v62 h62 p62 => ?_)
  obtain ⟨rfl, H62⟩ := p62
  dsimp only [gk_push]
  clear e62 ob62 H61 hk61 b61
  refine gk_iconst C dL_bands_789 ?_
  refine gk_icmp_ne C (tgt := 1002) (by omega) (by omega) dL_bands_790 (by decide) (fun c_790 => ?_) (fun c_790 => ?_)
  · exact absurd c_790 (by omega)
  refine gk_aload_n C dL_bands_793 rfl ?_
  refine gk_iconst C dL_bands_794 ?_
  refine gk_iconst C dL_bands_795 ?_
  refine gk_iconst C dL_bands_796 ?_
  refine gk_iconst C dL_bands_797 ?_
  refine gk_iconst C dL_bands_798 ?_
  refine gk_iconst C dL_bands_799 ?_
  refine gk_callS C o_L_band k_L_148 dL_bands_800 (r_band hfl H62 (by omega) (by omega) (by omega) (by omega) (by omega) (by omega) hk62) rfl rfl ⟨Nat.le_of_ble_eq_true rfl, Nat.le_of_ble_eq_true rfl⟩ ⟨by show _ + 10 ≤ 3500; omega, by show _ + 60 ≤ 150000; omega⟩ (by exact Nat.le_of_ble_eq_true rfl) (fun _ _ z => z.elim) (fun v63 h63 p63 => ?_)
  obtain ⟨rfl, σ63, H63, hk63, b63⟩ := p63
  dsimp only [gk_push]
  clear H62 hk62 b62
  refine gk_if_eq C (tgt := 1002) (by omega) dL_bands_803 (by decide) (fun c_803 => ?_) (fun c_803 => ?_)
  · exact absurd c_803 (by omega)
  refine gk_aload_n C dL_bands_806 rfl ?_
  refine gk_iconst C dL_bands_807 ?_
  refine gk_iconst C dL_bands_808 ?_
  refine gk_iconst C dL_bands_809 ?_
  refine gk_iconst C dL_bands_810 ?_
  refine gk_iconst C dL_bands_811 ?_
  refine gk_iconst C dL_bands_812 ?_
  refine gk_callS C o_L_band k_L_148 dL_bands_813 (r_band hfl H63 (by omega) (by omega) (by omega) (by omega) (by omega) (by omega) hk63) rfl rfl ⟨Nat.le_of_ble_eq_true rfl, Nat.le_of_ble_eq_true rfl⟩ ⟨by show _ + 10 ≤ 3500; omega, by show _ + 60 ≤ 150000; omega⟩ (by exact Nat.le_of_ble_eq_true rfl) (fun _ _ z => z.elim) (fun v64 h64 p64 => ?_)
  obtain ⟨rfl, σ64, H64, hk64, b64⟩ := p64
  dsimp only [gk_push]
  clear H63 hk63 b63
  refine gk_if_eq C (tgt := 1002) (by omega) dL_bands_816 (by decide) (fun c_816 => ?_) (fun c_816 => ?_)
  · exact absurd c_816 (by omega)
  refine gk_aload_n C dL_bands_819 rfl ?_
  refine gk_iconst C dL_bands_820 ?_
  refine gk_iconst C dL_bands_821 ?_
  refine gk_iconst C dL_bands_822 ?_
  refine gk_iconst C dL_bands_823 ?_
  refine gk_iconst C dL_bands_824 ?_
  refine gk_iconst C dL_bands_825 ?_
  refine gk_callS C o_L_band k_L_148 dL_bands_826 (r_band hfl H64 (by omega) (by omega) (by omega) (by omega) (by omega) (by omega) hk64) rfl rfl ⟨Nat.le_of_ble_eq_true rfl, Nat.le_of_ble_eq_true rfl⟩ ⟨by show _ + 10 ≤ 3500; omega, by show _ + 60 ≤ 150000; omega⟩ (by exact Nat.le_of_ble_eq_true rfl) (fun _ _ z => z.elim) (fun v65 h65 p65 => ?_)
  obtain ⟨rfl, σ65, H65, hk65, b65⟩ := p65
  dsimp only [gk_push]
  clear H64 hk64 b64
  refine gk_if_eq C (tgt := 1002) (by omega) dL_bands_829 (by decide) (fun c_829 => ?_) (fun c_829 => ?_)
  · exact absurd c_829 (by omega)
  refine gk_aload_n C dL_bands_832 rfl ?_
  refine gk_iconst C dL_bands_833 ?_
  refine gk_iconst C dL_bands_834 ?_
  refine gk_iconst C dL_bands_835 ?_
  refine gk_iconst C dL_bands_836 ?_
  refine gk_bipush C dL_bands_837 (by decide) ?_
  refine gk_iconst C dL_bands_839 ?_
  refine gk_callS C o_L_band k_L_148 dL_bands_840 (r_band hfl H65 (by omega) (by omega) (by omega) (by omega) (by omega) (by omega) hk65) rfl rfl ⟨Nat.le_of_ble_eq_true rfl, Nat.le_of_ble_eq_true rfl⟩ ⟨by show _ + 10 ≤ 3500; omega, by show _ + 60 ≤ 150000; omega⟩ (by exact Nat.le_of_ble_eq_true rfl) (fun _ _ z => z.elim) (fun v66 h66 p66 => ?_)
  obtain ⟨rfl, σ66, H66, hk66, b66⟩ := p66
  dsimp only [gk_push]
  clear H65 hk65 b65
  refine gk_if_eq C (tgt := 1002) (by omega) dL_bands_843 (by decide) (fun c_843 => ?_) (fun c_843 => ?_)
  · exact absurd c_843 (by omega)
  refine gk_aload_n C dL_bands_846 rfl ?_
  refine gk_iconst C dL_bands_847 ?_
  refine gk_iconst C dL_bands_848 ?_
  refine gk_iconst C dL_bands_849 ?_
  refine gk_iconst C dL_bands_850 ?_
  refine gk_iconst C dL_bands_851 ?_
  refine gk_iconst C dL_bands_852 ?_
  refine gk_callS C o_L_band k_L_148 dL_bands_853 (r_band hfl H66 (by omega) (by omega) (by omega) (by omega) (by omega) (by omega) hk66) rfl rfl ⟨Nat.le_of_ble_eq_true rfl, Nat.le_of_ble_eq_true rfl⟩ ⟨by show _ + 10 ≤ 3500; omega, by show _ + 60 ≤ 150000; omega⟩ (by exact Nat.le_of_ble_eq_true rfl) (fun _ _ z => z.elim) (fun v67 h67 p67 => ?_)
  obtain ⟨rfl, σ67, H67, hk67, b67⟩ := p67
  dsimp only [gk_push]
  clear H66 hk66 b66
  refine gk_if_eq C (tgt := 1002) (by omega) dL_bands_856 (by decide) (fun c_856 => ?_) (fun c_856 => ?_)
  · exact absurd c_856 (by omega)
  refine gk_aload_n C dL_bands_859 rfl ?_
  refine gk_iconst C dL_bands_860 ?_
  refine gk_iconst C dL_bands_861 ?_
  refine gk_iconst C dL_bands_862 ?_
  refine gk_iconst C dL_bands_863 ?_
  refine gk_iconst C dL_bands_864 ?_
  refine gk_iconst C dL_bands_865 ?_
  refine gk_callS C o_L_band k_L_148 dL_bands_866 (r_band hfl H67 (by omega) (by omega) (by omega) (by omega) (by omega) (by omega) hk67) rfl rfl ⟨Nat.le_of_ble_eq_true rfl, Nat.le_of_ble_eq_true rfl⟩ ⟨by show _ + 10 ≤ 3500; omega, by show _ + 60 ≤ 150000; omega⟩ (by exact Nat.le_of_ble_eq_true rfl) (fun _ _ z => z.elim) (fun v68 h68 p68 => ?_)
  obtain ⟨rfl, σ68, H68, hk68, b68⟩ := p68
  dsimp only [gk_push]
  clear H67 hk67 b67
  refine gk_if_eq C (tgt := 1002) (by omega) dL_bands_869 (by decide) (fun c_869 => ?_) (fun c_869 => ?_)
  · exact absurd c_869 (by omega)
  refine gk_aload_n C dL_bands_872 rfl ?_
  obtain ⟨σ69, e69, b69, hk69⟩ := chk_c hk68
  obtain ⟨fs69, ob69⟩ := H68.obj
  refine gk_callV C o_X4_season k_L_77 dL_bands_873 (HC.dir (h_season hfl H68  ) e69 (by omega)) ob69 rfl rfl rfl ⟨Nat.le_of_ble_eq_true rfl, Nat.le_of_ble_eq_true rfl⟩ ⟨by show _ + 1 ≤ 3500; omega, by show _ + 6 ≤ 150000; omega⟩ (by exact Nat.le_of_ble_eq_true rfl) (fun _ _ z => z.elim) (fun v69 h69 p69 => ?_)
  obtain ⟨rfl, H69⟩ := p69
  dsimp only [gk_push]
  clear e69 ob69 H68 hk68 b68
  refine gk_iconst C dL_bands_876 ?_
  refine gk_icmp_ne C (tgt := 1002) (by omega) (by omega) dL_bands_877 (by decide) (fun c_877 => ?_) (fun c_877 => ?_)
  · exact absurd c_877 (by omega)
  refine gk_aload_n C dL_bands_880 rfl ?_
  refine gk_iconst C dL_bands_881 ?_
  refine gk_iconst C dL_bands_882 ?_
  obtain ⟨σ70, e70, b70, hk70⟩ := chk_c hk69
  obtain ⟨fs70, ob70⟩ := H69.obj
  refine gk_callV C o_X4_ofBand k_L_80 dL_bands_883 (HC.dir (h_ofBand hfl H69 (b := (3)) (w := (0)) (by omega) (by omega)) e70 (by omega)) ob70 rfl rfl rfl ⟨Nat.le_of_ble_eq_true rfl, Nat.le_of_ble_eq_true rfl⟩ ⟨by show _ + 2 ≤ 3500; omega, by show _ + 12 ≤ 150000; omega⟩ (by exact Nat.le_of_ble_eq_true rfl) (fun _ _ z => z.elim) (fun v70 h70 p70 => ?_)
  obtain ⟨rfl, H70⟩ := p70
  dsimp only [gk_push]
  clear e70 ob70 H69 hk69 b69
  refine gk_iconst C dL_bands_886 ?_
  refine gk_icmp_ne C (tgt := 1002) (by omega) (by omega) dL_bands_887 (by decide) (fun c_887 => ?_) (fun c_887 => ?_)
  · exact absurd c_887 (by omega)
  refine gk_aload_n C dL_bands_890 rfl ?_
  refine gk_iconst C dL_bands_891 ?_
  refine gk_iconst C dL_bands_892 ?_
  obtain ⟨σ71, e71, b71, hk71⟩ := chk_c hk70
  obtain ⟨fs71, ob71⟩ := H70.obj
  refine gk_callV C o_X4_ofBand k_L_80 dL_bands_893 (HC.dir (h_ofBand hfl H70 (b := (0)) (w := (0)) (by omega) (by omega)) e71 (by omega)) ob71 rfl rfl rfl ⟨Nat.le_of_ble_eq_true rfl, Nat.le_of_ble_eq_true rfl⟩ ⟨by show _ + 2 ≤ 3500; omega, by show _ + 12 ≤ 150000; omega⟩ (by exact Nat.le_of_ble_eq_true rfl) (fun _ _ z => z.elim) (fun v71 h71 p71 => ?_)
  obtain ⟨rfl, H71⟩ := p71
  dsimp only [gk_push]
  clear e71 ob71 H70 hk70 b70
  refine gk_iconst C dL_bands_896 ?_
  refine gk_icmp_ne C (tgt := 1002) (by omega) (by omega) dL_bands_897 (by decide) (fun c_897 => ?_) (fun c_897 => ?_)
  · exact absurd c_897 (by omega)
  refine gk_aload_n C dL_bands_900 rfl ?_
  refine gk_iconst C dL_bands_901 ?_
  refine gk_iconst C dL_bands_902 ?_
  obtain ⟨σ72, e72, b72, hk72⟩ := chk_c hk71
  obtain ⟨fs72, ob72⟩ := H71.obj
  refine gk_callV C o_X4_ofBand k_L_80 dL_bands_903 (HC.dir (h_ofBand hfl H71 (b := (1)) (w := (0)) (by omega) (by omega)) e72 (by omega)) ob72 rfl rfl rfl ⟨Nat.le_of_ble_eq_true rfl, Nat.le_of_ble_eq_true rfl⟩ ⟨by show _ + 2 ≤ 3500; omega, by show _ + 12 ≤ 150000; omega⟩ (by exact Nat.le_of_ble_eq_true rfl) (fun _ _ z => z.elim) (fun v72 h72 p72 => ?_)
  obtain ⟨rfl, H72⟩ := p72
  dsimp only [gk_push]
  clear e72 ob72 H71 hk71 b71
  refine gk_iconst C dL_bands_906 ?_
  refine gk_icmp_ne C (tgt := 1002) (by omega) (by omega) dL_bands_907 (by decide) (fun c_907 => ?_) (fun c_907 => ?_)
  · exact absurd c_907 (by omega)
  refine gk_aload_n C dL_bands_910 rfl ?_
  refine gk_iconst C dL_bands_911 ?_
  refine gk_iconst C dL_bands_912 ?_
  obtain ⟨σ73, e73, b73, hk73⟩ := chk_c hk72
  obtain ⟨fs73, ob73⟩ := H72.obj
  refine gk_callV C o_X4_ofBand k_L_80 dL_bands_913 (HC.dir (h_ofBand hfl H72 (b := (2)) (w := (0)) (by omega) (by omega)) e73 (by omega)) ob73 rfl rfl rfl ⟨Nat.le_of_ble_eq_true rfl, Nat.le_of_ble_eq_true rfl⟩ ⟨by show _ + 2 ≤ 3500; omega, by show _ + 12 ≤ 150000; omega⟩ (by exact Nat.le_of_ble_eq_true rfl) (fun _ _ z => z.elim) (fun v73 h73 p73 => ?_)
  obtain ⟨rfl, H73⟩ := p73
  dsimp only [gk_push]
  clear e73 ob73 H72 hk72 b72
  refine gk_iconst C dL_bands_916 ?_
  refine gk_icmp_ne C (tgt := 1002) (by omega) (by omega) dL_bands_917 (by decide) (fun c_917 => ?_) (fun c_917 => ?_)
  · exact absurd c_917 (by omega)
  refine gk_aload_n C dL_bands_920 rfl ?_
  refine gk_iconst C dL_bands_921 ?_
  refine gk_iconst C dL_bands_922 ?_
  obtain ⟨σ74, e74, b74, hk74⟩ := chk_c hk73
  obtain ⟨fs74, ob74⟩ := H73.obj
  refine gk_callV C o_X4_ofBand k_L_80 dL_bands_923 (HC.dir (h_ofBand hfl H73 (b := (5)) (w := (0)) (by omega) (by omega)) e74 (by omega)) ob74 rfl rfl rfl ⟨Nat.le_of_ble_eq_true rfl, Nat.le_of_ble_eq_true rfl⟩ ⟨by show _ + 2 ≤ 3500; omega, by show _ + 12 ≤ 150000; omega⟩ (by exact Nat.le_of_ble_eq_true rfl) (fun _ _ z => z.elim) (fun v74 h74 p74 => ?_)
  obtain ⟨rfl, H74⟩ := p74
  dsimp only [gk_push]
  clear e74 ob74 H73 hk73 b73
  refine gk_iconst C dL_bands_926 ?_
  refine gk_icmp_ne C (tgt := 1002) (by omega) (by omega) dL_bands_927 (by decide) (fun c_927 => ?_) (fun c_927 => ?_)
  · exact absurd c_927 (by omega)
  refine gk_aload_n C dL_bands_930 rfl ?_
  refine gk_iconst C dL_bands_931 ?_
  refine gk_iconst C dL_bands_932 ?_
  obtain ⟨σ75, e75, b75, hk75⟩ := chk_c hk74
  obtain ⟨fs75, ob75⟩ := H74.obj
  refine gk_callV C o_X4_ofBand k_L_80 dL_bands_933 (HC.dir (h_ofBand hfl H74 (b := (4)) (w := (0)) (by omega) (by omega)) e75 (by omega)) ob75 rfl rfl rfl ⟨Nat.le_of_ble_eq_true rfl, Nat.le_of_ble_eq_true rfl⟩ ⟨by show _ + 2 ≤ 3500; omega, by show _ + 12 ≤ 150000; omega⟩ (by exact Nat.le_of_ble_eq_true rfl) (fun _ _ z => z.elim) (fun v75 h75 p75 => ?_)
  obtain ⟨rfl, H75⟩ := p75
  dsimp only [gk_push]
  clear e75 ob75 H74 hk74 b74
  refine gk_iconst C dL_bands_936 ?_
  refine gk_icmp_ne C (tgt := 1002) (by omega) (by omega) dL_bands_937 (by decide) (fun c_937 => ?_) (fun c_937 => ?_)
  · exact absurd c_937 (by omega)
  refine gk_aload_n C dL_bands_940 rfl ?_
  obtain ⟨σ76, e76, b76, hk76⟩ := chk_c hk75
  obtain ⟨fs76, ob76⟩ := H75.obj
  refine gk_callV C o_X4_season k_L_77 dL_bands_941 (HC.dir (h_season hfl H75  ) e76 (by omega)) ob76 rfl rfl rfl ⟨Nat.le_of_ble_eq_true rfl, Nat.le_of_ble_eq_true rfl⟩ ⟨by show _ + 1 ≤ 3500; omega, by show _ + 6 ≤ 150000; omega⟩ (by exact Nat.le_of_ble_eq_true rfl) (fun _ _ z => z.elim) (fun v76 h76 p76 => ?_)
  obtain ⟨rfl, H76⟩ := p76
  dsimp only [gk_push]
  clear e76 ob76 H75 hk75 b75
  refine gk_iconst C dL_bands_944 ?_
  refine gk_icmp_ne C (tgt := 1002) (by omega) (by omega) dL_bands_945 (by decide) (fun c_945 => ?_) (fun c_945 => ?_)
  · exact absurd c_945 (by omega)
  refine gk_aload_n C dL_bands_948 rfl ?_
  refine gk_iconst C dL_bands_949 ?_
  refine gk_iconst C dL_bands_950 ?_
  obtain ⟨σ77, e77, b77, hk77⟩ := chk_c hk76
  obtain ⟨fs77, ob77⟩ := H76.obj
  refine gk_callV C o_X4_ofBand k_L_80 dL_bands_951 (HC.dir (h_ofBand hfl H76 (b := (3)) (w := (0)) (by omega) (by omega)) e77 (by omega)) ob77 rfl rfl rfl ⟨Nat.le_of_ble_eq_true rfl, Nat.le_of_ble_eq_true rfl⟩ ⟨by show _ + 2 ≤ 3500; omega, by show _ + 12 ≤ 150000; omega⟩ (by exact Nat.le_of_ble_eq_true rfl) (fun _ _ z => z.elim) (fun v77 h77 p77 => ?_)
  obtain ⟨rfl, H77⟩ := p77
  dsimp only [gk_push]
  clear e77 ob77 H76 hk76 b76
  refine gk_iconst C dL_bands_954 ?_
  refine gk_icmp_ne C (tgt := 1002) (by omega) (by omega) dL_bands_955 (by decide) (fun c_955 => ?_) (fun c_955 => ?_)
  · exact absurd c_955 (by omega)
  refine gk_aload_n C dL_bands_958 rfl ?_
  refine gk_iconst C dL_bands_959 ?_
  refine gk_iconst C dL_bands_960 ?_
  obtain ⟨σ78, e78, b78, hk78⟩ := chk_c hk77
  obtain ⟨fs78, ob78⟩ := H77.obj
  refine gk_callV C o_X4_ofBand k_L_80 dL_bands_961 (HC.dir (h_ofBand hfl H77 (b := (4)) (w := (0)) (by omega) (by omega)) e78 (by omega)) ob78 rfl rfl rfl ⟨Nat.le_of_ble_eq_true rfl, Nat.le_of_ble_eq_true rfl⟩ ⟨by show _ + 2 ≤ 3500; omega, by show _ + 12 ≤ 150000; omega⟩ (by exact Nat.le_of_ble_eq_true rfl) (fun _ _ z => z.elim) (fun v78 h78 p78 => ?_)
  obtain ⟨rfl, H78⟩ := p78
  dsimp only [gk_push]
  clear e78 ob78 H77 hk77 b77
  refine gk_iconst C dL_bands_964 ?_
  refine gk_icmp_ne C (tgt := 1002) (by omega) (by omega) dL_bands_965 (by decide) (fun c_965 => ?_) (fun c_965 => ?_)
  · exact absurd c_965 (by omega)
  refine gk_aload_n C dL_bands_968 rfl ?_
  refine gk_iconst C dL_bands_969 ?_
  refine gk_iconst C dL_bands_970 ?_
  obtain ⟨σ79, e79, b79, hk79⟩ := chk_c hk78
  obtain ⟨fs79, ob79⟩ := H78.obj
  refine gk_callV C o_X4_ofBand k_L_80 dL_bands_971 (HC.dir (h_ofBand hfl H78 (b := (2)) (w := (0)) (by omega) (by omega)) e79 (by omega)) ob79 rfl rfl rfl ⟨Nat.le_of_ble_eq_true rfl, Nat.le_of_ble_eq_true rfl⟩ ⟨by show _ + 2 ≤ 3500; omega, by show _ + 12 ≤ 150000; omega⟩ (by exact Nat.le_of_ble_eq_true rfl) (fun _ _ z => z.elim) (fun v79 h79 p79 => ?_)
  obtain ⟨rfl, H79⟩ := p79
  dsimp only [gk_push]
  clear e79 ob79 H78 hk78 b78
  refine gk_iconst C dL_bands_974 ?_
  refine gk_icmp_ne C (tgt := 1002) (by omega) (by omega) dL_bands_975 (by decide) (fun c_975 => ?_) (fun c_975 => ?_)
  · exact absurd c_975 (by omega)
  refine gk_aload_n C dL_bands_978 rfl ?_
  refine gk_iconst C dL_bands_979 ?_
  refine gk_iconst C dL_bands_980 ?_
  obtain ⟨σ80, e80, b80, hk80⟩ := chk_c hk79
  obtain ⟨fs80, ob80⟩ := H79.obj
  refine gk_callV C o_X4_ofBand k_L_80 dL_bands_981 (HC.dir (h_ofBand hfl H79 (b := (5)) (w := (0)) (by omega) (by omega)) e80 (by omega)) ob80 rfl rfl rfl ⟨Nat.le_of_ble_eq_true rfl, Nat.le_of_ble_eq_true rfl⟩ ⟨by show _ + 2 ≤ 3500; omega, by show _ + 12 ≤ 150000; omega⟩ (by exact Nat.le_of_ble_eq_true rfl) (fun _ _ z => z.elim) (fun v80 h80 p80 => ?_)
  obtain ⟨rfl, H80⟩ := p80
  dsimp only [gk_push]
  clear e80 ob80 H79 hk79 b79
  refine gk_iconst C dL_bands_984 ?_
  refine gk_icmp_ne C (tgt := 1002) (by omega) (by omega) dL_bands_985 (by decide) (fun c_985 => ?_) (fun c_985 => ?_)
  · exact absurd c_985 (by omega)
  refine gk_aload_n C dL_bands_988 rfl ?_
  refine gk_iconst C dL_bands_989 ?_
  refine gk_iconst C dL_bands_990 ?_
  obtain ⟨σ81, e81, b81, hk81⟩ := chk_c hk80
  obtain ⟨fs81, ob81⟩ := H80.obj
  refine gk_callV C o_X4_ofBand k_L_80 dL_bands_991 (HC.dir (h_ofBand hfl H80 (b := (1)) (w := (0)) (by omega) (by omega)) e81 (by omega)) ob81 rfl rfl rfl ⟨Nat.le_of_ble_eq_true rfl, Nat.le_of_ble_eq_true rfl⟩ ⟨by show _ + 2 ≤ 3500; omega, by show _ + 12 ≤ 150000; omega⟩ (by exact Nat.le_of_ble_eq_true rfl) (fun _ _ z => z.elim) (fun v81 h81 p81 => ?_)
  obtain ⟨rfl, H81⟩ := p81
  dsimp only [gk_push]
  clear e81 ob81 H80 hk80 b80
  refine gk_iconst C dL_bands_994 ?_
  refine gk_icmp_ne C (tgt := 1002) (by omega) (by omega) dL_bands_995 (by decide) (fun c_995 => ?_) (fun c_995 => ?_)
  · exact absurd c_995 (by omega)
  refine gk_iconst C dL_bands_998 ?_
  refine gk_goto C (tgt := 1003) dL_bands_999 (by decide) ?_
  refine (R _ _ _ _ _ (Nat.le_of_ble_eq_true rfl) (Nat.le_of_ble_eq_true rfl)).2.1 _ rfl (by omega) dL_bands_1003 ?_
  rfl
