/-! a run by hand: full -/
def ca_full : List CA := [(9, (100), (40), (9), (0), (4)), (9, (100), (40), (9), (0), (5)), (9, (100), (40), (9), (0), (6)), (9, (100), (40), (9), (0), (7)), (9, (100), (40), (9), (0), (-7000003)), (22, (0), (0), (0), (0), (0)), (23, (0), (0), (0), (0), (4)), (12, (40), (9), (40), (0), (0)), (13, (4), (3), (0), (0), (40)), (13, (4), (4), (0), (0), (100)), (13, (4), (1), (0), (0), (65)), (13, (4), (0), (0), (0), (165)), (12, (1), (0), (3), (0), (0)), (13, (4), (3), (0), (0), (39)), (26, (0), (0), (0), (0), (0)), (27, (0), (0), (0), (0), (8)), (28, (0), (0), (0), (0), (0))]
set_option maxRecDepth 100000 in
set_option maxHeartbeats 20000000 in
theorem r_full {l : Launch} {Γ : GA} {x : Nat} {σ : ST} {h : Hp} (hfl : l.stackTraces = false) (H : HD Γ x σ h) (hk : chk σ ca_full = true) (hb0 : σ.2.2.2.2 ≤ 100) : Ct l Γ m_L_full [.ref x] h (fun v _ => v = some (iv 1)) (fun _ _ => False) := by
  unfold ca_full at hk
  refine Ct.intro hfl (by decide +kernel) rfl (Nat.le_of_ble_eq_true rfl) ?_
  intro G C R T
  show G 0 [some (.ref x), none] [] h 0 0
  refine gk_iconst C dL_full_0 ?_
  refine gk_istore_n_1 C rfl (by exact Nat.le_of_ble_eq_true rfl) dL_full_1 ?_
  refine gk_iload_n C dL_full_2 rfl ?_
  refine gk_bipush C dL_full_3 (by decide) ?_
  refine gk_icmp_ge C (tgt := 44) (by omega) (by omega) dL_full_5 (by decide) (fun c_5 => ?_) (fun c_5 => ?_)
  · exact absurd c_5 (by omega)
  refine gk_aload_n C dL_full_8 rfl ?_
  refine gk_bipush C dL_full_9 (by decide) ?_
  refine gk_bipush C dL_full_11 (by decide) ?_
  refine gk_bipush C dL_full_13 (by decide) ?_
  refine gk_bipush C dL_full_15 (by decide) ?_
  refine gk_iconst C dL_full_17 ?_
  obtain ⟨σ1, e1, b1, hk1⟩ := chk_c hk
  refine gk_callSH C o_L_act k_L_100 dL_full_18 (act_e hfl H (w := 9) (a := (100)) (b := (40)) (c := (9)) (d := (0)) rfl (by omega) (by omega) (by omega) (by omega) (by omega) (Nat.le_trans hb0 (by omega)) e1) rfl rfl ⟨Nat.le_of_ble_eq_true rfl, Nat.le_of_ble_eq_true rfl⟩ ⟨by show _ + 9 ≤ 1800; omega, by show _ + 418 ≤ 80000; omega⟩ (by exact Nat.le_of_ble_eq_true rfl) (fun v1 h1 p1 => ?_)
  obtain ⟨rfl, H1⟩ := p1
  dsimp only [gk_push]
  clear e1 H hk hb0
  refine gk_iload_n C dL_full_21 rfl ?_
  refine gk_bipush C dL_full_22 (by decide) ?_
  refine gk_icmp_ge C (tgt := 31) (by omega) (by omega) dL_full_24 (by decide) (fun c_24 => ?_) (fun c_24 => ?_)
  · exact absurd c_24 (by omega)
  refine gk_iload_n C dL_full_27 rfl ?_
  refine gk_goto C (tgt := 33) dL_full_28 (by decide) ?_
  refine gk_icmp_eq C (tgt := 38) (by omega) (by omega) dL_full_33 (by decide) (fun c_33 => ?_) (fun c_33 => ?_)
  rotate_left
  · exact absurd c_33 (by omega)
  refine gk_iinc_1 C rfl (by exact Nat.le_of_ble_eq_true rfl) dL_full_38 ?_
  rw [show ((4 : Int) + 1) = 5 by decide]
  refine gk_goto C (tgt := 2) dL_full_41 (by decide) ?_
  refine gk_iload_n C dL_full_2 rfl ?_
  refine gk_bipush C dL_full_3 (by decide) ?_
  refine gk_icmp_ge C (tgt := 44) (by omega) (by omega) dL_full_5 (by decide) (fun c_5 => ?_) (fun c_5 => ?_)
  · exact absurd c_5 (by omega)
  refine gk_aload_n C dL_full_8 rfl ?_
  refine gk_bipush C dL_full_9 (by decide) ?_
  refine gk_bipush C dL_full_11 (by decide) ?_
  refine gk_bipush C dL_full_13 (by decide) ?_
  refine gk_bipush C dL_full_15 (by decide) ?_
  refine gk_iconst C dL_full_17 ?_
  obtain ⟨σ2, e2, b2, hk2⟩ := chk_c hk1
  refine gk_callSH C o_L_act k_L_100 dL_full_18 (act_e hfl H1 (w := 9) (a := (100)) (b := (40)) (c := (9)) (d := (0)) rfl (by omega) (by omega) (by omega) (by omega) (by omega) (Nat.le_trans b1 (by omega)) e2) rfl rfl ⟨Nat.le_of_ble_eq_true rfl, Nat.le_of_ble_eq_true rfl⟩ ⟨by show _ + 9 ≤ 1800; omega, by show _ + 418 ≤ 80000; omega⟩ (by exact Nat.le_of_ble_eq_true rfl) (fun v2 h2 p2 => ?_)
  obtain ⟨rfl, H2⟩ := p2
  dsimp only [gk_push]
  clear e2 H1 hk1 b1
  refine gk_iload_n C dL_full_21 rfl ?_
  refine gk_bipush C dL_full_22 (by decide) ?_
  refine gk_icmp_ge C (tgt := 31) (by omega) (by omega) dL_full_24 (by decide) (fun c_24 => ?_) (fun c_24 => ?_)
  · exact absurd c_24 (by omega)
  refine gk_iload_n C dL_full_27 rfl ?_
  refine gk_goto C (tgt := 33) dL_full_28 (by decide) ?_
  refine gk_icmp_eq C (tgt := 38) (by omega) (by omega) dL_full_33 (by decide) (fun c_33 => ?_) (fun c_33 => ?_)
  rotate_left
  · exact absurd c_33 (by omega)
  refine gk_iinc_1 C rfl (by exact Nat.le_of_ble_eq_true rfl) dL_full_38 ?_
  rw [show ((5 : Int) + 1) = 6 by decide]
  refine gk_goto C (tgt := 2) dL_full_41 (by decide) ?_
  refine gk_iload_n C dL_full_2 rfl ?_
  refine gk_bipush C dL_full_3 (by decide) ?_
  refine gk_icmp_ge C (tgt := 44) (by omega) (by omega) dL_full_5 (by decide) (fun c_5 => ?_) (fun c_5 => ?_)
  · exact absurd c_5 (by omega)
  refine gk_aload_n C dL_full_8 rfl ?_
  refine gk_bipush C dL_full_9 (by decide) ?_
  refine gk_bipush C dL_full_11 (by decide) ?_
  refine gk_bipush C dL_full_13 (by decide) ?_
  refine gk_bipush C dL_full_15 (by decide) ?_
  refine gk_iconst C dL_full_17 ?_
  obtain ⟨σ3, e3, b3, hk3⟩ := chk_c hk2
  refine gk_callSH C o_L_act k_L_100 dL_full_18 (act_e hfl H2 (w := 9) (a := (100)) (b := (40)) (c := (9)) (d := (0)) rfl (by omega) (by omega) (by omega) (by omega) (by omega) (Nat.le_trans b2 (by omega)) e3) rfl rfl ⟨Nat.le_of_ble_eq_true rfl, Nat.le_of_ble_eq_true rfl⟩ ⟨by show _ + 9 ≤ 1800; omega, by show _ + 418 ≤ 80000; omega⟩ (by exact Nat.le_of_ble_eq_true rfl) (fun v3 h3 p3 => ?_)
  obtain ⟨rfl, H3⟩ := p3
  dsimp only [gk_push]
  clear e3 H2 hk2 b2
  refine gk_iload_n C dL_full_21 rfl ?_
  refine gk_bipush C dL_full_22 (by decide) ?_
  refine gk_icmp_ge C (tgt := 31) (by omega) (by omega) dL_full_24 (by decide) (fun c_24 => ?_) (fun c_24 => ?_)
  · exact absurd c_24 (by omega)
  refine gk_iload_n C dL_full_27 rfl ?_
  refine gk_goto C (tgt := 33) dL_full_28 (by decide) ?_
  refine gk_icmp_eq C (tgt := 38) (by omega) (by omega) dL_full_33 (by decide) (fun c_33 => ?_) (fun c_33 => ?_)
  rotate_left
  · exact absurd c_33 (by omega)
  refine gk_iinc_1 C rfl (by exact Nat.le_of_ble_eq_true rfl) dL_full_38 ?_
  rw [show ((6 : Int) + 1) = 7 by decide]
  refine gk_goto C (tgt := 2) dL_full_41 (by decide) ?_
  refine gk_iload_n C dL_full_2 rfl ?_
  refine gk_bipush C dL_full_3 (by decide) ?_
  refine gk_icmp_ge C (tgt := 44) (by omega) (by omega) dL_full_5 (by decide) (fun c_5 => ?_) (fun c_5 => ?_)
  · exact absurd c_5 (by omega)
  refine gk_aload_n C dL_full_8 rfl ?_
  refine gk_bipush C dL_full_9 (by decide) ?_
  refine gk_bipush C dL_full_11 (by decide) ?_
  refine gk_bipush C dL_full_13 (by decide) ?_
  refine gk_bipush C dL_full_15 (by decide) ?_
  refine gk_iconst C dL_full_17 ?_
  obtain ⟨σ4, e4, b4, hk4⟩ := chk_c hk3
  refine gk_callSH C o_L_act k_L_100 dL_full_18 (act_e hfl H3 (w := 9) (a := (100)) (b := (40)) (c := (9)) (d := (0)) rfl (by omega) (by omega) (by omega) (by omega) (by omega) (Nat.le_trans b3 (by omega)) e4) rfl rfl ⟨Nat.le_of_ble_eq_true rfl, Nat.le_of_ble_eq_true rfl⟩ ⟨by show _ + 9 ≤ 1800; omega, by show _ + 418 ≤ 80000; omega⟩ (by exact Nat.le_of_ble_eq_true rfl) (fun v4 h4 p4 => ?_)
  obtain ⟨rfl, H4⟩ := p4
  dsimp only [gk_push]
  clear e4 H3 hk3 b3
  refine gk_iload_n C dL_full_21 rfl ?_
  refine gk_bipush C dL_full_22 (by decide) ?_
  refine gk_icmp_ge C (tgt := 31) (by omega) (by omega) dL_full_24 (by decide) (fun c_24 => ?_) (fun c_24 => ?_)
  · exact absurd c_24 (by omega)
  refine gk_iload_n C dL_full_27 rfl ?_
  refine gk_goto C (tgt := 33) dL_full_28 (by decide) ?_
  refine gk_icmp_eq C (tgt := 38) (by omega) (by omega) dL_full_33 (by decide) (fun c_33 => ?_) (fun c_33 => ?_)
  rotate_left
  · exact absurd c_33 (by omega)
  refine gk_iinc_1 C rfl (by exact Nat.le_of_ble_eq_true rfl) dL_full_38 ?_
  rw [show ((7 : Int) + 1) = 8 by decide]
  refine gk_goto C (tgt := 2) dL_full_41 (by decide) ?_
  refine gk_iload_n C dL_full_2 rfl ?_
  refine gk_bipush C dL_full_3 (by decide) ?_
  refine gk_icmp_ge C (tgt := 44) (by omega) (by omega) dL_full_5 (by decide) (fun c_5 => ?_) (fun c_5 => ?_)
  · exact absurd c_5 (by omega)
  refine gk_aload_n C dL_full_8 rfl ?_
  refine gk_bipush C dL_full_9 (by decide) ?_
  refine gk_bipush C dL_full_11 (by decide) ?_
  refine gk_bipush C dL_full_13 (by decide) ?_
  refine gk_bipush C dL_full_15 (by decide) ?_
  refine gk_iconst C dL_full_17 ?_
  obtain ⟨σ5, e5, b5, hk5⟩ := chk_c hk4
  refine gk_callSH C o_L_act k_L_100 dL_full_18 (act_e hfl H4 (w := 9) (a := (100)) (b := (40)) (c := (9)) (d := (0)) rfl (by omega) (by omega) (by omega) (by omega) (by omega) (Nat.le_trans b4 (by omega)) e5) rfl rfl ⟨Nat.le_of_ble_eq_true rfl, Nat.le_of_ble_eq_true rfl⟩ ⟨by show _ + 9 ≤ 1800; omega, by show _ + 418 ≤ 80000; omega⟩ (by exact Nat.le_of_ble_eq_true rfl) (fun v5 h5 p5 => ?_)
  obtain ⟨rfl, H5⟩ := p5
  dsimp only [gk_push]
  clear e5 H4 hk4 b4
  refine gk_iload_n C dL_full_21 rfl ?_
  refine gk_bipush C dL_full_22 (by decide) ?_
  refine gk_icmp_ge C (tgt := 31) (by omega) (by omega) dL_full_24 (by decide) (fun c_24 => ?_) (fun c_24 => ?_)
  rotate_left
  · exact absurd c_24 (by omega)
  refine gk_ldc C cn_L_91 dL_full_31 ?_
  refine gk_icmp_eq C (tgt := 38) (by omega) (by omega) dL_full_33 (by decide) (fun c_33 => ?_) (fun c_33 => ?_)
  rotate_left
  · exact absurd c_33 (by omega)
  refine gk_iinc_1 C rfl (by exact Nat.le_of_ble_eq_true rfl) dL_full_38 ?_
  rw [show ((8 : Int) + 1) = 9 by decide]
  refine gk_goto C (tgt := 2) dL_full_41 (by decide) ?_
  refine gk_iload_n C dL_full_2 rfl ?_
  refine gk_bipush C dL_full_3 (by decide) ?_
  refine gk_icmp_ge C (tgt := 44) (by omega) (by omega) dL_full_5 (by decide) (fun c_5 => ?_) (fun c_5 => ?_)
  rotate_left
  · exact absurd c_5 (by omega)
  refine gk_aload_n C dL_full_44 rfl ?_
  obtain ⟨σ6, e6, b6, hk6⟩ := chk_c hk5
  obtain ⟨fs6, ob6⟩ := H5.obj
  refine gk_callV C o_X4_spread k_L_93 dL_full_45 (HC.dir (h_spread hfl H5  ) e6 (by omega)) ob6 rfl rfl rfl ⟨Nat.le_of_ble_eq_true rfl, Nat.le_of_ble_eq_true rfl⟩ ⟨by show _ + 0 ≤ 1800; omega, by show _ + 0 ≤ 80000; omega⟩ (by exact Nat.le_of_ble_eq_true rfl) (fun _ _ z => z.elim) (fun v6 h6 p6 => ?_)
  obtain ⟨rfl, H6⟩ := p6
  dsimp only [gk_push]
  clear e6 ob6 H5 hk5 b5
  refine gk_if_ne C (tgt := 153) (by omega) dL_full_48 (by decide) (fun c_48 => ?_) (fun c_48 => ?_)
  · exact absurd c_48 (by omega)
  refine gk_aload_n C dL_full_51 rfl ?_
  obtain ⟨σ7, e7, b7, hk7⟩ := chk_c hk6
  obtain ⟨fs7, ob7⟩ := H6.obj
  refine gk_callV C o_X4_odd k_L_138 dL_full_52 (HC.dir (h_odd hfl H6  ) e7 (by omega)) ob7 rfl rfl rfl ⟨Nat.le_of_ble_eq_true rfl, Nat.le_of_ble_eq_true rfl⟩ ⟨by show _ + 0 ≤ 1800; omega, by show _ + 0 ≤ 80000; omega⟩ (by exact Nat.le_of_ble_eq_true rfl) (fun _ _ z => z.elim) (fun v7 h7 p7 => ?_)
  obtain ⟨rfl, H7⟩ := p7
  dsimp only [gk_push]
  clear e7 ob7 H6 hk6 b6
  refine gk_iconst C dL_full_55 ?_
  refine gk_icmp_ne C (tgt := 153) (by omega) (by omega) dL_full_56 (by decide) (fun c_56 => ?_) (fun c_56 => ?_)
  · exact absurd c_56 (by omega)
  refine gk_aload_n C dL_full_59 rfl ?_
  refine gk_bipush C dL_full_60 (by decide) ?_
  refine gk_bipush C dL_full_62 (by decide) ?_
  refine gk_bipush C dL_full_64 (by decide) ?_
  obtain ⟨σ8, e8, b8, hk8⟩ := chk_c hk7
  obtain ⟨fs8, ob8⟩ := H7.obj
  refine gk_callV C o_X4_play k_L_52 dL_full_66 (HC.dir (h_play hfl H7 (m := (40)) (r := (9)) (t := (40)) (by omega) (by omega) (by omega)) e8 (by omega)) ob8 rfl rfl rfl ⟨Nat.le_of_ble_eq_true rfl, Nat.le_of_ble_eq_true rfl⟩ ⟨by show _ + 1 ≤ 1800; omega, by show _ + 6 ≤ 80000; omega⟩ (by exact Nat.le_of_ble_eq_true rfl) (fun _ _ z => z.elim) (fun v8 h8 p8 => ?_)
  obtain ⟨rfl, H8⟩ := p8
  dsimp only [gk_push]
  clear e8 ob8 H7 hk7 b7
  refine gk_if_ne C (tgt := 153) (by omega) dL_full_69 (by decide) (fun c_69 => ?_) (fun c_69 => ?_)
  · exact absurd c_69 (by omega)
  refine gk_aload_n C dL_full_72 rfl ?_
  refine gk_iconst C dL_full_73 ?_
  refine gk_iconst C dL_full_74 ?_
  obtain ⟨σ9, e9, b9, hk9⟩ := chk_c hk8
  obtain ⟨fs9, ob9⟩ := H8.obj
  refine gk_callV C o_X4_ofPiper k_L_55 dL_full_75 (HC.dir (h_ofPiper hfl H8 (p := (4)) (w := (3)) (by omega) (by omega)) e9 (by omega)) ob9 rfl rfl rfl ⟨Nat.le_of_ble_eq_true rfl, Nat.le_of_ble_eq_true rfl⟩ ⟨by show _ + 2 ≤ 1800; omega, by show _ + 12 ≤ 80000; omega⟩ (by exact Nat.le_of_ble_eq_true rfl) (fun _ _ z => z.elim) (fun v9 h9 p9 => ?_)
  obtain ⟨rfl, H9⟩ := p9
  dsimp only [gk_push]
  clear e9 ob9 H8 hk8 b8
  refine gk_bipush C dL_full_78 (by decide) ?_
  refine gk_icmp_ne C (tgt := 153) (by omega) (by omega) dL_full_80 (by decide) (fun c_80 => ?_) (fun c_80 => ?_)
  · exact absurd c_80 (by omega)
  refine gk_aload_n C dL_full_83 rfl ?_
  refine gk_iconst C dL_full_84 ?_
  refine gk_iconst C dL_full_85 ?_
  obtain ⟨σ10, e10, b10, hk10⟩ := chk_c hk9
  obtain ⟨fs10, ob10⟩ := H9.obj
  refine gk_callV C o_X4_ofPiper k_L_55 dL_full_86 (HC.dir (h_ofPiper hfl H9 (p := (4)) (w := (4)) (by omega) (by omega)) e10 (by omega)) ob10 rfl rfl rfl ⟨Nat.le_of_ble_eq_true rfl, Nat.le_of_ble_eq_true rfl⟩ ⟨by show _ + 2 ≤ 1800; omega, by show _ + 12 ≤ 80000; omega⟩ (by exact Nat.le_of_ble_eq_true rfl) (fun _ _ z => z.elim) (fun v10 h10 p10 => ?_)
  obtain ⟨rfl, H10⟩ := p10
  dsimp only [gk_push]
  clear e10 ob10 H9 hk9 b9
  refine gk_bipush C dL_full_89 (by decide) ?_
  refine gk_icmp_ne C (tgt := 153) (by omega) (by omega) dL_full_91 (by decide) (fun c_91 => ?_) (fun c_91 => ?_)
  · exact absurd c_91 (by omega)
  refine gk_aload_n C dL_full_94 rfl ?_
  refine gk_iconst C dL_full_95 ?_
  refine gk_iconst C dL_full_96 ?_
  obtain ⟨σ11, e11, b11, hk11⟩ := chk_c hk10
  obtain ⟨fs11, ob11⟩ := H10.obj
  refine gk_callV C o_X4_ofPiper k_L_55 dL_full_97 (HC.dir (h_ofPiper hfl H10 (p := (4)) (w := (1)) (by omega) (by omega)) e11 (by omega)) ob11 rfl rfl rfl ⟨Nat.le_of_ble_eq_true rfl, Nat.le_of_ble_eq_true rfl⟩ ⟨by show _ + 2 ≤ 1800; omega, by show _ + 12 ≤ 80000; omega⟩ (by exact Nat.le_of_ble_eq_true rfl) (fun _ _ z => z.elim) (fun v11 h11 p11 => ?_)
  obtain ⟨rfl, H11⟩ := p11
  dsimp only [gk_push]
  clear e11 ob11 H10 hk10 b10
  refine gk_bipush C dL_full_100 (by decide) ?_
  refine gk_icmp_ne C (tgt := 153) (by omega) (by omega) dL_full_102 (by decide) (fun c_102 => ?_) (fun c_102 => ?_)
  · exact absurd c_102 (by omega)
  refine gk_aload_n C dL_full_105 rfl ?_
  refine gk_iconst C dL_full_106 ?_
  refine gk_iconst C dL_full_107 ?_
  obtain ⟨σ12, e12, b12, hk12⟩ := chk_c hk11
  obtain ⟨fs12, ob12⟩ := H11.obj
  refine gk_callV C o_X4_ofPiper k_L_55 dL_full_108 (HC.dir (h_ofPiper hfl H11 (p := (4)) (w := (0)) (by omega) (by omega)) e12 (by omega)) ob12 rfl rfl rfl ⟨Nat.le_of_ble_eq_true rfl, Nat.le_of_ble_eq_true rfl⟩ ⟨by show _ + 2 ≤ 1800; omega, by show _ + 12 ≤ 80000; omega⟩ (by exact Nat.le_of_ble_eq_true rfl) (fun _ _ z => z.elim) (fun v12 h12 p12 => ?_)
  obtain ⟨rfl, H12⟩ := p12
  dsimp only [gk_push]
  clear e12 ob12 H11 hk11 b11
  refine gk_sipush C dL_full_111 (by decide) ?_
  refine gk_icmp_ne C (tgt := 153) (by omega) (by omega) dL_full_114 (by decide) (fun c_114 => ?_) (fun c_114 => ?_)
  · exact absurd c_114 (by omega)
  refine gk_aload_n C dL_full_117 rfl ?_
  refine gk_iconst C dL_full_118 ?_
  refine gk_iconst C dL_full_119 ?_
  refine gk_iconst C dL_full_120 ?_
  obtain ⟨σ13, e13, b13, hk13⟩ := chk_c hk12
  obtain ⟨fs13, ob13⟩ := H12.obj
  refine gk_callV C o_X4_play k_L_52 dL_full_121 (HC.dir (h_play hfl H12 (m := (1)) (r := (0)) (t := (3)) (by omega) (by omega) (by omega)) e13 (by omega)) ob13 rfl rfl rfl ⟨Nat.le_of_ble_eq_true rfl, Nat.le_of_ble_eq_true rfl⟩ ⟨by show _ + 1 ≤ 1800; omega, by show _ + 6 ≤ 80000; omega⟩ (by exact Nat.le_of_ble_eq_true rfl) (fun _ _ z => z.elim) (fun v13 h13 p13 => ?_)
  obtain ⟨rfl, H13⟩ := p13
  dsimp only [gk_push]
  clear e13 ob13 H12 hk12 b12
  refine gk_if_ne C (tgt := 153) (by omega) dL_full_124 (by decide) (fun c_124 => ?_) (fun c_124 => ?_)
  · exact absurd c_124 (by omega)
  refine gk_aload_n C dL_full_127 rfl ?_
  refine gk_iconst C dL_full_128 ?_
  refine gk_iconst C dL_full_129 ?_
  obtain ⟨σ14, e14, b14, hk14⟩ := chk_c hk13
  obtain ⟨fs14, ob14⟩ := H13.obj
  refine gk_callV C o_X4_ofPiper k_L_55 dL_full_130 (HC.dir (h_ofPiper hfl H13 (p := (4)) (w := (3)) (by omega) (by omega)) e14 (by omega)) ob14 rfl rfl rfl ⟨Nat.le_of_ble_eq_true rfl, Nat.le_of_ble_eq_true rfl⟩ ⟨by show _ + 2 ≤ 1800; omega, by show _ + 12 ≤ 80000; omega⟩ (by exact Nat.le_of_ble_eq_true rfl) (fun _ _ z => z.elim) (fun v14 h14 p14 => ?_)
  obtain ⟨rfl, H14⟩ := p14
  dsimp only [gk_push]
  clear e14 ob14 H13 hk13 b13
  refine gk_bipush C dL_full_133 (by decide) ?_
  refine gk_icmp_ne C (tgt := 153) (by omega) (by omega) dL_full_135 (by decide) (fun c_135 => ?_) (fun c_135 => ?_)
  · exact absurd c_135 (by omega)
  refine gk_aload_n C dL_full_138 rfl ?_
  refine gk_iconst C dL_full_139 ?_
  refine gk_bipush C dL_full_140 (by decide) ?_
  refine gk_iconst C dL_full_142 ?_
  obtain ⟨⟨n1_15, n2_15, n3_15⟩, b15, hk15⟩ := chk_n hk14
  refine gk_callS C o_L_refuses k_L_107 dL_full_143 (r_refuses hfl H14 n1_15 n2_15 n3_15 (Nat.le_trans b14 (by omega))) rfl rfl ⟨Nat.le_of_ble_eq_true rfl, Nat.le_of_ble_eq_true rfl⟩ ⟨by show _ + 1600 ≤ 1800; omega, by show _ + 70000 ≤ 80000; omega⟩ (by exact Nat.le_of_ble_eq_true rfl) (fun _ _ z => z.elim) (fun v15 h15 p15 => ?_)
  obtain ⟨rfl, H15⟩ := p15
  dsimp only [gk_push]
  clear n1_15 n2_15 n3_15 H14 hk14 b14
  refine gk_if_eq C (tgt := 153) (by omega) dL_full_146 (by decide) (fun c_146 => ?_) (fun c_146 => ?_)
  · exact absurd c_146 (by omega)
  refine gk_iconst C dL_full_149 ?_
  refine gk_goto C (tgt := 154) dL_full_150 (by decide) ?_
  refine (R _ _ _ _ _ (Nat.le_of_ble_eq_true rfl) (Nat.le_of_ble_eq_true rfl)).2.1 _ rfl (by omega) dL_full_154 ?_
  rfl
