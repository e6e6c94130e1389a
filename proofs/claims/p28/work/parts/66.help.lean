/-! the law's helpers: tune, played, piper, band, marks -/
set_option maxRecDepth 100000 in
set_option maxHeartbeats 4000000 in
theorem r_tune {l : Launch} {Γ : GA} {x : Nat} {σ : ST} {h : Hp} (hfl : l.stackTraces = false) (H : HD Γ x σ h) {its kd nt un cl sm pa op : Int} (hits : -2147483648 ≤ its ∧ its ≤ 2147483647) (hkd : -7000000 < kd ∧ kd ≤ 2147483647) (hnt : -7000000 < nt ∧ nt ≤ 2147483647) (hun : -7000000 < un ∧ un ≤ 2147483647) (hcl : -7000000 < cl ∧ cl ≤ 2147483647) (hsm : -7000000 < sm ∧ sm ≤ 2147483647) (hpa : -7000000 < pa ∧ pa ≤ 2147483647) (hop : -7000000 < op ∧ op ≤ 2147483647) {rest : List CA} (hk : chk σ ((4, its, (0), (0), (0), kd) :: (4, its, (1), (0), (0), nt) :: (4, its, (2), (0), (0), un) :: (4, its, (3), (0), (0), cl) :: (4, its, (4), (0), (0), sm) :: (4, its, (5), (0), (0), pa) :: (4, its, (6), (0), (0), op) :: rest) = true) : Ct l Γ m_L_tune [.ref x, iv its, iv kd, iv nt, iv un, iv cl, iv sm, iv pa, iv op] h (fun v h' => v = some (iv 1) ∧ ∃ σ2 : ST, HD Γ x σ2 h' ∧ chk σ2 rest = true ∧ σ2.2.2.2.2 ≤ 100) (fun _ _ => False) := by
  refine Ct.intro hfl (by decide +kernel) rfl (Nat.le_of_ble_eq_true rfl) ?_
  intro G C R T
  show G 0 [some (.ref x), some (iv its), some (iv kd), some (iv nt), some (iv un), some (iv cl), some (iv sm), some (iv pa), some (iv op)] [] h 0 0
  refine gk_aload_n C dL_tune_0 rfl ?_
  refine gk_iload_n C dL_tune_1 rfl ?_
  refine gk_iconst C dL_tune_2 ?_
  obtain ⟨σ1, e1, b1, hk1⟩ := chk_c hk
  obtain ⟨fs1, ob1⟩ := H.obj
  refine gk_callV C o_X4_ofTune k_L_25 dL_tune_3 (HC.dir (h_ofTune hfl H (t := its) (w := (0)) (by omega) (by omega)) e1 (by omega)) ob1 rfl rfl rfl ⟨Nat.le_of_ble_eq_true rfl, Nat.le_of_ble_eq_true rfl⟩ ⟨by show _ + 2 ≤ 14; omega, by show _ + 12 ≤ 84; omega⟩ (by exact Nat.le_of_ble_eq_true rfl) (fun _ _ z => z.elim) (fun v1 h1 p1 => ?_)
  obtain ⟨rfl, H1⟩ := p1
  dsimp only [gk_push]
  clear e1 ob1 H hk
  refine gk_iload_n C dL_tune_6 rfl ?_
  refine gk_icmp_ne C (tgt := 80) (by omega) (by omega) dL_tune_7 (by decide) (fun c_7 => ?_) (fun c_7 => ?_)
  · exact absurd c_7 (by omega)
  refine gk_aload_n C dL_tune_10 rfl ?_
  refine gk_iload_n C dL_tune_11 rfl ?_
  refine gk_iconst C dL_tune_12 ?_
  obtain ⟨σ2, e2, b2, hk2⟩ := chk_c hk1
  obtain ⟨fs2, ob2⟩ := H1.obj
  refine gk_callV C o_X4_ofTune k_L_25 dL_tune_13 (HC.dir (h_ofTune hfl H1 (t := its) (w := (1)) (by omega) (by omega)) e2 (by omega)) ob2 rfl rfl rfl ⟨Nat.le_of_ble_eq_true rfl, Nat.le_of_ble_eq_true rfl⟩ ⟨by show _ + 2 ≤ 14; omega, by show _ + 12 ≤ 84; omega⟩ (by exact Nat.le_of_ble_eq_true rfl) (fun _ _ z => z.elim) (fun v2 h2 p2 => ?_)
  obtain ⟨rfl, H2⟩ := p2
  dsimp only [gk_push]
  clear e2 ob2 H1 hk1 b1
  refine gk_iload_n C dL_tune_16 rfl ?_
  refine gk_icmp_ne C (tgt := 80) (by omega) (by omega) dL_tune_17 (by decide) (fun c_17 => ?_) (fun c_17 => ?_)
  · exact absurd c_17 (by omega)
  refine gk_aload_n C dL_tune_20 rfl ?_
  refine gk_iload_n C dL_tune_21 rfl ?_
  refine gk_iconst C dL_tune_22 ?_
  obtain ⟨σ3, e3, b3, hk3⟩ := chk_c hk2
  obtain ⟨fs3, ob3⟩ := H2.obj
  refine gk_callV C o_X4_ofTune k_L_25 dL_tune_23 (HC.dir (h_ofTune hfl H2 (t := its) (w := (2)) (by omega) (by omega)) e3 (by omega)) ob3 rfl rfl rfl ⟨Nat.le_of_ble_eq_true rfl, Nat.le_of_ble_eq_true rfl⟩ ⟨by show _ + 2 ≤ 14; omega, by show _ + 12 ≤ 84; omega⟩ (by exact Nat.le_of_ble_eq_true rfl) (fun _ _ z => z.elim) (fun v3 h3 p3 => ?_)
  obtain ⟨rfl, H3⟩ := p3
  dsimp only [gk_push]
  clear e3 ob3 H2 hk2 b2
  refine gk_iload C dL_tune_26 rfl ?_
  refine gk_icmp_ne C (tgt := 80) (by omega) (by omega) dL_tune_28 (by decide) (fun c_28 => ?_) (fun c_28 => ?_)
  · exact absurd c_28 (by omega)
  refine gk_aload_n C dL_tune_31 rfl ?_
  refine gk_iload_n C dL_tune_32 rfl ?_
  refine gk_iconst C dL_tune_33 ?_
  obtain ⟨σ4, e4, b4, hk4⟩ := chk_c hk3
  obtain ⟨fs4, ob4⟩ := H3.obj
  refine gk_callV C o_X4_ofTune k_L_25 dL_tune_34 (HC.dir (h_ofTune hfl H3 (t := its) (w := (3)) (by omega) (by omega)) e4 (by omega)) ob4 rfl rfl rfl ⟨Nat.le_of_ble_eq_true rfl, Nat.le_of_ble_eq_true rfl⟩ ⟨by show _ + 2 ≤ 14; omega, by show _ + 12 ≤ 84; omega⟩ (by exact Nat.le_of_ble_eq_true rfl) (fun _ _ z => z.elim) (fun v4 h4 p4 => ?_)
  obtain ⟨rfl, H4⟩ := p4
  dsimp only [gk_push]
  clear e4 ob4 H3 hk3 b3
  refine gk_iload C dL_tune_37 rfl ?_
  refine gk_icmp_ne C (tgt := 80) (by omega) (by omega) dL_tune_39 (by decide) (fun c_39 => ?_) (fun c_39 => ?_)
  · exact absurd c_39 (by omega)
  refine gk_aload_n C dL_tune_42 rfl ?_
  refine gk_iload_n C dL_tune_43 rfl ?_
  refine gk_iconst C dL_tune_44 ?_
  obtain ⟨σ5, e5, b5, hk5⟩ := chk_c hk4
  obtain ⟨fs5, ob5⟩ := H4.obj
  refine gk_callV C o_X4_ofTune k_L_25 dL_tune_45 (HC.dir (h_ofTune hfl H4 (t := its) (w := (4)) (by omega) (by omega)) e5 (by omega)) ob5 rfl rfl rfl ⟨Nat.le_of_ble_eq_true rfl, Nat.le_of_ble_eq_true rfl⟩ ⟨by show _ + 2 ≤ 14; omega, by show _ + 12 ≤ 84; omega⟩ (by exact Nat.le_of_ble_eq_true rfl) (fun _ _ z => z.elim) (fun v5 h5 p5 => ?_)
  obtain ⟨rfl, H5⟩ := p5
  dsimp only [gk_push]
  clear e5 ob5 H4 hk4 b4
  refine gk_iload C dL_tune_48 rfl ?_
  refine gk_icmp_ne C (tgt := 80) (by omega) (by omega) dL_tune_50 (by decide) (fun c_50 => ?_) (fun c_50 => ?_)
  · exact absurd c_50 (by omega)
  refine gk_aload_n C dL_tune_53 rfl ?_
  refine gk_iload_n C dL_tune_54 rfl ?_
  refine gk_iconst C dL_tune_55 ?_
  obtain ⟨σ6, e6, b6, hk6⟩ := chk_c hk5
  obtain ⟨fs6, ob6⟩ := H5.obj
  refine gk_callV C o_X4_ofTune k_L_25 dL_tune_56 (HC.dir (h_ofTune hfl H5 (t := its) (w := (5)) (by omega) (by omega)) e6 (by omega)) ob6 rfl rfl rfl ⟨Nat.le_of_ble_eq_true rfl, Nat.le_of_ble_eq_true rfl⟩ ⟨by show _ + 2 ≤ 14; omega, by show _ + 12 ≤ 84; omega⟩ (by exact Nat.le_of_ble_eq_true rfl) (fun _ _ z => z.elim) (fun v6 h6 p6 => ?_)
  obtain ⟨rfl, H6⟩ := p6
  dsimp only [gk_push]
  clear e6 ob6 H5 hk5 b5
  refine gk_iload C dL_tune_59 rfl ?_
  refine gk_icmp_ne C (tgt := 80) (by omega) (by omega) dL_tune_61 (by decide) (fun c_61 => ?_) (fun c_61 => ?_)
  · exact absurd c_61 (by omega)
  refine gk_aload_n C dL_tune_64 rfl ?_
  refine gk_iload_n C dL_tune_65 rfl ?_
  refine gk_bipush C dL_tune_66 (by decide) ?_
  obtain ⟨σ7, e7, b7, hk7⟩ := chk_c hk6
  obtain ⟨fs7, ob7⟩ := H6.obj
  refine gk_callV C o_X4_ofTune k_L_25 dL_tune_68 (HC.dir (h_ofTune hfl H6 (t := its) (w := (6)) (by omega) (by omega)) e7 (by omega)) ob7 rfl rfl rfl ⟨Nat.le_of_ble_eq_true rfl, Nat.le_of_ble_eq_true rfl⟩ ⟨by show _ + 2 ≤ 14; omega, by show _ + 12 ≤ 84; omega⟩ (by exact Nat.le_of_ble_eq_true rfl) (fun _ _ z => z.elim) (fun v7 h7 p7 => ?_)
  obtain ⟨rfl, H7⟩ := p7
  dsimp only [gk_push]
  clear e7 ob7 H6 hk6 b6
  refine gk_iload C dL_tune_71 rfl ?_
  refine gk_icmp_ne C (tgt := 80) (by omega) (by omega) dL_tune_73 (by decide) (fun c_73 => ?_) (fun c_73 => ?_)
  · exact absurd c_73 (by omega)
  refine gk_iconst C dL_tune_76 ?_
  refine gk_goto C (tgt := 81) dL_tune_77 (by decide) ?_
  refine (R _ _ _ _ _ (Nat.le_of_ble_eq_true rfl) (Nat.le_of_ble_eq_true rfl)).2.1 _ rfl (by omega) dL_tune_81 ?_
  exact ⟨rfl, σ7, H7, hk7, b7⟩

set_option maxRecDepth 100000 in
set_option maxHeartbeats 4000000 in
theorem r_played {l : Launch} {Γ : GA} {x : Nat} {σ : ST} {h : Hp} (hfl : l.stackTraces = false) (H : HD Γ x σ h) {its pl ht le gr ah pt : Int} (hits : -2147483648 ≤ its ∧ its ≤ 2147483647) (hpl : -2147483648 ≤ pl ∧ pl ≤ 2147483647) (hht : -7000000 < ht ∧ ht ≤ 2147483647) (hle : -7000000 < le ∧ le ≤ 2147483647) (hgr : -7000000 < gr ∧ gr ≤ 2147483647) (hah : -7000000 < ah ∧ ah ≤ 2147483647) (hpt : -7000000 < pt ∧ pt ≤ 2147483647) {rest : List CA} (hk : chk σ ((3, its, pl, (0), (0), ht) :: (3, its, pl, (1), (0), le) :: (3, its, pl, (2), (0), gr) :: (3, its, pl, (3), (0), ah) :: (3, its, pl, (4), (0), pt) :: rest) = true) : Ct l Γ m_L_played [.ref x, iv its, iv pl, iv ht, iv le, iv gr, iv ah, iv pt] h (fun v h' => v = some (iv 1) ∧ ∃ σ2 : ST, HD Γ x σ2 h' ∧ chk σ2 rest = true ∧ σ2.2.2.2.2 ≤ 100) (fun _ _ => False) := by
  refine Ct.intro hfl (by decide +kernel) rfl (Nat.le_of_ble_eq_true rfl) ?_
  intro G C R T
  show G 0 [some (.ref x), some (iv its), some (iv pl), some (iv ht), some (iv le), some (iv gr), some (iv ah), some (iv pt)] [] h 0 0
  refine gk_aload_n C dL_played_0 rfl ?_
  refine gk_iload_n C dL_played_1 rfl ?_
  refine gk_iload_n C dL_played_2 rfl ?_
  refine gk_iconst C dL_played_3 ?_
  obtain ⟨σ1, e1, b1, hk1⟩ := chk_c hk
  obtain ⟨fs1, ob1⟩ := H.obj
  refine gk_callV C o_X4_played k_L_21 dL_played_4 (HC.dir (h_played hfl H (t := its) (p := pl) (w := (0)) (by omega) (by omega) (by omega)) e1 (by omega)) ob1 rfl rfl rfl ⟨Nat.le_of_ble_eq_true rfl, Nat.le_of_ble_eq_true rfl⟩ ⟨by show _ + 3 ≤ 15; omega, by show _ + 18 ≤ 90; omega⟩ (by exact Nat.le_of_ble_eq_true rfl) (fun _ _ z => z.elim) (fun v1 h1 p1 => ?_)
  obtain ⟨rfl, H1⟩ := p1
  dsimp only [gk_push]
  clear e1 ob1 H hk
  refine gk_iload_n C dL_played_7 rfl ?_
  refine gk_icmp_ne C (tgt := 63) (by omega) (by omega) dL_played_8 (by decide) (fun c_8 => ?_) (fun c_8 => ?_)
  · exact absurd c_8 (by omega)
  refine gk_aload_n C dL_played_11 rfl ?_
  refine gk_iload_n C dL_played_12 rfl ?_
  refine gk_iload_n C dL_played_13 rfl ?_
  refine gk_iconst C dL_played_14 ?_
  obtain ⟨σ2, e2, b2, hk2⟩ := chk_c hk1
  obtain ⟨fs2, ob2⟩ := H1.obj
  refine gk_callV C o_X4_played k_L_21 dL_played_15 (HC.dir (h_played hfl H1 (t := its) (p := pl) (w := (1)) (by omega) (by omega) (by omega)) e2 (by omega)) ob2 rfl rfl rfl ⟨Nat.le_of_ble_eq_true rfl, Nat.le_of_ble_eq_true rfl⟩ ⟨by show _ + 3 ≤ 15; omega, by show _ + 18 ≤ 90; omega⟩ (by exact Nat.le_of_ble_eq_true rfl) (fun _ _ z => z.elim) (fun v2 h2 p2 => ?_)
  obtain ⟨rfl, H2⟩ := p2
  dsimp only [gk_push]
  clear e2 ob2 H1 hk1 b1
  refine gk_iload C dL_played_18 rfl ?_
  refine gk_icmp_ne C (tgt := 63) (by omega) (by omega) dL_played_20 (by decide) (fun c_20 => ?_) (fun c_20 => ?_)
  · exact absurd c_20 (by omega)
  refine gk_aload_n C dL_played_23 rfl ?_
  refine gk_iload_n C dL_played_24 rfl ?_
  refine gk_iload_n C dL_played_25 rfl ?_
  refine gk_iconst C dL_played_26 ?_
  obtain ⟨σ3, e3, b3, hk3⟩ := chk_c hk2
  obtain ⟨fs3, ob3⟩ := H2.obj
  refine gk_callV C o_X4_played k_L_21 dL_played_27 (HC.dir (h_played hfl H2 (t := its) (p := pl) (w := (2)) (by omega) (by omega) (by omega)) e3 (by omega)) ob3 rfl rfl rfl ⟨Nat.le_of_ble_eq_true rfl, Nat.le_of_ble_eq_true rfl⟩ ⟨by show _ + 3 ≤ 15; omega, by show _ + 18 ≤ 90; omega⟩ (by exact Nat.le_of_ble_eq_true rfl) (fun _ _ z => z.elim) (fun v3 h3 p3 => ?_)
  obtain ⟨rfl, H3⟩ := p3
  dsimp only [gk_push]
  clear e3 ob3 H2 hk2 b2
  refine gk_iload C dL_played_30 rfl ?_
  refine gk_icmp_ne C (tgt := 63) (by omega) (by omega) dL_played_32 (by decide) (fun c_32 => ?_) (fun c_32 => ?_)
  · exact absurd c_32 (by omega)
  refine gk_aload_n C dL_played_35 rfl ?_
  refine gk_iload_n C dL_played_36 rfl ?_
  refine gk_iload_n C dL_played_37 rfl ?_
  refine gk_iconst C dL_played_38 ?_
  obtain ⟨σ4, e4, b4, hk4⟩ := chk_c hk3
  obtain ⟨fs4, ob4⟩ := H3.obj
  refine gk_callV C o_X4_played k_L_21 dL_played_39 (HC.dir (h_played hfl H3 (t := its) (p := pl) (w := (3)) (by omega) (by omega) (by omega)) e4 (by omega)) ob4 rfl rfl rfl ⟨Nat.le_of_ble_eq_true rfl, Nat.le_of_ble_eq_true rfl⟩ ⟨by show _ + 3 ≤ 15; omega, by show _ + 18 ≤ 90; omega⟩ (by exact Nat.le_of_ble_eq_true rfl) (fun _ _ z => z.elim) (fun v4 h4 p4 => ?_)
  obtain ⟨rfl, H4⟩ := p4
  dsimp only [gk_push]
  clear e4 ob4 H3 hk3 b3
  refine gk_iload C dL_played_42 rfl ?_
  refine gk_icmp_ne C (tgt := 63) (by omega) (by omega) dL_played_44 (by decide) (fun c_44 => ?_) (fun c_44 => ?_)
  · exact absurd c_44 (by omega)
  refine gk_aload_n C dL_played_47 rfl ?_
  refine gk_iload_n C dL_played_48 rfl ?_
  refine gk_iload_n C dL_played_49 rfl ?_
  refine gk_iconst C dL_played_50 ?_
  obtain ⟨σ5, e5, b5, hk5⟩ := chk_c hk4
  obtain ⟨fs5, ob5⟩ := H4.obj
  refine gk_callV C o_X4_played k_L_21 dL_played_51 (HC.dir (h_played hfl H4 (t := its) (p := pl) (w := (4)) (by omega) (by omega) (by omega)) e5 (by omega)) ob5 rfl rfl rfl ⟨Nat.le_of_ble_eq_true rfl, Nat.le_of_ble_eq_true rfl⟩ ⟨by show _ + 3 ≤ 15; omega, by show _ + 18 ≤ 90; omega⟩ (by exact Nat.le_of_ble_eq_true rfl) (fun _ _ z => z.elim) (fun v5 h5 p5 => ?_)
  obtain ⟨rfl, H5⟩ := p5
  dsimp only [gk_push]
  clear e5 ob5 H4 hk4 b4
  refine gk_iload C dL_played_54 rfl ?_
  refine gk_icmp_ne C (tgt := 63) (by omega) (by omega) dL_played_56 (by decide) (fun c_56 => ?_) (fun c_56 => ?_)
  · exact absurd c_56 (by omega)
  refine gk_iconst C dL_played_59 ?_
  refine gk_goto C (tgt := 64) dL_played_60 (by decide) ?_
  refine (R _ _ _ _ _ (Nat.le_of_ble_eq_true rfl) (Nat.le_of_ble_eq_true rfl)).2.1 _ rfl (by omega) dL_played_64 ?_
  exact ⟨rfl, σ5, H5, hk5, b5⟩

set_option maxRecDepth 100000 in
set_option maxHeartbeats 4000000 in
theorem r_piper {l : Launch} {Γ : GA} {x : Nat} {σ : ST} {h : Hp} (hfl : l.stackTraces = false) (H : HD Γ x σ h) {its pi re se wa we mo : Int} (hits : -2147483648 ≤ its ∧ its ≤ 2147483647) (hpi : -7000000 < pi ∧ pi ≤ 2147483647) (hre : -7000000 < re ∧ re ≤ 2147483647) (hse : -7000000 < se ∧ se ≤ 2147483647) (hwa : -7000000 < wa ∧ wa ≤ 2147483647) (hwe : -7000000 < we ∧ we ≤ 2147483647) (hmo : -7000000 < mo ∧ mo ≤ 2147483647) {rest : List CA} (hk : chk σ ((13, its, (0), (0), (0), pi) :: (13, its, (1), (0), (0), re) :: (13, its, (2), (0), (0), se) :: (13, its, (3), (0), (0), wa) :: (13, its, (4), (0), (0), we) :: (13, its, (5), (0), (0), mo) :: rest) = true) : Ct l Γ m_L_piper [.ref x, iv its, iv pi, iv re, iv se, iv wa, iv we, iv mo] h (fun v h' => v = some (iv 1) ∧ ∃ σ2 : ST, HD Γ x σ2 h' ∧ chk σ2 rest = true ∧ σ2.2.2.2.2 ≤ 100) (fun _ _ => False) := by
  refine Ct.intro hfl (by decide +kernel) rfl (Nat.le_of_ble_eq_true rfl) ?_
  intro G C R T
  show G 0 [some (.ref x), some (iv its), some (iv pi), some (iv re), some (iv se), some (iv wa), some (iv we), some (iv mo)] [] h 0 0
  refine gk_aload_n C dL_piper_0 rfl ?_
  refine gk_iload_n C dL_piper_1 rfl ?_
  refine gk_iconst C dL_piper_2 ?_
  obtain ⟨σ1, e1, b1, hk1⟩ := chk_c hk
  obtain ⟨fs1, ob1⟩ := H.obj
  refine gk_callV C o_X4_ofPiper k_L_55 dL_piper_3 (HC.dir (h_ofPiper hfl H (p := its) (w := (0)) (by omega) (by omega)) e1 (by omega)) ob1 rfl rfl rfl ⟨Nat.le_of_ble_eq_true rfl, Nat.le_of_ble_eq_true rfl⟩ ⟨by show _ + 2 ≤ 12; omega, by show _ + 12 ≤ 72; omega⟩ (by exact Nat.le_of_ble_eq_true rfl) (fun _ _ z => z.elim) (fun v1 h1 p1 => ?_)
  obtain ⟨rfl, H1⟩ := p1
  dsimp only [gk_push]
  clear e1 ob1 H hk
  refine gk_iload_n C dL_piper_6 rfl ?_
  refine gk_icmp_ne C (tgt := 68) (by omega) (by omega) dL_piper_7 (by decide) (fun c_7 => ?_) (fun c_7 => ?_)
  · exact absurd c_7 (by omega)
  refine gk_aload_n C dL_piper_10 rfl ?_
  refine gk_iload_n C dL_piper_11 rfl ?_
  refine gk_iconst C dL_piper_12 ?_
  obtain ⟨σ2, e2, b2, hk2⟩ := chk_c hk1
  obtain ⟨fs2, ob2⟩ := H1.obj
  refine gk_callV C o_X4_ofPiper k_L_55 dL_piper_13 (HC.dir (h_ofPiper hfl H1 (p := its) (w := (1)) (by omega) (by omega)) e2 (by omega)) ob2 rfl rfl rfl ⟨Nat.le_of_ble_eq_true rfl, Nat.le_of_ble_eq_true rfl⟩ ⟨by show _ + 2 ≤ 12; omega, by show _ + 12 ≤ 72; omega⟩ (by exact Nat.le_of_ble_eq_true rfl) (fun _ _ z => z.elim) (fun v2 h2 p2 => ?_)
  obtain ⟨rfl, H2⟩ := p2
  dsimp only [gk_push]
  clear e2 ob2 H1 hk1 b1
  refine gk_iload_n C dL_piper_16 rfl ?_
  refine gk_icmp_ne C (tgt := 68) (by omega) (by omega) dL_piper_17 (by decide) (fun c_17 => ?_) (fun c_17 => ?_)
  · exact absurd c_17 (by omega)
  refine gk_aload_n C dL_piper_20 rfl ?_
  refine gk_iload_n C dL_piper_21 rfl ?_
  refine gk_iconst C dL_piper_22 ?_
  obtain ⟨σ3, e3, b3, hk3⟩ := chk_c hk2
  obtain ⟨fs3, ob3⟩ := H2.obj
  refine gk_callV C o_X4_ofPiper k_L_55 dL_piper_23 (HC.dir (h_ofPiper hfl H2 (p := its) (w := (2)) (by omega) (by omega)) e3 (by omega)) ob3 rfl rfl rfl ⟨Nat.le_of_ble_eq_true rfl, Nat.le_of_ble_eq_true rfl⟩ ⟨by show _ + 2 ≤ 12; omega, by show _ + 12 ≤ 72; omega⟩ (by exact Nat.le_of_ble_eq_true rfl) (fun _ _ z => z.elim) (fun v3 h3 p3 => ?_)
  obtain ⟨rfl, H3⟩ := p3
  dsimp only [gk_push]
  clear e3 ob3 H2 hk2 b2
  refine gk_iload C dL_piper_26 rfl ?_
  refine gk_icmp_ne C (tgt := 68) (by omega) (by omega) dL_piper_28 (by decide) (fun c_28 => ?_) (fun c_28 => ?_)
  · exact absurd c_28 (by omega)
  refine gk_aload_n C dL_piper_31 rfl ?_
  refine gk_iload_n C dL_piper_32 rfl ?_
  refine gk_iconst C dL_piper_33 ?_
  obtain ⟨σ4, e4, b4, hk4⟩ := chk_c hk3
  obtain ⟨fs4, ob4⟩ := H3.obj
  refine gk_callV C o_X4_ofPiper k_L_55 dL_piper_34 (HC.dir (h_ofPiper hfl H3 (p := its) (w := (3)) (by omega) (by omega)) e4 (by omega)) ob4 rfl rfl rfl ⟨Nat.le_of_ble_eq_true rfl, Nat.le_of_ble_eq_true rfl⟩ ⟨by show _ + 2 ≤ 12; omega, by show _ + 12 ≤ 72; omega⟩ (by exact Nat.le_of_ble_eq_true rfl) (fun _ _ z => z.elim) (fun v4 h4 p4 => ?_)
  obtain ⟨rfl, H4⟩ := p4
  dsimp only [gk_push]
  clear e4 ob4 H3 hk3 b3
  refine gk_iload C dL_piper_37 rfl ?_
  refine gk_icmp_ne C (tgt := 68) (by omega) (by omega) dL_piper_39 (by decide) (fun c_39 => ?_) (fun c_39 => ?_)
  · exact absurd c_39 (by omega)
  refine gk_aload_n C dL_piper_42 rfl ?_
  refine gk_iload_n C dL_piper_43 rfl ?_
  refine gk_iconst C dL_piper_44 ?_
  obtain ⟨σ5, e5, b5, hk5⟩ := chk_c hk4
  obtain ⟨fs5, ob5⟩ := H4.obj
  refine gk_callV C o_X4_ofPiper k_L_55 dL_piper_45 (HC.dir (h_ofPiper hfl H4 (p := its) (w := (4)) (by omega) (by omega)) e5 (by omega)) ob5 rfl rfl rfl ⟨Nat.le_of_ble_eq_true rfl, Nat.le_of_ble_eq_true rfl⟩ ⟨by show _ + 2 ≤ 12; omega, by show _ + 12 ≤ 72; omega⟩ (by exact Nat.le_of_ble_eq_true rfl) (fun _ _ z => z.elim) (fun v5 h5 p5 => ?_)
  obtain ⟨rfl, H5⟩ := p5
  dsimp only [gk_push]
  clear e5 ob5 H4 hk4 b4
  refine gk_iload C dL_piper_48 rfl ?_
  refine gk_icmp_ne C (tgt := 68) (by omega) (by omega) dL_piper_50 (by decide) (fun c_50 => ?_) (fun c_50 => ?_)
  · exact absurd c_50 (by omega)
  refine gk_aload_n C dL_piper_53 rfl ?_
  refine gk_iload_n C dL_piper_54 rfl ?_
  refine gk_iconst C dL_piper_55 ?_
  obtain ⟨σ6, e6, b6, hk6⟩ := chk_c hk5
  obtain ⟨fs6, ob6⟩ := H5.obj
  refine gk_callV C o_X4_ofPiper k_L_55 dL_piper_56 (HC.dir (h_ofPiper hfl H5 (p := its) (w := (5)) (by omega) (by omega)) e6 (by omega)) ob6 rfl rfl rfl ⟨Nat.le_of_ble_eq_true rfl, Nat.le_of_ble_eq_true rfl⟩ ⟨by show _ + 2 ≤ 12; omega, by show _ + 12 ≤ 72; omega⟩ (by exact Nat.le_of_ble_eq_true rfl) (fun _ _ z => z.elim) (fun v6 h6 p6 => ?_)
  obtain ⟨rfl, H6⟩ := p6
  dsimp only [gk_push]
  clear e6 ob6 H5 hk5 b5
  refine gk_iload C dL_piper_59 rfl ?_
  refine gk_icmp_ne C (tgt := 68) (by omega) (by omega) dL_piper_61 (by decide) (fun c_61 => ?_) (fun c_61 => ?_)
  · exact absurd c_61 (by omega)
  refine gk_iconst C dL_piper_64 ?_
  refine gk_goto C (tgt := 69) dL_piper_65 (by decide) ?_
  refine (R _ _ _ _ _ (Nat.le_of_ble_eq_true rfl) (Nat.le_of_ble_eq_true rfl)).2.1 _ rfl (by omega) dL_piper_69 ?_
  exact ⟨rfl, σ6, H6, hk6, b6⟩

set_option maxRecDepth 100000 in
set_option maxHeartbeats 4000000 in
theorem r_band {l : Launch} {Γ : GA} {x : Nat} {σ : ST} {h : Hp} (hfl : l.stackTraces = false) (H : HD Γ x σ h) {its gr po ra su fi : Int} (hits : -2147483648 ≤ its ∧ its ≤ 2147483647) (hgr : -7000000 < gr ∧ gr ≤ 2147483647) (hpo : -7000000 < po ∧ po ≤ 2147483647) (hra : -7000000 < ra ∧ ra ≤ 2147483647) (hsu : -7000000 < su ∧ su ≤ 2147483647) (hfi : -7000000 < fi ∧ fi ≤ 2147483647) {rest : List CA} (hk : chk σ ((21, its, (0), (0), (0), gr) :: (21, its, (1), (0), (0), po) :: (21, its, (2), (0), (0), ra) :: (21, its, (3), (0), (0), su) :: (21, its, (4), (0), (0), fi) :: rest) = true) : Ct l Γ m_L_band [.ref x, iv its, iv gr, iv po, iv ra, iv su, iv fi] h (fun v h' => v = some (iv 1) ∧ ∃ σ2 : ST, HD Γ x σ2 h' ∧ chk σ2 rest = true ∧ σ2.2.2.2.2 ≤ 100) (fun _ _ => False) := by
  refine Ct.intro hfl (by decide +kernel) rfl (Nat.le_of_ble_eq_true rfl) ?_
  intro G C R T
  show G 0 [some (.ref x), some (iv its), some (iv gr), some (iv po), some (iv ra), some (iv su), some (iv fi)] [] h 0 0
  refine gk_aload_n C dL_band_0 rfl ?_
  refine gk_iload_n C dL_band_1 rfl ?_
  refine gk_iconst C dL_band_2 ?_
  obtain ⟨σ1, e1, b1, hk1⟩ := chk_c hk
  obtain ⟨fs1, ob1⟩ := H.obj
  refine gk_callV C o_X4_ofBand k_L_80 dL_band_3 (HC.dir (h_ofBand hfl H (b := its) (w := (0)) (by omega) (by omega)) e1 (by omega)) ob1 rfl rfl rfl ⟨Nat.le_of_ble_eq_true rfl, Nat.le_of_ble_eq_true rfl⟩ ⟨by show _ + 2 ≤ 10; omega, by show _ + 12 ≤ 60; omega⟩ (by exact Nat.le_of_ble_eq_true rfl) (fun _ _ z => z.elim) (fun v1 h1 p1 => ?_)
  obtain ⟨rfl, H1⟩ := p1
  dsimp only [gk_push]
  clear e1 ob1 H hk
  refine gk_iload_n C dL_band_6 rfl ?_
  refine gk_icmp_ne C (tgt := 57) (by omega) (by omega) dL_band_7 (by decide) (fun c_7 => ?_) (fun c_7 => ?_)
  · exact absurd c_7 (by omega)
  refine gk_aload_n C dL_band_10 rfl ?_
  refine gk_iload_n C dL_band_11 rfl ?_
  refine gk_iconst C dL_band_12 ?_
  obtain ⟨σ2, e2, b2, hk2⟩ := chk_c hk1
  obtain ⟨fs2, ob2⟩ := H1.obj
  refine gk_callV C o_X4_ofBand k_L_80 dL_band_13 (HC.dir (h_ofBand hfl H1 (b := its) (w := (1)) (by omega) (by omega)) e2 (by omega)) ob2 rfl rfl rfl ⟨Nat.le_of_ble_eq_true rfl, Nat.le_of_ble_eq_true rfl⟩ ⟨by show _ + 2 ≤ 10; omega, by show _ + 12 ≤ 60; omega⟩ (by exact Nat.le_of_ble_eq_true rfl) (fun _ _ z => z.elim) (fun v2 h2 p2 => ?_)
  obtain ⟨rfl, H2⟩ := p2
  dsimp only [gk_push]
  clear e2 ob2 H1 hk1 b1
  refine gk_iload_n C dL_band_16 rfl ?_
  refine gk_icmp_ne C (tgt := 57) (by omega) (by omega) dL_band_17 (by decide) (fun c_17 => ?_) (fun c_17 => ?_)
  · exact absurd c_17 (by omega)
  refine gk_aload_n C dL_band_20 rfl ?_
  refine gk_iload_n C dL_band_21 rfl ?_
  refine gk_iconst C dL_band_22 ?_
  obtain ⟨σ3, e3, b3, hk3⟩ := chk_c hk2
  obtain ⟨fs3, ob3⟩ := H2.obj
  refine gk_callV C o_X4_ofBand k_L_80 dL_band_23 (HC.dir (h_ofBand hfl H2 (b := its) (w := (2)) (by omega) (by omega)) e3 (by omega)) ob3 rfl rfl rfl ⟨Nat.le_of_ble_eq_true rfl, Nat.le_of_ble_eq_true rfl⟩ ⟨by show _ + 2 ≤ 10; omega, by show _ + 12 ≤ 60; omega⟩ (by exact Nat.le_of_ble_eq_true rfl) (fun _ _ z => z.elim) (fun v3 h3 p3 => ?_)
  obtain ⟨rfl, H3⟩ := p3
  dsimp only [gk_push]
  clear e3 ob3 H2 hk2 b2
  refine gk_iload C dL_band_26 rfl ?_
  refine gk_icmp_ne C (tgt := 57) (by omega) (by omega) dL_band_28 (by decide) (fun c_28 => ?_) (fun c_28 => ?_)
  · exact absurd c_28 (by omega)
  refine gk_aload_n C dL_band_31 rfl ?_
  refine gk_iload_n C dL_band_32 rfl ?_
  refine gk_iconst C dL_band_33 ?_
  obtain ⟨σ4, e4, b4, hk4⟩ := chk_c hk3
  obtain ⟨fs4, ob4⟩ := H3.obj
  refine gk_callV C o_X4_ofBand k_L_80 dL_band_34 (HC.dir (h_ofBand hfl H3 (b := its) (w := (3)) (by omega) (by omega)) e4 (by omega)) ob4 rfl rfl rfl ⟨Nat.le_of_ble_eq_true rfl, Nat.le_of_ble_eq_true rfl⟩ ⟨by show _ + 2 ≤ 10; omega, by show _ + 12 ≤ 60; omega⟩ (by exact Nat.le_of_ble_eq_true rfl) (fun _ _ z => z.elim) (fun v4 h4 p4 => ?_)
  obtain ⟨rfl, H4⟩ := p4
  dsimp only [gk_push]
  clear e4 ob4 H3 hk3 b3
  refine gk_iload C dL_band_37 rfl ?_
  refine gk_icmp_ne C (tgt := 57) (by omega) (by omega) dL_band_39 (by decide) (fun c_39 => ?_) (fun c_39 => ?_)
  · exact absurd c_39 (by omega)
  refine gk_aload_n C dL_band_42 rfl ?_
  refine gk_iload_n C dL_band_43 rfl ?_
  refine gk_iconst C dL_band_44 ?_
  obtain ⟨σ5, e5, b5, hk5⟩ := chk_c hk4
  obtain ⟨fs5, ob5⟩ := H4.obj
  refine gk_callV C o_X4_ofBand k_L_80 dL_band_45 (HC.dir (h_ofBand hfl H4 (b := its) (w := (4)) (by omega) (by omega)) e5 (by omega)) ob5 rfl rfl rfl ⟨Nat.le_of_ble_eq_true rfl, Nat.le_of_ble_eq_true rfl⟩ ⟨by show _ + 2 ≤ 10; omega, by show _ + 12 ≤ 60; omega⟩ (by exact Nat.le_of_ble_eq_true rfl) (fun _ _ z => z.elim) (fun v5 h5 p5 => ?_)
  obtain ⟨rfl, H5⟩ := p5
  dsimp only [gk_push]
  clear e5 ob5 H4 hk4 b4
  refine gk_iload C dL_band_48 rfl ?_
  refine gk_icmp_ne C (tgt := 57) (by omega) (by omega) dL_band_50 (by decide) (fun c_50 => ?_) (fun c_50 => ?_)
  · exact absurd c_50 (by omega)
  refine gk_iconst C dL_band_53 ?_
  refine gk_goto C (tgt := 58) dL_band_54 (by decide) ?_
  refine (R _ _ _ _ _ (Nat.le_of_ble_eq_true rfl) (Nat.le_of_ble_eq_true rfl)).2.1 _ rfl (by omega) dL_band_58 ?_
  exact ⟨rfl, σ5, H5, hk5, b5⟩

set_option maxRecDepth 100000 in
set_option maxHeartbeats 4000000 in
theorem r_marks {l : Launch} {Γ : GA} {x : Nat} {σ : ST} {h : Hp} (hfl : l.stackTraces = false) (H : HD Γ x σ h) {ju ma mb mc r1 r2 r3 : Int} (hju : -2147483648 ≤ ju ∧ ju ≤ 2147483647) (hma : -2147483648 ≤ ma ∧ ma ≤ 2147483647) (hmb : -2147483648 ≤ mb ∧ mb ≤ 2147483647) (hmc : -2147483648 ≤ mc ∧ mc ≤ 2147483647) (hr1 : -7000000 < r1 ∧ r1 ≤ 2147483647) (hr2 : -7000000 < r2 ∧ r2 ≤ 2147483647) (hr3 : -7000000 < r3 ∧ r3 ≤ 2147483647) {rest : List CA} (hk : chk σ ((18, ju, (0), ma, (0), r1) :: (18, ju, (1), mb, (0), r2) :: (18, ju, (2), mc, (0), r3) :: rest) = true) : Ct l Γ m_L_marks [.ref x, iv ju, iv ma, iv mb, iv mc] h (fun v h' => v = some (iv r3) ∧ ∃ σ2 : ST, HD Γ x σ2 h' ∧ chk σ2 rest = true ∧ σ2.2.2.2.2 ≤ 100) (fun _ _ => False) := by
  refine Ct.intro hfl (by decide +kernel) rfl (Nat.le_of_ble_eq_true rfl) ?_
  intro G C R T
  show G 0 [some (.ref x), some (iv ju), some (iv ma), some (iv mb), some (iv mc)] [] h 0 0
  refine gk_aload_n C dL_marks_0 rfl ?_
  refine gk_iload_n C dL_marks_1 rfl ?_
  refine gk_iconst C dL_marks_2 ?_
  refine gk_iload_n C dL_marks_3 rfl ?_
  obtain ⟨σ1, e1, b1, hk1⟩ := chk_c hk
  obtain ⟨fs1, ob1⟩ := H.obj
  refine gk_callV C o_X4_mark k_L_71 dL_marks_4 (HC.dir (h_mark hfl H (j := ju) (b := (0)) (m := ma) (by omega) (by omega) (by omega)) e1 (by omega)) ob1 rfl rfl rfl ⟨Nat.le_of_ble_eq_true rfl, Nat.le_of_ble_eq_true rfl⟩ ⟨by show _ + 4 ≤ 12; omega, by show _ + 24 ≤ 72; omega⟩ (by exact Nat.le_of_ble_eq_true rfl) (fun _ _ z => z.elim) (fun v1 h1 p1 => ?_)
  obtain ⟨rfl, H1⟩ := p1
  dsimp only [gk_push]
  clear e1 ob1 H hk
  refine gk_pop C rfl dL_marks_7 ?_
  refine gk_aload_n C dL_marks_8 rfl ?_
  refine gk_iload_n C dL_marks_9 rfl ?_
  refine gk_iconst C dL_marks_10 ?_
  refine gk_iload_n C dL_marks_11 rfl ?_
  obtain ⟨σ2, e2, b2, hk2⟩ := chk_c hk1
  obtain ⟨fs2, ob2⟩ := H1.obj
  refine gk_callV C o_X4_mark k_L_71 dL_marks_12 (HC.dir (h_mark hfl H1 (j := ju) (b := (1)) (m := mb) (by omega) (by omega) (by omega)) e2 (by omega)) ob2 rfl rfl rfl ⟨Nat.le_of_ble_eq_true rfl, Nat.le_of_ble_eq_true rfl⟩ ⟨by show _ + 4 ≤ 12; omega, by show _ + 24 ≤ 72; omega⟩ (by exact Nat.le_of_ble_eq_true rfl) (fun _ _ z => z.elim) (fun v2 h2 p2 => ?_)
  obtain ⟨rfl, H2⟩ := p2
  dsimp only [gk_push]
  clear e2 ob2 H1 hk1 b1
  refine gk_pop C rfl dL_marks_15 ?_
  refine gk_aload_n C dL_marks_16 rfl ?_
  refine gk_iload_n C dL_marks_17 rfl ?_
  refine gk_iconst C dL_marks_18 ?_
  refine gk_iload C dL_marks_19 rfl ?_
  obtain ⟨σ3, e3, b3, hk3⟩ := chk_c hk2
  obtain ⟨fs3, ob3⟩ := H2.obj
  refine gk_callV C o_X4_mark k_L_71 dL_marks_21 (HC.dir (h_mark hfl H2 (j := ju) (b := (2)) (m := mc) (by omega) (by omega) (by omega)) e3 (by omega)) ob3 rfl rfl rfl ⟨Nat.le_of_ble_eq_true rfl, Nat.le_of_ble_eq_true rfl⟩ ⟨by show _ + 4 ≤ 12; omega, by show _ + 24 ≤ 72; omega⟩ (by exact Nat.le_of_ble_eq_true rfl) (fun _ _ z => z.elim) (fun v3 h3 p3 => ?_)
  obtain ⟨rfl, H3⟩ := p3
  dsimp only [gk_push]
  clear e3 ob3 H2 hk2 b2
  refine (R _ _ _ _ _ (Nat.le_of_ble_eq_true rfl) (Nat.le_of_ble_eq_true rfl)).1 _ rfl dL_marks_24 ?_
  exact ⟨rfl, σ3, H3, hk3, b3⟩
