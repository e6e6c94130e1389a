/-! the class: its start -/
def xQ0 : XTs := (0, 0, fun _ => ((0, 0, 0, 0, 0, 0, (fun _ => 0), (fun _ => 0), (fun _ => 0), (fun _ => 0), (fun _ => 0)) : TuS))
def xS0 : XSs := (false, 0, 0, (fun _ => 0), (fun _ => 0))
def xP0 : XPs := (0, 0, (fun _ => ((0, 0, 0, 0, 0, 0, 0) : PiS)), ((0, 0, 0, 0, 0, 0, 0) : PiS), 0, (fun _ => 0))
def xB0 : XBs := (0, 0, (fun _ => ((0, 0, 0, 0, 0, 0, 0, (fun _ => 0), (fun _ => 0)) : BaS)), 0, 0)
theorem embI_one {ad : XK → Nat} {o0 : AE} : embI ad (kset (fun _ => none) ((0, 0) : XK) o0) := by
  intro a b ha hb _
  have h : ∀ k : XK, kset (fun _ => none) ((0, 0) : XK) o0 k ≠ none → k = (0, 0) := by
    intro k hk
    by_cases c : k = (0, 0)
    · exact c
    · rw [kset_ne c] at hk
      exact absurd rfl hk
  rw [h a ha, h b hb]
theorem in_step {ad : XK → Nat} {m : XK → Option AE} (I : embI ad m) {a : Nat} (ha : ad (0, 0) = a) {o1 : AE} (ho : m (0, 0) = some o1) {k : XK} (hk : (0, 0) ≠ k) (hn : m k = none) {q : Nat} (hq : emb ad m q = none) {e o2 : AE} :
    hset (hset (emb ad m) q e) a o2 = emb (adset ad k q) (kset (kset m k e) (0, 0) o2) ∧ embI (adset ad k q) (kset (kset m k e) (0, 0) o2) ∧ (adset ad k q) (0, 0) = a ∧ (kset (kset m k e) (0, 0) o2) (0, 0) = some o2 := by
  have s := ladd1 (kl := (0, 0)) (kr := k) (er := e) (el := o2) I hn (by rw [ho]; intro z; cases z) hk hq
  rw [ha] at s
  exact ⟨s.1, s.2, (adset_ne hk).trans ha, kset_eq⟩
theorem in_at {ad : XK → Nat} {m : XK → Option AE} (I : embI ad m) {a : Nat} (ha : ad (0, 0) = a) {o1 : AE} (ho : m (0, 0) = some o1) : emb ad m a = some o1 := by
  rw [← ha]
  exact emb_at I ho
theorem in_at2 {ad : XK → Nat} {m : XK → Option AE} (I : embI ad m) {a : Nat} (ha : ad (0, 0) = a) {o1 : AE} (ho : m (0, 0) = some o1) {q : Nat} (hq : emb ad m q = none) {e : AE} : hset (emb ad m) q e a = some o1 := by
  have h1 := in_at I ha ho
  rw [hset_ne (fun z => by rw [z, hq] at h1; cases h1)]
  exact h1

set_option maxRecDepth 100000 in
set_option maxHeartbeats 4000000 in
theorem x_init {l : Launch} {Γ : GA} (hfl : l.stackTraces = false) {ad : XK → Nat} : Ct l Γ m_X4_init [.ref (ad (0, 0))] (emb ad (kset (fun _ => none) ((0, 0) : XK) (oO 5 [.null, .null, .null, .null, .null, .null, .null, iv 0, iv 0]))) (fun v h' => v = none ∧ ∃ ad2 : XK → Nat, ad2 (0, 0) = ad (0, 0) ∧ IX (gEm Γ) ad2 xQ0 xS0 xP0 xB0 ∧ h' = HX (gEm Γ) ad2 xQ0 xS0 xP0 xB0) (fun _ _ => False) := by
  refine Ct.intro hfl (by decide +kernel) rfl (Nat.le_of_ble_eq_true rfl) ?_
  intro G C R T
  show G 0 [some (.ref (ad (0, 0)))] [] (emb ad (kset (fun _ => none) ((0, 0) : XK) (oO 5 [.null, .null, .null, .null, .null, .null, .null, iv 0, iv 0]))) 0 0
  have I0 : embI ad (kset (fun _ => none) ((0, 0) : XK) (oO 5 [.null, .null, .null, .null, .null, .null, .null, iv 0, iv 0])) := embI_one
  obtain ⟨a0, A0⟩ : ∃ x, ad (0, 0) = x := ⟨_, rfl⟩
  have N0 : (kset (fun _ => none) ((0, 0) : XK) (oO 5 [.null, .null, .null, .null, .null, .null, .null, iv 0, iv 0])) (0, 0) = some (oO 5 [.null, .null, .null, .null, .null, .null, .null, iv 0, iv 0]) := kset_eq
  rw [A0]
  refine gk_aload_n C dX4_init_0 rfl ?_
  refine gk_objInit C oi_X4 oi_im oi_cd dX4_init_1 (by decide) (by exact Nat.le_of_ble_eq_true rfl) ?_
  refine gk_aload_n C dX4_init_4 rfl ?_
  refine gk_new C n_X4_7 (by decide) dX4_init_5 (fun q_5 e_5 => ?_)
  refine gk_dup C rfl dX4_init_8 ?_
  refine gk_callI C o_Jx4a65c_init_da8c8 rfl k_X4_9 dX4_init_9 (c_AL_init hfl hset_eq) rfl rfl (by decide) (by decide) (by exact Nat.le_of_ble_eq_true rfl) (fun _ _ z => z.elim) (fun v_9 h_9 p_9 => ?_)
  obtain ⟨rfl, rfl⟩ := p_9
  dsimp only [gk_push]
  rw [hset_set]
  refine gk_putfF C f_X4_10 rfl dX4_init_12 (in_at2 I0 A0 N0 e_5) rfl rfl (by exact Nat.le_of_ble_eq_true rfl) ?_
  obtain ⟨x_1, I1, A1, O1⟩ := in_step (k := (1, 0)) (e := oAL 0 (gEm Γ) 0) (o2 := oO 5 [.ref q_5, .null, .null, .null, .null, .null, .null, iv 0, iv 0]) I0 A0 N0 (pne (by decide)) (by rw [kset_ne (show ((1, 0) : XK) ≠ (0, 0) from pne (by decide))]) e_5
  refine gi_cast x_1 ?_
  refine gk_aload_n C dX4_init_15 rfl ?_
  refine gk_new C n_X4_7 (by decide) dX4_init_16 (fun q_16 e_16 => ?_)
  refine gk_dup C rfl dX4_init_19 ?_
  refine gk_callI C o_Jx4a65c_init_da8c8 rfl k_X4_9 dX4_init_20 (c_AL_init hfl hset_eq) rfl rfl (by decide) (by decide) (by exact Nat.le_of_ble_eq_true rfl) (fun _ _ z => z.elim) (fun v_20 h_20 p_20 => ?_)
  obtain ⟨rfl, rfl⟩ := p_20
  dsimp only [gk_push]
  rw [hset_set]
  refine gk_putfF C f_X4_16 rfl dX4_init_23 (in_at2 I1 A1 O1 e_16) rfl rfl (by exact Nat.le_of_ble_eq_true rfl) ?_
  obtain ⟨x_2, I2, A2, O2⟩ := in_step (k := (2, 0)) (e := oAL 0 (gEm Γ) 0) (o2 := oO 5 [.ref q_5, .ref q_16, .null, .null, .null, .null, .null, iv 0, iv 0]) I1 A1 O1 (pne (by decide)) (by rw [kset_ne (show ((2, 0) : XK) ≠ (0, 0) from pne (by decide)), kset_ne (show ((2, 0) : XK) ≠ (1, 0) from pne (by decide)), kset_ne (show ((2, 0) : XK) ≠ (0, 0) from pne (by decide))]) e_16
  refine gi_cast x_2 ?_
  refine gk_aload_n C dX4_init_26 rfl ?_
  refine gk_bipush C dX4_init_27 (by decide) ?_
  refine gk_newI C dX4_init_29 (by decide) (by decide) (fun q_29 e_29 => ?_)
  refine gk_putfF C f_X4_19 rfl dX4_init_31 (in_at2 I2 A2 O2 e_29) rfl rfl (by exact Nat.le_of_ble_eq_true rfl) ?_
  obtain ⟨x_3, I3, A3, O3⟩ := in_step (k := (3, 0)) (e := aI 8 (fun _ => 0)) (o2 := oO 5 [.ref q_5, .ref q_16, .ref q_29, .null, .null, .null, .null, iv 0, iv 0]) I2 A2 O2 (pne (by decide)) (by rw [kset_ne (show ((3, 0) : XK) ≠ (0, 0) from pne (by decide)), kset_ne (show ((3, 0) : XK) ≠ (2, 0) from pne (by decide)), kset_ne (show ((3, 0) : XK) ≠ (0, 0) from pne (by decide)), kset_ne (show ((3, 0) : XK) ≠ (1, 0) from pne (by decide)), kset_ne (show ((3, 0) : XK) ≠ (0, 0) from pne (by decide))]) e_29
  refine gi_cast x_3 ?_
  refine gk_aload_n C dX4_init_34 rfl ?_
  refine gk_new C n_X4_7 (by decide) dX4_init_35 (fun q_35 e_35 => ?_)
  refine gk_dup C rfl dX4_init_38 ?_
  refine gk_callI C o_Jx4a65c_init_da8c8 rfl k_X4_9 dX4_init_39 (c_AL_init hfl hset_eq) rfl rfl (by decide) (by decide) (by exact Nat.le_of_ble_eq_true rfl) (fun _ _ z => z.elim) (fun v_39 h_39 p_39 => ?_)
  obtain ⟨rfl, rfl⟩ := p_39
  dsimp only [gk_push]
  rw [hset_set]
  refine gk_putfF C f_X4_23 rfl dX4_init_42 (in_at2 I3 A3 O3 e_35) rfl rfl (by exact Nat.le_of_ble_eq_true rfl) ?_
  obtain ⟨x_4, I4, A4, O4⟩ := in_step (k := (4, 0)) (e := oAL 0 (gEm Γ) 0) (o2 := oO 5 [.ref q_5, .ref q_16, .ref q_29, .ref q_35, .null, .null, .null, iv 0, iv 0]) I3 A3 O3 (pne (by decide)) (by rw [kset_ne (show ((4, 0) : XK) ≠ (0, 0) from pne (by decide)), kset_ne (show ((4, 0) : XK) ≠ (3, 0) from pne (by decide)), kset_ne (show ((4, 0) : XK) ≠ (0, 0) from pne (by decide)), kset_ne (show ((4, 0) : XK) ≠ (2, 0) from pne (by decide)), kset_ne (show ((4, 0) : XK) ≠ (0, 0) from pne (by decide)), kset_ne (show ((4, 0) : XK) ≠ (1, 0) from pne (by decide)), kset_ne (show ((4, 0) : XK) ≠ (0, 0) from pne (by decide))]) e_35
  refine gi_cast x_4 ?_
  refine gk_aload_n C dX4_init_45 rfl ?_
  refine gk_new C n_X4_26 (by decide) dX4_init_46 (fun q_46 e_46 => ?_)
  refine gk_dup C rfl dX4_init_49 ?_
  refine gk_iconst C dX4_init_50 ?_
  refine gk_iconst C dX4_init_51 ?_
  refine gk_iconst C dX4_init_52 ?_
  refine gk_callI C o_X1_init rfl k_X4_28 dX4_init_53 (c_X1_init hfl (r := 0) (p := 0) (b := 0) hset_eq) rfl rfl (by decide) (by decide) (by exact Nat.le_of_ble_eq_true rfl) (fun _ _ z => z.elim) (fun v_53 h_53 p_53 => ?_)
  obtain ⟨rfl, rfl⟩ := p_53
  dsimp only [gk_push]
  rw [hset_set]
  refine gk_putfF C f_X4_31 rfl dX4_init_56 (in_at2 I4 A4 O4 e_46) rfl rfl (by exact Nat.le_of_ble_eq_true rfl) ?_
  obtain ⟨x_5, I5, A5, O5⟩ := in_step (k := (5, 0)) (e := oPi 0 0 0 0 0 0 0) (o2 := oO 5 [.ref q_5, .ref q_16, .ref q_29, .ref q_35, .ref q_46, .null, .null, iv 0, iv 0]) I4 A4 O4 (pne (by decide)) (by rw [kset_ne (show ((5, 0) : XK) ≠ (0, 0) from pne (by decide)), kset_ne (show ((5, 0) : XK) ≠ (4, 0) from pne (by decide)), kset_ne (show ((5, 0) : XK) ≠ (0, 0) from pne (by decide)), kset_ne (show ((5, 0) : XK) ≠ (3, 0) from pne (by decide)), kset_ne (show ((5, 0) : XK) ≠ (0, 0) from pne (by decide)), kset_ne (show ((5, 0) : XK) ≠ (2, 0) from pne (by decide)), kset_ne (show ((5, 0) : XK) ≠ (0, 0) from pne (by decide)), kset_ne (show ((5, 0) : XK) ≠ (1, 0) from pne (by decide)), kset_ne (show ((5, 0) : XK) ≠ (0, 0) from pne (by decide))]) e_46
  refine gi_cast x_5 ?_
  refine gk_aload_n C dX4_init_59 rfl ?_
  refine gk_new C n_X4_35 (by decide) dX4_init_60 (fun q_60 e_60 => ?_)
  refine gk_dup C rfl dX4_init_63 ?_
  refine gk_callI C o_X2_init rfl k_X4_37 dX4_init_64 (c_X2_init hfl hset_eq) rfl rfl (by decide) (by decide) (by exact Nat.le_of_ble_eq_true rfl) (fun _ _ z => z.elim) (fun v_64 h_64 p_64 => ?_)
  obtain ⟨rfl, r8, hr8, rfl⟩ := p_64
  dsimp only [gk_push]
  have t1 := emb_kn (k := ((6, 0) : XK)) (e := oO 3 [Value.null, iv 0]) I5 (by rw [kset_ne (show ((6, 0) : XK) ≠ (0, 0) from pne (by decide)), kset_ne (show ((6, 0) : XK) ≠ (5, 0) from pne (by decide)), kset_ne (show ((6, 0) : XK) ≠ (0, 0) from pne (by decide)), kset_ne (show ((6, 0) : XK) ≠ (4, 0) from pne (by decide)), kset_ne (show ((6, 0) : XK) ≠ (0, 0) from pne (by decide)), kset_ne (show ((6, 0) : XK) ≠ (3, 0) from pne (by decide)), kset_ne (show ((6, 0) : XK) ≠ (0, 0) from pne (by decide)), kset_ne (show ((6, 0) : XK) ≠ (2, 0) from pne (by decide)), kset_ne (show ((6, 0) : XK) ≠ (0, 0) from pne (by decide)), kset_ne (show ((6, 0) : XK) ≠ (1, 0) from pne (by decide)), kset_ne (show ((6, 0) : XK) ≠ (0, 0) from pne (by decide))]) e_60
  have t2 := emb_kn (k := ((8, 0) : XK)) (e := aI 8 (fun _ => 0)) t1.2 (by rw [kset_ne (show ((8, 0) : XK) ≠ (6, 0) from pne (by decide)), kset_ne (show ((8, 0) : XK) ≠ (0, 0) from pne (by decide)), kset_ne (show ((8, 0) : XK) ≠ (5, 0) from pne (by decide)), kset_ne (show ((8, 0) : XK) ≠ (0, 0) from pne (by decide)), kset_ne (show ((8, 0) : XK) ≠ (4, 0) from pne (by decide)), kset_ne (show ((8, 0) : XK) ≠ (0, 0) from pne (by decide)), kset_ne (show ((8, 0) : XK) ≠ (3, 0) from pne (by decide)), kset_ne (show ((8, 0) : XK) ≠ (0, 0) from pne (by decide)), kset_ne (show ((8, 0) : XK) ≠ (2, 0) from pne (by decide)), kset_ne (show ((8, 0) : XK) ≠ (0, 0) from pne (by decide)), kset_ne (show ((8, 0) : XK) ≠ (1, 0) from pne (by decide)), kset_ne (show ((8, 0) : XK) ≠ (0, 0) from pne (by decide))]) (by rw [← t1.1]; exact hr8)
  have t3 := emb_ks (k := ((6, 0) : XK)) (e := oPt r8 0) t2.2 (by rw [kset_ne (show ((6, 0) : XK) ≠ (8, 0) from pne (by decide)), kset_eq]; intro z; cases z)
  have t4 : (adset (adset (adset (adset (adset (adset (adset ad (1, 0) q_5) (2, 0) q_16) (3, 0) q_29) (4, 0) q_35) (5, 0) q_46) (6, 0) q_60) (8, 0) r8) (6, 0) = q_60 := by rw [adset_ne (show ((6, 0) : XK) ≠ (8, 0) from pne (by decide)), adset_eq]
  rw [t4] at t3
  refine gi_cast ((congrArg (fun hh => hset (hset hh r8 (aI 8 (fun _ => 0))) q_60 (oPt r8 0)) t1.1).trans ((congrArg (fun hh => hset hh q_60 (oPt r8 0)) t2.1).trans t3.1)) ?_
  have I6b := t3.2
  have A6b : (adset (adset (adset (adset (adset (adset (adset ad (1, 0) q_5) (2, 0) q_16) (3, 0) q_29) (4, 0) q_35) (5, 0) q_46) (6, 0) q_60) (8, 0) r8) (0, 0) = a0 := by rw [adset_ne (show ((0, 0) : XK) ≠ (8, 0) from pne (by decide)), adset_ne (show ((0, 0) : XK) ≠ (6, 0) from pne (by decide))]; exact A5
  have O6b : (kset (kset (kset (kset (kset (kset (kset (kset (kset (kset (kset (kset (kset (kset (fun _ => none) ((0, 0) : XK) (oO 5 [.null, .null, .null, .null, .null, .null, .null, iv 0, iv 0])) ((1, 0) : XK) (oAL 0 (gEm Γ) 0)) ((0, 0) : XK) (oO 5 [.ref q_5, .null, .null, .null, .null, .null, .null, iv 0, iv 0])) ((2, 0) : XK) (oAL 0 (gEm Γ) 0)) ((0, 0) : XK) (oO 5 [.ref q_5, .ref q_16, .null, .null, .null, .null, .null, iv 0, iv 0])) ((3, 0) : XK) (aI 8 (fun _ => 0))) ((0, 0) : XK) (oO 5 [.ref q_5, .ref q_16, .ref q_29, .null, .null, .null, .null, iv 0, iv 0])) ((4, 0) : XK) (oAL 0 (gEm Γ) 0)) ((0, 0) : XK) (oO 5 [.ref q_5, .ref q_16, .ref q_29, .ref q_35, .null, .null, .null, iv 0, iv 0])) ((5, 0) : XK) (oPi 0 0 0 0 0 0 0)) ((0, 0) : XK) (oO 5 [.ref q_5, .ref q_16, .ref q_29, .ref q_35, .ref q_46, .null, .null, iv 0, iv 0])) (6, 0) (oO 3 [Value.null, iv 0])) (8, 0) (aI 8 (fun _ => 0))) (6, 0) (oPt r8 0)) (0, 0) = some (oO 5 [.ref q_5, .ref q_16, .ref q_29, .ref q_35, .ref q_46, .null, .null, iv 0, iv 0]) := by rw [kset_ne (show ((0, 0) : XK) ≠ (6, 0) from pne (by decide)), kset_ne (show ((0, 0) : XK) ≠ (8, 0) from pne (by decide)), kset_ne (show ((0, 0) : XK) ≠ (6, 0) from pne (by decide))]; exact O5
  refine gk_putfF C f_X4_38 rfl dX4_init_67 (in_at I6b A6b O6b) rfl rfl (by exact Nat.le_of_ble_eq_true rfl) ?_
  obtain ⟨x_6, I6⟩ := emb_ks (k := ((0, 0) : XK)) (e := oO 5 [.ref q_5, .ref q_16, .ref q_29, .ref q_35, .ref q_46, .ref q_60, .null, iv 0, iv 0]) I6b (by rw [O6b]; intro z; cases z)
  rw [A6b] at x_6
  refine gi_cast x_6 ?_
  have A6 := A6b
  refine gk_aload_n C dX4_init_70 rfl ?_
  refine gk_new C n_X4_7 (by decide) dX4_init_71 (fun q_71 e_71 => ?_)
  refine gk_dup C rfl dX4_init_74 ?_
  refine gk_callI C o_Jx4a65c_init_da8c8 rfl k_X4_9 dX4_init_75 (c_AL_init hfl hset_eq) rfl rfl (by decide) (by decide) (by exact Nat.le_of_ble_eq_true rfl) (fun _ _ z => z.elim) (fun v_75 h_75 p_75 => ?_)
  obtain ⟨rfl, rfl⟩ := p_75
  dsimp only [gk_push]
  rw [hset_set]
  refine gk_putfF C f_X4_42 rfl dX4_init_78 (in_at2 I6 A6 kset_eq e_71) rfl rfl (by exact Nat.le_of_ble_eq_true rfl) ?_
  obtain ⟨x_7, I7, A7, O7⟩ := in_step (k := (7, 0)) (e := oAL 0 (gEm Γ) 0) (o2 := oO 5 [.ref q_5, .ref q_16, .ref q_29, .ref q_35, .ref q_46, .ref q_60, .ref q_71, iv 0, iv 0]) I6 A6 kset_eq (pne (by decide)) (by rw [kset_ne (show ((7, 0) : XK) ≠ (0, 0) from pne (by decide)), kset_ne (show ((7, 0) : XK) ≠ (6, 0) from pne (by decide)), kset_ne (show ((7, 0) : XK) ≠ (8, 0) from pne (by decide)), kset_ne (show ((7, 0) : XK) ≠ (6, 0) from pne (by decide)), kset_ne (show ((7, 0) : XK) ≠ (0, 0) from pne (by decide)), kset_ne (show ((7, 0) : XK) ≠ (5, 0) from pne (by decide)), kset_ne (show ((7, 0) : XK) ≠ (0, 0) from pne (by decide)), kset_ne (show ((7, 0) : XK) ≠ (4, 0) from pne (by decide)), kset_ne (show ((7, 0) : XK) ≠ (0, 0) from pne (by decide)), kset_ne (show ((7, 0) : XK) ≠ (3, 0) from pne (by decide)), kset_ne (show ((7, 0) : XK) ≠ (0, 0) from pne (by decide)), kset_ne (show ((7, 0) : XK) ≠ (2, 0) from pne (by decide)), kset_ne (show ((7, 0) : XK) ≠ (0, 0) from pne (by decide)), kset_ne (show ((7, 0) : XK) ≠ (1, 0) from pne (by decide)), kset_ne (show ((7, 0) : XK) ≠ (0, 0) from pne (by decide))]) e_71
  refine gi_cast x_7 ?_
  refine gk_aload_n C dX4_init_81 rfl ?_
  refine gk_iconst C dX4_init_82 ?_
  refine gk_putf C f_X4_45 dX4_init_83 (in_at I7 A7 O7) (gk_nb (by omega)).1 (gk_nb (by omega)).2 (by exact Nat.le_of_ble_eq_true rfl) ?_
  refine gi_cast (hset_self (in_at I7 A7 O7)) ?_
  refine gk_aload_n C dX4_init_86 rfl ?_
  refine gk_iconst C dX4_init_87 ?_
  refine gk_putf C f_X4_49 dX4_init_88 (in_at I7 A7 O7) rfl rfl (by exact Nat.le_of_ble_eq_true rfl) ?_
  refine gi_cast (hset_self (in_at I7 A7 O7)) ?_
  refine (R _ _ _ _ _ (by decide) (by decide)).2.2.1 rfl dX4_init_91 ?_
  have E1 : (adset (adset (adset (adset (adset (adset (adset (adset ad (1, 0) q_5) (2, 0) q_16) (3, 0) q_29) (4, 0) q_35) (5, 0) q_46) (6, 0) q_60) (8, 0) r8) (7, 0) q_71) (1, 0) = q_5 := by rw [adset_ne (show ((1, 0) : XK) ≠ (7, 0) from pne (by decide)), adset_ne (show ((1, 0) : XK) ≠ (8, 0) from pne (by decide)), adset_ne (show ((1, 0) : XK) ≠ (6, 0) from pne (by decide)), adset_ne (show ((1, 0) : XK) ≠ (5, 0) from pne (by decide)), adset_ne (show ((1, 0) : XK) ≠ (4, 0) from pne (by decide)), adset_ne (show ((1, 0) : XK) ≠ (3, 0) from pne (by decide)), adset_ne (show ((1, 0) : XK) ≠ (2, 0) from pne (by decide)), adset_eq]
  have E2 : (adset (adset (adset (adset (adset (adset (adset (adset ad (1, 0) q_5) (2, 0) q_16) (3, 0) q_29) (4, 0) q_35) (5, 0) q_46) (6, 0) q_60) (8, 0) r8) (7, 0) q_71) (2, 0) = q_16 := by rw [adset_ne (show ((2, 0) : XK) ≠ (7, 0) from pne (by decide)), adset_ne (show ((2, 0) : XK) ≠ (8, 0) from pne (by decide)), adset_ne (show ((2, 0) : XK) ≠ (6, 0) from pne (by decide)), adset_ne (show ((2, 0) : XK) ≠ (5, 0) from pne (by decide)), adset_ne (show ((2, 0) : XK) ≠ (4, 0) from pne (by decide)), adset_ne (show ((2, 0) : XK) ≠ (3, 0) from pne (by decide)), adset_eq]
  have E3 : (adset (adset (adset (adset (adset (adset (adset (adset ad (1, 0) q_5) (2, 0) q_16) (3, 0) q_29) (4, 0) q_35) (5, 0) q_46) (6, 0) q_60) (8, 0) r8) (7, 0) q_71) (3, 0) = q_29 := by rw [adset_ne (show ((3, 0) : XK) ≠ (7, 0) from pne (by decide)), adset_ne (show ((3, 0) : XK) ≠ (8, 0) from pne (by decide)), adset_ne (show ((3, 0) : XK) ≠ (6, 0) from pne (by decide)), adset_ne (show ((3, 0) : XK) ≠ (5, 0) from pne (by decide)), adset_ne (show ((3, 0) : XK) ≠ (4, 0) from pne (by decide)), adset_eq]
  have E4 : (adset (adset (adset (adset (adset (adset (adset (adset ad (1, 0) q_5) (2, 0) q_16) (3, 0) q_29) (4, 0) q_35) (5, 0) q_46) (6, 0) q_60) (8, 0) r8) (7, 0) q_71) (4, 0) = q_35 := by rw [adset_ne (show ((4, 0) : XK) ≠ (7, 0) from pne (by decide)), adset_ne (show ((4, 0) : XK) ≠ (8, 0) from pne (by decide)), adset_ne (show ((4, 0) : XK) ≠ (6, 0) from pne (by decide)), adset_ne (show ((4, 0) : XK) ≠ (5, 0) from pne (by decide)), adset_eq]
  have E5 : (adset (adset (adset (adset (adset (adset (adset (adset ad (1, 0) q_5) (2, 0) q_16) (3, 0) q_29) (4, 0) q_35) (5, 0) q_46) (6, 0) q_60) (8, 0) r8) (7, 0) q_71) (5, 0) = q_46 := by rw [adset_ne (show ((5, 0) : XK) ≠ (7, 0) from pne (by decide)), adset_ne (show ((5, 0) : XK) ≠ (8, 0) from pne (by decide)), adset_ne (show ((5, 0) : XK) ≠ (6, 0) from pne (by decide)), adset_eq]
  have E6 : (adset (adset (adset (adset (adset (adset (adset (adset ad (1, 0) q_5) (2, 0) q_16) (3, 0) q_29) (4, 0) q_35) (5, 0) q_46) (6, 0) q_60) (8, 0) r8) (7, 0) q_71) (6, 0) = q_60 := by rw [adset_ne (show ((6, 0) : XK) ≠ (7, 0) from pne (by decide)), adset_ne (show ((6, 0) : XK) ≠ (8, 0) from pne (by decide)), adset_eq]
  have E8 : (adset (adset (adset (adset (adset (adset (adset (adset ad (1, 0) q_5) (2, 0) q_16) (3, 0) q_29) (4, 0) q_35) (5, 0) q_46) (6, 0) q_60) (8, 0) r8) (7, 0) q_71) (8, 0) = r8 := by rw [adset_ne (show ((8, 0) : XK) ≠ (7, 0) from pne (by decide)), adset_eq]
  have E7 : (adset (adset (adset (adset (adset (adset (adset (adset ad (1, 0) q_5) (2, 0) q_16) (3, 0) q_29) (4, 0) q_35) (5, 0) q_46) (6, 0) q_60) (8, 0) r8) (7, 0) q_71) (7, 0) = q_71 := by rw [adset_eq]
  have FIN : (kset (kset (kset (kset (kset (kset (kset (kset (kset (kset (kset (kset (kset (kset (kset (kset (kset (fun _ => none) ((0, 0) : XK) (oO 5 [.null, .null, .null, .null, .null, .null, .null, iv 0, iv 0])) ((1, 0) : XK) (oAL 0 (gEm Γ) 0)) ((0, 0) : XK) (oO 5 [.ref q_5, .null, .null, .null, .null, .null, .null, iv 0, iv 0])) ((2, 0) : XK) (oAL 0 (gEm Γ) 0)) ((0, 0) : XK) (oO 5 [.ref q_5, .ref q_16, .null, .null, .null, .null, .null, iv 0, iv 0])) ((3, 0) : XK) (aI 8 (fun _ => 0))) ((0, 0) : XK) (oO 5 [.ref q_5, .ref q_16, .ref q_29, .null, .null, .null, .null, iv 0, iv 0])) ((4, 0) : XK) (oAL 0 (gEm Γ) 0)) ((0, 0) : XK) (oO 5 [.ref q_5, .ref q_16, .ref q_29, .ref q_35, .null, .null, .null, iv 0, iv 0])) ((5, 0) : XK) (oPi 0 0 0 0 0 0 0)) ((0, 0) : XK) (oO 5 [.ref q_5, .ref q_16, .ref q_29, .ref q_35, .ref q_46, .null, .null, iv 0, iv 0])) ((6, 0) : XK) (oO 3 [Value.null, iv 0])) ((8, 0) : XK) (aI 8 (fun _ => 0))) ((6, 0) : XK) (oPt r8 0)) ((0, 0) : XK) (oO 5 [.ref q_5, .ref q_16, .ref q_29, .ref q_35, .ref q_46, .ref q_60, .null, iv 0, iv 0])) ((7, 0) : XK) (oAL 0 (gEm Γ) 0)) ((0, 0) : XK) (oO 5 [.ref q_5, .ref q_16, .ref q_29, .ref q_35, .ref q_46, .ref q_60, .ref q_71, iv 0, iv 0])) = XM (gEm Γ) (adset (adset (adset (adset (adset (adset (adset (adset ad (1, 0) q_5) (2, 0) q_16) (3, 0) q_29) (4, 0) q_35) (5, 0) q_46) (6, 0) q_60) (8, 0) r8) (7, 0) q_71) xQ0 xS0 xP0 xB0 := by
    funext k
    by_cases b0 : k = ((0, 0) : XK)
    · rw [b0, kset_eq]
      show some (oO 5 [.ref q_5, .ref q_16, .ref q_29, .ref q_35, .ref q_46, .ref q_60, .ref q_71, iv 0, iv 0]) = some (oO 5 [.ref ((adset (adset (adset (adset (adset (adset (adset (adset ad (1, 0) q_5) (2, 0) q_16) (3, 0) q_29) (4, 0) q_35) (5, 0) q_46) (6, 0) q_60) (8, 0) r8) (7, 0) q_71) (1, 0)), .ref ((adset (adset (adset (adset (adset (adset (adset (adset ad (1, 0) q_5) (2, 0) q_16) (3, 0) q_29) (4, 0) q_35) (5, 0) q_46) (6, 0) q_60) (8, 0) r8) (7, 0) q_71) (2, 0)), .ref ((adset (adset (adset (adset (adset (adset (adset (adset ad (1, 0) q_5) (2, 0) q_16) (3, 0) q_29) (4, 0) q_35) (5, 0) q_46) (6, 0) q_60) (8, 0) r8) (7, 0) q_71) (3, 0)), .ref ((adset (adset (adset (adset (adset (adset (adset (adset ad (1, 0) q_5) (2, 0) q_16) (3, 0) q_29) (4, 0) q_35) (5, 0) q_46) (6, 0) q_60) (8, 0) r8) (7, 0) q_71) (4, 0)), .ref ((adset (adset (adset (adset (adset (adset (adset (adset ad (1, 0) q_5) (2, 0) q_16) (3, 0) q_29) (4, 0) q_35) (5, 0) q_46) (6, 0) q_60) (8, 0) r8) (7, 0) q_71) (5, 0)), .ref ((adset (adset (adset (adset (adset (adset (adset (adset ad (1, 0) q_5) (2, 0) q_16) (3, 0) q_29) (4, 0) q_35) (5, 0) q_46) (6, 0) q_60) (8, 0) r8) (7, 0) q_71) (6, 0)), .ref ((adset (adset (adset (adset (adset (adset (adset (adset ad (1, 0) q_5) (2, 0) q_16) (3, 0) q_29) (4, 0) q_35) (5, 0) q_46) (6, 0) q_60) (8, 0) r8) (7, 0) q_71) (7, 0)), iv 0, iv 0])
      rw [E1, E2, E3, E4, E5, E6, E7]
    · skip
      by_cases b7 : k = ((7, 0) : XK)
      · rw [b7, kset_ne (show ((7, 0) : XK) ≠ (0, 0) from pne (by decide)), kset_eq]
        rfl
      · skip
        by_cases b6 : k = ((6, 0) : XK)
        · rw [b6, kset_ne (show ((6, 0) : XK) ≠ (0, 0) from pne (by decide)), kset_ne (show ((6, 0) : XK) ≠ (7, 0) from pne (by decide)), kset_ne (show ((6, 0) : XK) ≠ (0, 0) from pne (by decide)), kset_eq]
          show some (oPt r8 0) = some (oPt ((adset (adset (adset (adset (adset (adset (adset (adset ad (1, 0) q_5) (2, 0) q_16) (3, 0) q_29) (4, 0) q_35) (5, 0) q_46) (6, 0) q_60) (8, 0) r8) (7, 0) q_71) (8, 0)) 0)
          rw [E8]
        · skip
          by_cases b8 : k = ((8, 0) : XK)
          · rw [b8, kset_ne (show ((8, 0) : XK) ≠ (0, 0) from pne (by decide)), kset_ne (show ((8, 0) : XK) ≠ (7, 0) from pne (by decide)), kset_ne (show ((8, 0) : XK) ≠ (0, 0) from pne (by decide)), kset_ne (show ((8, 0) : XK) ≠ (6, 0) from pne (by decide)), kset_eq]
            rfl
          · skip
            by_cases b5 : k = ((5, 0) : XK)
            · rw [b5, kset_ne (show ((5, 0) : XK) ≠ (0, 0) from pne (by decide)), kset_ne (show ((5, 0) : XK) ≠ (7, 0) from pne (by decide)), kset_ne (show ((5, 0) : XK) ≠ (0, 0) from pne (by decide)), kset_ne (show ((5, 0) : XK) ≠ (6, 0) from pne (by decide)), kset_ne (show ((5, 0) : XK) ≠ (8, 0) from pne (by decide)), kset_ne (show ((5, 0) : XK) ≠ (6, 0) from pne (by decide)), kset_ne (show ((5, 0) : XK) ≠ (0, 0) from pne (by decide)), kset_eq]
              rfl
            · skip
              by_cases b4 : k = ((4, 0) : XK)
              · rw [b4, kset_ne (show ((4, 0) : XK) ≠ (0, 0) from pne (by decide)), kset_ne (show ((4, 0) : XK) ≠ (7, 0) from pne (by decide)), kset_ne (show ((4, 0) : XK) ≠ (0, 0) from pne (by decide)), kset_ne (show ((4, 0) : XK) ≠ (6, 0) from pne (by decide)), kset_ne (show ((4, 0) : XK) ≠ (8, 0) from pne (by decide)), kset_ne (show ((4, 0) : XK) ≠ (6, 0) from pne (by decide)), kset_ne (show ((4, 0) : XK) ≠ (0, 0) from pne (by decide)), kset_ne (show ((4, 0) : XK) ≠ (5, 0) from pne (by decide)), kset_ne (show ((4, 0) : XK) ≠ (0, 0) from pne (by decide)), kset_eq]
                rfl
              · skip
                by_cases b3 : k = ((3, 0) : XK)
                · rw [b3, kset_ne (show ((3, 0) : XK) ≠ (0, 0) from pne (by decide)), kset_ne (show ((3, 0) : XK) ≠ (7, 0) from pne (by decide)), kset_ne (show ((3, 0) : XK) ≠ (0, 0) from pne (by decide)), kset_ne (show ((3, 0) : XK) ≠ (6, 0) from pne (by decide)), kset_ne (show ((3, 0) : XK) ≠ (8, 0) from pne (by decide)), kset_ne (show ((3, 0) : XK) ≠ (6, 0) from pne (by decide)), kset_ne (show ((3, 0) : XK) ≠ (0, 0) from pne (by decide)), kset_ne (show ((3, 0) : XK) ≠ (5, 0) from pne (by decide)), kset_ne (show ((3, 0) : XK) ≠ (0, 0) from pne (by decide)), kset_ne (show ((3, 0) : XK) ≠ (4, 0) from pne (by decide)), kset_ne (show ((3, 0) : XK) ≠ (0, 0) from pne (by decide)), kset_eq]
                  rfl
                · skip
                  by_cases b2 : k = ((2, 0) : XK)
                  · rw [b2, kset_ne (show ((2, 0) : XK) ≠ (0, 0) from pne (by decide)), kset_ne (show ((2, 0) : XK) ≠ (7, 0) from pne (by decide)), kset_ne (show ((2, 0) : XK) ≠ (0, 0) from pne (by decide)), kset_ne (show ((2, 0) : XK) ≠ (6, 0) from pne (by decide)), kset_ne (show ((2, 0) : XK) ≠ (8, 0) from pne (by decide)), kset_ne (show ((2, 0) : XK) ≠ (6, 0) from pne (by decide)), kset_ne (show ((2, 0) : XK) ≠ (0, 0) from pne (by decide)), kset_ne (show ((2, 0) : XK) ≠ (5, 0) from pne (by decide)), kset_ne (show ((2, 0) : XK) ≠ (0, 0) from pne (by decide)), kset_ne (show ((2, 0) : XK) ≠ (4, 0) from pne (by decide)), kset_ne (show ((2, 0) : XK) ≠ (0, 0) from pne (by decide)), kset_ne (show ((2, 0) : XK) ≠ (3, 0) from pne (by decide)), kset_ne (show ((2, 0) : XK) ≠ (0, 0) from pne (by decide)), kset_eq]
                    rfl
                  · skip
                    by_cases b1 : k = ((1, 0) : XK)
                    · rw [b1, kset_ne (show ((1, 0) : XK) ≠ (0, 0) from pne (by decide)), kset_ne (show ((1, 0) : XK) ≠ (7, 0) from pne (by decide)), kset_ne (show ((1, 0) : XK) ≠ (0, 0) from pne (by decide)), kset_ne (show ((1, 0) : XK) ≠ (6, 0) from pne (by decide)), kset_ne (show ((1, 0) : XK) ≠ (8, 0) from pne (by decide)), kset_ne (show ((1, 0) : XK) ≠ (6, 0) from pne (by decide)), kset_ne (show ((1, 0) : XK) ≠ (0, 0) from pne (by decide)), kset_ne (show ((1, 0) : XK) ≠ (5, 0) from pne (by decide)), kset_ne (show ((1, 0) : XK) ≠ (0, 0) from pne (by decide)), kset_ne (show ((1, 0) : XK) ≠ (4, 0) from pne (by decide)), kset_ne (show ((1, 0) : XK) ≠ (0, 0) from pne (by decide)), kset_ne (show ((1, 0) : XK) ≠ (3, 0) from pne (by decide)), kset_ne (show ((1, 0) : XK) ≠ (0, 0) from pne (by decide)), kset_ne (show ((1, 0) : XK) ≠ (2, 0) from pne (by decide)), kset_ne (show ((1, 0) : XK) ≠ (0, 0) from pne (by decide)), kset_eq]
                      rfl
                    · skip
                      rw [kset_ne b0, kset_ne b7, kset_ne b0, kset_ne b6, kset_ne b8, kset_ne b6, kset_ne b0, kset_ne b5, kset_ne b0, kset_ne b4, kset_ne b0, kset_ne b3, kset_ne b0, kset_ne b2, kset_ne b0, kset_ne b1, kset_ne b0]
                      obtain ⟨r, j⟩ := k
                      show none = XM (gEm Γ) (adset (adset (adset (adset (adset (adset (adset (adset ad (1, 0) q_5) (2, 0) q_16) (3, 0) q_29) (4, 0) q_35) (5, 0) q_46) (6, 0) q_60) (8, 0) r8) (7, 0) q_71) xQ0 xS0 xP0 xB0 (r, j)
                      unfold XM
                      dsimp only
                      by_cases c1 : r < 13
                      · rw [if_pos c1]
                        by_cases c2 : j = 0
                        · rw [if_pos c2]
                          rcases r0_12 c1 with e | e | e | e | e | e | e | e | e | e | e | e | e <;> subst e <;> first | rfl | exact absurd (congrArg (fun q : Nat => ((0 : Nat), q)) c2) b0 | exact absurd (congrArg (fun q : Nat => ((7 : Nat), q)) c2) b7 | exact absurd (congrArg (fun q : Nat => ((6 : Nat), q)) c2) b6 | exact absurd (congrArg (fun q : Nat => ((8 : Nat), q)) c2) b8 | exact absurd (congrArg (fun q : Nat => ((5 : Nat), q)) c2) b5 | exact absurd (congrArg (fun q : Nat => ((4 : Nat), q)) c2) b4 | exact absurd (congrArg (fun q : Nat => ((3 : Nat), q)) c2) b3 | exact absurd (congrArg (fun q : Nat => ((2 : Nat), q)) c2) b2 | exact absurd (congrArg (fun q : Nat => ((1 : Nat), q)) c2) b1
                        · rw [if_neg c2]
                      · rw [if_neg c1]
                        by_cases c2 : r < 19
                        · rw [if_pos c2, if_neg (show ¬ j < xQ0.1 from Nat.not_lt_zero j)]
                        · rw [if_neg c2]
                          by_cases c4 : r = 19
                          · rw [if_pos c4, if_neg (show ¬ j < xP0.1 from Nat.not_lt_zero j)]
                          · rw [if_neg c4]
                            by_cases c5 : r < 23
                            · rw [if_pos c5, if_neg (show ¬ j < xB0.1 from Nat.not_lt_zero j)]
                            · rw [if_neg c5]
  have IF := I7
  rw [FIN] at IF
  exact ⟨rfl, (adset (adset (adset (adset (adset (adset (adset (adset ad (1, 0) q_5) (2, 0) q_16) (3, 0) q_29) (4, 0) q_35) (5, 0) q_46) (6, 0) q_60) (8, 0) r8) (7, 0) q_71), A7.trans A0.symm, IF, by rw [FIN]; rfl⟩
