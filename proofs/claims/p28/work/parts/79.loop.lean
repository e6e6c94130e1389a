/-! the law's loop, and its start -/
set_option maxRecDepth 100000 in
set_option maxHeartbeats 8000000 in
theorem law_loop {l : Launch} {Γ : GA} {nm : String} {G : GP} {sb ls : Nat} {xs : Nat → Int32} (CL : CxL l Γ (m_law nm) G sb ls xs) (hfl : l.stackTraces = false) {x : Nat} (hls : ls ≤ 260)
    (fin : ∀ (L : List (Option Value)) (h : Hp) (k n : Nat), k ≤ 600104 → n ≤ 7301314 → G 1042 L [] h k n) :
    ∀ (d kk : Nat), kk + d = 70 → ∀ (σ : ST) (h : Hp) (k n : Nat) (t p b : Int) (u6 u7 u8 u9 u10 u11 u12 u13 u14 : Option Value), HD Γ x σ h → cts σ t p b → σ.2.2.2.2 ≤ kk → k ≤ 20100 + 2100 * kk → n ≤ 900200 + 86000 * kk → G 26 [some (.ref sb), some (.ref x), some (iv t), some (iv p), some (iv b), some (iv (kk : Int)), u6, u7, u8, u9, u10, u11, u12, u13, u14] [] h k n := by
  have C := CL.cx
  intro d
  induction d with
  | zero =>
    intro kk hd σ h k n t p b u6 u7 u8 u9 u10 u11 u12 u13 u14 H hct hc0 hk hn
    have ek : kk = 70 := by omega
    subst ek
    refine gk_iload C dL_law_26 rfl ?_
    refine gk_bipush C dL_law_28 (by decide) ?_
    refine gk_icmp_ge C (tgt := 1042) (by omega) (by omega) dL_law_30 (by decide) (fun c_30 => ?_) (fun c_30 => ?_)
    rotate_left
    · exact absurd c_30 (by omega)
    exact fin _ _ _ _ (by omega) (by omega)
  | succ d ih =>
    intro kk hd σ h k n t p b u6 u7 u8 u9 u10 u11 u12 u13 u14 H hct hc0 hk hn
    have hk2 : k + 3000 ≤ 600104 := by omega
    have hn2 : n + 90000 ≤ 7301314 := by omega
    have hcl : σ.2.2.2.2 ≤ 9000 := by omega
    obtain ⟨ht, hp, hb, hop⟩ := id hct
    have ht1 : t ≤ 10 := by have := H.wf.1.1; omega
    have hp1 : p ≤ 8 := by have := H.wf.2.2.1.1; omega
    have hb1 : b ≤ 8 := by have h8 : nB σ ≤ 8 := H.wf.2.2.2.1; omega
    have J : ∀ xx : Int, 0 ≤ xx ∧ xx ≤ 16777215 → G 56 [some (.ref sb), some (.ref x), some (iv t), some (iv p), some (iv b), some (iv (kk : Int)), u6, u7, u8, u9, u10, u11, u12, u13, u14] [iv xx] h k n := by
      intro xx hxx
      refine gk_istore_6 C rfl (by exact Nat.le_of_ble_eq_true rfl) dL_law_56 ?_
      refine gk_iload C dL_law_58 rfl ?_
      refine gk_bipush C dL_law_60 (by decide) ?_
      refine gk_irem C (by omega) (by omega) dL_law_62 ?_
      refine gk_istore_7 C rfl (by exact Nat.le_of_ble_eq_true rfl) dL_law_63 ?_
      refine gk_iload C dL_law_65 rfl ?_
      refine gk_bipush C dL_law_67 (by decide) ?_
      refine gk_idiv C (by omega) (by omega) dL_law_69 ?_
      refine gk_istore_8 C rfl (by exact Nat.le_of_ble_eq_true rfl) dL_law_70 ?_
      refine gk_iload C dL_law_72 rfl ?_
      refine gk_bipush C dL_law_74 (by decide) ?_
      refine gk_idiv C (by omega) (by omega) dL_law_76 ?_
      refine gk_istore_9 C rfl (by exact Nat.le_of_ble_eq_true rfl) dL_law_77 ?_
      have hy : 0 ≤ xx / 12 ∧ xx / 12 ≤ 2000000 := by omega
      have hz : 0 ≤ xx / 12 / 60 ∧ xx / 12 / 60 ≤ 2000000 := by omega
      have hw : 0 ≤ xx % 12 ∧ xx % 12 ≤ 11 := by omega
      generalize xx / 12 / 60 = z at *
      generalize xx / 12 = y at *
      generalize xx % 12 = w at *
      have back : ∀ (σ2 : ST) (h2 : Hp) (k2 n2 : Nat) (t2 p2 b2 : Int) (v10 v11 v12 v13 v14 : Option Value), HD Γ x σ2 h2 → cts σ2 t2 p2 b2 → σ2.2.2.2.2 ≤ σ.2.2.2.2 + 1 → k2 ≤ k + 400 → n2 ≤ n + 15000 → G 1015 [some (.ref sb), some (.ref x), some (iv t2), some (iv p2), some (iv b2), some (iv (kk : Int)), some (iv xx), some (iv w), some (iv y), some (iv z), v10, v11, v12, v13, v14] [] h2 k2 n2 := by
        intro σ2 h2 k2 n2 t2 p2 b2 v10 v11 v12 v13 v14 H2 hct2 hc2 hk3 hn3
        obtain ⟨ht2, hp2, hb2, hop2⟩ := id hct2
        refine gk_iload C dL_law_1015 rfl ?_
        refine gk_bipush C dL_law_1017 (by decide) ?_
        refine gk_irem C (by omega) (by omega) dL_law_1019 ?_
        refine gk_if_ne C (tgt := 1036) (by omega) dL_law_1020 (by decide) (fun c_1020 => ?_) (fun c_1020 => ?_)
        · refine gk_iinc_5 C rfl (by exact Nat.le_of_ble_eq_true rfl) dL_law_1036 ?_
          refine gk_goto C (tgt := 26) dL_law_1039 (by decide) ?_
          rw [show ((kk : Int) + 1) = ((kk + 1 : Nat) : Int) by omega]
          exact ih (kk + 1) (by omega) σ2 _ _ _ _ _ _ _ _ _ _ _ _ _ _ _ H2 hct2 (by omega) (by omega) (by omega)
        · refine gk_aload_n C dL_law_1023 rfl ?_
          refine gk_iload_n C dL_law_1024 rfl ?_
          refine gk_iload_n C dL_law_1025 rfl ?_
          refine gk_iload C dL_law_1026 rfl ?_
          refine gk_callS C o_L_refuses k_L_107 dL_law_1028 (r_refuses hfl H2 ht2 hp2 hb2 (by omega)) rfl rfl ⟨Nat.le_of_ble_eq_true rfl, Nat.le_of_ble_eq_true rfl⟩ ⟨by show _ + 1600 ≤ 600104; omega, by show _ + 70000 ≤ 7301314; omega⟩ (by exact Nat.le_of_ble_eq_true rfl) (fun _ _ z => z.elim) (fun v901 h901 p901 => ?_)
          obtain ⟨rfl, H901⟩ := p901
          dsimp only [gk_push]
          refine gk_if_ne C (tgt := 1036) (by omega) dL_law_1031 (by decide) (fun c_1031 => ?_) (fun c_1031 => ?_)
          rotate_left
          · exact absurd c_1031 (by omega)
          refine gk_iinc_5 C rfl (by exact Nat.le_of_ble_eq_true rfl) dL_law_1036 ?_
          refine gk_goto C (tgt := 26) dL_law_1039 (by decide) ?_
          rw [show ((kk : Int) + 1) = ((kk + 1 : Nat) : Int) by omega]
          exact ih (kk + 1) (by omega) σ2 _ _ _ _ _ _ _ _ _ _ _ _ _ _ _ H901 hct2 (by omega) (by omega) (by omega)
      refine gk_iload C dL_law_79 rfl ?_
      refine gk_if_eq C (tgt := 88) (by omega) dL_law_81 (by decide) (fun c_81 => ?_) (fun c_81 => ?_)
      · exact lw_tune C hfl H hct hcl hy hz hk2 hn2 back
      · refine gk_iload_n C dL_law_84 rfl ?_
        refine gk_if_ne C (tgt := 134) (by omega) dL_law_85 (by decide) (fun c_85 => ?_) (fun c_85 => ?_)
        · refine gk_iload C dL_law_134 rfl ?_
          refine gk_iconst C dL_law_136 ?_
          refine gk_icmp_ge C (tgt := 302) (by omega) (by omega) dL_law_137 (by decide) (fun c_137 => ?_) (fun c_137 => ?_)
          · refine gk_iload C dL_law_302 rfl ?_
            refine gk_iconst C dL_law_304 ?_
            refine gk_icmp_ne C (tgt := 440) (by omega) (by omega) dL_law_305 (by decide) (fun c_305 => ?_) (fun c_305 => ?_)
            · refine gk_iload C dL_law_440 rfl ?_
              refine gk_bipush C dL_law_442 (by decide) ?_
              refine gk_icmp_eq C (tgt := 451) (by omega) (by omega) dL_law_444 (by decide) (fun c_444 => ?_) (fun c_444 => ?_)
              · exact lw_piper C hfl H hct hcl hy hz hk2 hn2 back
              · refine gk_iload_n C dL_law_447 rfl ?_
                refine gk_if_ne C (tgt := 514) (by omega) dL_law_448 (by decide) (fun c_448 => ?_) (fun c_448 => ?_)
                · refine gk_iload C dL_law_514 rfl ?_
                  refine gk_bipush C dL_law_516 (by decide) ?_
                  refine gk_icmp_ge C (tgt := 723) (by omega) (by omega) dL_law_518 (by decide) (fun c_518 => ?_) (fun c_518 => ?_)
                  · refine gk_iload C dL_law_723 rfl ?_
                    refine gk_bipush C dL_law_725 (by decide) ?_
                    refine gk_icmp_eq C (tgt := 735) (by omega) (by omega) dL_law_727 (by decide) (fun c_727 => ?_) (fun c_727 => ?_)
                    · exact lw_band C hfl H hct hcl hy hz hk2 hn2 back
                    · refine gk_iload C dL_law_730 rfl ?_
                      refine gk_if_ne C (tgt := 789) (by omega) dL_law_732 (by decide) (fun c_732 => ?_) (fun c_732 => ?_)
                      · refine gk_iload C dL_law_789 rfl ?_
                        refine gk_bipush C dL_law_791 (by decide) ?_
                        refine gk_icmp_ne C (tgt := 963) (by omega) (by omega) dL_law_793 (by decide) (fun c_793 => ?_) (fun c_793 => ?_)
                        · exact lw_season C hfl H hct hcl hy hz hk2 hn2 (by omega) back
                        · exact lw_contest C hfl H hct hcl hy hz hk2 hn2 (by omega) back
                      · exact lw_band C hfl H hct hcl hy hz hk2 hn2 back
                  · exact lw_minutes C hfl H hct hcl hy hz hk2 hn2 (by omega) back
                · exact lw_piper C hfl H hct hcl hy hz hk2 hn2 back
            · exact lw_alike C hfl H hct hcl hy hz hk2 hn2 (by omega) back
          · exact lw_note C hfl H hct hcl hy hz hk2 hn2 (by omega) back
        · exact lw_tune C hfl H hct hcl hy hz hk2 hn2 back
    refine gk_iload C dL_law_26 rfl ?_
    refine gk_bipush C dL_law_28 (by decide) ?_
    refine gk_icmp_ge C (tgt := 1042) (by omega) (by omega) dL_law_30 (by decide) (fun c_30 => ?_) (fun c_30 => ?_)
    · exact absurd c_30 (by omega)
    refine gk_aload_n C dL_law_33 rfl ?_
    refine gk_slen CL dL_law_34 ?_
    refine gk_if_ne C (tgt := 46) (by omega) dL_law_35 (by decide) (fun c_35 => ?_) (fun c_35 => ?_)
    · refine gk_aload_n C dL_law_46 rfl ?_
      refine gk_iload C dL_law_47 rfl ?_
      refine gk_aload_n C dL_law_49 rfl ?_
      refine gk_slen CL dL_law_50 ?_
      refine gk_irem C (by omega) (by omega) dL_law_51 ?_
      have m0 := Int.emod_nonneg (kk : Int) (show (ls : Int) ≠ 0 by omega)
      have m1 := Int.emod_lt_of_pos (kk : Int) (show 0 < (ls : Int) by omega)
      refine gk_sld CL dL_law_52 ⟨m0, m1⟩ (by omega) ?_
      refine gk_bipush C dL_law_53 (by decide) ?_
      refine gk_iushr8 C dL_law_55 (fun x101 hx101 => ?_)
      exact J x101 hx101
    · refine gk_bipush C dL_law_38 (by decide) ?_
      refine gk_iload C dL_law_40 rfl ?_
      refine gk_imul C dL_law_42 ?_
      refine gk_goto C (tgt := 56) dL_law_43 (by decide) ?_
      exact J ((107) * (kk : Int)) (by omega)

set_option maxRecDepth 100000 in
set_option maxHeartbeats 8000000 in
theorem law_run {l : Launch} {Γ : GA} {nm : String} {G : GP} {sb ls : Nat} {xs : Nat → Int32} (CL : CxL l Γ (m_law nm) G sb ls xs) (hfl : l.stackTraces = false) (hls : ls ≤ 260)
    (fin : ∀ (L : List (Option Value)) (h : Hp) (k n : Nat), k ≤ 600104 → n ≤ 7301314 → G 1042 L [] h k n) :
    G 0 [some (.ref sb), none, none, none, none, none, none, none, none, none, none, none, none, none, none] [] (fun _ => none) 0 0 := by
  have C := CL.cx
  refine gk_none C ?_
  refine gk_callS C o_L_tunes k_L_155 dL_law_0 (r_tunes hfl) rfl rfl ⟨Nat.le_of_ble_eq_true rfl, Nat.le_of_ble_eq_true rfl⟩ ⟨by show _ + 20000 ≤ 600104; omega, by show _ + 900000 ≤ 7301314; omega⟩ (by exact Nat.le_of_ble_eq_true rfl) (fun _ _ z => z.elim) (fun v1 h1 p1 => ?_)
  subst p1
  dsimp only [gk_push]
  refine gk_if_ne C (tgt := 8) (by omega) dL_law_3 (by decide) (fun c_3 => ?_) (fun c_3 => ?_)
  rotate_left
  · exact absurd c_3 (by omega)
  refine gk_none C ?_
  refine gk_new C n_L_8 ⟨by show _ + 1 ≤ 600104; omega, by show _ + 9 ≤ 7301314; omega⟩ dL_law_8 (fun q0 e0 => ?_)
  refine gk_dup C rfl dL_law_11 ?_
  refine gk_callI C o_X4_init rfl k_L_106 dL_law_12 (h_new hfl) rfl rfl ⟨Nat.le_of_ble_eq_true rfl, Nat.le_of_ble_eq_true rfl⟩ ⟨by show _ + 8 ≤ 600104; omega, by show _ + 37 ≤ 7301314; omega⟩ (by exact Nat.le_of_ble_eq_true rfl) (fun _ _ z => z.elim) (fun v0 h0 p0 => ?_)
  obtain ⟨rfl, H0⟩ := p0
  dsimp only [gk_push]
  refine gk_astore_n_1 C rfl (by exact Nat.le_of_ble_eq_true rfl) dL_law_15 ?_
  refine gk_iconst C dL_law_16 ?_
  refine gk_istore_n_2 C rfl (by exact Nat.le_of_ble_eq_true rfl) dL_law_17 ?_
  refine gk_iconst C dL_law_18 ?_
  refine gk_istore_n_3 C rfl (by exact Nat.le_of_ble_eq_true rfl) dL_law_19 ?_
  refine gk_iconst C dL_law_20 ?_
  refine gk_istore_4 C rfl (by exact Nat.le_of_ble_eq_true rfl) dL_law_21 ?_
  refine gk_iconst C dL_law_23 ?_
  refine gk_istore_5 C rfl (by exact Nat.le_of_ble_eq_true rfl) dL_law_24 ?_
  exact law_loop CL hfl hls fin 70 0 rfl σ0 _ _ _ _ _ _ _ _ _ _ _ _ _ _ _ H0 ⟨rfl, rfl, rfl, rfl⟩ (Nat.le_refl _) (by omega) (by omega)
