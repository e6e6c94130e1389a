/-! the law's drawn calls -/
/-- the law's counts are the object's, and no contest is open -/
def cts (σ : ST) (t p b : Int) : Prop := t = ((σ.1.1 : Nat) : Int) ∧ p = ((σ.2.2.1.1 : Nat) : Int) ∧ b = ((nB σ : Nat) : Int) ∧ opB σ = 0
theorem ct_T {σ σ2 : ST} {t p b t2 : Int} (e : σ2.2 = σ.2) (h : cts σ t p b) (ht : t2 = ((σ2.1.1 : Nat) : Int)) : cts σ2 t2 p b := by
  obtain ⟨h1, h2, h3, h4⟩ := h
  refine ⟨ht, ?_, ?_, ?_⟩
  · rw [e]; exact h2
  · show b = ((σ2.2.2.2.1.1 : Nat) : Int); rw [e]; exact h3
  · show σ2.2.2.2.1.2.2.2.1 = 0; rw [e]; exact h4
theorem ct_P {σ σ2 : ST} {t p b p2 : Int} (e1 : σ2.1 = σ.1) (e3 : σ2.2.2.2 = σ.2.2.2) (h : cts σ t p b) (hp : p2 = ((σ2.2.2.1.1 : Nat) : Int)) : cts σ2 t p2 b := by
  obtain ⟨h1, h2, h3, h4⟩ := h
  refine ⟨?_, hp, ?_, ?_⟩
  · rw [e1]; exact h1
  · show b = ((σ2.2.2.2.1.1 : Nat) : Int); rw [e3]; exact h3
  · show σ2.2.2.2.1.2.2.2.1 = 0; rw [e3]; exact h4
theorem ct_S {σ σ2 : ST} {t p b : Int} (e1 : σ2.1 = σ.1) (e2 : σ2.2.2 = σ.2.2) (h : cts σ t p b) : cts σ2 t p b := by
  obtain ⟨h1, h2, h3, h4⟩ := h
  refine ⟨?_, ?_, ?_, ?_⟩
  · rw [e1]; exact h1
  · rw [e2]; exact h2
  · show b = ((σ2.2.2.2.1.1 : Nat) : Int); rw [e2]; exact h3
  · show σ2.2.2.2.1.2.2.2.1 = 0; rw [e2]; exact h4
theorem ct_B {σ σ2 : ST} {t p b b2 : Int} (e1 : σ2.1 = σ.1) (e2 : σ2.2.2.1 = σ.2.2.1) (h : cts σ t p b) (hb : b2 = ((nB σ2 : Nat) : Int)) (ho : opB σ2 = 0) : cts σ2 t p b2 := by
  obtain ⟨h1, h2, h3, h4⟩ := h
  refine ⟨?_, ?_, hb, ho⟩
  · rw [e1]; exact h1
  · rw [e2]; exact h2
theorem sameB.tr {σ σ2 σ3 : ST} (h : sameB σ σ2) (h2 : sameB σ2 σ3) : sameB σ σ3 := by
  obtain ⟨a1, a2, a3, a4⟩ := h
  obtain ⟨b1, b2, b3, b4⟩ := h2
  exact ⟨b1.trans a1, b2.trans a2, b3.trans a3, b4.trans a4⟩

set_option maxRecDepth 100000 in
set_option maxHeartbeats 8000000 in
theorem lw_tune {l : Launch} {Γ : GA} {nm : String} {G : GP} {X : String → Hp → Nat → Nat → Prop} {x sb : Nat} {σ : ST} {h : Hp} {k n : Nat} {t p b kk xx w y z : Int} {u10 u11 u12 u13 u14 : Option Value} (C : Cx l Γ (m_law nm) G X) (hfl : l.stackTraces = false) (H : HD Γ x σ h) (hct : cts σ t p b) (hcl : σ.2.2.2.2 ≤ 9000) (hy : 0 ≤ y ∧ y ≤ 2000000) (hz : 0 ≤ z ∧ z ≤ 2000000) (hk : k + 3000 ≤ 600104) (hn : n + 90000 ≤ 7301314) 
    (back : ∀ (σ2 : ST) (h2 : Hp) (k2 n2 : Nat) (t2 p2 b2 : Int) (v10 v11 v12 v13 v14 : Option Value), HD Γ x σ2 h2 → cts σ2 t2 p2 b2 → σ2.2.2.2.2 ≤ σ.2.2.2.2 + 1 → k2 ≤ k + 400 → n2 ≤ n + 15000 → G 1015 [some (.ref sb), some (.ref x), some (iv t2), some (iv p2), some (iv b2), some (iv kk), some (iv xx), some (iv w), some (iv y), some (iv z), v10, v11, v12, v13, v14] [] h2 k2 n2) : G 88 [some (.ref sb), some (.ref x), some (iv t), some (iv p), some (iv b), some (iv kk), some (iv xx), some (iv w), some (iv y), some (iv z), u10, u11, u12, u13, u14] [] h k n := by
  have wf := H.wf
  obtain ⟨ht, hp, hb, hop⟩ := id hct
  have hcl2 : σ.2.2.2.2 ≤ 10000 := by omega
  have ht1 : t ≤ 10 := by have := wf.1.1; omega
  have hp1 : p ≤ 8 := by have := wf.2.2.1.1; omega
  have hb1 : b ≤ 8 := by have h8 : nB σ ≤ 8 := wf.2.2.2.1; omega
  rcases f_tune wf (z := y % 4) (by omega) with ⟨hq, σ2, e, e1, e2⟩ | ⟨hq, e⟩
  · skip
    refine gk_aload_n C dL_law_88 rfl ?_
    refine gk_iconst C dL_law_89 ?_
    refine gk_iload C dL_law_90 rfl ?_
    refine gk_iconst C dL_law_92 ?_
    refine gk_irem C (by omega) (by omega) dL_law_93 ?_
    refine gk_iconst C dL_law_94 ?_
    refine gk_iconst C dL_law_95 ?_
    refine gk_iconst C dL_law_96 ?_
    refine gk_callSH C o_L_act k_L_100 dL_law_97 (act_e hfl H (w := 0) (a := (y % (4))) (b := (0)) (c := (0)) (d := (0)) (r := ((σ.1.1 : Nat) : Int)) rfl (by omega) (by omega) (by omega) (by omega) (by omega) hcl2 e) rfl rfl ⟨Nat.le_of_ble_eq_true rfl, Nat.le_of_ble_eq_true rfl⟩ ⟨by show _ + 9 ≤ 600104; omega, by show _ + 418 ≤ 7301314; omega⟩ (by exact Nat.le_of_ble_eq_true rfl) (fun v101 h101 p101 => ?_)
    obtain ⟨rfl, H101⟩ := p101
    dsimp only [gk_push]
    refine gk_iload_n C dL_law_100 rfl ?_
    refine gk_bipush C dL_law_101 (by decide) ?_
    refine gk_icmp_ge C (tgt := 110) (by omega) (by omega) dL_law_103 (by decide) (fun c_103 => ?_) (fun c_103 => ?_)
    · exact absurd c_103 (by omega)
    refine gk_iload_n C dL_law_106 rfl ?_
    refine gk_goto C (tgt := 112) dL_law_107 (by decide) ?_
    refine gk_icmp_eq C (tgt := 117) (by omega) (by omega) dL_law_112 (by decide) (fun c_112 => ?_) (fun c_112 => ?_)
    rotate_left
    · exact absurd c_112 (by omega)
    refine gk_iload_n C dL_law_117 rfl ?_
    refine gk_iload_n C dL_law_118 rfl ?_
    refine gk_bipush C dL_law_119 (by decide) ?_
    refine gk_icmp_ge C (tgt := 128) (by omega) (by omega) dL_law_121 (by decide) (fun c_121 => ?_) (fun c_121 => ?_)
    · exact absurd c_121 (by omega)
    refine gk_iconst C dL_law_124 ?_
    refine gk_goto C (tgt := 129) dL_law_125 (by decide) ?_
    refine gk_iadd C dL_law_129 ?_
    refine gk_istore_n_2 C rfl (by exact Nat.le_of_ble_eq_true rfl) dL_law_130 ?_
    refine gk_goto C (tgt := 1015) dL_law_131 (by decide) ?_
    exact back σ2 _ _ _ _ _ _ _ _ _ _ _ H101 (ct_T e2 hct (by omega)) (by rw [e2]; exact Nat.le_succ _) (by omega) (by omega)
  · skip
    refine gk_aload_n C dL_law_88 rfl ?_
    refine gk_iconst C dL_law_89 ?_
    refine gk_iload C dL_law_90 rfl ?_
    refine gk_iconst C dL_law_92 ?_
    refine gk_irem C (by omega) (by omega) dL_law_93 ?_
    refine gk_iconst C dL_law_94 ?_
    refine gk_iconst C dL_law_95 ?_
    refine gk_iconst C dL_law_96 ?_
    refine gk_callSH C o_L_act k_L_100 dL_law_97 (act_e hfl H (w := 0) (a := (y % (4))) (b := (0)) (c := (0)) (d := (0)) (r := (-7000003)) rfl (by omega) (by omega) (by omega) (by omega) (by omega) hcl2 e) rfl rfl ⟨Nat.le_of_ble_eq_true rfl, Nat.le_of_ble_eq_true rfl⟩ ⟨by show _ + 9 ≤ 600104; omega, by show _ + 418 ≤ 7301314; omega⟩ (by exact Nat.le_of_ble_eq_true rfl) (fun v201 h201 p201 => ?_)
    obtain ⟨rfl, H201⟩ := p201
    dsimp only [gk_push]
    refine gk_iload_n C dL_law_100 rfl ?_
    refine gk_bipush C dL_law_101 (by decide) ?_
    refine gk_icmp_ge C (tgt := 110) (by omega) (by omega) dL_law_103 (by decide) (fun c_103 => ?_) (fun c_103 => ?_)
    rotate_left
    · exact absurd c_103 (by omega)
    refine gk_ldc C cn_L_91 dL_law_110 ?_
    refine gk_icmp_eq C (tgt := 117) (by omega) (by omega) dL_law_112 (by decide) (fun c_112 => ?_) (fun c_112 => ?_)
    rotate_left
    · exact absurd c_112 (by omega)
    refine gk_iload_n C dL_law_117 rfl ?_
    refine gk_iload_n C dL_law_118 rfl ?_
    refine gk_bipush C dL_law_119 (by decide) ?_
    refine gk_icmp_ge C (tgt := 128) (by omega) (by omega) dL_law_121 (by decide) (fun c_121 => ?_) (fun c_121 => ?_)
    rotate_left
    · exact absurd c_121 (by omega)
    refine gk_iconst C dL_law_128 ?_
    refine gk_iadd C dL_law_129 ?_
    refine gk_istore_n_2 C rfl (by exact Nat.le_of_ble_eq_true rfl) dL_law_130 ?_
    refine gk_goto C (tgt := 1015) dL_law_131 (by decide) ?_
    exact back σ _ _ _ _ _ _ _ _ _ _ _ H201 (by rw [Int.add_zero]; exact hct) (Nat.le_succ _) (by omega) (by omega)

set_option maxRecDepth 100000 in
set_option maxHeartbeats 8000000 in
theorem lw_piper {l : Launch} {Γ : GA} {nm : String} {G : GP} {X : String → Hp → Nat → Nat → Prop} {x sb : Nat} {σ : ST} {h : Hp} {k n : Nat} {t p b kk xx w y z : Int} {u10 u11 u12 u13 u14 : Option Value} (C : Cx l Γ (m_law nm) G X) (hfl : l.stackTraces = false) (H : HD Γ x σ h) (hct : cts σ t p b) (hcl : σ.2.2.2.2 ≤ 9000) (hy : 0 ≤ y ∧ y ≤ 2000000) (hz : 0 ≤ z ∧ z ≤ 2000000) (hk : k + 3000 ≤ 600104) (hn : n + 90000 ≤ 7301314) 
    (back : ∀ (σ2 : ST) (h2 : Hp) (k2 n2 : Nat) (t2 p2 b2 : Int) (v10 v11 v12 v13 v14 : Option Value), HD Γ x σ2 h2 → cts σ2 t2 p2 b2 → σ2.2.2.2.2 ≤ σ.2.2.2.2 + 1 → k2 ≤ k + 400 → n2 ≤ n + 15000 → G 1015 [some (.ref sb), some (.ref x), some (iv t2), some (iv p2), some (iv b2), some (iv kk), some (iv xx), some (iv w), some (iv y), some (iv z), v10, v11, v12, v13, v14] [] h2 k2 n2) : G 451 [some (.ref sb), some (.ref x), some (iv t), some (iv p), some (iv b), some (iv kk), some (iv xx), some (iv w), some (iv y), some (iv z), u10, u11, u12, u13, u14] [] h k n := by
  have wf := H.wf
  obtain ⟨ht, hp, hb, hop⟩ := id hct
  have hcl2 : σ.2.2.2.2 ≤ 10000 := by omega
  have ht1 : t ≤ 10 := by have := wf.1.1; omega
  have hp1 : p ≤ 8 := by have := wf.2.2.1.1; omega
  have hb1 : b ≤ 8 := by have h8 : nB σ ≤ 8 := wf.2.2.2.1; omega
  rcases f_piper wf (a := y % 201 - 100) (b := 10 + z % 31) (c := y % 10) ⟨by omega, by omega, by omega⟩ with ⟨hq, σ2, e, e1, e2, e3⟩ | ⟨hq, e⟩
  · skip
    refine gk_aload_n C dL_law_451 rfl ?_
    refine gk_bipush C dL_law_452 (by decide) ?_
    refine gk_iload C dL_law_454 rfl ?_
    refine gk_sipush C dL_law_456 (by decide) ?_
    refine gk_irem C (by omega) (by omega) dL_law_459 ?_
    refine gk_bipush C dL_law_460 (by decide) ?_
    refine gk_isub C dL_law_462 ?_
    refine gk_bipush C dL_law_463 (by decide) ?_
    refine gk_iload C dL_law_465 rfl ?_
    refine gk_bipush C dL_law_467 (by decide) ?_
    refine gk_irem C (by omega) (by omega) dL_law_469 ?_
    refine gk_iadd C dL_law_470 ?_
    refine gk_iload C dL_law_471 rfl ?_
    refine gk_bipush C dL_law_473 (by decide) ?_
    refine gk_irem C (by omega) (by omega) dL_law_475 ?_
    refine gk_iconst C dL_law_476 ?_
    refine gk_callSH C o_L_act k_L_100 dL_law_477 (act_e hfl H (w := 9) (a := ((y % (201)) - (100))) (b := ((10) + (z % (31)))) (c := (y % (10))) (d := (0)) (r := ((σ.2.2.1.1 : Nat) : Int)) rfl (by omega) (by omega) (by omega) (by omega) (by omega) hcl2 e) rfl rfl ⟨Nat.le_of_ble_eq_true rfl, Nat.le_of_ble_eq_true rfl⟩ ⟨by show _ + 9 ≤ 600104; omega, by show _ + 418 ≤ 7301314; omega⟩ (by exact Nat.le_of_ble_eq_true rfl) (fun v301 h301 p301 => ?_)
    obtain ⟨rfl, H301⟩ := p301
    dsimp only [gk_push]
    refine gk_iload_n C dL_law_480 rfl ?_
    refine gk_bipush C dL_law_481 (by decide) ?_
    refine gk_icmp_ge C (tgt := 490) (by omega) (by omega) dL_law_483 (by decide) (fun c_483 => ?_) (fun c_483 => ?_)
    · exact absurd c_483 (by omega)
    refine gk_iload_n C dL_law_486 rfl ?_
    refine gk_goto C (tgt := 492) dL_law_487 (by decide) ?_
    refine gk_icmp_eq C (tgt := 497) (by omega) (by omega) dL_law_492 (by decide) (fun c_492 => ?_) (fun c_492 => ?_)
    rotate_left
    · exact absurd c_492 (by omega)
    refine gk_iload_n C dL_law_497 rfl ?_
    refine gk_iload_n C dL_law_498 rfl ?_
    refine gk_bipush C dL_law_499 (by decide) ?_
    refine gk_icmp_ge C (tgt := 508) (by omega) (by omega) dL_law_501 (by decide) (fun c_501 => ?_) (fun c_501 => ?_)
    · exact absurd c_501 (by omega)
    refine gk_iconst C dL_law_504 ?_
    refine gk_goto C (tgt := 509) dL_law_505 (by decide) ?_
    refine gk_iadd C dL_law_509 ?_
    refine gk_istore_n_3 C rfl (by exact Nat.le_of_ble_eq_true rfl) dL_law_510 ?_
    refine gk_goto C (tgt := 1015) dL_law_511 (by decide) ?_
    exact back σ2 _ _ _ _ _ _ _ _ _ _ _ H301 (ct_P e2 e3 hct (by omega)) (by rw [e3]; exact Nat.le_succ _) (by omega) (by omega)
  · skip
    refine gk_aload_n C dL_law_451 rfl ?_
    refine gk_bipush C dL_law_452 (by decide) ?_
    refine gk_iload C dL_law_454 rfl ?_
    refine gk_sipush C dL_law_456 (by decide) ?_
    refine gk_irem C (by omega) (by omega) dL_law_459 ?_
    refine gk_bipush C dL_law_460 (by decide) ?_
    refine gk_isub C dL_law_462 ?_
    refine gk_bipush C dL_law_463 (by decide) ?_
    refine gk_iload C dL_law_465 rfl ?_
    refine gk_bipush C dL_law_467 (by decide) ?_
    refine gk_irem C (by omega) (by omega) dL_law_469 ?_
    refine gk_iadd C dL_law_470 ?_
    refine gk_iload C dL_law_471 rfl ?_
    refine gk_bipush C dL_law_473 (by decide) ?_
    refine gk_irem C (by omega) (by omega) dL_law_475 ?_
    refine gk_iconst C dL_law_476 ?_
    refine gk_callSH C o_L_act k_L_100 dL_law_477 (act_e hfl H (w := 9) (a := ((y % (201)) - (100))) (b := ((10) + (z % (31)))) (c := (y % (10))) (d := (0)) (r := (-7000003)) rfl (by omega) (by omega) (by omega) (by omega) (by omega) hcl2 e) rfl rfl ⟨Nat.le_of_ble_eq_true rfl, Nat.le_of_ble_eq_true rfl⟩ ⟨by show _ + 9 ≤ 600104; omega, by show _ + 418 ≤ 7301314; omega⟩ (by exact Nat.le_of_ble_eq_true rfl) (fun v401 h401 p401 => ?_)
    obtain ⟨rfl, H401⟩ := p401
    dsimp only [gk_push]
    refine gk_iload_n C dL_law_480 rfl ?_
    refine gk_bipush C dL_law_481 (by decide) ?_
    refine gk_icmp_ge C (tgt := 490) (by omega) (by omega) dL_law_483 (by decide) (fun c_483 => ?_) (fun c_483 => ?_)
    rotate_left
    · exact absurd c_483 (by omega)
    refine gk_ldc C cn_L_91 dL_law_490 ?_
    refine gk_icmp_eq C (tgt := 497) (by omega) (by omega) dL_law_492 (by decide) (fun c_492 => ?_) (fun c_492 => ?_)
    rotate_left
    · exact absurd c_492 (by omega)
    refine gk_iload_n C dL_law_497 rfl ?_
    refine gk_iload_n C dL_law_498 rfl ?_
    refine gk_bipush C dL_law_499 (by decide) ?_
    refine gk_icmp_ge C (tgt := 508) (by omega) (by omega) dL_law_501 (by decide) (fun c_501 => ?_) (fun c_501 => ?_)
    rotate_left
    · exact absurd c_501 (by omega)
    refine gk_iconst C dL_law_508 ?_
    refine gk_iadd C dL_law_509 ?_
    refine gk_istore_n_3 C rfl (by exact Nat.le_of_ble_eq_true rfl) dL_law_510 ?_
    refine gk_goto C (tgt := 1015) dL_law_511 (by decide) ?_
    exact back σ _ _ _ _ _ _ _ _ _ _ _ H401 (by rw [Int.add_zero]; exact hct) (Nat.le_succ _) (by omega) (by omega)

set_option maxRecDepth 100000 in
set_option maxHeartbeats 8000000 in
theorem lw_band {l : Launch} {Γ : GA} {nm : String} {G : GP} {X : String → Hp → Nat → Nat → Prop} {x sb : Nat} {σ : ST} {h : Hp} {k n : Nat} {t p b kk xx w y z : Int} {u10 u11 u12 u13 u14 : Option Value} (C : Cx l Γ (m_law nm) G X) (hfl : l.stackTraces = false) (H : HD Γ x σ h) (hct : cts σ t p b) (hcl : σ.2.2.2.2 ≤ 9000) (hy : 0 ≤ y ∧ y ≤ 2000000) (hz : 0 ≤ z ∧ z ≤ 2000000) (hk : k + 3000 ≤ 600104) (hn : n + 90000 ≤ 7301314) 
    (back : ∀ (σ2 : ST) (h2 : Hp) (k2 n2 : Nat) (t2 p2 b2 : Int) (v10 v11 v12 v13 v14 : Option Value), HD Γ x σ2 h2 → cts σ2 t2 p2 b2 → σ2.2.2.2.2 ≤ σ.2.2.2.2 + 1 → k2 ≤ k + 400 → n2 ≤ n + 15000 → G 1015 [some (.ref sb), some (.ref x), some (iv t2), some (iv p2), some (iv b2), some (iv kk), some (iv xx), some (iv w), some (iv y), some (iv z), v10, v11, v12, v13, v14] [] h2 k2 n2) : G 735 [some (.ref sb), some (.ref x), some (iv t), some (iv p), some (iv b), some (iv kk), some (iv xx), some (iv w), some (iv y), some (iv z), u10, u11, u12, u13, u14] [] h k n := by
  have wf := H.wf
  obtain ⟨ht, hp, hb, hop⟩ := id hct
  have hcl2 : σ.2.2.2.2 ≤ 10000 := by omega
  have ht1 : t ≤ 10 := by have := wf.1.1; omega
  have hp1 : p ≤ 8 := by have := wf.2.2.1.1; omega
  have hb1 : b ≤ 8 := by have h8 : nB σ ≤ 8 := wf.2.2.2.1; omega
  rcases f_band wf (z := 1 + y % 5) (by omega) with ⟨hq, σ2, e, e1, e2, e3, e4, e5⟩ | ⟨hq, e⟩
  · skip
    refine gk_aload_n C dL_law_735 rfl ?_
    refine gk_bipush C dL_law_736 (by decide) ?_
    refine gk_iconst C dL_law_738 ?_
    refine gk_iload C dL_law_739 rfl ?_
    refine gk_iconst C dL_law_741 ?_
    refine gk_irem C (by omega) (by omega) dL_law_742 ?_
    refine gk_iadd C dL_law_743 ?_
    refine gk_iconst C dL_law_744 ?_
    refine gk_iconst C dL_law_745 ?_
    refine gk_iconst C dL_law_746 ?_
    refine gk_callSH C o_L_act k_L_100 dL_law_747 (act_e hfl H (w := 16) (a := ((1) + (y % (5)))) (b := (0)) (c := (0)) (d := (0)) (r := ((nB σ : Nat) : Int)) rfl (by omega) (by omega) (by omega) (by omega) (by omega) hcl2 e) rfl rfl ⟨Nat.le_of_ble_eq_true rfl, Nat.le_of_ble_eq_true rfl⟩ ⟨by show _ + 9 ≤ 600104; omega, by show _ + 418 ≤ 7301314; omega⟩ (by exact Nat.le_of_ble_eq_true rfl) (fun v501 h501 p501 => ?_)
    obtain ⟨rfl, H501⟩ := p501
    dsimp only [gk_push]
    refine gk_iload C dL_law_750 rfl ?_
    refine gk_bipush C dL_law_752 (by decide) ?_
    refine gk_icmp_ge C (tgt := 762) (by omega) (by omega) dL_law_754 (by decide) (fun c_754 => ?_) (fun c_754 => ?_)
    · exact absurd c_754 (by omega)
    refine gk_iload C dL_law_757 rfl ?_
    refine gk_goto C (tgt := 764) dL_law_759 (by decide) ?_
    refine gk_icmp_eq C (tgt := 769) (by omega) (by omega) dL_law_764 (by decide) (fun c_764 => ?_) (fun c_764 => ?_)
    rotate_left
    · exact absurd c_764 (by omega)
    refine gk_iload C dL_law_769 rfl ?_
    refine gk_iload C dL_law_771 rfl ?_
    refine gk_bipush C dL_law_773 (by decide) ?_
    refine gk_icmp_ge C (tgt := 782) (by omega) (by omega) dL_law_775 (by decide) (fun c_775 => ?_) (fun c_775 => ?_)
    · exact absurd c_775 (by omega)
    refine gk_iconst C dL_law_778 ?_
    refine gk_goto C (tgt := 783) dL_law_779 (by decide) ?_
    refine gk_iadd C dL_law_783 ?_
    refine gk_istore_4 C rfl (by exact Nat.le_of_ble_eq_true rfl) dL_law_784 ?_
    refine gk_goto C (tgt := 1015) dL_law_786 (by decide) ?_
    exact back σ2 _ _ _ _ _ _ _ _ _ _ _ H501 (ct_B e2 e3 hct (by omega) (by rw [e4]; exact hop)) (by rw [e5]; exact Nat.le_succ _) (by omega) (by omega)
  · skip
    refine gk_aload_n C dL_law_735 rfl ?_
    refine gk_bipush C dL_law_736 (by decide) ?_
    refine gk_iconst C dL_law_738 ?_
    refine gk_iload C dL_law_739 rfl ?_
    refine gk_iconst C dL_law_741 ?_
    refine gk_irem C (by omega) (by omega) dL_law_742 ?_
    refine gk_iadd C dL_law_743 ?_
    refine gk_iconst C dL_law_744 ?_
    refine gk_iconst C dL_law_745 ?_
    refine gk_iconst C dL_law_746 ?_
    refine gk_callSH C o_L_act k_L_100 dL_law_747 (act_e hfl H (w := 16) (a := ((1) + (y % (5)))) (b := (0)) (c := (0)) (d := (0)) (r := (-7000003)) rfl (by omega) (by omega) (by omega) (by omega) (by omega) hcl2 e) rfl rfl ⟨Nat.le_of_ble_eq_true rfl, Nat.le_of_ble_eq_true rfl⟩ ⟨by show _ + 9 ≤ 600104; omega, by show _ + 418 ≤ 7301314; omega⟩ (by exact Nat.le_of_ble_eq_true rfl) (fun v601 h601 p601 => ?_)
    obtain ⟨rfl, H601⟩ := p601
    dsimp only [gk_push]
    refine gk_iload C dL_law_750 rfl ?_
    refine gk_bipush C dL_law_752 (by decide) ?_
    refine gk_icmp_ge C (tgt := 762) (by omega) (by omega) dL_law_754 (by decide) (fun c_754 => ?_) (fun c_754 => ?_)
    rotate_left
    · exact absurd c_754 (by omega)
    refine gk_ldc C cn_L_91 dL_law_762 ?_
    refine gk_icmp_eq C (tgt := 769) (by omega) (by omega) dL_law_764 (by decide) (fun c_764 => ?_) (fun c_764 => ?_)
    rotate_left
    · exact absurd c_764 (by omega)
    refine gk_iload C dL_law_769 rfl ?_
    refine gk_iload C dL_law_771 rfl ?_
    refine gk_bipush C dL_law_773 (by decide) ?_
    refine gk_icmp_ge C (tgt := 782) (by omega) (by omega) dL_law_775 (by decide) (fun c_775 => ?_) (fun c_775 => ?_)
    rotate_left
    · exact absurd c_775 (by omega)
    refine gk_iconst C dL_law_782 ?_
    refine gk_iadd C dL_law_783 ?_
    refine gk_istore_4 C rfl (by exact Nat.le_of_ble_eq_true rfl) dL_law_784 ?_
    refine gk_goto C (tgt := 1015) dL_law_786 (by decide) ?_
    exact back σ _ _ _ _ _ _ _ _ _ _ _ H601 (by rw [Int.add_zero]; exact hct) (Nat.le_succ _) (by omega) (by omega)

set_option maxRecDepth 100000 in
set_option maxHeartbeats 8000000 in
theorem lw_note {l : Launch} {Γ : GA} {nm : String} {G : GP} {X : String → Hp → Nat → Nat → Prop} {x sb : Nat} {σ : ST} {h : Hp} {k n : Nat} {t p b kk xx w y z : Int} {u10 u11 u12 u13 u14 : Option Value} (C : Cx l Γ (m_law nm) G X) (hfl : l.stackTraces = false) (H : HD Γ x σ h) (hct : cts σ t p b) (hcl : σ.2.2.2.2 ≤ 9000) (hy : 0 ≤ y ∧ y ≤ 2000000) (hz : 0 ≤ z ∧ z ≤ 2000000) (hk : k + 3000 ≤ 600104) (hn : n + 90000 ≤ 7301314) (h0 : 0 < t)
    (back : ∀ (σ2 : ST) (h2 : Hp) (k2 n2 : Nat) (t2 p2 b2 : Int) (v10 v11 v12 v13 v14 : Option Value), HD Γ x σ2 h2 → cts σ2 t2 p2 b2 → σ2.2.2.2.2 ≤ σ.2.2.2.2 + 1 → k2 ≤ k + 400 → n2 ≤ n + 15000 → G 1015 [some (.ref sb), some (.ref x), some (iv t2), some (iv p2), some (iv b2), some (iv kk), some (iv xx), some (iv w), some (iv y), some (iv z), v10, v11, v12, v13, v14] [] h2 k2 n2) : G 140 [some (.ref sb), some (.ref x), some (iv t), some (iv p), some (iv b), some (iv kk), some (iv xx), some (iv w), some (iv y), some (iv z), u10, u11, u12, u13, u14] [] h k n := by
  have wf := H.wf
  obtain ⟨ht, hp, hb, hop⟩ := id hct
  have hcl2 : σ.2.2.2.2 ≤ 10000 := by omega
  have ht1 : t ≤ 10 := by have := wf.1.1; omega
  have hp1 : p ≤ 8 := by have := wf.2.2.1.1; omega
  have hb1 : b ≤ 8 := by have h8 : nB σ ≤ 8 := wf.2.2.2.1; omega
  obtain ⟨its, eits, hits0, hits1⟩ : ∃ q : Int, q = y % t ∧ 0 ≤ q ∧ q < t := ⟨_, rfl, Int.emod_nonneg _ (by omega), Int.emod_lt_of_pos _ (by omega)⟩
  have hi : 0 ≤ its ∧ its < ((σ.1.1 : Nat) : Int) := by omega
  have J : ∀ (σ2 : ST) (h2 : Hp) (k2 n2 : Nat) (g11 g12 : Int), HD Γ x σ2 h2 → σ2.1.1 = σ.1.1 → σ2.2 = σ.2 → k2 ≤ k + 50 → n2 ≤ n + 1000 → G 235 [some (.ref sb), some (.ref x), some (iv t), some (iv p), some (iv b), some (iv kk), some (iv xx), some (iv w), some (iv y), some (iv z), some (iv its), some (iv g11), some (iv g12), u13, u14] [] h2 k2 n2 := by
    intro σ2 h2 k2 n2 g11 g12 H2 f1 f2 hk2 hn2
    have wf2 := H2.wf
    have hi2 : 0 ≤ its ∧ its < ((σ2.1.1 : Nat) : Int) := by omega
    have q2 := f_tq wf2 hi2
    have hclJ : σ2.2.2.2.2 ≤ 10000 := by rw [f2]; omega
    rcases f_part wf2 (b := z % 2) hi2 with ⟨r, σ3, e, hr, p1, p2, f3, f4⟩ | e
    · have hi3 : 0 ≤ its ∧ its < ((σ3.1.1 : Nat) : Int) := by omega
      refine gk_aload_n C dL_law_235 rfl ?_
      refine gk_iload C dL_law_236 rfl ?_
      refine gk_iconst C dL_law_238 ?_
      obtain ⟨fs701, ob701⟩ := H2.obj
      refine gk_callV C o_X4_ofTune k_L_25 dL_law_239 (HC.dir (r := (vPa σ2 its)) (σ2 := σ2) (h_ofTune hfl H2 (t := its) (w := (5)) (by omega) (by omega)) (f_of5 hi2) (by omega)) ob701 rfl rfl rfl ⟨Nat.le_of_ble_eq_true rfl, Nat.le_of_ble_eq_true rfl⟩ ⟨by show _ + 2 ≤ 600104; omega, by show _ + 12 ≤ 7301314; omega⟩ (by exact Nat.le_of_ble_eq_true rfl) (fun _ _ z => z.elim) (fun v701 h701 p701 => ?_)
      obtain ⟨rfl, H701⟩ := p701
      dsimp only [gk_push]
      clear ob701
      refine gk_istore_13 C rfl (by exact Nat.le_of_ble_eq_true rfl) dL_law_242 ?_
      refine gk_aload_n C dL_law_244 rfl ?_
      refine gk_iconst C dL_law_245 ?_
      refine gk_iload C dL_law_246 rfl ?_
      refine gk_iload C dL_law_248 rfl ?_
      refine gk_iconst C dL_law_250 ?_
      refine gk_irem C (by omega) (by omega) dL_law_251 ?_
      refine gk_iconst C dL_law_252 ?_
      refine gk_iconst C dL_law_253 ?_
      refine gk_callSH C o_L_act k_L_100 dL_law_254 (act_e hfl H701 (w := 2) (a := its) (b := (z % (2))) (c := (0)) (d := (0)) (r := r) rfl (by omega) (by omega) (by omega) (by omega) (by omega) hclJ e) rfl rfl ⟨Nat.le_of_ble_eq_true rfl, Nat.le_of_ble_eq_true rfl⟩ ⟨by show _ + 9 ≤ 600104; omega, by show _ + 418 ≤ 7301314; omega⟩ (by exact Nat.le_of_ble_eq_true rfl) (fun v702 h702 p702 => ?_)
      obtain ⟨rfl, H702⟩ := p702
      dsimp only [gk_push]
      refine gk_istore_14 C rfl (by exact Nat.le_of_ble_eq_true rfl) dL_law_257 ?_
      refine gk_iload C dL_law_259 rfl ?_
      refine gk_ldc C cn_L_91 dL_law_261 ?_
      refine gk_icmp_eq C (tgt := 299) (by omega) (by omega) dL_law_263 (by decide) (fun c_263 => ?_) (fun c_263 => ?_)
      · exact absurd c_263 (by omega)
      refine gk_iload C dL_law_266 rfl ?_
      refine gk_iconst C dL_law_268 ?_
      refine gk_icmp_lt C (tgt := 297) (by omega) (by omega) dL_law_269 (by decide) (fun c_269 => ?_) (fun c_269 => ?_)
      · exact absurd c_269 (by omega)
      refine gk_aload_n C dL_law_272 rfl ?_
      refine gk_iload C dL_law_273 rfl ?_
      refine gk_iconst C dL_law_275 ?_
      obtain ⟨fs703, ob703⟩ := H702.obj
      refine gk_callV C o_X4_ofTune k_L_25 dL_law_276 (HC.dir (r := (vPa σ3 its)) (σ2 := σ3) (h_ofTune hfl H702 (t := its) (w := (5)) (by omega) (by omega)) (f_of5 hi3) (by omega)) ob703 rfl rfl rfl ⟨Nat.le_of_ble_eq_true rfl, Nat.le_of_ble_eq_true rfl⟩ ⟨by show _ + 2 ≤ 600104; omega, by show _ + 12 ≤ 7301314; omega⟩ (by exact Nat.le_of_ble_eq_true rfl) (fun _ _ z => z.elim) (fun v703 h703 p703 => ?_)
      obtain ⟨rfl, H703⟩ := p703
      dsimp only [gk_push]
      clear ob703
      refine gk_iload C dL_law_279 rfl ?_
      refine gk_iconst C dL_law_281 ?_
      refine gk_iadd C dL_law_282 ?_
      refine gk_icmp_ne C (tgt := 297) (by omega) (by omega) dL_law_283 (by decide) (fun c_283 => ?_) (fun c_283 => ?_)
      · exact absurd c_283 (by omega)
      refine gk_aload_n C dL_law_286 rfl ?_
      refine gk_iload C dL_law_287 rfl ?_
      refine gk_bipush C dL_law_289 (by decide) ?_
      obtain ⟨fs704, ob704⟩ := H703.obj
      refine gk_callV C o_X4_ofTune k_L_25 dL_law_291 (HC.dir (r := (vOp σ3 its)) (σ2 := σ3) (h_ofTune hfl H703 (t := its) (w := (6)) (by omega) (by omega)) (f_of6 hi3) (by omega)) ob704 rfl rfl rfl ⟨Nat.le_of_ble_eq_true rfl, Nat.le_of_ble_eq_true rfl⟩ ⟨by show _ + 2 ≤ 600104; omega, by show _ + 12 ≤ 7301314; omega⟩ (by exact Nat.le_of_ble_eq_true rfl) (fun _ _ z => z.elim) (fun v704 h704 p704 => ?_)
      obtain ⟨rfl, H704⟩ := p704
      dsimp only [gk_push]
      clear ob704
      refine gk_if_eq C (tgt := 299) (by omega) dL_law_294 (by decide) (fun c_294 => ?_) (fun c_294 => ?_)
      rotate_left
      · exact absurd c_294 (by omega)
      refine gk_goto C (tgt := 1015) dL_law_299 (by decide) ?_
      exact back σ3 _ _ _ _ _ _ _ _ _ _ _ H704 (ct_T (f4.trans f2) hct (by omega)) (by rw [f4, f2]; exact Nat.le_succ _) (by omega) (by omega)
    · skip
      refine gk_aload_n C dL_law_235 rfl ?_
      refine gk_iload C dL_law_236 rfl ?_
      refine gk_iconst C dL_law_238 ?_
      obtain ⟨fs801, ob801⟩ := H2.obj
      refine gk_callV C o_X4_ofTune k_L_25 dL_law_239 (HC.dir (r := (vPa σ2 its)) (σ2 := σ2) (h_ofTune hfl H2 (t := its) (w := (5)) (by omega) (by omega)) (f_of5 hi2) (by omega)) ob801 rfl rfl rfl ⟨Nat.le_of_ble_eq_true rfl, Nat.le_of_ble_eq_true rfl⟩ ⟨by show _ + 2 ≤ 600104; omega, by show _ + 12 ≤ 7301314; omega⟩ (by exact Nat.le_of_ble_eq_true rfl) (fun _ _ z => z.elim) (fun v801 h801 p801 => ?_)
      obtain ⟨rfl, H801⟩ := p801
      dsimp only [gk_push]
      clear ob801
      refine gk_istore_13 C rfl (by exact Nat.le_of_ble_eq_true rfl) dL_law_242 ?_
      refine gk_aload_n C dL_law_244 rfl ?_
      refine gk_iconst C dL_law_245 ?_
      refine gk_iload C dL_law_246 rfl ?_
      refine gk_iload C dL_law_248 rfl ?_
      refine gk_iconst C dL_law_250 ?_
      refine gk_irem C (by omega) (by omega) dL_law_251 ?_
      refine gk_iconst C dL_law_252 ?_
      refine gk_iconst C dL_law_253 ?_
      refine gk_callSH C o_L_act k_L_100 dL_law_254 (act_e hfl H801 (w := 2) (a := its) (b := (z % (2))) (c := (0)) (d := (0)) (r := (-7000003)) rfl (by omega) (by omega) (by omega) (by omega) (by omega) hclJ e) rfl rfl ⟨Nat.le_of_ble_eq_true rfl, Nat.le_of_ble_eq_true rfl⟩ ⟨by show _ + 9 ≤ 600104; omega, by show _ + 418 ≤ 7301314; omega⟩ (by exact Nat.le_of_ble_eq_true rfl) (fun v802 h802 p802 => ?_)
      obtain ⟨rfl, H802⟩ := p802
      dsimp only [gk_push]
      refine gk_istore_14 C rfl (by exact Nat.le_of_ble_eq_true rfl) dL_law_257 ?_
      refine gk_iload C dL_law_259 rfl ?_
      refine gk_ldc C cn_L_91 dL_law_261 ?_
      refine gk_icmp_eq C (tgt := 299) (by omega) (by omega) dL_law_263 (by decide) (fun c_263 => ?_) (fun c_263 => ?_)
      rotate_left
      · exact absurd c_263 (by omega)
      refine gk_goto C (tgt := 1015) dL_law_299 (by decide) ?_
      exact back σ2 _ _ _ _ _ _ _ _ _ _ _ H802 (ct_T f2 hct (by omega)) (by rw [f2]; exact Nat.le_succ _) (by omega) (by omega)
  have q1 := f_tq wf hi
  rcases f_note wf (a := z % 9) (b := 1 + y % 8) (g := y / 7 % 9) hi ⟨by omega, by omega, by omega⟩ with ⟨r, σ2, e, hr, ho, f1, f2⟩ | e
  · have hi2 : 0 ≤ its ∧ its < ((σ2.1.1 : Nat) : Int) := by omega
    refine gk_iload C dL_law_140 rfl ?_
    refine gk_iload_n C dL_law_142 rfl ?_
    refine gk_irem C (by omega) (by omega) dL_law_143 ?_
    rw [← eits]
    refine gk_istore_10 C rfl (by exact Nat.le_of_ble_eq_true rfl) dL_law_144 ?_
    refine gk_aload_n C dL_law_146 rfl ?_
    refine gk_iload C dL_law_147 rfl ?_
    refine gk_bipush C dL_law_149 (by decide) ?_
    obtain ⟨fs901, ob901⟩ := H.obj
    refine gk_callV C o_X4_ofTune k_L_25 dL_law_151 (HC.dir (r := (vOp σ its)) (σ2 := σ) (h_ofTune hfl H (t := its) (w := (6)) (by omega) (by omega)) (f_of6 hi) (by omega)) ob901 rfl rfl rfl ⟨Nat.le_of_ble_eq_true rfl, Nat.le_of_ble_eq_true rfl⟩ ⟨by show _ + 2 ≤ 600104; omega, by show _ + 12 ≤ 7301314; omega⟩ (by exact Nat.le_of_ble_eq_true rfl) (fun _ _ z => z.elim) (fun v901 h901 p901 => ?_)
    obtain ⟨rfl, H901⟩ := p901
    dsimp only [gk_push]
    clear ob901
    refine gk_istore_11 C rfl (by exact Nat.le_of_ble_eq_true rfl) dL_law_154 ?_
    refine gk_aload_n C dL_law_156 rfl ?_
    refine gk_iconst C dL_law_157 ?_
    refine gk_iload C dL_law_158 rfl ?_
    refine gk_iload C dL_law_160 rfl ?_
    refine gk_bipush C dL_law_162 (by decide) ?_
    refine gk_irem C (by omega) (by omega) dL_law_164 ?_
    refine gk_iconst C dL_law_165 ?_
    refine gk_iload C dL_law_166 rfl ?_
    refine gk_bipush C dL_law_168 (by decide) ?_
    refine gk_irem C (by omega) (by omega) dL_law_170 ?_
    refine gk_iadd C dL_law_171 ?_
    refine gk_iload C dL_law_172 rfl ?_
    refine gk_bipush C dL_law_174 (by decide) ?_
    refine gk_idiv C (by omega) (by omega) dL_law_176 ?_
    refine gk_bipush C dL_law_177 (by decide) ?_
    refine gk_irem C (by omega) (by omega) dL_law_179 ?_
    refine gk_callSH C o_L_act k_L_100 dL_law_180 (act_e hfl H901 (w := 1) (a := its) (b := (z % (9))) (c := ((1) + (y % (8)))) (d := ((y / (7)) % (9))) (r := r) rfl (by omega) (by omega) (by omega) (by omega) (by omega) hcl2 e) rfl rfl ⟨Nat.le_of_ble_eq_true rfl, Nat.le_of_ble_eq_true rfl⟩ ⟨by show _ + 9 ≤ 600104; omega, by show _ + 418 ≤ 7301314; omega⟩ (by exact Nat.le_of_ble_eq_true rfl) (fun v902 h902 p902 => ?_)
    obtain ⟨rfl, H902⟩ := p902
    dsimp only [gk_push]
    refine gk_istore_12 C rfl (by exact Nat.le_of_ble_eq_true rfl) dL_law_183 ?_
    refine gk_iload C dL_law_185 rfl ?_
    refine gk_ldc C cn_L_91 dL_law_187 ?_
    refine gk_icmp_eq C (tgt := 213) (by omega) (by omega) dL_law_189 (by decide) (fun c_189 => ?_) (fun c_189 => ?_)
    · exact absurd c_189 (by omega)
    refine gk_iload C dL_law_192 rfl ?_
    refine gk_iconst C dL_law_194 ?_
    refine gk_icmp_lt C (tgt := 233) (by omega) (by omega) dL_law_195 (by decide) (fun c_195 => ?_) (fun c_195 => ?_)
    · exact absurd c_195 (by omega)
    refine gk_aload_n C dL_law_198 rfl ?_
    refine gk_iload C dL_law_199 rfl ?_
    refine gk_bipush C dL_law_201 (by decide) ?_
    obtain ⟨fs903, ob903⟩ := H902.obj
    refine gk_callV C o_X4_ofTune k_L_25 dL_law_203 (HC.dir (r := (vOp σ2 its)) (σ2 := σ2) (h_ofTune hfl H902 (t := its) (w := (6)) (by omega) (by omega)) (f_of6 hi2) (by omega)) ob903 rfl rfl rfl ⟨Nat.le_of_ble_eq_true rfl, Nat.le_of_ble_eq_true rfl⟩ ⟨by show _ + 2 ≤ 600104; omega, by show _ + 12 ≤ 7301314; omega⟩ (by exact Nat.le_of_ble_eq_true rfl) (fun _ _ z => z.elim) (fun v903 h903 p903 => ?_)
    obtain ⟨rfl, H903⟩ := p903
    dsimp only [gk_push]
    clear ob903
    refine gk_iload C dL_law_206 rfl ?_
    refine gk_iconst C dL_law_208 ?_
    refine gk_iadd C dL_law_209 ?_
    refine gk_icmp_ne C (tgt := 233) (by omega) (by omega) dL_law_210 (by decide) (fun c_210 => ?_) (fun c_210 => ?_)
    · exact absurd c_210 (by omega)
    refine gk_iload C dL_law_213 rfl ?_
    refine gk_ldc C cn_L_91 dL_law_215 ?_
    refine gk_icmp_ne C (tgt := 235) (by omega) (by omega) dL_law_217 (by decide) (fun c_217 => ?_) (fun c_217 => ?_)
    rotate_left
    · exact absurd c_217 (by omega)
    exact J σ2 _ _ _ _ _ H903 f1 f2 (by omega) (by omega)
  · skip
    refine gk_iload C dL_law_140 rfl ?_
    refine gk_iload_n C dL_law_142 rfl ?_
    refine gk_irem C (by omega) (by omega) dL_law_143 ?_
    rw [← eits]
    refine gk_istore_10 C rfl (by exact Nat.le_of_ble_eq_true rfl) dL_law_144 ?_
    refine gk_aload_n C dL_law_146 rfl ?_
    refine gk_iload C dL_law_147 rfl ?_
    refine gk_bipush C dL_law_149 (by decide) ?_
    obtain ⟨fs1001, ob1001⟩ := H.obj
    refine gk_callV C o_X4_ofTune k_L_25 dL_law_151 (HC.dir (r := (vOp σ its)) (σ2 := σ) (h_ofTune hfl H (t := its) (w := (6)) (by omega) (by omega)) (f_of6 hi) (by omega)) ob1001 rfl rfl rfl ⟨Nat.le_of_ble_eq_true rfl, Nat.le_of_ble_eq_true rfl⟩ ⟨by show _ + 2 ≤ 600104; omega, by show _ + 12 ≤ 7301314; omega⟩ (by exact Nat.le_of_ble_eq_true rfl) (fun _ _ z => z.elim) (fun v1001 h1001 p1001 => ?_)
    obtain ⟨rfl, H1001⟩ := p1001
    dsimp only [gk_push]
    clear ob1001
    refine gk_istore_11 C rfl (by exact Nat.le_of_ble_eq_true rfl) dL_law_154 ?_
    refine gk_aload_n C dL_law_156 rfl ?_
    refine gk_iconst C dL_law_157 ?_
    refine gk_iload C dL_law_158 rfl ?_
    refine gk_iload C dL_law_160 rfl ?_
    refine gk_bipush C dL_law_162 (by decide) ?_
    refine gk_irem C (by omega) (by omega) dL_law_164 ?_
    refine gk_iconst C dL_law_165 ?_
    refine gk_iload C dL_law_166 rfl ?_
    refine gk_bipush C dL_law_168 (by decide) ?_
    refine gk_irem C (by omega) (by omega) dL_law_170 ?_
    refine gk_iadd C dL_law_171 ?_
    refine gk_iload C dL_law_172 rfl ?_
    refine gk_bipush C dL_law_174 (by decide) ?_
    refine gk_idiv C (by omega) (by omega) dL_law_176 ?_
    refine gk_bipush C dL_law_177 (by decide) ?_
    refine gk_irem C (by omega) (by omega) dL_law_179 ?_
    refine gk_callSH C o_L_act k_L_100 dL_law_180 (act_e hfl H1001 (w := 1) (a := its) (b := (z % (9))) (c := ((1) + (y % (8)))) (d := ((y / (7)) % (9))) (r := (-7000003)) rfl (by omega) (by omega) (by omega) (by omega) (by omega) hcl2 e) rfl rfl ⟨Nat.le_of_ble_eq_true rfl, Nat.le_of_ble_eq_true rfl⟩ ⟨by show _ + 9 ≤ 600104; omega, by show _ + 418 ≤ 7301314; omega⟩ (by exact Nat.le_of_ble_eq_true rfl) (fun v1002 h1002 p1002 => ?_)
    obtain ⟨rfl, H1002⟩ := p1002
    dsimp only [gk_push]
    refine gk_istore_12 C rfl (by exact Nat.le_of_ble_eq_true rfl) dL_law_183 ?_
    refine gk_iload C dL_law_185 rfl ?_
    refine gk_ldc C cn_L_91 dL_law_187 ?_
    refine gk_icmp_eq C (tgt := 213) (by omega) (by omega) dL_law_189 (by decide) (fun c_189 => ?_) (fun c_189 => ?_)
    rotate_left
    · exact absurd c_189 (by omega)
    refine gk_iload C dL_law_213 rfl ?_
    refine gk_ldc C cn_L_91 dL_law_215 ?_
    refine gk_icmp_ne C (tgt := 235) (by omega) (by omega) dL_law_217 (by decide) (fun c_217 => ?_) (fun c_217 => ?_)
    · exact absurd c_217 (by omega)
    refine gk_aload_n C dL_law_220 rfl ?_
    refine gk_iload C dL_law_221 rfl ?_
    refine gk_bipush C dL_law_223 (by decide) ?_
    obtain ⟨fs1003, ob1003⟩ := H1002.obj
    refine gk_callV C o_X4_ofTune k_L_25 dL_law_225 (HC.dir (r := (vOp σ its)) (σ2 := σ) (h_ofTune hfl H1002 (t := its) (w := (6)) (by omega) (by omega)) (f_of6 hi) (by omega)) ob1003 rfl rfl rfl ⟨Nat.le_of_ble_eq_true rfl, Nat.le_of_ble_eq_true rfl⟩ ⟨by show _ + 2 ≤ 600104; omega, by show _ + 12 ≤ 7301314; omega⟩ (by exact Nat.le_of_ble_eq_true rfl) (fun _ _ z => z.elim) (fun v1003 h1003 p1003 => ?_)
    obtain ⟨rfl, H1003⟩ := p1003
    dsimp only [gk_push]
    clear ob1003
    refine gk_iload C dL_law_228 rfl ?_
    refine gk_icmp_eq C (tgt := 235) (by omega) (by omega) dL_law_230 (by decide) (fun c_230 => ?_) (fun c_230 => ?_)
    rotate_left
    · exact absurd c_230 (by omega)
    exact J σ _ _ _ _ _ H1003 rfl rfl (by omega) (by omega)

set_option maxRecDepth 100000 in
set_option maxHeartbeats 8000000 in
theorem lw_alike {l : Launch} {Γ : GA} {nm : String} {G : GP} {X : String → Hp → Nat → Nat → Prop} {x sb : Nat} {σ : ST} {h : Hp} {k n : Nat} {t p b kk xx w y z : Int} {u10 u11 u12 u13 u14 : Option Value} (C : Cx l Γ (m_law nm) G X) (hfl : l.stackTraces = false) (H : HD Γ x σ h) (hct : cts σ t p b) (hcl : σ.2.2.2.2 ≤ 9000) (hy : 0 ≤ y ∧ y ≤ 2000000) (hz : 0 ≤ z ∧ z ≤ 2000000) (hk : k + 3000 ≤ 600104) (hn : n + 90000 ≤ 7301314) (h0 : 0 < t)
    (back : ∀ (σ2 : ST) (h2 : Hp) (k2 n2 : Nat) (t2 p2 b2 : Int) (v10 v11 v12 v13 v14 : Option Value), HD Γ x σ2 h2 → cts σ2 t2 p2 b2 → σ2.2.2.2.2 ≤ σ.2.2.2.2 + 1 → k2 ≤ k + 400 → n2 ≤ n + 15000 → G 1015 [some (.ref sb), some (.ref x), some (iv t2), some (iv p2), some (iv b2), some (iv kk), some (iv xx), some (iv w), some (iv y), some (iv z), v10, v11, v12, v13, v14] [] h2 k2 n2) : G 308 [some (.ref sb), some (.ref x), some (iv t), some (iv p), some (iv b), some (iv kk), some (iv xx), some (iv w), some (iv y), some (iv z), u10, u11, u12, u13, u14] [] h k n := by
  have wf := H.wf
  obtain ⟨ht, hp, hb, hop⟩ := id hct
  have hcl2 : σ.2.2.2.2 ≤ 10000 := by omega
  have ht1 : t ≤ 10 := by have := wf.1.1; omega
  have hp1 : p ≤ 8 := by have := wf.2.2.1.1; omega
  have hb1 : b ≤ 8 := by have h8 : nB σ ≤ 8 := wf.2.2.2.1; omega
  obtain ⟨one, eone, hone0, hone1⟩ : ∃ q : Int, q = y % t ∧ 0 ≤ q ∧ q < t := ⟨_, rfl, Int.emod_nonneg _ (by omega), Int.emod_lt_of_pos _ (by omega)⟩
  obtain ⟨two, etwo, htwo0, htwo1⟩ : ∃ q : Int, q = z % t ∧ 0 ≤ q ∧ q < t := ⟨_, rfl, Int.emod_nonneg _ (by omega), Int.emod_lt_of_pos _ (by omega)⟩
  have hi : 0 ≤ one ∧ one < ((σ.1.1 : Nat) : Int) := by omega
  have hj : 0 ≤ two ∧ two < ((σ.1.1 : Nat) : Int) := by omega
  obtain ⟨m, a1, a2, a3⟩ := f_alike hi hj
  have q1 := f_tq wf hi
  rcases f_follow wf (tp := 30 + z % 571) hi (by omega) with ⟨r, σ2, e, hr, ⟨σ3, ed, d1, d2⟩, c1, c2⟩ | e
  · skip
    refine gk_iload C dL_law_308 rfl ?_
    refine gk_iload_n C dL_law_310 rfl ?_
    refine gk_irem C (by omega) (by omega) dL_law_311 ?_
    rw [← eone]
    refine gk_istore_10 C rfl (by exact Nat.le_of_ble_eq_true rfl) dL_law_312 ?_
    refine gk_iload C dL_law_314 rfl ?_
    refine gk_iload_n C dL_law_316 rfl ?_
    refine gk_irem C (by omega) (by omega) dL_law_317 ?_
    rw [← etwo]
    refine gk_istore_11 C rfl (by exact Nat.le_of_ble_eq_true rfl) dL_law_318 ?_
    refine gk_aload_n C dL_law_320 rfl ?_
    refine gk_iload C dL_law_321 rfl ?_
    refine gk_iload C dL_law_323 rfl ?_
    obtain ⟨fs1101, ob1101⟩ := H.obj
    refine gk_callV C o_X4_alike k_L_29 dL_law_325 (HC.dir (r := (m : Int)) (σ2 := σ) (h_alike hfl H (t := one) (u := two) (by omega) (by omega)) a1 (by omega)) ob1101 rfl rfl rfl ⟨Nat.le_of_ble_eq_true rfl, Nat.le_of_ble_eq_true rfl⟩ ⟨by show _ + 2 ≤ 600104; omega, by show _ + 12 ≤ 7301314; omega⟩ (by exact Nat.le_of_ble_eq_true rfl) (fun _ _ z => z.elim) (fun v1101 h1101 p1101 => ?_)
    obtain ⟨rfl, H1101⟩ := p1101
    dsimp only [gk_push]
    clear ob1101
    refine gk_istore_12 C rfl (by exact Nat.le_of_ble_eq_true rfl) dL_law_328 ?_
    refine gk_iload C dL_law_330 rfl ?_
    refine gk_aload_n C dL_law_332 rfl ?_
    refine gk_iload C dL_law_333 rfl ?_
    refine gk_iload C dL_law_335 rfl ?_
    obtain ⟨fs1102, ob1102⟩ := H1101.obj
    refine gk_callV C o_X4_alikeAnew k_L_32 dL_law_337 (HC.dir (r := (m : Int)) (σ2 := σ) (h_alikeAnew hfl H1101 (t := two) (u := one) (by omega) (by omega)) a2 (by omega)) ob1102 rfl rfl rfl ⟨Nat.le_of_ble_eq_true rfl, Nat.le_of_ble_eq_true rfl⟩ ⟨by show _ + 2 ≤ 600104; omega, by show _ + 12 ≤ 7301314; omega⟩ (by exact Nat.le_of_ble_eq_true rfl) (fun _ _ z => z.elim) (fun v1102 h1102 p1102 => ?_)
    obtain ⟨rfl, H1102⟩ := p1102
    dsimp only [gk_push]
    clear ob1102
    refine gk_icmp_ne C (tgt := 373) (by omega) (by omega) dL_law_340 (by decide) (fun c_340 => ?_) (fun c_340 => ?_)
    · exact absurd c_340 (by omega)
    refine gk_iload C dL_law_343 rfl ?_
    refine gk_aload_n C dL_law_345 rfl ?_
    refine gk_iload C dL_law_346 rfl ?_
    refine gk_iconst C dL_law_348 ?_
    obtain ⟨fs1103, ob1103⟩ := H1102.obj
    refine gk_callV C o_X4_ofTune k_L_25 dL_law_349 (HC.dir (r := (vPl σ one)) (σ2 := σ) (h_ofTune hfl H1102 (t := one) (w := (1)) (by omega) (by omega)) (f_of1 hi) (by omega)) ob1103 rfl rfl rfl ⟨Nat.le_of_ble_eq_true rfl, Nat.le_of_ble_eq_true rfl⟩ ⟨by show _ + 2 ≤ 600104; omega, by show _ + 12 ≤ 7301314; omega⟩ (by exact Nat.le_of_ble_eq_true rfl) (fun _ _ z => z.elim) (fun v1103 h1103 p1103 => ?_)
    obtain ⟨rfl, H1103⟩ := p1103
    dsimp only [gk_push]
    clear ob1103
    refine gk_icmp_gt C (tgt := 373) (by omega) (by omega) dL_law_352 (by decide) (fun c_352 => ?_) (fun c_352 => ?_)
    · exact absurd c_352 (by omega)
    refine gk_aload_n C dL_law_355 rfl ?_
    refine gk_iload C dL_law_356 rfl ?_
    refine gk_iload C dL_law_358 rfl ?_
    obtain ⟨fs1104, ob1104⟩ := H1103.obj
    refine gk_callV C o_X4_alike k_L_29 dL_law_360 (HC.dir (r := (vPl σ one)) (σ2 := σ) (h_alike hfl H1103 (t := one) (u := one) (by omega) (by omega)) (f_self hi) (by omega)) ob1104 rfl rfl rfl ⟨Nat.le_of_ble_eq_true rfl, Nat.le_of_ble_eq_true rfl⟩ ⟨by show _ + 2 ≤ 600104; omega, by show _ + 12 ≤ 7301314; omega⟩ (by exact Nat.le_of_ble_eq_true rfl) (fun _ _ z => z.elim) (fun v1104 h1104 p1104 => ?_)
    obtain ⟨rfl, H1104⟩ := p1104
    dsimp only [gk_push]
    clear ob1104
    refine gk_aload_n C dL_law_363 rfl ?_
    refine gk_iload C dL_law_364 rfl ?_
    refine gk_iconst C dL_law_366 ?_
    obtain ⟨fs1105, ob1105⟩ := H1104.obj
    refine gk_callV C o_X4_ofTune k_L_25 dL_law_367 (HC.dir (r := (vPl σ one)) (σ2 := σ) (h_ofTune hfl H1104 (t := one) (w := (1)) (by omega) (by omega)) (f_of1 hi) (by omega)) ob1105 rfl rfl rfl ⟨Nat.le_of_ble_eq_true rfl, Nat.le_of_ble_eq_true rfl⟩ ⟨by show _ + 2 ≤ 600104; omega, by show _ + 12 ≤ 7301314; omega⟩ (by exact Nat.le_of_ble_eq_true rfl) (fun _ _ z => z.elim) (fun v1105 h1105 p1105 => ?_)
    obtain ⟨rfl, H1105⟩ := p1105
    dsimp only [gk_push]
    clear ob1105
    refine gk_icmp_eq C (tgt := 375) (by omega) (by omega) dL_law_370 (by decide) (fun c_370 => ?_) (fun c_370 => ?_)
    rotate_left
    · exact absurd c_370 (by omega)
    refine gk_aload_n C dL_law_375 rfl ?_
    refine gk_bipush C dL_law_376 (by decide) ?_
    refine gk_iload C dL_law_378 rfl ?_
    refine gk_bipush C dL_law_380 (by decide) ?_
    refine gk_iload C dL_law_382 rfl ?_
    refine gk_sipush C dL_law_384 (by decide) ?_
    refine gk_irem C (by omega) (by omega) dL_law_387 ?_
    refine gk_iadd C dL_law_388 ?_
    refine gk_iconst C dL_law_389 ?_
    refine gk_iconst C dL_law_390 ?_
    refine gk_callSH C o_L_act k_L_100 dL_law_391 (act_e hfl H1105 (w := 7) (a := one) (b := ((30) + (z % (571)))) (c := (0)) (d := (0)) (r := r) rfl (by omega) (by omega) (by omega) (by omega) (by omega) hcl2 e) rfl rfl ⟨Nat.le_of_ble_eq_true rfl, Nat.le_of_ble_eq_true rfl⟩ ⟨by show _ + 9 ≤ 600104; omega, by show _ + 418 ≤ 7301314; omega⟩ (by exact Nat.le_of_ble_eq_true rfl) (fun v1106 h1106 p1106 => ?_)
    obtain ⟨rfl, H1106⟩ := p1106
    dsimp only [gk_push]
    refine gk_istore_13 C rfl (by exact Nat.le_of_ble_eq_true rfl) dL_law_394 ?_
    refine gk_iload C dL_law_396 rfl ?_
    refine gk_ldc C cn_L_85 dL_law_398 ?_
    refine gk_icmp_eq C (tgt := 435) (by omega) (by omega) dL_law_400 (by decide) (fun c_400 => ?_) (fun c_400 => ?_)
    · exact absurd c_400 (by omega)
    refine gk_iload C dL_law_403 rfl ?_
    refine gk_ldc C cn_L_88 dL_law_405 ?_
    refine gk_icmp_eq C (tgt := 435) (by omega) (by omega) dL_law_407 (by decide) (fun c_407 => ?_) (fun c_407 => ?_)
    · exact absurd c_407 (by omega)
    refine gk_aload_n C dL_law_410 rfl ?_
    obtain ⟨fs1107, ob1107⟩ := H1106.obj
    have tb := sTime_bd H1106.wf
    refine gk_callV C o_X4_time k_L_96 dL_law_411 (h_time hfl H1106) ob1107 rfl rfl rfl ⟨Nat.le_of_ble_eq_true rfl, Nat.le_of_ble_eq_true rfl⟩ ⟨by show _ + 0 ≤ 600104; omega, by show _ + 0 ≤ 7301314; omega⟩ (by exact Nat.le_of_ble_eq_true rfl) (fun _ _ z => z.elim) (fun v1107 h1107 p1107 => ?_)
    obtain ⟨rfl, H1107⟩ := p1107
    dsimp only [gk_push]
    clear ob1107
    refine gk_lconst C (z := 0) dL_law_414 (by decide) ?_
    refine gk_lcmp C (by omega) (by omega) dL_law_415 (fun z1108 z1108a z1108b z1108c => ?_)
    refine gk_if_lt C (tgt := 435) (by omega) dL_law_416 (by decide) (fun c_416 => ?_) (fun c_416 => ?_)
    · exact absurd c_416 (by omega)
    refine gk_iload C dL_law_419 rfl ?_
    refine gk_bipush C dL_law_421 (by decide) ?_
    refine gk_icmp_ne C (tgt := 437) (by omega) (by omega) dL_law_423 (by decide) (fun c_423 => ?_) (fun c_423 => ?_)
    · refine gk_goto C (tgt := 1015) dL_law_437 (by decide) ?_
      exact back σ2 _ _ _ _ _ _ _ _ _ _ _ H1107 (ct_S c1 c2 hct) (by rw [c2]; exact Nat.le_succ _) (by omega) (by omega)
    · refine gk_aload_n C dL_law_426 rfl ?_
      obtain ⟨fs1109, ob1109⟩ := H1107.obj
      refine gk_callV C o_X4_drop k_L_38 dL_law_427 (HC.dir (r := one) (σ2 := σ3) (h_drop hfl H1107  ) ed (by omega)) ob1109 rfl rfl rfl ⟨Nat.le_of_ble_eq_true rfl, Nat.le_of_ble_eq_true rfl⟩ ⟨by show _ + 1 ≤ 600104; omega, by show _ + 6 ≤ 7301314; omega⟩ (by exact Nat.le_of_ble_eq_true rfl) (fun _ _ z => z.elim) (fun v1109 h1109 p1109 => ?_)
      obtain ⟨rfl, H1109⟩ := p1109
      dsimp only [gk_push]
      clear ob1109
      refine gk_iload C dL_law_430 rfl ?_
      refine gk_icmp_eq C (tgt := 437) (by omega) (by omega) dL_law_432 (by decide) (fun c_432 => ?_) (fun c_432 => ?_)
      rotate_left
      · exact absurd c_432 (by omega)
      refine gk_goto C (tgt := 1015) dL_law_437 (by decide) ?_
      exact back σ3 _ _ _ _ _ _ _ _ _ _ _ H1109 (ct_S d1 d2 hct) (by rw [d2]; exact Nat.le_succ _) (by omega) (by omega)
  · skip
    refine gk_iload C dL_law_308 rfl ?_
    refine gk_iload_n C dL_law_310 rfl ?_
    refine gk_irem C (by omega) (by omega) dL_law_311 ?_
    rw [← eone]
    refine gk_istore_10 C rfl (by exact Nat.le_of_ble_eq_true rfl) dL_law_312 ?_
    refine gk_iload C dL_law_314 rfl ?_
    refine gk_iload_n C dL_law_316 rfl ?_
    refine gk_irem C (by omega) (by omega) dL_law_317 ?_
    rw [← etwo]
    refine gk_istore_11 C rfl (by exact Nat.le_of_ble_eq_true rfl) dL_law_318 ?_
    refine gk_aload_n C dL_law_320 rfl ?_
    refine gk_iload C dL_law_321 rfl ?_
    refine gk_iload C dL_law_323 rfl ?_
    obtain ⟨fs1201, ob1201⟩ := H.obj
    refine gk_callV C o_X4_alike k_L_29 dL_law_325 (HC.dir (r := (m : Int)) (σ2 := σ) (h_alike hfl H (t := one) (u := two) (by omega) (by omega)) a1 (by omega)) ob1201 rfl rfl rfl ⟨Nat.le_of_ble_eq_true rfl, Nat.le_of_ble_eq_true rfl⟩ ⟨by show _ + 2 ≤ 600104; omega, by show _ + 12 ≤ 7301314; omega⟩ (by exact Nat.le_of_ble_eq_true rfl) (fun _ _ z => z.elim) (fun v1201 h1201 p1201 => ?_)
    obtain ⟨rfl, H1201⟩ := p1201
    dsimp only [gk_push]
    clear ob1201
    refine gk_istore_12 C rfl (by exact Nat.le_of_ble_eq_true rfl) dL_law_328 ?_
    refine gk_iload C dL_law_330 rfl ?_
    refine gk_aload_n C dL_law_332 rfl ?_
    refine gk_iload C dL_law_333 rfl ?_
    refine gk_iload C dL_law_335 rfl ?_
    obtain ⟨fs1202, ob1202⟩ := H1201.obj
    refine gk_callV C o_X4_alikeAnew k_L_32 dL_law_337 (HC.dir (r := (m : Int)) (σ2 := σ) (h_alikeAnew hfl H1201 (t := two) (u := one) (by omega) (by omega)) a2 (by omega)) ob1202 rfl rfl rfl ⟨Nat.le_of_ble_eq_true rfl, Nat.le_of_ble_eq_true rfl⟩ ⟨by show _ + 2 ≤ 600104; omega, by show _ + 12 ≤ 7301314; omega⟩ (by exact Nat.le_of_ble_eq_true rfl) (fun _ _ z => z.elim) (fun v1202 h1202 p1202 => ?_)
    obtain ⟨rfl, H1202⟩ := p1202
    dsimp only [gk_push]
    clear ob1202
    refine gk_icmp_ne C (tgt := 373) (by omega) (by omega) dL_law_340 (by decide) (fun c_340 => ?_) (fun c_340 => ?_)
    · exact absurd c_340 (by omega)
    refine gk_iload C dL_law_343 rfl ?_
    refine gk_aload_n C dL_law_345 rfl ?_
    refine gk_iload C dL_law_346 rfl ?_
    refine gk_iconst C dL_law_348 ?_
    obtain ⟨fs1203, ob1203⟩ := H1202.obj
    refine gk_callV C o_X4_ofTune k_L_25 dL_law_349 (HC.dir (r := (vPl σ one)) (σ2 := σ) (h_ofTune hfl H1202 (t := one) (w := (1)) (by omega) (by omega)) (f_of1 hi) (by omega)) ob1203 rfl rfl rfl ⟨Nat.le_of_ble_eq_true rfl, Nat.le_of_ble_eq_true rfl⟩ ⟨by show _ + 2 ≤ 600104; omega, by show _ + 12 ≤ 7301314; omega⟩ (by exact Nat.le_of_ble_eq_true rfl) (fun _ _ z => z.elim) (fun v1203 h1203 p1203 => ?_)
    obtain ⟨rfl, H1203⟩ := p1203
    dsimp only [gk_push]
    clear ob1203
    refine gk_icmp_gt C (tgt := 373) (by omega) (by omega) dL_law_352 (by decide) (fun c_352 => ?_) (fun c_352 => ?_)
    · exact absurd c_352 (by omega)
    refine gk_aload_n C dL_law_355 rfl ?_
    refine gk_iload C dL_law_356 rfl ?_
    refine gk_iload C dL_law_358 rfl ?_
    obtain ⟨fs1204, ob1204⟩ := H1203.obj
    refine gk_callV C o_X4_alike k_L_29 dL_law_360 (HC.dir (r := (vPl σ one)) (σ2 := σ) (h_alike hfl H1203 (t := one) (u := one) (by omega) (by omega)) (f_self hi) (by omega)) ob1204 rfl rfl rfl ⟨Nat.le_of_ble_eq_true rfl, Nat.le_of_ble_eq_true rfl⟩ ⟨by show _ + 2 ≤ 600104; omega, by show _ + 12 ≤ 7301314; omega⟩ (by exact Nat.le_of_ble_eq_true rfl) (fun _ _ z => z.elim) (fun v1204 h1204 p1204 => ?_)
    obtain ⟨rfl, H1204⟩ := p1204
    dsimp only [gk_push]
    clear ob1204
    refine gk_aload_n C dL_law_363 rfl ?_
    refine gk_iload C dL_law_364 rfl ?_
    refine gk_iconst C dL_law_366 ?_
    obtain ⟨fs1205, ob1205⟩ := H1204.obj
    refine gk_callV C o_X4_ofTune k_L_25 dL_law_367 (HC.dir (r := (vPl σ one)) (σ2 := σ) (h_ofTune hfl H1204 (t := one) (w := (1)) (by omega) (by omega)) (f_of1 hi) (by omega)) ob1205 rfl rfl rfl ⟨Nat.le_of_ble_eq_true rfl, Nat.le_of_ble_eq_true rfl⟩ ⟨by show _ + 2 ≤ 600104; omega, by show _ + 12 ≤ 7301314; omega⟩ (by exact Nat.le_of_ble_eq_true rfl) (fun _ _ z => z.elim) (fun v1205 h1205 p1205 => ?_)
    obtain ⟨rfl, H1205⟩ := p1205
    dsimp only [gk_push]
    clear ob1205
    refine gk_icmp_eq C (tgt := 375) (by omega) (by omega) dL_law_370 (by decide) (fun c_370 => ?_) (fun c_370 => ?_)
    rotate_left
    · exact absurd c_370 (by omega)
    refine gk_aload_n C dL_law_375 rfl ?_
    refine gk_bipush C dL_law_376 (by decide) ?_
    refine gk_iload C dL_law_378 rfl ?_
    refine gk_bipush C dL_law_380 (by decide) ?_
    refine gk_iload C dL_law_382 rfl ?_
    refine gk_sipush C dL_law_384 (by decide) ?_
    refine gk_irem C (by omega) (by omega) dL_law_387 ?_
    refine gk_iadd C dL_law_388 ?_
    refine gk_iconst C dL_law_389 ?_
    refine gk_iconst C dL_law_390 ?_
    refine gk_callSH C o_L_act k_L_100 dL_law_391 (act_e hfl H1205 (w := 7) (a := one) (b := ((30) + (z % (571)))) (c := (0)) (d := (0)) (r := (-7000003)) rfl (by omega) (by omega) (by omega) (by omega) (by omega) hcl2 e) rfl rfl ⟨Nat.le_of_ble_eq_true rfl, Nat.le_of_ble_eq_true rfl⟩ ⟨by show _ + 9 ≤ 600104; omega, by show _ + 418 ≤ 7301314; omega⟩ (by exact Nat.le_of_ble_eq_true rfl) (fun v1206 h1206 p1206 => ?_)
    obtain ⟨rfl, H1206⟩ := p1206
    dsimp only [gk_push]
    refine gk_istore_13 C rfl (by exact Nat.le_of_ble_eq_true rfl) dL_law_394 ?_
    refine gk_iload C dL_law_396 rfl ?_
    refine gk_ldc C cn_L_85 dL_law_398 ?_
    refine gk_icmp_eq C (tgt := 435) (by omega) (by omega) dL_law_400 (by decide) (fun c_400 => ?_) (fun c_400 => ?_)
    · exact absurd c_400 (by omega)
    refine gk_iload C dL_law_403 rfl ?_
    refine gk_ldc C cn_L_88 dL_law_405 ?_
    refine gk_icmp_eq C (tgt := 435) (by omega) (by omega) dL_law_407 (by decide) (fun c_407 => ?_) (fun c_407 => ?_)
    · exact absurd c_407 (by omega)
    refine gk_aload_n C dL_law_410 rfl ?_
    obtain ⟨fs1207, ob1207⟩ := H1206.obj
    have tb := sTime_bd H1206.wf
    refine gk_callV C o_X4_time k_L_96 dL_law_411 (h_time hfl H1206) ob1207 rfl rfl rfl ⟨Nat.le_of_ble_eq_true rfl, Nat.le_of_ble_eq_true rfl⟩ ⟨by show _ + 0 ≤ 600104; omega, by show _ + 0 ≤ 7301314; omega⟩ (by exact Nat.le_of_ble_eq_true rfl) (fun _ _ z => z.elim) (fun v1207 h1207 p1207 => ?_)
    obtain ⟨rfl, H1207⟩ := p1207
    dsimp only [gk_push]
    clear ob1207
    refine gk_lconst C (z := 0) dL_law_414 (by decide) ?_
    refine gk_lcmp C (by omega) (by omega) dL_law_415 (fun z1208 z1208a z1208b z1208c => ?_)
    refine gk_if_lt C (tgt := 435) (by omega) dL_law_416 (by decide) (fun c_416 => ?_) (fun c_416 => ?_)
    · exact absurd c_416 (by omega)
    refine gk_iload C dL_law_419 rfl ?_
    refine gk_bipush C dL_law_421 (by decide) ?_
    refine gk_icmp_ne C (tgt := 437) (by omega) (by omega) dL_law_423 (by decide) (fun c_423 => ?_) (fun c_423 => ?_)
    rotate_left
    · exact absurd c_423 (by omega)
    refine gk_goto C (tgt := 1015) dL_law_437 (by decide) ?_
    exact back σ _ _ _ _ _ _ _ _ _ _ _ H1207 hct (Nat.le_succ _) (by omega) (by omega)

set_option maxRecDepth 100000 in
set_option maxHeartbeats 8000000 in
theorem lw_minutes {l : Launch} {Γ : GA} {nm : String} {G : GP} {X : String → Hp → Nat → Nat → Prop} {x sb : Nat} {σ : ST} {h : Hp} {k n : Nat} {t p b kk xx w y z : Int} {u10 u11 u12 u13 u14 : Option Value} (C : Cx l Γ (m_law nm) G X) (hfl : l.stackTraces = false) (H : HD Γ x σ h) (hct : cts σ t p b) (hcl : σ.2.2.2.2 ≤ 9000) (hy : 0 ≤ y ∧ y ≤ 2000000) (hz : 0 ≤ z ∧ z ≤ 2000000) (hk : k + 3000 ≤ 600104) (hn : n + 90000 ≤ 7301314) (h0 : 0 < p)
    (back : ∀ (σ2 : ST) (h2 : Hp) (k2 n2 : Nat) (t2 p2 b2 : Int) (v10 v11 v12 v13 v14 : Option Value), HD Γ x σ2 h2 → cts σ2 t2 p2 b2 → σ2.2.2.2.2 ≤ σ.2.2.2.2 + 1 → k2 ≤ k + 400 → n2 ≤ n + 15000 → G 1015 [some (.ref sb), some (.ref x), some (iv t2), some (iv p2), some (iv b2), some (iv kk), some (iv xx), some (iv w), some (iv y), some (iv z), v10, v11, v12, v13, v14] [] h2 k2 n2) : G 521 [some (.ref sb), some (.ref x), some (iv t), some (iv p), some (iv b), some (iv kk), some (iv xx), some (iv w), some (iv y), some (iv z), u10, u11, u12, u13, u14] [] h k n := by
  have wf := H.wf
  obtain ⟨ht, hp, hb, hop⟩ := id hct
  have hcl2 : σ.2.2.2.2 ≤ 10000 := by omega
  have ht1 : t ≤ 10 := by have := wf.1.1; omega
  have hp1 : p ≤ 8 := by have := wf.2.2.1.1; omega
  have hb1 : b ≤ 8 := by have h8 : nB σ ≤ 8 := wf.2.2.2.1; omega
  obtain ⟨its, eits, hits0, hits1⟩ : ∃ q : Int, q = y % p ∧ 0 ≤ q ∧ q < p := ⟨_, rfl, Int.emod_nonneg _ (by omega), Int.emod_lt_of_pos _ (by omega)⟩
  have hi : 0 ≤ its ∧ its < ((σ.2.2.1.1 : Nat) : Int) := by omega
  obtain ⟨v, σ2, ea, ep, es, c1, c2, c3, c4⟩ := f_min (σ := σ) (m := 1 + z % 30) (r := y % 10) (t := z % 41) ⟨by omega, by omega, by omega⟩
  have wf2 : WF σ2 := by
    have q := wf_play wf (m := 1 + z % 30) (r := y % 10) (t := z % 41)
    rw [ep] at q
    exact q
  have vb := sSpread_bd wf2
  rw [es] at vb
  dsimp only at vb
  have hi2 : 0 ≤ its ∧ its < ((σ2.2.2.1.1 : Nat) : Int) := by omega
  obtain ⟨r4, r1, g4, hr4, g1, hr1⟩ := f_pip wf2 hi2
  have hcl5 : σ2.2.2.2.2 ≤ 10000 := by rw [c4]; exact hcl2
  by_cases c3y : y % 3 = 0
  · obtain ⟨w1, σ3, σ4, σ5, t1, hw1, t2, t3, d1, d2, d3, d4⟩ := f_rest wf2 (b := 1) hi2
    refine gk_iload C dL_law_521 rfl ?_
    refine gk_iload_n C dL_law_523 rfl ?_
    refine gk_irem C (by omega) (by omega) dL_law_524 ?_
    rw [← eits]
    refine gk_istore_10 C rfl (by exact Nat.le_of_ble_eq_true rfl) dL_law_525 ?_
    refine gk_aload_n C dL_law_527 rfl ?_
    refine gk_iconst C dL_law_528 ?_
    refine gk_iload C dL_law_529 rfl ?_
    refine gk_bipush C dL_law_531 (by decide) ?_
    refine gk_irem C (by omega) (by omega) dL_law_533 ?_
    refine gk_iadd C dL_law_534 ?_
    refine gk_iload C dL_law_535 rfl ?_
    refine gk_bipush C dL_law_537 (by decide) ?_
    refine gk_irem C (by omega) (by omega) dL_law_539 ?_
    refine gk_iload C dL_law_540 rfl ?_
    refine gk_bipush C dL_law_542 (by decide) ?_
    refine gk_irem C (by omega) (by omega) dL_law_544 ?_
    obtain ⟨fs1301, ob1301⟩ := H.obj
    refine gk_callV C o_X4_ahead k_L_62 dL_law_545 (HC.dir (r := v) (σ2 := σ) (h_ahead hfl H (m := ((1) + (z % (30)))) (r := (y % (10))) (t := (z % (41))) (by omega) (by omega) (by omega)) ea (by omega)) ob1301 rfl rfl rfl ⟨Nat.le_of_ble_eq_true rfl, Nat.le_of_ble_eq_true rfl⟩ ⟨by show _ + 1 ≤ 600104; omega, by show _ + 6 ≤ 7301314; omega⟩ (by exact Nat.le_of_ble_eq_true rfl) (fun _ _ z => z.elim) (fun v1301 h1301 p1301 => ?_)
    obtain ⟨rfl, H1301⟩ := p1301
    dsimp only [gk_push]
    clear ob1301
    refine gk_istore_11 C rfl (by exact Nat.le_of_ble_eq_true rfl) dL_law_548 ?_
    refine gk_aload_n C dL_law_550 rfl ?_
    refine gk_iconst C dL_law_551 ?_
    refine gk_iload C dL_law_552 rfl ?_
    refine gk_bipush C dL_law_554 (by decide) ?_
    refine gk_irem C (by omega) (by omega) dL_law_556 ?_
    refine gk_iadd C dL_law_557 ?_
    refine gk_iload C dL_law_558 rfl ?_
    refine gk_bipush C dL_law_560 (by decide) ?_
    refine gk_irem C (by omega) (by omega) dL_law_562 ?_
    refine gk_iload C dL_law_563 rfl ?_
    refine gk_bipush C dL_law_565 (by decide) ?_
    refine gk_irem C (by omega) (by omega) dL_law_567 ?_
    obtain ⟨fs1302, ob1302⟩ := H1301.obj
    refine gk_callV C o_X4_play k_L_52 dL_law_568 (HC.dir (r := v) (σ2 := σ2) (h_play hfl H1301 (m := ((1) + (z % (30)))) (r := (y % (10))) (t := (z % (41))) (by omega) (by omega) (by omega)) ep (by omega)) ob1302 rfl rfl rfl ⟨Nat.le_of_ble_eq_true rfl, Nat.le_of_ble_eq_true rfl⟩ ⟨by show _ + 1 ≤ 600104; omega, by show _ + 6 ≤ 7301314; omega⟩ (by exact Nat.le_of_ble_eq_true rfl) (fun _ _ z => z.elim) (fun v1302 h1302 p1302 => ?_)
    obtain ⟨rfl, H1302⟩ := p1302
    dsimp only [gk_push]
    clear ob1302
    refine gk_iload C dL_law_571 rfl ?_
    refine gk_icmp_ne C (tgt := 619) (by omega) (by omega) dL_law_573 (by decide) (fun c_573 => ?_) (fun c_573 => ?_)
    · exact absurd c_573 (by omega)
    refine gk_aload_n C dL_law_576 rfl ?_
    obtain ⟨fs1303, ob1303⟩ := H1302.obj
    refine gk_callV C o_X4_spread k_L_93 dL_law_577 (HC.dir (r := v) (σ2 := σ2) (h_spread hfl H1302  ) es (by omega)) ob1303 rfl rfl rfl ⟨Nat.le_of_ble_eq_true rfl, Nat.le_of_ble_eq_true rfl⟩ ⟨by show _ + 0 ≤ 600104; omega, by show _ + 0 ≤ 7301314; omega⟩ (by exact Nat.le_of_ble_eq_true rfl) (fun _ _ z => z.elim) (fun v1303 h1303 p1303 => ?_)
    obtain ⟨rfl, H1303⟩ := p1303
    dsimp only [gk_push]
    clear ob1303
    refine gk_iload C dL_law_580 rfl ?_
    refine gk_icmp_ne C (tgt := 619) (by omega) (by omega) dL_law_582 (by decide) (fun c_582 => ?_) (fun c_582 => ?_)
    · exact absurd c_582 (by omega)
    refine gk_aload_n C dL_law_585 rfl ?_
    refine gk_iload C dL_law_586 rfl ?_
    refine gk_iconst C dL_law_588 ?_
    obtain ⟨fs1304, ob1304⟩ := H1303.obj
    refine gk_callV C o_X4_ofPiper k_L_55 dL_law_589 (HC.dir (r := r4) (σ2 := σ2) (h_ofPiper hfl H1303 (p := its) (w := (4)) (by omega) (by omega)) g4 (by omega)) ob1304 rfl rfl rfl ⟨Nat.le_of_ble_eq_true rfl, Nat.le_of_ble_eq_true rfl⟩ ⟨by show _ + 2 ≤ 600104; omega, by show _ + 12 ≤ 7301314; omega⟩ (by exact Nat.le_of_ble_eq_true rfl) (fun _ _ z => z.elim) (fun v1304 h1304 p1304 => ?_)
    obtain ⟨rfl, H1304⟩ := p1304
    dsimp only [gk_push]
    clear ob1304
    refine gk_if_lt C (tgt := 619) (by omega) dL_law_592 (by decide) (fun c_592 => ?_) (fun c_592 => ?_)
    · exact absurd c_592 (by omega)
    refine gk_aload_n C dL_law_595 rfl ?_
    refine gk_iload C dL_law_596 rfl ?_
    refine gk_iconst C dL_law_598 ?_
    obtain ⟨fs1305, ob1305⟩ := H1304.obj
    refine gk_callV C o_X4_ofPiper k_L_55 dL_law_599 (HC.dir (r := r4) (σ2 := σ2) (h_ofPiper hfl H1304 (p := its) (w := (4)) (by omega) (by omega)) g4 (by omega)) ob1305 rfl rfl rfl ⟨Nat.le_of_ble_eq_true rfl, Nat.le_of_ble_eq_true rfl⟩ ⟨by show _ + 2 ≤ 600104; omega, by show _ + 12 ≤ 7301314; omega⟩ (by exact Nat.le_of_ble_eq_true rfl) (fun _ _ z => z.elim) (fun v1305 h1305 p1305 => ?_)
    obtain ⟨rfl, H1305⟩ := p1305
    dsimp only [gk_push]
    clear ob1305
    refine gk_bipush C dL_law_602 (by decide) ?_
    refine gk_icmp_gt C (tgt := 619) (by omega) (by omega) dL_law_604 (by decide) (fun c_604 => ?_) (fun c_604 => ?_)
    · exact absurd c_604 (by omega)
    refine gk_aload_n C dL_law_607 rfl ?_
    refine gk_iload C dL_law_608 rfl ?_
    refine gk_iconst C dL_law_610 ?_
    obtain ⟨fs1306, ob1306⟩ := H1305.obj
    refine gk_callV C o_X4_ofPiper k_L_55 dL_law_611 (HC.dir (r := r1) (σ2 := σ2) (h_ofPiper hfl H1305 (p := its) (w := (1)) (by omega) (by omega)) g1 (by omega)) ob1306 rfl rfl rfl ⟨Nat.le_of_ble_eq_true rfl, Nat.le_of_ble_eq_true rfl⟩ ⟨by show _ + 2 ≤ 600104; omega, by show _ + 12 ≤ 7301314; omega⟩ (by exact Nat.le_of_ble_eq_true rfl) (fun _ _ z => z.elim) (fun v1306 h1306 p1306 => ?_)
    obtain ⟨rfl, H1306⟩ := p1306
    dsimp only [gk_push]
    clear ob1306
    refine gk_bipush C dL_law_614 (by decide) ?_
    refine gk_icmp_ge C (tgt := 621) (by omega) (by omega) dL_law_616 (by decide) (fun c_616 => ?_) (fun c_616 => ?_)
    rotate_left
    · exact absurd c_616 (by omega)
    refine gk_aload_n C dL_law_621 rfl ?_
    refine gk_iload C dL_law_622 rfl ?_
    refine gk_iload C dL_law_624 rfl ?_
    refine gk_iconst C dL_law_626 ?_
    refine gk_irem C (by omega) (by omega) dL_law_627 ?_
    refine gk_if_ne C (tgt := 635) (by omega) dL_law_628 (by decide) (fun c_628 => ?_) (fun c_628 => ?_)
    · exact absurd c_628 (by omega)
    refine gk_iconst C dL_law_631 ?_
    refine gk_goto C (tgt := 636) dL_law_632 (by decide) ?_
    obtain ⟨fs1307, ob1307⟩ := H1306.obj
    refine gk_callV C o_X4_rest k_L_48 dL_law_636 (HC.dir (r := w1) (σ2 := σ3) (h_rest hfl H1306 (p := its) (b := (1)) (by omega) (by omega)) t1 (by omega)) ob1307 rfl rfl rfl ⟨Nat.le_of_ble_eq_true rfl, Nat.le_of_ble_eq_true rfl⟩ ⟨by show _ + 1 ≤ 600104; omega, by show _ + 6 ≤ 7301314; omega⟩ (by exact Nat.le_of_ble_eq_true rfl) (fun _ _ z => z.elim) (fun v1307 h1307 p1307 => ?_)
    obtain ⟨rfl, H1307⟩ := p1307
    dsimp only [gk_push]
    clear ob1307
    refine gk_istore_12 C rfl (by exact Nat.le_of_ble_eq_true rfl) dL_law_639 ?_
    refine gk_aload_n C dL_law_641 rfl ?_
    refine gk_iload C dL_law_642 rfl ?_
    refine gk_iload C dL_law_644 rfl ?_
    obtain ⟨fs1308, ob1308⟩ := H1307.obj
    refine gk_callV C o_X4_rest k_L_48 dL_law_646 (HC.dir (r := 1) (σ2 := σ4) (h_rest hfl H1307 (p := its) (b := w1) (by omega) hw1) t2 (by omega)) ob1308 rfl rfl rfl ⟨Nat.le_of_ble_eq_true rfl, Nat.le_of_ble_eq_true rfl⟩ ⟨by show _ + 1 ≤ 600104; omega, by show _ + 6 ≤ 7301314; omega⟩ (by exact Nat.le_of_ble_eq_true rfl) (fun _ _ z => z.elim) (fun v1308 h1308 p1308 => ?_)
    obtain ⟨rfl, H1308⟩ := p1308
    dsimp only [gk_push]
    clear ob1308
    refine gk_iload C dL_law_649 rfl ?_
    refine gk_iconst C dL_law_651 ?_
    refine gk_irem C (by omega) (by omega) dL_law_652 ?_
    refine gk_if_ne C (tgt := 660) (by omega) dL_law_653 (by decide) (fun c_653 => ?_) (fun c_653 => ?_)
    · exact absurd c_653 (by omega)
    refine gk_iconst C dL_law_656 ?_
    refine gk_goto C (tgt := 661) dL_law_657 (by decide) ?_
    refine gk_icmp_ne C (tgt := 718) (by omega) (by omega) dL_law_661 (by decide) (fun c_661 => ?_) (fun c_661 => ?_)
    · exact absurd c_661 (by omega)
    refine gk_aload_n C dL_law_664 rfl ?_
    refine gk_iload C dL_law_665 rfl ?_
    refine gk_iload C dL_law_667 rfl ?_
    refine gk_iconst C dL_law_669 ?_
    refine gk_irem C (by omega) (by omega) dL_law_670 ?_
    refine gk_if_ne C (tgt := 678) (by omega) dL_law_671 (by decide) (fun c_671 => ?_) (fun c_671 => ?_)
    · exact absurd c_671 (by omega)
    refine gk_iconst C dL_law_674 ?_
    refine gk_goto C (tgt := 679) dL_law_675 (by decide) ?_
    obtain ⟨fs1309, ob1309⟩ := H1308.obj
    refine gk_callV C o_X4_rest k_L_48 dL_law_679 (HC.dir (r := w1) (σ2 := σ5) (h_rest hfl H1308 (p := its) (b := (1)) (by omega) (by omega)) t3 (by omega)) ob1309 rfl rfl rfl ⟨Nat.le_of_ble_eq_true rfl, Nat.le_of_ble_eq_true rfl⟩ ⟨by show _ + 1 ≤ 600104; omega, by show _ + 6 ≤ 7301314; omega⟩ (by exact Nat.le_of_ble_eq_true rfl) (fun _ _ z => z.elim) (fun v1309 h1309 p1309 => ?_)
    obtain ⟨rfl, H1309⟩ := p1309
    dsimp only [gk_push]
    clear ob1309
    refine gk_iload C dL_law_682 rfl ?_
    refine gk_icmp_ne C (tgt := 718) (by omega) (by omega) dL_law_684 (by decide) (fun c_684 => ?_) (fun c_684 => ?_)
    · exact absurd c_684 (by omega)
    have wf5 := H1309.wf
    have hi5 : 0 ≤ its ∧ its < ((σ5.2.2.1.1 : Nat) : Int) := by omega
    have hcl6 : σ5.2.2.2.2 ≤ 10000 := by rw [d4]; exact hcl5
    obtain ⟨rs, σ6, e6, hrs, k1, k2, k3, k4⟩ := f_seat wf5 (b := z % 41 - 20) hi5
    refine gk_aload_n C dL_law_687 rfl ?_
    refine gk_bipush C dL_law_688 (by decide) ?_
    refine gk_iload C dL_law_690 rfl ?_
    refine gk_iload C dL_law_692 rfl ?_
    refine gk_bipush C dL_law_694 (by decide) ?_
    refine gk_irem C (by omega) (by omega) dL_law_696 ?_
    refine gk_bipush C dL_law_697 (by decide) ?_
    refine gk_isub C dL_law_699 ?_
    refine gk_iconst C dL_law_700 ?_
    refine gk_iconst C dL_law_701 ?_
    refine gk_callSH C o_L_act k_L_100 dL_law_702 (act_e hfl H1309 (w := 10) (a := its) (b := ((z % (41)) - (20))) (c := (0)) (d := (0)) (r := rs) rfl (by omega) (by omega) (by omega) (by omega) (by omega) hcl6 e6) rfl rfl ⟨Nat.le_of_ble_eq_true rfl, Nat.le_of_ble_eq_true rfl⟩ ⟨by show _ + 9 ≤ 600104; omega, by show _ + 418 ≤ 7301314; omega⟩ (by exact Nat.le_of_ble_eq_true rfl) (fun v1310 h1310 p1310 => ?_)
    obtain ⟨rfl, H1310⟩ := p1310
    dsimp only [gk_push]
    refine gk_ldc C cn_L_85 dL_law_705 ?_
    refine gk_icmp_eq C (tgt := 718) (by omega) (by omega) dL_law_707 (by decide) (fun c_707 => ?_) (fun c_707 => ?_)
    · exact absurd c_707 (by omega)
    have wf6 := H1310.wf
    obtain ⟨ro, eo, hro⟩ := f_odd wf6 (by omega)
    refine gk_aload_n C dL_law_710 rfl ?_
    obtain ⟨fs1311, ob1311⟩ := H1310.obj
    refine gk_callV C o_X4_odd k_L_138 dL_law_711 (HC.dir (r := ro) (σ2 := σ6) (h_odd hfl H1310  ) eo (by omega)) ob1311 rfl rfl rfl ⟨Nat.le_of_ble_eq_true rfl, Nat.le_of_ble_eq_true rfl⟩ ⟨by show _ + 0 ≤ 600104; omega, by show _ + 0 ≤ 7301314; omega⟩ (by exact Nat.le_of_ble_eq_true rfl) (fun _ _ z => z.elim) (fun v1311 h1311 p1311 => ?_)
    obtain ⟨rfl, H1311⟩ := p1311
    dsimp only [gk_push]
    clear ob1311
    refine gk_iload_n C dL_law_714 rfl ?_
    refine gk_icmp_lt C (tgt := 720) (by omega) (by omega) dL_law_715 (by decide) (fun c_715 => ?_) (fun c_715 => ?_)
    rotate_left
    · exact absurd c_715 (by omega)
    refine gk_goto C (tgt := 1015) dL_law_720 (by decide) ?_
    exact back σ6 _ _ _ _ _ _ _ _ _ _ _ H1311 (ct_P (k1.trans (d1.trans c1)) (k4.trans (d4.trans c4)) hct (by omega)) (by rw [k4, d4, c4]; exact Nat.le_succ _) (by omega) (by omega)
  · obtain ⟨w1, σ3, σ4, σ5, t1, hw1, t2, t3, d1, d2, d3, d4⟩ := f_rest wf2 (b := 0) hi2
    refine gk_iload C dL_law_521 rfl ?_
    refine gk_iload_n C dL_law_523 rfl ?_
    refine gk_irem C (by omega) (by omega) dL_law_524 ?_
    rw [← eits]
    refine gk_istore_10 C rfl (by exact Nat.le_of_ble_eq_true rfl) dL_law_525 ?_
    refine gk_aload_n C dL_law_527 rfl ?_
    refine gk_iconst C dL_law_528 ?_
    refine gk_iload C dL_law_529 rfl ?_
    refine gk_bipush C dL_law_531 (by decide) ?_
    refine gk_irem C (by omega) (by omega) dL_law_533 ?_
    refine gk_iadd C dL_law_534 ?_
    refine gk_iload C dL_law_535 rfl ?_
    refine gk_bipush C dL_law_537 (by decide) ?_
    refine gk_irem C (by omega) (by omega) dL_law_539 ?_
    refine gk_iload C dL_law_540 rfl ?_
    refine gk_bipush C dL_law_542 (by decide) ?_
    refine gk_irem C (by omega) (by omega) dL_law_544 ?_
    obtain ⟨fs1401, ob1401⟩ := H.obj
    refine gk_callV C o_X4_ahead k_L_62 dL_law_545 (HC.dir (r := v) (σ2 := σ) (h_ahead hfl H (m := ((1) + (z % (30)))) (r := (y % (10))) (t := (z % (41))) (by omega) (by omega) (by omega)) ea (by omega)) ob1401 rfl rfl rfl ⟨Nat.le_of_ble_eq_true rfl, Nat.le_of_ble_eq_true rfl⟩ ⟨by show _ + 1 ≤ 600104; omega, by show _ + 6 ≤ 7301314; omega⟩ (by exact Nat.le_of_ble_eq_true rfl) (fun _ _ z => z.elim) (fun v1401 h1401 p1401 => ?_)
    obtain ⟨rfl, H1401⟩ := p1401
    dsimp only [gk_push]
    clear ob1401
    refine gk_istore_11 C rfl (by exact Nat.le_of_ble_eq_true rfl) dL_law_548 ?_
    refine gk_aload_n C dL_law_550 rfl ?_
    refine gk_iconst C dL_law_551 ?_
    refine gk_iload C dL_law_552 rfl ?_
    refine gk_bipush C dL_law_554 (by decide) ?_
    refine gk_irem C (by omega) (by omega) dL_law_556 ?_
    refine gk_iadd C dL_law_557 ?_
    refine gk_iload C dL_law_558 rfl ?_
    refine gk_bipush C dL_law_560 (by decide) ?_
    refine gk_irem C (by omega) (by omega) dL_law_562 ?_
    refine gk_iload C dL_law_563 rfl ?_
    refine gk_bipush C dL_law_565 (by decide) ?_
    refine gk_irem C (by omega) (by omega) dL_law_567 ?_
    obtain ⟨fs1402, ob1402⟩ := H1401.obj
    refine gk_callV C o_X4_play k_L_52 dL_law_568 (HC.dir (r := v) (σ2 := σ2) (h_play hfl H1401 (m := ((1) + (z % (30)))) (r := (y % (10))) (t := (z % (41))) (by omega) (by omega) (by omega)) ep (by omega)) ob1402 rfl rfl rfl ⟨Nat.le_of_ble_eq_true rfl, Nat.le_of_ble_eq_true rfl⟩ ⟨by show _ + 1 ≤ 600104; omega, by show _ + 6 ≤ 7301314; omega⟩ (by exact Nat.le_of_ble_eq_true rfl) (fun _ _ z => z.elim) (fun v1402 h1402 p1402 => ?_)
    obtain ⟨rfl, H1402⟩ := p1402
    dsimp only [gk_push]
    clear ob1402
    refine gk_iload C dL_law_571 rfl ?_
    refine gk_icmp_ne C (tgt := 619) (by omega) (by omega) dL_law_573 (by decide) (fun c_573 => ?_) (fun c_573 => ?_)
    · exact absurd c_573 (by omega)
    refine gk_aload_n C dL_law_576 rfl ?_
    obtain ⟨fs1403, ob1403⟩ := H1402.obj
    refine gk_callV C o_X4_spread k_L_93 dL_law_577 (HC.dir (r := v) (σ2 := σ2) (h_spread hfl H1402  ) es (by omega)) ob1403 rfl rfl rfl ⟨Nat.le_of_ble_eq_true rfl, Nat.le_of_ble_eq_true rfl⟩ ⟨by show _ + 0 ≤ 600104; omega, by show _ + 0 ≤ 7301314; omega⟩ (by exact Nat.le_of_ble_eq_true rfl) (fun _ _ z => z.elim) (fun v1403 h1403 p1403 => ?_)
    obtain ⟨rfl, H1403⟩ := p1403
    dsimp only [gk_push]
    clear ob1403
    refine gk_iload C dL_law_580 rfl ?_
    refine gk_icmp_ne C (tgt := 619) (by omega) (by omega) dL_law_582 (by decide) (fun c_582 => ?_) (fun c_582 => ?_)
    · exact absurd c_582 (by omega)
    refine gk_aload_n C dL_law_585 rfl ?_
    refine gk_iload C dL_law_586 rfl ?_
    refine gk_iconst C dL_law_588 ?_
    obtain ⟨fs1404, ob1404⟩ := H1403.obj
    refine gk_callV C o_X4_ofPiper k_L_55 dL_law_589 (HC.dir (r := r4) (σ2 := σ2) (h_ofPiper hfl H1403 (p := its) (w := (4)) (by omega) (by omega)) g4 (by omega)) ob1404 rfl rfl rfl ⟨Nat.le_of_ble_eq_true rfl, Nat.le_of_ble_eq_true rfl⟩ ⟨by show _ + 2 ≤ 600104; omega, by show _ + 12 ≤ 7301314; omega⟩ (by exact Nat.le_of_ble_eq_true rfl) (fun _ _ z => z.elim) (fun v1404 h1404 p1404 => ?_)
    obtain ⟨rfl, H1404⟩ := p1404
    dsimp only [gk_push]
    clear ob1404
    refine gk_if_lt C (tgt := 619) (by omega) dL_law_592 (by decide) (fun c_592 => ?_) (fun c_592 => ?_)
    · exact absurd c_592 (by omega)
    refine gk_aload_n C dL_law_595 rfl ?_
    refine gk_iload C dL_law_596 rfl ?_
    refine gk_iconst C dL_law_598 ?_
    obtain ⟨fs1405, ob1405⟩ := H1404.obj
    refine gk_callV C o_X4_ofPiper k_L_55 dL_law_599 (HC.dir (r := r4) (σ2 := σ2) (h_ofPiper hfl H1404 (p := its) (w := (4)) (by omega) (by omega)) g4 (by omega)) ob1405 rfl rfl rfl ⟨Nat.le_of_ble_eq_true rfl, Nat.le_of_ble_eq_true rfl⟩ ⟨by show _ + 2 ≤ 600104; omega, by show _ + 12 ≤ 7301314; omega⟩ (by exact Nat.le_of_ble_eq_true rfl) (fun _ _ z => z.elim) (fun v1405 h1405 p1405 => ?_)
    obtain ⟨rfl, H1405⟩ := p1405
    dsimp only [gk_push]
    clear ob1405
    refine gk_bipush C dL_law_602 (by decide) ?_
    refine gk_icmp_gt C (tgt := 619) (by omega) (by omega) dL_law_604 (by decide) (fun c_604 => ?_) (fun c_604 => ?_)
    · exact absurd c_604 (by omega)
    refine gk_aload_n C dL_law_607 rfl ?_
    refine gk_iload C dL_law_608 rfl ?_
    refine gk_iconst C dL_law_610 ?_
    obtain ⟨fs1406, ob1406⟩ := H1405.obj
    refine gk_callV C o_X4_ofPiper k_L_55 dL_law_611 (HC.dir (r := r1) (σ2 := σ2) (h_ofPiper hfl H1405 (p := its) (w := (1)) (by omega) (by omega)) g1 (by omega)) ob1406 rfl rfl rfl ⟨Nat.le_of_ble_eq_true rfl, Nat.le_of_ble_eq_true rfl⟩ ⟨by show _ + 2 ≤ 600104; omega, by show _ + 12 ≤ 7301314; omega⟩ (by exact Nat.le_of_ble_eq_true rfl) (fun _ _ z => z.elim) (fun v1406 h1406 p1406 => ?_)
    obtain ⟨rfl, H1406⟩ := p1406
    dsimp only [gk_push]
    clear ob1406
    refine gk_bipush C dL_law_614 (by decide) ?_
    refine gk_icmp_ge C (tgt := 621) (by omega) (by omega) dL_law_616 (by decide) (fun c_616 => ?_) (fun c_616 => ?_)
    rotate_left
    · exact absurd c_616 (by omega)
    refine gk_aload_n C dL_law_621 rfl ?_
    refine gk_iload C dL_law_622 rfl ?_
    refine gk_iload C dL_law_624 rfl ?_
    refine gk_iconst C dL_law_626 ?_
    refine gk_irem C (by omega) (by omega) dL_law_627 ?_
    refine gk_if_ne C (tgt := 635) (by omega) dL_law_628 (by decide) (fun c_628 => ?_) (fun c_628 => ?_)
    rotate_left
    · exact absurd c_628 (by omega)
    refine gk_iconst C dL_law_635 ?_
    obtain ⟨fs1407, ob1407⟩ := H1406.obj
    refine gk_callV C o_X4_rest k_L_48 dL_law_636 (HC.dir (r := w1) (σ2 := σ3) (h_rest hfl H1406 (p := its) (b := (0)) (by omega) (by omega)) t1 (by omega)) ob1407 rfl rfl rfl ⟨Nat.le_of_ble_eq_true rfl, Nat.le_of_ble_eq_true rfl⟩ ⟨by show _ + 1 ≤ 600104; omega, by show _ + 6 ≤ 7301314; omega⟩ (by exact Nat.le_of_ble_eq_true rfl) (fun _ _ z => z.elim) (fun v1407 h1407 p1407 => ?_)
    obtain ⟨rfl, H1407⟩ := p1407
    dsimp only [gk_push]
    clear ob1407
    refine gk_istore_12 C rfl (by exact Nat.le_of_ble_eq_true rfl) dL_law_639 ?_
    refine gk_aload_n C dL_law_641 rfl ?_
    refine gk_iload C dL_law_642 rfl ?_
    refine gk_iload C dL_law_644 rfl ?_
    obtain ⟨fs1408, ob1408⟩ := H1407.obj
    refine gk_callV C o_X4_rest k_L_48 dL_law_646 (HC.dir (r := 0) (σ2 := σ4) (h_rest hfl H1407 (p := its) (b := w1) (by omega) hw1) t2 (by omega)) ob1408 rfl rfl rfl ⟨Nat.le_of_ble_eq_true rfl, Nat.le_of_ble_eq_true rfl⟩ ⟨by show _ + 1 ≤ 600104; omega, by show _ + 6 ≤ 7301314; omega⟩ (by exact Nat.le_of_ble_eq_true rfl) (fun _ _ z => z.elim) (fun v1408 h1408 p1408 => ?_)
    obtain ⟨rfl, H1408⟩ := p1408
    dsimp only [gk_push]
    clear ob1408
    refine gk_iload C dL_law_649 rfl ?_
    refine gk_iconst C dL_law_651 ?_
    refine gk_irem C (by omega) (by omega) dL_law_652 ?_
    refine gk_if_ne C (tgt := 660) (by omega) dL_law_653 (by decide) (fun c_653 => ?_) (fun c_653 => ?_)
    rotate_left
    · exact absurd c_653 (by omega)
    refine gk_iconst C dL_law_660 ?_
    refine gk_icmp_ne C (tgt := 718) (by omega) (by omega) dL_law_661 (by decide) (fun c_661 => ?_) (fun c_661 => ?_)
    · exact absurd c_661 (by omega)
    refine gk_aload_n C dL_law_664 rfl ?_
    refine gk_iload C dL_law_665 rfl ?_
    refine gk_iload C dL_law_667 rfl ?_
    refine gk_iconst C dL_law_669 ?_
    refine gk_irem C (by omega) (by omega) dL_law_670 ?_
    refine gk_if_ne C (tgt := 678) (by omega) dL_law_671 (by decide) (fun c_671 => ?_) (fun c_671 => ?_)
    rotate_left
    · exact absurd c_671 (by omega)
    refine gk_iconst C dL_law_678 ?_
    obtain ⟨fs1409, ob1409⟩ := H1408.obj
    refine gk_callV C o_X4_rest k_L_48 dL_law_679 (HC.dir (r := w1) (σ2 := σ5) (h_rest hfl H1408 (p := its) (b := (0)) (by omega) (by omega)) t3 (by omega)) ob1409 rfl rfl rfl ⟨Nat.le_of_ble_eq_true rfl, Nat.le_of_ble_eq_true rfl⟩ ⟨by show _ + 1 ≤ 600104; omega, by show _ + 6 ≤ 7301314; omega⟩ (by exact Nat.le_of_ble_eq_true rfl) (fun _ _ z => z.elim) (fun v1409 h1409 p1409 => ?_)
    obtain ⟨rfl, H1409⟩ := p1409
    dsimp only [gk_push]
    clear ob1409
    refine gk_iload C dL_law_682 rfl ?_
    refine gk_icmp_ne C (tgt := 718) (by omega) (by omega) dL_law_684 (by decide) (fun c_684 => ?_) (fun c_684 => ?_)
    · exact absurd c_684 (by omega)
    have wf5 := H1409.wf
    have hi5 : 0 ≤ its ∧ its < ((σ5.2.2.1.1 : Nat) : Int) := by omega
    have hcl6 : σ5.2.2.2.2 ≤ 10000 := by rw [d4]; exact hcl5
    obtain ⟨rs, σ6, e6, hrs, k1, k2, k3, k4⟩ := f_seat wf5 (b := z % 41 - 20) hi5
    refine gk_aload_n C dL_law_687 rfl ?_
    refine gk_bipush C dL_law_688 (by decide) ?_
    refine gk_iload C dL_law_690 rfl ?_
    refine gk_iload C dL_law_692 rfl ?_
    refine gk_bipush C dL_law_694 (by decide) ?_
    refine gk_irem C (by omega) (by omega) dL_law_696 ?_
    refine gk_bipush C dL_law_697 (by decide) ?_
    refine gk_isub C dL_law_699 ?_
    refine gk_iconst C dL_law_700 ?_
    refine gk_iconst C dL_law_701 ?_
    refine gk_callSH C o_L_act k_L_100 dL_law_702 (act_e hfl H1409 (w := 10) (a := its) (b := ((z % (41)) - (20))) (c := (0)) (d := (0)) (r := rs) rfl (by omega) (by omega) (by omega) (by omega) (by omega) hcl6 e6) rfl rfl ⟨Nat.le_of_ble_eq_true rfl, Nat.le_of_ble_eq_true rfl⟩ ⟨by show _ + 9 ≤ 600104; omega, by show _ + 418 ≤ 7301314; omega⟩ (by exact Nat.le_of_ble_eq_true rfl) (fun v1410 h1410 p1410 => ?_)
    obtain ⟨rfl, H1410⟩ := p1410
    dsimp only [gk_push]
    refine gk_ldc C cn_L_85 dL_law_705 ?_
    refine gk_icmp_eq C (tgt := 718) (by omega) (by omega) dL_law_707 (by decide) (fun c_707 => ?_) (fun c_707 => ?_)
    · exact absurd c_707 (by omega)
    have wf6 := H1410.wf
    obtain ⟨ro, eo, hro⟩ := f_odd wf6 (by omega)
    refine gk_aload_n C dL_law_710 rfl ?_
    obtain ⟨fs1411, ob1411⟩ := H1410.obj
    refine gk_callV C o_X4_odd k_L_138 dL_law_711 (HC.dir (r := ro) (σ2 := σ6) (h_odd hfl H1410  ) eo (by omega)) ob1411 rfl rfl rfl ⟨Nat.le_of_ble_eq_true rfl, Nat.le_of_ble_eq_true rfl⟩ ⟨by show _ + 0 ≤ 600104; omega, by show _ + 0 ≤ 7301314; omega⟩ (by exact Nat.le_of_ble_eq_true rfl) (fun _ _ z => z.elim) (fun v1411 h1411 p1411 => ?_)
    obtain ⟨rfl, H1411⟩ := p1411
    dsimp only [gk_push]
    clear ob1411
    refine gk_iload_n C dL_law_714 rfl ?_
    refine gk_icmp_lt C (tgt := 720) (by omega) (by omega) dL_law_715 (by decide) (fun c_715 => ?_) (fun c_715 => ?_)
    rotate_left
    · exact absurd c_715 (by omega)
    refine gk_goto C (tgt := 1015) dL_law_720 (by decide) ?_
    exact back σ6 _ _ _ _ _ _ _ _ _ _ _ H1411 (ct_P (k1.trans (d1.trans c1)) (k4.trans (d4.trans c4)) hct (by omega)) (by rw [k4, d4, c4]; exact Nat.le_succ _) (by omega) (by omega)

set_option maxRecDepth 100000 in
set_option maxHeartbeats 8000000 in
theorem lw_season {l : Launch} {Γ : GA} {nm : String} {G : GP} {X : String → Hp → Nat → Nat → Prop} {x sb : Nat} {σ : ST} {h : Hp} {k n : Nat} {t p b kk xx w y z : Int} {u10 u11 u12 u13 u14 : Option Value} (C : Cx l Γ (m_law nm) G X) (hfl : l.stackTraces = false) (H : HD Γ x σ h) (hct : cts σ t p b) (hcl : σ.2.2.2.2 ≤ 9000) (hy : 0 ≤ y ∧ y ≤ 2000000) (hz : 0 ≤ z ∧ z ≤ 2000000) (hk : k + 3000 ≤ 600104) (hn : n + 90000 ≤ 7301314) (h0 : 0 < b)
    (back : ∀ (σ2 : ST) (h2 : Hp) (k2 n2 : Nat) (t2 p2 b2 : Int) (v10 v11 v12 v13 v14 : Option Value), HD Γ x σ2 h2 → cts σ2 t2 p2 b2 → σ2.2.2.2.2 ≤ σ.2.2.2.2 + 1 → k2 ≤ k + 400 → n2 ≤ n + 15000 → G 1015 [some (.ref sb), some (.ref x), some (iv t2), some (iv p2), some (iv b2), some (iv kk), some (iv xx), some (iv w), some (iv y), some (iv z), v10, v11, v12, v13, v14] [] h2 k2 n2) : G 963 [some (.ref sb), some (.ref x), some (iv t), some (iv p), some (iv b), some (iv kk), some (iv xx), some (iv w), some (iv y), some (iv z), u10, u11, u12, u13, u14] [] h k n := by
  have wf := H.wf
  obtain ⟨ht, hp, hb, hop⟩ := id hct
  have hcl2 : σ.2.2.2.2 ≤ 10000 := by omega
  have ht1 : t ≤ 10 := by have := wf.1.1; omega
  have hp1 : p ≤ 8 := by have := wf.2.2.1.1; omega
  have hb1 : b ≤ 8 := by have h8 : nB σ ≤ 8 := wf.2.2.2.1; omega
  obtain ⟨q, eq, hq0, hq1⟩ : ∃ q : Int, q = y % b ∧ 0 ≤ q ∧ q < b := ⟨_, rfl, Int.emod_nonneg _ (by omega), Int.emod_lt_of_pos _ (by omega)⟩
  obtain ⟨r, σ2, e, hr, ho, sb2, hc, fa⟩ := f_season wf hop
  obtain ⟨o1, g, o0, hg⟩ := fa q hq0 (by omega)
  have hcnt : ((nB σ2 : Nat) : Int) = ((nB σ : Nat) : Int) := by rw [sb2.2.2.2]
  refine gk_aload_n C dL_law_963 rfl ?_
  obtain ⟨fs1501, ob1501⟩ := H.obj
  refine gk_callV C o_X4_season k_L_77 dL_law_964 (HC.dir (r := r) (σ2 := σ2) (h_season hfl H  ) e (by omega)) ob1501 rfl rfl rfl ⟨Nat.le_of_ble_eq_true rfl, Nat.le_of_ble_eq_true rfl⟩ ⟨by show _ + 1 ≤ 600104; omega, by show _ + 6 ≤ 7301314; omega⟩ (by exact Nat.le_of_ble_eq_true rfl) (fun _ _ z => z.elim) (fun v1501 h1501 p1501 => ?_)
  obtain ⟨rfl, H1501⟩ := p1501
  dsimp only [gk_push]
  clear ob1501
  refine gk_iload C dL_law_967 rfl ?_
  refine gk_icmp_gt C (tgt := 1013) (by omega) (by omega) dL_law_969 (by decide) (fun c_969 => ?_) (fun c_969 => ?_)
  · exact absurd c_969 (by omega)
  refine gk_aload_n C dL_law_972 rfl ?_
  refine gk_iload C dL_law_973 rfl ?_
  refine gk_iload C dL_law_975 rfl ?_
  refine gk_irem C (by omega) (by omega) dL_law_977 ?_
  rw [← eq]
  refine gk_iconst C dL_law_978 ?_
  obtain ⟨fs1502, ob1502⟩ := H1501.obj
  refine gk_callV C o_X4_ofBand k_L_80 dL_law_979 (HC.dir (r := 0) (σ2 := σ2) (h_ofBand hfl H1501 (b := q) (w := (1)) (by omega) (by omega)) o1 (by omega)) ob1502 rfl rfl rfl ⟨Nat.le_of_ble_eq_true rfl, Nat.le_of_ble_eq_true rfl⟩ ⟨by show _ + 2 ≤ 600104; omega, by show _ + 12 ≤ 7301314; omega⟩ (by exact Nat.le_of_ble_eq_true rfl) (fun _ _ z => z.elim) (fun v1502 h1502 p1502 => ?_)
  obtain ⟨rfl, H1502⟩ := p1502
  dsimp only [gk_push]
  clear ob1502
  refine gk_if_ne C (tgt := 1013) (by omega) dL_law_982 (by decide) (fun c_982 => ?_) (fun c_982 => ?_)
  · exact absurd c_982 (by omega)
  refine gk_aload_n C dL_law_985 rfl ?_
  refine gk_iload C dL_law_986 rfl ?_
  refine gk_iload C dL_law_988 rfl ?_
  refine gk_irem C (by omega) (by omega) dL_law_990 ?_
  rw [← eq]
  refine gk_iconst C dL_law_991 ?_
  obtain ⟨fs1503, ob1503⟩ := H1502.obj
  refine gk_callV C o_X4_ofBand k_L_80 dL_law_992 (HC.dir (r := g) (σ2 := σ2) (h_ofBand hfl H1502 (b := q) (w := (0)) (by omega) (by omega)) o0 (by omega)) ob1503 rfl rfl rfl ⟨Nat.le_of_ble_eq_true rfl, Nat.le_of_ble_eq_true rfl⟩ ⟨by show _ + 2 ≤ 600104; omega, by show _ + 12 ≤ 7301314; omega⟩ (by exact Nat.le_of_ble_eq_true rfl) (fun _ _ z => z.elim) (fun v1503 h1503 p1503 => ?_)
  obtain ⟨rfl, H1503⟩ := p1503
  dsimp only [gk_push]
  clear ob1503
  refine gk_iconst C dL_law_995 ?_
  refine gk_icmp_lt C (tgt := 1013) (by omega) (by omega) dL_law_996 (by decide) (fun c_996 => ?_) (fun c_996 => ?_)
  · exact absurd c_996 (by omega)
  refine gk_aload_n C dL_law_999 rfl ?_
  refine gk_iload C dL_law_1000 rfl ?_
  refine gk_iload C dL_law_1002 rfl ?_
  refine gk_irem C (by omega) (by omega) dL_law_1004 ?_
  rw [← eq]
  refine gk_iconst C dL_law_1005 ?_
  obtain ⟨fs1504, ob1504⟩ := H1503.obj
  refine gk_callV C o_X4_ofBand k_L_80 dL_law_1006 (HC.dir (r := g) (σ2 := σ2) (h_ofBand hfl H1503 (b := q) (w := (0)) (by omega) (by omega)) o0 (by omega)) ob1504 rfl rfl rfl ⟨Nat.le_of_ble_eq_true rfl, Nat.le_of_ble_eq_true rfl⟩ ⟨by show _ + 2 ≤ 600104; omega, by show _ + 12 ≤ 7301314; omega⟩ (by exact Nat.le_of_ble_eq_true rfl) (fun _ _ z => z.elim) (fun v1504 h1504 p1504 => ?_)
  obtain ⟨rfl, H1504⟩ := p1504
  dsimp only [gk_push]
  clear ob1504
  refine gk_iconst C dL_law_1009 ?_
  refine gk_icmp_le C (tgt := 1015) (by omega) (by omega) dL_law_1010 (by decide) (fun c_1010 => ?_) (fun c_1010 => ?_)
  rotate_left
  · exact absurd c_1010 (by omega)
  exact back σ2 _ _ _ _ _ _ _ _ _ _ _ H1504 (ct_B sb2.1 sb2.2.2.1 hct (by omega) ho) (by rw [hc]; exact Nat.le_succ _) (by omega) (by omega)

set_option maxRecDepth 100000 in
set_option maxHeartbeats 8000000 in
theorem lw_contest {l : Launch} {Γ : GA} {nm : String} {G : GP} {X : String → Hp → Nat → Nat → Prop} {x sb : Nat} {σ : ST} {h : Hp} {k n : Nat} {t p b kk xx w y z : Int} {u10 u11 u12 u13 u14 : Option Value} (C : Cx l Γ (m_law nm) G X) (hfl : l.stackTraces = false) (H : HD Γ x σ h) (hct : cts σ t p b) (hcl : σ.2.2.2.2 ≤ 9000) (hy : 0 ≤ y ∧ y ≤ 2000000) (hz : 0 ≤ z ∧ z ≤ 2000000) (hk : k + 3000 ≤ 600104) (hn : n + 90000 ≤ 7301314) (h0 : 0 < b)
    (back : ∀ (σ2 : ST) (h2 : Hp) (k2 n2 : Nat) (t2 p2 b2 : Int) (v10 v11 v12 v13 v14 : Option Value), HD Γ x σ2 h2 → cts σ2 t2 p2 b2 → σ2.2.2.2.2 ≤ σ.2.2.2.2 + 1 → k2 ≤ k + 400 → n2 ≤ n + 15000 → G 1015 [some (.ref sb), some (.ref x), some (iv t2), some (iv p2), some (iv b2), some (iv kk), some (iv xx), some (iv w), some (iv y), some (iv z), v10, v11, v12, v13, v14] [] h2 k2 n2) : G 796 [some (.ref sb), some (.ref x), some (iv t), some (iv p), some (iv b), some (iv kk), some (iv xx), some (iv w), some (iv y), some (iv z), u10, u11, u12, u13, u14] [] h k n := by
  have wf := H.wf
  obtain ⟨ht, hp, hb, hop⟩ := id hct
  have hcl2 : σ.2.2.2.2 ≤ 10000 := by omega
  have ht1 : t ≤ 10 := by have := wf.1.1; omega
  have hp1 : p ≤ 8 := by have := wf.2.2.1.1; omega
  have hb1 : b ≤ 8 := by have h8 : nB σ ≤ 8 := wf.2.2.2.1; omega
  rcases f_contest wf hop (g := 1 + y % 5) (by omega) with ⟨r, σ2, e, hr, ho, sbX, hc⟩ | e
  · skip
    refine gk_aload_n C dL_law_796 rfl ?_
    refine gk_bipush C dL_law_797 (by decide) ?_
    refine gk_iconst C dL_law_799 ?_
    refine gk_iload C dL_law_800 rfl ?_
    refine gk_iconst C dL_law_802 ?_
    refine gk_irem C (by omega) (by omega) dL_law_803 ?_
    refine gk_iadd C dL_law_804 ?_
    refine gk_iconst C dL_law_805 ?_
    refine gk_iconst C dL_law_806 ?_
    refine gk_iconst C dL_law_807 ?_
    refine gk_callSH C o_L_act k_L_100 dL_law_808 (act_e hfl H (w := 17) (a := ((1) + (y % (5)))) (b := (0)) (c := (0)) (d := (0)) (r := r) rfl (by omega) (by omega) (by omega) (by omega) (by omega) hcl2 e) rfl rfl ⟨Nat.le_of_ble_eq_true rfl, Nat.le_of_ble_eq_true rfl⟩ ⟨by show _ + 9 ≤ 600104; omega, by show _ + 418 ≤ 7301314; omega⟩ (by exact Nat.le_of_ble_eq_true rfl) (fun v1601 h1601 p1601 => ?_)
    obtain ⟨rfl, H1601⟩ := p1601
    dsimp only [gk_push]
    refine gk_istore_10 C rfl (by exact Nat.le_of_ble_eq_true rfl) dL_law_811 ?_
    refine gk_iload C dL_law_813 rfl ?_
    refine gk_ldc C cn_L_91 dL_law_815 ?_
    refine gk_icmp_eq C (tgt := 835) (by omega) (by omega) dL_law_817 (by decide) (fun c_817 => ?_) (fun c_817 => ?_)
    · exact absurd c_817 (by omega)
    refine gk_iload C dL_law_820 rfl ?_
    refine gk_iconst C dL_law_822 ?_
    refine gk_icmp_lt C (tgt := 833) (by omega) (by omega) dL_law_823 (by decide) (fun c_823 => ?_) (fun c_823 => ?_)
    · exact absurd c_823 (by omega)
    refine gk_iload C dL_law_826 rfl ?_
    refine gk_iload C dL_law_828 rfl ?_
    refine gk_icmp_le C (tgt := 835) (by omega) (by omega) dL_law_830 (by decide) (fun c_830 => ?_) (fun c_830 => ?_)
    rotate_left
    · exact absurd c_830 (by omega)
    refine gk_iconst C dL_law_835 ?_
    refine gk_istore_11 C rfl (by exact Nat.le_of_ble_eq_true rfl) dL_law_836 ?_
    have key : ∀ (d m : Nat) (σ3 : ST) (h3 : Hp) (k3 n3 : Nat), m + d = 32 → HD Γ x σ3 h3 → opB σ3 = 1 → MI σ3 m → sameB σ σ3 → σ3.2.2.2.2 = σ.2.2.2.2 → k3 ≤ k + 9 + 9 * m → n3 ≤ n + 418 + 418 * m → G 838 [some (.ref sb), some (.ref x), some (iv t), some (iv p), some (iv b), some (iv kk), some (iv xx), some (iv w), some (iv y), some (iv z), some (iv r), some (iv (m : Int)), u12, u13, u14] [] h3 k3 n3 := by
      intro d
      induction d with
      | zero =>
        intro m σ3 h3 k3 n3 hm H3 ho3 M3 sb3 hc3 hk3 hn3
        have em : m = 32 := by omega
        subst em
        have wf3 := H3.wf
        have hcl3 : σ3.2.2.2.2 ≤ 10000 := by omega
        have hcnt3 : ((nB σ3 : Nat) : Int) = ((nB σ : Nat) : Int) := by rw [sb3.2.2.2]
        obtain ⟨rc, σ4, e4, hrc, g2, ⟨su, g3, hsu⟩, ho4, sb4, hc4⟩ := f_close wf3 ho3 M3
        have hcnt4 : ((nB σ4 : Nat) : Int) = ((nB σ : Nat) : Int) := by rw [sb4.2.2.2, sb3.2.2.2]
        refine gk_iload C dL_law_838 rfl ?_
        refine gk_bipush C dL_law_840 (by decide) ?_
        refine gk_icmp_ge C (tgt := 903) (by omega) (by omega) dL_law_842 (by decide) (fun c_842 => ?_) (fun c_842 => ?_)
        rotate_left
        · exact absurd c_842 (by omega)
        refine gk_aload_n C dL_law_903 rfl ?_
        refine gk_bipush C dL_law_904 (by decide) ?_
        refine gk_iconst C dL_law_906 ?_
        refine gk_iconst C dL_law_907 ?_
        refine gk_iconst C dL_law_908 ?_
        refine gk_iconst C dL_law_909 ?_
        refine gk_callSH C o_L_act k_L_100 dL_law_910 (act_e hfl H3 (w := 19) (a := (0)) (b := (0)) (c := (0)) (d := (0)) (r := rc) rfl (by omega) (by omega) (by omega) (by omega) (by omega) hcl3 e4) rfl rfl ⟨Nat.le_of_ble_eq_true rfl, Nat.le_of_ble_eq_true rfl⟩ ⟨by show _ + 9 ≤ 600104; omega, by show _ + 418 ≤ 7301314; omega⟩ (by exact Nat.le_of_ble_eq_true rfl) (fun v1701 h1701 p1701 => ?_)
        obtain ⟨rfl, H1701⟩ := p1701
        dsimp only [gk_push]
        refine gk_istore_11 C rfl (by exact Nat.le_of_ble_eq_true rfl) dL_law_913 ?_
        refine gk_iload C dL_law_915 rfl ?_
        refine gk_iconst C dL_law_917 ?_
        refine gk_icmp_le C (tgt := 951) (by omega) (by omega) dL_law_918 (by decide) (fun c_918 => ?_) (fun c_918 => ?_)
        · exact absurd c_918 (by omega)
        refine gk_iload C dL_law_921 rfl ?_
        refine gk_if_lt C (tgt := 958) (by omega) dL_law_923 (by decide) (fun c_923 => ?_) (fun c_923 => ?_)
        · exact absurd c_923 (by omega)
        refine gk_aload_n C dL_law_926 rfl ?_
        refine gk_iload C dL_law_927 rfl ?_
        refine gk_iconst C dL_law_929 ?_
        obtain ⟨fs1702, ob1702⟩ := H1701.obj
        refine gk_callV C o_X4_ofBand k_L_80 dL_law_930 (HC.dir (r := 1) (σ2 := σ4) (h_ofBand hfl H1701 (b := rc) (w := (2)) (by omega) (by omega)) g2 (by omega)) ob1702 rfl rfl rfl ⟨Nat.le_of_ble_eq_true rfl, Nat.le_of_ble_eq_true rfl⟩ ⟨by show _ + 2 ≤ 600104; omega, by show _ + 12 ≤ 7301314; omega⟩ (by exact Nat.le_of_ble_eq_true rfl) (fun _ _ z => z.elim) (fun v1702 h1702 p1702 => ?_)
        obtain ⟨rfl, H1702⟩ := p1702
        dsimp only [gk_push]
        clear ob1702
        refine gk_iconst C dL_law_933 ?_
        refine gk_icmp_ne C (tgt := 958) (by omega) (by omega) dL_law_934 (by decide) (fun c_934 => ?_) (fun c_934 => ?_)
        · exact absurd c_934 (by omega)
        refine gk_aload_n C dL_law_937 rfl ?_
        refine gk_iload C dL_law_938 rfl ?_
        refine gk_iconst C dL_law_940 ?_
        obtain ⟨fs1703, ob1703⟩ := H1702.obj
        refine gk_callV C o_X4_ofBand k_L_80 dL_law_941 (HC.dir (r := su) (σ2 := σ4) (h_ofBand hfl H1702 (b := rc) (w := (3)) (by omega) (by omega)) g3 (by omega)) ob1703 rfl rfl rfl ⟨Nat.le_of_ble_eq_true rfl, Nat.le_of_ble_eq_true rfl⟩ ⟨by show _ + 2 ≤ 600104; omega, by show _ + 12 ≤ 7301314; omega⟩ (by exact Nat.le_of_ble_eq_true rfl) (fun _ _ z => z.elim) (fun v1703 h1703 p1703 => ?_)
        obtain ⟨rfl, H1703⟩ := p1703
        dsimp only [gk_push]
        clear ob1703
        refine gk_iconst C dL_law_944 ?_
        refine gk_icmp_ge C (tgt := 960) (by omega) (by omega) dL_law_945 (by decide) (fun c_945 => ?_) (fun c_945 => ?_)
        rotate_left
        · exact absurd c_945 (by omega)
        refine gk_goto C (tgt := 1015) dL_law_960 (by decide) ?_
        exact back σ4 _ _ _ _ _ _ _ _ _ _ _ H1703 (ct_B (sameB.tr sb3 sb4).1 (sameB.tr sb3 sb4).2.2.1 hct (by omega) ho4) (by rw [hc4, hc3]; exact Nat.le_refl _) (by omega) (by omega)
      | succ d ih =>
        intro m σ3 h3 k3 n3 hm H3 ho3 M3 sb3 hc3 hk3 hn3
        have wf3 := H3.wf
        have hcl3 : σ3.2.2.2.2 ≤ 10000 := by omega
        have hcnt3 : nB σ3 = nB σ := sb3.2.2.2
        have e4 : (m : Int) % 4 = ((m % 4 : Nat) : Int) := by omega
        have e5 : (m : Int) / 4 = ((m / 4 : Nat) : Int) := by omega
        by_cases cb : ((m / 4 : Nat) : Int) < ((nB σ3 : Nat) : Int)
        · obtain ⟨rm, σ4, e6, hrm, ho4, M4, sb4, hc4⟩ := f_mark wf3 ho3 M3 (by omega) (bd := ((m / 4 : Nat) : Int)) (mk := (y + 7 * (m : Int)) % 101) (by rw [if_pos cb]) (by omega)
          refine gk_iload C dL_law_838 rfl ?_
          refine gk_bipush C dL_law_840 (by decide) ?_
          refine gk_icmp_ge C (tgt := 903) (by omega) (by omega) dL_law_842 (by decide) (fun c_842 => ?_) (fun c_842 => ?_)
          · exact absurd c_842 (by omega)
          refine gk_iload C dL_law_845 rfl ?_
          refine gk_iconst C dL_law_847 ?_
          refine gk_icmp_le C (tgt := 903) (by omega) (by omega) dL_law_848 (by decide) (fun c_848 => ?_) (fun c_848 => ?_)
          · exact absurd c_848 (by omega)
          refine gk_aload_n C dL_law_851 rfl ?_
          refine gk_bipush C dL_law_852 (by decide) ?_
          refine gk_iload C dL_law_854 rfl ?_
          refine gk_iconst C dL_law_856 ?_
          refine gk_irem C (by omega) (by omega) dL_law_857 ?_
          rw [e4]
          refine gk_iload C dL_law_858 rfl ?_
          refine gk_iconst C dL_law_860 ?_
          refine gk_idiv C (by omega) (by omega) dL_law_861 ?_
          rw [e5]
          refine gk_iload C dL_law_862 rfl ?_
          refine gk_icmp_ge C (tgt := 874) (by omega) (by omega) dL_law_864 (by decide) (fun c_864 => ?_) (fun c_864 => ?_)
          · exact absurd c_864 (by omega)
          refine gk_iload C dL_law_867 rfl ?_
          refine gk_iconst C dL_law_869 ?_
          refine gk_idiv C (by omega) (by omega) dL_law_870 ?_
          rw [e5]
          refine gk_goto C (tgt := 875) dL_law_871 (by decide) ?_
          refine gk_iload C dL_law_875 rfl ?_
          refine gk_bipush C dL_law_877 (by decide) ?_
          refine gk_iload C dL_law_879 rfl ?_
          refine gk_imul C dL_law_881 ?_
          refine gk_iadd C dL_law_882 ?_
          refine gk_bipush C dL_law_883 (by decide) ?_
          refine gk_irem C (by omega) (by omega) dL_law_885 ?_
          refine gk_iconst C dL_law_886 ?_
          refine gk_callSH C o_L_act k_L_100 dL_law_887 (act_e hfl H3 (w := 18) (a := ((m % 4 : Nat) : Int)) (b := ((m / 4 : Nat) : Int)) (c := ((y + ((7) * (m : Int))) % (101))) (d := (0)) (r := rm) rfl (by omega) (by omega) (by omega) (by omega) (by omega) hcl3 e6) rfl rfl ⟨Nat.le_of_ble_eq_true rfl, Nat.le_of_ble_eq_true rfl⟩ ⟨by show _ + 9 ≤ 600104; omega, by show _ + 418 ≤ 7301314; omega⟩ (by exact Nat.le_of_ble_eq_true rfl) (fun v1801 h1801 p1801 => ?_)
          obtain ⟨rfl, H1801⟩ := p1801
          dsimp only [gk_push]
          refine gk_ldc C cn_L_88 dL_law_890 ?_
          refine gk_icmp_ne C (tgt := 897) (by omega) (by omega) dL_law_892 (by decide) (fun c_892 => ?_) (fun c_892 => ?_)
          rotate_left
          · exact absurd c_892 (by omega)
          refine gk_iinc_11 C rfl (by exact Nat.le_of_ble_eq_true rfl) dL_law_897 ?_
          refine gk_goto C (tgt := 838) dL_law_900 (by decide) ?_
          rw [show ((m : Int) + 1) = ((m + 1 : Nat) : Int) by omega]
          exact ih (m + 1) σ4 _ _ _ (by omega) H1801 ho4 M4 (sameB.tr sb3 sb4) (hc4.trans hc3) (by omega) (by omega)
        · obtain ⟨rm, σ4, e6, hrm, ho4, M4, sb4, hc4⟩ := f_mark wf3 ho3 M3 (by omega) (bd := 0) (mk := (y + 7 * (m : Int)) % 101) (by rw [if_neg cb]) (by omega)
          refine gk_iload C dL_law_838 rfl ?_
          refine gk_bipush C dL_law_840 (by decide) ?_
          refine gk_icmp_ge C (tgt := 903) (by omega) (by omega) dL_law_842 (by decide) (fun c_842 => ?_) (fun c_842 => ?_)
          · exact absurd c_842 (by omega)
          refine gk_iload C dL_law_845 rfl ?_
          refine gk_iconst C dL_law_847 ?_
          refine gk_icmp_le C (tgt := 903) (by omega) (by omega) dL_law_848 (by decide) (fun c_848 => ?_) (fun c_848 => ?_)
          · exact absurd c_848 (by omega)
          refine gk_aload_n C dL_law_851 rfl ?_
          refine gk_bipush C dL_law_852 (by decide) ?_
          refine gk_iload C dL_law_854 rfl ?_
          refine gk_iconst C dL_law_856 ?_
          refine gk_irem C (by omega) (by omega) dL_law_857 ?_
          rw [e4]
          refine gk_iload C dL_law_858 rfl ?_
          refine gk_iconst C dL_law_860 ?_
          refine gk_idiv C (by omega) (by omega) dL_law_861 ?_
          rw [e5]
          refine gk_iload C dL_law_862 rfl ?_
          refine gk_icmp_ge C (tgt := 874) (by omega) (by omega) dL_law_864 (by decide) (fun c_864 => ?_) (fun c_864 => ?_)
          rotate_left
          · exact absurd c_864 (by omega)
          refine gk_iconst C dL_law_874 ?_
          refine gk_iload C dL_law_875 rfl ?_
          refine gk_bipush C dL_law_877 (by decide) ?_
          refine gk_iload C dL_law_879 rfl ?_
          refine gk_imul C dL_law_881 ?_
          refine gk_iadd C dL_law_882 ?_
          refine gk_bipush C dL_law_883 (by decide) ?_
          refine gk_irem C (by omega) (by omega) dL_law_885 ?_
          refine gk_iconst C dL_law_886 ?_
          refine gk_callSH C o_L_act k_L_100 dL_law_887 (act_e hfl H3 (w := 18) (a := ((m % 4 : Nat) : Int)) (b := (0)) (c := ((y + ((7) * (m : Int))) % (101))) (d := (0)) (r := rm) rfl (by omega) (by omega) (by omega) (by omega) (by omega) hcl3 e6) rfl rfl ⟨Nat.le_of_ble_eq_true rfl, Nat.le_of_ble_eq_true rfl⟩ ⟨by show _ + 9 ≤ 600104; omega, by show _ + 418 ≤ 7301314; omega⟩ (by exact Nat.le_of_ble_eq_true rfl) (fun v1901 h1901 p1901 => ?_)
          obtain ⟨rfl, H1901⟩ := p1901
          dsimp only [gk_push]
          refine gk_ldc C cn_L_88 dL_law_890 ?_
          refine gk_icmp_ne C (tgt := 897) (by omega) (by omega) dL_law_892 (by decide) (fun c_892 => ?_) (fun c_892 => ?_)
          rotate_left
          · exact absurd c_892 (by omega)
          refine gk_iinc_11 C rfl (by exact Nat.le_of_ble_eq_true rfl) dL_law_897 ?_
          refine gk_goto C (tgt := 838) dL_law_900 (by decide) ?_
          rw [show ((m : Int) + 1) = ((m + 1 : Nat) : Int) by omega]
          exact ih (m + 1) σ4 _ _ _ (by omega) H1901 ho4 M4 (sameB.tr sb3 sb4) (hc4.trans hc3) (by omega) (by omega)
    exact key 32 0 σ2 _ _ _ (by omega) H1601 ho (fun q hq => absurd hq (Nat.not_lt_zero q)) sbX hc (by omega) (by omega)
  · skip
    refine gk_aload_n C dL_law_796 rfl ?_
    refine gk_bipush C dL_law_797 (by decide) ?_
    refine gk_iconst C dL_law_799 ?_
    refine gk_iload C dL_law_800 rfl ?_
    refine gk_iconst C dL_law_802 ?_
    refine gk_irem C (by omega) (by omega) dL_law_803 ?_
    refine gk_iadd C dL_law_804 ?_
    refine gk_iconst C dL_law_805 ?_
    refine gk_iconst C dL_law_806 ?_
    refine gk_iconst C dL_law_807 ?_
    refine gk_callSH C o_L_act k_L_100 dL_law_808 (act_e hfl H (w := 17) (a := ((1) + (y % (5)))) (b := (0)) (c := (0)) (d := (0)) (r := (-7000003)) rfl (by omega) (by omega) (by omega) (by omega) (by omega) hcl2 e) rfl rfl ⟨Nat.le_of_ble_eq_true rfl, Nat.le_of_ble_eq_true rfl⟩ ⟨by show _ + 9 ≤ 600104; omega, by show _ + 418 ≤ 7301314; omega⟩ (by exact Nat.le_of_ble_eq_true rfl) (fun v2001 h2001 p2001 => ?_)
    obtain ⟨rfl, H2001⟩ := p2001
    dsimp only [gk_push]
    refine gk_istore_10 C rfl (by exact Nat.le_of_ble_eq_true rfl) dL_law_811 ?_
    refine gk_iload C dL_law_813 rfl ?_
    refine gk_ldc C cn_L_91 dL_law_815 ?_
    refine gk_icmp_eq C (tgt := 835) (by omega) (by omega) dL_law_817 (by decide) (fun c_817 => ?_) (fun c_817 => ?_)
    rotate_left
    · exact absurd c_817 (by omega)
    refine gk_iconst C dL_law_835 ?_
    refine gk_istore_11 C rfl (by exact Nat.le_of_ble_eq_true rfl) dL_law_836 ?_
    refine gk_iload C dL_law_838 rfl ?_
    refine gk_bipush C dL_law_840 (by decide) ?_
    refine gk_icmp_ge C (tgt := 903) (by omega) (by omega) dL_law_842 (by decide) (fun c_842 => ?_) (fun c_842 => ?_)
    · exact absurd c_842 (by omega)
    refine gk_iload C dL_law_845 rfl ?_
    refine gk_iconst C dL_law_847 ?_
    refine gk_icmp_le C (tgt := 903) (by omega) (by omega) dL_law_848 (by decide) (fun c_848 => ?_) (fun c_848 => ?_)
    rotate_left
    · exact absurd c_848 (by omega)
    refine gk_aload_n C dL_law_903 rfl ?_
    refine gk_bipush C dL_law_904 (by decide) ?_
    refine gk_iconst C dL_law_906 ?_
    refine gk_iconst C dL_law_907 ?_
    refine gk_iconst C dL_law_908 ?_
    refine gk_iconst C dL_law_909 ?_
    refine gk_callSH C o_L_act k_L_100 dL_law_910 (act_e hfl H2001 (w := 19) (a := (0)) (b := (0)) (c := (0)) (d := (0)) (r := (-7000003)) rfl (by omega) (by omega) (by omega) (by omega) (by omega) hcl2 (f_close0 hop)) rfl rfl ⟨Nat.le_of_ble_eq_true rfl, Nat.le_of_ble_eq_true rfl⟩ ⟨by show _ + 9 ≤ 600104; omega, by show _ + 418 ≤ 7301314; omega⟩ (by exact Nat.le_of_ble_eq_true rfl) (fun v2002 h2002 p2002 => ?_)
    obtain ⟨rfl, H2002⟩ := p2002
    dsimp only [gk_push]
    refine gk_istore_11 C rfl (by exact Nat.le_of_ble_eq_true rfl) dL_law_913 ?_
    refine gk_iload C dL_law_915 rfl ?_
    refine gk_iconst C dL_law_917 ?_
    refine gk_icmp_le C (tgt := 951) (by omega) (by omega) dL_law_918 (by decide) (fun c_918 => ?_) (fun c_918 => ?_)
    rotate_left
    · exact absurd c_918 (by omega)
    refine gk_iload C dL_law_951 rfl ?_
    refine gk_ldc C cn_L_91 dL_law_953 ?_
    refine gk_icmp_eq C (tgt := 960) (by omega) (by omega) dL_law_955 (by decide) (fun c_955 => ?_) (fun c_955 => ?_)
    rotate_left
    · exact absurd c_955 (by omega)
    refine gk_goto C (tgt := 1015) dL_law_960 (by decide) ?_
    exact back σ _ _ _ _ _ _ _ _ _ _ _ H2002 hct (Nat.le_succ _) (by omega) (by omega)
