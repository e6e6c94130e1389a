/-! what there is not is refused -/
section RF
variable {σ : ST} {a b c d : Int}
theorem rfA0 (h : ¬ (0 ≤ a ∧ a ≤ 3)) : stp σ 0 a b c d = (eA, σ) := if_neg h
theorem rfI1 (h : ¬ (0 ≤ a ∧ a < ((σ.1.1 : Nat) : Int))) : stp σ 1 a b c d = (eI, σ) := if_neg h
theorem rfA1 (h1 : 0 ≤ a ∧ a < ((σ.1.1 : Nat) : Int)) (h : ¬ ((0 ≤ b ∧ b ≤ 8) ∧ (1 ≤ c ∧ c ≤ 16) ∧ (0 ≤ d ∧ d ≤ 8))) : stp σ 1 a b c d = (eA, σ) := (if_pos h1).trans (if_neg h)
theorem rfI2 (h : ¬ (0 ≤ a ∧ a < ((σ.1.1 : Nat) : Int))) : stp σ 2 a b c d = (eI, σ) := if_neg h
theorem rfI3 (h : ¬ (0 ≤ a ∧ a < ((σ.1.1 : Nat) : Int))) : stp σ 3 a b c d = (eI, σ) := if_neg h
theorem rfJ3 (wf : WF σ) (h1 : 0 ≤ a ∧ a < ((σ.1.1 : Nat) : Int)) (h : b < 0 ∨ 128 < b) : stp σ 3 a b c d = (eI, σ) := by
  have h2 := wf.T a.toNat (by omega)
  have h3 := h2.2.1
  have h4 := h2.2.2.1
  have h5 := h2.2.2.2.2.1
  have h6 : tPl (gT σ a) ≤ 128 := by show tPl (σ.1.2.2 a.toNat) ≤ 128; omega
  exact (if_pos h1).trans (if_neg (by omega))
theorem rfI4 (h : ¬ (0 ≤ a ∧ a < ((σ.1.1 : Nat) : Int))) : stp σ 4 a b c d = (eI, σ) := if_neg h
theorem rfA4 (h1 : 0 ≤ a ∧ a < ((σ.1.1 : Nat) : Int)) (h : ¬ (0 ≤ b ∧ b ≤ 6)) : stp σ 4 a b c d = (eA, σ) := (if_pos h1).trans (if_neg h)
theorem rfI5 (h : ¬ ((0 ≤ a ∧ a < ((σ.1.1 : Nat) : Int)) ∧ (0 ≤ b ∧ b < ((σ.1.1 : Nat) : Int)))) : stp σ 5 a b c d = (eI, σ) := if_neg h
theorem rfI6 (h : ¬ ((0 ≤ a ∧ a < ((σ.1.1 : Nat) : Int)) ∧ (0 ≤ b ∧ b < ((σ.1.1 : Nat) : Int)))) : stp σ 6 a b c d = (eI, σ) := if_neg h
theorem rfI7 (h : ¬ (0 ≤ a ∧ a < ((σ.1.1 : Nat) : Int))) : stp σ 7 a b c d = (eI, σ) := if_neg h
theorem rfA7 (h1 : 0 ≤ a ∧ a < ((σ.1.1 : Nat) : Int)) (h : ¬ (30 ≤ b ∧ b ≤ 600)) : stp σ 7 a b c d = (eA, σ) := (if_pos h1).trans (if_neg h)
theorem rfA9 (h : ¬ ((-100 ≤ a ∧ a ≤ 100) ∧ (10 ≤ b ∧ b ≤ 40) ∧ (0 ≤ c ∧ c ≤ 9))) : stp σ 9 a b c d = (eA, σ) := if_neg h
theorem rfI10 (h : ¬ (0 ≤ a ∧ a < ((σ.2.2.1.1 : Nat) : Int))) : stp σ 10 a b c d = (eI, σ) := if_neg h
theorem rfA10 (h1 : 0 ≤ a ∧ a < ((σ.2.2.1.1 : Nat) : Int)) (h : ¬ (-100 ≤ b ∧ b ≤ 100)) : stp σ 10 a b c d = (eA, σ) := (if_pos h1).trans (if_neg (fun z => h z.1))
theorem rfI11 (h : ¬ (0 ≤ a ∧ a < ((σ.2.2.1.1 : Nat) : Int))) : stp σ 11 a b c d = (eI, σ) := if_neg h
theorem rfA12 (h : ¬ ((1 ≤ a ∧ a ≤ 120) ∧ (0 ≤ b ∧ b ≤ 9) ∧ (0 ≤ c ∧ c ≤ 40))) : stp σ 12 a b c d = (eA, σ) := if_neg h
theorem rfI13 (h : ¬ (0 ≤ a ∧ a < ((σ.2.2.1.1 : Nat) : Int))) : stp σ 13 a b c d = (eI, σ) := if_neg h
theorem rfA13 (h1 : 0 ≤ a ∧ a < ((σ.2.2.1.1 : Nat) : Int)) (h : ¬ (0 ≤ b ∧ b ≤ 5)) : stp σ 13 a b c d = (eA, σ) := (if_pos h1).trans (if_neg h)
theorem rfI14 (h : ¬ ((0 ≤ a ∧ a < ((σ.2.2.1.1 : Nat) : Int)) ∧ (0 ≤ b ∧ b < ((σ.2.2.1.1 : Nat) : Int)))) : stp σ 14 a b c d = (eI, σ) := if_neg h
theorem rfA15 (h : ¬ ((1 ≤ a ∧ a ≤ 120) ∧ (0 ≤ b ∧ b ≤ 9) ∧ (0 ≤ c ∧ c ≤ 40))) : stp σ 15 a b c d = (eA, σ) := if_neg h
theorem rfA16 (h : ¬ (1 ≤ a ∧ a ≤ 5)) : stp σ 16 a b c d = (eA, σ) := if_neg h
theorem rfA17 (h : ¬ (1 ≤ a ∧ a ≤ 5)) : stp σ 17 a b c d = (eA, σ) := if_neg h
theorem rfI18 (h : ¬ ((0 ≤ a ∧ a ≤ 3) ∧ (0 ≤ b ∧ b < ((σ.2.2.2.1.1 : Nat) : Int)))) : stp σ 18 a b c d = (eI, σ) := if_neg h
theorem rfA18 (h1 : (0 ≤ a ∧ a ≤ 3) ∧ (0 ≤ b ∧ b < ((σ.2.2.2.1.1 : Nat) : Int))) (h : ¬ (0 ≤ c ∧ c ≤ 100)) : stp σ 18 a b c d = (eA, σ) := (if_pos h1).trans (if_neg h)
theorem rfI21 (h : ¬ (0 ≤ a ∧ a < ((σ.2.2.2.1.1 : Nat) : Int))) : stp σ 21 a b c d = (eI, σ) := if_neg h
theorem rfA21 (h1 : 0 ≤ a ∧ a < ((σ.2.2.2.1.1 : Nat) : Int)) (h : ¬ (0 ≤ b ∧ b ≤ 4)) : stp σ 21 a b c d = (eA, σ) := (if_pos h1).trans (if_neg h)
theorem time_bd (wf : WF σ) : ∀ k : Nat, k ≤ σ.2.1.2.1 → 0 ≤ xTime σ.1 σ.2.1 k ∧ xTime σ.1 σ.2.1 k ≤ 122880000 * k
  | 0, _ => by
    show 0 ≤ (0 : Int) ∧ (0 : Int) ≤ 122880000 * ((0 : Nat) : Int)
    omega
  | k + 1, hk => by
    have ih := time_bd wf k (by omega)
    obtain ⟨y1, y2, y3, y4⟩ := wf.2.1.2.2 k (by omega)
    have tb := tUt_bd (wf.T _ y1)
    have h1 : 0 ≤ 60000 * tUt (σ.1.2.2 (σ.2.1.2.2.2.1 k)) / σ.2.1.2.2.2.2 k := Int.ediv_nonneg (by omega) (by omega)
    have h2 : 60000 * tUt (σ.1.2.2 (σ.2.1.2.2.2.1 k)) / σ.2.1.2.2.2.2 k ≤ 60000 * tUt (σ.1.2.2 (σ.2.1.2.2.2.1 k)) := Int.ediv_le_self _ (by omega)
    show 0 ≤ xTime σ.1 σ.2.1 k + 60000 * tUt (σ.1.2.2 (σ.2.1.2.2.2.1 k)) / σ.2.1.2.2.2.2 k ∧ xTime σ.1 σ.2.1 k + 60000 * tUt (σ.1.2.2 (σ.2.1.2.2.2.1 k)) / σ.2.1.2.2.2.2 k ≤ 122880000 * ((k + 1 : Nat) : Int)
    omega
theorem sTime_bd (wf : WF σ) : 0 ≤ (sTime σ).1 ∧ (sTime σ).1 ≤ 1000000000 := by
  have h := time_bd wf σ.2.1.2.1 (Nat.le_refl _)
  have h8 := wf.2.1.1
  show 0 ≤ xTime σ.1 σ.2.1 σ.2.1.2.1 ∧ xTime σ.1 σ.2.1 σ.2.1.2.1 ≤ 1000000000
  omega
theorem sSpread_bd (wf : WF σ) : -2000000 ≤ (sSpread σ).1 ∧ (sSpread σ).1 ≤ 2000000 := gSp_bd wf.2.2.1.2
end RF

set_option maxRecDepth 100000 in
set_option maxHeartbeats 8000000 in
theorem rf_0 {l : Launch} {Γ : GA} {G : GP} {X : String → Hp → Nat → Nat → Prop} {x : Nat} {σ : ST} {h : Hp} {k n : Nat} {t p b sp ti : Int} {u9 u10 u11 u12 u13 u14 u15 u16 u17 : Option Value} (C : Cx l Γ m_L_refuses G X) (hfl : l.stackTraces = false) (H : HD Γ x σ h) (ht : t = ((σ.1.1 : Nat) : Int)) (hp : p = ((σ.2.2.1.1 : Nat) : Int)) (hb : b = ((σ.2.2.2.1.1 : Nat) : Int)) (ht1 : t ≤ 10) (hp1 : p ≤ 8) (hb1 : b ≤ 8) (hcl : σ.2.2.2.2 ≤ 10000) (hk : k ≤ 0) (hn : n ≤ 0)
    (fin : ∀ (u9 u10 u11 u12 u13 u14 u15 u16 u17 : Option Value) (h2 : Hp) (k2 n2 : Nat), HD Γ x σ h2 → k2 ≤ 360 → n2 ≤ 16400 → G 19 [some (.ref x), some (iv t), some (iv p), some (iv b), some (iv 2147483647), some (iv sp), some (jv ti), none, some (iv 1), u9, u10, u11, u12, u13, u14, u15, u16, u17] [] h2 k2 n2) : G 19 [some (.ref x), some (iv t), some (iv p), some (iv b), some (iv 2147483647), some (iv sp), some (jv ti), none, some (iv 0), u9, u10, u11, u12, u13, u14, u15, u16, u17] [] h k n := by
  refine gk_iload C dL_refuses_19 rfl ?_
  refine gk_iconst C dL_refuses_21 ?_
  refine gk_icmp_ge C (tgt := 1082) (by omega) (by omega) dL_refuses_22 (by decide) (fun c_22 => ?_) (fun c_22 => ?_)
  · exact absurd c_22 (by omega)
  refine gk_iload C dL_refuses_25 rfl ?_
  refine gk_if_ne C (tgt := 34) (by omega) dL_refuses_27 (by decide) (fun c_27 => ?_) (fun c_27 => ?_)
  · exact absurd c_27 (by omega)
  refine gk_iconst C dL_refuses_30 ?_
  refine gk_goto C (tgt := 50) dL_refuses_31 (by decide) ?_
  refine gk_istore_9 C rfl (by exact Nat.le_of_ble_eq_true rfl) dL_refuses_50 ?_
  refine gk_iload C dL_refuses_52 rfl ?_
  refine gk_iconst C dL_refuses_54 ?_
  refine gk_icmp_ne C (tgt := 62) (by omega) (by omega) dL_refuses_55 (by decide) (fun c_55 => ?_) (fun c_55 => ?_)
  rotate_left
  · exact absurd c_55 (by omega)
  refine gk_iload C dL_refuses_62 rfl ?_
  refine gk_istore_10 C rfl (by exact Nat.le_of_ble_eq_true rfl) dL_refuses_64 ?_
  refine gk_iload C dL_refuses_66 rfl ?_
  refine gk_iconst C dL_refuses_68 ?_
  refine gk_icmp_ne C (tgt := 76) (by omega) (by omega) dL_refuses_69 (by decide) (fun c_69 => ?_) (fun c_69 => ?_)
  rotate_left
  · exact absurd c_69 (by omega)
  refine gk_iload C dL_refuses_76 rfl ?_
  refine gk_istore_11 C rfl (by exact Nat.le_of_ble_eq_true rfl) dL_refuses_78 ?_
  refine gk_iload C dL_refuses_80 rfl ?_
  refine gk_iconst C dL_refuses_82 ?_
  refine gk_icmp_ne C (tgt := 90) (by omega) (by omega) dL_refuses_83 (by decide) (fun c_83 => ?_) (fun c_83 => ?_)
  rotate_left
  · exact absurd c_83 (by omega)
  refine gk_iload C dL_refuses_90 rfl ?_
  refine gk_istore_12 C rfl (by exact Nat.le_of_ble_eq_true rfl) dL_refuses_92 ?_
  refine gk_iload C dL_refuses_94 rfl ?_
  refine gk_iconst C dL_refuses_96 ?_
  refine gk_icmp_ne C (tgt := 104) (by omega) (by omega) dL_refuses_97 (by decide) (fun c_97 => ?_) (fun c_97 => ?_)
  rotate_left
  · exact absurd c_97 (by omega)
  refine gk_iload C dL_refuses_104 rfl ?_
  refine gk_istore_13 C rfl (by exact Nat.le_of_ble_eq_true rfl) dL_refuses_106 ?_
  refine gk_iload C dL_refuses_108 rfl ?_
  refine gk_iconst C dL_refuses_110 ?_
  refine gk_icmp_ne C (tgt := 119) (by omega) (by omega) dL_refuses_111 (by decide) (fun c_111 => ?_) (fun c_111 => ?_)
  rotate_left
  · exact absurd c_111 (by omega)
  refine gk_iload C dL_refuses_119 rfl ?_
  refine gk_istore_14 C rfl (by exact Nat.le_of_ble_eq_true rfl) dL_refuses_121 ?_
  refine gk_iload C dL_refuses_123 rfl ?_
  refine gk_if_ne C (tgt := 132) (by omega) dL_refuses_125 (by decide) (fun c_125 => ?_) (fun c_125 => ?_)
  · exact absurd c_125 (by omega)
  refine gk_iconst C dL_refuses_128 ?_
  refine gk_goto C (tgt := 145) dL_refuses_129 (by decide) ?_
  refine gk_istore_15 C rfl (by exact Nat.le_of_ble_eq_true rfl) dL_refuses_145 ?_
  refine gk_aload_n C dL_refuses_147 rfl ?_
  refine gk_iconst C dL_refuses_148 ?_
  refine gk_iload C dL_refuses_149 rfl ?_
  refine gk_iconst C dL_refuses_151 ?_
  refine gk_iconst C dL_refuses_152 ?_
  refine gk_iconst C dL_refuses_153 ?_
  refine gk_callSH C o_L_act k_L_100 dL_refuses_154 (act_e hfl H (w := 0) (a := (-1)) (b := (0)) (c := (0)) (d := (0)) (r := -7000002) rfl (by omega) (by omega) (by omega) (by omega) (by omega) hcl (rfA0 (by omega))) rfl rfl ⟨Nat.le_of_ble_eq_true rfl, Nat.le_of_ble_eq_true rfl⟩ ⟨by show _ + 9 ≤ 1600; omega, by show _ + 418 ≤ 70000; omega⟩ (by exact Nat.le_of_ble_eq_true rfl) (fun v1 h1 p1 => ?_)
  obtain ⟨rfl, H1⟩ := p1
  dsimp only [gk_push]
  clear H
  refine gk_ldc C cn_L_88 dL_refuses_157 ?_
  refine gk_icmp_ne C (tgt := 696) (by omega) (by omega) dL_refuses_159 (by decide) (fun c_159 => ?_) (fun c_159 => ?_)
  · exact absurd c_159 (by omega)
  refine gk_aload_n C dL_refuses_162 rfl ?_
  refine gk_iconst C dL_refuses_163 ?_
  refine gk_iload C dL_refuses_164 rfl ?_
  refine gk_bipush C dL_refuses_166 (by decide) ?_
  refine gk_iconst C dL_refuses_168 ?_
  refine gk_iconst C dL_refuses_169 ?_
  refine gk_callSH C o_L_act k_L_100 dL_refuses_170 (act_e hfl H1 (w := 1) (a := (-1)) (b := (99)) (c := (0)) (d := (0)) (r := -7000001) rfl (by omega) (by omega) (by omega) (by omega) (by omega) hcl (rfI1 (by omega))) rfl rfl ⟨Nat.le_of_ble_eq_true rfl, Nat.le_of_ble_eq_true rfl⟩ ⟨by show _ + 9 ≤ 1600; omega, by show _ + 418 ≤ 70000; omega⟩ (by exact Nat.le_of_ble_eq_true rfl) (fun v2 h2 p2 => ?_)
  obtain ⟨rfl, H2⟩ := p2
  dsimp only [gk_push]
  clear H1
  refine gk_ldc C cn_L_85 dL_refuses_173 ?_
  refine gk_icmp_ne C (tgt := 696) (by omega) (by omega) dL_refuses_175 (by decide) (fun c_175 => ?_) (fun c_175 => ?_)
  · exact absurd c_175 (by omega)
  refine gk_aload_n C dL_refuses_178 rfl ?_
  refine gk_iconst C dL_refuses_179 ?_
  refine gk_iload C dL_refuses_180 rfl ?_
  refine gk_iconst C dL_refuses_182 ?_
  refine gk_iconst C dL_refuses_183 ?_
  refine gk_iconst C dL_refuses_184 ?_
  refine gk_callSH C o_L_act k_L_100 dL_refuses_185 (act_e hfl H2 (w := 2) (a := (-1)) (b := (1)) (c := (0)) (d := (0)) (r := -7000001) rfl (by omega) (by omega) (by omega) (by omega) (by omega) hcl (rfI2 (by omega))) rfl rfl ⟨Nat.le_of_ble_eq_true rfl, Nat.le_of_ble_eq_true rfl⟩ ⟨by show _ + 9 ≤ 1600; omega, by show _ + 418 ≤ 70000; omega⟩ (by exact Nat.le_of_ble_eq_true rfl) (fun v3 h3 p3 => ?_)
  obtain ⟨rfl, H3⟩ := p3
  dsimp only [gk_push]
  clear H2
  refine gk_ldc C cn_L_85 dL_refuses_188 ?_
  refine gk_icmp_ne C (tgt := 696) (by omega) (by omega) dL_refuses_190 (by decide) (fun c_190 => ?_) (fun c_190 => ?_)
  · exact absurd c_190 (by omega)
  refine gk_aload_n C dL_refuses_193 rfl ?_
  refine gk_iconst C dL_refuses_194 ?_
  refine gk_iload C dL_refuses_195 rfl ?_
  refine gk_iconst C dL_refuses_197 ?_
  refine gk_bipush C dL_refuses_198 (by decide) ?_
  refine gk_iconst C dL_refuses_200 ?_
  refine gk_callSH C o_L_act k_L_100 dL_refuses_201 (act_e hfl H3 (w := 3) (a := (-1)) (b := (0)) (c := (9)) (d := (0)) (r := -7000001) rfl (by omega) (by omega) (by omega) (by omega) (by omega) hcl (rfI3 (by omega))) rfl rfl ⟨Nat.le_of_ble_eq_true rfl, Nat.le_of_ble_eq_true rfl⟩ ⟨by show _ + 9 ≤ 1600; omega, by show _ + 418 ≤ 70000; omega⟩ (by exact Nat.le_of_ble_eq_true rfl) (fun v4 h4 p4 => ?_)
  obtain ⟨rfl, H4⟩ := p4
  dsimp only [gk_push]
  clear H3
  refine gk_ldc C cn_L_85 dL_refuses_204 ?_
  refine gk_icmp_ne C (tgt := 696) (by omega) (by omega) dL_refuses_206 (by decide) (fun c_206 => ?_) (fun c_206 => ?_)
  · exact absurd c_206 (by omega)
  refine gk_aload_n C dL_refuses_209 rfl ?_
  refine gk_iconst C dL_refuses_210 ?_
  refine gk_iload C dL_refuses_211 rfl ?_
  refine gk_bipush C dL_refuses_213 (by decide) ?_
  refine gk_iconst C dL_refuses_215 ?_
  refine gk_iconst C dL_refuses_216 ?_
  refine gk_callSH C o_L_act k_L_100 dL_refuses_217 (act_e hfl H4 (w := 4) (a := (-1)) (b := (9)) (c := (0)) (d := (0)) (r := -7000001) rfl (by omega) (by omega) (by omega) (by omega) (by omega) hcl (rfI4 (by omega))) rfl rfl ⟨Nat.le_of_ble_eq_true rfl, Nat.le_of_ble_eq_true rfl⟩ ⟨by show _ + 9 ≤ 1600; omega, by show _ + 418 ≤ 70000; omega⟩ (by exact Nat.le_of_ble_eq_true rfl) (fun v5 h5 p5 => ?_)
  obtain ⟨rfl, H5⟩ := p5
  dsimp only [gk_push]
  clear H4
  refine gk_ldc C cn_L_85 dL_refuses_220 ?_
  refine gk_icmp_ne C (tgt := 696) (by omega) (by omega) dL_refuses_222 (by decide) (fun c_222 => ?_) (fun c_222 => ?_)
  · exact absurd c_222 (by omega)
  refine gk_aload_n C dL_refuses_225 rfl ?_
  refine gk_bipush C dL_refuses_226 (by decide) ?_
  refine gk_iload C dL_refuses_228 rfl ?_
  refine gk_iconst C dL_refuses_230 ?_
  refine gk_iconst C dL_refuses_231 ?_
  refine gk_iconst C dL_refuses_232 ?_
  refine gk_callSH C o_L_act k_L_100 dL_refuses_233 (act_e hfl H5 (w := 7) (a := (-1)) (b := (0)) (c := (0)) (d := (0)) (r := -7000001) rfl (by omega) (by omega) (by omega) (by omega) (by omega) hcl (rfI7 (by omega))) rfl rfl ⟨Nat.le_of_ble_eq_true rfl, Nat.le_of_ble_eq_true rfl⟩ ⟨by show _ + 9 ≤ 1600; omega, by show _ + 418 ≤ 70000; omega⟩ (by exact Nat.le_of_ble_eq_true rfl) (fun v6 h6 p6 => ?_)
  obtain ⟨rfl, H6⟩ := p6
  dsimp only [gk_push]
  clear H5
  refine gk_ldc C cn_L_85 dL_refuses_236 ?_
  refine gk_icmp_ne C (tgt := 696) (by omega) (by omega) dL_refuses_238 (by decide) (fun c_238 => ?_) (fun c_238 => ?_)
  · exact absurd c_238 (by omega)
  refine gk_aload_n C dL_refuses_241 rfl ?_
  refine gk_bipush C dL_refuses_242 (by decide) ?_
  refine gk_iload C dL_refuses_244 rfl ?_
  refine gk_if_ne C (tgt := 254) (by omega) dL_refuses_246 (by decide) (fun c_246 => ?_) (fun c_246 => ?_)
  · exact absurd c_246 (by omega)
  refine gk_bipush C dL_refuses_249 (by decide) ?_
  refine gk_goto C (tgt := 267) dL_refuses_251 (by decide) ?_
  refine gk_bipush C dL_refuses_267 (by decide) ?_
  refine gk_iconst C dL_refuses_269 ?_
  refine gk_iconst C dL_refuses_270 ?_
  refine gk_callSH C o_L_act k_L_100 dL_refuses_271 (act_e hfl H6 (w := 9) (a := (-101)) (b := (10)) (c := (0)) (d := (0)) (r := -7000002) rfl (by omega) (by omega) (by omega) (by omega) (by omega) hcl (rfA9 (by omega))) rfl rfl ⟨Nat.le_of_ble_eq_true rfl, Nat.le_of_ble_eq_true rfl⟩ ⟨by show _ + 9 ≤ 1600; omega, by show _ + 418 ≤ 70000; omega⟩ (by exact Nat.le_of_ble_eq_true rfl) (fun v7 h7 p7 => ?_)
  obtain ⟨rfl, H7⟩ := p7
  dsimp only [gk_push]
  clear H6
  refine gk_ldc C cn_L_88 dL_refuses_274 ?_
  refine gk_icmp_ne C (tgt := 696) (by omega) (by omega) dL_refuses_276 (by decide) (fun c_276 => ?_) (fun c_276 => ?_)
  · exact absurd c_276 (by omega)
  refine gk_aload_n C dL_refuses_279 rfl ?_
  refine gk_bipush C dL_refuses_280 (by decide) ?_
  refine gk_iconst C dL_refuses_282 ?_
  refine gk_iload C dL_refuses_283 rfl ?_
  refine gk_if_ne C (tgt := 293) (by omega) dL_refuses_285 (by decide) (fun c_285 => ?_) (fun c_285 => ?_)
  · exact absurd c_285 (by omega)
  refine gk_bipush C dL_refuses_288 (by decide) ?_
  refine gk_goto C (tgt := 306) dL_refuses_290 (by decide) ?_
  refine gk_iconst C dL_refuses_306 ?_
  refine gk_iconst C dL_refuses_307 ?_
  refine gk_callSH C o_L_act k_L_100 dL_refuses_308 (act_e hfl H7 (w := 9) (a := (0)) (b := (9)) (c := (0)) (d := (0)) (r := -7000002) rfl (by omega) (by omega) (by omega) (by omega) (by omega) hcl (rfA9 (by omega))) rfl rfl ⟨Nat.le_of_ble_eq_true rfl, Nat.le_of_ble_eq_true rfl⟩ ⟨by show _ + 9 ≤ 1600; omega, by show _ + 418 ≤ 70000; omega⟩ (by exact Nat.le_of_ble_eq_true rfl) (fun v8 h8 p8 => ?_)
  obtain ⟨rfl, H8⟩ := p8
  dsimp only [gk_push]
  clear H7
  refine gk_ldc C cn_L_88 dL_refuses_311 ?_
  refine gk_icmp_ne C (tgt := 696) (by omega) (by omega) dL_refuses_313 (by decide) (fun c_313 => ?_) (fun c_313 => ?_)
  · exact absurd c_313 (by omega)
  refine gk_aload_n C dL_refuses_316 rfl ?_
  refine gk_bipush C dL_refuses_317 (by decide) ?_
  refine gk_iconst C dL_refuses_319 ?_
  refine gk_bipush C dL_refuses_320 (by decide) ?_
  refine gk_iload C dL_refuses_322 rfl ?_
  refine gk_iconst C dL_refuses_324 ?_
  refine gk_icmp_ne C (tgt := 333) (by omega) (by omega) dL_refuses_325 (by decide) (fun c_325 => ?_) (fun c_325 => ?_)
  rotate_left
  · exact absurd c_325 (by omega)
  refine gk_iload C dL_refuses_333 rfl ?_
  refine gk_iconst C dL_refuses_335 ?_
  refine gk_callSH C o_L_act k_L_100 dL_refuses_336 (act_e hfl H8 (w := 9) (a := (0)) (b := (10)) (c := (-1)) (d := (0)) (r := -7000002) rfl (by omega) (by omega) (by omega) (by omega) (by omega) hcl (rfA9 (by omega))) rfl rfl ⟨Nat.le_of_ble_eq_true rfl, Nat.le_of_ble_eq_true rfl⟩ ⟨by show _ + 9 ≤ 1600; omega, by show _ + 418 ≤ 70000; omega⟩ (by exact Nat.le_of_ble_eq_true rfl) (fun v9 h9 p9 => ?_)
  obtain ⟨rfl, H9⟩ := p9
  dsimp only [gk_push]
  clear H8
  refine gk_ldc C cn_L_88 dL_refuses_339 ?_
  refine gk_icmp_ne C (tgt := 696) (by omega) (by omega) dL_refuses_341 (by decide) (fun c_341 => ?_) (fun c_341 => ?_)
  · exact absurd c_341 (by omega)
  refine gk_aload_n C dL_refuses_344 rfl ?_
  refine gk_bipush C dL_refuses_345 (by decide) ?_
  refine gk_iload C dL_refuses_347 rfl ?_
  refine gk_sipush C dL_refuses_349 (by decide) ?_
  refine gk_iconst C dL_refuses_352 ?_
  refine gk_iconst C dL_refuses_353 ?_
  refine gk_callSH C o_L_act k_L_100 dL_refuses_354 (act_e hfl H9 (w := 10) (a := (-1)) (b := (999)) (c := (0)) (d := (0)) (r := -7000001) rfl (by omega) (by omega) (by omega) (by omega) (by omega) hcl (rfI10 (by omega))) rfl rfl ⟨Nat.le_of_ble_eq_true rfl, Nat.le_of_ble_eq_true rfl⟩ ⟨by show _ + 9 ≤ 1600; omega, by show _ + 418 ≤ 70000; omega⟩ (by exact Nat.le_of_ble_eq_true rfl) (fun v10 h10 p10 => ?_)
  obtain ⟨rfl, H10⟩ := p10
  dsimp only [gk_push]
  clear H9
  refine gk_ldc C cn_L_85 dL_refuses_357 ?_
  refine gk_icmp_ne C (tgt := 696) (by omega) (by omega) dL_refuses_359 (by decide) (fun c_359 => ?_) (fun c_359 => ?_)
  · exact absurd c_359 (by omega)
  refine gk_aload_n C dL_refuses_362 rfl ?_
  refine gk_bipush C dL_refuses_363 (by decide) ?_
  refine gk_iload C dL_refuses_365 rfl ?_
  refine gk_iconst C dL_refuses_367 ?_
  refine gk_iconst C dL_refuses_368 ?_
  refine gk_iconst C dL_refuses_369 ?_
  refine gk_callSH C o_L_act k_L_100 dL_refuses_370 (act_e hfl H10 (w := 11) (a := (-1)) (b := (1)) (c := (0)) (d := (0)) (r := -7000001) rfl (by omega) (by omega) (by omega) (by omega) (by omega) hcl (rfI11 (by omega))) rfl rfl ⟨Nat.le_of_ble_eq_true rfl, Nat.le_of_ble_eq_true rfl⟩ ⟨by show _ + 9 ≤ 1600; omega, by show _ + 418 ≤ 70000; omega⟩ (by exact Nat.le_of_ble_eq_true rfl) (fun v11 h11 p11 => ?_)
  obtain ⟨rfl, H11⟩ := p11
  dsimp only [gk_push]
  clear H10
  refine gk_ldc C cn_L_85 dL_refuses_373 ?_
  refine gk_icmp_ne C (tgt := 696) (by omega) (by omega) dL_refuses_375 (by decide) (fun c_375 => ?_) (fun c_375 => ?_)
  · exact absurd c_375 (by omega)
  refine gk_aload_n C dL_refuses_378 rfl ?_
  refine gk_bipush C dL_refuses_379 (by decide) ?_
  refine gk_iload C dL_refuses_381 rfl ?_
  refine gk_if_ne C (tgt := 390) (by omega) dL_refuses_383 (by decide) (fun c_383 => ?_) (fun c_383 => ?_)
  · exact absurd c_383 (by omega)
  refine gk_iconst C dL_refuses_386 ?_
  refine gk_goto C (tgt := 403) dL_refuses_387 (by decide) ?_
  refine gk_iconst C dL_refuses_403 ?_
  refine gk_iconst C dL_refuses_404 ?_
  refine gk_iconst C dL_refuses_405 ?_
  refine gk_callSH C o_L_act k_L_100 dL_refuses_406 (act_e hfl H11 (w := 12) (a := (0)) (b := (0)) (c := (0)) (d := (0)) (r := -7000002) rfl (by omega) (by omega) (by omega) (by omega) (by omega) hcl (rfA12 (by omega))) rfl rfl ⟨Nat.le_of_ble_eq_true rfl, Nat.le_of_ble_eq_true rfl⟩ ⟨by show _ + 9 ≤ 1600; omega, by show _ + 418 ≤ 70000; omega⟩ (by exact Nat.le_of_ble_eq_true rfl) (fun v12 h12 p12 => ?_)
  obtain ⟨rfl, H12⟩ := p12
  dsimp only [gk_push]
  clear H11
  refine gk_ldc C cn_L_88 dL_refuses_409 ?_
  refine gk_icmp_ne C (tgt := 696) (by omega) (by omega) dL_refuses_411 (by decide) (fun c_411 => ?_) (fun c_411 => ?_)
  · exact absurd c_411 (by omega)
  refine gk_aload_n C dL_refuses_414 rfl ?_
  refine gk_bipush C dL_refuses_415 (by decide) ?_
  refine gk_iconst C dL_refuses_417 ?_
  refine gk_iload C dL_refuses_418 rfl ?_
  refine gk_iconst C dL_refuses_420 ?_
  refine gk_icmp_ne C (tgt := 429) (by omega) (by omega) dL_refuses_421 (by decide) (fun c_421 => ?_) (fun c_421 => ?_)
  rotate_left
  · exact absurd c_421 (by omega)
  refine gk_iload C dL_refuses_429 rfl ?_
  refine gk_iconst C dL_refuses_431 ?_
  refine gk_iconst C dL_refuses_432 ?_
  refine gk_callSH C o_L_act k_L_100 dL_refuses_433 (act_e hfl H12 (w := 12) (a := (1)) (b := (-1)) (c := (0)) (d := (0)) (r := -7000002) rfl (by omega) (by omega) (by omega) (by omega) (by omega) hcl (rfA12 (by omega))) rfl rfl ⟨Nat.le_of_ble_eq_true rfl, Nat.le_of_ble_eq_true rfl⟩ ⟨by show _ + 9 ≤ 1600; omega, by show _ + 418 ≤ 70000; omega⟩ (by exact Nat.le_of_ble_eq_true rfl) (fun v13 h13 p13 => ?_)
  obtain ⟨rfl, H13⟩ := p13
  dsimp only [gk_push]
  clear H12
  refine gk_ldc C cn_L_88 dL_refuses_436 ?_
  refine gk_icmp_ne C (tgt := 696) (by omega) (by omega) dL_refuses_438 (by decide) (fun c_438 => ?_) (fun c_438 => ?_)
  · exact absurd c_438 (by omega)
  refine gk_aload_n C dL_refuses_441 rfl ?_
  refine gk_bipush C dL_refuses_442 (by decide) ?_
  refine gk_iconst C dL_refuses_444 ?_
  refine gk_iconst C dL_refuses_445 ?_
  refine gk_iload C dL_refuses_446 rfl ?_
  refine gk_iconst C dL_refuses_448 ?_
  refine gk_icmp_ne C (tgt := 457) (by omega) (by omega) dL_refuses_449 (by decide) (fun c_449 => ?_) (fun c_449 => ?_)
  rotate_left
  · exact absurd c_449 (by omega)
  refine gk_iload C dL_refuses_457 rfl ?_
  refine gk_iconst C dL_refuses_459 ?_
  refine gk_callSH C o_L_act k_L_100 dL_refuses_460 (act_e hfl H13 (w := 12) (a := (1)) (b := (0)) (c := (-1)) (d := (0)) (r := -7000002) rfl (by omega) (by omega) (by omega) (by omega) (by omega) hcl (rfA12 (by omega))) rfl rfl ⟨Nat.le_of_ble_eq_true rfl, Nat.le_of_ble_eq_true rfl⟩ ⟨by show _ + 9 ≤ 1600; omega, by show _ + 418 ≤ 70000; omega⟩ (by exact Nat.le_of_ble_eq_true rfl) (fun v14 h14 p14 => ?_)
  obtain ⟨rfl, H14⟩ := p14
  dsimp only [gk_push]
  clear H13
  refine gk_ldc C cn_L_88 dL_refuses_463 ?_
  refine gk_icmp_ne C (tgt := 696) (by omega) (by omega) dL_refuses_465 (by decide) (fun c_465 => ?_) (fun c_465 => ?_)
  · exact absurd c_465 (by omega)
  refine gk_aload_n C dL_refuses_468 rfl ?_
  refine gk_bipush C dL_refuses_469 (by decide) ?_
  refine gk_iload C dL_refuses_471 rfl ?_
  refine gk_bipush C dL_refuses_473 (by decide) ?_
  refine gk_iconst C dL_refuses_475 ?_
  refine gk_iconst C dL_refuses_476 ?_
  refine gk_callSH C o_L_act k_L_100 dL_refuses_477 (act_e hfl H14 (w := 13) (a := (-1)) (b := (9)) (c := (0)) (d := (0)) (r := -7000001) rfl (by omega) (by omega) (by omega) (by omega) (by omega) hcl (rfI13 (by omega))) rfl rfl ⟨Nat.le_of_ble_eq_true rfl, Nat.le_of_ble_eq_true rfl⟩ ⟨by show _ + 9 ≤ 1600; omega, by show _ + 418 ≤ 70000; omega⟩ (by exact Nat.le_of_ble_eq_true rfl) (fun v15 h15 p15 => ?_)
  obtain ⟨rfl, H15⟩ := p15
  dsimp only [gk_push]
  clear H14
  refine gk_ldc C cn_L_85 dL_refuses_480 ?_
  refine gk_icmp_ne C (tgt := 696) (by omega) (by omega) dL_refuses_482 (by decide) (fun c_482 => ?_) (fun c_482 => ?_)
  · exact absurd c_482 (by omega)
  refine gk_aload_n C dL_refuses_485 rfl ?_
  refine gk_bipush C dL_refuses_486 (by decide) ?_
  refine gk_iload C dL_refuses_488 rfl ?_
  refine gk_iconst C dL_refuses_490 ?_
  refine gk_iconst C dL_refuses_491 ?_
  refine gk_iconst C dL_refuses_492 ?_
  refine gk_callSH C o_L_act k_L_100 dL_refuses_493 (act_e hfl H15 (w := 14) (a := (-1)) (b := (0)) (c := (0)) (d := (0)) (r := -7000001) rfl (by omega) (by omega) (by omega) (by omega) (by omega) hcl (rfI14 (by omega))) rfl rfl ⟨Nat.le_of_ble_eq_true rfl, Nat.le_of_ble_eq_true rfl⟩ ⟨by show _ + 9 ≤ 1600; omega, by show _ + 418 ≤ 70000; omega⟩ (by exact Nat.le_of_ble_eq_true rfl) (fun v16 h16 p16 => ?_)
  obtain ⟨rfl, H16⟩ := p16
  dsimp only [gk_push]
  clear H15
  refine gk_ldc C cn_L_85 dL_refuses_496 ?_
  refine gk_icmp_ne C (tgt := 696) (by omega) (by omega) dL_refuses_498 (by decide) (fun c_498 => ?_) (fun c_498 => ?_)
  · exact absurd c_498 (by omega)
  refine gk_aload_n C dL_refuses_501 rfl ?_
  refine gk_bipush C dL_refuses_502 (by decide) ?_
  refine gk_iconst C dL_refuses_504 ?_
  refine gk_iload C dL_refuses_505 rfl ?_
  refine gk_iconst C dL_refuses_507 ?_
  refine gk_iconst C dL_refuses_508 ?_
  refine gk_callSH C o_L_act k_L_100 dL_refuses_509 (act_e hfl H16 (w := 14) (a := (0)) (b := (-1)) (c := (0)) (d := (0)) (r := -7000001) rfl (by omega) (by omega) (by omega) (by omega) (by omega) hcl (rfI14 (by omega))) rfl rfl ⟨Nat.le_of_ble_eq_true rfl, Nat.le_of_ble_eq_true rfl⟩ ⟨by show _ + 9 ≤ 1600; omega, by show _ + 418 ≤ 70000; omega⟩ (by exact Nat.le_of_ble_eq_true rfl) (fun v17 h17 p17 => ?_)
  obtain ⟨rfl, H17⟩ := p17
  dsimp only [gk_push]
  clear H16
  refine gk_ldc C cn_L_85 dL_refuses_512 ?_
  refine gk_icmp_ne C (tgt := 696) (by omega) (by omega) dL_refuses_514 (by decide) (fun c_514 => ?_) (fun c_514 => ?_)
  · exact absurd c_514 (by omega)
  refine gk_aload_n C dL_refuses_517 rfl ?_
  refine gk_bipush C dL_refuses_518 (by decide) ?_
  refine gk_iload C dL_refuses_520 rfl ?_
  refine gk_if_ne C (tgt := 529) (by omega) dL_refuses_522 (by decide) (fun c_522 => ?_) (fun c_522 => ?_)
  · exact absurd c_522 (by omega)
  refine gk_iconst C dL_refuses_525 ?_
  refine gk_goto C (tgt := 542) dL_refuses_526 (by decide) ?_
  refine gk_iconst C dL_refuses_542 ?_
  refine gk_iconst C dL_refuses_543 ?_
  refine gk_iconst C dL_refuses_544 ?_
  refine gk_callSH C o_L_act k_L_100 dL_refuses_545 (act_e hfl H17 (w := 15) (a := (0)) (b := (0)) (c := (0)) (d := (0)) (r := -7000002) rfl (by omega) (by omega) (by omega) (by omega) (by omega) hcl (rfA15 (by omega))) rfl rfl ⟨Nat.le_of_ble_eq_true rfl, Nat.le_of_ble_eq_true rfl⟩ ⟨by show _ + 9 ≤ 1600; omega, by show _ + 418 ≤ 70000; omega⟩ (by exact Nat.le_of_ble_eq_true rfl) (fun v18 h18 p18 => ?_)
  obtain ⟨rfl, H18⟩ := p18
  dsimp only [gk_push]
  clear H17
  refine gk_ldc C cn_L_88 dL_refuses_548 ?_
  refine gk_icmp_ne C (tgt := 696) (by omega) (by omega) dL_refuses_550 (by decide) (fun c_550 => ?_) (fun c_550 => ?_)
  · exact absurd c_550 (by omega)
  refine gk_aload_n C dL_refuses_553 rfl ?_
  refine gk_bipush C dL_refuses_554 (by decide) ?_
  refine gk_iconst C dL_refuses_556 ?_
  refine gk_iload C dL_refuses_557 rfl ?_
  refine gk_iconst C dL_refuses_559 ?_
  refine gk_icmp_ne C (tgt := 568) (by omega) (by omega) dL_refuses_560 (by decide) (fun c_560 => ?_) (fun c_560 => ?_)
  rotate_left
  · exact absurd c_560 (by omega)
  refine gk_iload C dL_refuses_568 rfl ?_
  refine gk_iconst C dL_refuses_570 ?_
  refine gk_iconst C dL_refuses_571 ?_
  refine gk_callSH C o_L_act k_L_100 dL_refuses_572 (act_e hfl H18 (w := 15) (a := (1)) (b := (-1)) (c := (0)) (d := (0)) (r := -7000002) rfl (by omega) (by omega) (by omega) (by omega) (by omega) hcl (rfA15 (by omega))) rfl rfl ⟨Nat.le_of_ble_eq_true rfl, Nat.le_of_ble_eq_true rfl⟩ ⟨by show _ + 9 ≤ 1600; omega, by show _ + 418 ≤ 70000; omega⟩ (by exact Nat.le_of_ble_eq_true rfl) (fun v19 h19 p19 => ?_)
  obtain ⟨rfl, H19⟩ := p19
  dsimp only [gk_push]
  clear H18
  refine gk_ldc C cn_L_88 dL_refuses_575 ?_
  refine gk_icmp_ne C (tgt := 696) (by omega) (by omega) dL_refuses_577 (by decide) (fun c_577 => ?_) (fun c_577 => ?_)
  · exact absurd c_577 (by omega)
  refine gk_aload_n C dL_refuses_580 rfl ?_
  refine gk_bipush C dL_refuses_581 (by decide) ?_
  refine gk_iconst C dL_refuses_583 ?_
  refine gk_iconst C dL_refuses_584 ?_
  refine gk_iload C dL_refuses_585 rfl ?_
  refine gk_iconst C dL_refuses_587 ?_
  refine gk_icmp_ne C (tgt := 596) (by omega) (by omega) dL_refuses_588 (by decide) (fun c_588 => ?_) (fun c_588 => ?_)
  rotate_left
  · exact absurd c_588 (by omega)
  refine gk_iload C dL_refuses_596 rfl ?_
  refine gk_iconst C dL_refuses_598 ?_
  refine gk_callSH C o_L_act k_L_100 dL_refuses_599 (act_e hfl H19 (w := 15) (a := (1)) (b := (0)) (c := (-1)) (d := (0)) (r := -7000002) rfl (by omega) (by omega) (by omega) (by omega) (by omega) hcl (rfA15 (by omega))) rfl rfl ⟨Nat.le_of_ble_eq_true rfl, Nat.le_of_ble_eq_true rfl⟩ ⟨by show _ + 9 ≤ 1600; omega, by show _ + 418 ≤ 70000; omega⟩ (by exact Nat.le_of_ble_eq_true rfl) (fun v20 h20 p20 => ?_)
  obtain ⟨rfl, H20⟩ := p20
  dsimp only [gk_push]
  clear H19
  refine gk_ldc C cn_L_88 dL_refuses_602 ?_
  refine gk_icmp_ne C (tgt := 696) (by omega) (by omega) dL_refuses_604 (by decide) (fun c_604 => ?_) (fun c_604 => ?_)
  · exact absurd c_604 (by omega)
  refine gk_aload_n C dL_refuses_607 rfl ?_
  refine gk_bipush C dL_refuses_608 (by decide) ?_
  refine gk_iload C dL_refuses_610 rfl ?_
  refine gk_iconst C dL_refuses_612 ?_
  refine gk_iconst C dL_refuses_613 ?_
  refine gk_iconst C dL_refuses_614 ?_
  refine gk_callSH C o_L_act k_L_100 dL_refuses_615 (act_e hfl H20 (w := 16) (a := (0)) (b := (0)) (c := (0)) (d := (0)) (r := -7000002) rfl (by omega) (by omega) (by omega) (by omega) (by omega) hcl (rfA16 (by omega))) rfl rfl ⟨Nat.le_of_ble_eq_true rfl, Nat.le_of_ble_eq_true rfl⟩ ⟨by show _ + 9 ≤ 1600; omega, by show _ + 418 ≤ 70000; omega⟩ (by exact Nat.le_of_ble_eq_true rfl) (fun v21 h21 p21 => ?_)
  obtain ⟨rfl, H21⟩ := p21
  dsimp only [gk_push]
  clear H20
  refine gk_ldc C cn_L_88 dL_refuses_618 ?_
  refine gk_icmp_ne C (tgt := 696) (by omega) (by omega) dL_refuses_620 (by decide) (fun c_620 => ?_) (fun c_620 => ?_)
  · exact absurd c_620 (by omega)
  refine gk_aload_n C dL_refuses_623 rfl ?_
  refine gk_bipush C dL_refuses_624 (by decide) ?_
  refine gk_iload C dL_refuses_626 rfl ?_
  refine gk_iconst C dL_refuses_628 ?_
  refine gk_iconst C dL_refuses_629 ?_
  refine gk_iconst C dL_refuses_630 ?_
  refine gk_callSH C o_L_act k_L_100 dL_refuses_631 (act_e hfl H21 (w := 17) (a := (0)) (b := (0)) (c := (0)) (d := (0)) (r := -7000002) rfl (by omega) (by omega) (by omega) (by omega) (by omega) hcl (rfA17 (by omega))) rfl rfl ⟨Nat.le_of_ble_eq_true rfl, Nat.le_of_ble_eq_true rfl⟩ ⟨by show _ + 9 ≤ 1600; omega, by show _ + 418 ≤ 70000; omega⟩ (by exact Nat.le_of_ble_eq_true rfl) (fun v22 h22 p22 => ?_)
  obtain ⟨rfl, H22⟩ := p22
  dsimp only [gk_push]
  clear H21
  refine gk_ldc C cn_L_88 dL_refuses_634 ?_
  refine gk_icmp_ne C (tgt := 696) (by omega) (by omega) dL_refuses_636 (by decide) (fun c_636 => ?_) (fun c_636 => ?_)
  · exact absurd c_636 (by omega)
  refine gk_aload_n C dL_refuses_639 rfl ?_
  refine gk_bipush C dL_refuses_640 (by decide) ?_
  refine gk_iload C dL_refuses_642 rfl ?_
  refine gk_iconst C dL_refuses_644 ?_
  refine gk_sipush C dL_refuses_645 (by decide) ?_
  refine gk_iconst C dL_refuses_648 ?_
  refine gk_callSH C o_L_act k_L_100 dL_refuses_649 (act_e hfl H22 (w := 18) (a := (-1)) (b := (0)) (c := (999)) (d := (0)) (r := -7000001) rfl (by omega) (by omega) (by omega) (by omega) (by omega) hcl (rfI18 (by omega))) rfl rfl ⟨Nat.le_of_ble_eq_true rfl, Nat.le_of_ble_eq_true rfl⟩ ⟨by show _ + 9 ≤ 1600; omega, by show _ + 418 ≤ 70000; omega⟩ (by exact Nat.le_of_ble_eq_true rfl) (fun v23 h23 p23 => ?_)
  obtain ⟨rfl, H23⟩ := p23
  dsimp only [gk_push]
  clear H22
  refine gk_ldc C cn_L_85 dL_refuses_652 ?_
  refine gk_icmp_ne C (tgt := 696) (by omega) (by omega) dL_refuses_654 (by decide) (fun c_654 => ?_) (fun c_654 => ?_)
  · exact absurd c_654 (by omega)
  refine gk_aload_n C dL_refuses_657 rfl ?_
  refine gk_bipush C dL_refuses_658 (by decide) ?_
  refine gk_iconst C dL_refuses_660 ?_
  refine gk_iload C dL_refuses_661 rfl ?_
  refine gk_sipush C dL_refuses_663 (by decide) ?_
  refine gk_iconst C dL_refuses_666 ?_
  refine gk_callSH C o_L_act k_L_100 dL_refuses_667 (act_e hfl H23 (w := 18) (a := (0)) (b := (-1)) (c := (999)) (d := (0)) (r := -7000001) rfl (by omega) (by omega) (by omega) (by omega) (by omega) hcl (rfI18 (by omega))) rfl rfl ⟨Nat.le_of_ble_eq_true rfl, Nat.le_of_ble_eq_true rfl⟩ ⟨by show _ + 9 ≤ 1600; omega, by show _ + 418 ≤ 70000; omega⟩ (by exact Nat.le_of_ble_eq_true rfl) (fun v24 h24 p24 => ?_)
  obtain ⟨rfl, H24⟩ := p24
  dsimp only [gk_push]
  clear H23
  refine gk_ldc C cn_L_85 dL_refuses_670 ?_
  refine gk_icmp_ne C (tgt := 696) (by omega) (by omega) dL_refuses_672 (by decide) (fun c_672 => ?_) (fun c_672 => ?_)
  · exact absurd c_672 (by omega)
  refine gk_aload_n C dL_refuses_675 rfl ?_
  refine gk_bipush C dL_refuses_676 (by decide) ?_
  refine gk_iload C dL_refuses_678 rfl ?_
  refine gk_bipush C dL_refuses_680 (by decide) ?_
  refine gk_iconst C dL_refuses_682 ?_
  refine gk_iconst C dL_refuses_683 ?_
  refine gk_callSH C o_L_act k_L_100 dL_refuses_684 (act_e hfl H24 (w := 21) (a := (-1)) (b := (9)) (c := (0)) (d := (0)) (r := -7000001) rfl (by omega) (by omega) (by omega) (by omega) (by omega) hcl (rfI21 (by omega))) rfl rfl ⟨Nat.le_of_ble_eq_true rfl, Nat.le_of_ble_eq_true rfl⟩ ⟨by show _ + 9 ≤ 1600; omega, by show _ + 418 ≤ 70000; omega⟩ (by exact Nat.le_of_ble_eq_true rfl) (fun v25 h25 p25 => ?_)
  obtain ⟨rfl, H25⟩ := p25
  dsimp only [gk_push]
  clear H24
  refine gk_ldc C cn_L_85 dL_refuses_687 ?_
  refine gk_icmp_ne C (tgt := 696) (by omega) (by omega) dL_refuses_689 (by decide) (fun c_689 => ?_) (fun c_689 => ?_)
  · exact absurd c_689 (by omega)
  refine gk_iconst C dL_refuses_692 ?_
  refine gk_goto C (tgt := 697) dL_refuses_693 (by decide) ?_
  refine gk_istore_16 C rfl (by exact Nat.le_of_ble_eq_true rfl) dL_refuses_697 ?_
  refine gk_iconst C dL_refuses_699 ?_
  refine gk_istore_17 C rfl (by exact Nat.le_of_ble_eq_true rfl) dL_refuses_700 ?_
  refine gk_iload C dL_refuses_702 rfl ?_
  refine gk_bipush C dL_refuses_704 (by decide) ?_
  refine gk_icmp_ge C (tgt := 759) (by omega) (by omega) dL_refuses_706 (by decide) (fun c_706 => ?_) (fun c_706 => ?_)
  · exact absurd c_706 (by omega)
  refine gk_iload C dL_refuses_709 rfl ?_
  refine gk_if_eq C (tgt := 759) (by omega) dL_refuses_711 (by decide) (fun c_711 => ?_) (fun c_711 => ?_)
  · exact absurd c_711 (by omega)
  refine gk_aload_n C dL_refuses_714 rfl ?_
  refine gk_iload C dL_refuses_715 rfl ?_
  refine gk_iload C dL_refuses_717 rfl ?_
  refine gk_iconst C dL_refuses_719 ?_
  refine gk_iconst C dL_refuses_720 ?_
  refine gk_iconst C dL_refuses_721 ?_
  refine gk_callSH C o_L_act k_L_100 dL_refuses_722 (act_e hfl H25 (w := 5) (a := (-1)) (b := (0)) (c := (0)) (d := (0)) (r := -7000001) rfl (by omega) (by omega) (by omega) (by omega) (by omega) hcl (rfI5 (by omega))) rfl rfl ⟨Nat.le_of_ble_eq_true rfl, Nat.le_of_ble_eq_true rfl⟩ ⟨by show _ + 9 ≤ 1600; omega, by show _ + 418 ≤ 70000; omega⟩ (by exact Nat.le_of_ble_eq_true rfl) (fun v26 h26 p26 => ?_)
  obtain ⟨rfl, H26⟩ := p26
  dsimp only [gk_push]
  clear H25
  refine gk_ldc C cn_L_85 dL_refuses_725 ?_
  refine gk_icmp_ne C (tgt := 750) (by omega) (by omega) dL_refuses_727 (by decide) (fun c_727 => ?_) (fun c_727 => ?_)
  · exact absurd c_727 (by omega)
  refine gk_aload_n C dL_refuses_730 rfl ?_
  refine gk_iload C dL_refuses_731 rfl ?_
  refine gk_iconst C dL_refuses_733 ?_
  refine gk_iload C dL_refuses_734 rfl ?_
  refine gk_iconst C dL_refuses_736 ?_
  refine gk_iconst C dL_refuses_737 ?_
  refine gk_callSH C o_L_act k_L_100 dL_refuses_738 (act_e hfl H26 (w := 5) (a := (0)) (b := (-1)) (c := (0)) (d := (0)) (r := -7000001) rfl (by omega) (by omega) (by omega) (by omega) (by omega) hcl (rfI5 (by omega))) rfl rfl ⟨Nat.le_of_ble_eq_true rfl, Nat.le_of_ble_eq_true rfl⟩ ⟨by show _ + 9 ≤ 1600; omega, by show _ + 418 ≤ 70000; omega⟩ (by exact Nat.le_of_ble_eq_true rfl) (fun v27 h27 p27 => ?_)
  obtain ⟨rfl, H27⟩ := p27
  dsimp only [gk_push]
  clear H26
  refine gk_ldc C cn_L_85 dL_refuses_741 ?_
  refine gk_icmp_ne C (tgt := 750) (by omega) (by omega) dL_refuses_743 (by decide) (fun c_743 => ?_) (fun c_743 => ?_)
  · exact absurd c_743 (by omega)
  refine gk_iconst C dL_refuses_746 ?_
  refine gk_goto C (tgt := 751) dL_refuses_747 (by decide) ?_
  refine gk_istore_16 C rfl (by exact Nat.le_of_ble_eq_true rfl) dL_refuses_751 ?_
  refine gk_iinc_17 C rfl (by exact Nat.le_of_ble_eq_true rfl) dL_refuses_753 ?_
  rw [show ((5 : Int) + 1) = 6 by decide]
  refine gk_goto C (tgt := 702) dL_refuses_756 (by decide) ?_
  refine gk_iload C dL_refuses_702 rfl ?_
  refine gk_bipush C dL_refuses_704 (by decide) ?_
  refine gk_icmp_ge C (tgt := 759) (by omega) (by omega) dL_refuses_706 (by decide) (fun c_706 => ?_) (fun c_706 => ?_)
  · exact absurd c_706 (by omega)
  refine gk_iload C dL_refuses_709 rfl ?_
  refine gk_if_eq C (tgt := 759) (by omega) dL_refuses_711 (by decide) (fun c_711 => ?_) (fun c_711 => ?_)
  · exact absurd c_711 (by omega)
  refine gk_aload_n C dL_refuses_714 rfl ?_
  refine gk_iload C dL_refuses_715 rfl ?_
  refine gk_iload C dL_refuses_717 rfl ?_
  refine gk_iconst C dL_refuses_719 ?_
  refine gk_iconst C dL_refuses_720 ?_
  refine gk_iconst C dL_refuses_721 ?_
  refine gk_callSH C o_L_act k_L_100 dL_refuses_722 (act_e hfl H27 (w := 6) (a := (-1)) (b := (0)) (c := (0)) (d := (0)) (r := -7000001) rfl (by omega) (by omega) (by omega) (by omega) (by omega) hcl (rfI6 (by omega))) rfl rfl ⟨Nat.le_of_ble_eq_true rfl, Nat.le_of_ble_eq_true rfl⟩ ⟨by show _ + 9 ≤ 1600; omega, by show _ + 418 ≤ 70000; omega⟩ (by exact Nat.le_of_ble_eq_true rfl) (fun v28 h28 p28 => ?_)
  obtain ⟨rfl, H28⟩ := p28
  dsimp only [gk_push]
  clear H27
  refine gk_ldc C cn_L_85 dL_refuses_725 ?_
  refine gk_icmp_ne C (tgt := 750) (by omega) (by omega) dL_refuses_727 (by decide) (fun c_727 => ?_) (fun c_727 => ?_)
  · exact absurd c_727 (by omega)
  refine gk_aload_n C dL_refuses_730 rfl ?_
  refine gk_iload C dL_refuses_731 rfl ?_
  refine gk_iconst C dL_refuses_733 ?_
  refine gk_iload C dL_refuses_734 rfl ?_
  refine gk_iconst C dL_refuses_736 ?_
  refine gk_iconst C dL_refuses_737 ?_
  refine gk_callSH C o_L_act k_L_100 dL_refuses_738 (act_e hfl H28 (w := 6) (a := (0)) (b := (-1)) (c := (0)) (d := (0)) (r := -7000001) rfl (by omega) (by omega) (by omega) (by omega) (by omega) hcl (rfI6 (by omega))) rfl rfl ⟨Nat.le_of_ble_eq_true rfl, Nat.le_of_ble_eq_true rfl⟩ ⟨by show _ + 9 ≤ 1600; omega, by show _ + 418 ≤ 70000; omega⟩ (by exact Nat.le_of_ble_eq_true rfl) (fun v29 h29 p29 => ?_)
  obtain ⟨rfl, H29⟩ := p29
  dsimp only [gk_push]
  clear H28
  refine gk_ldc C cn_L_85 dL_refuses_741 ?_
  refine gk_icmp_ne C (tgt := 750) (by omega) (by omega) dL_refuses_743 (by decide) (fun c_743 => ?_) (fun c_743 => ?_)
  · exact absurd c_743 (by omega)
  refine gk_iconst C dL_refuses_746 ?_
  refine gk_goto C (tgt := 751) dL_refuses_747 (by decide) ?_
  refine gk_istore_16 C rfl (by exact Nat.le_of_ble_eq_true rfl) dL_refuses_751 ?_
  refine gk_iinc_17 C rfl (by exact Nat.le_of_ble_eq_true rfl) dL_refuses_753 ?_
  rw [show ((6 : Int) + 1) = 7 by decide]
  refine gk_goto C (tgt := 702) dL_refuses_756 (by decide) ?_
  refine gk_iload C dL_refuses_702 rfl ?_
  refine gk_bipush C dL_refuses_704 (by decide) ?_
  refine gk_icmp_ge C (tgt := 759) (by omega) (by omega) dL_refuses_706 (by decide) (fun c_706 => ?_) (fun c_706 => ?_)
  rotate_left
  · exact absurd c_706 (by omega)
  refine gk_iload C dL_refuses_759 rfl ?_
  refine gk_if_eq C (tgt := 917) (by omega) dL_refuses_761 (by decide) (fun c_761 => ?_) (fun c_761 => ?_)
  · exact absurd c_761 (by omega)
  have J1 : ∀ (h2 : Hp) (k2 n2 : Nat), HD Γ x σ h2 → k2 ≤ 315 → n2 ≤ 14630 → G 913 [some (.ref x), some (iv t), some (iv p), some (iv b), some (iv 2147483647), some (iv sp), some (jv ti), none, some (iv 0), some (iv (-1)), some (iv (-1)), some (iv (-1)), some (iv (-1)), some (iv (-1)), some (iv (-1)), some (iv 0), some (iv 1), some (iv 7)] [] h2 k2 n2 := by
    intro h2 k2 n2 J1H hk2 hn2
    refine gk_iconst C dL_refuses_913 ?_
    refine gk_goto C (tgt := 918) dL_refuses_914 (by decide) ?_
    refine gk_istore_16 C rfl (by exact Nat.le_of_ble_eq_true rfl) dL_refuses_918 ?_
    refine gk_iload C dL_refuses_920 rfl ?_
    refine gk_if_eq C (tgt := 997) (by omega) dL_refuses_922 (by decide) (fun c_922 => ?_) (fun c_922 => ?_)
    · exact absurd c_922 (by omega)
    have J2 : ∀ (h2 : Hp) (k2 n2 : Nat), HD Γ x σ h2 → k2 ≤ 333 → n2 ≤ 15466 → G 993 [some (.ref x), some (iv t), some (iv p), some (iv b), some (iv 2147483647), some (iv sp), some (jv ti), none, some (iv 0), some (iv (-1)), some (iv (-1)), some (iv (-1)), some (iv (-1)), some (iv (-1)), some (iv (-1)), some (iv 0), some (iv 1), some (iv 7)] [] h2 k2 n2 := by
      intro h2 k2 n2 J2H hk2 hn2
      refine gk_iconst C dL_refuses_993 ?_
      refine gk_goto C (tgt := 998) dL_refuses_994 (by decide) ?_
      refine gk_istore_16 C rfl (by exact Nat.le_of_ble_eq_true rfl) dL_refuses_998 ?_
      refine gk_iload C dL_refuses_1000 rfl ?_
      refine gk_if_eq C (tgt := 1066) (by omega) dL_refuses_1002 (by decide) (fun c_1002 => ?_) (fun c_1002 => ?_)
      · exact absurd c_1002 (by omega)
      have J3 : ∀ (h2 : Hp) (k2 n2 : Nat), HD Γ x σ h2 → k2 ≤ 351 → n2 ≤ 16302 → G 1062 [some (.ref x), some (iv t), some (iv p), some (iv b), some (iv 2147483647), some (iv sp), some (jv ti), none, some (iv 0), some (iv (-1)), some (iv (-1)), some (iv (-1)), some (iv (-1)), some (iv (-1)), some (iv (-1)), some (iv 0), some (iv 1), some (iv 7)] [] h2 k2 n2 := by
        intro h2 k2 n2 J3H hk2 hn2
        refine gk_iconst C dL_refuses_1062 ?_
        refine gk_goto C (tgt := 1067) dL_refuses_1063 (by decide) ?_
        refine gk_istore_16 C rfl (by exact Nat.le_of_ble_eq_true rfl) dL_refuses_1067 ?_
        refine gk_iload C dL_refuses_1069 rfl ?_
        refine gk_if_ne C (tgt := 1076) (by omega) dL_refuses_1071 (by decide) (fun c_1071 => ?_) (fun c_1071 => ?_)
        rotate_left
        · exact absurd c_1071 (by omega)
        refine gk_iinc_8 C rfl (by exact Nat.le_of_ble_eq_true rfl) dL_refuses_1076 ?_
        rw [show ((0 : Int) + 1) = 1 by decide]
        refine gk_goto C (tgt := 19) dL_refuses_1079 (by decide) ?_
        exact fin _ _ _ _ _ _ _ _ _ _ _ _ J3H (by omega) (by omega)
      refine gk_iload_n C dL_refuses_1005 rfl ?_
      refine gk_if_eq C (tgt := 1062) (by omega) dL_refuses_1006 (by decide) (fun c_1006 => ?_) (fun c_1006 => ?_)
      · exact J3 _ _ _ J2H (by omega) (by omega)
      · refine gk_aload_n C dL_refuses_1009 rfl ?_
        refine gk_bipush C dL_refuses_1010 (by decide) ?_
        refine gk_iconst C dL_refuses_1012 ?_
        refine gk_iconst C dL_refuses_1013 ?_
        refine gk_iload C dL_refuses_1014 rfl ?_
        refine gk_iconst C dL_refuses_1016 ?_
        refine gk_icmp_ne C (tgt := 1025) (by omega) (by omega) dL_refuses_1017 (by decide) (fun c_1017 => ?_) (fun c_1017 => ?_)
        rotate_left
        · exact absurd c_1017 (by omega)
        refine gk_iload C dL_refuses_1025 rfl ?_
        refine gk_iconst C dL_refuses_1027 ?_
        refine gk_callSH C o_L_act k_L_100 dL_refuses_1028 (act_e hfl J2H (w := 18) (a := (0)) (b := (0)) (c := (-1)) (d := (0)) (r := -7000002) rfl (by omega) (by omega) (by omega) (by omega) (by omega) hcl (rfA18 (by omega) (by omega))) rfl rfl ⟨Nat.le_of_ble_eq_true rfl, Nat.le_of_ble_eq_true rfl⟩ ⟨by show _ + 9 ≤ 1600; omega, by show _ + 418 ≤ 70000; omega⟩ (by exact Nat.le_of_ble_eq_true rfl) (fun v30 h30 p30 => ?_)
        obtain ⟨rfl, H30⟩ := p30
        dsimp only [gk_push]
        clear J2H
        refine gk_ldc C cn_L_88 dL_refuses_1031 ?_
        refine gk_icmp_ne C (tgt := 1066) (by omega) (by omega) dL_refuses_1033 (by decide) (fun c_1033 => ?_) (fun c_1033 => ?_)
        · exact absurd c_1033 (by omega)
        refine gk_aload_n C dL_refuses_1036 rfl ?_
        refine gk_bipush C dL_refuses_1037 (by decide) ?_
        refine gk_iconst C dL_refuses_1039 ?_
        refine gk_iload C dL_refuses_1040 rfl ?_
        refine gk_iconst C dL_refuses_1042 ?_
        refine gk_icmp_ne C (tgt := 1050) (by omega) (by omega) dL_refuses_1043 (by decide) (fun c_1043 => ?_) (fun c_1043 => ?_)
        rotate_left
        · exact absurd c_1043 (by omega)
        refine gk_iload C dL_refuses_1050 rfl ?_
        refine gk_iconst C dL_refuses_1052 ?_
        refine gk_iconst C dL_refuses_1053 ?_
        refine gk_callSH C o_L_act k_L_100 dL_refuses_1054 (act_e hfl H30 (w := 21) (a := (0)) (b := (-1)) (c := (0)) (d := (0)) (r := -7000002) rfl (by omega) (by omega) (by omega) (by omega) (by omega) hcl (rfA21 (by omega) (by omega))) rfl rfl ⟨Nat.le_of_ble_eq_true rfl, Nat.le_of_ble_eq_true rfl⟩ ⟨by show _ + 9 ≤ 1600; omega, by show _ + 418 ≤ 70000; omega⟩ (by exact Nat.le_of_ble_eq_true rfl) (fun v31 h31 p31 => ?_)
        obtain ⟨rfl, H31⟩ := p31
        dsimp only [gk_push]
        clear H30
        refine gk_ldc C cn_L_88 dL_refuses_1057 ?_
        refine gk_icmp_ne C (tgt := 1066) (by omega) (by omega) dL_refuses_1059 (by decide) (fun c_1059 => ?_) (fun c_1059 => ?_)
        · exact absurd c_1059 (by omega)
        exact J3 _ _ _ H31 (by omega) (by omega)
    refine gk_iload_n C dL_refuses_925 rfl ?_
    refine gk_if_eq C (tgt := 993) (by omega) dL_refuses_926 (by decide) (fun c_926 => ?_) (fun c_926 => ?_)
    · exact J2 _ _ _ J1H (by omega) (by omega)
    · refine gk_aload_n C dL_refuses_929 rfl ?_
      refine gk_bipush C dL_refuses_930 (by decide) ?_
      refine gk_iconst C dL_refuses_932 ?_
      refine gk_iload C dL_refuses_933 rfl ?_
      refine gk_if_ne C (tgt := 943) (by omega) dL_refuses_935 (by decide) (fun c_935 => ?_) (fun c_935 => ?_)
      · exact absurd c_935 (by omega)
      refine gk_bipush C dL_refuses_938 (by decide) ?_
      refine gk_goto C (tgt := 956) dL_refuses_940 (by decide) ?_
      refine gk_iconst C dL_refuses_956 ?_
      refine gk_iconst C dL_refuses_957 ?_
      refine gk_callSH C o_L_act k_L_100 dL_refuses_958 (act_e hfl J1H (w := 10) (a := (0)) (b := (-101)) (c := (0)) (d := (0)) (r := -7000002) rfl (by omega) (by omega) (by omega) (by omega) (by omega) hcl (rfA10 (by omega) (by omega))) rfl rfl ⟨Nat.le_of_ble_eq_true rfl, Nat.le_of_ble_eq_true rfl⟩ ⟨by show _ + 9 ≤ 1600; omega, by show _ + 418 ≤ 70000; omega⟩ (by exact Nat.le_of_ble_eq_true rfl) (fun v32 h32 p32 => ?_)
      obtain ⟨rfl, H32⟩ := p32
      dsimp only [gk_push]
      clear J1H
      refine gk_ldc C cn_L_88 dL_refuses_961 ?_
      refine gk_icmp_ne C (tgt := 997) (by omega) (by omega) dL_refuses_963 (by decide) (fun c_963 => ?_) (fun c_963 => ?_)
      · exact absurd c_963 (by omega)
      refine gk_aload_n C dL_refuses_966 rfl ?_
      refine gk_bipush C dL_refuses_967 (by decide) ?_
      refine gk_iconst C dL_refuses_969 ?_
      refine gk_iload C dL_refuses_970 rfl ?_
      refine gk_iconst C dL_refuses_972 ?_
      refine gk_icmp_ne C (tgt := 981) (by omega) (by omega) dL_refuses_973 (by decide) (fun c_973 => ?_) (fun c_973 => ?_)
      rotate_left
      · exact absurd c_973 (by omega)
      refine gk_iload C dL_refuses_981 rfl ?_
      refine gk_iconst C dL_refuses_983 ?_
      refine gk_iconst C dL_refuses_984 ?_
      refine gk_callSH C o_L_act k_L_100 dL_refuses_985 (act_e hfl H32 (w := 13) (a := (0)) (b := (-1)) (c := (0)) (d := (0)) (r := -7000002) rfl (by omega) (by omega) (by omega) (by omega) (by omega) hcl (rfA13 (by omega) (by omega))) rfl rfl ⟨Nat.le_of_ble_eq_true rfl, Nat.le_of_ble_eq_true rfl⟩ ⟨by show _ + 9 ≤ 1600; omega, by show _ + 418 ≤ 70000; omega⟩ (by exact Nat.le_of_ble_eq_true rfl) (fun v33 h33 p33 => ?_)
      obtain ⟨rfl, H33⟩ := p33
      dsimp only [gk_push]
      clear H32
      refine gk_ldc C cn_L_88 dL_refuses_988 ?_
      refine gk_icmp_ne C (tgt := 997) (by omega) (by omega) dL_refuses_990 (by decide) (fun c_990 => ?_) (fun c_990 => ?_)
      · exact absurd c_990 (by omega)
      exact J2 _ _ _ H33 (by omega) (by omega)
  refine gk_iload_n C dL_refuses_764 rfl ?_
  refine gk_if_eq C (tgt := 913) (by omega) dL_refuses_765 (by decide) (fun c_765 => ?_) (fun c_765 => ?_)
  · exact J1 _ _ _ H29 (by omega) (by omega)
  · refine gk_aload_n C dL_refuses_768 rfl ?_
    refine gk_iconst C dL_refuses_769 ?_
    refine gk_iconst C dL_refuses_770 ?_
    refine gk_iload C dL_refuses_771 rfl ?_
    refine gk_iconst C dL_refuses_773 ?_
    refine gk_iconst C dL_refuses_774 ?_
    refine gk_callSH C o_L_act k_L_100 dL_refuses_775 (act_e hfl H29 (w := 1) (a := (0)) (b := (-1)) (c := (1)) (d := (0)) (r := -7000002) rfl (by omega) (by omega) (by omega) (by omega) (by omega) hcl (rfA1 (by omega) (by omega))) rfl rfl ⟨Nat.le_of_ble_eq_true rfl, Nat.le_of_ble_eq_true rfl⟩ ⟨by show _ + 9 ≤ 1600; omega, by show _ + 418 ≤ 70000; omega⟩ (by exact Nat.le_of_ble_eq_true rfl) (fun v34 h34 p34 => ?_)
    obtain ⟨rfl, H34⟩ := p34
    dsimp only [gk_push]
    clear H29
    refine gk_ldc C cn_L_88 dL_refuses_778 ?_
    refine gk_icmp_ne C (tgt := 917) (by omega) (by omega) dL_refuses_780 (by decide) (fun c_780 => ?_) (fun c_780 => ?_)
    · exact absurd c_780 (by omega)
    refine gk_aload_n C dL_refuses_783 rfl ?_
    refine gk_iconst C dL_refuses_784 ?_
    refine gk_iconst C dL_refuses_785 ?_
    refine gk_iconst C dL_refuses_786 ?_
    refine gk_iload C dL_refuses_787 rfl ?_
    refine gk_if_ne C (tgt := 796) (by omega) dL_refuses_789 (by decide) (fun c_789 => ?_) (fun c_789 => ?_)
    · exact absurd c_789 (by omega)
    refine gk_iconst C dL_refuses_792 ?_
    refine gk_goto C (tgt := 809) dL_refuses_793 (by decide) ?_
    refine gk_iconst C dL_refuses_809 ?_
    refine gk_callSH C o_L_act k_L_100 dL_refuses_810 (act_e hfl H34 (w := 1) (a := (0)) (b := (0)) (c := (0)) (d := (0)) (r := -7000002) rfl (by omega) (by omega) (by omega) (by omega) (by omega) hcl (rfA1 (by omega) (by omega))) rfl rfl ⟨Nat.le_of_ble_eq_true rfl, Nat.le_of_ble_eq_true rfl⟩ ⟨by show _ + 9 ≤ 1600; omega, by show _ + 418 ≤ 70000; omega⟩ (by exact Nat.le_of_ble_eq_true rfl) (fun v35 h35 p35 => ?_)
    obtain ⟨rfl, H35⟩ := p35
    dsimp only [gk_push]
    clear H34
    refine gk_ldc C cn_L_88 dL_refuses_813 ?_
    refine gk_icmp_ne C (tgt := 917) (by omega) (by omega) dL_refuses_815 (by decide) (fun c_815 => ?_) (fun c_815 => ?_)
    · exact absurd c_815 (by omega)
    refine gk_aload_n C dL_refuses_818 rfl ?_
    refine gk_iconst C dL_refuses_819 ?_
    refine gk_iconst C dL_refuses_820 ?_
    refine gk_iconst C dL_refuses_821 ?_
    refine gk_iconst C dL_refuses_822 ?_
    refine gk_iload C dL_refuses_823 rfl ?_
    refine gk_callSH C o_L_act k_L_100 dL_refuses_825 (act_e hfl H35 (w := 1) (a := (0)) (b := (0)) (c := (1)) (d := (-1)) (r := -7000002) rfl (by omega) (by omega) (by omega) (by omega) (by omega) hcl (rfA1 (by omega) (by omega))) rfl rfl ⟨Nat.le_of_ble_eq_true rfl, Nat.le_of_ble_eq_true rfl⟩ ⟨by show _ + 9 ≤ 1600; omega, by show _ + 418 ≤ 70000; omega⟩ (by exact Nat.le_of_ble_eq_true rfl) (fun v36 h36 p36 => ?_)
    obtain ⟨rfl, H36⟩ := p36
    dsimp only [gk_push]
    clear H35
    refine gk_ldc C cn_L_88 dL_refuses_828 ?_
    refine gk_icmp_ne C (tgt := 917) (by omega) (by omega) dL_refuses_830 (by decide) (fun c_830 => ?_) (fun c_830 => ?_)
    · exact absurd c_830 (by omega)
    refine gk_aload_n C dL_refuses_833 rfl ?_
    refine gk_iconst C dL_refuses_834 ?_
    refine gk_iconst C dL_refuses_835 ?_
    refine gk_iload C dL_refuses_836 rfl ?_
    refine gk_bipush C dL_refuses_838 (by decide) ?_
    refine gk_iconst C dL_refuses_840 ?_
    refine gk_callSH C o_L_act k_L_100 dL_refuses_841 (act_e hfl H36 (w := 3) (a := (0)) (b := (-1)) (c := (9)) (d := (0)) (r := -7000001) rfl (by omega) (by omega) (by omega) (by omega) (by omega) hcl (rfJ3 H36.wf (by omega) (by omega))) rfl rfl ⟨Nat.le_of_ble_eq_true rfl, Nat.le_of_ble_eq_true rfl⟩ ⟨by show _ + 9 ≤ 1600; omega, by show _ + 418 ≤ 70000; omega⟩ (by exact Nat.le_of_ble_eq_true rfl) (fun v37 h37 p37 => ?_)
    obtain ⟨rfl, H37⟩ := p37
    dsimp only [gk_push]
    clear H36
    refine gk_ldc C cn_L_85 dL_refuses_844 ?_
    refine gk_icmp_ne C (tgt := 917) (by omega) (by omega) dL_refuses_846 (by decide) (fun c_846 => ?_) (fun c_846 => ?_)
    · exact absurd c_846 (by omega)
    refine gk_aload_n C dL_refuses_849 rfl ?_
    refine gk_iconst C dL_refuses_850 ?_
    refine gk_iconst C dL_refuses_851 ?_
    refine gk_iload C dL_refuses_852 rfl ?_
    refine gk_iconst C dL_refuses_854 ?_
    refine gk_icmp_ne C (tgt := 863) (by omega) (by omega) dL_refuses_855 (by decide) (fun c_855 => ?_) (fun c_855 => ?_)
    rotate_left
    · exact absurd c_855 (by omega)
    refine gk_iload C dL_refuses_863 rfl ?_
    refine gk_iconst C dL_refuses_865 ?_
    refine gk_iconst C dL_refuses_866 ?_
    refine gk_callSH C o_L_act k_L_100 dL_refuses_867 (act_e hfl H37 (w := 4) (a := (0)) (b := (-1)) (c := (0)) (d := (0)) (r := -7000002) rfl (by omega) (by omega) (by omega) (by omega) (by omega) hcl (rfA4 (by omega) (by omega))) rfl rfl ⟨Nat.le_of_ble_eq_true rfl, Nat.le_of_ble_eq_true rfl⟩ ⟨by show _ + 9 ≤ 1600; omega, by show _ + 418 ≤ 70000; omega⟩ (by exact Nat.le_of_ble_eq_true rfl) (fun v38 h38 p38 => ?_)
    obtain ⟨rfl, H38⟩ := p38
    dsimp only [gk_push]
    clear H37
    refine gk_ldc C cn_L_88 dL_refuses_870 ?_
    refine gk_icmp_ne C (tgt := 917) (by omega) (by omega) dL_refuses_872 (by decide) (fun c_872 => ?_) (fun c_872 => ?_)
    · exact absurd c_872 (by omega)
    refine gk_aload_n C dL_refuses_875 rfl ?_
    refine gk_bipush C dL_refuses_876 (by decide) ?_
    refine gk_iconst C dL_refuses_878 ?_
    refine gk_iload C dL_refuses_879 rfl ?_
    refine gk_if_ne C (tgt := 889) (by omega) dL_refuses_881 (by decide) (fun c_881 => ?_) (fun c_881 => ?_)
    · exact absurd c_881 (by omega)
    refine gk_bipush C dL_refuses_884 (by decide) ?_
    refine gk_goto C (tgt := 903) dL_refuses_886 (by decide) ?_
    refine gk_iconst C dL_refuses_903 ?_
    refine gk_iconst C dL_refuses_904 ?_
    refine gk_callSH C o_L_act k_L_100 dL_refuses_905 (act_e hfl H38 (w := 7) (a := (0)) (b := (29)) (c := (0)) (d := (0)) (r := -7000002) rfl (by omega) (by omega) (by omega) (by omega) (by omega) hcl (rfA7 (by omega) (by omega))) rfl rfl ⟨Nat.le_of_ble_eq_true rfl, Nat.le_of_ble_eq_true rfl⟩ ⟨by show _ + 9 ≤ 1600; omega, by show _ + 418 ≤ 70000; omega⟩ (by exact Nat.le_of_ble_eq_true rfl) (fun v39 h39 p39 => ?_)
    obtain ⟨rfl, H39⟩ := p39
    dsimp only [gk_push]
    clear H38
    refine gk_ldc C cn_L_88 dL_refuses_908 ?_
    refine gk_icmp_ne C (tgt := 917) (by omega) (by omega) dL_refuses_910 (by decide) (fun c_910 => ?_) (fun c_910 => ?_)
    · exact absurd c_910 (by omega)
    exact J1 _ _ _ H39 (by omega) (by omega)

set_option maxRecDepth 100000 in
set_option maxHeartbeats 8000000 in
theorem rf_1 {l : Launch} {Γ : GA} {G : GP} {X : String → Hp → Nat → Nat → Prop} {x : Nat} {σ : ST} {h : Hp} {k n : Nat} {t p b sp ti : Int} {u9 u10 u11 u12 u13 u14 u15 u16 u17 : Option Value} (C : Cx l Γ m_L_refuses G X) (hfl : l.stackTraces = false) (H : HD Γ x σ h) (ht : t = ((σ.1.1 : Nat) : Int)) (hp : p = ((σ.2.2.1.1 : Nat) : Int)) (hb : b = ((σ.2.2.2.1.1 : Nat) : Int)) (ht1 : t ≤ 10) (hp1 : p ≤ 8) (hb1 : b ≤ 8) (hcl : σ.2.2.2.2 ≤ 10000) (hk : k ≤ 360) (hn : n ≤ 16400)
    (fin : ∀ (u9 u10 u11 u12 u13 u14 u15 u16 u17 : Option Value) (h2 : Hp) (k2 n2 : Nat), HD Γ x σ h2 → k2 ≤ 720 → n2 ≤ 32800 → G 19 [some (.ref x), some (iv t), some (iv p), some (iv b), some (iv 2147483647), some (iv sp), some (jv ti), none, some (iv 2), u9, u10, u11, u12, u13, u14, u15, u16, u17] [] h2 k2 n2) : G 19 [some (.ref x), some (iv t), some (iv p), some (iv b), some (iv 2147483647), some (iv sp), some (jv ti), none, some (iv 1), u9, u10, u11, u12, u13, u14, u15, u16, u17] [] h k n := by
  refine gk_iload C dL_refuses_19 rfl ?_
  refine gk_iconst C dL_refuses_21 ?_
  refine gk_icmp_ge C (tgt := 1082) (by omega) (by omega) dL_refuses_22 (by decide) (fun c_22 => ?_) (fun c_22 => ?_)
  · exact absurd c_22 (by omega)
  refine gk_iload C dL_refuses_25 rfl ?_
  refine gk_if_ne C (tgt := 34) (by omega) dL_refuses_27 (by decide) (fun c_27 => ?_) (fun c_27 => ?_)
  rotate_left
  · exact absurd c_27 (by omega)
  refine gk_iload C dL_refuses_34 rfl ?_
  refine gk_iconst C dL_refuses_36 ?_
  refine gk_icmp_ne C (tgt := 45) (by omega) (by omega) dL_refuses_37 (by decide) (fun c_37 => ?_) (fun c_37 => ?_)
  rotate_left
  · exact absurd c_37 (by omega)
  refine gk_iload C dL_refuses_45 rfl ?_
  refine gk_ineg C dL_refuses_47 ?_
  refine gk_iconst C dL_refuses_48 ?_
  refine gk_isub C dL_refuses_49 ?_
  rw [show ((-2147483647 : Int) - 1) = -2147483648 by decide]
  refine gk_istore_9 C rfl (by exact Nat.le_of_ble_eq_true rfl) dL_refuses_50 ?_
  refine gk_iload C dL_refuses_52 rfl ?_
  refine gk_iconst C dL_refuses_54 ?_
  refine gk_icmp_ne C (tgt := 62) (by omega) (by omega) dL_refuses_55 (by decide) (fun c_55 => ?_) (fun c_55 => ?_)
  · exact absurd c_55 (by omega)
  refine gk_iload_n C dL_refuses_58 rfl ?_
  refine gk_goto C (tgt := 64) dL_refuses_59 (by decide) ?_
  refine gk_istore_10 C rfl (by exact Nat.le_of_ble_eq_true rfl) dL_refuses_64 ?_
  refine gk_iload C dL_refuses_66 rfl ?_
  refine gk_iconst C dL_refuses_68 ?_
  refine gk_icmp_ne C (tgt := 76) (by omega) (by omega) dL_refuses_69 (by decide) (fun c_69 => ?_) (fun c_69 => ?_)
  · exact absurd c_69 (by omega)
  refine gk_iload_n C dL_refuses_72 rfl ?_
  refine gk_goto C (tgt := 78) dL_refuses_73 (by decide) ?_
  refine gk_istore_11 C rfl (by exact Nat.le_of_ble_eq_true rfl) dL_refuses_78 ?_
  refine gk_iload C dL_refuses_80 rfl ?_
  refine gk_iconst C dL_refuses_82 ?_
  refine gk_icmp_ne C (tgt := 90) (by omega) (by omega) dL_refuses_83 (by decide) (fun c_83 => ?_) (fun c_83 => ?_)
  · exact absurd c_83 (by omega)
  refine gk_iload_n C dL_refuses_86 rfl ?_
  refine gk_goto C (tgt := 92) dL_refuses_87 (by decide) ?_
  refine gk_istore_12 C rfl (by exact Nat.le_of_ble_eq_true rfl) dL_refuses_92 ?_
  refine gk_iload C dL_refuses_94 rfl ?_
  refine gk_iconst C dL_refuses_96 ?_
  refine gk_icmp_ne C (tgt := 104) (by omega) (by omega) dL_refuses_97 (by decide) (fun c_97 => ?_) (fun c_97 => ?_)
  · exact absurd c_97 (by omega)
  refine gk_iconst C dL_refuses_100 ?_
  refine gk_goto C (tgt := 106) dL_refuses_101 (by decide) ?_
  refine gk_istore_13 C rfl (by exact Nat.le_of_ble_eq_true rfl) dL_refuses_106 ?_
  refine gk_iload C dL_refuses_108 rfl ?_
  refine gk_iconst C dL_refuses_110 ?_
  refine gk_icmp_ne C (tgt := 119) (by omega) (by omega) dL_refuses_111 (by decide) (fun c_111 => ?_) (fun c_111 => ?_)
  · exact absurd c_111 (by omega)
  refine gk_bipush C dL_refuses_114 (by decide) ?_
  refine gk_goto C (tgt := 121) dL_refuses_116 (by decide) ?_
  refine gk_istore_14 C rfl (by exact Nat.le_of_ble_eq_true rfl) dL_refuses_121 ?_
  refine gk_iload C dL_refuses_123 rfl ?_
  refine gk_if_ne C (tgt := 132) (by omega) dL_refuses_125 (by decide) (fun c_125 => ?_) (fun c_125 => ?_)
  rotate_left
  · exact absurd c_125 (by omega)
  refine gk_iload C dL_refuses_132 rfl ?_
  refine gk_iconst C dL_refuses_134 ?_
  refine gk_icmp_ne C (tgt := 143) (by omega) (by omega) dL_refuses_135 (by decide) (fun c_135 => ?_) (fun c_135 => ?_)
  · exact absurd c_135 (by omega)
  refine gk_bipush C dL_refuses_138 (by decide) ?_
  refine gk_goto C (tgt := 145) dL_refuses_140 (by decide) ?_
  refine gk_istore_15 C rfl (by exact Nat.le_of_ble_eq_true rfl) dL_refuses_145 ?_
  refine gk_aload_n C dL_refuses_147 rfl ?_
  refine gk_iconst C dL_refuses_148 ?_
  refine gk_iload C dL_refuses_149 rfl ?_
  refine gk_iconst C dL_refuses_151 ?_
  refine gk_iconst C dL_refuses_152 ?_
  refine gk_iconst C dL_refuses_153 ?_
  refine gk_callSH C o_L_act k_L_100 dL_refuses_154 (act_e hfl H (w := 0) (a := (4)) (b := (0)) (c := (0)) (d := (0)) (r := -7000002) rfl (by omega) (by omega) (by omega) (by omega) (by omega) hcl (rfA0 (by omega))) rfl rfl ⟨Nat.le_of_ble_eq_true rfl, Nat.le_of_ble_eq_true rfl⟩ ⟨by show _ + 9 ≤ 1600; omega, by show _ + 418 ≤ 70000; omega⟩ (by exact Nat.le_of_ble_eq_true rfl) (fun v1 h1 p1 => ?_)
  obtain ⟨rfl, H1⟩ := p1
  dsimp only [gk_push]
  clear H
  refine gk_ldc C cn_L_88 dL_refuses_157 ?_
  refine gk_icmp_ne C (tgt := 696) (by omega) (by omega) dL_refuses_159 (by decide) (fun c_159 => ?_) (fun c_159 => ?_)
  · exact absurd c_159 (by omega)
  refine gk_aload_n C dL_refuses_162 rfl ?_
  refine gk_iconst C dL_refuses_163 ?_
  refine gk_iload C dL_refuses_164 rfl ?_
  refine gk_bipush C dL_refuses_166 (by decide) ?_
  refine gk_iconst C dL_refuses_168 ?_
  refine gk_iconst C dL_refuses_169 ?_
  refine gk_callSH C o_L_act k_L_100 dL_refuses_170 (act_e hfl H1 (w := 1) (a := t) (b := (99)) (c := (0)) (d := (0)) (r := -7000001) rfl (by omega) (by omega) (by omega) (by omega) (by omega) hcl (rfI1 (by omega))) rfl rfl ⟨Nat.le_of_ble_eq_true rfl, Nat.le_of_ble_eq_true rfl⟩ ⟨by show _ + 9 ≤ 1600; omega, by show _ + 418 ≤ 70000; omega⟩ (by exact Nat.le_of_ble_eq_true rfl) (fun v2 h2 p2 => ?_)
  obtain ⟨rfl, H2⟩ := p2
  dsimp only [gk_push]
  clear H1
  refine gk_ldc C cn_L_85 dL_refuses_173 ?_
  refine gk_icmp_ne C (tgt := 696) (by omega) (by omega) dL_refuses_175 (by decide) (fun c_175 => ?_) (fun c_175 => ?_)
  · exact absurd c_175 (by omega)
  refine gk_aload_n C dL_refuses_178 rfl ?_
  refine gk_iconst C dL_refuses_179 ?_
  refine gk_iload C dL_refuses_180 rfl ?_
  refine gk_iconst C dL_refuses_182 ?_
  refine gk_iconst C dL_refuses_183 ?_
  refine gk_iconst C dL_refuses_184 ?_
  refine gk_callSH C o_L_act k_L_100 dL_refuses_185 (act_e hfl H2 (w := 2) (a := t) (b := (1)) (c := (0)) (d := (0)) (r := -7000001) rfl (by omega) (by omega) (by omega) (by omega) (by omega) hcl (rfI2 (by omega))) rfl rfl ⟨Nat.le_of_ble_eq_true rfl, Nat.le_of_ble_eq_true rfl⟩ ⟨by show _ + 9 ≤ 1600; omega, by show _ + 418 ≤ 70000; omega⟩ (by exact Nat.le_of_ble_eq_true rfl) (fun v3 h3 p3 => ?_)
  obtain ⟨rfl, H3⟩ := p3
  dsimp only [gk_push]
  clear H2
  refine gk_ldc C cn_L_85 dL_refuses_188 ?_
  refine gk_icmp_ne C (tgt := 696) (by omega) (by omega) dL_refuses_190 (by decide) (fun c_190 => ?_) (fun c_190 => ?_)
  · exact absurd c_190 (by omega)
  refine gk_aload_n C dL_refuses_193 rfl ?_
  refine gk_iconst C dL_refuses_194 ?_
  refine gk_iload C dL_refuses_195 rfl ?_
  refine gk_iconst C dL_refuses_197 ?_
  refine gk_bipush C dL_refuses_198 (by decide) ?_
  refine gk_iconst C dL_refuses_200 ?_
  refine gk_callSH C o_L_act k_L_100 dL_refuses_201 (act_e hfl H3 (w := 3) (a := t) (b := (0)) (c := (9)) (d := (0)) (r := -7000001) rfl (by omega) (by omega) (by omega) (by omega) (by omega) hcl (rfI3 (by omega))) rfl rfl ⟨Nat.le_of_ble_eq_true rfl, Nat.le_of_ble_eq_true rfl⟩ ⟨by show _ + 9 ≤ 1600; omega, by show _ + 418 ≤ 70000; omega⟩ (by exact Nat.le_of_ble_eq_true rfl) (fun v4 h4 p4 => ?_)
  obtain ⟨rfl, H4⟩ := p4
  dsimp only [gk_push]
  clear H3
  refine gk_ldc C cn_L_85 dL_refuses_204 ?_
  refine gk_icmp_ne C (tgt := 696) (by omega) (by omega) dL_refuses_206 (by decide) (fun c_206 => ?_) (fun c_206 => ?_)
  · exact absurd c_206 (by omega)
  refine gk_aload_n C dL_refuses_209 rfl ?_
  refine gk_iconst C dL_refuses_210 ?_
  refine gk_iload C dL_refuses_211 rfl ?_
  refine gk_bipush C dL_refuses_213 (by decide) ?_
  refine gk_iconst C dL_refuses_215 ?_
  refine gk_iconst C dL_refuses_216 ?_
  refine gk_callSH C o_L_act k_L_100 dL_refuses_217 (act_e hfl H4 (w := 4) (a := t) (b := (9)) (c := (0)) (d := (0)) (r := -7000001) rfl (by omega) (by omega) (by omega) (by omega) (by omega) hcl (rfI4 (by omega))) rfl rfl ⟨Nat.le_of_ble_eq_true rfl, Nat.le_of_ble_eq_true rfl⟩ ⟨by show _ + 9 ≤ 1600; omega, by show _ + 418 ≤ 70000; omega⟩ (by exact Nat.le_of_ble_eq_true rfl) (fun v5 h5 p5 => ?_)
  obtain ⟨rfl, H5⟩ := p5
  dsimp only [gk_push]
  clear H4
  refine gk_ldc C cn_L_85 dL_refuses_220 ?_
  refine gk_icmp_ne C (tgt := 696) (by omega) (by omega) dL_refuses_222 (by decide) (fun c_222 => ?_) (fun c_222 => ?_)
  · exact absurd c_222 (by omega)
  refine gk_aload_n C dL_refuses_225 rfl ?_
  refine gk_bipush C dL_refuses_226 (by decide) ?_
  refine gk_iload C dL_refuses_228 rfl ?_
  refine gk_iconst C dL_refuses_230 ?_
  refine gk_iconst C dL_refuses_231 ?_
  refine gk_iconst C dL_refuses_232 ?_
  refine gk_callSH C o_L_act k_L_100 dL_refuses_233 (act_e hfl H5 (w := 7) (a := t) (b := (0)) (c := (0)) (d := (0)) (r := -7000001) rfl (by omega) (by omega) (by omega) (by omega) (by omega) hcl (rfI7 (by omega))) rfl rfl ⟨Nat.le_of_ble_eq_true rfl, Nat.le_of_ble_eq_true rfl⟩ ⟨by show _ + 9 ≤ 1600; omega, by show _ + 418 ≤ 70000; omega⟩ (by exact Nat.le_of_ble_eq_true rfl) (fun v6 h6 p6 => ?_)
  obtain ⟨rfl, H6⟩ := p6
  dsimp only [gk_push]
  clear H5
  refine gk_ldc C cn_L_85 dL_refuses_236 ?_
  refine gk_icmp_ne C (tgt := 696) (by omega) (by omega) dL_refuses_238 (by decide) (fun c_238 => ?_) (fun c_238 => ?_)
  · exact absurd c_238 (by omega)
  refine gk_aload_n C dL_refuses_241 rfl ?_
  refine gk_bipush C dL_refuses_242 (by decide) ?_
  refine gk_iload C dL_refuses_244 rfl ?_
  refine gk_if_ne C (tgt := 254) (by omega) dL_refuses_246 (by decide) (fun c_246 => ?_) (fun c_246 => ?_)
  rotate_left
  · exact absurd c_246 (by omega)
  refine gk_iload C dL_refuses_254 rfl ?_
  refine gk_iconst C dL_refuses_256 ?_
  refine gk_icmp_ne C (tgt := 265) (by omega) (by omega) dL_refuses_257 (by decide) (fun c_257 => ?_) (fun c_257 => ?_)
  · exact absurd c_257 (by omega)
  refine gk_bipush C dL_refuses_260 (by decide) ?_
  refine gk_goto C (tgt := 267) dL_refuses_262 (by decide) ?_
  refine gk_bipush C dL_refuses_267 (by decide) ?_
  refine gk_iconst C dL_refuses_269 ?_
  refine gk_iconst C dL_refuses_270 ?_
  refine gk_callSH C o_L_act k_L_100 dL_refuses_271 (act_e hfl H6 (w := 9) (a := (101)) (b := (10)) (c := (0)) (d := (0)) (r := -7000002) rfl (by omega) (by omega) (by omega) (by omega) (by omega) hcl (rfA9 (by omega))) rfl rfl ⟨Nat.le_of_ble_eq_true rfl, Nat.le_of_ble_eq_true rfl⟩ ⟨by show _ + 9 ≤ 1600; omega, by show _ + 418 ≤ 70000; omega⟩ (by exact Nat.le_of_ble_eq_true rfl) (fun v7 h7 p7 => ?_)
  obtain ⟨rfl, H7⟩ := p7
  dsimp only [gk_push]
  clear H6
  refine gk_ldc C cn_L_88 dL_refuses_274 ?_
  refine gk_icmp_ne C (tgt := 696) (by omega) (by omega) dL_refuses_276 (by decide) (fun c_276 => ?_) (fun c_276 => ?_)
  · exact absurd c_276 (by omega)
  refine gk_aload_n C dL_refuses_279 rfl ?_
  refine gk_bipush C dL_refuses_280 (by decide) ?_
  refine gk_iconst C dL_refuses_282 ?_
  refine gk_iload C dL_refuses_283 rfl ?_
  refine gk_if_ne C (tgt := 293) (by omega) dL_refuses_285 (by decide) (fun c_285 => ?_) (fun c_285 => ?_)
  rotate_left
  · exact absurd c_285 (by omega)
  refine gk_iload C dL_refuses_293 rfl ?_
  refine gk_iconst C dL_refuses_295 ?_
  refine gk_icmp_ne C (tgt := 304) (by omega) (by omega) dL_refuses_296 (by decide) (fun c_296 => ?_) (fun c_296 => ?_)
  · exact absurd c_296 (by omega)
  refine gk_bipush C dL_refuses_299 (by decide) ?_
  refine gk_goto C (tgt := 306) dL_refuses_301 (by decide) ?_
  refine gk_iconst C dL_refuses_306 ?_
  refine gk_iconst C dL_refuses_307 ?_
  refine gk_callSH C o_L_act k_L_100 dL_refuses_308 (act_e hfl H7 (w := 9) (a := (0)) (b := (41)) (c := (0)) (d := (0)) (r := -7000002) rfl (by omega) (by omega) (by omega) (by omega) (by omega) hcl (rfA9 (by omega))) rfl rfl ⟨Nat.le_of_ble_eq_true rfl, Nat.le_of_ble_eq_true rfl⟩ ⟨by show _ + 9 ≤ 1600; omega, by show _ + 418 ≤ 70000; omega⟩ (by exact Nat.le_of_ble_eq_true rfl) (fun v8 h8 p8 => ?_)
  obtain ⟨rfl, H8⟩ := p8
  dsimp only [gk_push]
  clear H7
  refine gk_ldc C cn_L_88 dL_refuses_311 ?_
  refine gk_icmp_ne C (tgt := 696) (by omega) (by omega) dL_refuses_313 (by decide) (fun c_313 => ?_) (fun c_313 => ?_)
  · exact absurd c_313 (by omega)
  refine gk_aload_n C dL_refuses_316 rfl ?_
  refine gk_bipush C dL_refuses_317 (by decide) ?_
  refine gk_iconst C dL_refuses_319 ?_
  refine gk_bipush C dL_refuses_320 (by decide) ?_
  refine gk_iload C dL_refuses_322 rfl ?_
  refine gk_iconst C dL_refuses_324 ?_
  refine gk_icmp_ne C (tgt := 333) (by omega) (by omega) dL_refuses_325 (by decide) (fun c_325 => ?_) (fun c_325 => ?_)
  · exact absurd c_325 (by omega)
  refine gk_bipush C dL_refuses_328 (by decide) ?_
  refine gk_goto C (tgt := 335) dL_refuses_330 (by decide) ?_
  refine gk_iconst C dL_refuses_335 ?_
  refine gk_callSH C o_L_act k_L_100 dL_refuses_336 (act_e hfl H8 (w := 9) (a := (0)) (b := (10)) (c := (10)) (d := (0)) (r := -7000002) rfl (by omega) (by omega) (by omega) (by omega) (by omega) hcl (rfA9 (by omega))) rfl rfl ⟨Nat.le_of_ble_eq_true rfl, Nat.le_of_ble_eq_true rfl⟩ ⟨by show _ + 9 ≤ 1600; omega, by show _ + 418 ≤ 70000; omega⟩ (by exact Nat.le_of_ble_eq_true rfl) (fun v9 h9 p9 => ?_)
  obtain ⟨rfl, H9⟩ := p9
  dsimp only [gk_push]
  clear H8
  refine gk_ldc C cn_L_88 dL_refuses_339 ?_
  refine gk_icmp_ne C (tgt := 696) (by omega) (by omega) dL_refuses_341 (by decide) (fun c_341 => ?_) (fun c_341 => ?_)
  · exact absurd c_341 (by omega)
  refine gk_aload_n C dL_refuses_344 rfl ?_
  refine gk_bipush C dL_refuses_345 (by decide) ?_
  refine gk_iload C dL_refuses_347 rfl ?_
  refine gk_sipush C dL_refuses_349 (by decide) ?_
  refine gk_iconst C dL_refuses_352 ?_
  refine gk_iconst C dL_refuses_353 ?_
  refine gk_callSH C o_L_act k_L_100 dL_refuses_354 (act_e hfl H9 (w := 10) (a := p) (b := (999)) (c := (0)) (d := (0)) (r := -7000001) rfl (by omega) (by omega) (by omega) (by omega) (by omega) hcl (rfI10 (by omega))) rfl rfl ⟨Nat.le_of_ble_eq_true rfl, Nat.le_of_ble_eq_true rfl⟩ ⟨by show _ + 9 ≤ 1600; omega, by show _ + 418 ≤ 70000; omega⟩ (by exact Nat.le_of_ble_eq_true rfl) (fun v10 h10 p10 => ?_)
  obtain ⟨rfl, H10⟩ := p10
  dsimp only [gk_push]
  clear H9
  refine gk_ldc C cn_L_85 dL_refuses_357 ?_
  refine gk_icmp_ne C (tgt := 696) (by omega) (by omega) dL_refuses_359 (by decide) (fun c_359 => ?_) (fun c_359 => ?_)
  · exact absurd c_359 (by omega)
  refine gk_aload_n C dL_refuses_362 rfl ?_
  refine gk_bipush C dL_refuses_363 (by decide) ?_
  refine gk_iload C dL_refuses_365 rfl ?_
  refine gk_iconst C dL_refuses_367 ?_
  refine gk_iconst C dL_refuses_368 ?_
  refine gk_iconst C dL_refuses_369 ?_
  refine gk_callSH C o_L_act k_L_100 dL_refuses_370 (act_e hfl H10 (w := 11) (a := p) (b := (1)) (c := (0)) (d := (0)) (r := -7000001) rfl (by omega) (by omega) (by omega) (by omega) (by omega) hcl (rfI11 (by omega))) rfl rfl ⟨Nat.le_of_ble_eq_true rfl, Nat.le_of_ble_eq_true rfl⟩ ⟨by show _ + 9 ≤ 1600; omega, by show _ + 418 ≤ 70000; omega⟩ (by exact Nat.le_of_ble_eq_true rfl) (fun v11 h11 p11 => ?_)
  obtain ⟨rfl, H11⟩ := p11
  dsimp only [gk_push]
  clear H10
  refine gk_ldc C cn_L_85 dL_refuses_373 ?_
  refine gk_icmp_ne C (tgt := 696) (by omega) (by omega) dL_refuses_375 (by decide) (fun c_375 => ?_) (fun c_375 => ?_)
  · exact absurd c_375 (by omega)
  refine gk_aload_n C dL_refuses_378 rfl ?_
  refine gk_bipush C dL_refuses_379 (by decide) ?_
  refine gk_iload C dL_refuses_381 rfl ?_
  refine gk_if_ne C (tgt := 390) (by omega) dL_refuses_383 (by decide) (fun c_383 => ?_) (fun c_383 => ?_)
  rotate_left
  · exact absurd c_383 (by omega)
  refine gk_iload C dL_refuses_390 rfl ?_
  refine gk_iconst C dL_refuses_392 ?_
  refine gk_icmp_ne C (tgt := 401) (by omega) (by omega) dL_refuses_393 (by decide) (fun c_393 => ?_) (fun c_393 => ?_)
  · exact absurd c_393 (by omega)
  refine gk_bipush C dL_refuses_396 (by decide) ?_
  refine gk_goto C (tgt := 403) dL_refuses_398 (by decide) ?_
  refine gk_iconst C dL_refuses_403 ?_
  refine gk_iconst C dL_refuses_404 ?_
  refine gk_iconst C dL_refuses_405 ?_
  refine gk_callSH C o_L_act k_L_100 dL_refuses_406 (act_e hfl H11 (w := 12) (a := (121)) (b := (0)) (c := (0)) (d := (0)) (r := -7000002) rfl (by omega) (by omega) (by omega) (by omega) (by omega) hcl (rfA12 (by omega))) rfl rfl ⟨Nat.le_of_ble_eq_true rfl, Nat.le_of_ble_eq_true rfl⟩ ⟨by show _ + 9 ≤ 1600; omega, by show _ + 418 ≤ 70000; omega⟩ (by exact Nat.le_of_ble_eq_true rfl) (fun v12 h12 p12 => ?_)
  obtain ⟨rfl, H12⟩ := p12
  dsimp only [gk_push]
  clear H11
  refine gk_ldc C cn_L_88 dL_refuses_409 ?_
  refine gk_icmp_ne C (tgt := 696) (by omega) (by omega) dL_refuses_411 (by decide) (fun c_411 => ?_) (fun c_411 => ?_)
  · exact absurd c_411 (by omega)
  refine gk_aload_n C dL_refuses_414 rfl ?_
  refine gk_bipush C dL_refuses_415 (by decide) ?_
  refine gk_iconst C dL_refuses_417 ?_
  refine gk_iload C dL_refuses_418 rfl ?_
  refine gk_iconst C dL_refuses_420 ?_
  refine gk_icmp_ne C (tgt := 429) (by omega) (by omega) dL_refuses_421 (by decide) (fun c_421 => ?_) (fun c_421 => ?_)
  · exact absurd c_421 (by omega)
  refine gk_bipush C dL_refuses_424 (by decide) ?_
  refine gk_goto C (tgt := 431) dL_refuses_426 (by decide) ?_
  refine gk_iconst C dL_refuses_431 ?_
  refine gk_iconst C dL_refuses_432 ?_
  refine gk_callSH C o_L_act k_L_100 dL_refuses_433 (act_e hfl H12 (w := 12) (a := (1)) (b := (10)) (c := (0)) (d := (0)) (r := -7000002) rfl (by omega) (by omega) (by omega) (by omega) (by omega) hcl (rfA12 (by omega))) rfl rfl ⟨Nat.le_of_ble_eq_true rfl, Nat.le_of_ble_eq_true rfl⟩ ⟨by show _ + 9 ≤ 1600; omega, by show _ + 418 ≤ 70000; omega⟩ (by exact Nat.le_of_ble_eq_true rfl) (fun v13 h13 p13 => ?_)
  obtain ⟨rfl, H13⟩ := p13
  dsimp only [gk_push]
  clear H12
  refine gk_ldc C cn_L_88 dL_refuses_436 ?_
  refine gk_icmp_ne C (tgt := 696) (by omega) (by omega) dL_refuses_438 (by decide) (fun c_438 => ?_) (fun c_438 => ?_)
  · exact absurd c_438 (by omega)
  refine gk_aload_n C dL_refuses_441 rfl ?_
  refine gk_bipush C dL_refuses_442 (by decide) ?_
  refine gk_iconst C dL_refuses_444 ?_
  refine gk_iconst C dL_refuses_445 ?_
  refine gk_iload C dL_refuses_446 rfl ?_
  refine gk_iconst C dL_refuses_448 ?_
  refine gk_icmp_ne C (tgt := 457) (by omega) (by omega) dL_refuses_449 (by decide) (fun c_449 => ?_) (fun c_449 => ?_)
  · exact absurd c_449 (by omega)
  refine gk_bipush C dL_refuses_452 (by decide) ?_
  refine gk_goto C (tgt := 459) dL_refuses_454 (by decide) ?_
  refine gk_iconst C dL_refuses_459 ?_
  refine gk_callSH C o_L_act k_L_100 dL_refuses_460 (act_e hfl H13 (w := 12) (a := (1)) (b := (0)) (c := (41)) (d := (0)) (r := -7000002) rfl (by omega) (by omega) (by omega) (by omega) (by omega) hcl (rfA12 (by omega))) rfl rfl ⟨Nat.le_of_ble_eq_true rfl, Nat.le_of_ble_eq_true rfl⟩ ⟨by show _ + 9 ≤ 1600; omega, by show _ + 418 ≤ 70000; omega⟩ (by exact Nat.le_of_ble_eq_true rfl) (fun v14 h14 p14 => ?_)
  obtain ⟨rfl, H14⟩ := p14
  dsimp only [gk_push]
  clear H13
  refine gk_ldc C cn_L_88 dL_refuses_463 ?_
  refine gk_icmp_ne C (tgt := 696) (by omega) (by omega) dL_refuses_465 (by decide) (fun c_465 => ?_) (fun c_465 => ?_)
  · exact absurd c_465 (by omega)
  refine gk_aload_n C dL_refuses_468 rfl ?_
  refine gk_bipush C dL_refuses_469 (by decide) ?_
  refine gk_iload C dL_refuses_471 rfl ?_
  refine gk_bipush C dL_refuses_473 (by decide) ?_
  refine gk_iconst C dL_refuses_475 ?_
  refine gk_iconst C dL_refuses_476 ?_
  refine gk_callSH C o_L_act k_L_100 dL_refuses_477 (act_e hfl H14 (w := 13) (a := p) (b := (9)) (c := (0)) (d := (0)) (r := -7000001) rfl (by omega) (by omega) (by omega) (by omega) (by omega) hcl (rfI13 (by omega))) rfl rfl ⟨Nat.le_of_ble_eq_true rfl, Nat.le_of_ble_eq_true rfl⟩ ⟨by show _ + 9 ≤ 1600; omega, by show _ + 418 ≤ 70000; omega⟩ (by exact Nat.le_of_ble_eq_true rfl) (fun v15 h15 p15 => ?_)
  obtain ⟨rfl, H15⟩ := p15
  dsimp only [gk_push]
  clear H14
  refine gk_ldc C cn_L_85 dL_refuses_480 ?_
  refine gk_icmp_ne C (tgt := 696) (by omega) (by omega) dL_refuses_482 (by decide) (fun c_482 => ?_) (fun c_482 => ?_)
  · exact absurd c_482 (by omega)
  refine gk_aload_n C dL_refuses_485 rfl ?_
  refine gk_bipush C dL_refuses_486 (by decide) ?_
  refine gk_iload C dL_refuses_488 rfl ?_
  refine gk_iconst C dL_refuses_490 ?_
  refine gk_iconst C dL_refuses_491 ?_
  refine gk_iconst C dL_refuses_492 ?_
  refine gk_callSH C o_L_act k_L_100 dL_refuses_493 (act_e hfl H15 (w := 14) (a := p) (b := (0)) (c := (0)) (d := (0)) (r := -7000001) rfl (by omega) (by omega) (by omega) (by omega) (by omega) hcl (rfI14 (by omega))) rfl rfl ⟨Nat.le_of_ble_eq_true rfl, Nat.le_of_ble_eq_true rfl⟩ ⟨by show _ + 9 ≤ 1600; omega, by show _ + 418 ≤ 70000; omega⟩ (by exact Nat.le_of_ble_eq_true rfl) (fun v16 h16 p16 => ?_)
  obtain ⟨rfl, H16⟩ := p16
  dsimp only [gk_push]
  clear H15
  refine gk_ldc C cn_L_85 dL_refuses_496 ?_
  refine gk_icmp_ne C (tgt := 696) (by omega) (by omega) dL_refuses_498 (by decide) (fun c_498 => ?_) (fun c_498 => ?_)
  · exact absurd c_498 (by omega)
  refine gk_aload_n C dL_refuses_501 rfl ?_
  refine gk_bipush C dL_refuses_502 (by decide) ?_
  refine gk_iconst C dL_refuses_504 ?_
  refine gk_iload C dL_refuses_505 rfl ?_
  refine gk_iconst C dL_refuses_507 ?_
  refine gk_iconst C dL_refuses_508 ?_
  refine gk_callSH C o_L_act k_L_100 dL_refuses_509 (act_e hfl H16 (w := 14) (a := (0)) (b := p) (c := (0)) (d := (0)) (r := -7000001) rfl (by omega) (by omega) (by omega) (by omega) (by omega) hcl (rfI14 (by omega))) rfl rfl ⟨Nat.le_of_ble_eq_true rfl, Nat.le_of_ble_eq_true rfl⟩ ⟨by show _ + 9 ≤ 1600; omega, by show _ + 418 ≤ 70000; omega⟩ (by exact Nat.le_of_ble_eq_true rfl) (fun v17 h17 p17 => ?_)
  obtain ⟨rfl, H17⟩ := p17
  dsimp only [gk_push]
  clear H16
  refine gk_ldc C cn_L_85 dL_refuses_512 ?_
  refine gk_icmp_ne C (tgt := 696) (by omega) (by omega) dL_refuses_514 (by decide) (fun c_514 => ?_) (fun c_514 => ?_)
  · exact absurd c_514 (by omega)
  refine gk_aload_n C dL_refuses_517 rfl ?_
  refine gk_bipush C dL_refuses_518 (by decide) ?_
  refine gk_iload C dL_refuses_520 rfl ?_
  refine gk_if_ne C (tgt := 529) (by omega) dL_refuses_522 (by decide) (fun c_522 => ?_) (fun c_522 => ?_)
  rotate_left
  · exact absurd c_522 (by omega)
  refine gk_iload C dL_refuses_529 rfl ?_
  refine gk_iconst C dL_refuses_531 ?_
  refine gk_icmp_ne C (tgt := 540) (by omega) (by omega) dL_refuses_532 (by decide) (fun c_532 => ?_) (fun c_532 => ?_)
  · exact absurd c_532 (by omega)
  refine gk_bipush C dL_refuses_535 (by decide) ?_
  refine gk_goto C (tgt := 542) dL_refuses_537 (by decide) ?_
  refine gk_iconst C dL_refuses_542 ?_
  refine gk_iconst C dL_refuses_543 ?_
  refine gk_iconst C dL_refuses_544 ?_
  refine gk_callSH C o_L_act k_L_100 dL_refuses_545 (act_e hfl H17 (w := 15) (a := (121)) (b := (0)) (c := (0)) (d := (0)) (r := -7000002) rfl (by omega) (by omega) (by omega) (by omega) (by omega) hcl (rfA15 (by omega))) rfl rfl ⟨Nat.le_of_ble_eq_true rfl, Nat.le_of_ble_eq_true rfl⟩ ⟨by show _ + 9 ≤ 1600; omega, by show _ + 418 ≤ 70000; omega⟩ (by exact Nat.le_of_ble_eq_true rfl) (fun v18 h18 p18 => ?_)
  obtain ⟨rfl, H18⟩ := p18
  dsimp only [gk_push]
  clear H17
  refine gk_ldc C cn_L_88 dL_refuses_548 ?_
  refine gk_icmp_ne C (tgt := 696) (by omega) (by omega) dL_refuses_550 (by decide) (fun c_550 => ?_) (fun c_550 => ?_)
  · exact absurd c_550 (by omega)
  refine gk_aload_n C dL_refuses_553 rfl ?_
  refine gk_bipush C dL_refuses_554 (by decide) ?_
  refine gk_iconst C dL_refuses_556 ?_
  refine gk_iload C dL_refuses_557 rfl ?_
  refine gk_iconst C dL_refuses_559 ?_
  refine gk_icmp_ne C (tgt := 568) (by omega) (by omega) dL_refuses_560 (by decide) (fun c_560 => ?_) (fun c_560 => ?_)
  · exact absurd c_560 (by omega)
  refine gk_bipush C dL_refuses_563 (by decide) ?_
  refine gk_goto C (tgt := 570) dL_refuses_565 (by decide) ?_
  refine gk_iconst C dL_refuses_570 ?_
  refine gk_iconst C dL_refuses_571 ?_
  refine gk_callSH C o_L_act k_L_100 dL_refuses_572 (act_e hfl H18 (w := 15) (a := (1)) (b := (10)) (c := (0)) (d := (0)) (r := -7000002) rfl (by omega) (by omega) (by omega) (by omega) (by omega) hcl (rfA15 (by omega))) rfl rfl ⟨Nat.le_of_ble_eq_true rfl, Nat.le_of_ble_eq_true rfl⟩ ⟨by show _ + 9 ≤ 1600; omega, by show _ + 418 ≤ 70000; omega⟩ (by exact Nat.le_of_ble_eq_true rfl) (fun v19 h19 p19 => ?_)
  obtain ⟨rfl, H19⟩ := p19
  dsimp only [gk_push]
  clear H18
  refine gk_ldc C cn_L_88 dL_refuses_575 ?_
  refine gk_icmp_ne C (tgt := 696) (by omega) (by omega) dL_refuses_577 (by decide) (fun c_577 => ?_) (fun c_577 => ?_)
  · exact absurd c_577 (by omega)
  refine gk_aload_n C dL_refuses_580 rfl ?_
  refine gk_bipush C dL_refuses_581 (by decide) ?_
  refine gk_iconst C dL_refuses_583 ?_
  refine gk_iconst C dL_refuses_584 ?_
  refine gk_iload C dL_refuses_585 rfl ?_
  refine gk_iconst C dL_refuses_587 ?_
  refine gk_icmp_ne C (tgt := 596) (by omega) (by omega) dL_refuses_588 (by decide) (fun c_588 => ?_) (fun c_588 => ?_)
  · exact absurd c_588 (by omega)
  refine gk_bipush C dL_refuses_591 (by decide) ?_
  refine gk_goto C (tgt := 598) dL_refuses_593 (by decide) ?_
  refine gk_iconst C dL_refuses_598 ?_
  refine gk_callSH C o_L_act k_L_100 dL_refuses_599 (act_e hfl H19 (w := 15) (a := (1)) (b := (0)) (c := (41)) (d := (0)) (r := -7000002) rfl (by omega) (by omega) (by omega) (by omega) (by omega) hcl (rfA15 (by omega))) rfl rfl ⟨Nat.le_of_ble_eq_true rfl, Nat.le_of_ble_eq_true rfl⟩ ⟨by show _ + 9 ≤ 1600; omega, by show _ + 418 ≤ 70000; omega⟩ (by exact Nat.le_of_ble_eq_true rfl) (fun v20 h20 p20 => ?_)
  obtain ⟨rfl, H20⟩ := p20
  dsimp only [gk_push]
  clear H19
  refine gk_ldc C cn_L_88 dL_refuses_602 ?_
  refine gk_icmp_ne C (tgt := 696) (by omega) (by omega) dL_refuses_604 (by decide) (fun c_604 => ?_) (fun c_604 => ?_)
  · exact absurd c_604 (by omega)
  refine gk_aload_n C dL_refuses_607 rfl ?_
  refine gk_bipush C dL_refuses_608 (by decide) ?_
  refine gk_iload C dL_refuses_610 rfl ?_
  refine gk_iconst C dL_refuses_612 ?_
  refine gk_iconst C dL_refuses_613 ?_
  refine gk_iconst C dL_refuses_614 ?_
  refine gk_callSH C o_L_act k_L_100 dL_refuses_615 (act_e hfl H20 (w := 16) (a := (6)) (b := (0)) (c := (0)) (d := (0)) (r := -7000002) rfl (by omega) (by omega) (by omega) (by omega) (by omega) hcl (rfA16 (by omega))) rfl rfl ⟨Nat.le_of_ble_eq_true rfl, Nat.le_of_ble_eq_true rfl⟩ ⟨by show _ + 9 ≤ 1600; omega, by show _ + 418 ≤ 70000; omega⟩ (by exact Nat.le_of_ble_eq_true rfl) (fun v21 h21 p21 => ?_)
  obtain ⟨rfl, H21⟩ := p21
  dsimp only [gk_push]
  clear H20
  refine gk_ldc C cn_L_88 dL_refuses_618 ?_
  refine gk_icmp_ne C (tgt := 696) (by omega) (by omega) dL_refuses_620 (by decide) (fun c_620 => ?_) (fun c_620 => ?_)
  · exact absurd c_620 (by omega)
  refine gk_aload_n C dL_refuses_623 rfl ?_
  refine gk_bipush C dL_refuses_624 (by decide) ?_
  refine gk_iload C dL_refuses_626 rfl ?_
  refine gk_iconst C dL_refuses_628 ?_
  refine gk_iconst C dL_refuses_629 ?_
  refine gk_iconst C dL_refuses_630 ?_
  refine gk_callSH C o_L_act k_L_100 dL_refuses_631 (act_e hfl H21 (w := 17) (a := (6)) (b := (0)) (c := (0)) (d := (0)) (r := -7000002) rfl (by omega) (by omega) (by omega) (by omega) (by omega) hcl (rfA17 (by omega))) rfl rfl ⟨Nat.le_of_ble_eq_true rfl, Nat.le_of_ble_eq_true rfl⟩ ⟨by show _ + 9 ≤ 1600; omega, by show _ + 418 ≤ 70000; omega⟩ (by exact Nat.le_of_ble_eq_true rfl) (fun v22 h22 p22 => ?_)
  obtain ⟨rfl, H22⟩ := p22
  dsimp only [gk_push]
  clear H21
  refine gk_ldc C cn_L_88 dL_refuses_634 ?_
  refine gk_icmp_ne C (tgt := 696) (by omega) (by omega) dL_refuses_636 (by decide) (fun c_636 => ?_) (fun c_636 => ?_)
  · exact absurd c_636 (by omega)
  refine gk_aload_n C dL_refuses_639 rfl ?_
  refine gk_bipush C dL_refuses_640 (by decide) ?_
  refine gk_iload C dL_refuses_642 rfl ?_
  refine gk_iconst C dL_refuses_644 ?_
  refine gk_sipush C dL_refuses_645 (by decide) ?_
  refine gk_iconst C dL_refuses_648 ?_
  refine gk_callSH C o_L_act k_L_100 dL_refuses_649 (act_e hfl H22 (w := 18) (a := (4)) (b := (0)) (c := (999)) (d := (0)) (r := -7000001) rfl (by omega) (by omega) (by omega) (by omega) (by omega) hcl (rfI18 (by omega))) rfl rfl ⟨Nat.le_of_ble_eq_true rfl, Nat.le_of_ble_eq_true rfl⟩ ⟨by show _ + 9 ≤ 1600; omega, by show _ + 418 ≤ 70000; omega⟩ (by exact Nat.le_of_ble_eq_true rfl) (fun v23 h23 p23 => ?_)
  obtain ⟨rfl, H23⟩ := p23
  dsimp only [gk_push]
  clear H22
  refine gk_ldc C cn_L_85 dL_refuses_652 ?_
  refine gk_icmp_ne C (tgt := 696) (by omega) (by omega) dL_refuses_654 (by decide) (fun c_654 => ?_) (fun c_654 => ?_)
  · exact absurd c_654 (by omega)
  refine gk_aload_n C dL_refuses_657 rfl ?_
  refine gk_bipush C dL_refuses_658 (by decide) ?_
  refine gk_iconst C dL_refuses_660 ?_
  refine gk_iload C dL_refuses_661 rfl ?_
  refine gk_sipush C dL_refuses_663 (by decide) ?_
  refine gk_iconst C dL_refuses_666 ?_
  refine gk_callSH C o_L_act k_L_100 dL_refuses_667 (act_e hfl H23 (w := 18) (a := (0)) (b := b) (c := (999)) (d := (0)) (r := -7000001) rfl (by omega) (by omega) (by omega) (by omega) (by omega) hcl (rfI18 (by omega))) rfl rfl ⟨Nat.le_of_ble_eq_true rfl, Nat.le_of_ble_eq_true rfl⟩ ⟨by show _ + 9 ≤ 1600; omega, by show _ + 418 ≤ 70000; omega⟩ (by exact Nat.le_of_ble_eq_true rfl) (fun v24 h24 p24 => ?_)
  obtain ⟨rfl, H24⟩ := p24
  dsimp only [gk_push]
  clear H23
  refine gk_ldc C cn_L_85 dL_refuses_670 ?_
  refine gk_icmp_ne C (tgt := 696) (by omega) (by omega) dL_refuses_672 (by decide) (fun c_672 => ?_) (fun c_672 => ?_)
  · exact absurd c_672 (by omega)
  refine gk_aload_n C dL_refuses_675 rfl ?_
  refine gk_bipush C dL_refuses_676 (by decide) ?_
  refine gk_iload C dL_refuses_678 rfl ?_
  refine gk_bipush C dL_refuses_680 (by decide) ?_
  refine gk_iconst C dL_refuses_682 ?_
  refine gk_iconst C dL_refuses_683 ?_
  refine gk_callSH C o_L_act k_L_100 dL_refuses_684 (act_e hfl H24 (w := 21) (a := b) (b := (9)) (c := (0)) (d := (0)) (r := -7000001) rfl (by omega) (by omega) (by omega) (by omega) (by omega) hcl (rfI21 (by omega))) rfl rfl ⟨Nat.le_of_ble_eq_true rfl, Nat.le_of_ble_eq_true rfl⟩ ⟨by show _ + 9 ≤ 1600; omega, by show _ + 418 ≤ 70000; omega⟩ (by exact Nat.le_of_ble_eq_true rfl) (fun v25 h25 p25 => ?_)
  obtain ⟨rfl, H25⟩ := p25
  dsimp only [gk_push]
  clear H24
  refine gk_ldc C cn_L_85 dL_refuses_687 ?_
  refine gk_icmp_ne C (tgt := 696) (by omega) (by omega) dL_refuses_689 (by decide) (fun c_689 => ?_) (fun c_689 => ?_)
  · exact absurd c_689 (by omega)
  refine gk_iconst C dL_refuses_692 ?_
  refine gk_goto C (tgt := 697) dL_refuses_693 (by decide) ?_
  refine gk_istore_16 C rfl (by exact Nat.le_of_ble_eq_true rfl) dL_refuses_697 ?_
  refine gk_iconst C dL_refuses_699 ?_
  refine gk_istore_17 C rfl (by exact Nat.le_of_ble_eq_true rfl) dL_refuses_700 ?_
  refine gk_iload C dL_refuses_702 rfl ?_
  refine gk_bipush C dL_refuses_704 (by decide) ?_
  refine gk_icmp_ge C (tgt := 759) (by omega) (by omega) dL_refuses_706 (by decide) (fun c_706 => ?_) (fun c_706 => ?_)
  · exact absurd c_706 (by omega)
  refine gk_iload C dL_refuses_709 rfl ?_
  refine gk_if_eq C (tgt := 759) (by omega) dL_refuses_711 (by decide) (fun c_711 => ?_) (fun c_711 => ?_)
  · exact absurd c_711 (by omega)
  refine gk_aload_n C dL_refuses_714 rfl ?_
  refine gk_iload C dL_refuses_715 rfl ?_
  refine gk_iload C dL_refuses_717 rfl ?_
  refine gk_iconst C dL_refuses_719 ?_
  refine gk_iconst C dL_refuses_720 ?_
  refine gk_iconst C dL_refuses_721 ?_
  refine gk_callSH C o_L_act k_L_100 dL_refuses_722 (act_e hfl H25 (w := 5) (a := t) (b := (0)) (c := (0)) (d := (0)) (r := -7000001) rfl (by omega) (by omega) (by omega) (by omega) (by omega) hcl (rfI5 (by omega))) rfl rfl ⟨Nat.le_of_ble_eq_true rfl, Nat.le_of_ble_eq_true rfl⟩ ⟨by show _ + 9 ≤ 1600; omega, by show _ + 418 ≤ 70000; omega⟩ (by exact Nat.le_of_ble_eq_true rfl) (fun v26 h26 p26 => ?_)
  obtain ⟨rfl, H26⟩ := p26
  dsimp only [gk_push]
  clear H25
  refine gk_ldc C cn_L_85 dL_refuses_725 ?_
  refine gk_icmp_ne C (tgt := 750) (by omega) (by omega) dL_refuses_727 (by decide) (fun c_727 => ?_) (fun c_727 => ?_)
  · exact absurd c_727 (by omega)
  refine gk_aload_n C dL_refuses_730 rfl ?_
  refine gk_iload C dL_refuses_731 rfl ?_
  refine gk_iconst C dL_refuses_733 ?_
  refine gk_iload C dL_refuses_734 rfl ?_
  refine gk_iconst C dL_refuses_736 ?_
  refine gk_iconst C dL_refuses_737 ?_
  refine gk_callSH C o_L_act k_L_100 dL_refuses_738 (act_e hfl H26 (w := 5) (a := (0)) (b := t) (c := (0)) (d := (0)) (r := -7000001) rfl (by omega) (by omega) (by omega) (by omega) (by omega) hcl (rfI5 (by omega))) rfl rfl ⟨Nat.le_of_ble_eq_true rfl, Nat.le_of_ble_eq_true rfl⟩ ⟨by show _ + 9 ≤ 1600; omega, by show _ + 418 ≤ 70000; omega⟩ (by exact Nat.le_of_ble_eq_true rfl) (fun v27 h27 p27 => ?_)
  obtain ⟨rfl, H27⟩ := p27
  dsimp only [gk_push]
  clear H26
  refine gk_ldc C cn_L_85 dL_refuses_741 ?_
  refine gk_icmp_ne C (tgt := 750) (by omega) (by omega) dL_refuses_743 (by decide) (fun c_743 => ?_) (fun c_743 => ?_)
  · exact absurd c_743 (by omega)
  refine gk_iconst C dL_refuses_746 ?_
  refine gk_goto C (tgt := 751) dL_refuses_747 (by decide) ?_
  refine gk_istore_16 C rfl (by exact Nat.le_of_ble_eq_true rfl) dL_refuses_751 ?_
  refine gk_iinc_17 C rfl (by exact Nat.le_of_ble_eq_true rfl) dL_refuses_753 ?_
  rw [show ((5 : Int) + 1) = 6 by decide]
  refine gk_goto C (tgt := 702) dL_refuses_756 (by decide) ?_
  refine gk_iload C dL_refuses_702 rfl ?_
  refine gk_bipush C dL_refuses_704 (by decide) ?_
  refine gk_icmp_ge C (tgt := 759) (by omega) (by omega) dL_refuses_706 (by decide) (fun c_706 => ?_) (fun c_706 => ?_)
  · exact absurd c_706 (by omega)
  refine gk_iload C dL_refuses_709 rfl ?_
  refine gk_if_eq C (tgt := 759) (by omega) dL_refuses_711 (by decide) (fun c_711 => ?_) (fun c_711 => ?_)
  · exact absurd c_711 (by omega)
  refine gk_aload_n C dL_refuses_714 rfl ?_
  refine gk_iload C dL_refuses_715 rfl ?_
  refine gk_iload C dL_refuses_717 rfl ?_
  refine gk_iconst C dL_refuses_719 ?_
  refine gk_iconst C dL_refuses_720 ?_
  refine gk_iconst C dL_refuses_721 ?_
  refine gk_callSH C o_L_act k_L_100 dL_refuses_722 (act_e hfl H27 (w := 6) (a := t) (b := (0)) (c := (0)) (d := (0)) (r := -7000001) rfl (by omega) (by omega) (by omega) (by omega) (by omega) hcl (rfI6 (by omega))) rfl rfl ⟨Nat.le_of_ble_eq_true rfl, Nat.le_of_ble_eq_true rfl⟩ ⟨by show _ + 9 ≤ 1600; omega, by show _ + 418 ≤ 70000; omega⟩ (by exact Nat.le_of_ble_eq_true rfl) (fun v28 h28 p28 => ?_)
  obtain ⟨rfl, H28⟩ := p28
  dsimp only [gk_push]
  clear H27
  refine gk_ldc C cn_L_85 dL_refuses_725 ?_
  refine gk_icmp_ne C (tgt := 750) (by omega) (by omega) dL_refuses_727 (by decide) (fun c_727 => ?_) (fun c_727 => ?_)
  · exact absurd c_727 (by omega)
  refine gk_aload_n C dL_refuses_730 rfl ?_
  refine gk_iload C dL_refuses_731 rfl ?_
  refine gk_iconst C dL_refuses_733 ?_
  refine gk_iload C dL_refuses_734 rfl ?_
  refine gk_iconst C dL_refuses_736 ?_
  refine gk_iconst C dL_refuses_737 ?_
  refine gk_callSH C o_L_act k_L_100 dL_refuses_738 (act_e hfl H28 (w := 6) (a := (0)) (b := t) (c := (0)) (d := (0)) (r := -7000001) rfl (by omega) (by omega) (by omega) (by omega) (by omega) hcl (rfI6 (by omega))) rfl rfl ⟨Nat.le_of_ble_eq_true rfl, Nat.le_of_ble_eq_true rfl⟩ ⟨by show _ + 9 ≤ 1600; omega, by show _ + 418 ≤ 70000; omega⟩ (by exact Nat.le_of_ble_eq_true rfl) (fun v29 h29 p29 => ?_)
  obtain ⟨rfl, H29⟩ := p29
  dsimp only [gk_push]
  clear H28
  refine gk_ldc C cn_L_85 dL_refuses_741 ?_
  refine gk_icmp_ne C (tgt := 750) (by omega) (by omega) dL_refuses_743 (by decide) (fun c_743 => ?_) (fun c_743 => ?_)
  · exact absurd c_743 (by omega)
  refine gk_iconst C dL_refuses_746 ?_
  refine gk_goto C (tgt := 751) dL_refuses_747 (by decide) ?_
  refine gk_istore_16 C rfl (by exact Nat.le_of_ble_eq_true rfl) dL_refuses_751 ?_
  refine gk_iinc_17 C rfl (by exact Nat.le_of_ble_eq_true rfl) dL_refuses_753 ?_
  rw [show ((6 : Int) + 1) = 7 by decide]
  refine gk_goto C (tgt := 702) dL_refuses_756 (by decide) ?_
  refine gk_iload C dL_refuses_702 rfl ?_
  refine gk_bipush C dL_refuses_704 (by decide) ?_
  refine gk_icmp_ge C (tgt := 759) (by omega) (by omega) dL_refuses_706 (by decide) (fun c_706 => ?_) (fun c_706 => ?_)
  rotate_left
  · exact absurd c_706 (by omega)
  refine gk_iload C dL_refuses_759 rfl ?_
  refine gk_if_eq C (tgt := 917) (by omega) dL_refuses_761 (by decide) (fun c_761 => ?_) (fun c_761 => ?_)
  · exact absurd c_761 (by omega)
  have J1 : ∀ (h2 : Hp) (k2 n2 : Nat), HD Γ x σ h2 → k2 ≤ 675 → n2 ≤ 31030 → G 913 [some (.ref x), some (iv t), some (iv p), some (iv b), some (iv 2147483647), some (iv sp), some (jv ti), none, some (iv 1), some (iv (-2147483648)), some (iv t), some (iv p), some (iv b), some (iv 4), some (iv 9), some (iv 6), some (iv 1), some (iv 7)] [] h2 k2 n2 := by
    intro h2 k2 n2 J1H hk2 hn2
    refine gk_iconst C dL_refuses_913 ?_
    refine gk_goto C (tgt := 918) dL_refuses_914 (by decide) ?_
    refine gk_istore_16 C rfl (by exact Nat.le_of_ble_eq_true rfl) dL_refuses_918 ?_
    refine gk_iload C dL_refuses_920 rfl ?_
    refine gk_if_eq C (tgt := 997) (by omega) dL_refuses_922 (by decide) (fun c_922 => ?_) (fun c_922 => ?_)
    · exact absurd c_922 (by omega)
    have J2 : ∀ (h2 : Hp) (k2 n2 : Nat), HD Γ x σ h2 → k2 ≤ 693 → n2 ≤ 31866 → G 993 [some (.ref x), some (iv t), some (iv p), some (iv b), some (iv 2147483647), some (iv sp), some (jv ti), none, some (iv 1), some (iv (-2147483648)), some (iv t), some (iv p), some (iv b), some (iv 4), some (iv 9), some (iv 6), some (iv 1), some (iv 7)] [] h2 k2 n2 := by
      intro h2 k2 n2 J2H hk2 hn2
      refine gk_iconst C dL_refuses_993 ?_
      refine gk_goto C (tgt := 998) dL_refuses_994 (by decide) ?_
      refine gk_istore_16 C rfl (by exact Nat.le_of_ble_eq_true rfl) dL_refuses_998 ?_
      refine gk_iload C dL_refuses_1000 rfl ?_
      refine gk_if_eq C (tgt := 1066) (by omega) dL_refuses_1002 (by decide) (fun c_1002 => ?_) (fun c_1002 => ?_)
      · exact absurd c_1002 (by omega)
      have J3 : ∀ (h2 : Hp) (k2 n2 : Nat), HD Γ x σ h2 → k2 ≤ 711 → n2 ≤ 32702 → G 1062 [some (.ref x), some (iv t), some (iv p), some (iv b), some (iv 2147483647), some (iv sp), some (jv ti), none, some (iv 1), some (iv (-2147483648)), some (iv t), some (iv p), some (iv b), some (iv 4), some (iv 9), some (iv 6), some (iv 1), some (iv 7)] [] h2 k2 n2 := by
        intro h2 k2 n2 J3H hk2 hn2
        refine gk_iconst C dL_refuses_1062 ?_
        refine gk_goto C (tgt := 1067) dL_refuses_1063 (by decide) ?_
        refine gk_istore_16 C rfl (by exact Nat.le_of_ble_eq_true rfl) dL_refuses_1067 ?_
        refine gk_iload C dL_refuses_1069 rfl ?_
        refine gk_if_ne C (tgt := 1076) (by omega) dL_refuses_1071 (by decide) (fun c_1071 => ?_) (fun c_1071 => ?_)
        rotate_left
        · exact absurd c_1071 (by omega)
        refine gk_iinc_8 C rfl (by exact Nat.le_of_ble_eq_true rfl) dL_refuses_1076 ?_
        rw [show ((1 : Int) + 1) = 2 by decide]
        refine gk_goto C (tgt := 19) dL_refuses_1079 (by decide) ?_
        exact fin _ _ _ _ _ _ _ _ _ _ _ _ J3H (by omega) (by omega)
      refine gk_iload_n C dL_refuses_1005 rfl ?_
      refine gk_if_eq C (tgt := 1062) (by omega) dL_refuses_1006 (by decide) (fun c_1006 => ?_) (fun c_1006 => ?_)
      · exact J3 _ _ _ J2H (by omega) (by omega)
      · refine gk_aload_n C dL_refuses_1009 rfl ?_
        refine gk_bipush C dL_refuses_1010 (by decide) ?_
        refine gk_iconst C dL_refuses_1012 ?_
        refine gk_iconst C dL_refuses_1013 ?_
        refine gk_iload C dL_refuses_1014 rfl ?_
        refine gk_iconst C dL_refuses_1016 ?_
        refine gk_icmp_ne C (tgt := 1025) (by omega) (by omega) dL_refuses_1017 (by decide) (fun c_1017 => ?_) (fun c_1017 => ?_)
        · exact absurd c_1017 (by omega)
        refine gk_bipush C dL_refuses_1020 (by decide) ?_
        refine gk_goto C (tgt := 1027) dL_refuses_1022 (by decide) ?_
        refine gk_iconst C dL_refuses_1027 ?_
        refine gk_callSH C o_L_act k_L_100 dL_refuses_1028 (act_e hfl J2H (w := 18) (a := (0)) (b := (0)) (c := (101)) (d := (0)) (r := -7000002) rfl (by omega) (by omega) (by omega) (by omega) (by omega) hcl (rfA18 (by omega) (by omega))) rfl rfl ⟨Nat.le_of_ble_eq_true rfl, Nat.le_of_ble_eq_true rfl⟩ ⟨by show _ + 9 ≤ 1600; omega, by show _ + 418 ≤ 70000; omega⟩ (by exact Nat.le_of_ble_eq_true rfl) (fun v30 h30 p30 => ?_)
        obtain ⟨rfl, H30⟩ := p30
        dsimp only [gk_push]
        clear J2H
        refine gk_ldc C cn_L_88 dL_refuses_1031 ?_
        refine gk_icmp_ne C (tgt := 1066) (by omega) (by omega) dL_refuses_1033 (by decide) (fun c_1033 => ?_) (fun c_1033 => ?_)
        · exact absurd c_1033 (by omega)
        refine gk_aload_n C dL_refuses_1036 rfl ?_
        refine gk_bipush C dL_refuses_1037 (by decide) ?_
        refine gk_iconst C dL_refuses_1039 ?_
        refine gk_iload C dL_refuses_1040 rfl ?_
        refine gk_iconst C dL_refuses_1042 ?_
        refine gk_icmp_ne C (tgt := 1050) (by omega) (by omega) dL_refuses_1043 (by decide) (fun c_1043 => ?_) (fun c_1043 => ?_)
        · exact absurd c_1043 (by omega)
        refine gk_iconst C dL_refuses_1046 ?_
        refine gk_goto C (tgt := 1052) dL_refuses_1047 (by decide) ?_
        refine gk_iconst C dL_refuses_1052 ?_
        refine gk_iconst C dL_refuses_1053 ?_
        refine gk_callSH C o_L_act k_L_100 dL_refuses_1054 (act_e hfl H30 (w := 21) (a := (0)) (b := (5)) (c := (0)) (d := (0)) (r := -7000002) rfl (by omega) (by omega) (by omega) (by omega) (by omega) hcl (rfA21 (by omega) (by omega))) rfl rfl ⟨Nat.le_of_ble_eq_true rfl, Nat.le_of_ble_eq_true rfl⟩ ⟨by show _ + 9 ≤ 1600; omega, by show _ + 418 ≤ 70000; omega⟩ (by exact Nat.le_of_ble_eq_true rfl) (fun v31 h31 p31 => ?_)
        obtain ⟨rfl, H31⟩ := p31
        dsimp only [gk_push]
        clear H30
        refine gk_ldc C cn_L_88 dL_refuses_1057 ?_
        refine gk_icmp_ne C (tgt := 1066) (by omega) (by omega) dL_refuses_1059 (by decide) (fun c_1059 => ?_) (fun c_1059 => ?_)
        · exact absurd c_1059 (by omega)
        exact J3 _ _ _ H31 (by omega) (by omega)
    refine gk_iload_n C dL_refuses_925 rfl ?_
    refine gk_if_eq C (tgt := 993) (by omega) dL_refuses_926 (by decide) (fun c_926 => ?_) (fun c_926 => ?_)
    · exact J2 _ _ _ J1H (by omega) (by omega)
    · refine gk_aload_n C dL_refuses_929 rfl ?_
      refine gk_bipush C dL_refuses_930 (by decide) ?_
      refine gk_iconst C dL_refuses_932 ?_
      refine gk_iload C dL_refuses_933 rfl ?_
      refine gk_if_ne C (tgt := 943) (by omega) dL_refuses_935 (by decide) (fun c_935 => ?_) (fun c_935 => ?_)
      rotate_left
      · exact absurd c_935 (by omega)
      refine gk_iload C dL_refuses_943 rfl ?_
      refine gk_iconst C dL_refuses_945 ?_
      refine gk_icmp_ne C (tgt := 954) (by omega) (by omega) dL_refuses_946 (by decide) (fun c_946 => ?_) (fun c_946 => ?_)
      · exact absurd c_946 (by omega)
      refine gk_bipush C dL_refuses_949 (by decide) ?_
      refine gk_goto C (tgt := 956) dL_refuses_951 (by decide) ?_
      refine gk_iconst C dL_refuses_956 ?_
      refine gk_iconst C dL_refuses_957 ?_
      refine gk_callSH C o_L_act k_L_100 dL_refuses_958 (act_e hfl J1H (w := 10) (a := (0)) (b := (101)) (c := (0)) (d := (0)) (r := -7000002) rfl (by omega) (by omega) (by omega) (by omega) (by omega) hcl (rfA10 (by omega) (by omega))) rfl rfl ⟨Nat.le_of_ble_eq_true rfl, Nat.le_of_ble_eq_true rfl⟩ ⟨by show _ + 9 ≤ 1600; omega, by show _ + 418 ≤ 70000; omega⟩ (by exact Nat.le_of_ble_eq_true rfl) (fun v32 h32 p32 => ?_)
      obtain ⟨rfl, H32⟩ := p32
      dsimp only [gk_push]
      clear J1H
      refine gk_ldc C cn_L_88 dL_refuses_961 ?_
      refine gk_icmp_ne C (tgt := 997) (by omega) (by omega) dL_refuses_963 (by decide) (fun c_963 => ?_) (fun c_963 => ?_)
      · exact absurd c_963 (by omega)
      refine gk_aload_n C dL_refuses_966 rfl ?_
      refine gk_bipush C dL_refuses_967 (by decide) ?_
      refine gk_iconst C dL_refuses_969 ?_
      refine gk_iload C dL_refuses_970 rfl ?_
      refine gk_iconst C dL_refuses_972 ?_
      refine gk_icmp_ne C (tgt := 981) (by omega) (by omega) dL_refuses_973 (by decide) (fun c_973 => ?_) (fun c_973 => ?_)
      · exact absurd c_973 (by omega)
      refine gk_bipush C dL_refuses_976 (by decide) ?_
      refine gk_goto C (tgt := 983) dL_refuses_978 (by decide) ?_
      refine gk_iconst C dL_refuses_983 ?_
      refine gk_iconst C dL_refuses_984 ?_
      refine gk_callSH C o_L_act k_L_100 dL_refuses_985 (act_e hfl H32 (w := 13) (a := (0)) (b := (6)) (c := (0)) (d := (0)) (r := -7000002) rfl (by omega) (by omega) (by omega) (by omega) (by omega) hcl (rfA13 (by omega) (by omega))) rfl rfl ⟨Nat.le_of_ble_eq_true rfl, Nat.le_of_ble_eq_true rfl⟩ ⟨by show _ + 9 ≤ 1600; omega, by show _ + 418 ≤ 70000; omega⟩ (by exact Nat.le_of_ble_eq_true rfl) (fun v33 h33 p33 => ?_)
      obtain ⟨rfl, H33⟩ := p33
      dsimp only [gk_push]
      clear H32
      refine gk_ldc C cn_L_88 dL_refuses_988 ?_
      refine gk_icmp_ne C (tgt := 997) (by omega) (by omega) dL_refuses_990 (by decide) (fun c_990 => ?_) (fun c_990 => ?_)
      · exact absurd c_990 (by omega)
      exact J2 _ _ _ H33 (by omega) (by omega)
  refine gk_iload_n C dL_refuses_764 rfl ?_
  refine gk_if_eq C (tgt := 913) (by omega) dL_refuses_765 (by decide) (fun c_765 => ?_) (fun c_765 => ?_)
  · exact J1 _ _ _ H29 (by omega) (by omega)
  · refine gk_aload_n C dL_refuses_768 rfl ?_
    refine gk_iconst C dL_refuses_769 ?_
    refine gk_iconst C dL_refuses_770 ?_
    refine gk_iload C dL_refuses_771 rfl ?_
    refine gk_iconst C dL_refuses_773 ?_
    refine gk_iconst C dL_refuses_774 ?_
    refine gk_callSH C o_L_act k_L_100 dL_refuses_775 (act_e hfl H29 (w := 1) (a := (0)) (b := (9)) (c := (1)) (d := (0)) (r := -7000002) rfl (by omega) (by omega) (by omega) (by omega) (by omega) hcl (rfA1 (by omega) (by omega))) rfl rfl ⟨Nat.le_of_ble_eq_true rfl, Nat.le_of_ble_eq_true rfl⟩ ⟨by show _ + 9 ≤ 1600; omega, by show _ + 418 ≤ 70000; omega⟩ (by exact Nat.le_of_ble_eq_true rfl) (fun v34 h34 p34 => ?_)
    obtain ⟨rfl, H34⟩ := p34
    dsimp only [gk_push]
    clear H29
    refine gk_ldc C cn_L_88 dL_refuses_778 ?_
    refine gk_icmp_ne C (tgt := 917) (by omega) (by omega) dL_refuses_780 (by decide) (fun c_780 => ?_) (fun c_780 => ?_)
    · exact absurd c_780 (by omega)
    refine gk_aload_n C dL_refuses_783 rfl ?_
    refine gk_iconst C dL_refuses_784 ?_
    refine gk_iconst C dL_refuses_785 ?_
    refine gk_iconst C dL_refuses_786 ?_
    refine gk_iload C dL_refuses_787 rfl ?_
    refine gk_if_ne C (tgt := 796) (by omega) dL_refuses_789 (by decide) (fun c_789 => ?_) (fun c_789 => ?_)
    rotate_left
    · exact absurd c_789 (by omega)
    refine gk_iload C dL_refuses_796 rfl ?_
    refine gk_iconst C dL_refuses_798 ?_
    refine gk_icmp_ne C (tgt := 807) (by omega) (by omega) dL_refuses_799 (by decide) (fun c_799 => ?_) (fun c_799 => ?_)
    · exact absurd c_799 (by omega)
    refine gk_bipush C dL_refuses_802 (by decide) ?_
    refine gk_goto C (tgt := 809) dL_refuses_804 (by decide) ?_
    refine gk_iconst C dL_refuses_809 ?_
    refine gk_callSH C o_L_act k_L_100 dL_refuses_810 (act_e hfl H34 (w := 1) (a := (0)) (b := (0)) (c := (17)) (d := (0)) (r := -7000002) rfl (by omega) (by omega) (by omega) (by omega) (by omega) hcl (rfA1 (by omega) (by omega))) rfl rfl ⟨Nat.le_of_ble_eq_true rfl, Nat.le_of_ble_eq_true rfl⟩ ⟨by show _ + 9 ≤ 1600; omega, by show _ + 418 ≤ 70000; omega⟩ (by exact Nat.le_of_ble_eq_true rfl) (fun v35 h35 p35 => ?_)
    obtain ⟨rfl, H35⟩ := p35
    dsimp only [gk_push]
    clear H34
    refine gk_ldc C cn_L_88 dL_refuses_813 ?_
    refine gk_icmp_ne C (tgt := 917) (by omega) (by omega) dL_refuses_815 (by decide) (fun c_815 => ?_) (fun c_815 => ?_)
    · exact absurd c_815 (by omega)
    refine gk_aload_n C dL_refuses_818 rfl ?_
    refine gk_iconst C dL_refuses_819 ?_
    refine gk_iconst C dL_refuses_820 ?_
    refine gk_iconst C dL_refuses_821 ?_
    refine gk_iconst C dL_refuses_822 ?_
    refine gk_iload C dL_refuses_823 rfl ?_
    refine gk_callSH C o_L_act k_L_100 dL_refuses_825 (act_e hfl H35 (w := 1) (a := (0)) (b := (0)) (c := (1)) (d := (9)) (r := -7000002) rfl (by omega) (by omega) (by omega) (by omega) (by omega) hcl (rfA1 (by omega) (by omega))) rfl rfl ⟨Nat.le_of_ble_eq_true rfl, Nat.le_of_ble_eq_true rfl⟩ ⟨by show _ + 9 ≤ 1600; omega, by show _ + 418 ≤ 70000; omega⟩ (by exact Nat.le_of_ble_eq_true rfl) (fun v36 h36 p36 => ?_)
    obtain ⟨rfl, H36⟩ := p36
    dsimp only [gk_push]
    clear H35
    refine gk_ldc C cn_L_88 dL_refuses_828 ?_
    refine gk_icmp_ne C (tgt := 917) (by omega) (by omega) dL_refuses_830 (by decide) (fun c_830 => ?_) (fun c_830 => ?_)
    · exact absurd c_830 (by omega)
    refine gk_aload_n C dL_refuses_833 rfl ?_
    refine gk_iconst C dL_refuses_834 ?_
    refine gk_iconst C dL_refuses_835 ?_
    refine gk_iload C dL_refuses_836 rfl ?_
    refine gk_bipush C dL_refuses_838 (by decide) ?_
    refine gk_iconst C dL_refuses_840 ?_
    refine gk_callSH C o_L_act k_L_100 dL_refuses_841 (act_e hfl H36 (w := 3) (a := (0)) (b := (-2147483648)) (c := (9)) (d := (0)) (r := -7000001) rfl (by omega) (by omega) (by omega) (by omega) (by omega) hcl (rfJ3 H36.wf (by omega) (by omega))) rfl rfl ⟨Nat.le_of_ble_eq_true rfl, Nat.le_of_ble_eq_true rfl⟩ ⟨by show _ + 9 ≤ 1600; omega, by show _ + 418 ≤ 70000; omega⟩ (by exact Nat.le_of_ble_eq_true rfl) (fun v37 h37 p37 => ?_)
    obtain ⟨rfl, H37⟩ := p37
    dsimp only [gk_push]
    clear H36
    refine gk_ldc C cn_L_85 dL_refuses_844 ?_
    refine gk_icmp_ne C (tgt := 917) (by omega) (by omega) dL_refuses_846 (by decide) (fun c_846 => ?_) (fun c_846 => ?_)
    · exact absurd c_846 (by omega)
    refine gk_aload_n C dL_refuses_849 rfl ?_
    refine gk_iconst C dL_refuses_850 ?_
    refine gk_iconst C dL_refuses_851 ?_
    refine gk_iload C dL_refuses_852 rfl ?_
    refine gk_iconst C dL_refuses_854 ?_
    refine gk_icmp_ne C (tgt := 863) (by omega) (by omega) dL_refuses_855 (by decide) (fun c_855 => ?_) (fun c_855 => ?_)
    · exact absurd c_855 (by omega)
    refine gk_bipush C dL_refuses_858 (by decide) ?_
    refine gk_goto C (tgt := 865) dL_refuses_860 (by decide) ?_
    refine gk_iconst C dL_refuses_865 ?_
    refine gk_iconst C dL_refuses_866 ?_
    refine gk_callSH C o_L_act k_L_100 dL_refuses_867 (act_e hfl H37 (w := 4) (a := (0)) (b := (7)) (c := (0)) (d := (0)) (r := -7000002) rfl (by omega) (by omega) (by omega) (by omega) (by omega) hcl (rfA4 (by omega) (by omega))) rfl rfl ⟨Nat.le_of_ble_eq_true rfl, Nat.le_of_ble_eq_true rfl⟩ ⟨by show _ + 9 ≤ 1600; omega, by show _ + 418 ≤ 70000; omega⟩ (by exact Nat.le_of_ble_eq_true rfl) (fun v38 h38 p38 => ?_)
    obtain ⟨rfl, H38⟩ := p38
    dsimp only [gk_push]
    clear H37
    refine gk_ldc C cn_L_88 dL_refuses_870 ?_
    refine gk_icmp_ne C (tgt := 917) (by omega) (by omega) dL_refuses_872 (by decide) (fun c_872 => ?_) (fun c_872 => ?_)
    · exact absurd c_872 (by omega)
    refine gk_aload_n C dL_refuses_875 rfl ?_
    refine gk_bipush C dL_refuses_876 (by decide) ?_
    refine gk_iconst C dL_refuses_878 ?_
    refine gk_iload C dL_refuses_879 rfl ?_
    refine gk_if_ne C (tgt := 889) (by omega) dL_refuses_881 (by decide) (fun c_881 => ?_) (fun c_881 => ?_)
    rotate_left
    · exact absurd c_881 (by omega)
    refine gk_iload C dL_refuses_889 rfl ?_
    refine gk_iconst C dL_refuses_891 ?_
    refine gk_icmp_ne C (tgt := 901) (by omega) (by omega) dL_refuses_892 (by decide) (fun c_892 => ?_) (fun c_892 => ?_)
    · exact absurd c_892 (by omega)
    refine gk_sipush C dL_refuses_895 (by decide) ?_
    refine gk_goto C (tgt := 903) dL_refuses_898 (by decide) ?_
    refine gk_iconst C dL_refuses_903 ?_
    refine gk_iconst C dL_refuses_904 ?_
    refine gk_callSH C o_L_act k_L_100 dL_refuses_905 (act_e hfl H38 (w := 7) (a := (0)) (b := (601)) (c := (0)) (d := (0)) (r := -7000002) rfl (by omega) (by omega) (by omega) (by omega) (by omega) hcl (rfA7 (by omega) (by omega))) rfl rfl ⟨Nat.le_of_ble_eq_true rfl, Nat.le_of_ble_eq_true rfl⟩ ⟨by show _ + 9 ≤ 1600; omega, by show _ + 418 ≤ 70000; omega⟩ (by exact Nat.le_of_ble_eq_true rfl) (fun v39 h39 p39 => ?_)
    obtain ⟨rfl, H39⟩ := p39
    dsimp only [gk_push]
    clear H38
    refine gk_ldc C cn_L_88 dL_refuses_908 ?_
    refine gk_icmp_ne C (tgt := 917) (by omega) (by omega) dL_refuses_910 (by decide) (fun c_910 => ?_) (fun c_910 => ?_)
    · exact absurd c_910 (by omega)
    exact J1 _ _ _ H39 (by omega) (by omega)

set_option maxRecDepth 100000 in
set_option maxHeartbeats 8000000 in
theorem rf_2 {l : Launch} {Γ : GA} {G : GP} {X : String → Hp → Nat → Nat → Prop} {x : Nat} {σ : ST} {h : Hp} {k n : Nat} {t p b sp ti : Int} {u9 u10 u11 u12 u13 u14 u15 u16 u17 : Option Value} (C : Cx l Γ m_L_refuses G X) (hfl : l.stackTraces = false) (H : HD Γ x σ h) (ht : t = ((σ.1.1 : Nat) : Int)) (hp : p = ((σ.2.2.1.1 : Nat) : Int)) (hb : b = ((σ.2.2.2.1.1 : Nat) : Int)) (ht1 : t ≤ 10) (hp1 : p ≤ 8) (hb1 : b ≤ 8) (hcl : σ.2.2.2.2 ≤ 10000) (hk : k ≤ 720) (hn : n ≤ 32800)
    (fin : ∀ (u9 u10 u11 u12 u13 u14 u15 u16 u17 : Option Value) (h2 : Hp) (k2 n2 : Nat), HD Γ x σ h2 → k2 ≤ 1080 → n2 ≤ 49200 → G 19 [some (.ref x), some (iv t), some (iv p), some (iv b), some (iv 2147483647), some (iv sp), some (jv ti), none, some (iv 3), u9, u10, u11, u12, u13, u14, u15, u16, u17] [] h2 k2 n2) : G 19 [some (.ref x), some (iv t), some (iv p), some (iv b), some (iv 2147483647), some (iv sp), some (jv ti), none, some (iv 2), u9, u10, u11, u12, u13, u14, u15, u16, u17] [] h k n := by
  refine gk_iload C dL_refuses_19 rfl ?_
  refine gk_iconst C dL_refuses_21 ?_
  refine gk_icmp_ge C (tgt := 1082) (by omega) (by omega) dL_refuses_22 (by decide) (fun c_22 => ?_) (fun c_22 => ?_)
  · exact absurd c_22 (by omega)
  refine gk_iload C dL_refuses_25 rfl ?_
  refine gk_if_ne C (tgt := 34) (by omega) dL_refuses_27 (by decide) (fun c_27 => ?_) (fun c_27 => ?_)
  rotate_left
  · exact absurd c_27 (by omega)
  refine gk_iload C dL_refuses_34 rfl ?_
  refine gk_iconst C dL_refuses_36 ?_
  refine gk_icmp_ne C (tgt := 45) (by omega) (by omega) dL_refuses_37 (by decide) (fun c_37 => ?_) (fun c_37 => ?_)
  · exact absurd c_37 (by omega)
  refine gk_iload C dL_refuses_40 rfl ?_
  refine gk_goto C (tgt := 50) dL_refuses_42 (by decide) ?_
  refine gk_istore_9 C rfl (by exact Nat.le_of_ble_eq_true rfl) dL_refuses_50 ?_
  refine gk_iload C dL_refuses_52 rfl ?_
  refine gk_iconst C dL_refuses_54 ?_
  refine gk_icmp_ne C (tgt := 62) (by omega) (by omega) dL_refuses_55 (by decide) (fun c_55 => ?_) (fun c_55 => ?_)
  rotate_left
  · exact absurd c_55 (by omega)
  refine gk_iload C dL_refuses_62 rfl ?_
  refine gk_istore_10 C rfl (by exact Nat.le_of_ble_eq_true rfl) dL_refuses_64 ?_
  refine gk_iload C dL_refuses_66 rfl ?_
  refine gk_iconst C dL_refuses_68 ?_
  refine gk_icmp_ne C (tgt := 76) (by omega) (by omega) dL_refuses_69 (by decide) (fun c_69 => ?_) (fun c_69 => ?_)
  rotate_left
  · exact absurd c_69 (by omega)
  refine gk_iload C dL_refuses_76 rfl ?_
  refine gk_istore_11 C rfl (by exact Nat.le_of_ble_eq_true rfl) dL_refuses_78 ?_
  refine gk_iload C dL_refuses_80 rfl ?_
  refine gk_iconst C dL_refuses_82 ?_
  refine gk_icmp_ne C (tgt := 90) (by omega) (by omega) dL_refuses_83 (by decide) (fun c_83 => ?_) (fun c_83 => ?_)
  rotate_left
  · exact absurd c_83 (by omega)
  refine gk_iload C dL_refuses_90 rfl ?_
  refine gk_istore_12 C rfl (by exact Nat.le_of_ble_eq_true rfl) dL_refuses_92 ?_
  refine gk_iload C dL_refuses_94 rfl ?_
  refine gk_iconst C dL_refuses_96 ?_
  refine gk_icmp_ne C (tgt := 104) (by omega) (by omega) dL_refuses_97 (by decide) (fun c_97 => ?_) (fun c_97 => ?_)
  rotate_left
  · exact absurd c_97 (by omega)
  refine gk_iload C dL_refuses_104 rfl ?_
  refine gk_istore_13 C rfl (by exact Nat.le_of_ble_eq_true rfl) dL_refuses_106 ?_
  refine gk_iload C dL_refuses_108 rfl ?_
  refine gk_iconst C dL_refuses_110 ?_
  refine gk_icmp_ne C (tgt := 119) (by omega) (by omega) dL_refuses_111 (by decide) (fun c_111 => ?_) (fun c_111 => ?_)
  rotate_left
  · exact absurd c_111 (by omega)
  refine gk_iload C dL_refuses_119 rfl ?_
  refine gk_istore_14 C rfl (by exact Nat.le_of_ble_eq_true rfl) dL_refuses_121 ?_
  refine gk_iload C dL_refuses_123 rfl ?_
  refine gk_if_ne C (tgt := 132) (by omega) dL_refuses_125 (by decide) (fun c_125 => ?_) (fun c_125 => ?_)
  rotate_left
  · exact absurd c_125 (by omega)
  refine gk_iload C dL_refuses_132 rfl ?_
  refine gk_iconst C dL_refuses_134 ?_
  refine gk_icmp_ne C (tgt := 143) (by omega) (by omega) dL_refuses_135 (by decide) (fun c_135 => ?_) (fun c_135 => ?_)
  rotate_left
  · exact absurd c_135 (by omega)
  refine gk_iload C dL_refuses_143 rfl ?_
  refine gk_istore_15 C rfl (by exact Nat.le_of_ble_eq_true rfl) dL_refuses_145 ?_
  refine gk_aload_n C dL_refuses_147 rfl ?_
  refine gk_iconst C dL_refuses_148 ?_
  refine gk_iload C dL_refuses_149 rfl ?_
  refine gk_iconst C dL_refuses_151 ?_
  refine gk_iconst C dL_refuses_152 ?_
  refine gk_iconst C dL_refuses_153 ?_
  refine gk_callSH C o_L_act k_L_100 dL_refuses_154 (act_e hfl H (w := 0) (a := (2147483647)) (b := (0)) (c := (0)) (d := (0)) (r := -7000002) rfl (by omega) (by omega) (by omega) (by omega) (by omega) hcl (rfA0 (by omega))) rfl rfl ⟨Nat.le_of_ble_eq_true rfl, Nat.le_of_ble_eq_true rfl⟩ ⟨by show _ + 9 ≤ 1600; omega, by show _ + 418 ≤ 70000; omega⟩ (by exact Nat.le_of_ble_eq_true rfl) (fun v1 h1 p1 => ?_)
  obtain ⟨rfl, H1⟩ := p1
  dsimp only [gk_push]
  clear H
  refine gk_ldc C cn_L_88 dL_refuses_157 ?_
  refine gk_icmp_ne C (tgt := 696) (by omega) (by omega) dL_refuses_159 (by decide) (fun c_159 => ?_) (fun c_159 => ?_)
  · exact absurd c_159 (by omega)
  refine gk_aload_n C dL_refuses_162 rfl ?_
  refine gk_iconst C dL_refuses_163 ?_
  refine gk_iload C dL_refuses_164 rfl ?_
  refine gk_bipush C dL_refuses_166 (by decide) ?_
  refine gk_iconst C dL_refuses_168 ?_
  refine gk_iconst C dL_refuses_169 ?_
  refine gk_callSH C o_L_act k_L_100 dL_refuses_170 (act_e hfl H1 (w := 1) (a := (2147483647)) (b := (99)) (c := (0)) (d := (0)) (r := -7000001) rfl (by omega) (by omega) (by omega) (by omega) (by omega) hcl (rfI1 (by omega))) rfl rfl ⟨Nat.le_of_ble_eq_true rfl, Nat.le_of_ble_eq_true rfl⟩ ⟨by show _ + 9 ≤ 1600; omega, by show _ + 418 ≤ 70000; omega⟩ (by exact Nat.le_of_ble_eq_true rfl) (fun v2 h2 p2 => ?_)
  obtain ⟨rfl, H2⟩ := p2
  dsimp only [gk_push]
  clear H1
  refine gk_ldc C cn_L_85 dL_refuses_173 ?_
  refine gk_icmp_ne C (tgt := 696) (by omega) (by omega) dL_refuses_175 (by decide) (fun c_175 => ?_) (fun c_175 => ?_)
  · exact absurd c_175 (by omega)
  refine gk_aload_n C dL_refuses_178 rfl ?_
  refine gk_iconst C dL_refuses_179 ?_
  refine gk_iload C dL_refuses_180 rfl ?_
  refine gk_iconst C dL_refuses_182 ?_
  refine gk_iconst C dL_refuses_183 ?_
  refine gk_iconst C dL_refuses_184 ?_
  refine gk_callSH C o_L_act k_L_100 dL_refuses_185 (act_e hfl H2 (w := 2) (a := (2147483647)) (b := (1)) (c := (0)) (d := (0)) (r := -7000001) rfl (by omega) (by omega) (by omega) (by omega) (by omega) hcl (rfI2 (by omega))) rfl rfl ⟨Nat.le_of_ble_eq_true rfl, Nat.le_of_ble_eq_true rfl⟩ ⟨by show _ + 9 ≤ 1600; omega, by show _ + 418 ≤ 70000; omega⟩ (by exact Nat.le_of_ble_eq_true rfl) (fun v3 h3 p3 => ?_)
  obtain ⟨rfl, H3⟩ := p3
  dsimp only [gk_push]
  clear H2
  refine gk_ldc C cn_L_85 dL_refuses_188 ?_
  refine gk_icmp_ne C (tgt := 696) (by omega) (by omega) dL_refuses_190 (by decide) (fun c_190 => ?_) (fun c_190 => ?_)
  · exact absurd c_190 (by omega)
  refine gk_aload_n C dL_refuses_193 rfl ?_
  refine gk_iconst C dL_refuses_194 ?_
  refine gk_iload C dL_refuses_195 rfl ?_
  refine gk_iconst C dL_refuses_197 ?_
  refine gk_bipush C dL_refuses_198 (by decide) ?_
  refine gk_iconst C dL_refuses_200 ?_
  refine gk_callSH C o_L_act k_L_100 dL_refuses_201 (act_e hfl H3 (w := 3) (a := (2147483647)) (b := (0)) (c := (9)) (d := (0)) (r := -7000001) rfl (by omega) (by omega) (by omega) (by omega) (by omega) hcl (rfI3 (by omega))) rfl rfl ⟨Nat.le_of_ble_eq_true rfl, Nat.le_of_ble_eq_true rfl⟩ ⟨by show _ + 9 ≤ 1600; omega, by show _ + 418 ≤ 70000; omega⟩ (by exact Nat.le_of_ble_eq_true rfl) (fun v4 h4 p4 => ?_)
  obtain ⟨rfl, H4⟩ := p4
  dsimp only [gk_push]
  clear H3
  refine gk_ldc C cn_L_85 dL_refuses_204 ?_
  refine gk_icmp_ne C (tgt := 696) (by omega) (by omega) dL_refuses_206 (by decide) (fun c_206 => ?_) (fun c_206 => ?_)
  · exact absurd c_206 (by omega)
  refine gk_aload_n C dL_refuses_209 rfl ?_
  refine gk_iconst C dL_refuses_210 ?_
  refine gk_iload C dL_refuses_211 rfl ?_
  refine gk_bipush C dL_refuses_213 (by decide) ?_
  refine gk_iconst C dL_refuses_215 ?_
  refine gk_iconst C dL_refuses_216 ?_
  refine gk_callSH C o_L_act k_L_100 dL_refuses_217 (act_e hfl H4 (w := 4) (a := (2147483647)) (b := (9)) (c := (0)) (d := (0)) (r := -7000001) rfl (by omega) (by omega) (by omega) (by omega) (by omega) hcl (rfI4 (by omega))) rfl rfl ⟨Nat.le_of_ble_eq_true rfl, Nat.le_of_ble_eq_true rfl⟩ ⟨by show _ + 9 ≤ 1600; omega, by show _ + 418 ≤ 70000; omega⟩ (by exact Nat.le_of_ble_eq_true rfl) (fun v5 h5 p5 => ?_)
  obtain ⟨rfl, H5⟩ := p5
  dsimp only [gk_push]
  clear H4
  refine gk_ldc C cn_L_85 dL_refuses_220 ?_
  refine gk_icmp_ne C (tgt := 696) (by omega) (by omega) dL_refuses_222 (by decide) (fun c_222 => ?_) (fun c_222 => ?_)
  · exact absurd c_222 (by omega)
  refine gk_aload_n C dL_refuses_225 rfl ?_
  refine gk_bipush C dL_refuses_226 (by decide) ?_
  refine gk_iload C dL_refuses_228 rfl ?_
  refine gk_iconst C dL_refuses_230 ?_
  refine gk_iconst C dL_refuses_231 ?_
  refine gk_iconst C dL_refuses_232 ?_
  refine gk_callSH C o_L_act k_L_100 dL_refuses_233 (act_e hfl H5 (w := 7) (a := (2147483647)) (b := (0)) (c := (0)) (d := (0)) (r := -7000001) rfl (by omega) (by omega) (by omega) (by omega) (by omega) hcl (rfI7 (by omega))) rfl rfl ⟨Nat.le_of_ble_eq_true rfl, Nat.le_of_ble_eq_true rfl⟩ ⟨by show _ + 9 ≤ 1600; omega, by show _ + 418 ≤ 70000; omega⟩ (by exact Nat.le_of_ble_eq_true rfl) (fun v6 h6 p6 => ?_)
  obtain ⟨rfl, H6⟩ := p6
  dsimp only [gk_push]
  clear H5
  refine gk_ldc C cn_L_85 dL_refuses_236 ?_
  refine gk_icmp_ne C (tgt := 696) (by omega) (by omega) dL_refuses_238 (by decide) (fun c_238 => ?_) (fun c_238 => ?_)
  · exact absurd c_238 (by omega)
  refine gk_aload_n C dL_refuses_241 rfl ?_
  refine gk_bipush C dL_refuses_242 (by decide) ?_
  refine gk_iload C dL_refuses_244 rfl ?_
  refine gk_if_ne C (tgt := 254) (by omega) dL_refuses_246 (by decide) (fun c_246 => ?_) (fun c_246 => ?_)
  rotate_left
  · exact absurd c_246 (by omega)
  refine gk_iload C dL_refuses_254 rfl ?_
  refine gk_iconst C dL_refuses_256 ?_
  refine gk_icmp_ne C (tgt := 265) (by omega) (by omega) dL_refuses_257 (by decide) (fun c_257 => ?_) (fun c_257 => ?_)
  rotate_left
  · exact absurd c_257 (by omega)
  refine gk_iload C dL_refuses_265 rfl ?_
  refine gk_bipush C dL_refuses_267 (by decide) ?_
  refine gk_iconst C dL_refuses_269 ?_
  refine gk_iconst C dL_refuses_270 ?_
  refine gk_callSH C o_L_act k_L_100 dL_refuses_271 (act_e hfl H6 (w := 9) (a := (2147483647)) (b := (10)) (c := (0)) (d := (0)) (r := -7000002) rfl (by omega) (by omega) (by omega) (by omega) (by omega) hcl (rfA9 (by omega))) rfl rfl ⟨Nat.le_of_ble_eq_true rfl, Nat.le_of_ble_eq_true rfl⟩ ⟨by show _ + 9 ≤ 1600; omega, by show _ + 418 ≤ 70000; omega⟩ (by exact Nat.le_of_ble_eq_true rfl) (fun v7 h7 p7 => ?_)
  obtain ⟨rfl, H7⟩ := p7
  dsimp only [gk_push]
  clear H6
  refine gk_ldc C cn_L_88 dL_refuses_274 ?_
  refine gk_icmp_ne C (tgt := 696) (by omega) (by omega) dL_refuses_276 (by decide) (fun c_276 => ?_) (fun c_276 => ?_)
  · exact absurd c_276 (by omega)
  refine gk_aload_n C dL_refuses_279 rfl ?_
  refine gk_bipush C dL_refuses_280 (by decide) ?_
  refine gk_iconst C dL_refuses_282 ?_
  refine gk_iload C dL_refuses_283 rfl ?_
  refine gk_if_ne C (tgt := 293) (by omega) dL_refuses_285 (by decide) (fun c_285 => ?_) (fun c_285 => ?_)
  rotate_left
  · exact absurd c_285 (by omega)
  refine gk_iload C dL_refuses_293 rfl ?_
  refine gk_iconst C dL_refuses_295 ?_
  refine gk_icmp_ne C (tgt := 304) (by omega) (by omega) dL_refuses_296 (by decide) (fun c_296 => ?_) (fun c_296 => ?_)
  rotate_left
  · exact absurd c_296 (by omega)
  refine gk_iload C dL_refuses_304 rfl ?_
  refine gk_iconst C dL_refuses_306 ?_
  refine gk_iconst C dL_refuses_307 ?_
  refine gk_callSH C o_L_act k_L_100 dL_refuses_308 (act_e hfl H7 (w := 9) (a := (0)) (b := (2147483647)) (c := (0)) (d := (0)) (r := -7000002) rfl (by omega) (by omega) (by omega) (by omega) (by omega) hcl (rfA9 (by omega))) rfl rfl ⟨Nat.le_of_ble_eq_true rfl, Nat.le_of_ble_eq_true rfl⟩ ⟨by show _ + 9 ≤ 1600; omega, by show _ + 418 ≤ 70000; omega⟩ (by exact Nat.le_of_ble_eq_true rfl) (fun v8 h8 p8 => ?_)
  obtain ⟨rfl, H8⟩ := p8
  dsimp only [gk_push]
  clear H7
  refine gk_ldc C cn_L_88 dL_refuses_311 ?_
  refine gk_icmp_ne C (tgt := 696) (by omega) (by omega) dL_refuses_313 (by decide) (fun c_313 => ?_) (fun c_313 => ?_)
  · exact absurd c_313 (by omega)
  refine gk_aload_n C dL_refuses_316 rfl ?_
  refine gk_bipush C dL_refuses_317 (by decide) ?_
  refine gk_iconst C dL_refuses_319 ?_
  refine gk_bipush C dL_refuses_320 (by decide) ?_
  refine gk_iload C dL_refuses_322 rfl ?_
  refine gk_iconst C dL_refuses_324 ?_
  refine gk_icmp_ne C (tgt := 333) (by omega) (by omega) dL_refuses_325 (by decide) (fun c_325 => ?_) (fun c_325 => ?_)
  rotate_left
  · exact absurd c_325 (by omega)
  refine gk_iload C dL_refuses_333 rfl ?_
  refine gk_iconst C dL_refuses_335 ?_
  refine gk_callSH C o_L_act k_L_100 dL_refuses_336 (act_e hfl H8 (w := 9) (a := (0)) (b := (10)) (c := (2147483647)) (d := (0)) (r := -7000002) rfl (by omega) (by omega) (by omega) (by omega) (by omega) hcl (rfA9 (by omega))) rfl rfl ⟨Nat.le_of_ble_eq_true rfl, Nat.le_of_ble_eq_true rfl⟩ ⟨by show _ + 9 ≤ 1600; omega, by show _ + 418 ≤ 70000; omega⟩ (by exact Nat.le_of_ble_eq_true rfl) (fun v9 h9 p9 => ?_)
  obtain ⟨rfl, H9⟩ := p9
  dsimp only [gk_push]
  clear H8
  refine gk_ldc C cn_L_88 dL_refuses_339 ?_
  refine gk_icmp_ne C (tgt := 696) (by omega) (by omega) dL_refuses_341 (by decide) (fun c_341 => ?_) (fun c_341 => ?_)
  · exact absurd c_341 (by omega)
  refine gk_aload_n C dL_refuses_344 rfl ?_
  refine gk_bipush C dL_refuses_345 (by decide) ?_
  refine gk_iload C dL_refuses_347 rfl ?_
  refine gk_sipush C dL_refuses_349 (by decide) ?_
  refine gk_iconst C dL_refuses_352 ?_
  refine gk_iconst C dL_refuses_353 ?_
  refine gk_callSH C o_L_act k_L_100 dL_refuses_354 (act_e hfl H9 (w := 10) (a := (2147483647)) (b := (999)) (c := (0)) (d := (0)) (r := -7000001) rfl (by omega) (by omega) (by omega) (by omega) (by omega) hcl (rfI10 (by omega))) rfl rfl ⟨Nat.le_of_ble_eq_true rfl, Nat.le_of_ble_eq_true rfl⟩ ⟨by show _ + 9 ≤ 1600; omega, by show _ + 418 ≤ 70000; omega⟩ (by exact Nat.le_of_ble_eq_true rfl) (fun v10 h10 p10 => ?_)
  obtain ⟨rfl, H10⟩ := p10
  dsimp only [gk_push]
  clear H9
  refine gk_ldc C cn_L_85 dL_refuses_357 ?_
  refine gk_icmp_ne C (tgt := 696) (by omega) (by omega) dL_refuses_359 (by decide) (fun c_359 => ?_) (fun c_359 => ?_)
  · exact absurd c_359 (by omega)
  refine gk_aload_n C dL_refuses_362 rfl ?_
  refine gk_bipush C dL_refuses_363 (by decide) ?_
  refine gk_iload C dL_refuses_365 rfl ?_
  refine gk_iconst C dL_refuses_367 ?_
  refine gk_iconst C dL_refuses_368 ?_
  refine gk_iconst C dL_refuses_369 ?_
  refine gk_callSH C o_L_act k_L_100 dL_refuses_370 (act_e hfl H10 (w := 11) (a := (2147483647)) (b := (1)) (c := (0)) (d := (0)) (r := -7000001) rfl (by omega) (by omega) (by omega) (by omega) (by omega) hcl (rfI11 (by omega))) rfl rfl ⟨Nat.le_of_ble_eq_true rfl, Nat.le_of_ble_eq_true rfl⟩ ⟨by show _ + 9 ≤ 1600; omega, by show _ + 418 ≤ 70000; omega⟩ (by exact Nat.le_of_ble_eq_true rfl) (fun v11 h11 p11 => ?_)
  obtain ⟨rfl, H11⟩ := p11
  dsimp only [gk_push]
  clear H10
  refine gk_ldc C cn_L_85 dL_refuses_373 ?_
  refine gk_icmp_ne C (tgt := 696) (by omega) (by omega) dL_refuses_375 (by decide) (fun c_375 => ?_) (fun c_375 => ?_)
  · exact absurd c_375 (by omega)
  refine gk_aload_n C dL_refuses_378 rfl ?_
  refine gk_bipush C dL_refuses_379 (by decide) ?_
  refine gk_iload C dL_refuses_381 rfl ?_
  refine gk_if_ne C (tgt := 390) (by omega) dL_refuses_383 (by decide) (fun c_383 => ?_) (fun c_383 => ?_)
  rotate_left
  · exact absurd c_383 (by omega)
  refine gk_iload C dL_refuses_390 rfl ?_
  refine gk_iconst C dL_refuses_392 ?_
  refine gk_icmp_ne C (tgt := 401) (by omega) (by omega) dL_refuses_393 (by decide) (fun c_393 => ?_) (fun c_393 => ?_)
  rotate_left
  · exact absurd c_393 (by omega)
  refine gk_iload C dL_refuses_401 rfl ?_
  refine gk_iconst C dL_refuses_403 ?_
  refine gk_iconst C dL_refuses_404 ?_
  refine gk_iconst C dL_refuses_405 ?_
  refine gk_callSH C o_L_act k_L_100 dL_refuses_406 (act_e hfl H11 (w := 12) (a := (2147483647)) (b := (0)) (c := (0)) (d := (0)) (r := -7000002) rfl (by omega) (by omega) (by omega) (by omega) (by omega) hcl (rfA12 (by omega))) rfl rfl ⟨Nat.le_of_ble_eq_true rfl, Nat.le_of_ble_eq_true rfl⟩ ⟨by show _ + 9 ≤ 1600; omega, by show _ + 418 ≤ 70000; omega⟩ (by exact Nat.le_of_ble_eq_true rfl) (fun v12 h12 p12 => ?_)
  obtain ⟨rfl, H12⟩ := p12
  dsimp only [gk_push]
  clear H11
  refine gk_ldc C cn_L_88 dL_refuses_409 ?_
  refine gk_icmp_ne C (tgt := 696) (by omega) (by omega) dL_refuses_411 (by decide) (fun c_411 => ?_) (fun c_411 => ?_)
  · exact absurd c_411 (by omega)
  refine gk_aload_n C dL_refuses_414 rfl ?_
  refine gk_bipush C dL_refuses_415 (by decide) ?_
  refine gk_iconst C dL_refuses_417 ?_
  refine gk_iload C dL_refuses_418 rfl ?_
  refine gk_iconst C dL_refuses_420 ?_
  refine gk_icmp_ne C (tgt := 429) (by omega) (by omega) dL_refuses_421 (by decide) (fun c_421 => ?_) (fun c_421 => ?_)
  rotate_left
  · exact absurd c_421 (by omega)
  refine gk_iload C dL_refuses_429 rfl ?_
  refine gk_iconst C dL_refuses_431 ?_
  refine gk_iconst C dL_refuses_432 ?_
  refine gk_callSH C o_L_act k_L_100 dL_refuses_433 (act_e hfl H12 (w := 12) (a := (1)) (b := (2147483647)) (c := (0)) (d := (0)) (r := -7000002) rfl (by omega) (by omega) (by omega) (by omega) (by omega) hcl (rfA12 (by omega))) rfl rfl ⟨Nat.le_of_ble_eq_true rfl, Nat.le_of_ble_eq_true rfl⟩ ⟨by show _ + 9 ≤ 1600; omega, by show _ + 418 ≤ 70000; omega⟩ (by exact Nat.le_of_ble_eq_true rfl) (fun v13 h13 p13 => ?_)
  obtain ⟨rfl, H13⟩ := p13
  dsimp only [gk_push]
  clear H12
  refine gk_ldc C cn_L_88 dL_refuses_436 ?_
  refine gk_icmp_ne C (tgt := 696) (by omega) (by omega) dL_refuses_438 (by decide) (fun c_438 => ?_) (fun c_438 => ?_)
  · exact absurd c_438 (by omega)
  refine gk_aload_n C dL_refuses_441 rfl ?_
  refine gk_bipush C dL_refuses_442 (by decide) ?_
  refine gk_iconst C dL_refuses_444 ?_
  refine gk_iconst C dL_refuses_445 ?_
  refine gk_iload C dL_refuses_446 rfl ?_
  refine gk_iconst C dL_refuses_448 ?_
  refine gk_icmp_ne C (tgt := 457) (by omega) (by omega) dL_refuses_449 (by decide) (fun c_449 => ?_) (fun c_449 => ?_)
  rotate_left
  · exact absurd c_449 (by omega)
  refine gk_iload C dL_refuses_457 rfl ?_
  refine gk_iconst C dL_refuses_459 ?_
  refine gk_callSH C o_L_act k_L_100 dL_refuses_460 (act_e hfl H13 (w := 12) (a := (1)) (b := (0)) (c := (2147483647)) (d := (0)) (r := -7000002) rfl (by omega) (by omega) (by omega) (by omega) (by omega) hcl (rfA12 (by omega))) rfl rfl ⟨Nat.le_of_ble_eq_true rfl, Nat.le_of_ble_eq_true rfl⟩ ⟨by show _ + 9 ≤ 1600; omega, by show _ + 418 ≤ 70000; omega⟩ (by exact Nat.le_of_ble_eq_true rfl) (fun v14 h14 p14 => ?_)
  obtain ⟨rfl, H14⟩ := p14
  dsimp only [gk_push]
  clear H13
  refine gk_ldc C cn_L_88 dL_refuses_463 ?_
  refine gk_icmp_ne C (tgt := 696) (by omega) (by omega) dL_refuses_465 (by decide) (fun c_465 => ?_) (fun c_465 => ?_)
  · exact absurd c_465 (by omega)
  refine gk_aload_n C dL_refuses_468 rfl ?_
  refine gk_bipush C dL_refuses_469 (by decide) ?_
  refine gk_iload C dL_refuses_471 rfl ?_
  refine gk_bipush C dL_refuses_473 (by decide) ?_
  refine gk_iconst C dL_refuses_475 ?_
  refine gk_iconst C dL_refuses_476 ?_
  refine gk_callSH C o_L_act k_L_100 dL_refuses_477 (act_e hfl H14 (w := 13) (a := (2147483647)) (b := (9)) (c := (0)) (d := (0)) (r := -7000001) rfl (by omega) (by omega) (by omega) (by omega) (by omega) hcl (rfI13 (by omega))) rfl rfl ⟨Nat.le_of_ble_eq_true rfl, Nat.le_of_ble_eq_true rfl⟩ ⟨by show _ + 9 ≤ 1600; omega, by show _ + 418 ≤ 70000; omega⟩ (by exact Nat.le_of_ble_eq_true rfl) (fun v15 h15 p15 => ?_)
  obtain ⟨rfl, H15⟩ := p15
  dsimp only [gk_push]
  clear H14
  refine gk_ldc C cn_L_85 dL_refuses_480 ?_
  refine gk_icmp_ne C (tgt := 696) (by omega) (by omega) dL_refuses_482 (by decide) (fun c_482 => ?_) (fun c_482 => ?_)
  · exact absurd c_482 (by omega)
  refine gk_aload_n C dL_refuses_485 rfl ?_
  refine gk_bipush C dL_refuses_486 (by decide) ?_
  refine gk_iload C dL_refuses_488 rfl ?_
  refine gk_iconst C dL_refuses_490 ?_
  refine gk_iconst C dL_refuses_491 ?_
  refine gk_iconst C dL_refuses_492 ?_
  refine gk_callSH C o_L_act k_L_100 dL_refuses_493 (act_e hfl H15 (w := 14) (a := (2147483647)) (b := (0)) (c := (0)) (d := (0)) (r := -7000001) rfl (by omega) (by omega) (by omega) (by omega) (by omega) hcl (rfI14 (by omega))) rfl rfl ⟨Nat.le_of_ble_eq_true rfl, Nat.le_of_ble_eq_true rfl⟩ ⟨by show _ + 9 ≤ 1600; omega, by show _ + 418 ≤ 70000; omega⟩ (by exact Nat.le_of_ble_eq_true rfl) (fun v16 h16 p16 => ?_)
  obtain ⟨rfl, H16⟩ := p16
  dsimp only [gk_push]
  clear H15
  refine gk_ldc C cn_L_85 dL_refuses_496 ?_
  refine gk_icmp_ne C (tgt := 696) (by omega) (by omega) dL_refuses_498 (by decide) (fun c_498 => ?_) (fun c_498 => ?_)
  · exact absurd c_498 (by omega)
  refine gk_aload_n C dL_refuses_501 rfl ?_
  refine gk_bipush C dL_refuses_502 (by decide) ?_
  refine gk_iconst C dL_refuses_504 ?_
  refine gk_iload C dL_refuses_505 rfl ?_
  refine gk_iconst C dL_refuses_507 ?_
  refine gk_iconst C dL_refuses_508 ?_
  refine gk_callSH C o_L_act k_L_100 dL_refuses_509 (act_e hfl H16 (w := 14) (a := (0)) (b := (2147483647)) (c := (0)) (d := (0)) (r := -7000001) rfl (by omega) (by omega) (by omega) (by omega) (by omega) hcl (rfI14 (by omega))) rfl rfl ⟨Nat.le_of_ble_eq_true rfl, Nat.le_of_ble_eq_true rfl⟩ ⟨by show _ + 9 ≤ 1600; omega, by show _ + 418 ≤ 70000; omega⟩ (by exact Nat.le_of_ble_eq_true rfl) (fun v17 h17 p17 => ?_)
  obtain ⟨rfl, H17⟩ := p17
  dsimp only [gk_push]
  clear H16
  refine gk_ldc C cn_L_85 dL_refuses_512 ?_
  refine gk_icmp_ne C (tgt := 696) (by omega) (by omega) dL_refuses_514 (by decide) (fun c_514 => ?_) (fun c_514 => ?_)
  · exact absurd c_514 (by omega)
  refine gk_aload_n C dL_refuses_517 rfl ?_
  refine gk_bipush C dL_refuses_518 (by decide) ?_
  refine gk_iload C dL_refuses_520 rfl ?_
  refine gk_if_ne C (tgt := 529) (by omega) dL_refuses_522 (by decide) (fun c_522 => ?_) (fun c_522 => ?_)
  rotate_left
  · exact absurd c_522 (by omega)
  refine gk_iload C dL_refuses_529 rfl ?_
  refine gk_iconst C dL_refuses_531 ?_
  refine gk_icmp_ne C (tgt := 540) (by omega) (by omega) dL_refuses_532 (by decide) (fun c_532 => ?_) (fun c_532 => ?_)
  rotate_left
  · exact absurd c_532 (by omega)
  refine gk_iload C dL_refuses_540 rfl ?_
  refine gk_iconst C dL_refuses_542 ?_
  refine gk_iconst C dL_refuses_543 ?_
  refine gk_iconst C dL_refuses_544 ?_
  refine gk_callSH C o_L_act k_L_100 dL_refuses_545 (act_e hfl H17 (w := 15) (a := (2147483647)) (b := (0)) (c := (0)) (d := (0)) (r := -7000002) rfl (by omega) (by omega) (by omega) (by omega) (by omega) hcl (rfA15 (by omega))) rfl rfl ⟨Nat.le_of_ble_eq_true rfl, Nat.le_of_ble_eq_true rfl⟩ ⟨by show _ + 9 ≤ 1600; omega, by show _ + 418 ≤ 70000; omega⟩ (by exact Nat.le_of_ble_eq_true rfl) (fun v18 h18 p18 => ?_)
  obtain ⟨rfl, H18⟩ := p18
  dsimp only [gk_push]
  clear H17
  refine gk_ldc C cn_L_88 dL_refuses_548 ?_
  refine gk_icmp_ne C (tgt := 696) (by omega) (by omega) dL_refuses_550 (by decide) (fun c_550 => ?_) (fun c_550 => ?_)
  · exact absurd c_550 (by omega)
  refine gk_aload_n C dL_refuses_553 rfl ?_
  refine gk_bipush C dL_refuses_554 (by decide) ?_
  refine gk_iconst C dL_refuses_556 ?_
  refine gk_iload C dL_refuses_557 rfl ?_
  refine gk_iconst C dL_refuses_559 ?_
  refine gk_icmp_ne C (tgt := 568) (by omega) (by omega) dL_refuses_560 (by decide) (fun c_560 => ?_) (fun c_560 => ?_)
  rotate_left
  · exact absurd c_560 (by omega)
  refine gk_iload C dL_refuses_568 rfl ?_
  refine gk_iconst C dL_refuses_570 ?_
  refine gk_iconst C dL_refuses_571 ?_
  refine gk_callSH C o_L_act k_L_100 dL_refuses_572 (act_e hfl H18 (w := 15) (a := (1)) (b := (2147483647)) (c := (0)) (d := (0)) (r := -7000002) rfl (by omega) (by omega) (by omega) (by omega) (by omega) hcl (rfA15 (by omega))) rfl rfl ⟨Nat.le_of_ble_eq_true rfl, Nat.le_of_ble_eq_true rfl⟩ ⟨by show _ + 9 ≤ 1600; omega, by show _ + 418 ≤ 70000; omega⟩ (by exact Nat.le_of_ble_eq_true rfl) (fun v19 h19 p19 => ?_)
  obtain ⟨rfl, H19⟩ := p19
  dsimp only [gk_push]
  clear H18
  refine gk_ldc C cn_L_88 dL_refuses_575 ?_
  refine gk_icmp_ne C (tgt := 696) (by omega) (by omega) dL_refuses_577 (by decide) (fun c_577 => ?_) (fun c_577 => ?_)
  · exact absurd c_577 (by omega)
  refine gk_aload_n C dL_refuses_580 rfl ?_
  refine gk_bipush C dL_refuses_581 (by decide) ?_
  refine gk_iconst C dL_refuses_583 ?_
  refine gk_iconst C dL_refuses_584 ?_
  refine gk_iload C dL_refuses_585 rfl ?_
  refine gk_iconst C dL_refuses_587 ?_
  refine gk_icmp_ne C (tgt := 596) (by omega) (by omega) dL_refuses_588 (by decide) (fun c_588 => ?_) (fun c_588 => ?_)
  rotate_left
  · exact absurd c_588 (by omega)
  refine gk_iload C dL_refuses_596 rfl ?_
  refine gk_iconst C dL_refuses_598 ?_
  refine gk_callSH C o_L_act k_L_100 dL_refuses_599 (act_e hfl H19 (w := 15) (a := (1)) (b := (0)) (c := (2147483647)) (d := (0)) (r := -7000002) rfl (by omega) (by omega) (by omega) (by omega) (by omega) hcl (rfA15 (by omega))) rfl rfl ⟨Nat.le_of_ble_eq_true rfl, Nat.le_of_ble_eq_true rfl⟩ ⟨by show _ + 9 ≤ 1600; omega, by show _ + 418 ≤ 70000; omega⟩ (by exact Nat.le_of_ble_eq_true rfl) (fun v20 h20 p20 => ?_)
  obtain ⟨rfl, H20⟩ := p20
  dsimp only [gk_push]
  clear H19
  refine gk_ldc C cn_L_88 dL_refuses_602 ?_
  refine gk_icmp_ne C (tgt := 696) (by omega) (by omega) dL_refuses_604 (by decide) (fun c_604 => ?_) (fun c_604 => ?_)
  · exact absurd c_604 (by omega)
  refine gk_aload_n C dL_refuses_607 rfl ?_
  refine gk_bipush C dL_refuses_608 (by decide) ?_
  refine gk_iload C dL_refuses_610 rfl ?_
  refine gk_iconst C dL_refuses_612 ?_
  refine gk_iconst C dL_refuses_613 ?_
  refine gk_iconst C dL_refuses_614 ?_
  refine gk_callSH C o_L_act k_L_100 dL_refuses_615 (act_e hfl H20 (w := 16) (a := (2147483647)) (b := (0)) (c := (0)) (d := (0)) (r := -7000002) rfl (by omega) (by omega) (by omega) (by omega) (by omega) hcl (rfA16 (by omega))) rfl rfl ⟨Nat.le_of_ble_eq_true rfl, Nat.le_of_ble_eq_true rfl⟩ ⟨by show _ + 9 ≤ 1600; omega, by show _ + 418 ≤ 70000; omega⟩ (by exact Nat.le_of_ble_eq_true rfl) (fun v21 h21 p21 => ?_)
  obtain ⟨rfl, H21⟩ := p21
  dsimp only [gk_push]
  clear H20
  refine gk_ldc C cn_L_88 dL_refuses_618 ?_
  refine gk_icmp_ne C (tgt := 696) (by omega) (by omega) dL_refuses_620 (by decide) (fun c_620 => ?_) (fun c_620 => ?_)
  · exact absurd c_620 (by omega)
  refine gk_aload_n C dL_refuses_623 rfl ?_
  refine gk_bipush C dL_refuses_624 (by decide) ?_
  refine gk_iload C dL_refuses_626 rfl ?_
  refine gk_iconst C dL_refuses_628 ?_
  refine gk_iconst C dL_refuses_629 ?_
  refine gk_iconst C dL_refuses_630 ?_
  refine gk_callSH C o_L_act k_L_100 dL_refuses_631 (act_e hfl H21 (w := 17) (a := (2147483647)) (b := (0)) (c := (0)) (d := (0)) (r := -7000002) rfl (by omega) (by omega) (by omega) (by omega) (by omega) hcl (rfA17 (by omega))) rfl rfl ⟨Nat.le_of_ble_eq_true rfl, Nat.le_of_ble_eq_true rfl⟩ ⟨by show _ + 9 ≤ 1600; omega, by show _ + 418 ≤ 70000; omega⟩ (by exact Nat.le_of_ble_eq_true rfl) (fun v22 h22 p22 => ?_)
  obtain ⟨rfl, H22⟩ := p22
  dsimp only [gk_push]
  clear H21
  refine gk_ldc C cn_L_88 dL_refuses_634 ?_
  refine gk_icmp_ne C (tgt := 696) (by omega) (by omega) dL_refuses_636 (by decide) (fun c_636 => ?_) (fun c_636 => ?_)
  · exact absurd c_636 (by omega)
  refine gk_aload_n C dL_refuses_639 rfl ?_
  refine gk_bipush C dL_refuses_640 (by decide) ?_
  refine gk_iload C dL_refuses_642 rfl ?_
  refine gk_iconst C dL_refuses_644 ?_
  refine gk_sipush C dL_refuses_645 (by decide) ?_
  refine gk_iconst C dL_refuses_648 ?_
  refine gk_callSH C o_L_act k_L_100 dL_refuses_649 (act_e hfl H22 (w := 18) (a := (2147483647)) (b := (0)) (c := (999)) (d := (0)) (r := -7000001) rfl (by omega) (by omega) (by omega) (by omega) (by omega) hcl (rfI18 (by omega))) rfl rfl ⟨Nat.le_of_ble_eq_true rfl, Nat.le_of_ble_eq_true rfl⟩ ⟨by show _ + 9 ≤ 1600; omega, by show _ + 418 ≤ 70000; omega⟩ (by exact Nat.le_of_ble_eq_true rfl) (fun v23 h23 p23 => ?_)
  obtain ⟨rfl, H23⟩ := p23
  dsimp only [gk_push]
  clear H22
  refine gk_ldc C cn_L_85 dL_refuses_652 ?_
  refine gk_icmp_ne C (tgt := 696) (by omega) (by omega) dL_refuses_654 (by decide) (fun c_654 => ?_) (fun c_654 => ?_)
  · exact absurd c_654 (by omega)
  refine gk_aload_n C dL_refuses_657 rfl ?_
  refine gk_bipush C dL_refuses_658 (by decide) ?_
  refine gk_iconst C dL_refuses_660 ?_
  refine gk_iload C dL_refuses_661 rfl ?_
  refine gk_sipush C dL_refuses_663 (by decide) ?_
  refine gk_iconst C dL_refuses_666 ?_
  refine gk_callSH C o_L_act k_L_100 dL_refuses_667 (act_e hfl H23 (w := 18) (a := (0)) (b := (2147483647)) (c := (999)) (d := (0)) (r := -7000001) rfl (by omega) (by omega) (by omega) (by omega) (by omega) hcl (rfI18 (by omega))) rfl rfl ⟨Nat.le_of_ble_eq_true rfl, Nat.le_of_ble_eq_true rfl⟩ ⟨by show _ + 9 ≤ 1600; omega, by show _ + 418 ≤ 70000; omega⟩ (by exact Nat.le_of_ble_eq_true rfl) (fun v24 h24 p24 => ?_)
  obtain ⟨rfl, H24⟩ := p24
  dsimp only [gk_push]
  clear H23
  refine gk_ldc C cn_L_85 dL_refuses_670 ?_
  refine gk_icmp_ne C (tgt := 696) (by omega) (by omega) dL_refuses_672 (by decide) (fun c_672 => ?_) (fun c_672 => ?_)
  · exact absurd c_672 (by omega)
  refine gk_aload_n C dL_refuses_675 rfl ?_
  refine gk_bipush C dL_refuses_676 (by decide) ?_
  refine gk_iload C dL_refuses_678 rfl ?_
  refine gk_bipush C dL_refuses_680 (by decide) ?_
  refine gk_iconst C dL_refuses_682 ?_
  refine gk_iconst C dL_refuses_683 ?_
  refine gk_callSH C o_L_act k_L_100 dL_refuses_684 (act_e hfl H24 (w := 21) (a := (2147483647)) (b := (9)) (c := (0)) (d := (0)) (r := -7000001) rfl (by omega) (by omega) (by omega) (by omega) (by omega) hcl (rfI21 (by omega))) rfl rfl ⟨Nat.le_of_ble_eq_true rfl, Nat.le_of_ble_eq_true rfl⟩ ⟨by show _ + 9 ≤ 1600; omega, by show _ + 418 ≤ 70000; omega⟩ (by exact Nat.le_of_ble_eq_true rfl) (fun v25 h25 p25 => ?_)
  obtain ⟨rfl, H25⟩ := p25
  dsimp only [gk_push]
  clear H24
  refine gk_ldc C cn_L_85 dL_refuses_687 ?_
  refine gk_icmp_ne C (tgt := 696) (by omega) (by omega) dL_refuses_689 (by decide) (fun c_689 => ?_) (fun c_689 => ?_)
  · exact absurd c_689 (by omega)
  refine gk_iconst C dL_refuses_692 ?_
  refine gk_goto C (tgt := 697) dL_refuses_693 (by decide) ?_
  refine gk_istore_16 C rfl (by exact Nat.le_of_ble_eq_true rfl) dL_refuses_697 ?_
  refine gk_iconst C dL_refuses_699 ?_
  refine gk_istore_17 C rfl (by exact Nat.le_of_ble_eq_true rfl) dL_refuses_700 ?_
  refine gk_iload C dL_refuses_702 rfl ?_
  refine gk_bipush C dL_refuses_704 (by decide) ?_
  refine gk_icmp_ge C (tgt := 759) (by omega) (by omega) dL_refuses_706 (by decide) (fun c_706 => ?_) (fun c_706 => ?_)
  · exact absurd c_706 (by omega)
  refine gk_iload C dL_refuses_709 rfl ?_
  refine gk_if_eq C (tgt := 759) (by omega) dL_refuses_711 (by decide) (fun c_711 => ?_) (fun c_711 => ?_)
  · exact absurd c_711 (by omega)
  refine gk_aload_n C dL_refuses_714 rfl ?_
  refine gk_iload C dL_refuses_715 rfl ?_
  refine gk_iload C dL_refuses_717 rfl ?_
  refine gk_iconst C dL_refuses_719 ?_
  refine gk_iconst C dL_refuses_720 ?_
  refine gk_iconst C dL_refuses_721 ?_
  refine gk_callSH C o_L_act k_L_100 dL_refuses_722 (act_e hfl H25 (w := 5) (a := (2147483647)) (b := (0)) (c := (0)) (d := (0)) (r := -7000001) rfl (by omega) (by omega) (by omega) (by omega) (by omega) hcl (rfI5 (by omega))) rfl rfl ⟨Nat.le_of_ble_eq_true rfl, Nat.le_of_ble_eq_true rfl⟩ ⟨by show _ + 9 ≤ 1600; omega, by show _ + 418 ≤ 70000; omega⟩ (by exact Nat.le_of_ble_eq_true rfl) (fun v26 h26 p26 => ?_)
  obtain ⟨rfl, H26⟩ := p26
  dsimp only [gk_push]
  clear H25
  refine gk_ldc C cn_L_85 dL_refuses_725 ?_
  refine gk_icmp_ne C (tgt := 750) (by omega) (by omega) dL_refuses_727 (by decide) (fun c_727 => ?_) (fun c_727 => ?_)
  · exact absurd c_727 (by omega)
  refine gk_aload_n C dL_refuses_730 rfl ?_
  refine gk_iload C dL_refuses_731 rfl ?_
  refine gk_iconst C dL_refuses_733 ?_
  refine gk_iload C dL_refuses_734 rfl ?_
  refine gk_iconst C dL_refuses_736 ?_
  refine gk_iconst C dL_refuses_737 ?_
  refine gk_callSH C o_L_act k_L_100 dL_refuses_738 (act_e hfl H26 (w := 5) (a := (0)) (b := (2147483647)) (c := (0)) (d := (0)) (r := -7000001) rfl (by omega) (by omega) (by omega) (by omega) (by omega) hcl (rfI5 (by omega))) rfl rfl ⟨Nat.le_of_ble_eq_true rfl, Nat.le_of_ble_eq_true rfl⟩ ⟨by show _ + 9 ≤ 1600; omega, by show _ + 418 ≤ 70000; omega⟩ (by exact Nat.le_of_ble_eq_true rfl) (fun v27 h27 p27 => ?_)
  obtain ⟨rfl, H27⟩ := p27
  dsimp only [gk_push]
  clear H26
  refine gk_ldc C cn_L_85 dL_refuses_741 ?_
  refine gk_icmp_ne C (tgt := 750) (by omega) (by omega) dL_refuses_743 (by decide) (fun c_743 => ?_) (fun c_743 => ?_)
  · exact absurd c_743 (by omega)
  refine gk_iconst C dL_refuses_746 ?_
  refine gk_goto C (tgt := 751) dL_refuses_747 (by decide) ?_
  refine gk_istore_16 C rfl (by exact Nat.le_of_ble_eq_true rfl) dL_refuses_751 ?_
  refine gk_iinc_17 C rfl (by exact Nat.le_of_ble_eq_true rfl) dL_refuses_753 ?_
  rw [show ((5 : Int) + 1) = 6 by decide]
  refine gk_goto C (tgt := 702) dL_refuses_756 (by decide) ?_
  refine gk_iload C dL_refuses_702 rfl ?_
  refine gk_bipush C dL_refuses_704 (by decide) ?_
  refine gk_icmp_ge C (tgt := 759) (by omega) (by omega) dL_refuses_706 (by decide) (fun c_706 => ?_) (fun c_706 => ?_)
  · exact absurd c_706 (by omega)
  refine gk_iload C dL_refuses_709 rfl ?_
  refine gk_if_eq C (tgt := 759) (by omega) dL_refuses_711 (by decide) (fun c_711 => ?_) (fun c_711 => ?_)
  · exact absurd c_711 (by omega)
  refine gk_aload_n C dL_refuses_714 rfl ?_
  refine gk_iload C dL_refuses_715 rfl ?_
  refine gk_iload C dL_refuses_717 rfl ?_
  refine gk_iconst C dL_refuses_719 ?_
  refine gk_iconst C dL_refuses_720 ?_
  refine gk_iconst C dL_refuses_721 ?_
  refine gk_callSH C o_L_act k_L_100 dL_refuses_722 (act_e hfl H27 (w := 6) (a := (2147483647)) (b := (0)) (c := (0)) (d := (0)) (r := -7000001) rfl (by omega) (by omega) (by omega) (by omega) (by omega) hcl (rfI6 (by omega))) rfl rfl ⟨Nat.le_of_ble_eq_true rfl, Nat.le_of_ble_eq_true rfl⟩ ⟨by show _ + 9 ≤ 1600; omega, by show _ + 418 ≤ 70000; omega⟩ (by exact Nat.le_of_ble_eq_true rfl) (fun v28 h28 p28 => ?_)
  obtain ⟨rfl, H28⟩ := p28
  dsimp only [gk_push]
  clear H27
  refine gk_ldc C cn_L_85 dL_refuses_725 ?_
  refine gk_icmp_ne C (tgt := 750) (by omega) (by omega) dL_refuses_727 (by decide) (fun c_727 => ?_) (fun c_727 => ?_)
  · exact absurd c_727 (by omega)
  refine gk_aload_n C dL_refuses_730 rfl ?_
  refine gk_iload C dL_refuses_731 rfl ?_
  refine gk_iconst C dL_refuses_733 ?_
  refine gk_iload C dL_refuses_734 rfl ?_
  refine gk_iconst C dL_refuses_736 ?_
  refine gk_iconst C dL_refuses_737 ?_
  refine gk_callSH C o_L_act k_L_100 dL_refuses_738 (act_e hfl H28 (w := 6) (a := (0)) (b := (2147483647)) (c := (0)) (d := (0)) (r := -7000001) rfl (by omega) (by omega) (by omega) (by omega) (by omega) hcl (rfI6 (by omega))) rfl rfl ⟨Nat.le_of_ble_eq_true rfl, Nat.le_of_ble_eq_true rfl⟩ ⟨by show _ + 9 ≤ 1600; omega, by show _ + 418 ≤ 70000; omega⟩ (by exact Nat.le_of_ble_eq_true rfl) (fun v29 h29 p29 => ?_)
  obtain ⟨rfl, H29⟩ := p29
  dsimp only [gk_push]
  clear H28
  refine gk_ldc C cn_L_85 dL_refuses_741 ?_
  refine gk_icmp_ne C (tgt := 750) (by omega) (by omega) dL_refuses_743 (by decide) (fun c_743 => ?_) (fun c_743 => ?_)
  · exact absurd c_743 (by omega)
  refine gk_iconst C dL_refuses_746 ?_
  refine gk_goto C (tgt := 751) dL_refuses_747 (by decide) ?_
  refine gk_istore_16 C rfl (by exact Nat.le_of_ble_eq_true rfl) dL_refuses_751 ?_
  refine gk_iinc_17 C rfl (by exact Nat.le_of_ble_eq_true rfl) dL_refuses_753 ?_
  rw [show ((6 : Int) + 1) = 7 by decide]
  refine gk_goto C (tgt := 702) dL_refuses_756 (by decide) ?_
  refine gk_iload C dL_refuses_702 rfl ?_
  refine gk_bipush C dL_refuses_704 (by decide) ?_
  refine gk_icmp_ge C (tgt := 759) (by omega) (by omega) dL_refuses_706 (by decide) (fun c_706 => ?_) (fun c_706 => ?_)
  rotate_left
  · exact absurd c_706 (by omega)
  refine gk_iload C dL_refuses_759 rfl ?_
  refine gk_if_eq C (tgt := 917) (by omega) dL_refuses_761 (by decide) (fun c_761 => ?_) (fun c_761 => ?_)
  · exact absurd c_761 (by omega)
  have J1 : ∀ (h2 : Hp) (k2 n2 : Nat), HD Γ x σ h2 → k2 ≤ 1035 → n2 ≤ 47430 → G 913 [some (.ref x), some (iv t), some (iv p), some (iv b), some (iv 2147483647), some (iv sp), some (jv ti), none, some (iv 2), some (iv 2147483647), some (iv 2147483647), some (iv 2147483647), some (iv 2147483647), some (iv 2147483647), some (iv 2147483647), some (iv 2147483647), some (iv 1), some (iv 7)] [] h2 k2 n2 := by
    intro h2 k2 n2 J1H hk2 hn2
    refine gk_iconst C dL_refuses_913 ?_
    refine gk_goto C (tgt := 918) dL_refuses_914 (by decide) ?_
    refine gk_istore_16 C rfl (by exact Nat.le_of_ble_eq_true rfl) dL_refuses_918 ?_
    refine gk_iload C dL_refuses_920 rfl ?_
    refine gk_if_eq C (tgt := 997) (by omega) dL_refuses_922 (by decide) (fun c_922 => ?_) (fun c_922 => ?_)
    · exact absurd c_922 (by omega)
    have J2 : ∀ (h2 : Hp) (k2 n2 : Nat), HD Γ x σ h2 → k2 ≤ 1053 → n2 ≤ 48266 → G 993 [some (.ref x), some (iv t), some (iv p), some (iv b), some (iv 2147483647), some (iv sp), some (jv ti), none, some (iv 2), some (iv 2147483647), some (iv 2147483647), some (iv 2147483647), some (iv 2147483647), some (iv 2147483647), some (iv 2147483647), some (iv 2147483647), some (iv 1), some (iv 7)] [] h2 k2 n2 := by
      intro h2 k2 n2 J2H hk2 hn2
      refine gk_iconst C dL_refuses_993 ?_
      refine gk_goto C (tgt := 998) dL_refuses_994 (by decide) ?_
      refine gk_istore_16 C rfl (by exact Nat.le_of_ble_eq_true rfl) dL_refuses_998 ?_
      refine gk_iload C dL_refuses_1000 rfl ?_
      refine gk_if_eq C (tgt := 1066) (by omega) dL_refuses_1002 (by decide) (fun c_1002 => ?_) (fun c_1002 => ?_)
      · exact absurd c_1002 (by omega)
      have J3 : ∀ (h2 : Hp) (k2 n2 : Nat), HD Γ x σ h2 → k2 ≤ 1071 → n2 ≤ 49102 → G 1062 [some (.ref x), some (iv t), some (iv p), some (iv b), some (iv 2147483647), some (iv sp), some (jv ti), none, some (iv 2), some (iv 2147483647), some (iv 2147483647), some (iv 2147483647), some (iv 2147483647), some (iv 2147483647), some (iv 2147483647), some (iv 2147483647), some (iv 1), some (iv 7)] [] h2 k2 n2 := by
        intro h2 k2 n2 J3H hk2 hn2
        refine gk_iconst C dL_refuses_1062 ?_
        refine gk_goto C (tgt := 1067) dL_refuses_1063 (by decide) ?_
        refine gk_istore_16 C rfl (by exact Nat.le_of_ble_eq_true rfl) dL_refuses_1067 ?_
        refine gk_iload C dL_refuses_1069 rfl ?_
        refine gk_if_ne C (tgt := 1076) (by omega) dL_refuses_1071 (by decide) (fun c_1071 => ?_) (fun c_1071 => ?_)
        rotate_left
        · exact absurd c_1071 (by omega)
        refine gk_iinc_8 C rfl (by exact Nat.le_of_ble_eq_true rfl) dL_refuses_1076 ?_
        rw [show ((2 : Int) + 1) = 3 by decide]
        refine gk_goto C (tgt := 19) dL_refuses_1079 (by decide) ?_
        exact fin _ _ _ _ _ _ _ _ _ _ _ _ J3H (by omega) (by omega)
      refine gk_iload_n C dL_refuses_1005 rfl ?_
      refine gk_if_eq C (tgt := 1062) (by omega) dL_refuses_1006 (by decide) (fun c_1006 => ?_) (fun c_1006 => ?_)
      · exact J3 _ _ _ J2H (by omega) (by omega)
      · refine gk_aload_n C dL_refuses_1009 rfl ?_
        refine gk_bipush C dL_refuses_1010 (by decide) ?_
        refine gk_iconst C dL_refuses_1012 ?_
        refine gk_iconst C dL_refuses_1013 ?_
        refine gk_iload C dL_refuses_1014 rfl ?_
        refine gk_iconst C dL_refuses_1016 ?_
        refine gk_icmp_ne C (tgt := 1025) (by omega) (by omega) dL_refuses_1017 (by decide) (fun c_1017 => ?_) (fun c_1017 => ?_)
        rotate_left
        · exact absurd c_1017 (by omega)
        refine gk_iload C dL_refuses_1025 rfl ?_
        refine gk_iconst C dL_refuses_1027 ?_
        refine gk_callSH C o_L_act k_L_100 dL_refuses_1028 (act_e hfl J2H (w := 18) (a := (0)) (b := (0)) (c := (2147483647)) (d := (0)) (r := -7000002) rfl (by omega) (by omega) (by omega) (by omega) (by omega) hcl (rfA18 (by omega) (by omega))) rfl rfl ⟨Nat.le_of_ble_eq_true rfl, Nat.le_of_ble_eq_true rfl⟩ ⟨by show _ + 9 ≤ 1600; omega, by show _ + 418 ≤ 70000; omega⟩ (by exact Nat.le_of_ble_eq_true rfl) (fun v30 h30 p30 => ?_)
        obtain ⟨rfl, H30⟩ := p30
        dsimp only [gk_push]
        clear J2H
        refine gk_ldc C cn_L_88 dL_refuses_1031 ?_
        refine gk_icmp_ne C (tgt := 1066) (by omega) (by omega) dL_refuses_1033 (by decide) (fun c_1033 => ?_) (fun c_1033 => ?_)
        · exact absurd c_1033 (by omega)
        refine gk_aload_n C dL_refuses_1036 rfl ?_
        refine gk_bipush C dL_refuses_1037 (by decide) ?_
        refine gk_iconst C dL_refuses_1039 ?_
        refine gk_iload C dL_refuses_1040 rfl ?_
        refine gk_iconst C dL_refuses_1042 ?_
        refine gk_icmp_ne C (tgt := 1050) (by omega) (by omega) dL_refuses_1043 (by decide) (fun c_1043 => ?_) (fun c_1043 => ?_)
        rotate_left
        · exact absurd c_1043 (by omega)
        refine gk_iload C dL_refuses_1050 rfl ?_
        refine gk_iconst C dL_refuses_1052 ?_
        refine gk_iconst C dL_refuses_1053 ?_
        refine gk_callSH C o_L_act k_L_100 dL_refuses_1054 (act_e hfl H30 (w := 21) (a := (0)) (b := (2147483647)) (c := (0)) (d := (0)) (r := -7000002) rfl (by omega) (by omega) (by omega) (by omega) (by omega) hcl (rfA21 (by omega) (by omega))) rfl rfl ⟨Nat.le_of_ble_eq_true rfl, Nat.le_of_ble_eq_true rfl⟩ ⟨by show _ + 9 ≤ 1600; omega, by show _ + 418 ≤ 70000; omega⟩ (by exact Nat.le_of_ble_eq_true rfl) (fun v31 h31 p31 => ?_)
        obtain ⟨rfl, H31⟩ := p31
        dsimp only [gk_push]
        clear H30
        refine gk_ldc C cn_L_88 dL_refuses_1057 ?_
        refine gk_icmp_ne C (tgt := 1066) (by omega) (by omega) dL_refuses_1059 (by decide) (fun c_1059 => ?_) (fun c_1059 => ?_)
        · exact absurd c_1059 (by omega)
        exact J3 _ _ _ H31 (by omega) (by omega)
    refine gk_iload_n C dL_refuses_925 rfl ?_
    refine gk_if_eq C (tgt := 993) (by omega) dL_refuses_926 (by decide) (fun c_926 => ?_) (fun c_926 => ?_)
    · exact J2 _ _ _ J1H (by omega) (by omega)
    · refine gk_aload_n C dL_refuses_929 rfl ?_
      refine gk_bipush C dL_refuses_930 (by decide) ?_
      refine gk_iconst C dL_refuses_932 ?_
      refine gk_iload C dL_refuses_933 rfl ?_
      refine gk_if_ne C (tgt := 943) (by omega) dL_refuses_935 (by decide) (fun c_935 => ?_) (fun c_935 => ?_)
      rotate_left
      · exact absurd c_935 (by omega)
      refine gk_iload C dL_refuses_943 rfl ?_
      refine gk_iconst C dL_refuses_945 ?_
      refine gk_icmp_ne C (tgt := 954) (by omega) (by omega) dL_refuses_946 (by decide) (fun c_946 => ?_) (fun c_946 => ?_)
      rotate_left
      · exact absurd c_946 (by omega)
      refine gk_iload C dL_refuses_954 rfl ?_
      refine gk_iconst C dL_refuses_956 ?_
      refine gk_iconst C dL_refuses_957 ?_
      refine gk_callSH C o_L_act k_L_100 dL_refuses_958 (act_e hfl J1H (w := 10) (a := (0)) (b := (2147483647)) (c := (0)) (d := (0)) (r := -7000002) rfl (by omega) (by omega) (by omega) (by omega) (by omega) hcl (rfA10 (by omega) (by omega))) rfl rfl ⟨Nat.le_of_ble_eq_true rfl, Nat.le_of_ble_eq_true rfl⟩ ⟨by show _ + 9 ≤ 1600; omega, by show _ + 418 ≤ 70000; omega⟩ (by exact Nat.le_of_ble_eq_true rfl) (fun v32 h32 p32 => ?_)
      obtain ⟨rfl, H32⟩ := p32
      dsimp only [gk_push]
      clear J1H
      refine gk_ldc C cn_L_88 dL_refuses_961 ?_
      refine gk_icmp_ne C (tgt := 997) (by omega) (by omega) dL_refuses_963 (by decide) (fun c_963 => ?_) (fun c_963 => ?_)
      · exact absurd c_963 (by omega)
      refine gk_aload_n C dL_refuses_966 rfl ?_
      refine gk_bipush C dL_refuses_967 (by decide) ?_
      refine gk_iconst C dL_refuses_969 ?_
      refine gk_iload C dL_refuses_970 rfl ?_
      refine gk_iconst C dL_refuses_972 ?_
      refine gk_icmp_ne C (tgt := 981) (by omega) (by omega) dL_refuses_973 (by decide) (fun c_973 => ?_) (fun c_973 => ?_)
      rotate_left
      · exact absurd c_973 (by omega)
      refine gk_iload C dL_refuses_981 rfl ?_
      refine gk_iconst C dL_refuses_983 ?_
      refine gk_iconst C dL_refuses_984 ?_
      refine gk_callSH C o_L_act k_L_100 dL_refuses_985 (act_e hfl H32 (w := 13) (a := (0)) (b := (2147483647)) (c := (0)) (d := (0)) (r := -7000002) rfl (by omega) (by omega) (by omega) (by omega) (by omega) hcl (rfA13 (by omega) (by omega))) rfl rfl ⟨Nat.le_of_ble_eq_true rfl, Nat.le_of_ble_eq_true rfl⟩ ⟨by show _ + 9 ≤ 1600; omega, by show _ + 418 ≤ 70000; omega⟩ (by exact Nat.le_of_ble_eq_true rfl) (fun v33 h33 p33 => ?_)
      obtain ⟨rfl, H33⟩ := p33
      dsimp only [gk_push]
      clear H32
      refine gk_ldc C cn_L_88 dL_refuses_988 ?_
      refine gk_icmp_ne C (tgt := 997) (by omega) (by omega) dL_refuses_990 (by decide) (fun c_990 => ?_) (fun c_990 => ?_)
      · exact absurd c_990 (by omega)
      exact J2 _ _ _ H33 (by omega) (by omega)
  refine gk_iload_n C dL_refuses_764 rfl ?_
  refine gk_if_eq C (tgt := 913) (by omega) dL_refuses_765 (by decide) (fun c_765 => ?_) (fun c_765 => ?_)
  · exact J1 _ _ _ H29 (by omega) (by omega)
  · refine gk_aload_n C dL_refuses_768 rfl ?_
    refine gk_iconst C dL_refuses_769 ?_
    refine gk_iconst C dL_refuses_770 ?_
    refine gk_iload C dL_refuses_771 rfl ?_
    refine gk_iconst C dL_refuses_773 ?_
    refine gk_iconst C dL_refuses_774 ?_
    refine gk_callSH C o_L_act k_L_100 dL_refuses_775 (act_e hfl H29 (w := 1) (a := (0)) (b := (2147483647)) (c := (1)) (d := (0)) (r := -7000002) rfl (by omega) (by omega) (by omega) (by omega) (by omega) hcl (rfA1 (by omega) (by omega))) rfl rfl ⟨Nat.le_of_ble_eq_true rfl, Nat.le_of_ble_eq_true rfl⟩ ⟨by show _ + 9 ≤ 1600; omega, by show _ + 418 ≤ 70000; omega⟩ (by exact Nat.le_of_ble_eq_true rfl) (fun v34 h34 p34 => ?_)
    obtain ⟨rfl, H34⟩ := p34
    dsimp only [gk_push]
    clear H29
    refine gk_ldc C cn_L_88 dL_refuses_778 ?_
    refine gk_icmp_ne C (tgt := 917) (by omega) (by omega) dL_refuses_780 (by decide) (fun c_780 => ?_) (fun c_780 => ?_)
    · exact absurd c_780 (by omega)
    refine gk_aload_n C dL_refuses_783 rfl ?_
    refine gk_iconst C dL_refuses_784 ?_
    refine gk_iconst C dL_refuses_785 ?_
    refine gk_iconst C dL_refuses_786 ?_
    refine gk_iload C dL_refuses_787 rfl ?_
    refine gk_if_ne C (tgt := 796) (by omega) dL_refuses_789 (by decide) (fun c_789 => ?_) (fun c_789 => ?_)
    rotate_left
    · exact absurd c_789 (by omega)
    refine gk_iload C dL_refuses_796 rfl ?_
    refine gk_iconst C dL_refuses_798 ?_
    refine gk_icmp_ne C (tgt := 807) (by omega) (by omega) dL_refuses_799 (by decide) (fun c_799 => ?_) (fun c_799 => ?_)
    rotate_left
    · exact absurd c_799 (by omega)
    refine gk_iload C dL_refuses_807 rfl ?_
    refine gk_iconst C dL_refuses_809 ?_
    refine gk_callSH C o_L_act k_L_100 dL_refuses_810 (act_e hfl H34 (w := 1) (a := (0)) (b := (0)) (c := (2147483647)) (d := (0)) (r := -7000002) rfl (by omega) (by omega) (by omega) (by omega) (by omega) hcl (rfA1 (by omega) (by omega))) rfl rfl ⟨Nat.le_of_ble_eq_true rfl, Nat.le_of_ble_eq_true rfl⟩ ⟨by show _ + 9 ≤ 1600; omega, by show _ + 418 ≤ 70000; omega⟩ (by exact Nat.le_of_ble_eq_true rfl) (fun v35 h35 p35 => ?_)
    obtain ⟨rfl, H35⟩ := p35
    dsimp only [gk_push]
    clear H34
    refine gk_ldc C cn_L_88 dL_refuses_813 ?_
    refine gk_icmp_ne C (tgt := 917) (by omega) (by omega) dL_refuses_815 (by decide) (fun c_815 => ?_) (fun c_815 => ?_)
    · exact absurd c_815 (by omega)
    refine gk_aload_n C dL_refuses_818 rfl ?_
    refine gk_iconst C dL_refuses_819 ?_
    refine gk_iconst C dL_refuses_820 ?_
    refine gk_iconst C dL_refuses_821 ?_
    refine gk_iconst C dL_refuses_822 ?_
    refine gk_iload C dL_refuses_823 rfl ?_
    refine gk_callSH C o_L_act k_L_100 dL_refuses_825 (act_e hfl H35 (w := 1) (a := (0)) (b := (0)) (c := (1)) (d := (2147483647)) (r := -7000002) rfl (by omega) (by omega) (by omega) (by omega) (by omega) hcl (rfA1 (by omega) (by omega))) rfl rfl ⟨Nat.le_of_ble_eq_true rfl, Nat.le_of_ble_eq_true rfl⟩ ⟨by show _ + 9 ≤ 1600; omega, by show _ + 418 ≤ 70000; omega⟩ (by exact Nat.le_of_ble_eq_true rfl) (fun v36 h36 p36 => ?_)
    obtain ⟨rfl, H36⟩ := p36
    dsimp only [gk_push]
    clear H35
    refine gk_ldc C cn_L_88 dL_refuses_828 ?_
    refine gk_icmp_ne C (tgt := 917) (by omega) (by omega) dL_refuses_830 (by decide) (fun c_830 => ?_) (fun c_830 => ?_)
    · exact absurd c_830 (by omega)
    refine gk_aload_n C dL_refuses_833 rfl ?_
    refine gk_iconst C dL_refuses_834 ?_
    refine gk_iconst C dL_refuses_835 ?_
    refine gk_iload C dL_refuses_836 rfl ?_
    refine gk_bipush C dL_refuses_838 (by decide) ?_
    refine gk_iconst C dL_refuses_840 ?_
    refine gk_callSH C o_L_act k_L_100 dL_refuses_841 (act_e hfl H36 (w := 3) (a := (0)) (b := (2147483647)) (c := (9)) (d := (0)) (r := -7000001) rfl (by omega) (by omega) (by omega) (by omega) (by omega) hcl (rfJ3 H36.wf (by omega) (by omega))) rfl rfl ⟨Nat.le_of_ble_eq_true rfl, Nat.le_of_ble_eq_true rfl⟩ ⟨by show _ + 9 ≤ 1600; omega, by show _ + 418 ≤ 70000; omega⟩ (by exact Nat.le_of_ble_eq_true rfl) (fun v37 h37 p37 => ?_)
    obtain ⟨rfl, H37⟩ := p37
    dsimp only [gk_push]
    clear H36
    refine gk_ldc C cn_L_85 dL_refuses_844 ?_
    refine gk_icmp_ne C (tgt := 917) (by omega) (by omega) dL_refuses_846 (by decide) (fun c_846 => ?_) (fun c_846 => ?_)
    · exact absurd c_846 (by omega)
    refine gk_aload_n C dL_refuses_849 rfl ?_
    refine gk_iconst C dL_refuses_850 ?_
    refine gk_iconst C dL_refuses_851 ?_
    refine gk_iload C dL_refuses_852 rfl ?_
    refine gk_iconst C dL_refuses_854 ?_
    refine gk_icmp_ne C (tgt := 863) (by omega) (by omega) dL_refuses_855 (by decide) (fun c_855 => ?_) (fun c_855 => ?_)
    rotate_left
    · exact absurd c_855 (by omega)
    refine gk_iload C dL_refuses_863 rfl ?_
    refine gk_iconst C dL_refuses_865 ?_
    refine gk_iconst C dL_refuses_866 ?_
    refine gk_callSH C o_L_act k_L_100 dL_refuses_867 (act_e hfl H37 (w := 4) (a := (0)) (b := (2147483647)) (c := (0)) (d := (0)) (r := -7000002) rfl (by omega) (by omega) (by omega) (by omega) (by omega) hcl (rfA4 (by omega) (by omega))) rfl rfl ⟨Nat.le_of_ble_eq_true rfl, Nat.le_of_ble_eq_true rfl⟩ ⟨by show _ + 9 ≤ 1600; omega, by show _ + 418 ≤ 70000; omega⟩ (by exact Nat.le_of_ble_eq_true rfl) (fun v38 h38 p38 => ?_)
    obtain ⟨rfl, H38⟩ := p38
    dsimp only [gk_push]
    clear H37
    refine gk_ldc C cn_L_88 dL_refuses_870 ?_
    refine gk_icmp_ne C (tgt := 917) (by omega) (by omega) dL_refuses_872 (by decide) (fun c_872 => ?_) (fun c_872 => ?_)
    · exact absurd c_872 (by omega)
    refine gk_aload_n C dL_refuses_875 rfl ?_
    refine gk_bipush C dL_refuses_876 (by decide) ?_
    refine gk_iconst C dL_refuses_878 ?_
    refine gk_iload C dL_refuses_879 rfl ?_
    refine gk_if_ne C (tgt := 889) (by omega) dL_refuses_881 (by decide) (fun c_881 => ?_) (fun c_881 => ?_)
    rotate_left
    · exact absurd c_881 (by omega)
    refine gk_iload C dL_refuses_889 rfl ?_
    refine gk_iconst C dL_refuses_891 ?_
    refine gk_icmp_ne C (tgt := 901) (by omega) (by omega) dL_refuses_892 (by decide) (fun c_892 => ?_) (fun c_892 => ?_)
    rotate_left
    · exact absurd c_892 (by omega)
    refine gk_iload C dL_refuses_901 rfl ?_
    refine gk_iconst C dL_refuses_903 ?_
    refine gk_iconst C dL_refuses_904 ?_
    refine gk_callSH C o_L_act k_L_100 dL_refuses_905 (act_e hfl H38 (w := 7) (a := (0)) (b := (2147483647)) (c := (0)) (d := (0)) (r := -7000002) rfl (by omega) (by omega) (by omega) (by omega) (by omega) hcl (rfA7 (by omega) (by omega))) rfl rfl ⟨Nat.le_of_ble_eq_true rfl, Nat.le_of_ble_eq_true rfl⟩ ⟨by show _ + 9 ≤ 1600; omega, by show _ + 418 ≤ 70000; omega⟩ (by exact Nat.le_of_ble_eq_true rfl) (fun v39 h39 p39 => ?_)
    obtain ⟨rfl, H39⟩ := p39
    dsimp only [gk_push]
    clear H38
    refine gk_ldc C cn_L_88 dL_refuses_908 ?_
    refine gk_icmp_ne C (tgt := 917) (by omega) (by omega) dL_refuses_910 (by decide) (fun c_910 => ?_) (fun c_910 => ?_)
    · exact absurd c_910 (by omega)
    exact J1 _ _ _ H39 (by omega) (by omega)

set_option maxRecDepth 100000 in
set_option maxHeartbeats 8000000 in
theorem rf_3 {l : Launch} {Γ : GA} {G : GP} {X : String → Hp → Nat → Nat → Prop} {x : Nat} {σ : ST} {h : Hp} {k n : Nat} {t p b sp ti : Int} {u9 u10 u11 u12 u13 u14 u15 u16 u17 : Option Value} (C : Cx l Γ m_L_refuses G X) (hfl : l.stackTraces = false) (H : HD Γ x σ h) (ht : t = ((σ.1.1 : Nat) : Int)) (hp : p = ((σ.2.2.1.1 : Nat) : Int)) (hb : b = ((σ.2.2.2.1.1 : Nat) : Int)) (ht1 : t ≤ 10) (hp1 : p ≤ 8) (hb1 : b ≤ 8) (hcl : σ.2.2.2.2 ≤ 10000) (hk : k ≤ 1080) (hn : n ≤ 49200)
    (fin : ∀ (u9 u10 u11 u12 u13 u14 u15 u16 u17 : Option Value) (h2 : Hp) (k2 n2 : Nat), HD Γ x σ h2 → k2 ≤ 1440 → n2 ≤ 65600 → G 19 [some (.ref x), some (iv t), some (iv p), some (iv b), some (iv 2147483647), some (iv sp), some (jv ti), none, some (iv 4), u9, u10, u11, u12, u13, u14, u15, u16, u17] [] h2 k2 n2) : G 19 [some (.ref x), some (iv t), some (iv p), some (iv b), some (iv 2147483647), some (iv sp), some (jv ti), none, some (iv 3), u9, u10, u11, u12, u13, u14, u15, u16, u17] [] h k n := by
  refine gk_iload C dL_refuses_19 rfl ?_
  refine gk_iconst C dL_refuses_21 ?_
  refine gk_icmp_ge C (tgt := 1082) (by omega) (by omega) dL_refuses_22 (by decide) (fun c_22 => ?_) (fun c_22 => ?_)
  · exact absurd c_22 (by omega)
  refine gk_iload C dL_refuses_25 rfl ?_
  refine gk_if_ne C (tgt := 34) (by omega) dL_refuses_27 (by decide) (fun c_27 => ?_) (fun c_27 => ?_)
  rotate_left
  · exact absurd c_27 (by omega)
  refine gk_iload C dL_refuses_34 rfl ?_
  refine gk_iconst C dL_refuses_36 ?_
  refine gk_icmp_ne C (tgt := 45) (by omega) (by omega) dL_refuses_37 (by decide) (fun c_37 => ?_) (fun c_37 => ?_)
  rotate_left
  · exact absurd c_37 (by omega)
  refine gk_iload C dL_refuses_45 rfl ?_
  refine gk_ineg C dL_refuses_47 ?_
  refine gk_iconst C dL_refuses_48 ?_
  refine gk_isub C dL_refuses_49 ?_
  rw [show ((-2147483647 : Int) - 1) = -2147483648 by decide]
  refine gk_istore_9 C rfl (by exact Nat.le_of_ble_eq_true rfl) dL_refuses_50 ?_
  refine gk_iload C dL_refuses_52 rfl ?_
  refine gk_iconst C dL_refuses_54 ?_
  refine gk_icmp_ne C (tgt := 62) (by omega) (by omega) dL_refuses_55 (by decide) (fun c_55 => ?_) (fun c_55 => ?_)
  rotate_left
  · exact absurd c_55 (by omega)
  refine gk_iload C dL_refuses_62 rfl ?_
  refine gk_istore_10 C rfl (by exact Nat.le_of_ble_eq_true rfl) dL_refuses_64 ?_
  refine gk_iload C dL_refuses_66 rfl ?_
  refine gk_iconst C dL_refuses_68 ?_
  refine gk_icmp_ne C (tgt := 76) (by omega) (by omega) dL_refuses_69 (by decide) (fun c_69 => ?_) (fun c_69 => ?_)
  rotate_left
  · exact absurd c_69 (by omega)
  refine gk_iload C dL_refuses_76 rfl ?_
  refine gk_istore_11 C rfl (by exact Nat.le_of_ble_eq_true rfl) dL_refuses_78 ?_
  refine gk_iload C dL_refuses_80 rfl ?_
  refine gk_iconst C dL_refuses_82 ?_
  refine gk_icmp_ne C (tgt := 90) (by omega) (by omega) dL_refuses_83 (by decide) (fun c_83 => ?_) (fun c_83 => ?_)
  rotate_left
  · exact absurd c_83 (by omega)
  refine gk_iload C dL_refuses_90 rfl ?_
  refine gk_istore_12 C rfl (by exact Nat.le_of_ble_eq_true rfl) dL_refuses_92 ?_
  refine gk_iload C dL_refuses_94 rfl ?_
  refine gk_iconst C dL_refuses_96 ?_
  refine gk_icmp_ne C (tgt := 104) (by omega) (by omega) dL_refuses_97 (by decide) (fun c_97 => ?_) (fun c_97 => ?_)
  rotate_left
  · exact absurd c_97 (by omega)
  refine gk_iload C dL_refuses_104 rfl ?_
  refine gk_istore_13 C rfl (by exact Nat.le_of_ble_eq_true rfl) dL_refuses_106 ?_
  refine gk_iload C dL_refuses_108 rfl ?_
  refine gk_iconst C dL_refuses_110 ?_
  refine gk_icmp_ne C (tgt := 119) (by omega) (by omega) dL_refuses_111 (by decide) (fun c_111 => ?_) (fun c_111 => ?_)
  rotate_left
  · exact absurd c_111 (by omega)
  refine gk_iload C dL_refuses_119 rfl ?_
  refine gk_istore_14 C rfl (by exact Nat.le_of_ble_eq_true rfl) dL_refuses_121 ?_
  refine gk_iload C dL_refuses_123 rfl ?_
  refine gk_if_ne C (tgt := 132) (by omega) dL_refuses_125 (by decide) (fun c_125 => ?_) (fun c_125 => ?_)
  rotate_left
  · exact absurd c_125 (by omega)
  refine gk_iload C dL_refuses_132 rfl ?_
  refine gk_iconst C dL_refuses_134 ?_
  refine gk_icmp_ne C (tgt := 143) (by omega) (by omega) dL_refuses_135 (by decide) (fun c_135 => ?_) (fun c_135 => ?_)
  rotate_left
  · exact absurd c_135 (by omega)
  refine gk_iload C dL_refuses_143 rfl ?_
  refine gk_istore_15 C rfl (by exact Nat.le_of_ble_eq_true rfl) dL_refuses_145 ?_
  refine gk_aload_n C dL_refuses_147 rfl ?_
  refine gk_iconst C dL_refuses_148 ?_
  refine gk_iload C dL_refuses_149 rfl ?_
  refine gk_iconst C dL_refuses_151 ?_
  refine gk_iconst C dL_refuses_152 ?_
  refine gk_iconst C dL_refuses_153 ?_
  refine gk_callSH C o_L_act k_L_100 dL_refuses_154 (act_e hfl H (w := 0) (a := (-2147483648)) (b := (0)) (c := (0)) (d := (0)) (r := -7000002) rfl (by omega) (by omega) (by omega) (by omega) (by omega) hcl (rfA0 (by omega))) rfl rfl ⟨Nat.le_of_ble_eq_true rfl, Nat.le_of_ble_eq_true rfl⟩ ⟨by show _ + 9 ≤ 1600; omega, by show _ + 418 ≤ 70000; omega⟩ (by exact Nat.le_of_ble_eq_true rfl) (fun v1 h1 p1 => ?_)
  obtain ⟨rfl, H1⟩ := p1
  dsimp only [gk_push]
  clear H
  refine gk_ldc C cn_L_88 dL_refuses_157 ?_
  refine gk_icmp_ne C (tgt := 696) (by omega) (by omega) dL_refuses_159 (by decide) (fun c_159 => ?_) (fun c_159 => ?_)
  · exact absurd c_159 (by omega)
  refine gk_aload_n C dL_refuses_162 rfl ?_
  refine gk_iconst C dL_refuses_163 ?_
  refine gk_iload C dL_refuses_164 rfl ?_
  refine gk_bipush C dL_refuses_166 (by decide) ?_
  refine gk_iconst C dL_refuses_168 ?_
  refine gk_iconst C dL_refuses_169 ?_
  refine gk_callSH C o_L_act k_L_100 dL_refuses_170 (act_e hfl H1 (w := 1) (a := (-2147483648)) (b := (99)) (c := (0)) (d := (0)) (r := -7000001) rfl (by omega) (by omega) (by omega) (by omega) (by omega) hcl (rfI1 (by omega))) rfl rfl ⟨Nat.le_of_ble_eq_true rfl, Nat.le_of_ble_eq_true rfl⟩ ⟨by show _ + 9 ≤ 1600; omega, by show _ + 418 ≤ 70000; omega⟩ (by exact Nat.le_of_ble_eq_true rfl) (fun v2 h2 p2 => ?_)
  obtain ⟨rfl, H2⟩ := p2
  dsimp only [gk_push]
  clear H1
  refine gk_ldc C cn_L_85 dL_refuses_173 ?_
  refine gk_icmp_ne C (tgt := 696) (by omega) (by omega) dL_refuses_175 (by decide) (fun c_175 => ?_) (fun c_175 => ?_)
  · exact absurd c_175 (by omega)
  refine gk_aload_n C dL_refuses_178 rfl ?_
  refine gk_iconst C dL_refuses_179 ?_
  refine gk_iload C dL_refuses_180 rfl ?_
  refine gk_iconst C dL_refuses_182 ?_
  refine gk_iconst C dL_refuses_183 ?_
  refine gk_iconst C dL_refuses_184 ?_
  refine gk_callSH C o_L_act k_L_100 dL_refuses_185 (act_e hfl H2 (w := 2) (a := (-2147483648)) (b := (1)) (c := (0)) (d := (0)) (r := -7000001) rfl (by omega) (by omega) (by omega) (by omega) (by omega) hcl (rfI2 (by omega))) rfl rfl ⟨Nat.le_of_ble_eq_true rfl, Nat.le_of_ble_eq_true rfl⟩ ⟨by show _ + 9 ≤ 1600; omega, by show _ + 418 ≤ 70000; omega⟩ (by exact Nat.le_of_ble_eq_true rfl) (fun v3 h3 p3 => ?_)
  obtain ⟨rfl, H3⟩ := p3
  dsimp only [gk_push]
  clear H2
  refine gk_ldc C cn_L_85 dL_refuses_188 ?_
  refine gk_icmp_ne C (tgt := 696) (by omega) (by omega) dL_refuses_190 (by decide) (fun c_190 => ?_) (fun c_190 => ?_)
  · exact absurd c_190 (by omega)
  refine gk_aload_n C dL_refuses_193 rfl ?_
  refine gk_iconst C dL_refuses_194 ?_
  refine gk_iload C dL_refuses_195 rfl ?_
  refine gk_iconst C dL_refuses_197 ?_
  refine gk_bipush C dL_refuses_198 (by decide) ?_
  refine gk_iconst C dL_refuses_200 ?_
  refine gk_callSH C o_L_act k_L_100 dL_refuses_201 (act_e hfl H3 (w := 3) (a := (-2147483648)) (b := (0)) (c := (9)) (d := (0)) (r := -7000001) rfl (by omega) (by omega) (by omega) (by omega) (by omega) hcl (rfI3 (by omega))) rfl rfl ⟨Nat.le_of_ble_eq_true rfl, Nat.le_of_ble_eq_true rfl⟩ ⟨by show _ + 9 ≤ 1600; omega, by show _ + 418 ≤ 70000; omega⟩ (by exact Nat.le_of_ble_eq_true rfl) (fun v4 h4 p4 => ?_)
  obtain ⟨rfl, H4⟩ := p4
  dsimp only [gk_push]
  clear H3
  refine gk_ldc C cn_L_85 dL_refuses_204 ?_
  refine gk_icmp_ne C (tgt := 696) (by omega) (by omega) dL_refuses_206 (by decide) (fun c_206 => ?_) (fun c_206 => ?_)
  · exact absurd c_206 (by omega)
  refine gk_aload_n C dL_refuses_209 rfl ?_
  refine gk_iconst C dL_refuses_210 ?_
  refine gk_iload C dL_refuses_211 rfl ?_
  refine gk_bipush C dL_refuses_213 (by decide) ?_
  refine gk_iconst C dL_refuses_215 ?_
  refine gk_iconst C dL_refuses_216 ?_
  refine gk_callSH C o_L_act k_L_100 dL_refuses_217 (act_e hfl H4 (w := 4) (a := (-2147483648)) (b := (9)) (c := (0)) (d := (0)) (r := -7000001) rfl (by omega) (by omega) (by omega) (by omega) (by omega) hcl (rfI4 (by omega))) rfl rfl ⟨Nat.le_of_ble_eq_true rfl, Nat.le_of_ble_eq_true rfl⟩ ⟨by show _ + 9 ≤ 1600; omega, by show _ + 418 ≤ 70000; omega⟩ (by exact Nat.le_of_ble_eq_true rfl) (fun v5 h5 p5 => ?_)
  obtain ⟨rfl, H5⟩ := p5
  dsimp only [gk_push]
  clear H4
  refine gk_ldc C cn_L_85 dL_refuses_220 ?_
  refine gk_icmp_ne C (tgt := 696) (by omega) (by omega) dL_refuses_222 (by decide) (fun c_222 => ?_) (fun c_222 => ?_)
  · exact absurd c_222 (by omega)
  refine gk_aload_n C dL_refuses_225 rfl ?_
  refine gk_bipush C dL_refuses_226 (by decide) ?_
  refine gk_iload C dL_refuses_228 rfl ?_
  refine gk_iconst C dL_refuses_230 ?_
  refine gk_iconst C dL_refuses_231 ?_
  refine gk_iconst C dL_refuses_232 ?_
  refine gk_callSH C o_L_act k_L_100 dL_refuses_233 (act_e hfl H5 (w := 7) (a := (-2147483648)) (b := (0)) (c := (0)) (d := (0)) (r := -7000001) rfl (by omega) (by omega) (by omega) (by omega) (by omega) hcl (rfI7 (by omega))) rfl rfl ⟨Nat.le_of_ble_eq_true rfl, Nat.le_of_ble_eq_true rfl⟩ ⟨by show _ + 9 ≤ 1600; omega, by show _ + 418 ≤ 70000; omega⟩ (by exact Nat.le_of_ble_eq_true rfl) (fun v6 h6 p6 => ?_)
  obtain ⟨rfl, H6⟩ := p6
  dsimp only [gk_push]
  clear H5
  refine gk_ldc C cn_L_85 dL_refuses_236 ?_
  refine gk_icmp_ne C (tgt := 696) (by omega) (by omega) dL_refuses_238 (by decide) (fun c_238 => ?_) (fun c_238 => ?_)
  · exact absurd c_238 (by omega)
  refine gk_aload_n C dL_refuses_241 rfl ?_
  refine gk_bipush C dL_refuses_242 (by decide) ?_
  refine gk_iload C dL_refuses_244 rfl ?_
  refine gk_if_ne C (tgt := 254) (by omega) dL_refuses_246 (by decide) (fun c_246 => ?_) (fun c_246 => ?_)
  rotate_left
  · exact absurd c_246 (by omega)
  refine gk_iload C dL_refuses_254 rfl ?_
  refine gk_iconst C dL_refuses_256 ?_
  refine gk_icmp_ne C (tgt := 265) (by omega) (by omega) dL_refuses_257 (by decide) (fun c_257 => ?_) (fun c_257 => ?_)
  rotate_left
  · exact absurd c_257 (by omega)
  refine gk_iload C dL_refuses_265 rfl ?_
  refine gk_bipush C dL_refuses_267 (by decide) ?_
  refine gk_iconst C dL_refuses_269 ?_
  refine gk_iconst C dL_refuses_270 ?_
  refine gk_callSH C o_L_act k_L_100 dL_refuses_271 (act_e hfl H6 (w := 9) (a := (-2147483648)) (b := (10)) (c := (0)) (d := (0)) (r := -7000002) rfl (by omega) (by omega) (by omega) (by omega) (by omega) hcl (rfA9 (by omega))) rfl rfl ⟨Nat.le_of_ble_eq_true rfl, Nat.le_of_ble_eq_true rfl⟩ ⟨by show _ + 9 ≤ 1600; omega, by show _ + 418 ≤ 70000; omega⟩ (by exact Nat.le_of_ble_eq_true rfl) (fun v7 h7 p7 => ?_)
  obtain ⟨rfl, H7⟩ := p7
  dsimp only [gk_push]
  clear H6
  refine gk_ldc C cn_L_88 dL_refuses_274 ?_
  refine gk_icmp_ne C (tgt := 696) (by omega) (by omega) dL_refuses_276 (by decide) (fun c_276 => ?_) (fun c_276 => ?_)
  · exact absurd c_276 (by omega)
  refine gk_aload_n C dL_refuses_279 rfl ?_
  refine gk_bipush C dL_refuses_280 (by decide) ?_
  refine gk_iconst C dL_refuses_282 ?_
  refine gk_iload C dL_refuses_283 rfl ?_
  refine gk_if_ne C (tgt := 293) (by omega) dL_refuses_285 (by decide) (fun c_285 => ?_) (fun c_285 => ?_)
  rotate_left
  · exact absurd c_285 (by omega)
  refine gk_iload C dL_refuses_293 rfl ?_
  refine gk_iconst C dL_refuses_295 ?_
  refine gk_icmp_ne C (tgt := 304) (by omega) (by omega) dL_refuses_296 (by decide) (fun c_296 => ?_) (fun c_296 => ?_)
  rotate_left
  · exact absurd c_296 (by omega)
  refine gk_iload C dL_refuses_304 rfl ?_
  refine gk_iconst C dL_refuses_306 ?_
  refine gk_iconst C dL_refuses_307 ?_
  refine gk_callSH C o_L_act k_L_100 dL_refuses_308 (act_e hfl H7 (w := 9) (a := (0)) (b := (-2147483648)) (c := (0)) (d := (0)) (r := -7000002) rfl (by omega) (by omega) (by omega) (by omega) (by omega) hcl (rfA9 (by omega))) rfl rfl ⟨Nat.le_of_ble_eq_true rfl, Nat.le_of_ble_eq_true rfl⟩ ⟨by show _ + 9 ≤ 1600; omega, by show _ + 418 ≤ 70000; omega⟩ (by exact Nat.le_of_ble_eq_true rfl) (fun v8 h8 p8 => ?_)
  obtain ⟨rfl, H8⟩ := p8
  dsimp only [gk_push]
  clear H7
  refine gk_ldc C cn_L_88 dL_refuses_311 ?_
  refine gk_icmp_ne C (tgt := 696) (by omega) (by omega) dL_refuses_313 (by decide) (fun c_313 => ?_) (fun c_313 => ?_)
  · exact absurd c_313 (by omega)
  refine gk_aload_n C dL_refuses_316 rfl ?_
  refine gk_bipush C dL_refuses_317 (by decide) ?_
  refine gk_iconst C dL_refuses_319 ?_
  refine gk_bipush C dL_refuses_320 (by decide) ?_
  refine gk_iload C dL_refuses_322 rfl ?_
  refine gk_iconst C dL_refuses_324 ?_
  refine gk_icmp_ne C (tgt := 333) (by omega) (by omega) dL_refuses_325 (by decide) (fun c_325 => ?_) (fun c_325 => ?_)
  rotate_left
  · exact absurd c_325 (by omega)
  refine gk_iload C dL_refuses_333 rfl ?_
  refine gk_iconst C dL_refuses_335 ?_
  refine gk_callSH C o_L_act k_L_100 dL_refuses_336 (act_e hfl H8 (w := 9) (a := (0)) (b := (10)) (c := (-2147483648)) (d := (0)) (r := -7000002) rfl (by omega) (by omega) (by omega) (by omega) (by omega) hcl (rfA9 (by omega))) rfl rfl ⟨Nat.le_of_ble_eq_true rfl, Nat.le_of_ble_eq_true rfl⟩ ⟨by show _ + 9 ≤ 1600; omega, by show _ + 418 ≤ 70000; omega⟩ (by exact Nat.le_of_ble_eq_true rfl) (fun v9 h9 p9 => ?_)
  obtain ⟨rfl, H9⟩ := p9
  dsimp only [gk_push]
  clear H8
  refine gk_ldc C cn_L_88 dL_refuses_339 ?_
  refine gk_icmp_ne C (tgt := 696) (by omega) (by omega) dL_refuses_341 (by decide) (fun c_341 => ?_) (fun c_341 => ?_)
  · exact absurd c_341 (by omega)
  refine gk_aload_n C dL_refuses_344 rfl ?_
  refine gk_bipush C dL_refuses_345 (by decide) ?_
  refine gk_iload C dL_refuses_347 rfl ?_
  refine gk_sipush C dL_refuses_349 (by decide) ?_
  refine gk_iconst C dL_refuses_352 ?_
  refine gk_iconst C dL_refuses_353 ?_
  refine gk_callSH C o_L_act k_L_100 dL_refuses_354 (act_e hfl H9 (w := 10) (a := (-2147483648)) (b := (999)) (c := (0)) (d := (0)) (r := -7000001) rfl (by omega) (by omega) (by omega) (by omega) (by omega) hcl (rfI10 (by omega))) rfl rfl ⟨Nat.le_of_ble_eq_true rfl, Nat.le_of_ble_eq_true rfl⟩ ⟨by show _ + 9 ≤ 1600; omega, by show _ + 418 ≤ 70000; omega⟩ (by exact Nat.le_of_ble_eq_true rfl) (fun v10 h10 p10 => ?_)
  obtain ⟨rfl, H10⟩ := p10
  dsimp only [gk_push]
  clear H9
  refine gk_ldc C cn_L_85 dL_refuses_357 ?_
  refine gk_icmp_ne C (tgt := 696) (by omega) (by omega) dL_refuses_359 (by decide) (fun c_359 => ?_) (fun c_359 => ?_)
  · exact absurd c_359 (by omega)
  refine gk_aload_n C dL_refuses_362 rfl ?_
  refine gk_bipush C dL_refuses_363 (by decide) ?_
  refine gk_iload C dL_refuses_365 rfl ?_
  refine gk_iconst C dL_refuses_367 ?_
  refine gk_iconst C dL_refuses_368 ?_
  refine gk_iconst C dL_refuses_369 ?_
  refine gk_callSH C o_L_act k_L_100 dL_refuses_370 (act_e hfl H10 (w := 11) (a := (-2147483648)) (b := (1)) (c := (0)) (d := (0)) (r := -7000001) rfl (by omega) (by omega) (by omega) (by omega) (by omega) hcl (rfI11 (by omega))) rfl rfl ⟨Nat.le_of_ble_eq_true rfl, Nat.le_of_ble_eq_true rfl⟩ ⟨by show _ + 9 ≤ 1600; omega, by show _ + 418 ≤ 70000; omega⟩ (by exact Nat.le_of_ble_eq_true rfl) (fun v11 h11 p11 => ?_)
  obtain ⟨rfl, H11⟩ := p11
  dsimp only [gk_push]
  clear H10
  refine gk_ldc C cn_L_85 dL_refuses_373 ?_
  refine gk_icmp_ne C (tgt := 696) (by omega) (by omega) dL_refuses_375 (by decide) (fun c_375 => ?_) (fun c_375 => ?_)
  · exact absurd c_375 (by omega)
  refine gk_aload_n C dL_refuses_378 rfl ?_
  refine gk_bipush C dL_refuses_379 (by decide) ?_
  refine gk_iload C dL_refuses_381 rfl ?_
  refine gk_if_ne C (tgt := 390) (by omega) dL_refuses_383 (by decide) (fun c_383 => ?_) (fun c_383 => ?_)
  rotate_left
  · exact absurd c_383 (by omega)
  refine gk_iload C dL_refuses_390 rfl ?_
  refine gk_iconst C dL_refuses_392 ?_
  refine gk_icmp_ne C (tgt := 401) (by omega) (by omega) dL_refuses_393 (by decide) (fun c_393 => ?_) (fun c_393 => ?_)
  rotate_left
  · exact absurd c_393 (by omega)
  refine gk_iload C dL_refuses_401 rfl ?_
  refine gk_iconst C dL_refuses_403 ?_
  refine gk_iconst C dL_refuses_404 ?_
  refine gk_iconst C dL_refuses_405 ?_
  refine gk_callSH C o_L_act k_L_100 dL_refuses_406 (act_e hfl H11 (w := 12) (a := (-2147483648)) (b := (0)) (c := (0)) (d := (0)) (r := -7000002) rfl (by omega) (by omega) (by omega) (by omega) (by omega) hcl (rfA12 (by omega))) rfl rfl ⟨Nat.le_of_ble_eq_true rfl, Nat.le_of_ble_eq_true rfl⟩ ⟨by show _ + 9 ≤ 1600; omega, by show _ + 418 ≤ 70000; omega⟩ (by exact Nat.le_of_ble_eq_true rfl) (fun v12 h12 p12 => ?_)
  obtain ⟨rfl, H12⟩ := p12
  dsimp only [gk_push]
  clear H11
  refine gk_ldc C cn_L_88 dL_refuses_409 ?_
  refine gk_icmp_ne C (tgt := 696) (by omega) (by omega) dL_refuses_411 (by decide) (fun c_411 => ?_) (fun c_411 => ?_)
  · exact absurd c_411 (by omega)
  refine gk_aload_n C dL_refuses_414 rfl ?_
  refine gk_bipush C dL_refuses_415 (by decide) ?_
  refine gk_iconst C dL_refuses_417 ?_
  refine gk_iload C dL_refuses_418 rfl ?_
  refine gk_iconst C dL_refuses_420 ?_
  refine gk_icmp_ne C (tgt := 429) (by omega) (by omega) dL_refuses_421 (by decide) (fun c_421 => ?_) (fun c_421 => ?_)
  rotate_left
  · exact absurd c_421 (by omega)
  refine gk_iload C dL_refuses_429 rfl ?_
  refine gk_iconst C dL_refuses_431 ?_
  refine gk_iconst C dL_refuses_432 ?_
  refine gk_callSH C o_L_act k_L_100 dL_refuses_433 (act_e hfl H12 (w := 12) (a := (1)) (b := (-2147483648)) (c := (0)) (d := (0)) (r := -7000002) rfl (by omega) (by omega) (by omega) (by omega) (by omega) hcl (rfA12 (by omega))) rfl rfl ⟨Nat.le_of_ble_eq_true rfl, Nat.le_of_ble_eq_true rfl⟩ ⟨by show _ + 9 ≤ 1600; omega, by show _ + 418 ≤ 70000; omega⟩ (by exact Nat.le_of_ble_eq_true rfl) (fun v13 h13 p13 => ?_)
  obtain ⟨rfl, H13⟩ := p13
  dsimp only [gk_push]
  clear H12
  refine gk_ldc C cn_L_88 dL_refuses_436 ?_
  refine gk_icmp_ne C (tgt := 696) (by omega) (by omega) dL_refuses_438 (by decide) (fun c_438 => ?_) (fun c_438 => ?_)
  · exact absurd c_438 (by omega)
  refine gk_aload_n C dL_refuses_441 rfl ?_
  refine gk_bipush C dL_refuses_442 (by decide) ?_
  refine gk_iconst C dL_refuses_444 ?_
  refine gk_iconst C dL_refuses_445 ?_
  refine gk_iload C dL_refuses_446 rfl ?_
  refine gk_iconst C dL_refuses_448 ?_
  refine gk_icmp_ne C (tgt := 457) (by omega) (by omega) dL_refuses_449 (by decide) (fun c_449 => ?_) (fun c_449 => ?_)
  rotate_left
  · exact absurd c_449 (by omega)
  refine gk_iload C dL_refuses_457 rfl ?_
  refine gk_iconst C dL_refuses_459 ?_
  refine gk_callSH C o_L_act k_L_100 dL_refuses_460 (act_e hfl H13 (w := 12) (a := (1)) (b := (0)) (c := (-2147483648)) (d := (0)) (r := -7000002) rfl (by omega) (by omega) (by omega) (by omega) (by omega) hcl (rfA12 (by omega))) rfl rfl ⟨Nat.le_of_ble_eq_true rfl, Nat.le_of_ble_eq_true rfl⟩ ⟨by show _ + 9 ≤ 1600; omega, by show _ + 418 ≤ 70000; omega⟩ (by exact Nat.le_of_ble_eq_true rfl) (fun v14 h14 p14 => ?_)
  obtain ⟨rfl, H14⟩ := p14
  dsimp only [gk_push]
  clear H13
  refine gk_ldc C cn_L_88 dL_refuses_463 ?_
  refine gk_icmp_ne C (tgt := 696) (by omega) (by omega) dL_refuses_465 (by decide) (fun c_465 => ?_) (fun c_465 => ?_)
  · exact absurd c_465 (by omega)
  refine gk_aload_n C dL_refuses_468 rfl ?_
  refine gk_bipush C dL_refuses_469 (by decide) ?_
  refine gk_iload C dL_refuses_471 rfl ?_
  refine gk_bipush C dL_refuses_473 (by decide) ?_
  refine gk_iconst C dL_refuses_475 ?_
  refine gk_iconst C dL_refuses_476 ?_
  refine gk_callSH C o_L_act k_L_100 dL_refuses_477 (act_e hfl H14 (w := 13) (a := (-2147483648)) (b := (9)) (c := (0)) (d := (0)) (r := -7000001) rfl (by omega) (by omega) (by omega) (by omega) (by omega) hcl (rfI13 (by omega))) rfl rfl ⟨Nat.le_of_ble_eq_true rfl, Nat.le_of_ble_eq_true rfl⟩ ⟨by show _ + 9 ≤ 1600; omega, by show _ + 418 ≤ 70000; omega⟩ (by exact Nat.le_of_ble_eq_true rfl) (fun v15 h15 p15 => ?_)
  obtain ⟨rfl, H15⟩ := p15
  dsimp only [gk_push]
  clear H14
  refine gk_ldc C cn_L_85 dL_refuses_480 ?_
  refine gk_icmp_ne C (tgt := 696) (by omega) (by omega) dL_refuses_482 (by decide) (fun c_482 => ?_) (fun c_482 => ?_)
  · exact absurd c_482 (by omega)
  refine gk_aload_n C dL_refuses_485 rfl ?_
  refine gk_bipush C dL_refuses_486 (by decide) ?_
  refine gk_iload C dL_refuses_488 rfl ?_
  refine gk_iconst C dL_refuses_490 ?_
  refine gk_iconst C dL_refuses_491 ?_
  refine gk_iconst C dL_refuses_492 ?_
  refine gk_callSH C o_L_act k_L_100 dL_refuses_493 (act_e hfl H15 (w := 14) (a := (-2147483648)) (b := (0)) (c := (0)) (d := (0)) (r := -7000001) rfl (by omega) (by omega) (by omega) (by omega) (by omega) hcl (rfI14 (by omega))) rfl rfl ⟨Nat.le_of_ble_eq_true rfl, Nat.le_of_ble_eq_true rfl⟩ ⟨by show _ + 9 ≤ 1600; omega, by show _ + 418 ≤ 70000; omega⟩ (by exact Nat.le_of_ble_eq_true rfl) (fun v16 h16 p16 => ?_)
  obtain ⟨rfl, H16⟩ := p16
  dsimp only [gk_push]
  clear H15
  refine gk_ldc C cn_L_85 dL_refuses_496 ?_
  refine gk_icmp_ne C (tgt := 696) (by omega) (by omega) dL_refuses_498 (by decide) (fun c_498 => ?_) (fun c_498 => ?_)
  · exact absurd c_498 (by omega)
  refine gk_aload_n C dL_refuses_501 rfl ?_
  refine gk_bipush C dL_refuses_502 (by decide) ?_
  refine gk_iconst C dL_refuses_504 ?_
  refine gk_iload C dL_refuses_505 rfl ?_
  refine gk_iconst C dL_refuses_507 ?_
  refine gk_iconst C dL_refuses_508 ?_
  refine gk_callSH C o_L_act k_L_100 dL_refuses_509 (act_e hfl H16 (w := 14) (a := (0)) (b := (-2147483648)) (c := (0)) (d := (0)) (r := -7000001) rfl (by omega) (by omega) (by omega) (by omega) (by omega) hcl (rfI14 (by omega))) rfl rfl ⟨Nat.le_of_ble_eq_true rfl, Nat.le_of_ble_eq_true rfl⟩ ⟨by show _ + 9 ≤ 1600; omega, by show _ + 418 ≤ 70000; omega⟩ (by exact Nat.le_of_ble_eq_true rfl) (fun v17 h17 p17 => ?_)
  obtain ⟨rfl, H17⟩ := p17
  dsimp only [gk_push]
  clear H16
  refine gk_ldc C cn_L_85 dL_refuses_512 ?_
  refine gk_icmp_ne C (tgt := 696) (by omega) (by omega) dL_refuses_514 (by decide) (fun c_514 => ?_) (fun c_514 => ?_)
  · exact absurd c_514 (by omega)
  refine gk_aload_n C dL_refuses_517 rfl ?_
  refine gk_bipush C dL_refuses_518 (by decide) ?_
  refine gk_iload C dL_refuses_520 rfl ?_
  refine gk_if_ne C (tgt := 529) (by omega) dL_refuses_522 (by decide) (fun c_522 => ?_) (fun c_522 => ?_)
  rotate_left
  · exact absurd c_522 (by omega)
  refine gk_iload C dL_refuses_529 rfl ?_
  refine gk_iconst C dL_refuses_531 ?_
  refine gk_icmp_ne C (tgt := 540) (by omega) (by omega) dL_refuses_532 (by decide) (fun c_532 => ?_) (fun c_532 => ?_)
  rotate_left
  · exact absurd c_532 (by omega)
  refine gk_iload C dL_refuses_540 rfl ?_
  refine gk_iconst C dL_refuses_542 ?_
  refine gk_iconst C dL_refuses_543 ?_
  refine gk_iconst C dL_refuses_544 ?_
  refine gk_callSH C o_L_act k_L_100 dL_refuses_545 (act_e hfl H17 (w := 15) (a := (-2147483648)) (b := (0)) (c := (0)) (d := (0)) (r := -7000002) rfl (by omega) (by omega) (by omega) (by omega) (by omega) hcl (rfA15 (by omega))) rfl rfl ⟨Nat.le_of_ble_eq_true rfl, Nat.le_of_ble_eq_true rfl⟩ ⟨by show _ + 9 ≤ 1600; omega, by show _ + 418 ≤ 70000; omega⟩ (by exact Nat.le_of_ble_eq_true rfl) (fun v18 h18 p18 => ?_)
  obtain ⟨rfl, H18⟩ := p18
  dsimp only [gk_push]
  clear H17
  refine gk_ldc C cn_L_88 dL_refuses_548 ?_
  refine gk_icmp_ne C (tgt := 696) (by omega) (by omega) dL_refuses_550 (by decide) (fun c_550 => ?_) (fun c_550 => ?_)
  · exact absurd c_550 (by omega)
  refine gk_aload_n C dL_refuses_553 rfl ?_
  refine gk_bipush C dL_refuses_554 (by decide) ?_
  refine gk_iconst C dL_refuses_556 ?_
  refine gk_iload C dL_refuses_557 rfl ?_
  refine gk_iconst C dL_refuses_559 ?_
  refine gk_icmp_ne C (tgt := 568) (by omega) (by omega) dL_refuses_560 (by decide) (fun c_560 => ?_) (fun c_560 => ?_)
  rotate_left
  · exact absurd c_560 (by omega)
  refine gk_iload C dL_refuses_568 rfl ?_
  refine gk_iconst C dL_refuses_570 ?_
  refine gk_iconst C dL_refuses_571 ?_
  refine gk_callSH C o_L_act k_L_100 dL_refuses_572 (act_e hfl H18 (w := 15) (a := (1)) (b := (-2147483648)) (c := (0)) (d := (0)) (r := -7000002) rfl (by omega) (by omega) (by omega) (by omega) (by omega) hcl (rfA15 (by omega))) rfl rfl ⟨Nat.le_of_ble_eq_true rfl, Nat.le_of_ble_eq_true rfl⟩ ⟨by show _ + 9 ≤ 1600; omega, by show _ + 418 ≤ 70000; omega⟩ (by exact Nat.le_of_ble_eq_true rfl) (fun v19 h19 p19 => ?_)
  obtain ⟨rfl, H19⟩ := p19
  dsimp only [gk_push]
  clear H18
  refine gk_ldc C cn_L_88 dL_refuses_575 ?_
  refine gk_icmp_ne C (tgt := 696) (by omega) (by omega) dL_refuses_577 (by decide) (fun c_577 => ?_) (fun c_577 => ?_)
  · exact absurd c_577 (by omega)
  refine gk_aload_n C dL_refuses_580 rfl ?_
  refine gk_bipush C dL_refuses_581 (by decide) ?_
  refine gk_iconst C dL_refuses_583 ?_
  refine gk_iconst C dL_refuses_584 ?_
  refine gk_iload C dL_refuses_585 rfl ?_
  refine gk_iconst C dL_refuses_587 ?_
  refine gk_icmp_ne C (tgt := 596) (by omega) (by omega) dL_refuses_588 (by decide) (fun c_588 => ?_) (fun c_588 => ?_)
  rotate_left
  · exact absurd c_588 (by omega)
  refine gk_iload C dL_refuses_596 rfl ?_
  refine gk_iconst C dL_refuses_598 ?_
  refine gk_callSH C o_L_act k_L_100 dL_refuses_599 (act_e hfl H19 (w := 15) (a := (1)) (b := (0)) (c := (-2147483648)) (d := (0)) (r := -7000002) rfl (by omega) (by omega) (by omega) (by omega) (by omega) hcl (rfA15 (by omega))) rfl rfl ⟨Nat.le_of_ble_eq_true rfl, Nat.le_of_ble_eq_true rfl⟩ ⟨by show _ + 9 ≤ 1600; omega, by show _ + 418 ≤ 70000; omega⟩ (by exact Nat.le_of_ble_eq_true rfl) (fun v20 h20 p20 => ?_)
  obtain ⟨rfl, H20⟩ := p20
  dsimp only [gk_push]
  clear H19
  refine gk_ldc C cn_L_88 dL_refuses_602 ?_
  refine gk_icmp_ne C (tgt := 696) (by omega) (by omega) dL_refuses_604 (by decide) (fun c_604 => ?_) (fun c_604 => ?_)
  · exact absurd c_604 (by omega)
  refine gk_aload_n C dL_refuses_607 rfl ?_
  refine gk_bipush C dL_refuses_608 (by decide) ?_
  refine gk_iload C dL_refuses_610 rfl ?_
  refine gk_iconst C dL_refuses_612 ?_
  refine gk_iconst C dL_refuses_613 ?_
  refine gk_iconst C dL_refuses_614 ?_
  refine gk_callSH C o_L_act k_L_100 dL_refuses_615 (act_e hfl H20 (w := 16) (a := (-2147483648)) (b := (0)) (c := (0)) (d := (0)) (r := -7000002) rfl (by omega) (by omega) (by omega) (by omega) (by omega) hcl (rfA16 (by omega))) rfl rfl ⟨Nat.le_of_ble_eq_true rfl, Nat.le_of_ble_eq_true rfl⟩ ⟨by show _ + 9 ≤ 1600; omega, by show _ + 418 ≤ 70000; omega⟩ (by exact Nat.le_of_ble_eq_true rfl) (fun v21 h21 p21 => ?_)
  obtain ⟨rfl, H21⟩ := p21
  dsimp only [gk_push]
  clear H20
  refine gk_ldc C cn_L_88 dL_refuses_618 ?_
  refine gk_icmp_ne C (tgt := 696) (by omega) (by omega) dL_refuses_620 (by decide) (fun c_620 => ?_) (fun c_620 => ?_)
  · exact absurd c_620 (by omega)
  refine gk_aload_n C dL_refuses_623 rfl ?_
  refine gk_bipush C dL_refuses_624 (by decide) ?_
  refine gk_iload C dL_refuses_626 rfl ?_
  refine gk_iconst C dL_refuses_628 ?_
  refine gk_iconst C dL_refuses_629 ?_
  refine gk_iconst C dL_refuses_630 ?_
  refine gk_callSH C o_L_act k_L_100 dL_refuses_631 (act_e hfl H21 (w := 17) (a := (-2147483648)) (b := (0)) (c := (0)) (d := (0)) (r := -7000002) rfl (by omega) (by omega) (by omega) (by omega) (by omega) hcl (rfA17 (by omega))) rfl rfl ⟨Nat.le_of_ble_eq_true rfl, Nat.le_of_ble_eq_true rfl⟩ ⟨by show _ + 9 ≤ 1600; omega, by show _ + 418 ≤ 70000; omega⟩ (by exact Nat.le_of_ble_eq_true rfl) (fun v22 h22 p22 => ?_)
  obtain ⟨rfl, H22⟩ := p22
  dsimp only [gk_push]
  clear H21
  refine gk_ldc C cn_L_88 dL_refuses_634 ?_
  refine gk_icmp_ne C (tgt := 696) (by omega) (by omega) dL_refuses_636 (by decide) (fun c_636 => ?_) (fun c_636 => ?_)
  · exact absurd c_636 (by omega)
  refine gk_aload_n C dL_refuses_639 rfl ?_
  refine gk_bipush C dL_refuses_640 (by decide) ?_
  refine gk_iload C dL_refuses_642 rfl ?_
  refine gk_iconst C dL_refuses_644 ?_
  refine gk_sipush C dL_refuses_645 (by decide) ?_
  refine gk_iconst C dL_refuses_648 ?_
  refine gk_callSH C o_L_act k_L_100 dL_refuses_649 (act_e hfl H22 (w := 18) (a := (-2147483648)) (b := (0)) (c := (999)) (d := (0)) (r := -7000001) rfl (by omega) (by omega) (by omega) (by omega) (by omega) hcl (rfI18 (by omega))) rfl rfl ⟨Nat.le_of_ble_eq_true rfl, Nat.le_of_ble_eq_true rfl⟩ ⟨by show _ + 9 ≤ 1600; omega, by show _ + 418 ≤ 70000; omega⟩ (by exact Nat.le_of_ble_eq_true rfl) (fun v23 h23 p23 => ?_)
  obtain ⟨rfl, H23⟩ := p23
  dsimp only [gk_push]
  clear H22
  refine gk_ldc C cn_L_85 dL_refuses_652 ?_
  refine gk_icmp_ne C (tgt := 696) (by omega) (by omega) dL_refuses_654 (by decide) (fun c_654 => ?_) (fun c_654 => ?_)
  · exact absurd c_654 (by omega)
  refine gk_aload_n C dL_refuses_657 rfl ?_
  refine gk_bipush C dL_refuses_658 (by decide) ?_
  refine gk_iconst C dL_refuses_660 ?_
  refine gk_iload C dL_refuses_661 rfl ?_
  refine gk_sipush C dL_refuses_663 (by decide) ?_
  refine gk_iconst C dL_refuses_666 ?_
  refine gk_callSH C o_L_act k_L_100 dL_refuses_667 (act_e hfl H23 (w := 18) (a := (0)) (b := (-2147483648)) (c := (999)) (d := (0)) (r := -7000001) rfl (by omega) (by omega) (by omega) (by omega) (by omega) hcl (rfI18 (by omega))) rfl rfl ⟨Nat.le_of_ble_eq_true rfl, Nat.le_of_ble_eq_true rfl⟩ ⟨by show _ + 9 ≤ 1600; omega, by show _ + 418 ≤ 70000; omega⟩ (by exact Nat.le_of_ble_eq_true rfl) (fun v24 h24 p24 => ?_)
  obtain ⟨rfl, H24⟩ := p24
  dsimp only [gk_push]
  clear H23
  refine gk_ldc C cn_L_85 dL_refuses_670 ?_
  refine gk_icmp_ne C (tgt := 696) (by omega) (by omega) dL_refuses_672 (by decide) (fun c_672 => ?_) (fun c_672 => ?_)
  · exact absurd c_672 (by omega)
  refine gk_aload_n C dL_refuses_675 rfl ?_
  refine gk_bipush C dL_refuses_676 (by decide) ?_
  refine gk_iload C dL_refuses_678 rfl ?_
  refine gk_bipush C dL_refuses_680 (by decide) ?_
  refine gk_iconst C dL_refuses_682 ?_
  refine gk_iconst C dL_refuses_683 ?_
  refine gk_callSH C o_L_act k_L_100 dL_refuses_684 (act_e hfl H24 (w := 21) (a := (-2147483648)) (b := (9)) (c := (0)) (d := (0)) (r := -7000001) rfl (by omega) (by omega) (by omega) (by omega) (by omega) hcl (rfI21 (by omega))) rfl rfl ⟨Nat.le_of_ble_eq_true rfl, Nat.le_of_ble_eq_true rfl⟩ ⟨by show _ + 9 ≤ 1600; omega, by show _ + 418 ≤ 70000; omega⟩ (by exact Nat.le_of_ble_eq_true rfl) (fun v25 h25 p25 => ?_)
  obtain ⟨rfl, H25⟩ := p25
  dsimp only [gk_push]
  clear H24
  refine gk_ldc C cn_L_85 dL_refuses_687 ?_
  refine gk_icmp_ne C (tgt := 696) (by omega) (by omega) dL_refuses_689 (by decide) (fun c_689 => ?_) (fun c_689 => ?_)
  · exact absurd c_689 (by omega)
  refine gk_iconst C dL_refuses_692 ?_
  refine gk_goto C (tgt := 697) dL_refuses_693 (by decide) ?_
  refine gk_istore_16 C rfl (by exact Nat.le_of_ble_eq_true rfl) dL_refuses_697 ?_
  refine gk_iconst C dL_refuses_699 ?_
  refine gk_istore_17 C rfl (by exact Nat.le_of_ble_eq_true rfl) dL_refuses_700 ?_
  refine gk_iload C dL_refuses_702 rfl ?_
  refine gk_bipush C dL_refuses_704 (by decide) ?_
  refine gk_icmp_ge C (tgt := 759) (by omega) (by omega) dL_refuses_706 (by decide) (fun c_706 => ?_) (fun c_706 => ?_)
  · exact absurd c_706 (by omega)
  refine gk_iload C dL_refuses_709 rfl ?_
  refine gk_if_eq C (tgt := 759) (by omega) dL_refuses_711 (by decide) (fun c_711 => ?_) (fun c_711 => ?_)
  · exact absurd c_711 (by omega)
  refine gk_aload_n C dL_refuses_714 rfl ?_
  refine gk_iload C dL_refuses_715 rfl ?_
  refine gk_iload C dL_refuses_717 rfl ?_
  refine gk_iconst C dL_refuses_719 ?_
  refine gk_iconst C dL_refuses_720 ?_
  refine gk_iconst C dL_refuses_721 ?_
  refine gk_callSH C o_L_act k_L_100 dL_refuses_722 (act_e hfl H25 (w := 5) (a := (-2147483648)) (b := (0)) (c := (0)) (d := (0)) (r := -7000001) rfl (by omega) (by omega) (by omega) (by omega) (by omega) hcl (rfI5 (by omega))) rfl rfl ⟨Nat.le_of_ble_eq_true rfl, Nat.le_of_ble_eq_true rfl⟩ ⟨by show _ + 9 ≤ 1600; omega, by show _ + 418 ≤ 70000; omega⟩ (by exact Nat.le_of_ble_eq_true rfl) (fun v26 h26 p26 => ?_)
  obtain ⟨rfl, H26⟩ := p26
  dsimp only [gk_push]
  clear H25
  refine gk_ldc C cn_L_85 dL_refuses_725 ?_
  refine gk_icmp_ne C (tgt := 750) (by omega) (by omega) dL_refuses_727 (by decide) (fun c_727 => ?_) (fun c_727 => ?_)
  · exact absurd c_727 (by omega)
  refine gk_aload_n C dL_refuses_730 rfl ?_
  refine gk_iload C dL_refuses_731 rfl ?_
  refine gk_iconst C dL_refuses_733 ?_
  refine gk_iload C dL_refuses_734 rfl ?_
  refine gk_iconst C dL_refuses_736 ?_
  refine gk_iconst C dL_refuses_737 ?_
  refine gk_callSH C o_L_act k_L_100 dL_refuses_738 (act_e hfl H26 (w := 5) (a := (0)) (b := (-2147483648)) (c := (0)) (d := (0)) (r := -7000001) rfl (by omega) (by omega) (by omega) (by omega) (by omega) hcl (rfI5 (by omega))) rfl rfl ⟨Nat.le_of_ble_eq_true rfl, Nat.le_of_ble_eq_true rfl⟩ ⟨by show _ + 9 ≤ 1600; omega, by show _ + 418 ≤ 70000; omega⟩ (by exact Nat.le_of_ble_eq_true rfl) (fun v27 h27 p27 => ?_)
  obtain ⟨rfl, H27⟩ := p27
  dsimp only [gk_push]
  clear H26
  refine gk_ldc C cn_L_85 dL_refuses_741 ?_
  refine gk_icmp_ne C (tgt := 750) (by omega) (by omega) dL_refuses_743 (by decide) (fun c_743 => ?_) (fun c_743 => ?_)
  · exact absurd c_743 (by omega)
  refine gk_iconst C dL_refuses_746 ?_
  refine gk_goto C (tgt := 751) dL_refuses_747 (by decide) ?_
  refine gk_istore_16 C rfl (by exact Nat.le_of_ble_eq_true rfl) dL_refuses_751 ?_
  refine gk_iinc_17 C rfl (by exact Nat.le_of_ble_eq_true rfl) dL_refuses_753 ?_
  rw [show ((5 : Int) + 1) = 6 by decide]
  refine gk_goto C (tgt := 702) dL_refuses_756 (by decide) ?_
  refine gk_iload C dL_refuses_702 rfl ?_
  refine gk_bipush C dL_refuses_704 (by decide) ?_
  refine gk_icmp_ge C (tgt := 759) (by omega) (by omega) dL_refuses_706 (by decide) (fun c_706 => ?_) (fun c_706 => ?_)
  · exact absurd c_706 (by omega)
  refine gk_iload C dL_refuses_709 rfl ?_
  refine gk_if_eq C (tgt := 759) (by omega) dL_refuses_711 (by decide) (fun c_711 => ?_) (fun c_711 => ?_)
  · exact absurd c_711 (by omega)
  refine gk_aload_n C dL_refuses_714 rfl ?_
  refine gk_iload C dL_refuses_715 rfl ?_
  refine gk_iload C dL_refuses_717 rfl ?_
  refine gk_iconst C dL_refuses_719 ?_
  refine gk_iconst C dL_refuses_720 ?_
  refine gk_iconst C dL_refuses_721 ?_
  refine gk_callSH C o_L_act k_L_100 dL_refuses_722 (act_e hfl H27 (w := 6) (a := (-2147483648)) (b := (0)) (c := (0)) (d := (0)) (r := -7000001) rfl (by omega) (by omega) (by omega) (by omega) (by omega) hcl (rfI6 (by omega))) rfl rfl ⟨Nat.le_of_ble_eq_true rfl, Nat.le_of_ble_eq_true rfl⟩ ⟨by show _ + 9 ≤ 1600; omega, by show _ + 418 ≤ 70000; omega⟩ (by exact Nat.le_of_ble_eq_true rfl) (fun v28 h28 p28 => ?_)
  obtain ⟨rfl, H28⟩ := p28
  dsimp only [gk_push]
  clear H27
  refine gk_ldc C cn_L_85 dL_refuses_725 ?_
  refine gk_icmp_ne C (tgt := 750) (by omega) (by omega) dL_refuses_727 (by decide) (fun c_727 => ?_) (fun c_727 => ?_)
  · exact absurd c_727 (by omega)
  refine gk_aload_n C dL_refuses_730 rfl ?_
  refine gk_iload C dL_refuses_731 rfl ?_
  refine gk_iconst C dL_refuses_733 ?_
  refine gk_iload C dL_refuses_734 rfl ?_
  refine gk_iconst C dL_refuses_736 ?_
  refine gk_iconst C dL_refuses_737 ?_
  refine gk_callSH C o_L_act k_L_100 dL_refuses_738 (act_e hfl H28 (w := 6) (a := (0)) (b := (-2147483648)) (c := (0)) (d := (0)) (r := -7000001) rfl (by omega) (by omega) (by omega) (by omega) (by omega) hcl (rfI6 (by omega))) rfl rfl ⟨Nat.le_of_ble_eq_true rfl, Nat.le_of_ble_eq_true rfl⟩ ⟨by show _ + 9 ≤ 1600; omega, by show _ + 418 ≤ 70000; omega⟩ (by exact Nat.le_of_ble_eq_true rfl) (fun v29 h29 p29 => ?_)
  obtain ⟨rfl, H29⟩ := p29
  dsimp only [gk_push]
  clear H28
  refine gk_ldc C cn_L_85 dL_refuses_741 ?_
  refine gk_icmp_ne C (tgt := 750) (by omega) (by omega) dL_refuses_743 (by decide) (fun c_743 => ?_) (fun c_743 => ?_)
  · exact absurd c_743 (by omega)
  refine gk_iconst C dL_refuses_746 ?_
  refine gk_goto C (tgt := 751) dL_refuses_747 (by decide) ?_
  refine gk_istore_16 C rfl (by exact Nat.le_of_ble_eq_true rfl) dL_refuses_751 ?_
  refine gk_iinc_17 C rfl (by exact Nat.le_of_ble_eq_true rfl) dL_refuses_753 ?_
  rw [show ((6 : Int) + 1) = 7 by decide]
  refine gk_goto C (tgt := 702) dL_refuses_756 (by decide) ?_
  refine gk_iload C dL_refuses_702 rfl ?_
  refine gk_bipush C dL_refuses_704 (by decide) ?_
  refine gk_icmp_ge C (tgt := 759) (by omega) (by omega) dL_refuses_706 (by decide) (fun c_706 => ?_) (fun c_706 => ?_)
  rotate_left
  · exact absurd c_706 (by omega)
  refine gk_iload C dL_refuses_759 rfl ?_
  refine gk_if_eq C (tgt := 917) (by omega) dL_refuses_761 (by decide) (fun c_761 => ?_) (fun c_761 => ?_)
  · exact absurd c_761 (by omega)
  have J1 : ∀ (h2 : Hp) (k2 n2 : Nat), HD Γ x σ h2 → k2 ≤ 1395 → n2 ≤ 63830 → G 913 [some (.ref x), some (iv t), some (iv p), some (iv b), some (iv 2147483647), some (iv sp), some (jv ti), none, some (iv 3), some (iv (-2147483648)), some (iv (-2147483648)), some (iv (-2147483648)), some (iv (-2147483648)), some (iv (-2147483648)), some (iv (-2147483648)), some (iv (-2147483648)), some (iv 1), some (iv 7)] [] h2 k2 n2 := by
    intro h2 k2 n2 J1H hk2 hn2
    refine gk_iconst C dL_refuses_913 ?_
    refine gk_goto C (tgt := 918) dL_refuses_914 (by decide) ?_
    refine gk_istore_16 C rfl (by exact Nat.le_of_ble_eq_true rfl) dL_refuses_918 ?_
    refine gk_iload C dL_refuses_920 rfl ?_
    refine gk_if_eq C (tgt := 997) (by omega) dL_refuses_922 (by decide) (fun c_922 => ?_) (fun c_922 => ?_)
    · exact absurd c_922 (by omega)
    have J2 : ∀ (h2 : Hp) (k2 n2 : Nat), HD Γ x σ h2 → k2 ≤ 1413 → n2 ≤ 64666 → G 993 [some (.ref x), some (iv t), some (iv p), some (iv b), some (iv 2147483647), some (iv sp), some (jv ti), none, some (iv 3), some (iv (-2147483648)), some (iv (-2147483648)), some (iv (-2147483648)), some (iv (-2147483648)), some (iv (-2147483648)), some (iv (-2147483648)), some (iv (-2147483648)), some (iv 1), some (iv 7)] [] h2 k2 n2 := by
      intro h2 k2 n2 J2H hk2 hn2
      refine gk_iconst C dL_refuses_993 ?_
      refine gk_goto C (tgt := 998) dL_refuses_994 (by decide) ?_
      refine gk_istore_16 C rfl (by exact Nat.le_of_ble_eq_true rfl) dL_refuses_998 ?_
      refine gk_iload C dL_refuses_1000 rfl ?_
      refine gk_if_eq C (tgt := 1066) (by omega) dL_refuses_1002 (by decide) (fun c_1002 => ?_) (fun c_1002 => ?_)
      · exact absurd c_1002 (by omega)
      have J3 : ∀ (h2 : Hp) (k2 n2 : Nat), HD Γ x σ h2 → k2 ≤ 1431 → n2 ≤ 65502 → G 1062 [some (.ref x), some (iv t), some (iv p), some (iv b), some (iv 2147483647), some (iv sp), some (jv ti), none, some (iv 3), some (iv (-2147483648)), some (iv (-2147483648)), some (iv (-2147483648)), some (iv (-2147483648)), some (iv (-2147483648)), some (iv (-2147483648)), some (iv (-2147483648)), some (iv 1), some (iv 7)] [] h2 k2 n2 := by
        intro h2 k2 n2 J3H hk2 hn2
        refine gk_iconst C dL_refuses_1062 ?_
        refine gk_goto C (tgt := 1067) dL_refuses_1063 (by decide) ?_
        refine gk_istore_16 C rfl (by exact Nat.le_of_ble_eq_true rfl) dL_refuses_1067 ?_
        refine gk_iload C dL_refuses_1069 rfl ?_
        refine gk_if_ne C (tgt := 1076) (by omega) dL_refuses_1071 (by decide) (fun c_1071 => ?_) (fun c_1071 => ?_)
        rotate_left
        · exact absurd c_1071 (by omega)
        refine gk_iinc_8 C rfl (by exact Nat.le_of_ble_eq_true rfl) dL_refuses_1076 ?_
        rw [show ((3 : Int) + 1) = 4 by decide]
        refine gk_goto C (tgt := 19) dL_refuses_1079 (by decide) ?_
        exact fin _ _ _ _ _ _ _ _ _ _ _ _ J3H (by omega) (by omega)
      refine gk_iload_n C dL_refuses_1005 rfl ?_
      refine gk_if_eq C (tgt := 1062) (by omega) dL_refuses_1006 (by decide) (fun c_1006 => ?_) (fun c_1006 => ?_)
      · exact J3 _ _ _ J2H (by omega) (by omega)
      · refine gk_aload_n C dL_refuses_1009 rfl ?_
        refine gk_bipush C dL_refuses_1010 (by decide) ?_
        refine gk_iconst C dL_refuses_1012 ?_
        refine gk_iconst C dL_refuses_1013 ?_
        refine gk_iload C dL_refuses_1014 rfl ?_
        refine gk_iconst C dL_refuses_1016 ?_
        refine gk_icmp_ne C (tgt := 1025) (by omega) (by omega) dL_refuses_1017 (by decide) (fun c_1017 => ?_) (fun c_1017 => ?_)
        rotate_left
        · exact absurd c_1017 (by omega)
        refine gk_iload C dL_refuses_1025 rfl ?_
        refine gk_iconst C dL_refuses_1027 ?_
        refine gk_callSH C o_L_act k_L_100 dL_refuses_1028 (act_e hfl J2H (w := 18) (a := (0)) (b := (0)) (c := (-2147483648)) (d := (0)) (r := -7000002) rfl (by omega) (by omega) (by omega) (by omega) (by omega) hcl (rfA18 (by omega) (by omega))) rfl rfl ⟨Nat.le_of_ble_eq_true rfl, Nat.le_of_ble_eq_true rfl⟩ ⟨by show _ + 9 ≤ 1600; omega, by show _ + 418 ≤ 70000; omega⟩ (by exact Nat.le_of_ble_eq_true rfl) (fun v30 h30 p30 => ?_)
        obtain ⟨rfl, H30⟩ := p30
        dsimp only [gk_push]
        clear J2H
        refine gk_ldc C cn_L_88 dL_refuses_1031 ?_
        refine gk_icmp_ne C (tgt := 1066) (by omega) (by omega) dL_refuses_1033 (by decide) (fun c_1033 => ?_) (fun c_1033 => ?_)
        · exact absurd c_1033 (by omega)
        refine gk_aload_n C dL_refuses_1036 rfl ?_
        refine gk_bipush C dL_refuses_1037 (by decide) ?_
        refine gk_iconst C dL_refuses_1039 ?_
        refine gk_iload C dL_refuses_1040 rfl ?_
        refine gk_iconst C dL_refuses_1042 ?_
        refine gk_icmp_ne C (tgt := 1050) (by omega) (by omega) dL_refuses_1043 (by decide) (fun c_1043 => ?_) (fun c_1043 => ?_)
        rotate_left
        · exact absurd c_1043 (by omega)
        refine gk_iload C dL_refuses_1050 rfl ?_
        refine gk_iconst C dL_refuses_1052 ?_
        refine gk_iconst C dL_refuses_1053 ?_
        refine gk_callSH C o_L_act k_L_100 dL_refuses_1054 (act_e hfl H30 (w := 21) (a := (0)) (b := (-2147483648)) (c := (0)) (d := (0)) (r := -7000002) rfl (by omega) (by omega) (by omega) (by omega) (by omega) hcl (rfA21 (by omega) (by omega))) rfl rfl ⟨Nat.le_of_ble_eq_true rfl, Nat.le_of_ble_eq_true rfl⟩ ⟨by show _ + 9 ≤ 1600; omega, by show _ + 418 ≤ 70000; omega⟩ (by exact Nat.le_of_ble_eq_true rfl) (fun v31 h31 p31 => ?_)
        obtain ⟨rfl, H31⟩ := p31
        dsimp only [gk_push]
        clear H30
        refine gk_ldc C cn_L_88 dL_refuses_1057 ?_
        refine gk_icmp_ne C (tgt := 1066) (by omega) (by omega) dL_refuses_1059 (by decide) (fun c_1059 => ?_) (fun c_1059 => ?_)
        · exact absurd c_1059 (by omega)
        exact J3 _ _ _ H31 (by omega) (by omega)
    refine gk_iload_n C dL_refuses_925 rfl ?_
    refine gk_if_eq C (tgt := 993) (by omega) dL_refuses_926 (by decide) (fun c_926 => ?_) (fun c_926 => ?_)
    · exact J2 _ _ _ J1H (by omega) (by omega)
    · refine gk_aload_n C dL_refuses_929 rfl ?_
      refine gk_bipush C dL_refuses_930 (by decide) ?_
      refine gk_iconst C dL_refuses_932 ?_
      refine gk_iload C dL_refuses_933 rfl ?_
      refine gk_if_ne C (tgt := 943) (by omega) dL_refuses_935 (by decide) (fun c_935 => ?_) (fun c_935 => ?_)
      rotate_left
      · exact absurd c_935 (by omega)
      refine gk_iload C dL_refuses_943 rfl ?_
      refine gk_iconst C dL_refuses_945 ?_
      refine gk_icmp_ne C (tgt := 954) (by omega) (by omega) dL_refuses_946 (by decide) (fun c_946 => ?_) (fun c_946 => ?_)
      rotate_left
      · exact absurd c_946 (by omega)
      refine gk_iload C dL_refuses_954 rfl ?_
      refine gk_iconst C dL_refuses_956 ?_
      refine gk_iconst C dL_refuses_957 ?_
      refine gk_callSH C o_L_act k_L_100 dL_refuses_958 (act_e hfl J1H (w := 10) (a := (0)) (b := (-2147483648)) (c := (0)) (d := (0)) (r := -7000002) rfl (by omega) (by omega) (by omega) (by omega) (by omega) hcl (rfA10 (by omega) (by omega))) rfl rfl ⟨Nat.le_of_ble_eq_true rfl, Nat.le_of_ble_eq_true rfl⟩ ⟨by show _ + 9 ≤ 1600; omega, by show _ + 418 ≤ 70000; omega⟩ (by exact Nat.le_of_ble_eq_true rfl) (fun v32 h32 p32 => ?_)
      obtain ⟨rfl, H32⟩ := p32
      dsimp only [gk_push]
      clear J1H
      refine gk_ldc C cn_L_88 dL_refuses_961 ?_
      refine gk_icmp_ne C (tgt := 997) (by omega) (by omega) dL_refuses_963 (by decide) (fun c_963 => ?_) (fun c_963 => ?_)
      · exact absurd c_963 (by omega)
      refine gk_aload_n C dL_refuses_966 rfl ?_
      refine gk_bipush C dL_refuses_967 (by decide) ?_
      refine gk_iconst C dL_refuses_969 ?_
      refine gk_iload C dL_refuses_970 rfl ?_
      refine gk_iconst C dL_refuses_972 ?_
      refine gk_icmp_ne C (tgt := 981) (by omega) (by omega) dL_refuses_973 (by decide) (fun c_973 => ?_) (fun c_973 => ?_)
      rotate_left
      · exact absurd c_973 (by omega)
      refine gk_iload C dL_refuses_981 rfl ?_
      refine gk_iconst C dL_refuses_983 ?_
      refine gk_iconst C dL_refuses_984 ?_
      refine gk_callSH C o_L_act k_L_100 dL_refuses_985 (act_e hfl H32 (w := 13) (a := (0)) (b := (-2147483648)) (c := (0)) (d := (0)) (r := -7000002) rfl (by omega) (by omega) (by omega) (by omega) (by omega) hcl (rfA13 (by omega) (by omega))) rfl rfl ⟨Nat.le_of_ble_eq_true rfl, Nat.le_of_ble_eq_true rfl⟩ ⟨by show _ + 9 ≤ 1600; omega, by show _ + 418 ≤ 70000; omega⟩ (by exact Nat.le_of_ble_eq_true rfl) (fun v33 h33 p33 => ?_)
      obtain ⟨rfl, H33⟩ := p33
      dsimp only [gk_push]
      clear H32
      refine gk_ldc C cn_L_88 dL_refuses_988 ?_
      refine gk_icmp_ne C (tgt := 997) (by omega) (by omega) dL_refuses_990 (by decide) (fun c_990 => ?_) (fun c_990 => ?_)
      · exact absurd c_990 (by omega)
      exact J2 _ _ _ H33 (by omega) (by omega)
  refine gk_iload_n C dL_refuses_764 rfl ?_
  refine gk_if_eq C (tgt := 913) (by omega) dL_refuses_765 (by decide) (fun c_765 => ?_) (fun c_765 => ?_)
  · exact J1 _ _ _ H29 (by omega) (by omega)
  · refine gk_aload_n C dL_refuses_768 rfl ?_
    refine gk_iconst C dL_refuses_769 ?_
    refine gk_iconst C dL_refuses_770 ?_
    refine gk_iload C dL_refuses_771 rfl ?_
    refine gk_iconst C dL_refuses_773 ?_
    refine gk_iconst C dL_refuses_774 ?_
    refine gk_callSH C o_L_act k_L_100 dL_refuses_775 (act_e hfl H29 (w := 1) (a := (0)) (b := (-2147483648)) (c := (1)) (d := (0)) (r := -7000002) rfl (by omega) (by omega) (by omega) (by omega) (by omega) hcl (rfA1 (by omega) (by omega))) rfl rfl ⟨Nat.le_of_ble_eq_true rfl, Nat.le_of_ble_eq_true rfl⟩ ⟨by show _ + 9 ≤ 1600; omega, by show _ + 418 ≤ 70000; omega⟩ (by exact Nat.le_of_ble_eq_true rfl) (fun v34 h34 p34 => ?_)
    obtain ⟨rfl, H34⟩ := p34
    dsimp only [gk_push]
    clear H29
    refine gk_ldc C cn_L_88 dL_refuses_778 ?_
    refine gk_icmp_ne C (tgt := 917) (by omega) (by omega) dL_refuses_780 (by decide) (fun c_780 => ?_) (fun c_780 => ?_)
    · exact absurd c_780 (by omega)
    refine gk_aload_n C dL_refuses_783 rfl ?_
    refine gk_iconst C dL_refuses_784 ?_
    refine gk_iconst C dL_refuses_785 ?_
    refine gk_iconst C dL_refuses_786 ?_
    refine gk_iload C dL_refuses_787 rfl ?_
    refine gk_if_ne C (tgt := 796) (by omega) dL_refuses_789 (by decide) (fun c_789 => ?_) (fun c_789 => ?_)
    rotate_left
    · exact absurd c_789 (by omega)
    refine gk_iload C dL_refuses_796 rfl ?_
    refine gk_iconst C dL_refuses_798 ?_
    refine gk_icmp_ne C (tgt := 807) (by omega) (by omega) dL_refuses_799 (by decide) (fun c_799 => ?_) (fun c_799 => ?_)
    rotate_left
    · exact absurd c_799 (by omega)
    refine gk_iload C dL_refuses_807 rfl ?_
    refine gk_iconst C dL_refuses_809 ?_
    refine gk_callSH C o_L_act k_L_100 dL_refuses_810 (act_e hfl H34 (w := 1) (a := (0)) (b := (0)) (c := (-2147483648)) (d := (0)) (r := -7000002) rfl (by omega) (by omega) (by omega) (by omega) (by omega) hcl (rfA1 (by omega) (by omega))) rfl rfl ⟨Nat.le_of_ble_eq_true rfl, Nat.le_of_ble_eq_true rfl⟩ ⟨by show _ + 9 ≤ 1600; omega, by show _ + 418 ≤ 70000; omega⟩ (by exact Nat.le_of_ble_eq_true rfl) (fun v35 h35 p35 => ?_)
    obtain ⟨rfl, H35⟩ := p35
    dsimp only [gk_push]
    clear H34
    refine gk_ldc C cn_L_88 dL_refuses_813 ?_
    refine gk_icmp_ne C (tgt := 917) (by omega) (by omega) dL_refuses_815 (by decide) (fun c_815 => ?_) (fun c_815 => ?_)
    · exact absurd c_815 (by omega)
    refine gk_aload_n C dL_refuses_818 rfl ?_
    refine gk_iconst C dL_refuses_819 ?_
    refine gk_iconst C dL_refuses_820 ?_
    refine gk_iconst C dL_refuses_821 ?_
    refine gk_iconst C dL_refuses_822 ?_
    refine gk_iload C dL_refuses_823 rfl ?_
    refine gk_callSH C o_L_act k_L_100 dL_refuses_825 (act_e hfl H35 (w := 1) (a := (0)) (b := (0)) (c := (1)) (d := (-2147483648)) (r := -7000002) rfl (by omega) (by omega) (by omega) (by omega) (by omega) hcl (rfA1 (by omega) (by omega))) rfl rfl ⟨Nat.le_of_ble_eq_true rfl, Nat.le_of_ble_eq_true rfl⟩ ⟨by show _ + 9 ≤ 1600; omega, by show _ + 418 ≤ 70000; omega⟩ (by exact Nat.le_of_ble_eq_true rfl) (fun v36 h36 p36 => ?_)
    obtain ⟨rfl, H36⟩ := p36
    dsimp only [gk_push]
    clear H35
    refine gk_ldc C cn_L_88 dL_refuses_828 ?_
    refine gk_icmp_ne C (tgt := 917) (by omega) (by omega) dL_refuses_830 (by decide) (fun c_830 => ?_) (fun c_830 => ?_)
    · exact absurd c_830 (by omega)
    refine gk_aload_n C dL_refuses_833 rfl ?_
    refine gk_iconst C dL_refuses_834 ?_
    refine gk_iconst C dL_refuses_835 ?_
    refine gk_iload C dL_refuses_836 rfl ?_
    refine gk_bipush C dL_refuses_838 (by decide) ?_
    refine gk_iconst C dL_refuses_840 ?_
    refine gk_callSH C o_L_act k_L_100 dL_refuses_841 (act_e hfl H36 (w := 3) (a := (0)) (b := (-2147483648)) (c := (9)) (d := (0)) (r := -7000001) rfl (by omega) (by omega) (by omega) (by omega) (by omega) hcl (rfJ3 H36.wf (by omega) (by omega))) rfl rfl ⟨Nat.le_of_ble_eq_true rfl, Nat.le_of_ble_eq_true rfl⟩ ⟨by show _ + 9 ≤ 1600; omega, by show _ + 418 ≤ 70000; omega⟩ (by exact Nat.le_of_ble_eq_true rfl) (fun v37 h37 p37 => ?_)
    obtain ⟨rfl, H37⟩ := p37
    dsimp only [gk_push]
    clear H36
    refine gk_ldc C cn_L_85 dL_refuses_844 ?_
    refine gk_icmp_ne C (tgt := 917) (by omega) (by omega) dL_refuses_846 (by decide) (fun c_846 => ?_) (fun c_846 => ?_)
    · exact absurd c_846 (by omega)
    refine gk_aload_n C dL_refuses_849 rfl ?_
    refine gk_iconst C dL_refuses_850 ?_
    refine gk_iconst C dL_refuses_851 ?_
    refine gk_iload C dL_refuses_852 rfl ?_
    refine gk_iconst C dL_refuses_854 ?_
    refine gk_icmp_ne C (tgt := 863) (by omega) (by omega) dL_refuses_855 (by decide) (fun c_855 => ?_) (fun c_855 => ?_)
    rotate_left
    · exact absurd c_855 (by omega)
    refine gk_iload C dL_refuses_863 rfl ?_
    refine gk_iconst C dL_refuses_865 ?_
    refine gk_iconst C dL_refuses_866 ?_
    refine gk_callSH C o_L_act k_L_100 dL_refuses_867 (act_e hfl H37 (w := 4) (a := (0)) (b := (-2147483648)) (c := (0)) (d := (0)) (r := -7000002) rfl (by omega) (by omega) (by omega) (by omega) (by omega) hcl (rfA4 (by omega) (by omega))) rfl rfl ⟨Nat.le_of_ble_eq_true rfl, Nat.le_of_ble_eq_true rfl⟩ ⟨by show _ + 9 ≤ 1600; omega, by show _ + 418 ≤ 70000; omega⟩ (by exact Nat.le_of_ble_eq_true rfl) (fun v38 h38 p38 => ?_)
    obtain ⟨rfl, H38⟩ := p38
    dsimp only [gk_push]
    clear H37
    refine gk_ldc C cn_L_88 dL_refuses_870 ?_
    refine gk_icmp_ne C (tgt := 917) (by omega) (by omega) dL_refuses_872 (by decide) (fun c_872 => ?_) (fun c_872 => ?_)
    · exact absurd c_872 (by omega)
    refine gk_aload_n C dL_refuses_875 rfl ?_
    refine gk_bipush C dL_refuses_876 (by decide) ?_
    refine gk_iconst C dL_refuses_878 ?_
    refine gk_iload C dL_refuses_879 rfl ?_
    refine gk_if_ne C (tgt := 889) (by omega) dL_refuses_881 (by decide) (fun c_881 => ?_) (fun c_881 => ?_)
    rotate_left
    · exact absurd c_881 (by omega)
    refine gk_iload C dL_refuses_889 rfl ?_
    refine gk_iconst C dL_refuses_891 ?_
    refine gk_icmp_ne C (tgt := 901) (by omega) (by omega) dL_refuses_892 (by decide) (fun c_892 => ?_) (fun c_892 => ?_)
    rotate_left
    · exact absurd c_892 (by omega)
    refine gk_iload C dL_refuses_901 rfl ?_
    refine gk_iconst C dL_refuses_903 ?_
    refine gk_iconst C dL_refuses_904 ?_
    refine gk_callSH C o_L_act k_L_100 dL_refuses_905 (act_e hfl H38 (w := 7) (a := (0)) (b := (-2147483648)) (c := (0)) (d := (0)) (r := -7000002) rfl (by omega) (by omega) (by omega) (by omega) (by omega) hcl (rfA7 (by omega) (by omega))) rfl rfl ⟨Nat.le_of_ble_eq_true rfl, Nat.le_of_ble_eq_true rfl⟩ ⟨by show _ + 9 ≤ 1600; omega, by show _ + 418 ≤ 70000; omega⟩ (by exact Nat.le_of_ble_eq_true rfl) (fun v39 h39 p39 => ?_)
    obtain ⟨rfl, H39⟩ := p39
    dsimp only [gk_push]
    clear H38
    refine gk_ldc C cn_L_88 dL_refuses_908 ?_
    refine gk_icmp_ne C (tgt := 917) (by omega) (by omega) dL_refuses_910 (by decide) (fun c_910 => ?_) (fun c_910 => ?_)
    · exact absurd c_910 (by omega)
    exact J1 _ _ _ H39 (by omega) (by omega)

set_option maxRecDepth 100000 in
set_option maxHeartbeats 8000000 in
theorem r_refuses {l : Launch} {Γ : GA} {x : Nat} {σ : ST} {h : Hp} {t p b : Int} (hfl : l.stackTraces = false) (H : HD Γ x σ h) (ht : t = ((σ.1.1 : Nat) : Int)) (hp : p = ((σ.2.2.1.1 : Nat) : Int)) (hb : b = ((σ.2.2.2.1.1 : Nat) : Int)) (hcl : σ.2.2.2.2 ≤ 10000) : Ct l Γ m_L_refuses [.ref x, iv t, iv p, iv b] h (fun v h' => v = some (iv 1) ∧ HD Γ x σ h') (fun _ _ => False) := by
  have wf := H.wf
  have ht1 : t ≤ 10 := by have := wf.1.1; omega
  have hp1 : p ≤ 8 := by have := wf.2.2.1.1; omega
  have hb1 : b ≤ 8 := by have := wf.2.2.2.1; omega
  have sb := sSpread_bd wf
  have tb := sTime_bd wf
  refine Ct.intro hfl (by decide +kernel) rfl (Nat.le_of_ble_eq_true rfl) ?_
  intro G C R T
  show G 0 [some (.ref x), some (iv t), some (iv p), some (iv b), none, none, none, none, none, none, none, none, none, none, none, none, none, none] [] h 0 0
  refine gk_ldc C cn_L_92 dL_refuses_0 ?_
  refine gk_istore_4 C rfl (by exact Nat.le_of_ble_eq_true rfl) dL_refuses_2 ?_
  refine gk_aload_n C dL_refuses_4 rfl ?_
  obtain ⟨fs1, ob1⟩ := H.obj
  refine gk_callV C o_X4_spread k_L_93 dL_refuses_5 (HC.dir (r := (sSpread σ).1) (σ2 := σ) (h_spread hfl H) rfl (by omega)) ob1 rfl rfl rfl ⟨Nat.le_of_ble_eq_true rfl, Nat.le_of_ble_eq_true rfl⟩ ⟨by show _ + 0 ≤ 1600; omega, by show _ + 0 ≤ 70000; omega⟩ (by exact Nat.le_of_ble_eq_true rfl) (fun _ _ z => z.elim) (fun v1 h1 p1 => ?_)
  obtain ⟨rfl, H1⟩ := p1
  dsimp only [gk_push]
  refine gk_istore_5 C rfl (by exact Nat.le_of_ble_eq_true rfl) dL_refuses_8 ?_
  refine gk_aload_n C dL_refuses_10 rfl ?_
  obtain ⟨fs2, ob2⟩ := H1.obj
  refine gk_callV C o_X4_time k_L_96 dL_refuses_11 (h_time hfl H1) ob2 rfl rfl rfl ⟨Nat.le_of_ble_eq_true rfl, Nat.le_of_ble_eq_true rfl⟩ ⟨by show _ + 0 ≤ 1600; omega, by show _ + 0 ≤ 70000; omega⟩ (by exact Nat.le_of_ble_eq_true rfl) (fun _ _ z => z.elim) (fun v2 h2 p2 => ?_)
  obtain ⟨rfl, H2⟩ := p2
  dsimp only [gk_push]
  refine gk_lstore_6 C rfl (by exact Nat.le_of_ble_eq_true rfl) dL_refuses_14 ?_
  refine gk_iconst C dL_refuses_16 ?_
  refine gk_istore_8 C rfl (by exact Nat.le_of_ble_eq_true rfl) dL_refuses_17 ?_
  refine rf_0 C hfl H2 ht hp hb ht1 hp1 hb1 hcl (Nat.le_refl _) (Nat.le_refl _) ?_
  skip
  intro u9_0 u10_0 u11_0 u12_0 u13_0 u14_0 u15_0 u16_0 u17_0 g0 k0 n0 I0 hk0 hn0
  refine rf_1 C hfl I0 ht hp hb ht1 hp1 hb1 hcl (by omega) (by omega) ?_
  clear I0
  intro u9_1 u10_1 u11_1 u12_1 u13_1 u14_1 u15_1 u16_1 u17_1 g1 k1 n1 I1 hk1 hn1
  refine rf_2 C hfl I1 ht hp hb ht1 hp1 hb1 hcl (by omega) (by omega) ?_
  clear I1
  intro u9_2 u10_2 u11_2 u12_2 u13_2 u14_2 u15_2 u16_2 u17_2 g2 k2 n2 I2 hk2 hn2
  refine rf_3 C hfl I2 ht hp hb ht1 hp1 hb1 hcl (by omega) (by omega) ?_
  clear I2
  intro u9_3 u10_3 u11_3 u12_3 u13_3 u14_3 u15_3 u16_3 u17_3 g3 k3 n3 I3 hk3 hn3
  refine gk_iload C dL_refuses_19 rfl ?_
  refine gk_iconst C dL_refuses_21 ?_
  refine gk_icmp_ge C (tgt := 1082) (by omega) (by omega) dL_refuses_22 (by decide) (fun c_22 => ?_) (fun c_22 => ?_)
  rotate_left
  · exact absurd c_22 (by omega)
  refine gk_aload_n C dL_refuses_1082 rfl ?_
  obtain ⟨fs3, ob3⟩ := I3.obj
  refine gk_callV C o_X4_spread k_L_93 dL_refuses_1083 (HC.dir (r := (sSpread σ).1) (σ2 := σ) (h_spread hfl I3) rfl (by omega)) ob3 rfl rfl rfl ⟨Nat.le_of_ble_eq_true rfl, Nat.le_of_ble_eq_true rfl⟩ ⟨by show _ + 0 ≤ 1600; omega, by show _ + 0 ≤ 70000; omega⟩ (by exact Nat.le_of_ble_eq_true rfl) (fun _ _ z => z.elim) (fun v3 h3 p3 => ?_)
  obtain ⟨rfl, H3⟩ := p3
  dsimp only [gk_push]
  refine gk_iload C dL_refuses_1086 rfl ?_
  refine gk_icmp_ne C (tgt := 1105) (by omega) (by omega) dL_refuses_1088 (by decide) (fun c_1088 => ?_) (fun c_1088 => ?_)
  · exact absurd c_1088 (by omega)
  refine gk_aload_n C dL_refuses_1091 rfl ?_
  obtain ⟨fs4, ob4⟩ := H3.obj
  refine gk_callV C o_X4_time k_L_96 dL_refuses_1092 (h_time hfl H3) ob4 rfl rfl rfl ⟨Nat.le_of_ble_eq_true rfl, Nat.le_of_ble_eq_true rfl⟩ ⟨by show _ + 0 ≤ 1600; omega, by show _ + 0 ≤ 70000; omega⟩ (by exact Nat.le_of_ble_eq_true rfl) (fun _ _ z => z.elim) (fun v4 h4 p4 => ?_)
  obtain ⟨rfl, H4⟩ := p4
  dsimp only [gk_push]
  refine gk_lload C dL_refuses_1095 rfl ?_
  refine gk_lcmp C (by omega) (by omega) dL_refuses_1097 (fun z5 z5a z5b z5c => ?_)
  refine gk_if_ne C (tgt := 1105) (by omega) dL_refuses_1098 (by decide) (fun c_1098 => ?_) (fun c_1098 => ?_)
  · exact absurd c_1098 (by omega)
  refine gk_iconst C dL_refuses_1101 ?_
  refine gk_goto C (tgt := 1106) dL_refuses_1102 (by decide) ?_
  refine (R _ _ _ _ _ (by show _ ≤ 1600; omega) (by show _ ≤ 70000; omega)).2.1 _ rfl (by omega) dL_refuses_1106 ?_
  exact ⟨rfl, H4⟩
