/-! the law's cases -/
set_option maxRecDepth 100000 in
set_option maxHeartbeats 4000000 in
theorem lc_tune {l : Launch} {Γ : GA} {nm : String} {G : GP} {sb ls : Nat} {xs : Nat → Int32} (CL : CxL l Γ (m_law nm) G sb ls xs) (hfl : l.stackTraces = false) {x o od c : Nat} {i : Int} {k n : Nat} {X W : Hp} {adm : Nat → Nat} {s : MS} {f : Int → Int} {g : Int → UInt64} {u0 v0 : Option Value} {MP : Int → MS → Prop} (IMm : IM adm) (hW : W o = some (aL 1 f)) (hV : W od = some (aD 1 g)) (hne : o ≠ od) (hdX : hdj X (hU (HM adm s) W)) (hdm : hdj (HM adm s) W) (hi : 0 ≤ i ∧ i + 5 ≤ ls) (hls : ls ≤ 2560) (hk : k + 100 ≤ 601024 ∧ n + 2000 ≤ 7293033)
    (hw : CtH l Γ m_L_tune hh_L_tune [.ref x, iv (xz xs (i + 1)), .ref o] (hU X (hU (HM adm s) W)) (fun v h' => ∃ (kk : Int) (X2 : Hp) (f2 : Int → Int), v = some (iv kk) ∧ (0 ≤ kk ∧ kk ≤ 3) ∧ (∀ b s2, MP b s2 → s2 39 0 = kk ∧ (kk = 0 → f2 0 = b ∧ (-2147483648 ≤ b ∧ b ≤ 2147483647)) ∧ LX Γ x (c + 1) X2 s2) ∧ hdj X2 (hU (HM adm s) W) ∧ h' = hU X2 (hset (hU (HM adm s) W) o (aL 1 f2))))
    (hr : Ct l Γ m_X5_tune [.ref (adm 40), iv (xz xs (i + 1))] (HM adm s) (fun v h' => ∃ (b : Int) (s2 : MS), v = some (iv b) ∧ h' = HM adm s2 ∧ MP b s2) (fun _ _ => False))
    (nx : ∀ (X2 : Hp) (s2 : MS) (W2 : Hp) (f2 : Int → Int) (g2 : Int → UInt64) (k2 n2 : Nat) (u v : Option Value), LX Γ x (c + 1) X2 s2 → W2 o = some (aL 1 f2) → W2 od = some (aD 1 g2) → hdj X2 (hU (HM adm s2) W2) → hdj (HM adm s2) W2 → k2 ≤ k + 40 → n2 ≤ n + 1000 → G 1733 [some (.ref sb), some (.ref x), some (.ref (adm 40)), some (.ref o), some (.ref od), some (iv i), u, v] [] (hU X2 (hU (HM adm s2) W2)) k2 n2) :
    G 160 [some (.ref sb), some (.ref x), some (.ref (adm 40)), some (.ref o), some (.ref od), some (iv i), u0, v0] [] (hU X (hU (HM adm s) W)) k n := by
  have C := CL.cx
  have r1 := xz_rng xs (i + 1)
  refine gk_aload_n C dL_law_160 rfl ?_
  refine gk_aload_n C dL_law_161 rfl ?_
  refine gk_iload C dL_law_162 rfl ?_
  refine gk_iconst C dL_law_164 ?_
  refine gk_iadd C dL_law_165 ?_
  refine gk_sld CL dL_law_166 (by omega) (by omega) ?_
  refine gk_aload_n C dL_law_167 rfl ?_
  refine gk_callSH C o_L_tune k_L_93 dL_law_168 hw rfl rfl ⟨Nat.le_of_ble_eq_true rfl, Nat.le_of_ble_eq_true rfl⟩ ⟨by show k + 9 ≤ 601024; omega, by show n + 418 ≤ 7293033; omega⟩ (by exact Nat.le_of_ble_eq_true rfl) (fun v_168 h_168 p_168 => ?_)
  obtain ⟨kk, X2, f2, rfl, hkk, hrel, hd2, rfl⟩ := p_168
  dsimp only [gk_push]
  have hd3 := hdj_set (e := aL 1 f2) hd2 (hU_r hdm hW)
  rw [hU_setR (hdm.no hW)] at hd3
  have hdm3 := hdj_set (e := aL 1 f2) hdm hW
  refine gi_cast (congrArg (hU X2) (hU_setR (hdm.no hW))) ?_
  refine gk_istore_6 C rfl (by exact Nat.le_of_ble_eq_true rfl) dL_law_171 ?_
  refine gk_aload_n C dL_law_173 rfl ?_
  refine gk_aload_n C dL_law_174 rfl ?_
  refine gk_iload C dL_law_175 rfl ?_
  refine gk_iconst C dL_law_177 ?_
  refine gk_iadd C dL_law_178 ?_
  refine gk_sld CL dL_law_179 (by omega) (by omega) ?_
  refine gk_callV C o_X5_tune k_L_98 dL_law_180 (Ct.frM hd3 hdm3 hr) (hU_r hd3 (hU_l (mo_obj IMm))) rfl rfl rfl ⟨Nat.le_of_ble_eq_true rfl, Nat.le_of_ble_eq_true rfl⟩ ⟨by show k + 9 + 0 ≤ 601024; omega, by show n + 418 + 0 ≤ 7293033; omega⟩ (by exact Nat.le_of_ble_eq_true rfl) (fun _ _ z => by obtain ⟨_, z, _⟩ := z; exact z.elim) (fun v_180 h_180 p_180 => ?_)
  obtain ⟨h4, ⟨b0, s2, rfl, rfl, hm⟩, hd4, hdm4, rfl⟩ := p_180
  dsimp only [gk_push]
  obtain ⟨y1, y2, y3⟩ := hrel b0 s2 hm
  refine gk_istore_7 C rfl (by exact Nat.le_of_ble_eq_true rfl) dL_law_183 ?_
  refine gk_aload_n C dL_law_185 rfl ?_
  refine gk_callV C o_X5_thrown k_L_99 dL_law_186 (Ct.frM hd4 hdm4 (m_thrown hfl IMm)) (hU_r hd4 (hU_l (mo_obj IMm))) rfl rfl rfl ⟨Nat.le_of_ble_eq_true rfl, Nat.le_of_ble_eq_true rfl⟩ ⟨by show k + 9 + 0 + 0 ≤ 601024; omega, by show n + 418 + 0 + 0 ≤ 7293033; omega⟩ (by exact Nat.le_of_ble_eq_true rfl) (fun _ _ z => by obtain ⟨_, z, _⟩ := z; exact z.elim) (fun v_186 h_186 p_186 => ?_)
  obtain ⟨h5, ⟨rfl, rfl⟩, hd5, hdm5, rfl⟩ := p_186
  dsimp only [gk_push]
  rw [y1]
  refine gk_iload C dL_law_189 rfl ?_
  refine gk_icmp_eq C (tgt := 196) (by omega) (by omega) dL_law_191 (by decide) (fun c_191 => ?_) (fun c_191 => ?_)
  · refine gk_iload C dL_law_196 rfl ?_
    refine gk_if_ne C (tgt := 213) (by omega) dL_law_198 (by decide) (fun c_198 => ?_) (fun c_198 => ?_)
    · refine gk_goto C (tgt := 1733) dL_law_213 (by decide) ?_
      exact nx X2 s2 _ f2 g _ _ _ _ y3 hset_eq ((hset_ne (Ne.symm hne)).trans hV) hd5 hdm5 (by show k + 9 + 0 + 0 ≤ k + 40; omega) (by show n + 418 + 0 + 0 ≤ n + 1000; omega)
    · obtain ⟨y4, y5⟩ := y2 c_198
      refine gk_aload_n C dL_law_201 rfl ?_
      refine gk_iconst C dL_law_202 ?_
      refine gk_lald C dL_law_203 (hU_r hd5 (hU_r hdm5 hset_eq)) (by omega) (by omega) ?_
      rw [y4]
      refine gk_iload C dL_law_204 rfl ?_
      refine gk_i2l C (by omega) dL_law_206 ?_
      refine gk_lcmp C (by omega) (by omega) dL_law_207 (fun zz z1 z3 z4 => ?_)
      refine gk_if_eq C (tgt := 213) (by omega) dL_law_208 (by decide) (fun c_208 => ?_) (fun c_208 => ?_)
      · refine gk_goto C (tgt := 1733) dL_law_213 (by decide) ?_
        exact nx X2 s2 _ f2 g _ _ _ _ y3 hset_eq ((hset_ne (Ne.symm hne)).trans hV) hd5 hdm5 (by show k + 9 + 0 + 0 ≤ k + 40; omega) (by show n + 418 + 0 + 0 ≤ n + 1000; omega)
      · exact absurd (z3.mpr (by omega)) c_208
  · exact absurd rfl c_191

set_option maxRecDepth 100000 in
set_option maxHeartbeats 4000000 in
theorem lc_note {l : Launch} {Γ : GA} {nm : String} {G : GP} {sb ls : Nat} {xs : Nat → Int32} (CL : CxL l Γ (m_law nm) G sb ls xs) (hfl : l.stackTraces = false) {x o od c : Nat} {i : Int} {k n : Nat} {X W : Hp} {adm : Nat → Nat} {s : MS} {f : Int → Int} {g : Int → UInt64} {u0 v0 : Option Value} {MP : Int → MS → Prop} (IMm : IM adm) (hW : W o = some (aL 1 f)) (hV : W od = some (aD 1 g)) (hne : o ≠ od) (hdX : hdj X (hU (HM adm s) W)) (hdm : hdj (HM adm s) W) (hi : 0 ≤ i ∧ i + 5 ≤ ls) (hls : ls ≤ 2560) (hk : k + 100 ≤ 601024 ∧ n + 2000 ≤ 7293033)
    (hw : CtH l Γ m_L_note hh_L_note [.ref x, iv (xz xs (i + 1)), iv (xz xs (i + 2)), iv (xz xs (i + 3)), iv (xz xs (i + 4)), .ref o] (hU X (hU (HM adm s) W)) (fun v h' => ∃ (kk : Int) (X2 : Hp) (f2 : Int → Int), v = some (iv kk) ∧ (0 ≤ kk ∧ kk ≤ 3) ∧ (∀ b s2, MP b s2 → s2 39 0 = kk ∧ (kk = 0 → f2 0 = b ∧ (-2147483648 ≤ b ∧ b ≤ 2147483647)) ∧ LX Γ x (c + 1) X2 s2) ∧ hdj X2 (hU (HM adm s) W) ∧ h' = hU X2 (hset (hU (HM adm s) W) o (aL 1 f2))))
    (hr : Ct l Γ m_X5_note [.ref (adm 40), iv (xz xs (i + 1)), iv (xz xs (i + 2)), iv (xz xs (i + 3)), iv (xz xs (i + 4))] (HM adm s) (fun v h' => ∃ (b : Int) (s2 : MS), v = some (iv b) ∧ h' = HM adm s2 ∧ MP b s2) (fun _ _ => False))
    (nx : ∀ (X2 : Hp) (s2 : MS) (W2 : Hp) (f2 : Int → Int) (g2 : Int → UInt64) (k2 n2 : Nat) (u v : Option Value), LX Γ x (c + 1) X2 s2 → W2 o = some (aL 1 f2) → W2 od = some (aD 1 g2) → hdj X2 (hU (HM adm s2) W2) → hdj (HM adm s2) W2 → k2 ≤ k + 40 → n2 ≤ n + 1000 → G 1733 [some (.ref sb), some (.ref x), some (.ref (adm 40)), some (.ref o), some (.ref od), some (iv i), u, v] [] (hU X2 (hU (HM adm s2) W2)) k2 n2) :
    G 216 [some (.ref sb), some (.ref x), some (.ref (adm 40)), some (.ref o), some (.ref od), some (iv i), u0, v0] [] (hU X (hU (HM adm s) W)) k n := by
  have C := CL.cx
  have r1 := xz_rng xs (i + 1)
  have r2 := xz_rng xs (i + 2)
  have r3 := xz_rng xs (i + 3)
  have r4 := xz_rng xs (i + 4)
  refine gk_aload_n C dL_law_216 rfl ?_
  refine gk_aload_n C dL_law_217 rfl ?_
  refine gk_iload C dL_law_218 rfl ?_
  refine gk_iconst C dL_law_220 ?_
  refine gk_iadd C dL_law_221 ?_
  refine gk_sld CL dL_law_222 (by omega) (by omega) ?_
  refine gk_aload_n C dL_law_223 rfl ?_
  refine gk_iload C dL_law_224 rfl ?_
  refine gk_iconst C dL_law_226 ?_
  refine gk_iadd C dL_law_227 ?_
  refine gk_sld CL dL_law_228 (by omega) (by omega) ?_
  refine gk_aload_n C dL_law_229 rfl ?_
  refine gk_iload C dL_law_230 rfl ?_
  refine gk_iconst C dL_law_232 ?_
  refine gk_iadd C dL_law_233 ?_
  refine gk_sld CL dL_law_234 (by omega) (by omega) ?_
  refine gk_aload_n C dL_law_235 rfl ?_
  refine gk_iload C dL_law_236 rfl ?_
  refine gk_iconst C dL_law_238 ?_
  refine gk_iadd C dL_law_239 ?_
  refine gk_sld CL dL_law_240 (by omega) (by omega) ?_
  refine gk_aload_n C dL_law_241 rfl ?_
  refine gk_callSH C o_L_note k_L_102 dL_law_242 hw rfl rfl ⟨Nat.le_of_ble_eq_true rfl, Nat.le_of_ble_eq_true rfl⟩ ⟨by show k + 3 ≤ 601024; omega, by show n + 18 ≤ 7293033; omega⟩ (by exact Nat.le_of_ble_eq_true rfl) (fun v_242 h_242 p_242 => ?_)
  obtain ⟨kk, X2, f2, rfl, hkk, hrel, hd2, rfl⟩ := p_242
  dsimp only [gk_push]
  have hd3 := hdj_set (e := aL 1 f2) hd2 (hU_r hdm hW)
  rw [hU_setR (hdm.no hW)] at hd3
  have hdm3 := hdj_set (e := aL 1 f2) hdm hW
  refine gi_cast (congrArg (hU X2) (hU_setR (hdm.no hW))) ?_
  refine gk_istore_6 C rfl (by exact Nat.le_of_ble_eq_true rfl) dL_law_245 ?_
  refine gk_aload_n C dL_law_247 rfl ?_
  refine gk_aload_n C dL_law_248 rfl ?_
  refine gk_iload C dL_law_249 rfl ?_
  refine gk_iconst C dL_law_251 ?_
  refine gk_iadd C dL_law_252 ?_
  refine gk_sld CL dL_law_253 (by omega) (by omega) ?_
  refine gk_aload_n C dL_law_254 rfl ?_
  refine gk_iload C dL_law_255 rfl ?_
  refine gk_iconst C dL_law_257 ?_
  refine gk_iadd C dL_law_258 ?_
  refine gk_sld CL dL_law_259 (by omega) (by omega) ?_
  refine gk_aload_n C dL_law_260 rfl ?_
  refine gk_iload C dL_law_261 rfl ?_
  refine gk_iconst C dL_law_263 ?_
  refine gk_iadd C dL_law_264 ?_
  refine gk_sld CL dL_law_265 (by omega) (by omega) ?_
  refine gk_aload_n C dL_law_266 rfl ?_
  refine gk_iload C dL_law_267 rfl ?_
  refine gk_iconst C dL_law_269 ?_
  refine gk_iadd C dL_law_270 ?_
  refine gk_sld CL dL_law_271 (by omega) (by omega) ?_
  refine gk_callV C o_X5_note k_L_105 dL_law_272 (Ct.frM hd3 hdm3 hr) (hU_r hd3 (hU_l (mo_obj IMm))) rfl rfl rfl ⟨Nat.le_of_ble_eq_true rfl, Nat.le_of_ble_eq_true rfl⟩ ⟨by show k + 3 + 0 ≤ 601024; omega, by show n + 18 + 0 ≤ 7293033; omega⟩ (by exact Nat.le_of_ble_eq_true rfl) (fun _ _ z => by obtain ⟨_, z, _⟩ := z; exact z.elim) (fun v_272 h_272 p_272 => ?_)
  obtain ⟨h4, ⟨b0, s2, rfl, rfl, hm⟩, hd4, hdm4, rfl⟩ := p_272
  dsimp only [gk_push]
  obtain ⟨y1, y2, y3⟩ := hrel b0 s2 hm
  refine gk_istore_7 C rfl (by exact Nat.le_of_ble_eq_true rfl) dL_law_275 ?_
  refine gk_aload_n C dL_law_277 rfl ?_
  refine gk_callV C o_X5_thrown k_L_99 dL_law_278 (Ct.frM hd4 hdm4 (m_thrown hfl IMm)) (hU_r hd4 (hU_l (mo_obj IMm))) rfl rfl rfl ⟨Nat.le_of_ble_eq_true rfl, Nat.le_of_ble_eq_true rfl⟩ ⟨by show k + 3 + 0 + 0 ≤ 601024; omega, by show n + 18 + 0 + 0 ≤ 7293033; omega⟩ (by exact Nat.le_of_ble_eq_true rfl) (fun _ _ z => by obtain ⟨_, z, _⟩ := z; exact z.elim) (fun v_278 h_278 p_278 => ?_)
  obtain ⟨h5, ⟨rfl, rfl⟩, hd5, hdm5, rfl⟩ := p_278
  dsimp only [gk_push]
  rw [y1]
  refine gk_iload C dL_law_281 rfl ?_
  refine gk_icmp_eq C (tgt := 288) (by omega) (by omega) dL_law_283 (by decide) (fun c_283 => ?_) (fun c_283 => ?_)
  · refine gk_iload C dL_law_288 rfl ?_
    refine gk_if_ne C (tgt := 305) (by omega) dL_law_290 (by decide) (fun c_290 => ?_) (fun c_290 => ?_)
    · refine gk_goto C (tgt := 1733) dL_law_305 (by decide) ?_
      exact nx X2 s2 _ f2 g _ _ _ _ y3 hset_eq ((hset_ne (Ne.symm hne)).trans hV) hd5 hdm5 (by show k + 3 + 0 + 0 ≤ k + 40; omega) (by show n + 18 + 0 + 0 ≤ n + 1000; omega)
    · obtain ⟨y4, y5⟩ := y2 c_290
      refine gk_aload_n C dL_law_293 rfl ?_
      refine gk_iconst C dL_law_294 ?_
      refine gk_lald C dL_law_295 (hU_r hd5 (hU_r hdm5 hset_eq)) (by omega) (by omega) ?_
      rw [y4]
      refine gk_iload C dL_law_296 rfl ?_
      refine gk_i2l C (by omega) dL_law_298 ?_
      refine gk_lcmp C (by omega) (by omega) dL_law_299 (fun zz z1 z3 z4 => ?_)
      refine gk_if_eq C (tgt := 305) (by omega) dL_law_300 (by decide) (fun c_300 => ?_) (fun c_300 => ?_)
      · refine gk_goto C (tgt := 1733) dL_law_305 (by decide) ?_
        exact nx X2 s2 _ f2 g _ _ _ _ y3 hset_eq ((hset_ne (Ne.symm hne)).trans hV) hd5 hdm5 (by show k + 3 + 0 + 0 ≤ k + 40; omega) (by show n + 18 + 0 + 0 ≤ n + 1000; omega)
      · exact absurd (z3.mpr (by omega)) c_300
  · exact absurd rfl c_283

set_option maxRecDepth 100000 in
set_option maxHeartbeats 4000000 in
theorem lc_part {l : Launch} {Γ : GA} {nm : String} {G : GP} {sb ls : Nat} {xs : Nat → Int32} (CL : CxL l Γ (m_law nm) G sb ls xs) (hfl : l.stackTraces = false) {x o od c : Nat} {i : Int} {k n : Nat} {X W : Hp} {adm : Nat → Nat} {s : MS} {f : Int → Int} {g : Int → UInt64} {u0 v0 : Option Value} {MP : Int → MS → Prop} (IMm : IM adm) (hW : W o = some (aL 1 f)) (hV : W od = some (aD 1 g)) (hne : o ≠ od) (hdX : hdj X (hU (HM adm s) W)) (hdm : hdj (HM adm s) W) (hi : 0 ≤ i ∧ i + 5 ≤ ls) (hls : ls ≤ 2560) (hk : k + 100 ≤ 601024 ∧ n + 2000 ≤ 7293033) {bz : Int} (hbz : (xz xs (i + 2) = 0 ∧ bz = 0) ∨ (¬ xz xs (i + 2) = 0 ∧ bz = 1))
    (hw : CtH l Γ m_L_part hh_L_part [.ref x, iv (xz xs (i + 1)), iv (bz), .ref o] (hU X (hU (HM adm s) W)) (fun v h' => ∃ (kk : Int) (X2 : Hp) (f2 : Int → Int), v = some (iv kk) ∧ (0 ≤ kk ∧ kk ≤ 3) ∧ (∀ b s2, MP b s2 → s2 39 0 = kk ∧ (kk = 0 → f2 0 = b ∧ (-2147483648 ≤ b ∧ b ≤ 2147483647)) ∧ LX Γ x (c + 1) X2 s2) ∧ hdj X2 (hU (HM adm s) W) ∧ h' = hU X2 (hset (hU (HM adm s) W) o (aL 1 f2))))
    (hr : Ct l Γ m_X5_part [.ref (adm 40), iv (xz xs (i + 1)), iv (bz)] (HM adm s) (fun v h' => ∃ (b : Int) (s2 : MS), v = some (iv b) ∧ h' = HM adm s2 ∧ MP b s2) (fun _ _ => False))
    (nx : ∀ (X2 : Hp) (s2 : MS) (W2 : Hp) (f2 : Int → Int) (g2 : Int → UInt64) (k2 n2 : Nat) (u v : Option Value), LX Γ x (c + 1) X2 s2 → W2 o = some (aL 1 f2) → W2 od = some (aD 1 g2) → hdj X2 (hU (HM adm s2) W2) → hdj (HM adm s2) W2 → k2 ≤ k + 40 → n2 ≤ n + 1000 → G 1733 [some (.ref sb), some (.ref x), some (.ref (adm 40)), some (.ref o), some (.ref od), some (iv i), u, v] [] (hU X2 (hU (HM adm s2) W2)) k2 n2) :
    G 308 [some (.ref sb), some (.ref x), some (.ref (adm 40)), some (.ref o), some (.ref od), some (iv i), u0, v0] [] (hU X (hU (HM adm s) W)) k n := by
  have C := CL.cx
  have r1 := xz_rng xs (i + 1)
  have r2 := xz_rng xs (i + 2)
  rcases hbz with ⟨hb0, rfl⟩ | ⟨hb0, rfl⟩
  · refine gk_aload_n C dL_law_308 rfl ?_
    refine gk_aload_n C dL_law_309 rfl ?_
    refine gk_iload C dL_law_310 rfl ?_
    refine gk_iconst C dL_law_312 ?_
    refine gk_iadd C dL_law_313 ?_
    refine gk_sld CL dL_law_314 (by omega) (by omega) ?_
    refine gk_aload_n C dL_law_315 rfl ?_
    refine gk_iload C dL_law_316 rfl ?_
    refine gk_iconst C dL_law_318 ?_
    refine gk_iadd C dL_law_319 ?_
    refine gk_sld CL dL_law_320 (by omega) (by omega) ?_
    refine gk_if_eq C (tgt := 328) (by omega) dL_law_321 (by decide) (fun c_321 => ?_) (fun c_321 => ?_)
    · refine gk_iconst C dL_law_328 ?_
      refine gk_aload_n C dL_law_329 rfl ?_
      refine gk_callSH C o_L_part k_L_106 dL_law_330 hw rfl rfl ⟨Nat.le_of_ble_eq_true rfl, Nat.le_of_ble_eq_true rfl⟩ ⟨by show k + 2 ≤ 601024; omega, by show n + 12 ≤ 7293033; omega⟩ (by exact Nat.le_of_ble_eq_true rfl) (fun v_330 h_330 p_330 => ?_)
      obtain ⟨kk, X2, f2, rfl, hkk, hrel, hd2, rfl⟩ := p_330
      dsimp only [gk_push]
      have hd3 := hdj_set (e := aL 1 f2) hd2 (hU_r hdm hW)
      rw [hU_setR (hdm.no hW)] at hd3
      have hdm3 := hdj_set (e := aL 1 f2) hdm hW
      refine gi_cast (congrArg (hU X2) (hU_setR (hdm.no hW))) ?_
      refine gk_istore_6 C rfl (by exact Nat.le_of_ble_eq_true rfl) dL_law_333 ?_
      refine gk_aload_n C dL_law_335 rfl ?_
      refine gk_aload_n C dL_law_336 rfl ?_
      refine gk_iload C dL_law_337 rfl ?_
      refine gk_iconst C dL_law_339 ?_
      refine gk_iadd C dL_law_340 ?_
      refine gk_sld CL dL_law_341 (by omega) (by omega) ?_
      refine gk_aload_n C dL_law_342 rfl ?_
      refine gk_iload C dL_law_343 rfl ?_
      refine gk_iconst C dL_law_345 ?_
      refine gk_iadd C dL_law_346 ?_
      refine gk_sld CL dL_law_347 (by omega) (by omega) ?_
      refine gk_if_eq C (tgt := 355) (by omega) dL_law_348 (by decide) (fun c_348 => ?_) (fun c_348 => ?_)
      · refine gk_iconst C dL_law_355 ?_
        refine gk_callV C o_X5_part k_L_109 dL_law_356 (Ct.frM hd3 hdm3 hr) (hU_r hd3 (hU_l (mo_obj IMm))) rfl rfl rfl ⟨Nat.le_of_ble_eq_true rfl, Nat.le_of_ble_eq_true rfl⟩ ⟨by show k + 2 + 0 ≤ 601024; omega, by show n + 12 + 0 ≤ 7293033; omega⟩ (by exact Nat.le_of_ble_eq_true rfl) (fun _ _ z => by obtain ⟨_, z, _⟩ := z; exact z.elim) (fun v_356 h_356 p_356 => ?_)
        obtain ⟨h4, ⟨b0, s2, rfl, rfl, hm⟩, hd4, hdm4, rfl⟩ := p_356
        dsimp only [gk_push]
        obtain ⟨y1, y2, y3⟩ := hrel b0 s2 hm
        refine gk_istore_7 C rfl (by exact Nat.le_of_ble_eq_true rfl) dL_law_359 ?_
        refine gk_aload_n C dL_law_361 rfl ?_
        refine gk_callV C o_X5_thrown k_L_99 dL_law_362 (Ct.frM hd4 hdm4 (m_thrown hfl IMm)) (hU_r hd4 (hU_l (mo_obj IMm))) rfl rfl rfl ⟨Nat.le_of_ble_eq_true rfl, Nat.le_of_ble_eq_true rfl⟩ ⟨by show k + 2 + 0 + 0 ≤ 601024; omega, by show n + 12 + 0 + 0 ≤ 7293033; omega⟩ (by exact Nat.le_of_ble_eq_true rfl) (fun _ _ z => by obtain ⟨_, z, _⟩ := z; exact z.elim) (fun v_362 h_362 p_362 => ?_)
        obtain ⟨h5, ⟨rfl, rfl⟩, hd5, hdm5, rfl⟩ := p_362
        dsimp only [gk_push]
        rw [y1]
        refine gk_iload C dL_law_365 rfl ?_
        refine gk_icmp_eq C (tgt := 372) (by omega) (by omega) dL_law_367 (by decide) (fun c_367 => ?_) (fun c_367 => ?_)
        · refine gk_iload C dL_law_372 rfl ?_
          refine gk_if_ne C (tgt := 389) (by omega) dL_law_374 (by decide) (fun c_374 => ?_) (fun c_374 => ?_)
          · refine gk_goto C (tgt := 1733) dL_law_389 (by decide) ?_
            exact nx X2 s2 _ f2 g _ _ _ _ y3 hset_eq ((hset_ne (Ne.symm hne)).trans hV) hd5 hdm5 (by show k + 2 + 0 + 0 ≤ k + 40; omega) (by show n + 12 + 0 + 0 ≤ n + 1000; omega)
          · obtain ⟨y4, y5⟩ := y2 c_374
            refine gk_aload_n C dL_law_377 rfl ?_
            refine gk_iconst C dL_law_378 ?_
            refine gk_lald C dL_law_379 (hU_r hd5 (hU_r hdm5 hset_eq)) (by omega) (by omega) ?_
            rw [y4]
            refine gk_iload C dL_law_380 rfl ?_
            refine gk_i2l C (by omega) dL_law_382 ?_
            refine gk_lcmp C (by omega) (by omega) dL_law_383 (fun zz z1 z3 z4 => ?_)
            refine gk_if_eq C (tgt := 389) (by omega) dL_law_384 (by decide) (fun c_384 => ?_) (fun c_384 => ?_)
            · refine gk_goto C (tgt := 1733) dL_law_389 (by decide) ?_
              exact nx X2 s2 _ f2 g _ _ _ _ y3 hset_eq ((hset_ne (Ne.symm hne)).trans hV) hd5 hdm5 (by show k + 2 + 0 + 0 ≤ k + 40; omega) (by show n + 12 + 0 + 0 ≤ n + 1000; omega)
            · exact absurd (z3.mpr (by omega)) c_384
        · exact absurd rfl c_367
      · exact absurd hb0 c_348
    · exact absurd hb0 c_321
  · refine gk_aload_n C dL_law_308 rfl ?_
    refine gk_aload_n C dL_law_309 rfl ?_
    refine gk_iload C dL_law_310 rfl ?_
    refine gk_iconst C dL_law_312 ?_
    refine gk_iadd C dL_law_313 ?_
    refine gk_sld CL dL_law_314 (by omega) (by omega) ?_
    refine gk_aload_n C dL_law_315 rfl ?_
    refine gk_iload C dL_law_316 rfl ?_
    refine gk_iconst C dL_law_318 ?_
    refine gk_iadd C dL_law_319 ?_
    refine gk_sld CL dL_law_320 (by omega) (by omega) ?_
    refine gk_if_eq C (tgt := 328) (by omega) dL_law_321 (by decide) (fun c_321 => ?_) (fun c_321 => ?_)
    · exact absurd c_321 hb0
    · refine gk_iconst C dL_law_324 ?_
      refine gk_goto C (tgt := 329) dL_law_325 (by decide) ?_
      refine gk_aload_n C dL_law_329 rfl ?_
      refine gk_callSH C o_L_part k_L_106 dL_law_330 hw rfl rfl ⟨Nat.le_of_ble_eq_true rfl, Nat.le_of_ble_eq_true rfl⟩ ⟨by show k + 2 ≤ 601024; omega, by show n + 12 ≤ 7293033; omega⟩ (by exact Nat.le_of_ble_eq_true rfl) (fun v_330 h_330 p_330 => ?_)
      obtain ⟨kk, X2, f2, rfl, hkk, hrel, hd2, rfl⟩ := p_330
      dsimp only [gk_push]
      have hd3 := hdj_set (e := aL 1 f2) hd2 (hU_r hdm hW)
      rw [hU_setR (hdm.no hW)] at hd3
      have hdm3 := hdj_set (e := aL 1 f2) hdm hW
      refine gi_cast (congrArg (hU X2) (hU_setR (hdm.no hW))) ?_
      refine gk_istore_6 C rfl (by exact Nat.le_of_ble_eq_true rfl) dL_law_333 ?_
      refine gk_aload_n C dL_law_335 rfl ?_
      refine gk_aload_n C dL_law_336 rfl ?_
      refine gk_iload C dL_law_337 rfl ?_
      refine gk_iconst C dL_law_339 ?_
      refine gk_iadd C dL_law_340 ?_
      refine gk_sld CL dL_law_341 (by omega) (by omega) ?_
      refine gk_aload_n C dL_law_342 rfl ?_
      refine gk_iload C dL_law_343 rfl ?_
      refine gk_iconst C dL_law_345 ?_
      refine gk_iadd C dL_law_346 ?_
      refine gk_sld CL dL_law_347 (by omega) (by omega) ?_
      refine gk_if_eq C (tgt := 355) (by omega) dL_law_348 (by decide) (fun c_348 => ?_) (fun c_348 => ?_)
      · exact absurd c_348 hb0
      · refine gk_iconst C dL_law_351 ?_
        refine gk_goto C (tgt := 356) dL_law_352 (by decide) ?_
        refine gk_callV C o_X5_part k_L_109 dL_law_356 (Ct.frM hd3 hdm3 hr) (hU_r hd3 (hU_l (mo_obj IMm))) rfl rfl rfl ⟨Nat.le_of_ble_eq_true rfl, Nat.le_of_ble_eq_true rfl⟩ ⟨by show k + 2 + 0 ≤ 601024; omega, by show n + 12 + 0 ≤ 7293033; omega⟩ (by exact Nat.le_of_ble_eq_true rfl) (fun _ _ z => by obtain ⟨_, z, _⟩ := z; exact z.elim) (fun v_356 h_356 p_356 => ?_)
        obtain ⟨h4, ⟨b0, s2, rfl, rfl, hm⟩, hd4, hdm4, rfl⟩ := p_356
        dsimp only [gk_push]
        obtain ⟨y1, y2, y3⟩ := hrel b0 s2 hm
        refine gk_istore_7 C rfl (by exact Nat.le_of_ble_eq_true rfl) dL_law_359 ?_
        refine gk_aload_n C dL_law_361 rfl ?_
        refine gk_callV C o_X5_thrown k_L_99 dL_law_362 (Ct.frM hd4 hdm4 (m_thrown hfl IMm)) (hU_r hd4 (hU_l (mo_obj IMm))) rfl rfl rfl ⟨Nat.le_of_ble_eq_true rfl, Nat.le_of_ble_eq_true rfl⟩ ⟨by show k + 2 + 0 + 0 ≤ 601024; omega, by show n + 12 + 0 + 0 ≤ 7293033; omega⟩ (by exact Nat.le_of_ble_eq_true rfl) (fun _ _ z => by obtain ⟨_, z, _⟩ := z; exact z.elim) (fun v_362 h_362 p_362 => ?_)
        obtain ⟨h5, ⟨rfl, rfl⟩, hd5, hdm5, rfl⟩ := p_362
        dsimp only [gk_push]
        rw [y1]
        refine gk_iload C dL_law_365 rfl ?_
        refine gk_icmp_eq C (tgt := 372) (by omega) (by omega) dL_law_367 (by decide) (fun c_367 => ?_) (fun c_367 => ?_)
        · refine gk_iload C dL_law_372 rfl ?_
          refine gk_if_ne C (tgt := 389) (by omega) dL_law_374 (by decide) (fun c_374 => ?_) (fun c_374 => ?_)
          · refine gk_goto C (tgt := 1733) dL_law_389 (by decide) ?_
            exact nx X2 s2 _ f2 g _ _ _ _ y3 hset_eq ((hset_ne (Ne.symm hne)).trans hV) hd5 hdm5 (by show k + 2 + 0 + 0 ≤ k + 40; omega) (by show n + 12 + 0 + 0 ≤ n + 1000; omega)
          · obtain ⟨y4, y5⟩ := y2 c_374
            refine gk_aload_n C dL_law_377 rfl ?_
            refine gk_iconst C dL_law_378 ?_
            refine gk_lald C dL_law_379 (hU_r hd5 (hU_r hdm5 hset_eq)) (by omega) (by omega) ?_
            rw [y4]
            refine gk_iload C dL_law_380 rfl ?_
            refine gk_i2l C (by omega) dL_law_382 ?_
            refine gk_lcmp C (by omega) (by omega) dL_law_383 (fun zz z1 z3 z4 => ?_)
            refine gk_if_eq C (tgt := 389) (by omega) dL_law_384 (by decide) (fun c_384 => ?_) (fun c_384 => ?_)
            · refine gk_goto C (tgt := 1733) dL_law_389 (by decide) ?_
              exact nx X2 s2 _ f2 g _ _ _ _ y3 hset_eq ((hset_ne (Ne.symm hne)).trans hV) hd5 hdm5 (by show k + 2 + 0 + 0 ≤ k + 40; omega) (by show n + 12 + 0 + 0 ≤ n + 1000; omega)
            · exact absurd (z3.mpr (by omega)) c_384
        · exact absurd rfl c_367

set_option maxRecDepth 100000 in
set_option maxHeartbeats 4000000 in
theorem lc_played {l : Launch} {Γ : GA} {nm : String} {G : GP} {sb ls : Nat} {xs : Nat → Int32} (CL : CxL l Γ (m_law nm) G sb ls xs) (hfl : l.stackTraces = false) {x o od c : Nat} {i : Int} {k n : Nat} {X W : Hp} {adm : Nat → Nat} {s : MS} {f : Int → Int} {g : Int → UInt64} {u0 v0 : Option Value} {MP : Int → MS → Prop} (IMm : IM adm) (hW : W o = some (aL 1 f)) (hV : W od = some (aD 1 g)) (hne : o ≠ od) (hdX : hdj X (hU (HM adm s) W)) (hdm : hdj (HM adm s) W) (hi : 0 ≤ i ∧ i + 5 ≤ ls) (hls : ls ≤ 2560) (hk : k + 100 ≤ 601024 ∧ n + 2000 ≤ 7293033)
    (hw : CtH l Γ m_L_played hh_L_played [.ref x, iv (xz xs (i + 1)), iv (xz xs (i + 2)), iv (xz xs (i + 3)), .ref o] (hU X (hU (HM adm s) W)) (fun v h' => ∃ (kk : Int) (X2 : Hp) (f2 : Int → Int), v = some (iv kk) ∧ (0 ≤ kk ∧ kk ≤ 3) ∧ (∀ b s2, MP b s2 → s2 39 0 = kk ∧ (kk = 0 → f2 0 = b ∧ (-2147483648 ≤ b ∧ b ≤ 2147483647)) ∧ LX Γ x (c + 1) X2 s2) ∧ hdj X2 (hU (HM adm s) W) ∧ h' = hU X2 (hset (hU (HM adm s) W) o (aL 1 f2))))
    (hr : Ct l Γ m_X5_played [.ref (adm 40), iv (xz xs (i + 1)), iv (xz xs (i + 2)), iv (xz xs (i + 3))] (HM adm s) (fun v h' => ∃ (b : Int) (s2 : MS), v = some (iv b) ∧ h' = HM adm s2 ∧ MP b s2) (fun _ _ => False))
    (nx : ∀ (X2 : Hp) (s2 : MS) (W2 : Hp) (f2 : Int → Int) (g2 : Int → UInt64) (k2 n2 : Nat) (u v : Option Value), LX Γ x (c + 1) X2 s2 → W2 o = some (aL 1 f2) → W2 od = some (aD 1 g2) → hdj X2 (hU (HM adm s2) W2) → hdj (HM adm s2) W2 → k2 ≤ k + 40 → n2 ≤ n + 1000 → G 1733 [some (.ref sb), some (.ref x), some (.ref (adm 40)), some (.ref o), some (.ref od), some (iv i), u, v] [] (hU X2 (hU (HM adm s2) W2)) k2 n2) :
    G 392 [some (.ref sb), some (.ref x), some (.ref (adm 40)), some (.ref o), some (.ref od), some (iv i), u0, v0] [] (hU X (hU (HM adm s) W)) k n := by
  have C := CL.cx
  have r1 := xz_rng xs (i + 1)
  have r2 := xz_rng xs (i + 2)
  have r3 := xz_rng xs (i + 3)
  refine gk_aload_n C dL_law_392 rfl ?_
  refine gk_aload_n C dL_law_393 rfl ?_
  refine gk_iload C dL_law_394 rfl ?_
  refine gk_iconst C dL_law_396 ?_
  refine gk_iadd C dL_law_397 ?_
  refine gk_sld CL dL_law_398 (by omega) (by omega) ?_
  refine gk_aload_n C dL_law_399 rfl ?_
  refine gk_iload C dL_law_400 rfl ?_
  refine gk_iconst C dL_law_402 ?_
  refine gk_iadd C dL_law_403 ?_
  refine gk_sld CL dL_law_404 (by omega) (by omega) ?_
  refine gk_aload_n C dL_law_405 rfl ?_
  refine gk_iload C dL_law_406 rfl ?_
  refine gk_iconst C dL_law_408 ?_
  refine gk_iadd C dL_law_409 ?_
  refine gk_sld CL dL_law_410 (by omega) (by omega) ?_
  refine gk_aload_n C dL_law_411 rfl ?_
  refine gk_callSH C o_L_played k_L_110 dL_law_412 hw rfl rfl ⟨Nat.le_of_ble_eq_true rfl, Nat.le_of_ble_eq_true rfl⟩ ⟨by show k + 3 ≤ 601024; omega, by show n + 18 ≤ 7293033; omega⟩ (by exact Nat.le_of_ble_eq_true rfl) (fun v_412 h_412 p_412 => ?_)
  obtain ⟨kk, X2, f2, rfl, hkk, hrel, hd2, rfl⟩ := p_412
  dsimp only [gk_push]
  have hd3 := hdj_set (e := aL 1 f2) hd2 (hU_r hdm hW)
  rw [hU_setR (hdm.no hW)] at hd3
  have hdm3 := hdj_set (e := aL 1 f2) hdm hW
  refine gi_cast (congrArg (hU X2) (hU_setR (hdm.no hW))) ?_
  refine gk_istore_6 C rfl (by exact Nat.le_of_ble_eq_true rfl) dL_law_415 ?_
  refine gk_aload_n C dL_law_417 rfl ?_
  refine gk_aload_n C dL_law_418 rfl ?_
  refine gk_iload C dL_law_419 rfl ?_
  refine gk_iconst C dL_law_421 ?_
  refine gk_iadd C dL_law_422 ?_
  refine gk_sld CL dL_law_423 (by omega) (by omega) ?_
  refine gk_aload_n C dL_law_424 rfl ?_
  refine gk_iload C dL_law_425 rfl ?_
  refine gk_iconst C dL_law_427 ?_
  refine gk_iadd C dL_law_428 ?_
  refine gk_sld CL dL_law_429 (by omega) (by omega) ?_
  refine gk_aload_n C dL_law_430 rfl ?_
  refine gk_iload C dL_law_431 rfl ?_
  refine gk_iconst C dL_law_433 ?_
  refine gk_iadd C dL_law_434 ?_
  refine gk_sld CL dL_law_435 (by omega) (by omega) ?_
  refine gk_callV C o_X5_played k_L_113 dL_law_436 (Ct.frM hd3 hdm3 hr) (hU_r hd3 (hU_l (mo_obj IMm))) rfl rfl rfl ⟨Nat.le_of_ble_eq_true rfl, Nat.le_of_ble_eq_true rfl⟩ ⟨by show k + 3 + 0 ≤ 601024; omega, by show n + 18 + 0 ≤ 7293033; omega⟩ (by exact Nat.le_of_ble_eq_true rfl) (fun _ _ z => by obtain ⟨_, z, _⟩ := z; exact z.elim) (fun v_436 h_436 p_436 => ?_)
  obtain ⟨h4, ⟨b0, s2, rfl, rfl, hm⟩, hd4, hdm4, rfl⟩ := p_436
  dsimp only [gk_push]
  obtain ⟨y1, y2, y3⟩ := hrel b0 s2 hm
  refine gk_istore_7 C rfl (by exact Nat.le_of_ble_eq_true rfl) dL_law_439 ?_
  refine gk_aload_n C dL_law_441 rfl ?_
  refine gk_callV C o_X5_thrown k_L_99 dL_law_442 (Ct.frM hd4 hdm4 (m_thrown hfl IMm)) (hU_r hd4 (hU_l (mo_obj IMm))) rfl rfl rfl ⟨Nat.le_of_ble_eq_true rfl, Nat.le_of_ble_eq_true rfl⟩ ⟨by show k + 3 + 0 + 0 ≤ 601024; omega, by show n + 18 + 0 + 0 ≤ 7293033; omega⟩ (by exact Nat.le_of_ble_eq_true rfl) (fun _ _ z => by obtain ⟨_, z, _⟩ := z; exact z.elim) (fun v_442 h_442 p_442 => ?_)
  obtain ⟨h5, ⟨rfl, rfl⟩, hd5, hdm5, rfl⟩ := p_442
  dsimp only [gk_push]
  rw [y1]
  refine gk_iload C dL_law_445 rfl ?_
  refine gk_icmp_eq C (tgt := 452) (by omega) (by omega) dL_law_447 (by decide) (fun c_447 => ?_) (fun c_447 => ?_)
  · refine gk_iload C dL_law_452 rfl ?_
    refine gk_if_ne C (tgt := 469) (by omega) dL_law_454 (by decide) (fun c_454 => ?_) (fun c_454 => ?_)
    · refine gk_goto C (tgt := 1733) dL_law_469 (by decide) ?_
      exact nx X2 s2 _ f2 g _ _ _ _ y3 hset_eq ((hset_ne (Ne.symm hne)).trans hV) hd5 hdm5 (by show k + 3 + 0 + 0 ≤ k + 40; omega) (by show n + 18 + 0 + 0 ≤ n + 1000; omega)
    · obtain ⟨y4, y5⟩ := y2 c_454
      refine gk_aload_n C dL_law_457 rfl ?_
      refine gk_iconst C dL_law_458 ?_
      refine gk_lald C dL_law_459 (hU_r hd5 (hU_r hdm5 hset_eq)) (by omega) (by omega) ?_
      rw [y4]
      refine gk_iload C dL_law_460 rfl ?_
      refine gk_i2l C (by omega) dL_law_462 ?_
      refine gk_lcmp C (by omega) (by omega) dL_law_463 (fun zz z1 z3 z4 => ?_)
      refine gk_if_eq C (tgt := 469) (by omega) dL_law_464 (by decide) (fun c_464 => ?_) (fun c_464 => ?_)
      · refine gk_goto C (tgt := 1733) dL_law_469 (by decide) ?_
        exact nx X2 s2 _ f2 g _ _ _ _ y3 hset_eq ((hset_ne (Ne.symm hne)).trans hV) hd5 hdm5 (by show k + 3 + 0 + 0 ≤ k + 40; omega) (by show n + 18 + 0 + 0 ≤ n + 1000; omega)
      · exact absurd (z3.mpr (by omega)) c_464
  · exact absurd rfl c_447

set_option maxRecDepth 100000 in
set_option maxHeartbeats 4000000 in
theorem lc_ofTune {l : Launch} {Γ : GA} {nm : String} {G : GP} {sb ls : Nat} {xs : Nat → Int32} (CL : CxL l Γ (m_law nm) G sb ls xs) (hfl : l.stackTraces = false) {x o od c : Nat} {i : Int} {k n : Nat} {X W : Hp} {adm : Nat → Nat} {s : MS} {f : Int → Int} {g : Int → UInt64} {u0 v0 : Option Value} {MP : Int → MS → Prop} (IMm : IM adm) (hW : W o = some (aL 1 f)) (hV : W od = some (aD 1 g)) (hne : o ≠ od) (hdX : hdj X (hU (HM adm s) W)) (hdm : hdj (HM adm s) W) (hi : 0 ≤ i ∧ i + 5 ≤ ls) (hls : ls ≤ 2560) (hk : k + 100 ≤ 601024 ∧ n + 2000 ≤ 7293033)
    (hw : CtH l Γ m_L_ofTune hh_L_ofTune [.ref x, iv (xz xs (i + 1)), iv (xz xs (i + 2)), .ref o] (hU X (hU (HM adm s) W)) (fun v h' => ∃ (kk : Int) (X2 : Hp) (f2 : Int → Int), v = some (iv kk) ∧ (0 ≤ kk ∧ kk ≤ 3) ∧ (∀ b s2, MP b s2 → s2 39 0 = kk ∧ (kk = 0 → f2 0 = b ∧ (-2147483648 ≤ b ∧ b ≤ 2147483647)) ∧ LX Γ x (c + 1) X2 s2) ∧ hdj X2 (hU (HM adm s) W) ∧ h' = hU X2 (hset (hU (HM adm s) W) o (aL 1 f2))))
    (hr : Ct l Γ m_X5_ofTune [.ref (adm 40), iv (xz xs (i + 1)), iv (xz xs (i + 2))] (HM adm s) (fun v h' => ∃ (b : Int) (s2 : MS), v = some (iv b) ∧ h' = HM adm s2 ∧ MP b s2) (fun _ _ => False))
    (nx : ∀ (X2 : Hp) (s2 : MS) (W2 : Hp) (f2 : Int → Int) (g2 : Int → UInt64) (k2 n2 : Nat) (u v : Option Value), LX Γ x (c + 1) X2 s2 → W2 o = some (aL 1 f2) → W2 od = some (aD 1 g2) → hdj X2 (hU (HM adm s2) W2) → hdj (HM adm s2) W2 → k2 ≤ k + 40 → n2 ≤ n + 1000 → G 1733 [some (.ref sb), some (.ref x), some (.ref (adm 40)), some (.ref o), some (.ref od), some (iv i), u, v] [] (hU X2 (hU (HM adm s2) W2)) k2 n2) :
    G 472 [some (.ref sb), some (.ref x), some (.ref (adm 40)), some (.ref o), some (.ref od), some (iv i), u0, v0] [] (hU X (hU (HM adm s) W)) k n := by
  have C := CL.cx
  have r1 := xz_rng xs (i + 1)
  have r2 := xz_rng xs (i + 2)
  refine gk_aload_n C dL_law_472 rfl ?_
  refine gk_aload_n C dL_law_473 rfl ?_
  refine gk_iload C dL_law_474 rfl ?_
  refine gk_iconst C dL_law_476 ?_
  refine gk_iadd C dL_law_477 ?_
  refine gk_sld CL dL_law_478 (by omega) (by omega) ?_
  refine gk_aload_n C dL_law_479 rfl ?_
  refine gk_iload C dL_law_480 rfl ?_
  refine gk_iconst C dL_law_482 ?_
  refine gk_iadd C dL_law_483 ?_
  refine gk_sld CL dL_law_484 (by omega) (by omega) ?_
  refine gk_aload_n C dL_law_485 rfl ?_
  refine gk_callSH C o_L_ofTune k_L_114 dL_law_486 hw rfl rfl ⟨Nat.le_of_ble_eq_true rfl, Nat.le_of_ble_eq_true rfl⟩ ⟨by show k + 2 ≤ 601024; omega, by show n + 12 ≤ 7293033; omega⟩ (by exact Nat.le_of_ble_eq_true rfl) (fun v_486 h_486 p_486 => ?_)
  obtain ⟨kk, X2, f2, rfl, hkk, hrel, hd2, rfl⟩ := p_486
  dsimp only [gk_push]
  have hd3 := hdj_set (e := aL 1 f2) hd2 (hU_r hdm hW)
  rw [hU_setR (hdm.no hW)] at hd3
  have hdm3 := hdj_set (e := aL 1 f2) hdm hW
  refine gi_cast (congrArg (hU X2) (hU_setR (hdm.no hW))) ?_
  refine gk_istore_6 C rfl (by exact Nat.le_of_ble_eq_true rfl) dL_law_489 ?_
  refine gk_aload_n C dL_law_491 rfl ?_
  refine gk_aload_n C dL_law_492 rfl ?_
  refine gk_iload C dL_law_493 rfl ?_
  refine gk_iconst C dL_law_495 ?_
  refine gk_iadd C dL_law_496 ?_
  refine gk_sld CL dL_law_497 (by omega) (by omega) ?_
  refine gk_aload_n C dL_law_498 rfl ?_
  refine gk_iload C dL_law_499 rfl ?_
  refine gk_iconst C dL_law_501 ?_
  refine gk_iadd C dL_law_502 ?_
  refine gk_sld CL dL_law_503 (by omega) (by omega) ?_
  refine gk_callV C o_X5_ofTune k_L_117 dL_law_504 (Ct.frM hd3 hdm3 hr) (hU_r hd3 (hU_l (mo_obj IMm))) rfl rfl rfl ⟨Nat.le_of_ble_eq_true rfl, Nat.le_of_ble_eq_true rfl⟩ ⟨by show k + 2 + 0 ≤ 601024; omega, by show n + 12 + 0 ≤ 7293033; omega⟩ (by exact Nat.le_of_ble_eq_true rfl) (fun _ _ z => by obtain ⟨_, z, _⟩ := z; exact z.elim) (fun v_504 h_504 p_504 => ?_)
  obtain ⟨h4, ⟨b0, s2, rfl, rfl, hm⟩, hd4, hdm4, rfl⟩ := p_504
  dsimp only [gk_push]
  obtain ⟨y1, y2, y3⟩ := hrel b0 s2 hm
  refine gk_istore_7 C rfl (by exact Nat.le_of_ble_eq_true rfl) dL_law_507 ?_
  refine gk_aload_n C dL_law_509 rfl ?_
  refine gk_callV C o_X5_thrown k_L_99 dL_law_510 (Ct.frM hd4 hdm4 (m_thrown hfl IMm)) (hU_r hd4 (hU_l (mo_obj IMm))) rfl rfl rfl ⟨Nat.le_of_ble_eq_true rfl, Nat.le_of_ble_eq_true rfl⟩ ⟨by show k + 2 + 0 + 0 ≤ 601024; omega, by show n + 12 + 0 + 0 ≤ 7293033; omega⟩ (by exact Nat.le_of_ble_eq_true rfl) (fun _ _ z => by obtain ⟨_, z, _⟩ := z; exact z.elim) (fun v_510 h_510 p_510 => ?_)
  obtain ⟨h5, ⟨rfl, rfl⟩, hd5, hdm5, rfl⟩ := p_510
  dsimp only [gk_push]
  rw [y1]
  refine gk_iload C dL_law_513 rfl ?_
  refine gk_icmp_eq C (tgt := 520) (by omega) (by omega) dL_law_515 (by decide) (fun c_515 => ?_) (fun c_515 => ?_)
  · refine gk_iload C dL_law_520 rfl ?_
    refine gk_if_ne C (tgt := 537) (by omega) dL_law_522 (by decide) (fun c_522 => ?_) (fun c_522 => ?_)
    · refine gk_goto C (tgt := 1733) dL_law_537 (by decide) ?_
      exact nx X2 s2 _ f2 g _ _ _ _ y3 hset_eq ((hset_ne (Ne.symm hne)).trans hV) hd5 hdm5 (by show k + 2 + 0 + 0 ≤ k + 40; omega) (by show n + 12 + 0 + 0 ≤ n + 1000; omega)
    · obtain ⟨y4, y5⟩ := y2 c_522
      refine gk_aload_n C dL_law_525 rfl ?_
      refine gk_iconst C dL_law_526 ?_
      refine gk_lald C dL_law_527 (hU_r hd5 (hU_r hdm5 hset_eq)) (by omega) (by omega) ?_
      rw [y4]
      refine gk_iload C dL_law_528 rfl ?_
      refine gk_i2l C (by omega) dL_law_530 ?_
      refine gk_lcmp C (by omega) (by omega) dL_law_531 (fun zz z1 z3 z4 => ?_)
      refine gk_if_eq C (tgt := 537) (by omega) dL_law_532 (by decide) (fun c_532 => ?_) (fun c_532 => ?_)
      · refine gk_goto C (tgt := 1733) dL_law_537 (by decide) ?_
        exact nx X2 s2 _ f2 g _ _ _ _ y3 hset_eq ((hset_ne (Ne.symm hne)).trans hV) hd5 hdm5 (by show k + 2 + 0 + 0 ≤ k + 40; omega) (by show n + 12 + 0 + 0 ≤ n + 1000; omega)
      · exact absurd (z3.mpr (by omega)) c_532
  · exact absurd rfl c_515

set_option maxRecDepth 100000 in
set_option maxHeartbeats 4000000 in
theorem lc_alike {l : Launch} {Γ : GA} {nm : String} {G : GP} {sb ls : Nat} {xs : Nat → Int32} (CL : CxL l Γ (m_law nm) G sb ls xs) (hfl : l.stackTraces = false) {x o od c : Nat} {i : Int} {k n : Nat} {X W : Hp} {adm : Nat → Nat} {s : MS} {f : Int → Int} {g : Int → UInt64} {u0 v0 : Option Value} {MP : Int → MS → Prop} (IMm : IM adm) (hW : W o = some (aL 1 f)) (hV : W od = some (aD 1 g)) (hne : o ≠ od) (hdX : hdj X (hU (HM adm s) W)) (hdm : hdj (HM adm s) W) (hi : 0 ≤ i ∧ i + 5 ≤ ls) (hls : ls ≤ 2560) (hk : k + 100 ≤ 601024 ∧ n + 2000 ≤ 7293033)
    (hw : CtH l Γ m_L_alike hh_L_alike [.ref x, iv (xz xs (i + 1)), iv (xz xs (i + 2)), .ref o] (hU X (hU (HM adm s) W)) (fun v h' => ∃ (kk : Int) (X2 : Hp) (f2 : Int → Int), v = some (iv kk) ∧ (0 ≤ kk ∧ kk ≤ 3) ∧ (∀ b s2, MP b s2 → s2 39 0 = kk ∧ (kk = 0 → f2 0 = b ∧ (-2147483648 ≤ b ∧ b ≤ 2147483647)) ∧ LX Γ x (c + 1) X2 s2) ∧ hdj X2 (hU (HM adm s) W) ∧ h' = hU X2 (hset (hU (HM adm s) W) o (aL 1 f2))))
    (hr : Ct l Γ m_X5_alike [.ref (adm 40), iv (xz xs (i + 1)), iv (xz xs (i + 2))] (HM adm s) (fun v h' => ∃ (b : Int) (s2 : MS), v = some (iv b) ∧ h' = HM adm s2 ∧ MP b s2) (fun _ _ => False))
    (nx : ∀ (X2 : Hp) (s2 : MS) (W2 : Hp) (f2 : Int → Int) (g2 : Int → UInt64) (k2 n2 : Nat) (u v : Option Value), LX Γ x (c + 1) X2 s2 → W2 o = some (aL 1 f2) → W2 od = some (aD 1 g2) → hdj X2 (hU (HM adm s2) W2) → hdj (HM adm s2) W2 → k2 ≤ k + 40 → n2 ≤ n + 1000 → G 1733 [some (.ref sb), some (.ref x), some (.ref (adm 40)), some (.ref o), some (.ref od), some (iv i), u, v] [] (hU X2 (hU (HM adm s2) W2)) k2 n2) :
    G 540 [some (.ref sb), some (.ref x), some (.ref (adm 40)), some (.ref o), some (.ref od), some (iv i), u0, v0] [] (hU X (hU (HM adm s) W)) k n := by
  have C := CL.cx
  have r1 := xz_rng xs (i + 1)
  have r2 := xz_rng xs (i + 2)
  refine gk_aload_n C dL_law_540 rfl ?_
  refine gk_aload_n C dL_law_541 rfl ?_
  refine gk_iload C dL_law_542 rfl ?_
  refine gk_iconst C dL_law_544 ?_
  refine gk_iadd C dL_law_545 ?_
  refine gk_sld CL dL_law_546 (by omega) (by omega) ?_
  refine gk_aload_n C dL_law_547 rfl ?_
  refine gk_iload C dL_law_548 rfl ?_
  refine gk_iconst C dL_law_550 ?_
  refine gk_iadd C dL_law_551 ?_
  refine gk_sld CL dL_law_552 (by omega) (by omega) ?_
  refine gk_aload_n C dL_law_553 rfl ?_
  refine gk_callSH C o_L_alike k_L_118 dL_law_554 hw rfl rfl ⟨Nat.le_of_ble_eq_true rfl, Nat.le_of_ble_eq_true rfl⟩ ⟨by show k + 2 ≤ 601024; omega, by show n + 12 ≤ 7293033; omega⟩ (by exact Nat.le_of_ble_eq_true rfl) (fun v_554 h_554 p_554 => ?_)
  obtain ⟨kk, X2, f2, rfl, hkk, hrel, hd2, rfl⟩ := p_554
  dsimp only [gk_push]
  have hd3 := hdj_set (e := aL 1 f2) hd2 (hU_r hdm hW)
  rw [hU_setR (hdm.no hW)] at hd3
  have hdm3 := hdj_set (e := aL 1 f2) hdm hW
  refine gi_cast (congrArg (hU X2) (hU_setR (hdm.no hW))) ?_
  refine gk_istore_6 C rfl (by exact Nat.le_of_ble_eq_true rfl) dL_law_557 ?_
  refine gk_aload_n C dL_law_559 rfl ?_
  refine gk_aload_n C dL_law_560 rfl ?_
  refine gk_iload C dL_law_561 rfl ?_
  refine gk_iconst C dL_law_563 ?_
  refine gk_iadd C dL_law_564 ?_
  refine gk_sld CL dL_law_565 (by omega) (by omega) ?_
  refine gk_aload_n C dL_law_566 rfl ?_
  refine gk_iload C dL_law_567 rfl ?_
  refine gk_iconst C dL_law_569 ?_
  refine gk_iadd C dL_law_570 ?_
  refine gk_sld CL dL_law_571 (by omega) (by omega) ?_
  refine gk_callV C o_X5_alike k_L_120 dL_law_572 (Ct.frM hd3 hdm3 hr) (hU_r hd3 (hU_l (mo_obj IMm))) rfl rfl rfl ⟨Nat.le_of_ble_eq_true rfl, Nat.le_of_ble_eq_true rfl⟩ ⟨by show k + 2 + 0 ≤ 601024; omega, by show n + 12 + 0 ≤ 7293033; omega⟩ (by exact Nat.le_of_ble_eq_true rfl) (fun _ _ z => by obtain ⟨_, z, _⟩ := z; exact z.elim) (fun v_572 h_572 p_572 => ?_)
  obtain ⟨h4, ⟨b0, s2, rfl, rfl, hm⟩, hd4, hdm4, rfl⟩ := p_572
  dsimp only [gk_push]
  obtain ⟨y1, y2, y3⟩ := hrel b0 s2 hm
  refine gk_istore_7 C rfl (by exact Nat.le_of_ble_eq_true rfl) dL_law_575 ?_
  refine gk_aload_n C dL_law_577 rfl ?_
  refine gk_callV C o_X5_thrown k_L_99 dL_law_578 (Ct.frM hd4 hdm4 (m_thrown hfl IMm)) (hU_r hd4 (hU_l (mo_obj IMm))) rfl rfl rfl ⟨Nat.le_of_ble_eq_true rfl, Nat.le_of_ble_eq_true rfl⟩ ⟨by show k + 2 + 0 + 0 ≤ 601024; omega, by show n + 12 + 0 + 0 ≤ 7293033; omega⟩ (by exact Nat.le_of_ble_eq_true rfl) (fun _ _ z => by obtain ⟨_, z, _⟩ := z; exact z.elim) (fun v_578 h_578 p_578 => ?_)
  obtain ⟨h5, ⟨rfl, rfl⟩, hd5, hdm5, rfl⟩ := p_578
  dsimp only [gk_push]
  rw [y1]
  refine gk_iload C dL_law_581 rfl ?_
  refine gk_icmp_eq C (tgt := 588) (by omega) (by omega) dL_law_583 (by decide) (fun c_583 => ?_) (fun c_583 => ?_)
  · refine gk_iload C dL_law_588 rfl ?_
    refine gk_if_ne C (tgt := 605) (by omega) dL_law_590 (by decide) (fun c_590 => ?_) (fun c_590 => ?_)
    · refine gk_goto C (tgt := 1733) dL_law_605 (by decide) ?_
      exact nx X2 s2 _ f2 g _ _ _ _ y3 hset_eq ((hset_ne (Ne.symm hne)).trans hV) hd5 hdm5 (by show k + 2 + 0 + 0 ≤ k + 40; omega) (by show n + 12 + 0 + 0 ≤ n + 1000; omega)
    · obtain ⟨y4, y5⟩ := y2 c_590
      refine gk_aload_n C dL_law_593 rfl ?_
      refine gk_iconst C dL_law_594 ?_
      refine gk_lald C dL_law_595 (hU_r hd5 (hU_r hdm5 hset_eq)) (by omega) (by omega) ?_
      rw [y4]
      refine gk_iload C dL_law_596 rfl ?_
      refine gk_i2l C (by omega) dL_law_598 ?_
      refine gk_lcmp C (by omega) (by omega) dL_law_599 (fun zz z1 z3 z4 => ?_)
      refine gk_if_eq C (tgt := 605) (by omega) dL_law_600 (by decide) (fun c_600 => ?_) (fun c_600 => ?_)
      · refine gk_goto C (tgt := 1733) dL_law_605 (by decide) ?_
        exact nx X2 s2 _ f2 g _ _ _ _ y3 hset_eq ((hset_ne (Ne.symm hne)).trans hV) hd5 hdm5 (by show k + 2 + 0 + 0 ≤ k + 40; omega) (by show n + 12 + 0 + 0 ≤ n + 1000; omega)
      · exact absurd (z3.mpr (by omega)) c_600
  · exact absurd rfl c_583

set_option maxRecDepth 100000 in
set_option maxHeartbeats 4000000 in
theorem lc_alikeAnew {l : Launch} {Γ : GA} {nm : String} {G : GP} {sb ls : Nat} {xs : Nat → Int32} (CL : CxL l Γ (m_law nm) G sb ls xs) (hfl : l.stackTraces = false) {x o od c : Nat} {i : Int} {k n : Nat} {X W : Hp} {adm : Nat → Nat} {s : MS} {f : Int → Int} {g : Int → UInt64} {u0 v0 : Option Value} {MP : Int → MS → Prop} (IMm : IM adm) (hW : W o = some (aL 1 f)) (hV : W od = some (aD 1 g)) (hne : o ≠ od) (hdX : hdj X (hU (HM adm s) W)) (hdm : hdj (HM adm s) W) (hi : 0 ≤ i ∧ i + 5 ≤ ls) (hls : ls ≤ 2560) (hk : k + 100 ≤ 601024 ∧ n + 2000 ≤ 7293033)
    (hw : CtH l Γ m_L_alikeAnew hh_L_alikeAnew [.ref x, iv (xz xs (i + 1)), iv (xz xs (i + 2)), .ref o] (hU X (hU (HM adm s) W)) (fun v h' => ∃ (kk : Int) (X2 : Hp) (f2 : Int → Int), v = some (iv kk) ∧ (0 ≤ kk ∧ kk ≤ 3) ∧ (∀ b s2, MP b s2 → s2 39 0 = kk ∧ (kk = 0 → f2 0 = b ∧ (-2147483648 ≤ b ∧ b ≤ 2147483647)) ∧ LX Γ x (c + 1) X2 s2) ∧ hdj X2 (hU (HM adm s) W) ∧ h' = hU X2 (hset (hU (HM adm s) W) o (aL 1 f2))))
    (hr : Ct l Γ m_X5_alikeAnew [.ref (adm 40), iv (xz xs (i + 1)), iv (xz xs (i + 2))] (HM adm s) (fun v h' => ∃ (b : Int) (s2 : MS), v = some (iv b) ∧ h' = HM adm s2 ∧ MP b s2) (fun _ _ => False))
    (nx : ∀ (X2 : Hp) (s2 : MS) (W2 : Hp) (f2 : Int → Int) (g2 : Int → UInt64) (k2 n2 : Nat) (u v : Option Value), LX Γ x (c + 1) X2 s2 → W2 o = some (aL 1 f2) → W2 od = some (aD 1 g2) → hdj X2 (hU (HM adm s2) W2) → hdj (HM adm s2) W2 → k2 ≤ k + 40 → n2 ≤ n + 1000 → G 1733 [some (.ref sb), some (.ref x), some (.ref (adm 40)), some (.ref o), some (.ref od), some (iv i), u, v] [] (hU X2 (hU (HM adm s2) W2)) k2 n2) :
    G 608 [some (.ref sb), some (.ref x), some (.ref (adm 40)), some (.ref o), some (.ref od), some (iv i), u0, v0] [] (hU X (hU (HM adm s) W)) k n := by
  have C := CL.cx
  have r1 := xz_rng xs (i + 1)
  have r2 := xz_rng xs (i + 2)
  refine gk_aload_n C dL_law_608 rfl ?_
  refine gk_aload_n C dL_law_609 rfl ?_
  refine gk_iload C dL_law_610 rfl ?_
  refine gk_iconst C dL_law_612 ?_
  refine gk_iadd C dL_law_613 ?_
  refine gk_sld CL dL_law_614 (by omega) (by omega) ?_
  refine gk_aload_n C dL_law_615 rfl ?_
  refine gk_iload C dL_law_616 rfl ?_
  refine gk_iconst C dL_law_618 ?_
  refine gk_iadd C dL_law_619 ?_
  refine gk_sld CL dL_law_620 (by omega) (by omega) ?_
  refine gk_aload_n C dL_law_621 rfl ?_
  refine gk_callSH C o_L_alikeAnew k_L_121 dL_law_622 hw rfl rfl ⟨Nat.le_of_ble_eq_true rfl, Nat.le_of_ble_eq_true rfl⟩ ⟨by show k + 2 ≤ 601024; omega, by show n + 12 ≤ 7293033; omega⟩ (by exact Nat.le_of_ble_eq_true rfl) (fun v_622 h_622 p_622 => ?_)
  obtain ⟨kk, X2, f2, rfl, hkk, hrel, hd2, rfl⟩ := p_622
  dsimp only [gk_push]
  have hd3 := hdj_set (e := aL 1 f2) hd2 (hU_r hdm hW)
  rw [hU_setR (hdm.no hW)] at hd3
  have hdm3 := hdj_set (e := aL 1 f2) hdm hW
  refine gi_cast (congrArg (hU X2) (hU_setR (hdm.no hW))) ?_
  refine gk_istore_6 C rfl (by exact Nat.le_of_ble_eq_true rfl) dL_law_625 ?_
  refine gk_aload_n C dL_law_627 rfl ?_
  refine gk_aload_n C dL_law_628 rfl ?_
  refine gk_iload C dL_law_629 rfl ?_
  refine gk_iconst C dL_law_631 ?_
  refine gk_iadd C dL_law_632 ?_
  refine gk_sld CL dL_law_633 (by omega) (by omega) ?_
  refine gk_aload_n C dL_law_634 rfl ?_
  refine gk_iload C dL_law_635 rfl ?_
  refine gk_iconst C dL_law_637 ?_
  refine gk_iadd C dL_law_638 ?_
  refine gk_sld CL dL_law_639 (by omega) (by omega) ?_
  refine gk_callV C o_X5_alikeAnew k_L_123 dL_law_640 (Ct.frM hd3 hdm3 hr) (hU_r hd3 (hU_l (mo_obj IMm))) rfl rfl rfl ⟨Nat.le_of_ble_eq_true rfl, Nat.le_of_ble_eq_true rfl⟩ ⟨by show k + 2 + 0 ≤ 601024; omega, by show n + 12 + 0 ≤ 7293033; omega⟩ (by exact Nat.le_of_ble_eq_true rfl) (fun _ _ z => by obtain ⟨_, z, _⟩ := z; exact z.elim) (fun v_640 h_640 p_640 => ?_)
  obtain ⟨h4, ⟨b0, s2, rfl, rfl, hm⟩, hd4, hdm4, rfl⟩ := p_640
  dsimp only [gk_push]
  obtain ⟨y1, y2, y3⟩ := hrel b0 s2 hm
  refine gk_istore_7 C rfl (by exact Nat.le_of_ble_eq_true rfl) dL_law_643 ?_
  refine gk_aload_n C dL_law_645 rfl ?_
  refine gk_callV C o_X5_thrown k_L_99 dL_law_646 (Ct.frM hd4 hdm4 (m_thrown hfl IMm)) (hU_r hd4 (hU_l (mo_obj IMm))) rfl rfl rfl ⟨Nat.le_of_ble_eq_true rfl, Nat.le_of_ble_eq_true rfl⟩ ⟨by show k + 2 + 0 + 0 ≤ 601024; omega, by show n + 12 + 0 + 0 ≤ 7293033; omega⟩ (by exact Nat.le_of_ble_eq_true rfl) (fun _ _ z => by obtain ⟨_, z, _⟩ := z; exact z.elim) (fun v_646 h_646 p_646 => ?_)
  obtain ⟨h5, ⟨rfl, rfl⟩, hd5, hdm5, rfl⟩ := p_646
  dsimp only [gk_push]
  rw [y1]
  refine gk_iload C dL_law_649 rfl ?_
  refine gk_icmp_eq C (tgt := 656) (by omega) (by omega) dL_law_651 (by decide) (fun c_651 => ?_) (fun c_651 => ?_)
  · refine gk_iload C dL_law_656 rfl ?_
    refine gk_if_ne C (tgt := 673) (by omega) dL_law_658 (by decide) (fun c_658 => ?_) (fun c_658 => ?_)
    · refine gk_goto C (tgt := 1733) dL_law_673 (by decide) ?_
      exact nx X2 s2 _ f2 g _ _ _ _ y3 hset_eq ((hset_ne (Ne.symm hne)).trans hV) hd5 hdm5 (by show k + 2 + 0 + 0 ≤ k + 40; omega) (by show n + 12 + 0 + 0 ≤ n + 1000; omega)
    · obtain ⟨y4, y5⟩ := y2 c_658
      refine gk_aload_n C dL_law_661 rfl ?_
      refine gk_iconst C dL_law_662 ?_
      refine gk_lald C dL_law_663 (hU_r hd5 (hU_r hdm5 hset_eq)) (by omega) (by omega) ?_
      rw [y4]
      refine gk_iload C dL_law_664 rfl ?_
      refine gk_i2l C (by omega) dL_law_666 ?_
      refine gk_lcmp C (by omega) (by omega) dL_law_667 (fun zz z1 z3 z4 => ?_)
      refine gk_if_eq C (tgt := 673) (by omega) dL_law_668 (by decide) (fun c_668 => ?_) (fun c_668 => ?_)
      · refine gk_goto C (tgt := 1733) dL_law_673 (by decide) ?_
        exact nx X2 s2 _ f2 g _ _ _ _ y3 hset_eq ((hset_ne (Ne.symm hne)).trans hV) hd5 hdm5 (by show k + 2 + 0 + 0 ≤ k + 40; omega) (by show n + 12 + 0 + 0 ≤ n + 1000; omega)
      · exact absurd (z3.mpr (by omega)) c_668
  · exact absurd rfl c_651

set_option maxRecDepth 100000 in
set_option maxHeartbeats 4000000 in
theorem lc_follow {l : Launch} {Γ : GA} {nm : String} {G : GP} {sb ls : Nat} {xs : Nat → Int32} (CL : CxL l Γ (m_law nm) G sb ls xs) (hfl : l.stackTraces = false) {x o od c : Nat} {i : Int} {k n : Nat} {X W : Hp} {adm : Nat → Nat} {s : MS} {f : Int → Int} {g : Int → UInt64} {u0 v0 : Option Value} {MP : Int → MS → Prop} (IMm : IM adm) (hW : W o = some (aL 1 f)) (hV : W od = some (aD 1 g)) (hne : o ≠ od) (hdX : hdj X (hU (HM adm s) W)) (hdm : hdj (HM adm s) W) (hi : 0 ≤ i ∧ i + 5 ≤ ls) (hls : ls ≤ 2560) (hk : k + 100 ≤ 601024 ∧ n + 2000 ≤ 7293033)
    (hw : CtH l Γ m_L_follow hh_L_follow [.ref x, iv (xz xs (i + 1)), iv (xz xs (i + 2)), .ref o] (hU X (hU (HM adm s) W)) (fun v h' => ∃ (kk : Int) (X2 : Hp) (f2 : Int → Int), v = some (iv kk) ∧ (0 ≤ kk ∧ kk ≤ 3) ∧ (∀ b s2, MP b s2 → s2 39 0 = kk ∧ (kk = 0 → f2 0 = b ∧ (-2147483648 ≤ b ∧ b ≤ 2147483647)) ∧ LX Γ x (c + 1) X2 s2) ∧ hdj X2 (hU (HM adm s) W) ∧ h' = hU X2 (hset (hU (HM adm s) W) o (aL 1 f2))))
    (hr : Ct l Γ m_X5_follow [.ref (adm 40), iv (xz xs (i + 1)), iv (xz xs (i + 2))] (HM adm s) (fun v h' => ∃ (b : Int) (s2 : MS), v = some (iv b) ∧ h' = HM adm s2 ∧ MP b s2) (fun _ _ => False))
    (nx : ∀ (X2 : Hp) (s2 : MS) (W2 : Hp) (f2 : Int → Int) (g2 : Int → UInt64) (k2 n2 : Nat) (u v : Option Value), LX Γ x (c + 1) X2 s2 → W2 o = some (aL 1 f2) → W2 od = some (aD 1 g2) → hdj X2 (hU (HM adm s2) W2) → hdj (HM adm s2) W2 → k2 ≤ k + 40 → n2 ≤ n + 1000 → G 1733 [some (.ref sb), some (.ref x), some (.ref (adm 40)), some (.ref o), some (.ref od), some (iv i), u, v] [] (hU X2 (hU (HM adm s2) W2)) k2 n2) :
    G 676 [some (.ref sb), some (.ref x), some (.ref (adm 40)), some (.ref o), some (.ref od), some (iv i), u0, v0] [] (hU X (hU (HM adm s) W)) k n := by
  have C := CL.cx
  have r1 := xz_rng xs (i + 1)
  have r2 := xz_rng xs (i + 2)
  refine gk_aload_n C dL_law_676 rfl ?_
  refine gk_aload_n C dL_law_677 rfl ?_
  refine gk_iload C dL_law_678 rfl ?_
  refine gk_iconst C dL_law_680 ?_
  refine gk_iadd C dL_law_681 ?_
  refine gk_sld CL dL_law_682 (by omega) (by omega) ?_
  refine gk_aload_n C dL_law_683 rfl ?_
  refine gk_iload C dL_law_684 rfl ?_
  refine gk_iconst C dL_law_686 ?_
  refine gk_iadd C dL_law_687 ?_
  refine gk_sld CL dL_law_688 (by omega) (by omega) ?_
  refine gk_aload_n C dL_law_689 rfl ?_
  refine gk_callSH C o_L_follow k_L_124 dL_law_690 hw rfl rfl ⟨Nat.le_of_ble_eq_true rfl, Nat.le_of_ble_eq_true rfl⟩ ⟨by show k + 4 ≤ 601024; omega, by show n + 28 ≤ 7293033; omega⟩ (by exact Nat.le_of_ble_eq_true rfl) (fun v_690 h_690 p_690 => ?_)
  obtain ⟨kk, X2, f2, rfl, hkk, hrel, hd2, rfl⟩ := p_690
  dsimp only [gk_push]
  have hd3 := hdj_set (e := aL 1 f2) hd2 (hU_r hdm hW)
  rw [hU_setR (hdm.no hW)] at hd3
  have hdm3 := hdj_set (e := aL 1 f2) hdm hW
  refine gi_cast (congrArg (hU X2) (hU_setR (hdm.no hW))) ?_
  refine gk_istore_6 C rfl (by exact Nat.le_of_ble_eq_true rfl) dL_law_693 ?_
  refine gk_aload_n C dL_law_695 rfl ?_
  refine gk_aload_n C dL_law_696 rfl ?_
  refine gk_iload C dL_law_697 rfl ?_
  refine gk_iconst C dL_law_699 ?_
  refine gk_iadd C dL_law_700 ?_
  refine gk_sld CL dL_law_701 (by omega) (by omega) ?_
  refine gk_aload_n C dL_law_702 rfl ?_
  refine gk_iload C dL_law_703 rfl ?_
  refine gk_iconst C dL_law_705 ?_
  refine gk_iadd C dL_law_706 ?_
  refine gk_sld CL dL_law_707 (by omega) (by omega) ?_
  refine gk_callV C o_X5_follow k_L_126 dL_law_708 (Ct.frM hd3 hdm3 hr) (hU_r hd3 (hU_l (mo_obj IMm))) rfl rfl rfl ⟨Nat.le_of_ble_eq_true rfl, Nat.le_of_ble_eq_true rfl⟩ ⟨by show k + 4 + 0 ≤ 601024; omega, by show n + 28 + 0 ≤ 7293033; omega⟩ (by exact Nat.le_of_ble_eq_true rfl) (fun _ _ z => by obtain ⟨_, z, _⟩ := z; exact z.elim) (fun v_708 h_708 p_708 => ?_)
  obtain ⟨h4, ⟨b0, s2, rfl, rfl, hm⟩, hd4, hdm4, rfl⟩ := p_708
  dsimp only [gk_push]
  obtain ⟨y1, y2, y3⟩ := hrel b0 s2 hm
  refine gk_istore_7 C rfl (by exact Nat.le_of_ble_eq_true rfl) dL_law_711 ?_
  refine gk_aload_n C dL_law_713 rfl ?_
  refine gk_callV C o_X5_thrown k_L_99 dL_law_714 (Ct.frM hd4 hdm4 (m_thrown hfl IMm)) (hU_r hd4 (hU_l (mo_obj IMm))) rfl rfl rfl ⟨Nat.le_of_ble_eq_true rfl, Nat.le_of_ble_eq_true rfl⟩ ⟨by show k + 4 + 0 + 0 ≤ 601024; omega, by show n + 28 + 0 + 0 ≤ 7293033; omega⟩ (by exact Nat.le_of_ble_eq_true rfl) (fun _ _ z => by obtain ⟨_, z, _⟩ := z; exact z.elim) (fun v_714 h_714 p_714 => ?_)
  obtain ⟨h5, ⟨rfl, rfl⟩, hd5, hdm5, rfl⟩ := p_714
  dsimp only [gk_push]
  rw [y1]
  refine gk_iload C dL_law_717 rfl ?_
  refine gk_icmp_eq C (tgt := 724) (by omega) (by omega) dL_law_719 (by decide) (fun c_719 => ?_) (fun c_719 => ?_)
  · refine gk_iload C dL_law_724 rfl ?_
    refine gk_if_ne C (tgt := 741) (by omega) dL_law_726 (by decide) (fun c_726 => ?_) (fun c_726 => ?_)
    · refine gk_goto C (tgt := 1733) dL_law_741 (by decide) ?_
      exact nx X2 s2 _ f2 g _ _ _ _ y3 hset_eq ((hset_ne (Ne.symm hne)).trans hV) hd5 hdm5 (by show k + 4 + 0 + 0 ≤ k + 40; omega) (by show n + 28 + 0 + 0 ≤ n + 1000; omega)
    · obtain ⟨y4, y5⟩ := y2 c_726
      refine gk_aload_n C dL_law_729 rfl ?_
      refine gk_iconst C dL_law_730 ?_
      refine gk_lald C dL_law_731 (hU_r hd5 (hU_r hdm5 hset_eq)) (by omega) (by omega) ?_
      rw [y4]
      refine gk_iload C dL_law_732 rfl ?_
      refine gk_i2l C (by omega) dL_law_734 ?_
      refine gk_lcmp C (by omega) (by omega) dL_law_735 (fun zz z1 z3 z4 => ?_)
      refine gk_if_eq C (tgt := 741) (by omega) dL_law_736 (by decide) (fun c_736 => ?_) (fun c_736 => ?_)
      · refine gk_goto C (tgt := 1733) dL_law_741 (by decide) ?_
        exact nx X2 s2 _ f2 g _ _ _ _ y3 hset_eq ((hset_ne (Ne.symm hne)).trans hV) hd5 hdm5 (by show k + 4 + 0 + 0 ≤ k + 40; omega) (by show n + 28 + 0 + 0 ≤ n + 1000; omega)
      · exact absurd (z3.mpr (by omega)) c_736
  · exact absurd rfl c_719

set_option maxRecDepth 100000 in
set_option maxHeartbeats 4000000 in
theorem lc_drop {l : Launch} {Γ : GA} {nm : String} {G : GP} {sb ls : Nat} {xs : Nat → Int32} (CL : CxL l Γ (m_law nm) G sb ls xs) (hfl : l.stackTraces = false) {x o od c : Nat} {i : Int} {k n : Nat} {X W : Hp} {adm : Nat → Nat} {s : MS} {f : Int → Int} {g : Int → UInt64} {u0 v0 : Option Value} {MP : Int → MS → Prop} (IMm : IM adm) (hW : W o = some (aL 1 f)) (hV : W od = some (aD 1 g)) (hne : o ≠ od) (hdX : hdj X (hU (HM adm s) W)) (hdm : hdj (HM adm s) W) (hi : 0 ≤ i ∧ i + 5 ≤ ls) (hls : ls ≤ 2560) (hk : k + 100 ≤ 601024 ∧ n + 2000 ≤ 7293033)
    (hw : CtH l Γ m_L_drop hh_L_drop [.ref x, .ref o] (hU X (hU (HM adm s) W)) (fun v h' => ∃ (kk : Int) (X2 : Hp) (f2 : Int → Int), v = some (iv kk) ∧ (0 ≤ kk ∧ kk ≤ 3) ∧ (∀ b s2, MP b s2 → s2 39 0 = kk ∧ (kk = 0 → f2 0 = b ∧ (-2147483648 ≤ b ∧ b ≤ 2147483647)) ∧ LX Γ x (c + 1) X2 s2) ∧ hdj X2 (hU (HM adm s) W) ∧ h' = hU X2 (hset (hU (HM adm s) W) o (aL 1 f2))))
    (hr : Ct l Γ m_X5_drop [.ref (adm 40)] (HM adm s) (fun v h' => ∃ (b : Int) (s2 : MS), v = some (iv b) ∧ h' = HM adm s2 ∧ MP b s2) (fun _ _ => False))
    (nx : ∀ (X2 : Hp) (s2 : MS) (W2 : Hp) (f2 : Int → Int) (g2 : Int → UInt64) (k2 n2 : Nat) (u v : Option Value), LX Γ x (c + 1) X2 s2 → W2 o = some (aL 1 f2) → W2 od = some (aD 1 g2) → hdj X2 (hU (HM adm s2) W2) → hdj (HM adm s2) W2 → k2 ≤ k + 40 → n2 ≤ n + 1000 → G 1733 [some (.ref sb), some (.ref x), some (.ref (adm 40)), some (.ref o), some (.ref od), some (iv i), u, v] [] (hU X2 (hU (HM adm s2) W2)) k2 n2) :
    G 744 [some (.ref sb), some (.ref x), some (.ref (adm 40)), some (.ref o), some (.ref od), some (iv i), u0, v0] [] (hU X (hU (HM adm s) W)) k n := by
  have C := CL.cx
  refine gk_aload_n C dL_law_744 rfl ?_
  refine gk_aload_n C dL_law_745 rfl ?_
  refine gk_callSH C o_L_drop k_L_127 dL_law_746 hw rfl rfl ⟨Nat.le_of_ble_eq_true rfl, Nat.le_of_ble_eq_true rfl⟩ ⟨by show k + 1 ≤ 601024; omega, by show n + 6 ≤ 7293033; omega⟩ (by exact Nat.le_of_ble_eq_true rfl) (fun v_746 h_746 p_746 => ?_)
  obtain ⟨kk, X2, f2, rfl, hkk, hrel, hd2, rfl⟩ := p_746
  dsimp only [gk_push]
  have hd3 := hdj_set (e := aL 1 f2) hd2 (hU_r hdm hW)
  rw [hU_setR (hdm.no hW)] at hd3
  have hdm3 := hdj_set (e := aL 1 f2) hdm hW
  refine gi_cast (congrArg (hU X2) (hU_setR (hdm.no hW))) ?_
  refine gk_istore_6 C rfl (by exact Nat.le_of_ble_eq_true rfl) dL_law_749 ?_
  refine gk_aload_n C dL_law_751 rfl ?_
  refine gk_callV C o_X5_drop k_L_130 dL_law_752 (Ct.frM hd3 hdm3 hr) (hU_r hd3 (hU_l (mo_obj IMm))) rfl rfl rfl ⟨Nat.le_of_ble_eq_true rfl, Nat.le_of_ble_eq_true rfl⟩ ⟨by show k + 1 + 0 ≤ 601024; omega, by show n + 6 + 0 ≤ 7293033; omega⟩ (by exact Nat.le_of_ble_eq_true rfl) (fun _ _ z => by obtain ⟨_, z, _⟩ := z; exact z.elim) (fun v_752 h_752 p_752 => ?_)
  obtain ⟨h4, ⟨b0, s2, rfl, rfl, hm⟩, hd4, hdm4, rfl⟩ := p_752
  dsimp only [gk_push]
  obtain ⟨y1, y2, y3⟩ := hrel b0 s2 hm
  refine gk_istore_7 C rfl (by exact Nat.le_of_ble_eq_true rfl) dL_law_755 ?_
  refine gk_aload_n C dL_law_757 rfl ?_
  refine gk_callV C o_X5_thrown k_L_99 dL_law_758 (Ct.frM hd4 hdm4 (m_thrown hfl IMm)) (hU_r hd4 (hU_l (mo_obj IMm))) rfl rfl rfl ⟨Nat.le_of_ble_eq_true rfl, Nat.le_of_ble_eq_true rfl⟩ ⟨by show k + 1 + 0 + 0 ≤ 601024; omega, by show n + 6 + 0 + 0 ≤ 7293033; omega⟩ (by exact Nat.le_of_ble_eq_true rfl) (fun _ _ z => by obtain ⟨_, z, _⟩ := z; exact z.elim) (fun v_758 h_758 p_758 => ?_)
  obtain ⟨h5, ⟨rfl, rfl⟩, hd5, hdm5, rfl⟩ := p_758
  dsimp only [gk_push]
  rw [y1]
  refine gk_iload C dL_law_761 rfl ?_
  refine gk_icmp_eq C (tgt := 768) (by omega) (by omega) dL_law_763 (by decide) (fun c_763 => ?_) (fun c_763 => ?_)
  · refine gk_iload C dL_law_768 rfl ?_
    refine gk_if_ne C (tgt := 785) (by omega) dL_law_770 (by decide) (fun c_770 => ?_) (fun c_770 => ?_)
    · refine gk_goto C (tgt := 1733) dL_law_785 (by decide) ?_
      exact nx X2 s2 _ f2 g _ _ _ _ y3 hset_eq ((hset_ne (Ne.symm hne)).trans hV) hd5 hdm5 (by show k + 1 + 0 + 0 ≤ k + 40; omega) (by show n + 6 + 0 + 0 ≤ n + 1000; omega)
    · obtain ⟨y4, y5⟩ := y2 c_770
      refine gk_aload_n C dL_law_773 rfl ?_
      refine gk_iconst C dL_law_774 ?_
      refine gk_lald C dL_law_775 (hU_r hd5 (hU_r hdm5 hset_eq)) (by omega) (by omega) ?_
      rw [y4]
      refine gk_iload C dL_law_776 rfl ?_
      refine gk_i2l C (by omega) dL_law_778 ?_
      refine gk_lcmp C (by omega) (by omega) dL_law_779 (fun zz z1 z3 z4 => ?_)
      refine gk_if_eq C (tgt := 785) (by omega) dL_law_780 (by decide) (fun c_780 => ?_) (fun c_780 => ?_)
      · refine gk_goto C (tgt := 1733) dL_law_785 (by decide) ?_
        exact nx X2 s2 _ f2 g _ _ _ _ y3 hset_eq ((hset_ne (Ne.symm hne)).trans hV) hd5 hdm5 (by show k + 1 + 0 + 0 ≤ k + 40; omega) (by show n + 6 + 0 + 0 ≤ n + 1000; omega)
      · exact absurd (z3.mpr (by omega)) c_780
  · exact absurd rfl c_763

set_option maxRecDepth 100000 in
set_option maxHeartbeats 4000000 in
theorem lc_time {l : Launch} {Γ : GA} {nm : String} {G : GP} {sb ls : Nat} {xs : Nat → Int32} (CL : CxL l Γ (m_law nm) G sb ls xs) (hfl : l.stackTraces = false) {x o od c : Nat} {i : Int} {k n : Nat} {X W : Hp} {adm : Nat → Nat} {s : MS} {f : Int → Int} {g : Int → UInt64} {u0 v0 : Option Value} {MP : Int → MS → Prop} (IMm : IM adm) (hW : W o = some (aL 1 f)) (hV : W od = some (aD 1 g)) (hne : o ≠ od) (hdX : hdj X (hU (HM adm s) W)) (hdm : hdj (HM adm s) W) (hi : 0 ≤ i ∧ i + 5 ≤ ls) (hls : ls ≤ 2560) (hk : k + 100 ≤ 601024 ∧ n + 2000 ≤ 7293033)
    {fs : List Value} (hobj : X x = some (oO 5 fs)) (hw : Ct l Γ m_X4_time [.ref x] X (fun v h' => ∃ r : Int, v = some (jv r) ∧ (-9223372036854775808 ≤ r ∧ r ≤ 9223372036854775807) ∧ ∀ b s2, MP b s2 → r = b ∧ LX Γ x (c + 1) h' s2) (fun _ _ => False))
    (hr : Ct l Γ m_X5_time [.ref (adm 40)] (HM adm s) (fun v h' => ∃ (b : Int) (s2 : MS), v = some (jv b) ∧ h' = HM adm s2 ∧ MP b s2) (fun _ _ => False))
    (nx : ∀ (X2 : Hp) (s2 : MS) (W2 : Hp) (f2 : Int → Int) (g2 : Int → UInt64) (k2 n2 : Nat) (u v : Option Value), LX Γ x (c + 1) X2 s2 → W2 o = some (aL 1 f2) → W2 od = some (aD 1 g2) → hdj X2 (hU (HM adm s2) W2) → hdj (HM adm s2) W2 → k2 ≤ k + 40 → n2 ≤ n + 1000 → G 1733 [some (.ref sb), some (.ref x), some (.ref (adm 40)), some (.ref o), some (.ref od), some (iv i), u, v] [] (hU X2 (hU (HM adm s2) W2)) k2 n2) :
    G 788 [some (.ref sb), some (.ref x), some (.ref (adm 40)), some (.ref o), some (.ref od), some (iv i), u0, v0] [] (hU X (hU (HM adm s) W)) k n := by
  have C := CL.cx
  refine gk_aload_n C dL_law_788 rfl ?_
  refine gk_callV C o_X4_time k_L_131 dL_law_789 (Ct.fr hdX hw) (hU_l hobj) rfl rfl rfl ⟨Nat.le_of_ble_eq_true rfl, Nat.le_of_ble_eq_true rfl⟩ ⟨by show k + 0 ≤ 601024; omega, by show n + 0 ≤ 7293033; omega⟩ (by exact Nat.le_of_ble_eq_true rfl) (fun _ _ z => by obtain ⟨_, z, _⟩ := z; exact z.elim) (fun v_789 h_789 p_789 => ?_)
  obtain ⟨X2, ⟨r, rfl, rr, pr⟩, hd3, rfl⟩ := p_789
  dsimp only [gk_push]
  refine gk_aload_n C dL_law_792 rfl ?_
  refine gk_callV C o_X5_time k_L_135 dL_law_793 (Ct.frM hd3 hdm hr) (hU_r hd3 (hU_l (mo_obj IMm))) rfl rfl rfl ⟨Nat.le_of_ble_eq_true rfl, Nat.le_of_ble_eq_true rfl⟩ ⟨by show k + 0 + 0 ≤ 601024; omega, by show n + 0 + 0 ≤ 7293033; omega⟩ (by exact Nat.le_of_ble_eq_true rfl) (fun _ _ z => by obtain ⟨_, z, _⟩ := z; exact z.elim) (fun v_793 h_793 p_793 => ?_)
  obtain ⟨h4, ⟨b0, s2, rfl, rfl, hm⟩, hd4, hdm4, rfl⟩ := p_793
  dsimp only [gk_push]
  obtain ⟨y1, y3⟩ := pr b0 s2 hm
  subst y1
  refine gk_lcmp C (by omega) (by omega) dL_law_796 (fun zz z1 z3 z4 => ?_)
  refine gk_if_eq C (tgt := 1733) (by omega) dL_law_797 (by decide) (fun c_797 => ?_) (fun c_797 => ?_)
  · exact nx X2 s2 _ f g _ _ _ _ y3 hW hV hd4 hdm4 (by show k + 0 + 0 ≤ k + 40; omega) (by show n + 0 + 0 ≤ n + 1000; omega)
  · exact absurd (z3.mpr rfl) c_797

set_option maxRecDepth 100000 in
set_option maxHeartbeats 4000000 in
theorem lc_piper {l : Launch} {Γ : GA} {nm : String} {G : GP} {sb ls : Nat} {xs : Nat → Int32} (CL : CxL l Γ (m_law nm) G sb ls xs) (hfl : l.stackTraces = false) {x o od c : Nat} {i : Int} {k n : Nat} {X W : Hp} {adm : Nat → Nat} {s : MS} {f : Int → Int} {g : Int → UInt64} {u0 v0 : Option Value} {MP : Int → MS → Prop} (IMm : IM adm) (hW : W o = some (aL 1 f)) (hV : W od = some (aD 1 g)) (hne : o ≠ od) (hdX : hdj X (hU (HM adm s) W)) (hdm : hdj (HM adm s) W) (hi : 0 ≤ i ∧ i + 5 ≤ ls) (hls : ls ≤ 2560) (hk : k + 100 ≤ 601024 ∧ n + 2000 ≤ 7293033)
    (hw : CtH l Γ m_L_piper hh_L_piper [.ref x, iv (xz xs (i + 1)), iv (xz xs (i + 2)), iv (xz xs (i + 3)), .ref o] (hU X (hU (HM adm s) W)) (fun v h' => ∃ (kk : Int) (X2 : Hp) (f2 : Int → Int), v = some (iv kk) ∧ (0 ≤ kk ∧ kk ≤ 3) ∧ (∀ b s2, MP b s2 → s2 39 0 = kk ∧ (kk = 0 → f2 0 = b ∧ (-2147483648 ≤ b ∧ b ≤ 2147483647)) ∧ LX Γ x (c + 1) X2 s2) ∧ hdj X2 (hU (HM adm s) W) ∧ h' = hU X2 (hset (hU (HM adm s) W) o (aL 1 f2))))
    (hr : Ct l Γ m_X5_piper [.ref (adm 40), iv (xz xs (i + 1)), iv (xz xs (i + 2)), iv (xz xs (i + 3))] (HM adm s) (fun v h' => ∃ (b : Int) (s2 : MS), v = some (iv b) ∧ h' = HM adm s2 ∧ MP b s2) (fun _ _ => False))
    (nx : ∀ (X2 : Hp) (s2 : MS) (W2 : Hp) (f2 : Int → Int) (g2 : Int → UInt64) (k2 n2 : Nat) (u v : Option Value), LX Γ x (c + 1) X2 s2 → W2 o = some (aL 1 f2) → W2 od = some (aD 1 g2) → hdj X2 (hU (HM adm s2) W2) → hdj (HM adm s2) W2 → k2 ≤ k + 40 → n2 ≤ n + 1000 → G 1733 [some (.ref sb), some (.ref x), some (.ref (adm 40)), some (.ref o), some (.ref od), some (iv i), u, v] [] (hU X2 (hU (HM adm s2) W2)) k2 n2) :
    G 802 [some (.ref sb), some (.ref x), some (.ref (adm 40)), some (.ref o), some (.ref od), some (iv i), u0, v0] [] (hU X (hU (HM adm s) W)) k n := by
  have C := CL.cx
  have r1 := xz_rng xs (i + 1)
  have r2 := xz_rng xs (i + 2)
  have r3 := xz_rng xs (i + 3)
  refine gk_aload_n C dL_law_802 rfl ?_
  refine gk_aload_n C dL_law_803 rfl ?_
  refine gk_iload C dL_law_804 rfl ?_
  refine gk_iconst C dL_law_806 ?_
  refine gk_iadd C dL_law_807 ?_
  refine gk_sld CL dL_law_808 (by omega) (by omega) ?_
  refine gk_aload_n C dL_law_809 rfl ?_
  refine gk_iload C dL_law_810 rfl ?_
  refine gk_iconst C dL_law_812 ?_
  refine gk_iadd C dL_law_813 ?_
  refine gk_sld CL dL_law_814 (by omega) (by omega) ?_
  refine gk_aload_n C dL_law_815 rfl ?_
  refine gk_iload C dL_law_816 rfl ?_
  refine gk_iconst C dL_law_818 ?_
  refine gk_iadd C dL_law_819 ?_
  refine gk_sld CL dL_law_820 (by omega) (by omega) ?_
  refine gk_aload_n C dL_law_821 rfl ?_
  refine gk_callSH C o_L_piper k_L_136 dL_law_822 hw rfl rfl ⟨Nat.le_of_ble_eq_true rfl, Nat.le_of_ble_eq_true rfl⟩ ⟨by show k + 4 ≤ 601024; omega, by show n + 29 ≤ 7293033; omega⟩ (by exact Nat.le_of_ble_eq_true rfl) (fun v_822 h_822 p_822 => ?_)
  obtain ⟨kk, X2, f2, rfl, hkk, hrel, hd2, rfl⟩ := p_822
  dsimp only [gk_push]
  have hd3 := hdj_set (e := aL 1 f2) hd2 (hU_r hdm hW)
  rw [hU_setR (hdm.no hW)] at hd3
  have hdm3 := hdj_set (e := aL 1 f2) hdm hW
  refine gi_cast (congrArg (hU X2) (hU_setR (hdm.no hW))) ?_
  refine gk_istore_6 C rfl (by exact Nat.le_of_ble_eq_true rfl) dL_law_825 ?_
  refine gk_aload_n C dL_law_827 rfl ?_
  refine gk_aload_n C dL_law_828 rfl ?_
  refine gk_iload C dL_law_829 rfl ?_
  refine gk_iconst C dL_law_831 ?_
  refine gk_iadd C dL_law_832 ?_
  refine gk_sld CL dL_law_833 (by omega) (by omega) ?_
  refine gk_aload_n C dL_law_834 rfl ?_
  refine gk_iload C dL_law_835 rfl ?_
  refine gk_iconst C dL_law_837 ?_
  refine gk_iadd C dL_law_838 ?_
  refine gk_sld CL dL_law_839 (by omega) (by omega) ?_
  refine gk_aload_n C dL_law_840 rfl ?_
  refine gk_iload C dL_law_841 rfl ?_
  refine gk_iconst C dL_law_843 ?_
  refine gk_iadd C dL_law_844 ?_
  refine gk_sld CL dL_law_845 (by omega) (by omega) ?_
  refine gk_callV C o_X5_piper k_L_138 dL_law_846 (Ct.frM hd3 hdm3 hr) (hU_r hd3 (hU_l (mo_obj IMm))) rfl rfl rfl ⟨Nat.le_of_ble_eq_true rfl, Nat.le_of_ble_eq_true rfl⟩ ⟨by show k + 4 + 0 ≤ 601024; omega, by show n + 29 + 0 ≤ 7293033; omega⟩ (by exact Nat.le_of_ble_eq_true rfl) (fun _ _ z => by obtain ⟨_, z, _⟩ := z; exact z.elim) (fun v_846 h_846 p_846 => ?_)
  obtain ⟨h4, ⟨b0, s2, rfl, rfl, hm⟩, hd4, hdm4, rfl⟩ := p_846
  dsimp only [gk_push]
  obtain ⟨y1, y2, y3⟩ := hrel b0 s2 hm
  refine gk_istore_7 C rfl (by exact Nat.le_of_ble_eq_true rfl) dL_law_849 ?_
  refine gk_aload_n C dL_law_851 rfl ?_
  refine gk_callV C o_X5_thrown k_L_99 dL_law_852 (Ct.frM hd4 hdm4 (m_thrown hfl IMm)) (hU_r hd4 (hU_l (mo_obj IMm))) rfl rfl rfl ⟨Nat.le_of_ble_eq_true rfl, Nat.le_of_ble_eq_true rfl⟩ ⟨by show k + 4 + 0 + 0 ≤ 601024; omega, by show n + 29 + 0 + 0 ≤ 7293033; omega⟩ (by exact Nat.le_of_ble_eq_true rfl) (fun _ _ z => by obtain ⟨_, z, _⟩ := z; exact z.elim) (fun v_852 h_852 p_852 => ?_)
  obtain ⟨h5, ⟨rfl, rfl⟩, hd5, hdm5, rfl⟩ := p_852
  dsimp only [gk_push]
  rw [y1]
  refine gk_iload C dL_law_855 rfl ?_
  refine gk_icmp_eq C (tgt := 862) (by omega) (by omega) dL_law_857 (by decide) (fun c_857 => ?_) (fun c_857 => ?_)
  · refine gk_iload C dL_law_862 rfl ?_
    refine gk_if_ne C (tgt := 879) (by omega) dL_law_864 (by decide) (fun c_864 => ?_) (fun c_864 => ?_)
    · refine gk_goto C (tgt := 1733) dL_law_879 (by decide) ?_
      exact nx X2 s2 _ f2 g _ _ _ _ y3 hset_eq ((hset_ne (Ne.symm hne)).trans hV) hd5 hdm5 (by show k + 4 + 0 + 0 ≤ k + 40; omega) (by show n + 29 + 0 + 0 ≤ n + 1000; omega)
    · obtain ⟨y4, y5⟩ := y2 c_864
      refine gk_aload_n C dL_law_867 rfl ?_
      refine gk_iconst C dL_law_868 ?_
      refine gk_lald C dL_law_869 (hU_r hd5 (hU_r hdm5 hset_eq)) (by omega) (by omega) ?_
      rw [y4]
      refine gk_iload C dL_law_870 rfl ?_
      refine gk_i2l C (by omega) dL_law_872 ?_
      refine gk_lcmp C (by omega) (by omega) dL_law_873 (fun zz z1 z3 z4 => ?_)
      refine gk_if_eq C (tgt := 879) (by omega) dL_law_874 (by decide) (fun c_874 => ?_) (fun c_874 => ?_)
      · refine gk_goto C (tgt := 1733) dL_law_879 (by decide) ?_
        exact nx X2 s2 _ f2 g _ _ _ _ y3 hset_eq ((hset_ne (Ne.symm hne)).trans hV) hd5 hdm5 (by show k + 4 + 0 + 0 ≤ k + 40; omega) (by show n + 29 + 0 + 0 ≤ n + 1000; omega)
      · exact absurd (z3.mpr (by omega)) c_874
  · exact absurd rfl c_857

set_option maxRecDepth 100000 in
set_option maxHeartbeats 4000000 in
theorem lc_seat {l : Launch} {Γ : GA} {nm : String} {G : GP} {sb ls : Nat} {xs : Nat → Int32} (CL : CxL l Γ (m_law nm) G sb ls xs) (hfl : l.stackTraces = false) {x o od c : Nat} {i : Int} {k n : Nat} {X W : Hp} {adm : Nat → Nat} {s : MS} {f : Int → Int} {g : Int → UInt64} {u0 v0 : Option Value} {MP : Int → MS → Prop} (IMm : IM adm) (hW : W o = some (aL 1 f)) (hV : W od = some (aD 1 g)) (hne : o ≠ od) (hdX : hdj X (hU (HM adm s) W)) (hdm : hdj (HM adm s) W) (hi : 0 ≤ i ∧ i + 5 ≤ ls) (hls : ls ≤ 2560) (hk : k + 100 ≤ 601024 ∧ n + 2000 ≤ 7293033)
    (hw : CtH l Γ m_L_seat hh_L_seat [.ref x, iv (xz xs (i + 1)), iv (xz xs (i + 2)), .ref o] (hU X (hU (HM adm s) W)) (fun v h' => ∃ (kk : Int) (X2 : Hp) (f2 : Int → Int), v = some (iv kk) ∧ (0 ≤ kk ∧ kk ≤ 3) ∧ (∀ b s2, MP b s2 → s2 39 0 = kk ∧ (kk = 0 → f2 0 = b ∧ (-2147483648 ≤ b ∧ b ≤ 2147483647)) ∧ LX Γ x (c + 1) X2 s2) ∧ hdj X2 (hU (HM adm s) W) ∧ h' = hU X2 (hset (hU (HM adm s) W) o (aL 1 f2))))
    (hr : Ct l Γ m_X5_seat [.ref (adm 40), iv (xz xs (i + 1)), iv (xz xs (i + 2))] (HM adm s) (fun v h' => ∃ (b : Int) (s2 : MS), v = some (iv b) ∧ h' = HM adm s2 ∧ MP b s2) (fun _ _ => False))
    (nx : ∀ (X2 : Hp) (s2 : MS) (W2 : Hp) (f2 : Int → Int) (g2 : Int → UInt64) (k2 n2 : Nat) (u v : Option Value), LX Γ x (c + 1) X2 s2 → W2 o = some (aL 1 f2) → W2 od = some (aD 1 g2) → hdj X2 (hU (HM adm s2) W2) → hdj (HM adm s2) W2 → k2 ≤ k + 40 → n2 ≤ n + 1000 → G 1733 [some (.ref sb), some (.ref x), some (.ref (adm 40)), some (.ref o), some (.ref od), some (iv i), u, v] [] (hU X2 (hU (HM adm s2) W2)) k2 n2) :
    G 882 [some (.ref sb), some (.ref x), some (.ref (adm 40)), some (.ref o), some (.ref od), some (iv i), u0, v0] [] (hU X (hU (HM adm s) W)) k n := by
  have C := CL.cx
  have r1 := xz_rng xs (i + 1)
  have r2 := xz_rng xs (i + 2)
  refine gk_aload_n C dL_law_882 rfl ?_
  refine gk_aload_n C dL_law_883 rfl ?_
  refine gk_iload C dL_law_884 rfl ?_
  refine gk_iconst C dL_law_886 ?_
  refine gk_iadd C dL_law_887 ?_
  refine gk_sld CL dL_law_888 (by omega) (by omega) ?_
  refine gk_aload_n C dL_law_889 rfl ?_
  refine gk_iload C dL_law_890 rfl ?_
  refine gk_iconst C dL_law_892 ?_
  refine gk_iadd C dL_law_893 ?_
  refine gk_sld CL dL_law_894 (by omega) (by omega) ?_
  refine gk_aload_n C dL_law_895 rfl ?_
  refine gk_callSH C o_L_seat k_L_139 dL_law_896 hw rfl rfl ⟨Nat.le_of_ble_eq_true rfl, Nat.le_of_ble_eq_true rfl⟩ ⟨by show k + 2 ≤ 601024; omega, by show n + 12 ≤ 7293033; omega⟩ (by exact Nat.le_of_ble_eq_true rfl) (fun v_896 h_896 p_896 => ?_)
  obtain ⟨kk, X2, f2, rfl, hkk, hrel, hd2, rfl⟩ := p_896
  dsimp only [gk_push]
  have hd3 := hdj_set (e := aL 1 f2) hd2 (hU_r hdm hW)
  rw [hU_setR (hdm.no hW)] at hd3
  have hdm3 := hdj_set (e := aL 1 f2) hdm hW
  refine gi_cast (congrArg (hU X2) (hU_setR (hdm.no hW))) ?_
  refine gk_istore_6 C rfl (by exact Nat.le_of_ble_eq_true rfl) dL_law_899 ?_
  refine gk_aload_n C dL_law_901 rfl ?_
  refine gk_aload_n C dL_law_902 rfl ?_
  refine gk_iload C dL_law_903 rfl ?_
  refine gk_iconst C dL_law_905 ?_
  refine gk_iadd C dL_law_906 ?_
  refine gk_sld CL dL_law_907 (by omega) (by omega) ?_
  refine gk_aload_n C dL_law_908 rfl ?_
  refine gk_iload C dL_law_909 rfl ?_
  refine gk_iconst C dL_law_911 ?_
  refine gk_iadd C dL_law_912 ?_
  refine gk_sld CL dL_law_913 (by omega) (by omega) ?_
  refine gk_callV C o_X5_seat k_L_141 dL_law_914 (Ct.frM hd3 hdm3 hr) (hU_r hd3 (hU_l (mo_obj IMm))) rfl rfl rfl ⟨Nat.le_of_ble_eq_true rfl, Nat.le_of_ble_eq_true rfl⟩ ⟨by show k + 2 + 0 ≤ 601024; omega, by show n + 12 + 0 ≤ 7293033; omega⟩ (by exact Nat.le_of_ble_eq_true rfl) (fun _ _ z => by obtain ⟨_, z, _⟩ := z; exact z.elim) (fun v_914 h_914 p_914 => ?_)
  obtain ⟨h4, ⟨b0, s2, rfl, rfl, hm⟩, hd4, hdm4, rfl⟩ := p_914
  dsimp only [gk_push]
  obtain ⟨y1, y2, y3⟩ := hrel b0 s2 hm
  refine gk_istore_7 C rfl (by exact Nat.le_of_ble_eq_true rfl) dL_law_917 ?_
  refine gk_aload_n C dL_law_919 rfl ?_
  refine gk_callV C o_X5_thrown k_L_99 dL_law_920 (Ct.frM hd4 hdm4 (m_thrown hfl IMm)) (hU_r hd4 (hU_l (mo_obj IMm))) rfl rfl rfl ⟨Nat.le_of_ble_eq_true rfl, Nat.le_of_ble_eq_true rfl⟩ ⟨by show k + 2 + 0 + 0 ≤ 601024; omega, by show n + 12 + 0 + 0 ≤ 7293033; omega⟩ (by exact Nat.le_of_ble_eq_true rfl) (fun _ _ z => by obtain ⟨_, z, _⟩ := z; exact z.elim) (fun v_920 h_920 p_920 => ?_)
  obtain ⟨h5, ⟨rfl, rfl⟩, hd5, hdm5, rfl⟩ := p_920
  dsimp only [gk_push]
  rw [y1]
  refine gk_iload C dL_law_923 rfl ?_
  refine gk_icmp_eq C (tgt := 930) (by omega) (by omega) dL_law_925 (by decide) (fun c_925 => ?_) (fun c_925 => ?_)
  · refine gk_iload C dL_law_930 rfl ?_
    refine gk_if_ne C (tgt := 947) (by omega) dL_law_932 (by decide) (fun c_932 => ?_) (fun c_932 => ?_)
    · refine gk_goto C (tgt := 1733) dL_law_947 (by decide) ?_
      exact nx X2 s2 _ f2 g _ _ _ _ y3 hset_eq ((hset_ne (Ne.symm hne)).trans hV) hd5 hdm5 (by show k + 2 + 0 + 0 ≤ k + 40; omega) (by show n + 12 + 0 + 0 ≤ n + 1000; omega)
    · obtain ⟨y4, y5⟩ := y2 c_932
      refine gk_aload_n C dL_law_935 rfl ?_
      refine gk_iconst C dL_law_936 ?_
      refine gk_lald C dL_law_937 (hU_r hd5 (hU_r hdm5 hset_eq)) (by omega) (by omega) ?_
      rw [y4]
      refine gk_iload C dL_law_938 rfl ?_
      refine gk_i2l C (by omega) dL_law_940 ?_
      refine gk_lcmp C (by omega) (by omega) dL_law_941 (fun zz z1 z3 z4 => ?_)
      refine gk_if_eq C (tgt := 947) (by omega) dL_law_942 (by decide) (fun c_942 => ?_) (fun c_942 => ?_)
      · refine gk_goto C (tgt := 1733) dL_law_947 (by decide) ?_
        exact nx X2 s2 _ f2 g _ _ _ _ y3 hset_eq ((hset_ne (Ne.symm hne)).trans hV) hd5 hdm5 (by show k + 2 + 0 + 0 ≤ k + 40; omega) (by show n + 12 + 0 + 0 ≤ n + 1000; omega)
      · exact absurd (z3.mpr (by omega)) c_942
  · exact absurd rfl c_925

set_option maxRecDepth 100000 in
set_option maxHeartbeats 4000000 in
theorem lc_rest {l : Launch} {Γ : GA} {nm : String} {G : GP} {sb ls : Nat} {xs : Nat → Int32} (CL : CxL l Γ (m_law nm) G sb ls xs) (hfl : l.stackTraces = false) {x o od c : Nat} {i : Int} {k n : Nat} {X W : Hp} {adm : Nat → Nat} {s : MS} {f : Int → Int} {g : Int → UInt64} {u0 v0 : Option Value} {MP : Int → MS → Prop} (IMm : IM adm) (hW : W o = some (aL 1 f)) (hV : W od = some (aD 1 g)) (hne : o ≠ od) (hdX : hdj X (hU (HM adm s) W)) (hdm : hdj (HM adm s) W) (hi : 0 ≤ i ∧ i + 5 ≤ ls) (hls : ls ≤ 2560) (hk : k + 100 ≤ 601024 ∧ n + 2000 ≤ 7293033) {bz : Int} (hbz : (xz xs (i + 2) = 0 ∧ bz = 0) ∨ (¬ xz xs (i + 2) = 0 ∧ bz = 1))
    (hw : CtH l Γ m_L_rest hh_L_rest [.ref x, iv (xz xs (i + 1)), iv (bz), .ref o] (hU X (hU (HM adm s) W)) (fun v h' => ∃ (kk : Int) (X2 : Hp) (f2 : Int → Int), v = some (iv kk) ∧ (0 ≤ kk ∧ kk ≤ 3) ∧ (∀ b s2, MP b s2 → s2 39 0 = kk ∧ (kk = 0 → f2 0 = b ∧ (b = 0 ∨ b = 1)) ∧ LX Γ x (c + 1) X2 s2) ∧ hdj X2 (hU (HM adm s) W) ∧ h' = hU X2 (hset (hU (HM adm s) W) o (aL 1 f2))))
    (hr : Ct l Γ m_X5_rest [.ref (adm 40), iv (xz xs (i + 1)), iv (bz)] (HM adm s) (fun v h' => ∃ (b : Int) (s2 : MS), v = some (iv b) ∧ h' = HM adm s2 ∧ MP b s2) (fun _ _ => False))
    (nx : ∀ (X2 : Hp) (s2 : MS) (W2 : Hp) (f2 : Int → Int) (g2 : Int → UInt64) (k2 n2 : Nat) (u v : Option Value), LX Γ x (c + 1) X2 s2 → W2 o = some (aL 1 f2) → W2 od = some (aD 1 g2) → hdj X2 (hU (HM adm s2) W2) → hdj (HM adm s2) W2 → k2 ≤ k + 40 → n2 ≤ n + 1000 → G 1733 [some (.ref sb), some (.ref x), some (.ref (adm 40)), some (.ref o), some (.ref od), some (iv i), u, v] [] (hU X2 (hU (HM adm s2) W2)) k2 n2) :
    G 950 [some (.ref sb), some (.ref x), some (.ref (adm 40)), some (.ref o), some (.ref od), some (iv i), u0, v0] [] (hU X (hU (HM adm s) W)) k n := by
  have C := CL.cx
  have r1 := xz_rng xs (i + 1)
  have r2 := xz_rng xs (i + 2)
  rcases hbz with ⟨hb0, rfl⟩ | ⟨hb0, rfl⟩
  · refine gk_aload_n C dL_law_950 rfl ?_
    refine gk_aload_n C dL_law_951 rfl ?_
    refine gk_iload C dL_law_952 rfl ?_
    refine gk_iconst C dL_law_954 ?_
    refine gk_iadd C dL_law_955 ?_
    refine gk_sld CL dL_law_956 (by omega) (by omega) ?_
    refine gk_aload_n C dL_law_957 rfl ?_
    refine gk_iload C dL_law_958 rfl ?_
    refine gk_iconst C dL_law_960 ?_
    refine gk_iadd C dL_law_961 ?_
    refine gk_sld CL dL_law_962 (by omega) (by omega) ?_
    refine gk_if_eq C (tgt := 970) (by omega) dL_law_963 (by decide) (fun c_963 => ?_) (fun c_963 => ?_)
    · refine gk_iconst C dL_law_970 ?_
      refine gk_aload_n C dL_law_971 rfl ?_
      refine gk_callSH C o_L_rest k_L_142 dL_law_972 hw rfl rfl ⟨Nat.le_of_ble_eq_true rfl, Nat.le_of_ble_eq_true rfl⟩ ⟨by show k + 1 ≤ 601024; omega, by show n + 6 ≤ 7293033; omega⟩ (by exact Nat.le_of_ble_eq_true rfl) (fun v_972 h_972 p_972 => ?_)
      obtain ⟨kk, X2, f2, rfl, hkk, hrel, hd2, rfl⟩ := p_972
      dsimp only [gk_push]
      have hd3 := hdj_set (e := aL 1 f2) hd2 (hU_r hdm hW)
      rw [hU_setR (hdm.no hW)] at hd3
      have hdm3 := hdj_set (e := aL 1 f2) hdm hW
      refine gi_cast (congrArg (hU X2) (hU_setR (hdm.no hW))) ?_
      refine gk_istore_6 C rfl (by exact Nat.le_of_ble_eq_true rfl) dL_law_975 ?_
      refine gk_aload_n C dL_law_977 rfl ?_
      refine gk_aload_n C dL_law_978 rfl ?_
      refine gk_iload C dL_law_979 rfl ?_
      refine gk_iconst C dL_law_981 ?_
      refine gk_iadd C dL_law_982 ?_
      refine gk_sld CL dL_law_983 (by omega) (by omega) ?_
      refine gk_aload_n C dL_law_984 rfl ?_
      refine gk_iload C dL_law_985 rfl ?_
      refine gk_iconst C dL_law_987 ?_
      refine gk_iadd C dL_law_988 ?_
      refine gk_sld CL dL_law_989 (by omega) (by omega) ?_
      refine gk_if_eq C (tgt := 997) (by omega) dL_law_990 (by decide) (fun c_990 => ?_) (fun c_990 => ?_)
      · refine gk_iconst C dL_law_997 ?_
        refine gk_callV C o_X5_rest k_L_144 dL_law_998 (Ct.frM hd3 hdm3 hr) (hU_r hd3 (hU_l (mo_obj IMm))) rfl rfl rfl ⟨Nat.le_of_ble_eq_true rfl, Nat.le_of_ble_eq_true rfl⟩ ⟨by show k + 1 + 0 ≤ 601024; omega, by show n + 6 + 0 ≤ 7293033; omega⟩ (by exact Nat.le_of_ble_eq_true rfl) (fun _ _ z => by obtain ⟨_, z, _⟩ := z; exact z.elim) (fun v_998 h_998 p_998 => ?_)
        obtain ⟨h4, ⟨b0, s2, rfl, rfl, hm⟩, hd4, hdm4, rfl⟩ := p_998
        dsimp only [gk_push]
        obtain ⟨y1, y2, y3⟩ := hrel b0 s2 hm
        refine gk_istore_7 C rfl (by exact Nat.le_of_ble_eq_true rfl) dL_law_1001 ?_
        refine gk_aload_n C dL_law_1003 rfl ?_
        refine gk_callV C o_X5_thrown k_L_99 dL_law_1004 (Ct.frM hd4 hdm4 (m_thrown hfl IMm)) (hU_r hd4 (hU_l (mo_obj IMm))) rfl rfl rfl ⟨Nat.le_of_ble_eq_true rfl, Nat.le_of_ble_eq_true rfl⟩ ⟨by show k + 1 + 0 + 0 ≤ 601024; omega, by show n + 6 + 0 + 0 ≤ 7293033; omega⟩ (by exact Nat.le_of_ble_eq_true rfl) (fun _ _ z => by obtain ⟨_, z, _⟩ := z; exact z.elim) (fun v_1004 h_1004 p_1004 => ?_)
        obtain ⟨h5, ⟨rfl, rfl⟩, hd5, hdm5, rfl⟩ := p_1004
        dsimp only [gk_push]
        rw [y1]
        refine gk_iload C dL_law_1007 rfl ?_
        refine gk_icmp_eq C (tgt := 1014) (by omega) (by omega) dL_law_1009 (by decide) (fun c_1009 => ?_) (fun c_1009 => ?_)
        · refine gk_iload C dL_law_1014 rfl ?_
          refine gk_if_ne C (tgt := 1038) (by omega) dL_law_1016 (by decide) (fun c_1016 => ?_) (fun c_1016 => ?_)
          · refine gk_goto C (tgt := 1733) dL_law_1038 (by decide) ?_
            exact nx X2 s2 _ f2 g _ _ _ _ y3 hset_eq ((hset_ne (Ne.symm hne)).trans hV) hd5 hdm5 (by show k + 1 + 0 + 0 ≤ k + 40; omega) (by show n + 6 + 0 + 0 ≤ n + 1000; omega)
          · obtain ⟨y4, y5⟩ := y2 c_1016
            refine gk_aload_n C dL_law_1019 rfl ?_
            refine gk_iconst C dL_law_1020 ?_
            refine gk_lald C dL_law_1021 (hU_r hd5 (hU_r hdm5 hset_eq)) (by omega) (by omega) ?_
            rw [y4]
            refine gk_iload C dL_law_1022 rfl ?_
            refine gk_if_eq C (tgt := 1031) (by omega) dL_law_1024 (by decide) (fun c_1024 => ?_) (fun c_1024 => ?_)
            · refine gk_lconst C (z := 0) dL_law_1031 (by decide) ?_
              refine gk_lcmp C (by omega) (by omega) dL_law_1032 (fun zz z1 z3 z4 => ?_)
              refine gk_if_eq C (tgt := 1038) (by omega) dL_law_1033 (by decide) (fun c_1033 => ?_) (fun c_1033 => ?_)
              · refine gk_goto C (tgt := 1733) dL_law_1038 (by decide) ?_
                exact nx X2 s2 _ f2 g _ _ _ _ y3 hset_eq ((hset_ne (Ne.symm hne)).trans hV) hd5 hdm5 (by show k + 1 + 0 + 0 ≤ k + 40; omega) (by show n + 6 + 0 + 0 ≤ n + 1000; omega)
              · exact absurd (z3.mpr (by omega)) c_1033
            · refine gk_lconst C (z := 1) dL_law_1027 (by decide) ?_
              refine gk_goto C (tgt := 1032) dL_law_1028 (by decide) ?_
              refine gk_lcmp C (by omega) (by omega) dL_law_1032 (fun zz z1 z3 z4 => ?_)
              refine gk_if_eq C (tgt := 1038) (by omega) dL_law_1033 (by decide) (fun c_1033 => ?_) (fun c_1033 => ?_)
              · refine gk_goto C (tgt := 1733) dL_law_1038 (by decide) ?_
                exact nx X2 s2 _ f2 g _ _ _ _ y3 hset_eq ((hset_ne (Ne.symm hne)).trans hV) hd5 hdm5 (by show k + 1 + 0 + 0 ≤ k + 40; omega) (by show n + 6 + 0 + 0 ≤ n + 1000; omega)
              · exact absurd (z3.mpr (by omega)) c_1033
        · exact absurd rfl c_1009
      · exact absurd hb0 c_990
    · exact absurd hb0 c_963
  · refine gk_aload_n C dL_law_950 rfl ?_
    refine gk_aload_n C dL_law_951 rfl ?_
    refine gk_iload C dL_law_952 rfl ?_
    refine gk_iconst C dL_law_954 ?_
    refine gk_iadd C dL_law_955 ?_
    refine gk_sld CL dL_law_956 (by omega) (by omega) ?_
    refine gk_aload_n C dL_law_957 rfl ?_
    refine gk_iload C dL_law_958 rfl ?_
    refine gk_iconst C dL_law_960 ?_
    refine gk_iadd C dL_law_961 ?_
    refine gk_sld CL dL_law_962 (by omega) (by omega) ?_
    refine gk_if_eq C (tgt := 970) (by omega) dL_law_963 (by decide) (fun c_963 => ?_) (fun c_963 => ?_)
    · exact absurd c_963 hb0
    · refine gk_iconst C dL_law_966 ?_
      refine gk_goto C (tgt := 971) dL_law_967 (by decide) ?_
      refine gk_aload_n C dL_law_971 rfl ?_
      refine gk_callSH C o_L_rest k_L_142 dL_law_972 hw rfl rfl ⟨Nat.le_of_ble_eq_true rfl, Nat.le_of_ble_eq_true rfl⟩ ⟨by show k + 1 ≤ 601024; omega, by show n + 6 ≤ 7293033; omega⟩ (by exact Nat.le_of_ble_eq_true rfl) (fun v_972 h_972 p_972 => ?_)
      obtain ⟨kk, X2, f2, rfl, hkk, hrel, hd2, rfl⟩ := p_972
      dsimp only [gk_push]
      have hd3 := hdj_set (e := aL 1 f2) hd2 (hU_r hdm hW)
      rw [hU_setR (hdm.no hW)] at hd3
      have hdm3 := hdj_set (e := aL 1 f2) hdm hW
      refine gi_cast (congrArg (hU X2) (hU_setR (hdm.no hW))) ?_
      refine gk_istore_6 C rfl (by exact Nat.le_of_ble_eq_true rfl) dL_law_975 ?_
      refine gk_aload_n C dL_law_977 rfl ?_
      refine gk_aload_n C dL_law_978 rfl ?_
      refine gk_iload C dL_law_979 rfl ?_
      refine gk_iconst C dL_law_981 ?_
      refine gk_iadd C dL_law_982 ?_
      refine gk_sld CL dL_law_983 (by omega) (by omega) ?_
      refine gk_aload_n C dL_law_984 rfl ?_
      refine gk_iload C dL_law_985 rfl ?_
      refine gk_iconst C dL_law_987 ?_
      refine gk_iadd C dL_law_988 ?_
      refine gk_sld CL dL_law_989 (by omega) (by omega) ?_
      refine gk_if_eq C (tgt := 997) (by omega) dL_law_990 (by decide) (fun c_990 => ?_) (fun c_990 => ?_)
      · exact absurd c_990 hb0
      · refine gk_iconst C dL_law_993 ?_
        refine gk_goto C (tgt := 998) dL_law_994 (by decide) ?_
        refine gk_callV C o_X5_rest k_L_144 dL_law_998 (Ct.frM hd3 hdm3 hr) (hU_r hd3 (hU_l (mo_obj IMm))) rfl rfl rfl ⟨Nat.le_of_ble_eq_true rfl, Nat.le_of_ble_eq_true rfl⟩ ⟨by show k + 1 + 0 ≤ 601024; omega, by show n + 6 + 0 ≤ 7293033; omega⟩ (by exact Nat.le_of_ble_eq_true rfl) (fun _ _ z => by obtain ⟨_, z, _⟩ := z; exact z.elim) (fun v_998 h_998 p_998 => ?_)
        obtain ⟨h4, ⟨b0, s2, rfl, rfl, hm⟩, hd4, hdm4, rfl⟩ := p_998
        dsimp only [gk_push]
        obtain ⟨y1, y2, y3⟩ := hrel b0 s2 hm
        refine gk_istore_7 C rfl (by exact Nat.le_of_ble_eq_true rfl) dL_law_1001 ?_
        refine gk_aload_n C dL_law_1003 rfl ?_
        refine gk_callV C o_X5_thrown k_L_99 dL_law_1004 (Ct.frM hd4 hdm4 (m_thrown hfl IMm)) (hU_r hd4 (hU_l (mo_obj IMm))) rfl rfl rfl ⟨Nat.le_of_ble_eq_true rfl, Nat.le_of_ble_eq_true rfl⟩ ⟨by show k + 1 + 0 + 0 ≤ 601024; omega, by show n + 6 + 0 + 0 ≤ 7293033; omega⟩ (by exact Nat.le_of_ble_eq_true rfl) (fun _ _ z => by obtain ⟨_, z, _⟩ := z; exact z.elim) (fun v_1004 h_1004 p_1004 => ?_)
        obtain ⟨h5, ⟨rfl, rfl⟩, hd5, hdm5, rfl⟩ := p_1004
        dsimp only [gk_push]
        rw [y1]
        refine gk_iload C dL_law_1007 rfl ?_
        refine gk_icmp_eq C (tgt := 1014) (by omega) (by omega) dL_law_1009 (by decide) (fun c_1009 => ?_) (fun c_1009 => ?_)
        · refine gk_iload C dL_law_1014 rfl ?_
          refine gk_if_ne C (tgt := 1038) (by omega) dL_law_1016 (by decide) (fun c_1016 => ?_) (fun c_1016 => ?_)
          · refine gk_goto C (tgt := 1733) dL_law_1038 (by decide) ?_
            exact nx X2 s2 _ f2 g _ _ _ _ y3 hset_eq ((hset_ne (Ne.symm hne)).trans hV) hd5 hdm5 (by show k + 1 + 0 + 0 ≤ k + 40; omega) (by show n + 6 + 0 + 0 ≤ n + 1000; omega)
          · obtain ⟨y4, y5⟩ := y2 c_1016
            refine gk_aload_n C dL_law_1019 rfl ?_
            refine gk_iconst C dL_law_1020 ?_
            refine gk_lald C dL_law_1021 (hU_r hd5 (hU_r hdm5 hset_eq)) (by omega) (by omega) ?_
            rw [y4]
            refine gk_iload C dL_law_1022 rfl ?_
            refine gk_if_eq C (tgt := 1031) (by omega) dL_law_1024 (by decide) (fun c_1024 => ?_) (fun c_1024 => ?_)
            · refine gk_lconst C (z := 0) dL_law_1031 (by decide) ?_
              refine gk_lcmp C (by omega) (by omega) dL_law_1032 (fun zz z1 z3 z4 => ?_)
              refine gk_if_eq C (tgt := 1038) (by omega) dL_law_1033 (by decide) (fun c_1033 => ?_) (fun c_1033 => ?_)
              · refine gk_goto C (tgt := 1733) dL_law_1038 (by decide) ?_
                exact nx X2 s2 _ f2 g _ _ _ _ y3 hset_eq ((hset_ne (Ne.symm hne)).trans hV) hd5 hdm5 (by show k + 1 + 0 + 0 ≤ k + 40; omega) (by show n + 6 + 0 + 0 ≤ n + 1000; omega)
              · exact absurd (z3.mpr (by omega)) c_1033
            · refine gk_lconst C (z := 1) dL_law_1027 (by decide) ?_
              refine gk_goto C (tgt := 1032) dL_law_1028 (by decide) ?_
              refine gk_lcmp C (by omega) (by omega) dL_law_1032 (fun zz z1 z3 z4 => ?_)
              refine gk_if_eq C (tgt := 1038) (by omega) dL_law_1033 (by decide) (fun c_1033 => ?_) (fun c_1033 => ?_)
              · refine gk_goto C (tgt := 1733) dL_law_1038 (by decide) ?_
                exact nx X2 s2 _ f2 g _ _ _ _ y3 hset_eq ((hset_ne (Ne.symm hne)).trans hV) hd5 hdm5 (by show k + 1 + 0 + 0 ≤ k + 40; omega) (by show n + 6 + 0 + 0 ≤ n + 1000; omega)
              · exact absurd (z3.mpr (by omega)) c_1033
        · exact absurd rfl c_1009

set_option maxRecDepth 100000 in
set_option maxHeartbeats 4000000 in
theorem lc_play {l : Launch} {Γ : GA} {nm : String} {G : GP} {sb ls : Nat} {xs : Nat → Int32} (CL : CxL l Γ (m_law nm) G sb ls xs) (hfl : l.stackTraces = false) {x o od c : Nat} {i : Int} {k n : Nat} {X W : Hp} {adm : Nat → Nat} {s : MS} {f : Int → Int} {g : Int → UInt64} {u0 v0 : Option Value} {MP : Int → MS → Prop} (IMm : IM adm) (hW : W o = some (aL 1 f)) (hV : W od = some (aD 1 g)) (hne : o ≠ od) (hdX : hdj X (hU (HM adm s) W)) (hdm : hdj (HM adm s) W) (hi : 0 ≤ i ∧ i + 5 ≤ ls) (hls : ls ≤ 2560) (hk : k + 100 ≤ 601024 ∧ n + 2000 ≤ 7293033)
    (hw : CtH l Γ m_L_play hh_L_play [.ref x, iv (xz xs (i + 1)), iv (xz xs (i + 2)), iv (xz xs (i + 3)), .ref o] (hU X (hU (HM adm s) W)) (fun v h' => ∃ (kk : Int) (X2 : Hp) (f2 : Int → Int), v = some (iv kk) ∧ (0 ≤ kk ∧ kk ≤ 3) ∧ (∀ b s2, MP b s2 → s2 39 0 = kk ∧ (kk = 0 → f2 0 = b ∧ (-2147483648 ≤ b ∧ b ≤ 2147483647)) ∧ LX Γ x (c + 1) X2 s2) ∧ hdj X2 (hU (HM adm s) W) ∧ h' = hU X2 (hset (hU (HM adm s) W) o (aL 1 f2))))
    (hr : Ct l Γ m_X5_play [.ref (adm 40), iv (xz xs (i + 1)), iv (xz xs (i + 2)), iv (xz xs (i + 3))] (HM adm s) (fun v h' => ∃ (b : Int) (s2 : MS), v = some (iv b) ∧ h' = HM adm s2 ∧ MP b s2) (fun _ _ => False))
    (nx : ∀ (X2 : Hp) (s2 : MS) (W2 : Hp) (f2 : Int → Int) (g2 : Int → UInt64) (k2 n2 : Nat) (u v : Option Value), LX Γ x (c + 1) X2 s2 → W2 o = some (aL 1 f2) → W2 od = some (aD 1 g2) → hdj X2 (hU (HM adm s2) W2) → hdj (HM adm s2) W2 → k2 ≤ k + 40 → n2 ≤ n + 1000 → G 1733 [some (.ref sb), some (.ref x), some (.ref (adm 40)), some (.ref o), some (.ref od), some (iv i), u, v] [] (hU X2 (hU (HM adm s2) W2)) k2 n2) :
    G 1041 [some (.ref sb), some (.ref x), some (.ref (adm 40)), some (.ref o), some (.ref od), some (iv i), u0, v0] [] (hU X (hU (HM adm s) W)) k n := by
  have C := CL.cx
  have r1 := xz_rng xs (i + 1)
  have r2 := xz_rng xs (i + 2)
  have r3 := xz_rng xs (i + 3)
  refine gk_aload_n C dL_law_1041 rfl ?_
  refine gk_aload_n C dL_law_1042 rfl ?_
  refine gk_iload C dL_law_1043 rfl ?_
  refine gk_iconst C dL_law_1045 ?_
  refine gk_iadd C dL_law_1046 ?_
  refine gk_sld CL dL_law_1047 (by omega) (by omega) ?_
  refine gk_aload_n C dL_law_1048 rfl ?_
  refine gk_iload C dL_law_1049 rfl ?_
  refine gk_iconst C dL_law_1051 ?_
  refine gk_iadd C dL_law_1052 ?_
  refine gk_sld CL dL_law_1053 (by omega) (by omega) ?_
  refine gk_aload_n C dL_law_1054 rfl ?_
  refine gk_iload C dL_law_1055 rfl ?_
  refine gk_iconst C dL_law_1057 ?_
  refine gk_iadd C dL_law_1058 ?_
  refine gk_sld CL dL_law_1059 (by omega) (by omega) ?_
  refine gk_aload_n C dL_law_1060 rfl ?_
  refine gk_callSH C o_L_play k_L_145 dL_law_1061 hw rfl rfl ⟨Nat.le_of_ble_eq_true rfl, Nat.le_of_ble_eq_true rfl⟩ ⟨by show k + 1 ≤ 601024; omega, by show n + 6 ≤ 7293033; omega⟩ (by exact Nat.le_of_ble_eq_true rfl) (fun v_1061 h_1061 p_1061 => ?_)
  obtain ⟨kk, X2, f2, rfl, hkk, hrel, hd2, rfl⟩ := p_1061
  dsimp only [gk_push]
  have hd3 := hdj_set (e := aL 1 f2) hd2 (hU_r hdm hW)
  rw [hU_setR (hdm.no hW)] at hd3
  have hdm3 := hdj_set (e := aL 1 f2) hdm hW
  refine gi_cast (congrArg (hU X2) (hU_setR (hdm.no hW))) ?_
  refine gk_istore_6 C rfl (by exact Nat.le_of_ble_eq_true rfl) dL_law_1064 ?_
  refine gk_aload_n C dL_law_1066 rfl ?_
  refine gk_aload_n C dL_law_1067 rfl ?_
  refine gk_iload C dL_law_1068 rfl ?_
  refine gk_iconst C dL_law_1070 ?_
  refine gk_iadd C dL_law_1071 ?_
  refine gk_sld CL dL_law_1072 (by omega) (by omega) ?_
  refine gk_aload_n C dL_law_1073 rfl ?_
  refine gk_iload C dL_law_1074 rfl ?_
  refine gk_iconst C dL_law_1076 ?_
  refine gk_iadd C dL_law_1077 ?_
  refine gk_sld CL dL_law_1078 (by omega) (by omega) ?_
  refine gk_aload_n C dL_law_1079 rfl ?_
  refine gk_iload C dL_law_1080 rfl ?_
  refine gk_iconst C dL_law_1082 ?_
  refine gk_iadd C dL_law_1083 ?_
  refine gk_sld CL dL_law_1084 (by omega) (by omega) ?_
  refine gk_callV C o_X5_play k_L_147 dL_law_1085 (Ct.frM hd3 hdm3 hr) (hU_r hd3 (hU_l (mo_obj IMm))) rfl rfl rfl ⟨Nat.le_of_ble_eq_true rfl, Nat.le_of_ble_eq_true rfl⟩ ⟨by show k + 1 + 0 ≤ 601024; omega, by show n + 6 + 0 ≤ 7293033; omega⟩ (by exact Nat.le_of_ble_eq_true rfl) (fun _ _ z => by obtain ⟨_, z, _⟩ := z; exact z.elim) (fun v_1085 h_1085 p_1085 => ?_)
  obtain ⟨h4, ⟨b0, s2, rfl, rfl, hm⟩, hd4, hdm4, rfl⟩ := p_1085
  dsimp only [gk_push]
  obtain ⟨y1, y2, y3⟩ := hrel b0 s2 hm
  refine gk_istore_7 C rfl (by exact Nat.le_of_ble_eq_true rfl) dL_law_1088 ?_
  refine gk_aload_n C dL_law_1090 rfl ?_
  refine gk_callV C o_X5_thrown k_L_99 dL_law_1091 (Ct.frM hd4 hdm4 (m_thrown hfl IMm)) (hU_r hd4 (hU_l (mo_obj IMm))) rfl rfl rfl ⟨Nat.le_of_ble_eq_true rfl, Nat.le_of_ble_eq_true rfl⟩ ⟨by show k + 1 + 0 + 0 ≤ 601024; omega, by show n + 6 + 0 + 0 ≤ 7293033; omega⟩ (by exact Nat.le_of_ble_eq_true rfl) (fun _ _ z => by obtain ⟨_, z, _⟩ := z; exact z.elim) (fun v_1091 h_1091 p_1091 => ?_)
  obtain ⟨h5, ⟨rfl, rfl⟩, hd5, hdm5, rfl⟩ := p_1091
  dsimp only [gk_push]
  rw [y1]
  refine gk_iload C dL_law_1094 rfl ?_
  refine gk_icmp_eq C (tgt := 1101) (by omega) (by omega) dL_law_1096 (by decide) (fun c_1096 => ?_) (fun c_1096 => ?_)
  · refine gk_iload C dL_law_1101 rfl ?_
    refine gk_if_ne C (tgt := 1118) (by omega) dL_law_1103 (by decide) (fun c_1103 => ?_) (fun c_1103 => ?_)
    · refine gk_goto C (tgt := 1733) dL_law_1118 (by decide) ?_
      exact nx X2 s2 _ f2 g _ _ _ _ y3 hset_eq ((hset_ne (Ne.symm hne)).trans hV) hd5 hdm5 (by show k + 1 + 0 + 0 ≤ k + 40; omega) (by show n + 6 + 0 + 0 ≤ n + 1000; omega)
    · obtain ⟨y4, y5⟩ := y2 c_1103
      refine gk_aload_n C dL_law_1106 rfl ?_
      refine gk_iconst C dL_law_1107 ?_
      refine gk_lald C dL_law_1108 (hU_r hd5 (hU_r hdm5 hset_eq)) (by omega) (by omega) ?_
      rw [y4]
      refine gk_iload C dL_law_1109 rfl ?_
      refine gk_i2l C (by omega) dL_law_1111 ?_
      refine gk_lcmp C (by omega) (by omega) dL_law_1112 (fun zz z1 z3 z4 => ?_)
      refine gk_if_eq C (tgt := 1118) (by omega) dL_law_1113 (by decide) (fun c_1113 => ?_) (fun c_1113 => ?_)
      · refine gk_goto C (tgt := 1733) dL_law_1118 (by decide) ?_
        exact nx X2 s2 _ f2 g _ _ _ _ y3 hset_eq ((hset_ne (Ne.symm hne)).trans hV) hd5 hdm5 (by show k + 1 + 0 + 0 ≤ k + 40; omega) (by show n + 6 + 0 + 0 ≤ n + 1000; omega)
      · exact absurd (z3.mpr (by omega)) c_1113
  · exact absurd rfl c_1096

set_option maxRecDepth 100000 in
set_option maxHeartbeats 4000000 in
theorem lc_ofPiper {l : Launch} {Γ : GA} {nm : String} {G : GP} {sb ls : Nat} {xs : Nat → Int32} (CL : CxL l Γ (m_law nm) G sb ls xs) (hfl : l.stackTraces = false) {x o od c : Nat} {i : Int} {k n : Nat} {X W : Hp} {adm : Nat → Nat} {s : MS} {f : Int → Int} {g : Int → UInt64} {u0 v0 : Option Value} {MP : Int → MS → Prop} (IMm : IM adm) (hW : W o = some (aL 1 f)) (hV : W od = some (aD 1 g)) (hne : o ≠ od) (hdX : hdj X (hU (HM adm s) W)) (hdm : hdj (HM adm s) W) (hi : 0 ≤ i ∧ i + 5 ≤ ls) (hls : ls ≤ 2560) (hk : k + 100 ≤ 601024 ∧ n + 2000 ≤ 7293033)
    (hw : CtH l Γ m_L_ofPiper hh_L_ofPiper [.ref x, iv (xz xs (i + 1)), iv (xz xs (i + 2)), .ref o] (hU X (hU (HM adm s) W)) (fun v h' => ∃ (kk : Int) (X2 : Hp) (f2 : Int → Int), v = some (iv kk) ∧ (0 ≤ kk ∧ kk ≤ 3) ∧ (∀ b s2, MP b s2 → s2 39 0 = kk ∧ (kk = 0 → f2 0 = b ∧ (-2147483648 ≤ b ∧ b ≤ 2147483647)) ∧ LX Γ x (c + 1) X2 s2) ∧ hdj X2 (hU (HM adm s) W) ∧ h' = hU X2 (hset (hU (HM adm s) W) o (aL 1 f2))))
    (hr : Ct l Γ m_X5_ofPiper [.ref (adm 40), iv (xz xs (i + 1)), iv (xz xs (i + 2))] (HM adm s) (fun v h' => ∃ (b : Int) (s2 : MS), v = some (iv b) ∧ h' = HM adm s2 ∧ MP b s2) (fun _ _ => False))
    (nx : ∀ (X2 : Hp) (s2 : MS) (W2 : Hp) (f2 : Int → Int) (g2 : Int → UInt64) (k2 n2 : Nat) (u v : Option Value), LX Γ x (c + 1) X2 s2 → W2 o = some (aL 1 f2) → W2 od = some (aD 1 g2) → hdj X2 (hU (HM adm s2) W2) → hdj (HM adm s2) W2 → k2 ≤ k + 40 → n2 ≤ n + 1000 → G 1733 [some (.ref sb), some (.ref x), some (.ref (adm 40)), some (.ref o), some (.ref od), some (iv i), u, v] [] (hU X2 (hU (HM adm s2) W2)) k2 n2) :
    G 1121 [some (.ref sb), some (.ref x), some (.ref (adm 40)), some (.ref o), some (.ref od), some (iv i), u0, v0] [] (hU X (hU (HM adm s) W)) k n := by
  have C := CL.cx
  have r1 := xz_rng xs (i + 1)
  have r2 := xz_rng xs (i + 2)
  refine gk_aload_n C dL_law_1121 rfl ?_
  refine gk_aload_n C dL_law_1122 rfl ?_
  refine gk_iload C dL_law_1123 rfl ?_
  refine gk_iconst C dL_law_1125 ?_
  refine gk_iadd C dL_law_1126 ?_
  refine gk_sld CL dL_law_1127 (by omega) (by omega) ?_
  refine gk_aload_n C dL_law_1128 rfl ?_
  refine gk_iload C dL_law_1129 rfl ?_
  refine gk_iconst C dL_law_1131 ?_
  refine gk_iadd C dL_law_1132 ?_
  refine gk_sld CL dL_law_1133 (by omega) (by omega) ?_
  refine gk_aload_n C dL_law_1134 rfl ?_
  refine gk_callSH C o_L_ofPiper k_L_148 dL_law_1135 hw rfl rfl ⟨Nat.le_of_ble_eq_true rfl, Nat.le_of_ble_eq_true rfl⟩ ⟨by show k + 2 ≤ 601024; omega, by show n + 12 ≤ 7293033; omega⟩ (by exact Nat.le_of_ble_eq_true rfl) (fun v_1135 h_1135 p_1135 => ?_)
  obtain ⟨kk, X2, f2, rfl, hkk, hrel, hd2, rfl⟩ := p_1135
  dsimp only [gk_push]
  have hd3 := hdj_set (e := aL 1 f2) hd2 (hU_r hdm hW)
  rw [hU_setR (hdm.no hW)] at hd3
  have hdm3 := hdj_set (e := aL 1 f2) hdm hW
  refine gi_cast (congrArg (hU X2) (hU_setR (hdm.no hW))) ?_
  refine gk_istore_6 C rfl (by exact Nat.le_of_ble_eq_true rfl) dL_law_1138 ?_
  refine gk_aload_n C dL_law_1140 rfl ?_
  refine gk_aload_n C dL_law_1141 rfl ?_
  refine gk_iload C dL_law_1142 rfl ?_
  refine gk_iconst C dL_law_1144 ?_
  refine gk_iadd C dL_law_1145 ?_
  refine gk_sld CL dL_law_1146 (by omega) (by omega) ?_
  refine gk_aload_n C dL_law_1147 rfl ?_
  refine gk_iload C dL_law_1148 rfl ?_
  refine gk_iconst C dL_law_1150 ?_
  refine gk_iadd C dL_law_1151 ?_
  refine gk_sld CL dL_law_1152 (by omega) (by omega) ?_
  refine gk_callV C o_X5_ofPiper k_L_150 dL_law_1153 (Ct.frM hd3 hdm3 hr) (hU_r hd3 (hU_l (mo_obj IMm))) rfl rfl rfl ⟨Nat.le_of_ble_eq_true rfl, Nat.le_of_ble_eq_true rfl⟩ ⟨by show k + 2 + 0 ≤ 601024; omega, by show n + 12 + 0 ≤ 7293033; omega⟩ (by exact Nat.le_of_ble_eq_true rfl) (fun _ _ z => by obtain ⟨_, z, _⟩ := z; exact z.elim) (fun v_1153 h_1153 p_1153 => ?_)
  obtain ⟨h4, ⟨b0, s2, rfl, rfl, hm⟩, hd4, hdm4, rfl⟩ := p_1153
  dsimp only [gk_push]
  obtain ⟨y1, y2, y3⟩ := hrel b0 s2 hm
  refine gk_istore_7 C rfl (by exact Nat.le_of_ble_eq_true rfl) dL_law_1156 ?_
  refine gk_aload_n C dL_law_1158 rfl ?_
  refine gk_callV C o_X5_thrown k_L_99 dL_law_1159 (Ct.frM hd4 hdm4 (m_thrown hfl IMm)) (hU_r hd4 (hU_l (mo_obj IMm))) rfl rfl rfl ⟨Nat.le_of_ble_eq_true rfl, Nat.le_of_ble_eq_true rfl⟩ ⟨by show k + 2 + 0 + 0 ≤ 601024; omega, by show n + 12 + 0 + 0 ≤ 7293033; omega⟩ (by exact Nat.le_of_ble_eq_true rfl) (fun _ _ z => by obtain ⟨_, z, _⟩ := z; exact z.elim) (fun v_1159 h_1159 p_1159 => ?_)
  obtain ⟨h5, ⟨rfl, rfl⟩, hd5, hdm5, rfl⟩ := p_1159
  dsimp only [gk_push]
  rw [y1]
  refine gk_iload C dL_law_1162 rfl ?_
  refine gk_icmp_eq C (tgt := 1169) (by omega) (by omega) dL_law_1164 (by decide) (fun c_1164 => ?_) (fun c_1164 => ?_)
  · refine gk_iload C dL_law_1169 rfl ?_
    refine gk_if_ne C (tgt := 1186) (by omega) dL_law_1171 (by decide) (fun c_1171 => ?_) (fun c_1171 => ?_)
    · refine gk_goto C (tgt := 1733) dL_law_1186 (by decide) ?_
      exact nx X2 s2 _ f2 g _ _ _ _ y3 hset_eq ((hset_ne (Ne.symm hne)).trans hV) hd5 hdm5 (by show k + 2 + 0 + 0 ≤ k + 40; omega) (by show n + 12 + 0 + 0 ≤ n + 1000; omega)
    · obtain ⟨y4, y5⟩ := y2 c_1171
      refine gk_aload_n C dL_law_1174 rfl ?_
      refine gk_iconst C dL_law_1175 ?_
      refine gk_lald C dL_law_1176 (hU_r hd5 (hU_r hdm5 hset_eq)) (by omega) (by omega) ?_
      rw [y4]
      refine gk_iload C dL_law_1177 rfl ?_
      refine gk_i2l C (by omega) dL_law_1179 ?_
      refine gk_lcmp C (by omega) (by omega) dL_law_1180 (fun zz z1 z3 z4 => ?_)
      refine gk_if_eq C (tgt := 1186) (by omega) dL_law_1181 (by decide) (fun c_1181 => ?_) (fun c_1181 => ?_)
      · refine gk_goto C (tgt := 1733) dL_law_1186 (by decide) ?_
        exact nx X2 s2 _ f2 g _ _ _ _ y3 hset_eq ((hset_ne (Ne.symm hne)).trans hV) hd5 hdm5 (by show k + 2 + 0 + 0 ≤ k + 40; omega) (by show n + 12 + 0 + 0 ≤ n + 1000; omega)
      · exact absurd (z3.mpr (by omega)) c_1181
  · exact absurd rfl c_1164

set_option maxRecDepth 100000 in
set_option maxHeartbeats 4000000 in
theorem lc_spread {l : Launch} {Γ : GA} {nm : String} {G : GP} {sb ls : Nat} {xs : Nat → Int32} (CL : CxL l Γ (m_law nm) G sb ls xs) (hfl : l.stackTraces = false) {x o od c : Nat} {i : Int} {k n : Nat} {X W : Hp} {adm : Nat → Nat} {s : MS} {f : Int → Int} {g : Int → UInt64} {u0 v0 : Option Value} {MP : Int → MS → Prop} (IMm : IM adm) (hW : W o = some (aL 1 f)) (hV : W od = some (aD 1 g)) (hne : o ≠ od) (hdX : hdj X (hU (HM adm s) W)) (hdm : hdj (HM adm s) W) (hi : 0 ≤ i ∧ i + 5 ≤ ls) (hls : ls ≤ 2560) (hk : k + 100 ≤ 601024 ∧ n + 2000 ≤ 7293033)
    {fs : List Value} (hobj : X x = some (oO 5 fs)) (hw : Ct l Γ m_X4_spread [.ref x] X (fun v h' => ∃ r : Int, v = some (iv r) ∧ (-2147483648 ≤ r ∧ r ≤ 2147483647) ∧ ∀ b s2, MP b s2 → r = b ∧ LX Γ x (c + 1) h' s2) (fun _ _ => False))
    (hr : Ct l Γ m_X5_spread [.ref (adm 40)] (HM adm s) (fun v h' => ∃ (b : Int) (s2 : MS), v = some (iv b) ∧ h' = HM adm s2 ∧ MP b s2) (fun _ _ => False))
    (nx : ∀ (X2 : Hp) (s2 : MS) (W2 : Hp) (f2 : Int → Int) (g2 : Int → UInt64) (k2 n2 : Nat) (u v : Option Value), LX Γ x (c + 1) X2 s2 → W2 o = some (aL 1 f2) → W2 od = some (aD 1 g2) → hdj X2 (hU (HM adm s2) W2) → hdj (HM adm s2) W2 → k2 ≤ k + 40 → n2 ≤ n + 1000 → G 1733 [some (.ref sb), some (.ref x), some (.ref (adm 40)), some (.ref o), some (.ref od), some (iv i), u, v] [] (hU X2 (hU (HM adm s2) W2)) k2 n2) :
    G 1189 [some (.ref sb), some (.ref x), some (.ref (adm 40)), some (.ref o), some (.ref od), some (iv i), u0, v0] [] (hU X (hU (HM adm s) W)) k n := by
  have C := CL.cx
  refine gk_aload_n C dL_law_1189 rfl ?_
  refine gk_callV C o_X4_spread k_L_151 dL_law_1190 (Ct.fr hdX hw) (hU_l hobj) rfl rfl rfl ⟨Nat.le_of_ble_eq_true rfl, Nat.le_of_ble_eq_true rfl⟩ ⟨by show k + 0 ≤ 601024; omega, by show n + 0 ≤ 7293033; omega⟩ (by exact Nat.le_of_ble_eq_true rfl) (fun _ _ z => by obtain ⟨_, z, _⟩ := z; exact z.elim) (fun v_1190 h_1190 p_1190 => ?_)
  obtain ⟨X2, ⟨r, rfl, rr, pr⟩, hd3, rfl⟩ := p_1190
  dsimp only [gk_push]
  refine gk_aload_n C dL_law_1193 rfl ?_
  refine gk_callV C o_X5_spread k_L_154 dL_law_1194 (Ct.frM hd3 hdm hr) (hU_r hd3 (hU_l (mo_obj IMm))) rfl rfl rfl ⟨Nat.le_of_ble_eq_true rfl, Nat.le_of_ble_eq_true rfl⟩ ⟨by show k + 0 + 0 ≤ 601024; omega, by show n + 0 + 0 ≤ 7293033; omega⟩ (by exact Nat.le_of_ble_eq_true rfl) (fun _ _ z => by obtain ⟨_, z, _⟩ := z; exact z.elim) (fun v_1194 h_1194 p_1194 => ?_)
  obtain ⟨h4, ⟨b0, s2, rfl, rfl, hm⟩, hd4, hdm4, rfl⟩ := p_1194
  dsimp only [gk_push]
  obtain ⟨y1, y3⟩ := pr b0 s2 hm
  subst y1
  refine gk_icmp_eq C (tgt := 1733) (by omega) (by omega) dL_law_1197 (by decide) (fun c_1197 => ?_) (fun c_1197 => ?_)
  · exact nx X2 s2 _ f g _ _ _ _ y3 hW hV hd4 hdm4 (by show k + 0 + 0 ≤ k + 40; omega) (by show n + 0 + 0 ≤ n + 1000; omega)
  · exact absurd rfl c_1197

set_option maxRecDepth 100000 in
set_option maxHeartbeats 4000000 in
theorem lc_odd {l : Launch} {Γ : GA} {nm : String} {G : GP} {sb ls : Nat} {xs : Nat → Int32} (CL : CxL l Γ (m_law nm) G sb ls xs) (hfl : l.stackTraces = false) {x o od c : Nat} {i : Int} {k n : Nat} {X W : Hp} {adm : Nat → Nat} {s : MS} {f : Int → Int} {g : Int → UInt64} {u0 v0 : Option Value} {MP : Int → MS → Prop} (IMm : IM adm) (hW : W o = some (aL 1 f)) (hV : W od = some (aD 1 g)) (hne : o ≠ od) (hdX : hdj X (hU (HM adm s) W)) (hdm : hdj (HM adm s) W) (hi : 0 ≤ i ∧ i + 5 ≤ ls) (hls : ls ≤ 2560) (hk : k + 100 ≤ 601024 ∧ n + 2000 ≤ 7293033)
    {fs : List Value} (hobj : X x = some (oO 5 fs)) (hw : Ct l Γ m_X4_odd [.ref x] X (fun v h' => ∃ r : Int, v = some (iv r) ∧ (-2147483648 ≤ r ∧ r ≤ 2147483647) ∧ ∀ b s2, MP b s2 → r = b ∧ LX Γ x (c + 1) h' s2) (fun _ _ => False))
    (hr : Ct l Γ m_X5_odd [.ref (adm 40)] (HM adm s) (fun v h' => ∃ (b : Int) (s2 : MS), v = some (iv b) ∧ h' = HM adm s2 ∧ MP b s2) (fun _ _ => False))
    (nx : ∀ (X2 : Hp) (s2 : MS) (W2 : Hp) (f2 : Int → Int) (g2 : Int → UInt64) (k2 n2 : Nat) (u v : Option Value), LX Γ x (c + 1) X2 s2 → W2 o = some (aL 1 f2) → W2 od = some (aD 1 g2) → hdj X2 (hU (HM adm s2) W2) → hdj (HM adm s2) W2 → k2 ≤ k + 40 → n2 ≤ n + 1000 → G 1733 [some (.ref sb), some (.ref x), some (.ref (adm 40)), some (.ref o), some (.ref od), some (iv i), u, v] [] (hU X2 (hU (HM adm s2) W2)) k2 n2) :
    G 1202 [some (.ref sb), some (.ref x), some (.ref (adm 40)), some (.ref o), some (.ref od), some (iv i), u0, v0] [] (hU X (hU (HM adm s) W)) k n := by
  have C := CL.cx
  refine gk_aload_n C dL_law_1202 rfl ?_
  refine gk_callV C o_X4_odd k_L_155 dL_law_1203 (Ct.fr hdX hw) (hU_l hobj) rfl rfl rfl ⟨Nat.le_of_ble_eq_true rfl, Nat.le_of_ble_eq_true rfl⟩ ⟨by show k + 0 ≤ 601024; omega, by show n + 0 ≤ 7293033; omega⟩ (by exact Nat.le_of_ble_eq_true rfl) (fun _ _ z => by obtain ⟨_, z, _⟩ := z; exact z.elim) (fun v_1203 h_1203 p_1203 => ?_)
  obtain ⟨X2, ⟨r, rfl, rr, pr⟩, hd3, rfl⟩ := p_1203
  dsimp only [gk_push]
  refine gk_aload_n C dL_law_1206 rfl ?_
  refine gk_callV C o_X5_odd k_L_158 dL_law_1207 (Ct.frM hd3 hdm hr) (hU_r hd3 (hU_l (mo_obj IMm))) rfl rfl rfl ⟨Nat.le_of_ble_eq_true rfl, Nat.le_of_ble_eq_true rfl⟩ ⟨by show k + 0 + 0 ≤ 601024; omega, by show n + 0 + 0 ≤ 7293033; omega⟩ (by exact Nat.le_of_ble_eq_true rfl) (fun _ _ z => by obtain ⟨_, z, _⟩ := z; exact z.elim) (fun v_1207 h_1207 p_1207 => ?_)
  obtain ⟨h4, ⟨b0, s2, rfl, rfl, hm⟩, hd4, hdm4, rfl⟩ := p_1207
  dsimp only [gk_push]
  obtain ⟨y1, y3⟩ := pr b0 s2 hm
  subst y1
  refine gk_icmp_eq C (tgt := 1733) (by omega) (by omega) dL_law_1210 (by decide) (fun c_1210 => ?_) (fun c_1210 => ?_)
  · exact nx X2 s2 _ f g _ _ _ _ y3 hW hV hd4 hdm4 (by show k + 0 + 0 ≤ k + 40; omega) (by show n + 0 + 0 ≤ n + 1000; omega)
  · exact absurd rfl c_1210

set_option maxRecDepth 100000 in
set_option maxHeartbeats 4000000 in
theorem lc_beats {l : Launch} {Γ : GA} {nm : String} {G : GP} {sb ls : Nat} {xs : Nat → Int32} (CL : CxL l Γ (m_law nm) G sb ls xs) (hfl : l.stackTraces = false) {x o od c : Nat} {i : Int} {k n : Nat} {X W : Hp} {adm : Nat → Nat} {s : MS} {f : Int → Int} {g : Int → UInt64} {u0 v0 : Option Value} {MP : UInt32 → MS → Prop} (IMm : IM adm) (hW : W o = some (aL 1 f)) (hV : W od = some (aD 1 g)) (hne : o ≠ od) (hdX : hdj X (hU (HM adm s) W)) (hdm : hdj (HM adm s) W) (hi : 0 ≤ i ∧ i + 5 ≤ ls) (hls : ls ≤ 2560) (hk : k + 100 ≤ 601024 ∧ n + 2000 ≤ 7293033)
    (hw : CtH l Γ m_L_beats hh_L_beats [.ref x, iv (xz xs (i + 1)), iv (xz xs (i + 2)), .ref od] (hU X (hU (HM adm s) W)) (fun v h' => ∃ (kk : Int) (X2 : Hp) (f2 : Int → UInt64), v = some (iv kk) ∧ (0 ≤ kk ∧ kk ≤ 3) ∧ (∀ b s2, MP b s2 → s2 39 0 = kk ∧ (kk = 0 → f2 0 = FP.f2d b ∧ vf_n64 (FP.f2d b)) ∧ LX Γ x (c + 1) X2 s2) ∧ hdj X2 (hU (HM adm s) W) ∧ h' = hU X2 (hset (hU (HM adm s) W) od (aD 1 f2))))
    (hr : Ct l Γ m_X5_beats [.ref (adm 40), iv (xz xs (i + 1)), iv (xz xs (i + 2))] (HM adm s) (fun v h' => ∃ (b : UInt32) (s2 : MS), v = some (.float b) ∧ h' = HM adm s2 ∧ MP b s2) (fun _ _ => False))
    (hcmp : ∀ b s2, MP b s2 → s2 39 0 = 0 → Op.cmpValue (FP.dcmp (FP.f2d b) (FP.f2d b)) .l = Int32.ofInt 0)
    (nx : ∀ (X2 : Hp) (s2 : MS) (W2 : Hp) (f2 : Int → Int) (g2 : Int → UInt64) (k2 n2 : Nat) (u v : Option Value), LX Γ x (c + 1) X2 s2 → W2 o = some (aL 1 f2) → W2 od = some (aD 1 g2) → hdj X2 (hU (HM adm s2) W2) → hdj (HM adm s2) W2 → k2 ≤ k + 40 → n2 ≤ n + 1000 → G 1733 [some (.ref sb), some (.ref x), some (.ref (adm 40)), some (.ref o), some (.ref od), some (iv i), u, v] [] (hU X2 (hU (HM adm s2) W2)) k2 n2) :
    G 1215 [some (.ref sb), some (.ref x), some (.ref (adm 40)), some (.ref o), some (.ref od), some (iv i), u0, v0] [] (hU X (hU (HM adm s) W)) k n := by
  have C := CL.cx
  have r1 := xz_rng xs (i + 1)
  have r2 := xz_rng xs (i + 2)
  refine gk_aload_n C dL_law_1215 rfl ?_
  refine gk_aload_n C dL_law_1216 rfl ?_
  refine gk_iload C dL_law_1217 rfl ?_
  refine gk_iconst C dL_law_1219 ?_
  refine gk_iadd C dL_law_1220 ?_
  refine gk_sld CL dL_law_1221 (by omega) (by omega) ?_
  refine gk_aload_n C dL_law_1222 rfl ?_
  refine gk_iload C dL_law_1223 rfl ?_
  refine gk_iconst C dL_law_1225 ?_
  refine gk_iadd C dL_law_1226 ?_
  refine gk_sld CL dL_law_1227 (by omega) (by omega) ?_
  refine gk_aload C dL_law_1228 rfl ?_
  refine gk_callSH C o_L_beats k_L_159 dL_law_1230 hw rfl rfl ⟨Nat.le_of_ble_eq_true rfl, Nat.le_of_ble_eq_true rfl⟩ ⟨by show k + 2 ≤ 601024; omega, by show n + 12 ≤ 7293033; omega⟩ (by exact Nat.le_of_ble_eq_true rfl) (fun v_1230 h_1230 p_1230 => ?_)
  obtain ⟨kk, X2, f2, rfl, hkk, hrel, hd2, rfl⟩ := p_1230
  dsimp only [gk_push]
  have hd3 := hdj_set (e := aD 1 f2) hd2 (hU_r hdm hV)
  rw [hU_setR (hdm.no hV)] at hd3
  have hdm3 := hdj_set (e := aD 1 f2) hdm hV
  refine gi_cast (congrArg (hU X2) (hU_setR (hdm.no hV))) ?_
  refine gk_istore_6 C rfl (by exact Nat.le_of_ble_eq_true rfl) dL_law_1233 ?_
  refine gk_aload_n C dL_law_1235 rfl ?_
  refine gk_aload_n C dL_law_1236 rfl ?_
  refine gk_iload C dL_law_1237 rfl ?_
  refine gk_iconst C dL_law_1239 ?_
  refine gk_iadd C dL_law_1240 ?_
  refine gk_sld CL dL_law_1241 (by omega) (by omega) ?_
  refine gk_aload_n C dL_law_1242 rfl ?_
  refine gk_iload C dL_law_1243 rfl ?_
  refine gk_iconst C dL_law_1245 ?_
  refine gk_iadd C dL_law_1246 ?_
  refine gk_sld CL dL_law_1247 (by omega) (by omega) ?_
  refine gk_callV C o_X5_beats k_L_162 dL_law_1248 (Ct.frM hd3 hdm3 hr) (hU_r hd3 (hU_l (mo_obj IMm))) rfl rfl rfl ⟨Nat.le_of_ble_eq_true rfl, Nat.le_of_ble_eq_true rfl⟩ ⟨by show k + 2 + 0 ≤ 601024; omega, by show n + 12 + 0 ≤ 7293033; omega⟩ (by exact Nat.le_of_ble_eq_true rfl) (fun _ _ z => by obtain ⟨_, z, _⟩ := z; exact z.elim) (fun v_1248 h_1248 p_1248 => ?_)
  obtain ⟨h4, ⟨b0, s2, rfl, rfl, hm⟩, hd4, hdm4, rfl⟩ := p_1248
  dsimp only [gk_push]
  obtain ⟨y1, y2, y3⟩ := hrel b0 s2 hm
  refine gk_fstore_7 C rfl (by exact Nat.le_of_ble_eq_true rfl) dL_law_1251 ?_
  refine gk_aload_n C dL_law_1253 rfl ?_
  refine gk_callV C o_X5_thrown k_L_99 dL_law_1254 (Ct.frM hd4 hdm4 (m_thrown hfl IMm)) (hU_r hd4 (hU_l (mo_obj IMm))) rfl rfl rfl ⟨Nat.le_of_ble_eq_true rfl, Nat.le_of_ble_eq_true rfl⟩ ⟨by show k + 2 + 0 + 0 ≤ 601024; omega, by show n + 12 + 0 + 0 ≤ 7293033; omega⟩ (by exact Nat.le_of_ble_eq_true rfl) (fun _ _ z => by obtain ⟨_, z, _⟩ := z; exact z.elim) (fun v_1254 h_1254 p_1254 => ?_)
  obtain ⟨h5, ⟨rfl, rfl⟩, hd5, hdm5, rfl⟩ := p_1254
  dsimp only [gk_push]
  rw [y1]
  refine gk_iload C dL_law_1257 rfl ?_
  refine gk_icmp_eq C (tgt := 1264) (by omega) (by omega) dL_law_1259 (by decide) (fun c_1259 => ?_) (fun c_1259 => ?_)
  · refine gk_iload C dL_law_1264 rfl ?_
    refine gk_if_ne C (tgt := 1302) (by omega) dL_law_1266 (by decide) (fun c_1266 => ?_) (fun c_1266 => ?_)
    · refine gk_goto C (tgt := 1733) dL_law_1302 (by decide) ?_
      exact nx X2 s2 _ f f2 _ _ _ _ y3 ((hset_ne hne).trans hW) hset_eq hd5 hdm5 (by show k + 2 + 0 + 0 ≤ k + 40; omega) (by show n + 12 + 0 + 0 ≤ n + 1000; omega)
    · obtain ⟨y4, y5⟩ := y2 c_1266
      refine gk_aload C dL_law_1269 rfl ?_
      refine gk_iconst C dL_law_1271 ?_
      refine gk_dald C dL_law_1272 (hU_r hd5 (hU_r hdm5 hset_eq)) (by omega) (by omega) ?_
      rw [y4]
      refine gk_fload C dL_law_1273 rfl ?_
      refine gk_f2d C dL_law_1275 y5 ?_
      refine gk_dcmp C (z := 0) dL_law_1276 (hcmp b0 s2 hm (y1.trans c_1266)) ?_
      refine gk_if_eq C (tgt := 1302) (by omega) dL_law_1277 (by decide) (fun c_1277 => ?_) (fun c_1277 => ?_)
      · refine gk_goto C (tgt := 1733) dL_law_1302 (by decide) ?_
        exact nx X2 s2 _ f f2 _ _ _ _ y3 ((hset_ne hne).trans hW) hset_eq hd5 hdm5 (by show k + 2 + 0 + 0 ≤ k + 40; omega) (by show n + 12 + 0 + 0 ≤ n + 1000; omega)
      · exact absurd rfl c_1277
  · exact absurd rfl c_1259

set_option maxRecDepth 100000 in
set_option maxHeartbeats 4000000 in
theorem lc_ahead {l : Launch} {Γ : GA} {nm : String} {G : GP} {sb ls : Nat} {xs : Nat → Int32} (CL : CxL l Γ (m_law nm) G sb ls xs) (hfl : l.stackTraces = false) {x o od c : Nat} {i : Int} {k n : Nat} {X W : Hp} {adm : Nat → Nat} {s : MS} {f : Int → Int} {g : Int → UInt64} {u0 v0 : Option Value} {MP : Int → MS → Prop} (IMm : IM adm) (hW : W o = some (aL 1 f)) (hV : W od = some (aD 1 g)) (hne : o ≠ od) (hdX : hdj X (hU (HM adm s) W)) (hdm : hdj (HM adm s) W) (hi : 0 ≤ i ∧ i + 5 ≤ ls) (hls : ls ≤ 2560) (hk : k + 100 ≤ 601024 ∧ n + 2000 ≤ 7293033)
    (hw : CtH l Γ m_L_ahead hh_L_ahead [.ref x, iv (xz xs (i + 1)), iv (xz xs (i + 2)), iv (xz xs (i + 3)), .ref o] (hU X (hU (HM adm s) W)) (fun v h' => ∃ (kk : Int) (X2 : Hp) (f2 : Int → Int), v = some (iv kk) ∧ (0 ≤ kk ∧ kk ≤ 3) ∧ (∀ b s2, MP b s2 → s2 39 0 = kk ∧ (kk = 0 → f2 0 = b ∧ (-2147483648 ≤ b ∧ b ≤ 2147483647)) ∧ LX Γ x (c + 1) X2 s2) ∧ hdj X2 (hU (HM adm s) W) ∧ h' = hU X2 (hset (hU (HM adm s) W) o (aL 1 f2))))
    (hr : Ct l Γ m_X5_ahead [.ref (adm 40), iv (xz xs (i + 1)), iv (xz xs (i + 2)), iv (xz xs (i + 3))] (HM adm s) (fun v h' => ∃ (b : Int) (s2 : MS), v = some (iv b) ∧ h' = HM adm s2 ∧ MP b s2) (fun _ _ => False))
    (nx : ∀ (X2 : Hp) (s2 : MS) (W2 : Hp) (f2 : Int → Int) (g2 : Int → UInt64) (k2 n2 : Nat) (u v : Option Value), LX Γ x (c + 1) X2 s2 → W2 o = some (aL 1 f2) → W2 od = some (aD 1 g2) → hdj X2 (hU (HM adm s2) W2) → hdj (HM adm s2) W2 → k2 ≤ k + 40 → n2 ≤ n + 1000 → G 1733 [some (.ref sb), some (.ref x), some (.ref (adm 40)), some (.ref o), some (.ref od), some (iv i), u, v] [] (hU X2 (hU (HM adm s2) W2)) k2 n2) :
    G 1305 [some (.ref sb), some (.ref x), some (.ref (adm 40)), some (.ref o), some (.ref od), some (iv i), u0, v0] [] (hU X (hU (HM adm s) W)) k n := by
  have C := CL.cx
  have r1 := xz_rng xs (i + 1)
  have r2 := xz_rng xs (i + 2)
  have r3 := xz_rng xs (i + 3)
  refine gk_aload_n C dL_law_1305 rfl ?_
  refine gk_aload_n C dL_law_1306 rfl ?_
  refine gk_iload C dL_law_1307 rfl ?_
  refine gk_iconst C dL_law_1309 ?_
  refine gk_iadd C dL_law_1310 ?_
  refine gk_sld CL dL_law_1311 (by omega) (by omega) ?_
  refine gk_aload_n C dL_law_1312 rfl ?_
  refine gk_iload C dL_law_1313 rfl ?_
  refine gk_iconst C dL_law_1315 ?_
  refine gk_iadd C dL_law_1316 ?_
  refine gk_sld CL dL_law_1317 (by omega) (by omega) ?_
  refine gk_aload_n C dL_law_1318 rfl ?_
  refine gk_iload C dL_law_1319 rfl ?_
  refine gk_iconst C dL_law_1321 ?_
  refine gk_iadd C dL_law_1322 ?_
  refine gk_sld CL dL_law_1323 (by omega) (by omega) ?_
  refine gk_aload_n C dL_law_1324 rfl ?_
  refine gk_callSH C o_L_ahead k_L_163 dL_law_1325 hw rfl rfl ⟨Nat.le_of_ble_eq_true rfl, Nat.le_of_ble_eq_true rfl⟩ ⟨by show k + 1 ≤ 601024; omega, by show n + 6 ≤ 7293033; omega⟩ (by exact Nat.le_of_ble_eq_true rfl) (fun v_1325 h_1325 p_1325 => ?_)
  obtain ⟨kk, X2, f2, rfl, hkk, hrel, hd2, rfl⟩ := p_1325
  dsimp only [gk_push]
  have hd3 := hdj_set (e := aL 1 f2) hd2 (hU_r hdm hW)
  rw [hU_setR (hdm.no hW)] at hd3
  have hdm3 := hdj_set (e := aL 1 f2) hdm hW
  refine gi_cast (congrArg (hU X2) (hU_setR (hdm.no hW))) ?_
  refine gk_istore_6 C rfl (by exact Nat.le_of_ble_eq_true rfl) dL_law_1328 ?_
  refine gk_aload_n C dL_law_1330 rfl ?_
  refine gk_aload_n C dL_law_1331 rfl ?_
  refine gk_iload C dL_law_1332 rfl ?_
  refine gk_iconst C dL_law_1334 ?_
  refine gk_iadd C dL_law_1335 ?_
  refine gk_sld CL dL_law_1336 (by omega) (by omega) ?_
  refine gk_aload_n C dL_law_1337 rfl ?_
  refine gk_iload C dL_law_1338 rfl ?_
  refine gk_iconst C dL_law_1340 ?_
  refine gk_iadd C dL_law_1341 ?_
  refine gk_sld CL dL_law_1342 (by omega) (by omega) ?_
  refine gk_aload_n C dL_law_1343 rfl ?_
  refine gk_iload C dL_law_1344 rfl ?_
  refine gk_iconst C dL_law_1346 ?_
  refine gk_iadd C dL_law_1347 ?_
  refine gk_sld CL dL_law_1348 (by omega) (by omega) ?_
  refine gk_callV C o_X5_ahead k_L_165 dL_law_1349 (Ct.frM hd3 hdm3 hr) (hU_r hd3 (hU_l (mo_obj IMm))) rfl rfl rfl ⟨Nat.le_of_ble_eq_true rfl, Nat.le_of_ble_eq_true rfl⟩ ⟨by show k + 1 + 0 ≤ 601024; omega, by show n + 6 + 0 ≤ 7293033; omega⟩ (by exact Nat.le_of_ble_eq_true rfl) (fun _ _ z => by obtain ⟨_, z, _⟩ := z; exact z.elim) (fun v_1349 h_1349 p_1349 => ?_)
  obtain ⟨h4, ⟨b0, s2, rfl, rfl, hm⟩, hd4, hdm4, rfl⟩ := p_1349
  dsimp only [gk_push]
  obtain ⟨y1, y2, y3⟩ := hrel b0 s2 hm
  refine gk_istore_7 C rfl (by exact Nat.le_of_ble_eq_true rfl) dL_law_1352 ?_
  refine gk_aload_n C dL_law_1354 rfl ?_
  refine gk_callV C o_X5_thrown k_L_99 dL_law_1355 (Ct.frM hd4 hdm4 (m_thrown hfl IMm)) (hU_r hd4 (hU_l (mo_obj IMm))) rfl rfl rfl ⟨Nat.le_of_ble_eq_true rfl, Nat.le_of_ble_eq_true rfl⟩ ⟨by show k + 1 + 0 + 0 ≤ 601024; omega, by show n + 6 + 0 + 0 ≤ 7293033; omega⟩ (by exact Nat.le_of_ble_eq_true rfl) (fun _ _ z => by obtain ⟨_, z, _⟩ := z; exact z.elim) (fun v_1355 h_1355 p_1355 => ?_)
  obtain ⟨h5, ⟨rfl, rfl⟩, hd5, hdm5, rfl⟩ := p_1355
  dsimp only [gk_push]
  rw [y1]
  refine gk_iload C dL_law_1358 rfl ?_
  refine gk_icmp_eq C (tgt := 1365) (by omega) (by omega) dL_law_1360 (by decide) (fun c_1360 => ?_) (fun c_1360 => ?_)
  · refine gk_iload C dL_law_1365 rfl ?_
    refine gk_if_ne C (tgt := 1382) (by omega) dL_law_1367 (by decide) (fun c_1367 => ?_) (fun c_1367 => ?_)
    · refine gk_goto C (tgt := 1733) dL_law_1382 (by decide) ?_
      exact nx X2 s2 _ f2 g _ _ _ _ y3 hset_eq ((hset_ne (Ne.symm hne)).trans hV) hd5 hdm5 (by show k + 1 + 0 + 0 ≤ k + 40; omega) (by show n + 6 + 0 + 0 ≤ n + 1000; omega)
    · obtain ⟨y4, y5⟩ := y2 c_1367
      refine gk_aload_n C dL_law_1370 rfl ?_
      refine gk_iconst C dL_law_1371 ?_
      refine gk_lald C dL_law_1372 (hU_r hd5 (hU_r hdm5 hset_eq)) (by omega) (by omega) ?_
      rw [y4]
      refine gk_iload C dL_law_1373 rfl ?_
      refine gk_i2l C (by omega) dL_law_1375 ?_
      refine gk_lcmp C (by omega) (by omega) dL_law_1376 (fun zz z1 z3 z4 => ?_)
      refine gk_if_eq C (tgt := 1382) (by omega) dL_law_1377 (by decide) (fun c_1377 => ?_) (fun c_1377 => ?_)
      · refine gk_goto C (tgt := 1733) dL_law_1382 (by decide) ?_
        exact nx X2 s2 _ f2 g _ _ _ _ y3 hset_eq ((hset_ne (Ne.symm hne)).trans hV) hd5 hdm5 (by show k + 1 + 0 + 0 ≤ k + 40; omega) (by show n + 6 + 0 + 0 ≤ n + 1000; omega)
      · exact absurd (z3.mpr (by omega)) c_1377
  · exact absurd rfl c_1360

set_option maxRecDepth 100000 in
set_option maxHeartbeats 4000000 in
theorem lc_band {l : Launch} {Γ : GA} {nm : String} {G : GP} {sb ls : Nat} {xs : Nat → Int32} (CL : CxL l Γ (m_law nm) G sb ls xs) (hfl : l.stackTraces = false) {x o od c : Nat} {i : Int} {k n : Nat} {X W : Hp} {adm : Nat → Nat} {s : MS} {f : Int → Int} {g : Int → UInt64} {u0 v0 : Option Value} {MP : Int → MS → Prop} (IMm : IM adm) (hW : W o = some (aL 1 f)) (hV : W od = some (aD 1 g)) (hne : o ≠ od) (hdX : hdj X (hU (HM adm s) W)) (hdm : hdj (HM adm s) W) (hi : 0 ≤ i ∧ i + 5 ≤ ls) (hls : ls ≤ 2560) (hk : k + 100 ≤ 601024 ∧ n + 2000 ≤ 7293033)
    (hw : CtH l Γ m_L_band hh_L_band [.ref x, iv (xz xs (i + 1)), .ref o] (hU X (hU (HM adm s) W)) (fun v h' => ∃ (kk : Int) (X2 : Hp) (f2 : Int → Int), v = some (iv kk) ∧ (0 ≤ kk ∧ kk ≤ 3) ∧ (∀ b s2, MP b s2 → s2 39 0 = kk ∧ (kk = 0 → f2 0 = b ∧ (-2147483648 ≤ b ∧ b ≤ 2147483647)) ∧ LX Γ x (c + 1) X2 s2) ∧ hdj X2 (hU (HM adm s) W) ∧ h' = hU X2 (hset (hU (HM adm s) W) o (aL 1 f2))))
    (hr : Ct l Γ m_X5_band [.ref (adm 40), iv (xz xs (i + 1))] (HM adm s) (fun v h' => ∃ (b : Int) (s2 : MS), v = some (iv b) ∧ h' = HM adm s2 ∧ MP b s2) (fun _ _ => False))
    (nx : ∀ (X2 : Hp) (s2 : MS) (W2 : Hp) (f2 : Int → Int) (g2 : Int → UInt64) (k2 n2 : Nat) (u v : Option Value), LX Γ x (c + 1) X2 s2 → W2 o = some (aL 1 f2) → W2 od = some (aD 1 g2) → hdj X2 (hU (HM adm s2) W2) → hdj (HM adm s2) W2 → k2 ≤ k + 40 → n2 ≤ n + 1000 → G 1733 [some (.ref sb), some (.ref x), some (.ref (adm 40)), some (.ref o), some (.ref od), some (iv i), u, v] [] (hU X2 (hU (HM adm s2) W2)) k2 n2) :
    G 1385 [some (.ref sb), some (.ref x), some (.ref (adm 40)), some (.ref o), some (.ref od), some (iv i), u0, v0] [] (hU X (hU (HM adm s) W)) k n := by
  have C := CL.cx
  have r1 := xz_rng xs (i + 1)
  refine gk_aload_n C dL_law_1385 rfl ?_
  refine gk_aload_n C dL_law_1386 rfl ?_
  refine gk_iload C dL_law_1387 rfl ?_
  refine gk_iconst C dL_law_1389 ?_
  refine gk_iadd C dL_law_1390 ?_
  refine gk_sld CL dL_law_1391 (by omega) (by omega) ?_
  refine gk_aload_n C dL_law_1392 rfl ?_
  refine gk_callSH C o_L_band k_L_166 dL_law_1393 hw rfl rfl ⟨Nat.le_of_ble_eq_true rfl, Nat.le_of_ble_eq_true rfl⟩ ⟨by show k + 6 ≤ 601024; omega, by show n + 40 ≤ 7293033; omega⟩ (by exact Nat.le_of_ble_eq_true rfl) (fun v_1393 h_1393 p_1393 => ?_)
  obtain ⟨kk, X2, f2, rfl, hkk, hrel, hd2, rfl⟩ := p_1393
  dsimp only [gk_push]
  have hd3 := hdj_set (e := aL 1 f2) hd2 (hU_r hdm hW)
  rw [hU_setR (hdm.no hW)] at hd3
  have hdm3 := hdj_set (e := aL 1 f2) hdm hW
  refine gi_cast (congrArg (hU X2) (hU_setR (hdm.no hW))) ?_
  refine gk_istore_6 C rfl (by exact Nat.le_of_ble_eq_true rfl) dL_law_1396 ?_
  refine gk_aload_n C dL_law_1398 rfl ?_
  refine gk_aload_n C dL_law_1399 rfl ?_
  refine gk_iload C dL_law_1400 rfl ?_
  refine gk_iconst C dL_law_1402 ?_
  refine gk_iadd C dL_law_1403 ?_
  refine gk_sld CL dL_law_1404 (by omega) (by omega) ?_
  refine gk_callV C o_X5_band k_L_168 dL_law_1405 (Ct.frM hd3 hdm3 hr) (hU_r hd3 (hU_l (mo_obj IMm))) rfl rfl rfl ⟨Nat.le_of_ble_eq_true rfl, Nat.le_of_ble_eq_true rfl⟩ ⟨by show k + 6 + 0 ≤ 601024; omega, by show n + 40 + 0 ≤ 7293033; omega⟩ (by exact Nat.le_of_ble_eq_true rfl) (fun _ _ z => by obtain ⟨_, z, _⟩ := z; exact z.elim) (fun v_1405 h_1405 p_1405 => ?_)
  obtain ⟨h4, ⟨b0, s2, rfl, rfl, hm⟩, hd4, hdm4, rfl⟩ := p_1405
  dsimp only [gk_push]
  obtain ⟨y1, y2, y3⟩ := hrel b0 s2 hm
  refine gk_istore_7 C rfl (by exact Nat.le_of_ble_eq_true rfl) dL_law_1408 ?_
  refine gk_aload_n C dL_law_1410 rfl ?_
  refine gk_callV C o_X5_thrown k_L_99 dL_law_1411 (Ct.frM hd4 hdm4 (m_thrown hfl IMm)) (hU_r hd4 (hU_l (mo_obj IMm))) rfl rfl rfl ⟨Nat.le_of_ble_eq_true rfl, Nat.le_of_ble_eq_true rfl⟩ ⟨by show k + 6 + 0 + 0 ≤ 601024; omega, by show n + 40 + 0 + 0 ≤ 7293033; omega⟩ (by exact Nat.le_of_ble_eq_true rfl) (fun _ _ z => by obtain ⟨_, z, _⟩ := z; exact z.elim) (fun v_1411 h_1411 p_1411 => ?_)
  obtain ⟨h5, ⟨rfl, rfl⟩, hd5, hdm5, rfl⟩ := p_1411
  dsimp only [gk_push]
  rw [y1]
  refine gk_iload C dL_law_1414 rfl ?_
  refine gk_icmp_eq C (tgt := 1421) (by omega) (by omega) dL_law_1416 (by decide) (fun c_1416 => ?_) (fun c_1416 => ?_)
  · refine gk_iload C dL_law_1421 rfl ?_
    refine gk_if_ne C (tgt := 1438) (by omega) dL_law_1423 (by decide) (fun c_1423 => ?_) (fun c_1423 => ?_)
    · refine gk_goto C (tgt := 1733) dL_law_1438 (by decide) ?_
      exact nx X2 s2 _ f2 g _ _ _ _ y3 hset_eq ((hset_ne (Ne.symm hne)).trans hV) hd5 hdm5 (by show k + 6 + 0 + 0 ≤ k + 40; omega) (by show n + 40 + 0 + 0 ≤ n + 1000; omega)
    · obtain ⟨y4, y5⟩ := y2 c_1423
      refine gk_aload_n C dL_law_1426 rfl ?_
      refine gk_iconst C dL_law_1427 ?_
      refine gk_lald C dL_law_1428 (hU_r hd5 (hU_r hdm5 hset_eq)) (by omega) (by omega) ?_
      rw [y4]
      refine gk_iload C dL_law_1429 rfl ?_
      refine gk_i2l C (by omega) dL_law_1431 ?_
      refine gk_lcmp C (by omega) (by omega) dL_law_1432 (fun zz z1 z3 z4 => ?_)
      refine gk_if_eq C (tgt := 1438) (by omega) dL_law_1433 (by decide) (fun c_1433 => ?_) (fun c_1433 => ?_)
      · refine gk_goto C (tgt := 1733) dL_law_1438 (by decide) ?_
        exact nx X2 s2 _ f2 g _ _ _ _ y3 hset_eq ((hset_ne (Ne.symm hne)).trans hV) hd5 hdm5 (by show k + 6 + 0 + 0 ≤ k + 40; omega) (by show n + 40 + 0 + 0 ≤ n + 1000; omega)
      · exact absurd (z3.mpr (by omega)) c_1433
  · exact absurd rfl c_1416

set_option maxRecDepth 100000 in
set_option maxHeartbeats 4000000 in
theorem lc_contest {l : Launch} {Γ : GA} {nm : String} {G : GP} {sb ls : Nat} {xs : Nat → Int32} (CL : CxL l Γ (m_law nm) G sb ls xs) (hfl : l.stackTraces = false) {x o od c : Nat} {i : Int} {k n : Nat} {X W : Hp} {adm : Nat → Nat} {s : MS} {f : Int → Int} {g : Int → UInt64} {u0 v0 : Option Value} {MP : Int → MS → Prop} (IMm : IM adm) (hW : W o = some (aL 1 f)) (hV : W od = some (aD 1 g)) (hne : o ≠ od) (hdX : hdj X (hU (HM adm s) W)) (hdm : hdj (HM adm s) W) (hi : 0 ≤ i ∧ i + 5 ≤ ls) (hls : ls ≤ 2560) (hk : k + 100 ≤ 601024 ∧ n + 2000 ≤ 7293033)
    (hw : CtH l Γ m_L_contest hh_L_contest [.ref x, iv (xz xs (i + 1)), .ref o] (hU X (hU (HM adm s) W)) (fun v h' => ∃ (kk : Int) (X2 : Hp) (f2 : Int → Int), v = some (iv kk) ∧ (0 ≤ kk ∧ kk ≤ 3) ∧ (∀ b s2, MP b s2 → s2 39 0 = kk ∧ (kk = 0 → f2 0 = b ∧ (-2147483648 ≤ b ∧ b ≤ 2147483647)) ∧ LX Γ x (c + 1) X2 s2) ∧ hdj X2 (hU (HM adm s) W) ∧ h' = hU X2 (hset (hU (HM adm s) W) o (aL 1 f2))))
    (hr : Ct l Γ m_X5_contest [.ref (adm 40), iv (xz xs (i + 1))] (HM adm s) (fun v h' => ∃ (b : Int) (s2 : MS), v = some (iv b) ∧ h' = HM adm s2 ∧ MP b s2) (fun _ _ => False))
    (nx : ∀ (X2 : Hp) (s2 : MS) (W2 : Hp) (f2 : Int → Int) (g2 : Int → UInt64) (k2 n2 : Nat) (u v : Option Value), LX Γ x (c + 1) X2 s2 → W2 o = some (aL 1 f2) → W2 od = some (aD 1 g2) → hdj X2 (hU (HM adm s2) W2) → hdj (HM adm s2) W2 → k2 ≤ k + 40 → n2 ≤ n + 1000 → G 1733 [some (.ref sb), some (.ref x), some (.ref (adm 40)), some (.ref o), some (.ref od), some (iv i), u, v] [] (hU X2 (hU (HM adm s2) W2)) k2 n2) :
    G 1441 [some (.ref sb), some (.ref x), some (.ref (adm 40)), some (.ref o), some (.ref od), some (iv i), u0, v0] [] (hU X (hU (HM adm s) W)) k n := by
  have C := CL.cx
  have r1 := xz_rng xs (i + 1)
  refine gk_aload_n C dL_law_1441 rfl ?_
  refine gk_aload_n C dL_law_1442 rfl ?_
  refine gk_iload C dL_law_1443 rfl ?_
  refine gk_iconst C dL_law_1445 ?_
  refine gk_iadd C dL_law_1446 ?_
  refine gk_sld CL dL_law_1447 (by omega) (by omega) ?_
  refine gk_aload_n C dL_law_1448 rfl ?_
  refine gk_callSH C o_L_contest k_L_169 dL_law_1449 hw rfl rfl ⟨Nat.le_of_ble_eq_true rfl, Nat.le_of_ble_eq_true rfl⟩ ⟨by show k + 2 ≤ 601024; omega, by show n + 12 ≤ 7293033; omega⟩ (by exact Nat.le_of_ble_eq_true rfl) (fun v_1449 h_1449 p_1449 => ?_)
  obtain ⟨kk, X2, f2, rfl, hkk, hrel, hd2, rfl⟩ := p_1449
  dsimp only [gk_push]
  have hd3 := hdj_set (e := aL 1 f2) hd2 (hU_r hdm hW)
  rw [hU_setR (hdm.no hW)] at hd3
  have hdm3 := hdj_set (e := aL 1 f2) hdm hW
  refine gi_cast (congrArg (hU X2) (hU_setR (hdm.no hW))) ?_
  refine gk_istore_6 C rfl (by exact Nat.le_of_ble_eq_true rfl) dL_law_1452 ?_
  refine gk_aload_n C dL_law_1454 rfl ?_
  refine gk_aload_n C dL_law_1455 rfl ?_
  refine gk_iload C dL_law_1456 rfl ?_
  refine gk_iconst C dL_law_1458 ?_
  refine gk_iadd C dL_law_1459 ?_
  refine gk_sld CL dL_law_1460 (by omega) (by omega) ?_
  refine gk_callV C o_X5_contest k_L_171 dL_law_1461 (Ct.frM hd3 hdm3 hr) (hU_r hd3 (hU_l (mo_obj IMm))) rfl rfl rfl ⟨Nat.le_of_ble_eq_true rfl, Nat.le_of_ble_eq_true rfl⟩ ⟨by show k + 2 + 0 ≤ 601024; omega, by show n + 12 + 0 ≤ 7293033; omega⟩ (by exact Nat.le_of_ble_eq_true rfl) (fun _ _ z => by obtain ⟨_, z, _⟩ := z; exact z.elim) (fun v_1461 h_1461 p_1461 => ?_)
  obtain ⟨h4, ⟨b0, s2, rfl, rfl, hm⟩, hd4, hdm4, rfl⟩ := p_1461
  dsimp only [gk_push]
  obtain ⟨y1, y2, y3⟩ := hrel b0 s2 hm
  refine gk_istore_7 C rfl (by exact Nat.le_of_ble_eq_true rfl) dL_law_1464 ?_
  refine gk_aload_n C dL_law_1466 rfl ?_
  refine gk_callV C o_X5_thrown k_L_99 dL_law_1467 (Ct.frM hd4 hdm4 (m_thrown hfl IMm)) (hU_r hd4 (hU_l (mo_obj IMm))) rfl rfl rfl ⟨Nat.le_of_ble_eq_true rfl, Nat.le_of_ble_eq_true rfl⟩ ⟨by show k + 2 + 0 + 0 ≤ 601024; omega, by show n + 12 + 0 + 0 ≤ 7293033; omega⟩ (by exact Nat.le_of_ble_eq_true rfl) (fun _ _ z => by obtain ⟨_, z, _⟩ := z; exact z.elim) (fun v_1467 h_1467 p_1467 => ?_)
  obtain ⟨h5, ⟨rfl, rfl⟩, hd5, hdm5, rfl⟩ := p_1467
  dsimp only [gk_push]
  rw [y1]
  refine gk_iload C dL_law_1470 rfl ?_
  refine gk_icmp_eq C (tgt := 1477) (by omega) (by omega) dL_law_1472 (by decide) (fun c_1472 => ?_) (fun c_1472 => ?_)
  · refine gk_iload C dL_law_1477 rfl ?_
    refine gk_if_ne C (tgt := 1494) (by omega) dL_law_1479 (by decide) (fun c_1479 => ?_) (fun c_1479 => ?_)
    · refine gk_goto C (tgt := 1733) dL_law_1494 (by decide) ?_
      exact nx X2 s2 _ f2 g _ _ _ _ y3 hset_eq ((hset_ne (Ne.symm hne)).trans hV) hd5 hdm5 (by show k + 2 + 0 + 0 ≤ k + 40; omega) (by show n + 12 + 0 + 0 ≤ n + 1000; omega)
    · obtain ⟨y4, y5⟩ := y2 c_1479
      refine gk_aload_n C dL_law_1482 rfl ?_
      refine gk_iconst C dL_law_1483 ?_
      refine gk_lald C dL_law_1484 (hU_r hd5 (hU_r hdm5 hset_eq)) (by omega) (by omega) ?_
      rw [y4]
      refine gk_iload C dL_law_1485 rfl ?_
      refine gk_i2l C (by omega) dL_law_1487 ?_
      refine gk_lcmp C (by omega) (by omega) dL_law_1488 (fun zz z1 z3 z4 => ?_)
      refine gk_if_eq C (tgt := 1494) (by omega) dL_law_1489 (by decide) (fun c_1489 => ?_) (fun c_1489 => ?_)
      · refine gk_goto C (tgt := 1733) dL_law_1494 (by decide) ?_
        exact nx X2 s2 _ f2 g _ _ _ _ y3 hset_eq ((hset_ne (Ne.symm hne)).trans hV) hd5 hdm5 (by show k + 2 + 0 + 0 ≤ k + 40; omega) (by show n + 12 + 0 + 0 ≤ n + 1000; omega)
      · exact absurd (z3.mpr (by omega)) c_1489
  · exact absurd rfl c_1472

set_option maxRecDepth 100000 in
set_option maxHeartbeats 4000000 in
theorem lc_mark {l : Launch} {Γ : GA} {nm : String} {G : GP} {sb ls : Nat} {xs : Nat → Int32} (CL : CxL l Γ (m_law nm) G sb ls xs) (hfl : l.stackTraces = false) {x o od c : Nat} {i : Int} {k n : Nat} {X W : Hp} {adm : Nat → Nat} {s : MS} {f : Int → Int} {g : Int → UInt64} {u0 v0 : Option Value} {MP : Int → MS → Prop} (IMm : IM adm) (hW : W o = some (aL 1 f)) (hV : W od = some (aD 1 g)) (hne : o ≠ od) (hdX : hdj X (hU (HM adm s) W)) (hdm : hdj (HM adm s) W) (hi : 0 ≤ i ∧ i + 5 ≤ ls) (hls : ls ≤ 2560) (hk : k + 100 ≤ 601024 ∧ n + 2000 ≤ 7293033)
    (hw : CtH l Γ m_L_mark hh_L_mark [.ref x, iv (xz xs (i + 1)), iv (xz xs (i + 2)), iv (xz xs (i + 3)), .ref o] (hU X (hU (HM adm s) W)) (fun v h' => ∃ (kk : Int) (X2 : Hp) (f2 : Int → Int), v = some (iv kk) ∧ (0 ≤ kk ∧ kk ≤ 3) ∧ (∀ b s2, MP b s2 → s2 39 0 = kk ∧ (kk = 0 → f2 0 = b ∧ (-2147483648 ≤ b ∧ b ≤ 2147483647)) ∧ LX Γ x (c + 1) X2 s2) ∧ hdj X2 (hU (HM adm s) W) ∧ h' = hU X2 (hset (hU (HM adm s) W) o (aL 1 f2))))
    (hr : Ct l Γ m_X5_mark [.ref (adm 40), iv (xz xs (i + 1)), iv (xz xs (i + 2)), iv (xz xs (i + 3))] (HM adm s) (fun v h' => ∃ (b : Int) (s2 : MS), v = some (iv b) ∧ h' = HM adm s2 ∧ MP b s2) (fun _ _ => False))
    (nx : ∀ (X2 : Hp) (s2 : MS) (W2 : Hp) (f2 : Int → Int) (g2 : Int → UInt64) (k2 n2 : Nat) (u v : Option Value), LX Γ x (c + 1) X2 s2 → W2 o = some (aL 1 f2) → W2 od = some (aD 1 g2) → hdj X2 (hU (HM adm s2) W2) → hdj (HM adm s2) W2 → k2 ≤ k + 40 → n2 ≤ n + 1000 → G 1733 [some (.ref sb), some (.ref x), some (.ref (adm 40)), some (.ref o), some (.ref od), some (iv i), u, v] [] (hU X2 (hU (HM adm s2) W2)) k2 n2) :
    G 1497 [some (.ref sb), some (.ref x), some (.ref (adm 40)), some (.ref o), some (.ref od), some (iv i), u0, v0] [] (hU X (hU (HM adm s) W)) k n := by
  have C := CL.cx
  have r1 := xz_rng xs (i + 1)
  have r2 := xz_rng xs (i + 2)
  have r3 := xz_rng xs (i + 3)
  refine gk_aload_n C dL_law_1497 rfl ?_
  refine gk_aload_n C dL_law_1498 rfl ?_
  refine gk_iload C dL_law_1499 rfl ?_
  refine gk_iconst C dL_law_1501 ?_
  refine gk_iadd C dL_law_1502 ?_
  refine gk_sld CL dL_law_1503 (by omega) (by omega) ?_
  refine gk_aload_n C dL_law_1504 rfl ?_
  refine gk_iload C dL_law_1505 rfl ?_
  refine gk_iconst C dL_law_1507 ?_
  refine gk_iadd C dL_law_1508 ?_
  refine gk_sld CL dL_law_1509 (by omega) (by omega) ?_
  refine gk_aload_n C dL_law_1510 rfl ?_
  refine gk_iload C dL_law_1511 rfl ?_
  refine gk_iconst C dL_law_1513 ?_
  refine gk_iadd C dL_law_1514 ?_
  refine gk_sld CL dL_law_1515 (by omega) (by omega) ?_
  refine gk_aload_n C dL_law_1516 rfl ?_
  refine gk_callSH C o_L_mark k_L_172 dL_law_1517 hw rfl rfl ⟨Nat.le_of_ble_eq_true rfl, Nat.le_of_ble_eq_true rfl⟩ ⟨by show k + 4 ≤ 601024; omega, by show n + 24 ≤ 7293033; omega⟩ (by exact Nat.le_of_ble_eq_true rfl) (fun v_1517 h_1517 p_1517 => ?_)
  obtain ⟨kk, X2, f2, rfl, hkk, hrel, hd2, rfl⟩ := p_1517
  dsimp only [gk_push]
  have hd3 := hdj_set (e := aL 1 f2) hd2 (hU_r hdm hW)
  rw [hU_setR (hdm.no hW)] at hd3
  have hdm3 := hdj_set (e := aL 1 f2) hdm hW
  refine gi_cast (congrArg (hU X2) (hU_setR (hdm.no hW))) ?_
  refine gk_istore_6 C rfl (by exact Nat.le_of_ble_eq_true rfl) dL_law_1520 ?_
  refine gk_aload_n C dL_law_1522 rfl ?_
  refine gk_aload_n C dL_law_1523 rfl ?_
  refine gk_iload C dL_law_1524 rfl ?_
  refine gk_iconst C dL_law_1526 ?_
  refine gk_iadd C dL_law_1527 ?_
  refine gk_sld CL dL_law_1528 (by omega) (by omega) ?_
  refine gk_aload_n C dL_law_1529 rfl ?_
  refine gk_iload C dL_law_1530 rfl ?_
  refine gk_iconst C dL_law_1532 ?_
  refine gk_iadd C dL_law_1533 ?_
  refine gk_sld CL dL_law_1534 (by omega) (by omega) ?_
  refine gk_aload_n C dL_law_1535 rfl ?_
  refine gk_iload C dL_law_1536 rfl ?_
  refine gk_iconst C dL_law_1538 ?_
  refine gk_iadd C dL_law_1539 ?_
  refine gk_sld CL dL_law_1540 (by omega) (by omega) ?_
  refine gk_callV C o_X5_mark k_L_174 dL_law_1541 (Ct.frM hd3 hdm3 hr) (hU_r hd3 (hU_l (mo_obj IMm))) rfl rfl rfl ⟨Nat.le_of_ble_eq_true rfl, Nat.le_of_ble_eq_true rfl⟩ ⟨by show k + 4 + 0 ≤ 601024; omega, by show n + 24 + 0 ≤ 7293033; omega⟩ (by exact Nat.le_of_ble_eq_true rfl) (fun _ _ z => by obtain ⟨_, z, _⟩ := z; exact z.elim) (fun v_1541 h_1541 p_1541 => ?_)
  obtain ⟨h4, ⟨b0, s2, rfl, rfl, hm⟩, hd4, hdm4, rfl⟩ := p_1541
  dsimp only [gk_push]
  obtain ⟨y1, y2, y3⟩ := hrel b0 s2 hm
  refine gk_istore_7 C rfl (by exact Nat.le_of_ble_eq_true rfl) dL_law_1544 ?_
  refine gk_aload_n C dL_law_1546 rfl ?_
  refine gk_callV C o_X5_thrown k_L_99 dL_law_1547 (Ct.frM hd4 hdm4 (m_thrown hfl IMm)) (hU_r hd4 (hU_l (mo_obj IMm))) rfl rfl rfl ⟨Nat.le_of_ble_eq_true rfl, Nat.le_of_ble_eq_true rfl⟩ ⟨by show k + 4 + 0 + 0 ≤ 601024; omega, by show n + 24 + 0 + 0 ≤ 7293033; omega⟩ (by exact Nat.le_of_ble_eq_true rfl) (fun _ _ z => by obtain ⟨_, z, _⟩ := z; exact z.elim) (fun v_1547 h_1547 p_1547 => ?_)
  obtain ⟨h5, ⟨rfl, rfl⟩, hd5, hdm5, rfl⟩ := p_1547
  dsimp only [gk_push]
  rw [y1]
  refine gk_iload C dL_law_1550 rfl ?_
  refine gk_icmp_eq C (tgt := 1557) (by omega) (by omega) dL_law_1552 (by decide) (fun c_1552 => ?_) (fun c_1552 => ?_)
  · refine gk_iload C dL_law_1557 rfl ?_
    refine gk_if_ne C (tgt := 1574) (by omega) dL_law_1559 (by decide) (fun c_1559 => ?_) (fun c_1559 => ?_)
    · refine gk_goto C (tgt := 1733) dL_law_1574 (by decide) ?_
      exact nx X2 s2 _ f2 g _ _ _ _ y3 hset_eq ((hset_ne (Ne.symm hne)).trans hV) hd5 hdm5 (by show k + 4 + 0 + 0 ≤ k + 40; omega) (by show n + 24 + 0 + 0 ≤ n + 1000; omega)
    · obtain ⟨y4, y5⟩ := y2 c_1559
      refine gk_aload_n C dL_law_1562 rfl ?_
      refine gk_iconst C dL_law_1563 ?_
      refine gk_lald C dL_law_1564 (hU_r hd5 (hU_r hdm5 hset_eq)) (by omega) (by omega) ?_
      rw [y4]
      refine gk_iload C dL_law_1565 rfl ?_
      refine gk_i2l C (by omega) dL_law_1567 ?_
      refine gk_lcmp C (by omega) (by omega) dL_law_1568 (fun zz z1 z3 z4 => ?_)
      refine gk_if_eq C (tgt := 1574) (by omega) dL_law_1569 (by decide) (fun c_1569 => ?_) (fun c_1569 => ?_)
      · refine gk_goto C (tgt := 1733) dL_law_1574 (by decide) ?_
        exact nx X2 s2 _ f2 g _ _ _ _ y3 hset_eq ((hset_ne (Ne.symm hne)).trans hV) hd5 hdm5 (by show k + 4 + 0 + 0 ≤ k + 40; omega) (by show n + 24 + 0 + 0 ≤ n + 1000; omega)
      · exact absurd (z3.mpr (by omega)) c_1569
  · exact absurd rfl c_1552

set_option maxRecDepth 100000 in
set_option maxHeartbeats 4000000 in
theorem lc_close {l : Launch} {Γ : GA} {nm : String} {G : GP} {sb ls : Nat} {xs : Nat → Int32} (CL : CxL l Γ (m_law nm) G sb ls xs) (hfl : l.stackTraces = false) {x o od c : Nat} {i : Int} {k n : Nat} {X W : Hp} {adm : Nat → Nat} {s : MS} {f : Int → Int} {g : Int → UInt64} {u0 v0 : Option Value} {MP : Int → MS → Prop} (IMm : IM adm) (hW : W o = some (aL 1 f)) (hV : W od = some (aD 1 g)) (hne : o ≠ od) (hdX : hdj X (hU (HM adm s) W)) (hdm : hdj (HM adm s) W) (hi : 0 ≤ i ∧ i + 5 ≤ ls) (hls : ls ≤ 2560) (hk : k + 100 ≤ 601024 ∧ n + 2000 ≤ 7293033)
    (hw : CtH l Γ m_L_close hh_L_close [.ref x, .ref o] (hU X (hU (HM adm s) W)) (fun v h' => ∃ (kk : Int) (X2 : Hp) (f2 : Int → Int), v = some (iv kk) ∧ (0 ≤ kk ∧ kk ≤ 3) ∧ (∀ b s2, MP b s2 → s2 39 0 = kk ∧ (kk = 0 → f2 0 = b ∧ (-2147483648 ≤ b ∧ b ≤ 2147483647)) ∧ LX Γ x (c + 1) X2 s2) ∧ hdj X2 (hU (HM adm s) W) ∧ h' = hU X2 (hset (hU (HM adm s) W) o (aL 1 f2))))
    (hr : Ct l Γ m_X5_close [.ref (adm 40)] (HM adm s) (fun v h' => ∃ (b : Int) (s2 : MS), v = some (iv b) ∧ h' = HM adm s2 ∧ MP b s2) (fun _ _ => False))
    (nx : ∀ (X2 : Hp) (s2 : MS) (W2 : Hp) (f2 : Int → Int) (g2 : Int → UInt64) (k2 n2 : Nat) (u v : Option Value), LX Γ x (c + 1) X2 s2 → W2 o = some (aL 1 f2) → W2 od = some (aD 1 g2) → hdj X2 (hU (HM adm s2) W2) → hdj (HM adm s2) W2 → k2 ≤ k + 40 → n2 ≤ n + 1000 → G 1733 [some (.ref sb), some (.ref x), some (.ref (adm 40)), some (.ref o), some (.ref od), some (iv i), u, v] [] (hU X2 (hU (HM adm s2) W2)) k2 n2) :
    G 1577 [some (.ref sb), some (.ref x), some (.ref (adm 40)), some (.ref o), some (.ref od), some (iv i), u0, v0] [] (hU X (hU (HM adm s) W)) k n := by
  have C := CL.cx
  refine gk_aload_n C dL_law_1577 rfl ?_
  refine gk_aload_n C dL_law_1578 rfl ?_
  refine gk_callSH C o_L_close k_L_175 dL_law_1579 hw rfl rfl ⟨Nat.le_of_ble_eq_true rfl, Nat.le_of_ble_eq_true rfl⟩ ⟨by show k + 1 ≤ 601024; omega, by show n + 6 ≤ 7293033; omega⟩ (by exact Nat.le_of_ble_eq_true rfl) (fun v_1579 h_1579 p_1579 => ?_)
  obtain ⟨kk, X2, f2, rfl, hkk, hrel, hd2, rfl⟩ := p_1579
  dsimp only [gk_push]
  have hd3 := hdj_set (e := aL 1 f2) hd2 (hU_r hdm hW)
  rw [hU_setR (hdm.no hW)] at hd3
  have hdm3 := hdj_set (e := aL 1 f2) hdm hW
  refine gi_cast (congrArg (hU X2) (hU_setR (hdm.no hW))) ?_
  refine gk_istore_6 C rfl (by exact Nat.le_of_ble_eq_true rfl) dL_law_1582 ?_
  refine gk_aload_n C dL_law_1584 rfl ?_
  refine gk_callV C o_X5_close k_L_177 dL_law_1585 (Ct.frM hd3 hdm3 hr) (hU_r hd3 (hU_l (mo_obj IMm))) rfl rfl rfl ⟨Nat.le_of_ble_eq_true rfl, Nat.le_of_ble_eq_true rfl⟩ ⟨by show k + 1 + 0 ≤ 601024; omega, by show n + 6 + 0 ≤ 7293033; omega⟩ (by exact Nat.le_of_ble_eq_true rfl) (fun _ _ z => by obtain ⟨_, z, _⟩ := z; exact z.elim) (fun v_1585 h_1585 p_1585 => ?_)
  obtain ⟨h4, ⟨b0, s2, rfl, rfl, hm⟩, hd4, hdm4, rfl⟩ := p_1585
  dsimp only [gk_push]
  obtain ⟨y1, y2, y3⟩ := hrel b0 s2 hm
  refine gk_istore_7 C rfl (by exact Nat.le_of_ble_eq_true rfl) dL_law_1588 ?_
  refine gk_aload_n C dL_law_1590 rfl ?_
  refine gk_callV C o_X5_thrown k_L_99 dL_law_1591 (Ct.frM hd4 hdm4 (m_thrown hfl IMm)) (hU_r hd4 (hU_l (mo_obj IMm))) rfl rfl rfl ⟨Nat.le_of_ble_eq_true rfl, Nat.le_of_ble_eq_true rfl⟩ ⟨by show k + 1 + 0 + 0 ≤ 601024; omega, by show n + 6 + 0 + 0 ≤ 7293033; omega⟩ (by exact Nat.le_of_ble_eq_true rfl) (fun _ _ z => by obtain ⟨_, z, _⟩ := z; exact z.elim) (fun v_1591 h_1591 p_1591 => ?_)
  obtain ⟨h5, ⟨rfl, rfl⟩, hd5, hdm5, rfl⟩ := p_1591
  dsimp only [gk_push]
  rw [y1]
  refine gk_iload C dL_law_1594 rfl ?_
  refine gk_icmp_eq C (tgt := 1601) (by omega) (by omega) dL_law_1596 (by decide) (fun c_1596 => ?_) (fun c_1596 => ?_)
  · refine gk_iload C dL_law_1601 rfl ?_
    refine gk_if_ne C (tgt := 1618) (by omega) dL_law_1603 (by decide) (fun c_1603 => ?_) (fun c_1603 => ?_)
    · refine gk_goto C (tgt := 1733) dL_law_1618 (by decide) ?_
      exact nx X2 s2 _ f2 g _ _ _ _ y3 hset_eq ((hset_ne (Ne.symm hne)).trans hV) hd5 hdm5 (by show k + 1 + 0 + 0 ≤ k + 40; omega) (by show n + 6 + 0 + 0 ≤ n + 1000; omega)
    · obtain ⟨y4, y5⟩ := y2 c_1603
      refine gk_aload_n C dL_law_1606 rfl ?_
      refine gk_iconst C dL_law_1607 ?_
      refine gk_lald C dL_law_1608 (hU_r hd5 (hU_r hdm5 hset_eq)) (by omega) (by omega) ?_
      rw [y4]
      refine gk_iload C dL_law_1609 rfl ?_
      refine gk_i2l C (by omega) dL_law_1611 ?_
      refine gk_lcmp C (by omega) (by omega) dL_law_1612 (fun zz z1 z3 z4 => ?_)
      refine gk_if_eq C (tgt := 1618) (by omega) dL_law_1613 (by decide) (fun c_1613 => ?_) (fun c_1613 => ?_)
      · refine gk_goto C (tgt := 1733) dL_law_1618 (by decide) ?_
        exact nx X2 s2 _ f2 g _ _ _ _ y3 hset_eq ((hset_ne (Ne.symm hne)).trans hV) hd5 hdm5 (by show k + 1 + 0 + 0 ≤ k + 40; omega) (by show n + 6 + 0 + 0 ≤ n + 1000; omega)
      · exact absurd (z3.mpr (by omega)) c_1613
  · exact absurd rfl c_1596

set_option maxRecDepth 100000 in
set_option maxHeartbeats 4000000 in
theorem lc_season {l : Launch} {Γ : GA} {nm : String} {G : GP} {sb ls : Nat} {xs : Nat → Int32} (CL : CxL l Γ (m_law nm) G sb ls xs) (hfl : l.stackTraces = false) {x o od c : Nat} {i : Int} {k n : Nat} {X W : Hp} {adm : Nat → Nat} {s : MS} {f : Int → Int} {g : Int → UInt64} {u0 v0 : Option Value} {MP : Int → MS → Prop} (IMm : IM adm) (hW : W o = some (aL 1 f)) (hV : W od = some (aD 1 g)) (hne : o ≠ od) (hdX : hdj X (hU (HM adm s) W)) (hdm : hdj (HM adm s) W) (hi : 0 ≤ i ∧ i + 5 ≤ ls) (hls : ls ≤ 2560) (hk : k + 100 ≤ 601024 ∧ n + 2000 ≤ 7293033)
    (hw : CtH l Γ m_L_season hh_L_season [.ref x, .ref o] (hU X (hU (HM adm s) W)) (fun v h' => ∃ (kk : Int) (X2 : Hp) (f2 : Int → Int), v = some (iv kk) ∧ (0 ≤ kk ∧ kk ≤ 3) ∧ (∀ b s2, MP b s2 → s2 39 0 = kk ∧ (kk = 0 → f2 0 = b ∧ (-2147483648 ≤ b ∧ b ≤ 2147483647)) ∧ LX Γ x (c + 1) X2 s2) ∧ hdj X2 (hU (HM adm s) W) ∧ h' = hU X2 (hset (hU (HM adm s) W) o (aL 1 f2))))
    (hr : Ct l Γ m_X5_season [.ref (adm 40)] (HM adm s) (fun v h' => ∃ (b : Int) (s2 : MS), v = some (iv b) ∧ h' = HM adm s2 ∧ MP b s2) (fun _ _ => False))
    (nx : ∀ (X2 : Hp) (s2 : MS) (W2 : Hp) (f2 : Int → Int) (g2 : Int → UInt64) (k2 n2 : Nat) (u v : Option Value), LX Γ x (c + 1) X2 s2 → W2 o = some (aL 1 f2) → W2 od = some (aD 1 g2) → hdj X2 (hU (HM adm s2) W2) → hdj (HM adm s2) W2 → k2 ≤ k + 40 → n2 ≤ n + 1000 → G 1733 [some (.ref sb), some (.ref x), some (.ref (adm 40)), some (.ref o), some (.ref od), some (iv i), u, v] [] (hU X2 (hU (HM adm s2) W2)) k2 n2) :
    G 1621 [some (.ref sb), some (.ref x), some (.ref (adm 40)), some (.ref o), some (.ref od), some (iv i), u0, v0] [] (hU X (hU (HM adm s) W)) k n := by
  have C := CL.cx
  refine gk_aload_n C dL_law_1621 rfl ?_
  refine gk_aload_n C dL_law_1622 rfl ?_
  refine gk_callSH C o_L_season k_L_178 dL_law_1623 hw rfl rfl ⟨Nat.le_of_ble_eq_true rfl, Nat.le_of_ble_eq_true rfl⟩ ⟨by show k + 1 ≤ 601024; omega, by show n + 6 ≤ 7293033; omega⟩ (by exact Nat.le_of_ble_eq_true rfl) (fun v_1623 h_1623 p_1623 => ?_)
  obtain ⟨kk, X2, f2, rfl, hkk, hrel, hd2, rfl⟩ := p_1623
  dsimp only [gk_push]
  have hd3 := hdj_set (e := aL 1 f2) hd2 (hU_r hdm hW)
  rw [hU_setR (hdm.no hW)] at hd3
  have hdm3 := hdj_set (e := aL 1 f2) hdm hW
  refine gi_cast (congrArg (hU X2) (hU_setR (hdm.no hW))) ?_
  refine gk_istore_6 C rfl (by exact Nat.le_of_ble_eq_true rfl) dL_law_1626 ?_
  refine gk_aload_n C dL_law_1628 rfl ?_
  refine gk_callV C o_X5_season k_L_180 dL_law_1629 (Ct.frM hd3 hdm3 hr) (hU_r hd3 (hU_l (mo_obj IMm))) rfl rfl rfl ⟨Nat.le_of_ble_eq_true rfl, Nat.le_of_ble_eq_true rfl⟩ ⟨by show k + 1 + 0 ≤ 601024; omega, by show n + 6 + 0 ≤ 7293033; omega⟩ (by exact Nat.le_of_ble_eq_true rfl) (fun _ _ z => by obtain ⟨_, z, _⟩ := z; exact z.elim) (fun v_1629 h_1629 p_1629 => ?_)
  obtain ⟨h4, ⟨b0, s2, rfl, rfl, hm⟩, hd4, hdm4, rfl⟩ := p_1629
  dsimp only [gk_push]
  obtain ⟨y1, y2, y3⟩ := hrel b0 s2 hm
  refine gk_istore_7 C rfl (by exact Nat.le_of_ble_eq_true rfl) dL_law_1632 ?_
  refine gk_aload_n C dL_law_1634 rfl ?_
  refine gk_callV C o_X5_thrown k_L_99 dL_law_1635 (Ct.frM hd4 hdm4 (m_thrown hfl IMm)) (hU_r hd4 (hU_l (mo_obj IMm))) rfl rfl rfl ⟨Nat.le_of_ble_eq_true rfl, Nat.le_of_ble_eq_true rfl⟩ ⟨by show k + 1 + 0 + 0 ≤ 601024; omega, by show n + 6 + 0 + 0 ≤ 7293033; omega⟩ (by exact Nat.le_of_ble_eq_true rfl) (fun _ _ z => by obtain ⟨_, z, _⟩ := z; exact z.elim) (fun v_1635 h_1635 p_1635 => ?_)
  obtain ⟨h5, ⟨rfl, rfl⟩, hd5, hdm5, rfl⟩ := p_1635
  dsimp only [gk_push]
  rw [y1]
  refine gk_iload C dL_law_1638 rfl ?_
  refine gk_icmp_eq C (tgt := 1645) (by omega) (by omega) dL_law_1640 (by decide) (fun c_1640 => ?_) (fun c_1640 => ?_)
  · refine gk_iload C dL_law_1645 rfl ?_
    refine gk_if_ne C (tgt := 1662) (by omega) dL_law_1647 (by decide) (fun c_1647 => ?_) (fun c_1647 => ?_)
    · refine gk_goto C (tgt := 1733) dL_law_1662 (by decide) ?_
      exact nx X2 s2 _ f2 g _ _ _ _ y3 hset_eq ((hset_ne (Ne.symm hne)).trans hV) hd5 hdm5 (by show k + 1 + 0 + 0 ≤ k + 40; omega) (by show n + 6 + 0 + 0 ≤ n + 1000; omega)
    · obtain ⟨y4, y5⟩ := y2 c_1647
      refine gk_aload_n C dL_law_1650 rfl ?_
      refine gk_iconst C dL_law_1651 ?_
      refine gk_lald C dL_law_1652 (hU_r hd5 (hU_r hdm5 hset_eq)) (by omega) (by omega) ?_
      rw [y4]
      refine gk_iload C dL_law_1653 rfl ?_
      refine gk_i2l C (by omega) dL_law_1655 ?_
      refine gk_lcmp C (by omega) (by omega) dL_law_1656 (fun zz z1 z3 z4 => ?_)
      refine gk_if_eq C (tgt := 1662) (by omega) dL_law_1657 (by decide) (fun c_1657 => ?_) (fun c_1657 => ?_)
      · refine gk_goto C (tgt := 1733) dL_law_1662 (by decide) ?_
        exact nx X2 s2 _ f2 g _ _ _ _ y3 hset_eq ((hset_ne (Ne.symm hne)).trans hV) hd5 hdm5 (by show k + 1 + 0 + 0 ≤ k + 40; omega) (by show n + 6 + 0 + 0 ≤ n + 1000; omega)
      · exact absurd (z3.mpr (by omega)) c_1657
  · exact absurd rfl c_1640

set_option maxRecDepth 100000 in
set_option maxHeartbeats 4000000 in
theorem lc_ofBand {l : Launch} {Γ : GA} {nm : String} {G : GP} {sb ls : Nat} {xs : Nat → Int32} (CL : CxL l Γ (m_law nm) G sb ls xs) (hfl : l.stackTraces = false) {x o od c : Nat} {i : Int} {k n : Nat} {X W : Hp} {adm : Nat → Nat} {s : MS} {f : Int → Int} {g : Int → UInt64} {u0 v0 : Option Value} {MP : Int → MS → Prop} (IMm : IM adm) (hW : W o = some (aL 1 f)) (hV : W od = some (aD 1 g)) (hne : o ≠ od) (hdX : hdj X (hU (HM adm s) W)) (hdm : hdj (HM adm s) W) (hi : 0 ≤ i ∧ i + 5 ≤ ls) (hls : ls ≤ 2560) (hk : k + 100 ≤ 601024 ∧ n + 2000 ≤ 7293033)
    (hw : CtH l Γ m_L_ofBand hh_L_ofBand [.ref x, iv (xz xs (i + 1)), iv (xz xs (i + 2)), .ref o] (hU X (hU (HM adm s) W)) (fun v h' => ∃ (kk : Int) (X2 : Hp) (f2 : Int → Int), v = some (iv kk) ∧ (0 ≤ kk ∧ kk ≤ 3) ∧ (∀ b s2, MP b s2 → s2 39 0 = kk ∧ (kk = 0 → f2 0 = b ∧ (-2147483648 ≤ b ∧ b ≤ 2147483647)) ∧ LX Γ x (c + 1) X2 s2) ∧ hdj X2 (hU (HM adm s) W) ∧ h' = hU X2 (hset (hU (HM adm s) W) o (aL 1 f2))))
    (hr : Ct l Γ m_X5_ofBand [.ref (adm 40), iv (xz xs (i + 1)), iv (xz xs (i + 2))] (HM adm s) (fun v h' => ∃ (b : Int) (s2 : MS), v = some (iv b) ∧ h' = HM adm s2 ∧ MP b s2) (fun _ _ => False))
    (nx : ∀ (X2 : Hp) (s2 : MS) (W2 : Hp) (f2 : Int → Int) (g2 : Int → UInt64) (k2 n2 : Nat) (u v : Option Value), LX Γ x (c + 1) X2 s2 → W2 o = some (aL 1 f2) → W2 od = some (aD 1 g2) → hdj X2 (hU (HM adm s2) W2) → hdj (HM adm s2) W2 → k2 ≤ k + 40 → n2 ≤ n + 1000 → G 1733 [some (.ref sb), some (.ref x), some (.ref (adm 40)), some (.ref o), some (.ref od), some (iv i), u, v] [] (hU X2 (hU (HM adm s2) W2)) k2 n2) :
    G 1665 [some (.ref sb), some (.ref x), some (.ref (adm 40)), some (.ref o), some (.ref od), some (iv i), u0, v0] [] (hU X (hU (HM adm s) W)) k n := by
  have C := CL.cx
  have r1 := xz_rng xs (i + 1)
  have r2 := xz_rng xs (i + 2)
  refine gk_aload_n C dL_law_1665 rfl ?_
  refine gk_aload_n C dL_law_1666 rfl ?_
  refine gk_iload C dL_law_1667 rfl ?_
  refine gk_iconst C dL_law_1669 ?_
  refine gk_iadd C dL_law_1670 ?_
  refine gk_sld CL dL_law_1671 (by omega) (by omega) ?_
  refine gk_aload_n C dL_law_1672 rfl ?_
  refine gk_iload C dL_law_1673 rfl ?_
  refine gk_iconst C dL_law_1675 ?_
  refine gk_iadd C dL_law_1676 ?_
  refine gk_sld CL dL_law_1677 (by omega) (by omega) ?_
  refine gk_aload_n C dL_law_1678 rfl ?_
  refine gk_callSH C o_L_ofBand k_L_181 dL_law_1679 hw rfl rfl ⟨Nat.le_of_ble_eq_true rfl, Nat.le_of_ble_eq_true rfl⟩ ⟨by show k + 2 ≤ 601024; omega, by show n + 12 ≤ 7293033; omega⟩ (by exact Nat.le_of_ble_eq_true rfl) (fun v_1679 h_1679 p_1679 => ?_)
  obtain ⟨kk, X2, f2, rfl, hkk, hrel, hd2, rfl⟩ := p_1679
  dsimp only [gk_push]
  have hd3 := hdj_set (e := aL 1 f2) hd2 (hU_r hdm hW)
  rw [hU_setR (hdm.no hW)] at hd3
  have hdm3 := hdj_set (e := aL 1 f2) hdm hW
  refine gi_cast (congrArg (hU X2) (hU_setR (hdm.no hW))) ?_
  refine gk_istore_6 C rfl (by exact Nat.le_of_ble_eq_true rfl) dL_law_1682 ?_
  refine gk_aload_n C dL_law_1684 rfl ?_
  refine gk_aload_n C dL_law_1685 rfl ?_
  refine gk_iload C dL_law_1686 rfl ?_
  refine gk_iconst C dL_law_1688 ?_
  refine gk_iadd C dL_law_1689 ?_
  refine gk_sld CL dL_law_1690 (by omega) (by omega) ?_
  refine gk_aload_n C dL_law_1691 rfl ?_
  refine gk_iload C dL_law_1692 rfl ?_
  refine gk_iconst C dL_law_1694 ?_
  refine gk_iadd C dL_law_1695 ?_
  refine gk_sld CL dL_law_1696 (by omega) (by omega) ?_
  refine gk_callV C o_X5_ofBand k_L_183 dL_law_1697 (Ct.frM hd3 hdm3 hr) (hU_r hd3 (hU_l (mo_obj IMm))) rfl rfl rfl ⟨Nat.le_of_ble_eq_true rfl, Nat.le_of_ble_eq_true rfl⟩ ⟨by show k + 2 + 0 ≤ 601024; omega, by show n + 12 + 0 ≤ 7293033; omega⟩ (by exact Nat.le_of_ble_eq_true rfl) (fun _ _ z => by obtain ⟨_, z, _⟩ := z; exact z.elim) (fun v_1697 h_1697 p_1697 => ?_)
  obtain ⟨h4, ⟨b0, s2, rfl, rfl, hm⟩, hd4, hdm4, rfl⟩ := p_1697
  dsimp only [gk_push]
  obtain ⟨y1, y2, y3⟩ := hrel b0 s2 hm
  refine gk_istore_7 C rfl (by exact Nat.le_of_ble_eq_true rfl) dL_law_1700 ?_
  refine gk_aload_n C dL_law_1702 rfl ?_
  refine gk_callV C o_X5_thrown k_L_99 dL_law_1703 (Ct.frM hd4 hdm4 (m_thrown hfl IMm)) (hU_r hd4 (hU_l (mo_obj IMm))) rfl rfl rfl ⟨Nat.le_of_ble_eq_true rfl, Nat.le_of_ble_eq_true rfl⟩ ⟨by show k + 2 + 0 + 0 ≤ 601024; omega, by show n + 12 + 0 + 0 ≤ 7293033; omega⟩ (by exact Nat.le_of_ble_eq_true rfl) (fun _ _ z => by obtain ⟨_, z, _⟩ := z; exact z.elim) (fun v_1703 h_1703 p_1703 => ?_)
  obtain ⟨h5, ⟨rfl, rfl⟩, hd5, hdm5, rfl⟩ := p_1703
  dsimp only [gk_push]
  rw [y1]
  refine gk_iload C dL_law_1706 rfl ?_
  refine gk_icmp_eq C (tgt := 1713) (by omega) (by omega) dL_law_1708 (by decide) (fun c_1708 => ?_) (fun c_1708 => ?_)
  · refine gk_iload C dL_law_1713 rfl ?_
    refine gk_if_ne C (tgt := 1730) (by omega) dL_law_1715 (by decide) (fun c_1715 => ?_) (fun c_1715 => ?_)
    · refine gk_goto C (tgt := 1733) dL_law_1730 (by decide) ?_
      exact nx X2 s2 _ f2 g _ _ _ _ y3 hset_eq ((hset_ne (Ne.symm hne)).trans hV) hd5 hdm5 (by show k + 2 + 0 + 0 ≤ k + 40; omega) (by show n + 12 + 0 + 0 ≤ n + 1000; omega)
    · obtain ⟨y4, y5⟩ := y2 c_1715
      refine gk_aload_n C dL_law_1718 rfl ?_
      refine gk_iconst C dL_law_1719 ?_
      refine gk_lald C dL_law_1720 (hU_r hd5 (hU_r hdm5 hset_eq)) (by omega) (by omega) ?_
      rw [y4]
      refine gk_iload C dL_law_1721 rfl ?_
      refine gk_i2l C (by omega) dL_law_1723 ?_
      refine gk_lcmp C (by omega) (by omega) dL_law_1724 (fun zz z1 z3 z4 => ?_)
      refine gk_if_eq C (tgt := 1730) (by omega) dL_law_1725 (by decide) (fun c_1725 => ?_) (fun c_1725 => ?_)
      · refine gk_goto C (tgt := 1733) dL_law_1730 (by decide) ?_
        exact nx X2 s2 _ f2 g _ _ _ _ y3 hset_eq ((hset_ne (Ne.symm hne)).trans hV) hd5 hdm5 (by show k + 2 + 0 + 0 ≤ k + 40; omega) (by show n + 12 + 0 + 0 ≤ n + 1000; omega)
      · exact absurd (z3.mpr (by omega)) c_1725
  · exact absurd rfl c_1708
