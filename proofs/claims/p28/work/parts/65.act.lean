/-! calls whose answers are known; the law's method act -/
section DI
variable {l : Launch} {Γ : GA} {x : Nat} {σ σ2 : ST} {h : Hp}
theorem HC.dir {M : MD} {As : List Value} {s : Int × ST} {r : Int} (hc : HC l Γ M As x σ h s) (e : s = (r, σ2)) (hr : -7000000 < r) : Ct l Γ M As h (fun v h' => v = some (iv r) ∧ HD Γ x σ2 h') (fun _ _ => False) := by
  subst e
  refine Ct.mono hc (fun v h' p => p) ?_
  rintro E h' ⟨⟨-, q⟩ | ⟨-, q⟩ | ⟨-, q⟩, -⟩ <;> (dsimp only at q; have e1 : eI = -7000001 := rfl; have e2 : eA = -7000002 := rfl; have e3 : eS = -7000003 := rfl; omega)
theorem time_d {M : MD} {As : List Value} {r : Int} (hc : Ct l Γ M As h (fun v h' => v = some (jv (sTime σ).1) ∧ HD Γ x σ h') (fun _ _ => False)) (e : stp σ 24 0 0 0 0 = (r, σ2)) : Ct l Γ M As h (fun v h' => v = some (jv r) ∧ HD Γ x σ2 h') (fun _ _ => False) := by
  have e1 : (sTime σ).1 = r := congrArg Prod.fst e
  have e2 : σ = σ2 := congrArg Prod.snd e
  rw [e1, e2] at hc
  exact hc
theorem beats_d {M : MD} {As : List Value} {p q r : Int} (hc : Ct l Γ M As h (fun v h' => v = some (.float (btF (sApart σ p q).1)) ∧ (inP σ p ∧ inP σ q) ∧ (0 ≤ (sApart σ p q).1 ∧ (sApart σ p q).1 ≤ 1000) ∧ HD Γ x σ h') (fun E h' => E = "java/lang/IndexOutOfBoundsException" ∧ ¬ (inP σ p ∧ inP σ q) ∧ HD Γ x σ h')) (e : stp σ 25 p q 0 0 = (r, σ2)) (hr : -7000000 < r) : Ct l Γ M As h (fun v h' => v = some (.float (btF r)) ∧ HD Γ x σ2 h') (fun _ _ => False) := by
  have e1 : sApart σ p q = (r, σ2) := e
  refine Ct.mono hc ?_ ?_
  · rintro v h' ⟨a1, a2, a3, a4⟩
    have e2 := e1
    unfold sApart at e2
    rw [if_pos a2] at e2
    have e3 : σ = σ2 := congrArg Prod.snd e2
    rw [e1] at a1
    rw [← e3]
    exact ⟨a1, a4⟩
  · rintro E h' ⟨-, a2, -⟩
    unfold sApart at e1
    rw [if_neg a2] at e1
    have e3 : (-7000001 : Int) = r := congrArg Prod.fst e1
    omega
theorem h_rest2 (hfl : l.stackTraces = false) (H : HD Γ x σ h) {p b : Int} (hp : -2147483648 ≤ p ∧ p ≤ 2147483647) (hb : b = 0 ∨ b = 1) : Ct l Γ m_X4_rest [.ref x, iv p, iv b] h (fun v h' => v = some (iv (sRest σ p b).1) ∧ ((sRest σ p b).1 = 0 ∨ (sRest σ p b).1 = 1) ∧ HD Γ x (sRest σ p b).2 h') (fun E h' => xcd E (sRest σ p b).1 ∧ HD Γ x (sRest σ p b).2 h') := by
  obtain ⟨ad, tr, c2, f2, rfl, hc2, hf2, I, rfl, wf⟩ := H
  refine Ct.mono (x_rest hfl I wf.2.2.1.1 wf.2.2.1.2 hp hb) ?_ ?_
  · rintro v h' ⟨e0, k1, e2⟩
    have w : WF (sRest σ p b).2 := wf_rest wf hb
    have z := (wf.2.2.1.2 p.toNat (by have := k1.2; omega)).2.2.2.2.2.2
    unfold sRest at w ⊢
    rw [if_pos (show inP σ p from k1)] at w ⊢
    exact ⟨e0, z, ad, tr, c2, f2, rfl, hc2, hf2, IX_P I, e2, w⟩
  · rintro E h' ⟨rfl, rfl, k1⟩
    unfold sRest
    rw [if_neg (show ¬ inP σ p from k1)]
    exact ⟨xcI, ⟨ad, tr, c2, f2, rfl, hc2, hf2, I, rfl, wf⟩⟩
theorem h_new (hfl : l.stackTraces = false) {q : Nat} : Ct l Γ m_X4_init [.ref q] (hset (fun _ => none) q (oO 5 [.null, .null, .null, .null, .null, .null, .null, iv 0, iv 0])) (fun v h' => v = none ∧ HD Γ q σ0 h') (fun _ _ => False) := by
  have e0 : emb (fun _ : XK => 0) (fun _ => none) = fun _ => none := by
    funext x
    exact emb_no (fun k z => absurd rfl z)
  have I0 : embI (fun _ : XK => 0) (fun _ => none) := fun k k' z => absurd rfl z
  obtain ⟨s1, -⟩ := emb_kn (k := ((0, 0) : XK)) (e := oO 5 [.null, .null, .null, .null, .null, .null, .null, iv 0, iv 0]) (q := q) I0 rfl (by rw [e0])
  rw [e0] at s1
  have k := x_init (l := l) (Γ := Γ) hfl (ad := adset (fun _ : XK => 0) (0, 0) q)
  rw [← s1, adset_eq] at k
  refine Ct.mono k ?_ (fun _ _ z => z)
  rintro v h' ⟨a1, ad2, a2, a3, a4⟩
  exact ⟨a1, ad2, xP0.2.2.2.1, 0, fun _ => 0, a2, by omega, fun _ => ⟨by show (-1000000 : Int) ≤ 0; decide, by show (0 : Int) ≤ 1000000; decide⟩, a3, a4, wf_0⟩
end DI

set_option maxRecDepth 100000 in
set_option maxHeartbeats 4000000 in
theorem h_act {l : Launch} {Γ : GA} {x : Nat} {σ : ST} {h : Hp} (hfl : l.stackTraces = false) (H : HD Γ x σ h) {wi : Int} {w : Nat} {a b c d : Int} (hwi : wi = (w : Int)) (hw : w ≤ 21) (ha : -2147483648 ≤ a ∧ a ≤ 2147483647) (hb : -2147483648 ≤ b ∧ b ≤ 2147483647) (hc : -2147483648 ≤ c ∧ c ≤ 2147483647) (hd : -2147483648 ≤ d ∧ d ≤ 2147483647) (hcl : σ.2.2.2.2 ≤ 10000) : CtH l Γ m_L_act hh_L_act [.ref x, iv wi, iv a, iv b, iv c, iv d] h (fun v h' => v = some (iv (stp σ w a b c d).1) ∧ HD Γ x (stp σ w a b c d).2 h') := by
  subst hwi
  refine CtH.intro (by decide +kernel) rfl (Nat.le_of_ble_eq_true rfl) ?_
  intro G T0 R
  have C := T0.cx
  show G 0 [some (.ref x), some (iv (w : Int)), some (iv a), some (iv b), some (iv c), some (iv d), none] [] h 0 0
  refine gk_iload_n C dL_act_0 rfl ?_
  refine gk_if_ne C (tgt := 12) (by omega) dL_act_1 (by decide) (fun c_1 => ?_) (fun c_1 => ?_)
  · refine gk_iload_n C dL_act_12 rfl ?_
    refine gk_iconst C dL_act_13 ?_
    refine gk_icmp_ne C (tgt := 30) (by omega) (by omega) dL_act_14 (by decide) (fun c_14 => ?_) (fun c_14 => ?_)
    · refine gk_iload_n C dL_act_30 rfl ?_
      refine gk_iconst C dL_act_31 ?_
      refine gk_icmp_ne C (tgt := 53) (by omega) (by omega) dL_act_32 (by decide) (fun c_32 => ?_) (fun c_32 => ?_)
      · refine gk_iload_n C dL_act_53 rfl ?_
        refine gk_iconst C dL_act_54 ?_
        refine gk_icmp_ne C (tgt := 69) (by omega) (by omega) dL_act_55 (by decide) (fun c_55 => ?_) (fun c_55 => ?_)
        · refine gk_iload_n C dL_act_69 rfl ?_
          refine gk_iconst C dL_act_70 ?_
          refine gk_icmp_ne C (tgt := 83) (by omega) (by omega) dL_act_71 (by decide) (fun c_71 => ?_) (fun c_71 => ?_)
          · refine gk_iload_n C dL_act_83 rfl ?_
            refine gk_iconst C dL_act_84 ?_
            refine gk_icmp_ne C (tgt := 97) (by omega) (by omega) dL_act_85 (by decide) (fun c_85 => ?_) (fun c_85 => ?_)
            · refine gk_iload_n C dL_act_97 rfl ?_
              refine gk_bipush C dL_act_98 (by decide) ?_
              refine gk_icmp_ne C (tgt := 112) (by omega) (by omega) dL_act_100 (by decide) (fun c_100 => ?_) (fun c_100 => ?_)
              · refine gk_iload_n C dL_act_112 rfl ?_
                refine gk_bipush C dL_act_113 (by decide) ?_
                refine gk_icmp_ne C (tgt := 127) (by omega) (by omega) dL_act_115 (by decide) (fun c_115 => ?_) (fun c_115 => ?_)
                · refine gk_iload_n C dL_act_127 rfl ?_
                  refine gk_bipush C dL_act_128 (by decide) ?_
                  refine gk_icmp_ne C (tgt := 140) (by omega) (by omega) dL_act_130 (by decide) (fun c_130 => ?_) (fun c_130 => ?_)
                  · refine gk_iload_n C dL_act_140 rfl ?_
                    refine gk_bipush C dL_act_141 (by decide) ?_
                    refine gk_icmp_ne C (tgt := 157) (by omega) (by omega) dL_act_143 (by decide) (fun c_143 => ?_) (fun c_143 => ?_)
                    · refine gk_iload_n C dL_act_157 rfl ?_
                      refine gk_bipush C dL_act_158 (by decide) ?_
                      refine gk_icmp_ne C (tgt := 172) (by omega) (by omega) dL_act_160 (by decide) (fun c_160 => ?_) (fun c_160 => ?_)
                      · refine gk_iload_n C dL_act_172 rfl ?_
                        refine gk_bipush C dL_act_173 (by decide) ?_
                        refine gk_icmp_ne C (tgt := 204) (by omega) (by omega) dL_act_175 (by decide) (fun c_175 => ?_) (fun c_175 => ?_)
                        · refine gk_iload_n C dL_act_204 rfl ?_
                          refine gk_bipush C dL_act_205 (by decide) ?_
                          refine gk_icmp_ne C (tgt := 221) (by omega) (by omega) dL_act_207 (by decide) (fun c_207 => ?_) (fun c_207 => ?_)
                          · refine gk_iload_n C dL_act_221 rfl ?_
                            refine gk_bipush C dL_act_222 (by decide) ?_
                            refine gk_icmp_ne C (tgt := 236) (by omega) (by omega) dL_act_224 (by decide) (fun c_224 => ?_) (fun c_224 => ?_)
                            · refine gk_iload_n C dL_act_236 rfl ?_
                              refine gk_bipush C dL_act_237 (by decide) ?_
                              refine gk_icmp_ne C (tgt := 261) (by omega) (by omega) dL_act_239 (by decide) (fun c_239 => ?_) (fun c_239 => ?_)
                              · refine gk_iload_n C dL_act_261 rfl ?_
                                refine gk_bipush C dL_act_262 (by decide) ?_
                                refine gk_icmp_ne C (tgt := 278) (by omega) (by omega) dL_act_264 (by decide) (fun c_264 => ?_) (fun c_264 => ?_)
                                · refine gk_iload_n C dL_act_278 rfl ?_
                                  refine gk_bipush C dL_act_279 (by decide) ?_
                                  refine gk_icmp_ne C (tgt := 292) (by omega) (by omega) dL_act_281 (by decide) (fun c_281 => ?_) (fun c_281 => ?_)
                                  · refine gk_iload_n C dL_act_292 rfl ?_
                                    refine gk_bipush C dL_act_293 (by decide) ?_
                                    refine gk_icmp_ne C (tgt := 306) (by omega) (by omega) dL_act_295 (by decide) (fun c_295 => ?_) (fun c_295 => ?_)
                                    · refine gk_iload_n C dL_act_306 rfl ?_
                                      refine gk_bipush C dL_act_307 (by decide) ?_
                                      refine gk_icmp_ne C (tgt := 323) (by omega) (by omega) dL_act_309 (by decide) (fun c_309 => ?_) (fun c_309 => ?_)
                                      · refine gk_iload_n C dL_act_323 rfl ?_
                                        refine gk_bipush C dL_act_324 (by decide) ?_
                                        refine gk_icmp_ne C (tgt := 336) (by omega) (by omega) dL_act_326 (by decide) (fun c_326 => ?_) (fun c_326 => ?_)
                                        · refine gk_iload_n C dL_act_336 rfl ?_
                                          refine gk_bipush C dL_act_337 (by decide) ?_
                                          refine gk_icmp_ne C (tgt := 349) (by omega) (by omega) dL_act_339 (by decide) (fun c_339 => ?_) (fun c_339 => ?_)
                                          · refine gk_aload_n C dL_act_349 rfl ?_
                                            refine gk_iload_n C dL_act_350 rfl ?_
                                            refine gk_iload_n C dL_act_351 rfl ?_
                                            have es : stp σ w a b c d = sOfBand σ a b := (by rw [show w = 21 by omega]; rfl)
                                            obtain ⟨fs, ob⟩ := H.obj
                                            refine gk_callVH T0 o_X4_ofBand k_L_80 dL_act_352 (h_ofBand hfl H (b := a) (w := b) ha hb) ob rfl rfl rfl (by decide) (by decide) (by exact Nat.le_of_ble_eq_true rfl) (fun E_352 h_352 x_352 => ?_) (fun v_352 h_352 p_352 => ?_)
                                            · obtain ⟨⟨rfl, er⟩ | ⟨rfl, er⟩ | ⟨rfl, er⟩, H6⟩ := x_352
                                              · refine ⟨356, hd_L_act_0 (by omega), fun q_0 => ?_⟩
                                                refine gk_astore_6 C rfl (by decide) dL_act_356 ?_
                                                refine gk_ldc C cn_L_85 dL_act_358 ?_
                                                refine (R _ _ _ _ _ (by decide) (by decide)).1 _ rfl dL_act_360 ?_
                                                rw [es]
                                                exact ⟨congrArg (fun q => some (iv q)) er.symm, H6⟩
                                              · refine ⟨361, hd_L_act_1 (by omega), fun q_0 => ?_⟩
                                                refine gk_astore_6 C rfl (by decide) dL_act_361 ?_
                                                refine gk_ldc C cn_L_88 dL_act_363 ?_
                                                refine (R _ _ _ _ _ (by decide) (by decide)).1 _ rfl dL_act_365 ?_
                                                rw [es]
                                                exact ⟨congrArg (fun q => some (iv q)) er.symm, H6⟩
                                              · refine ⟨366, hd_L_act_2 (by omega), fun q_0 => ?_⟩
                                                refine gk_astore_6 C rfl (by decide) dL_act_366 ?_
                                                refine gk_ldc C cn_L_91 dL_act_368 ?_
                                                refine (R _ _ _ _ _ (by decide) (by decide)).1 _ rfl dL_act_370 ?_
                                                rw [es]
                                                exact ⟨congrArg (fun q => some (iv q)) er.symm, H6⟩
                                            · obtain ⟨rfl, H6⟩ := p_352
                                              dsimp only [gk_push]
                                              refine (R _ _ _ _ _ (by decide) (by decide)).1 _ rfl dL_act_355 ?_
                                              rw [es]
                                              exact ⟨rfl, H6⟩
                                          · refine gk_aload_n C dL_act_342 rfl ?_
                                            have es : stp σ w a b c d = sSeason σ := (by rw [show w = 20 by omega]; rfl)
                                            obtain ⟨fs, ob⟩ := H.obj
                                            refine gk_callVH T0 o_X4_season k_L_77 dL_act_343 (h_season hfl H  ) ob rfl rfl rfl (by decide) (by decide) (by exact Nat.le_of_ble_eq_true rfl) (fun E_343 h_343 x_343 => ?_) (fun v_343 h_343 p_343 => ?_)
                                            · obtain ⟨⟨rfl, er⟩ | ⟨rfl, er⟩ | ⟨rfl, er⟩, H6⟩ := x_343
                                              · refine ⟨356, hd_L_act_0 (by omega), fun q_0 => ?_⟩
                                                refine gk_astore_6 C rfl (by decide) dL_act_356 ?_
                                                refine gk_ldc C cn_L_85 dL_act_358 ?_
                                                refine (R _ _ _ _ _ (by decide) (by decide)).1 _ rfl dL_act_360 ?_
                                                rw [es]
                                                exact ⟨congrArg (fun q => some (iv q)) er.symm, H6⟩
                                              · refine ⟨361, hd_L_act_1 (by omega), fun q_0 => ?_⟩
                                                refine gk_astore_6 C rfl (by decide) dL_act_361 ?_
                                                refine gk_ldc C cn_L_88 dL_act_363 ?_
                                                refine (R _ _ _ _ _ (by decide) (by decide)).1 _ rfl dL_act_365 ?_
                                                rw [es]
                                                exact ⟨congrArg (fun q => some (iv q)) er.symm, H6⟩
                                              · refine ⟨366, hd_L_act_2 (by omega), fun q_0 => ?_⟩
                                                refine gk_astore_6 C rfl (by decide) dL_act_366 ?_
                                                refine gk_ldc C cn_L_91 dL_act_368 ?_
                                                refine (R _ _ _ _ _ (by decide) (by decide)).1 _ rfl dL_act_370 ?_
                                                rw [es]
                                                exact ⟨congrArg (fun q => some (iv q)) er.symm, H6⟩
                                            · obtain ⟨rfl, H6⟩ := p_343
                                              dsimp only [gk_push]
                                              refine gk_goto C (tgt := 355) dL_act_346 (by decide) ?_
                                              refine (R _ _ _ _ _ (by decide) (by decide)).1 _ rfl dL_act_355 ?_
                                              rw [es]
                                              exact ⟨rfl, H6⟩
                                        · refine gk_aload_n C dL_act_329 rfl ?_
                                          have es : stp σ w a b c d = sClose σ := (by rw [show w = 19 by omega]; rfl)
                                          obtain ⟨fs, ob⟩ := H.obj
                                          refine gk_callVH T0 o_X4_close k_L_74 dL_act_330 (h_close hfl H hcl) ob rfl rfl rfl (by decide) (by decide) (by exact Nat.le_of_ble_eq_true rfl) (fun E_330 h_330 x_330 => ?_) (fun v_330 h_330 p_330 => ?_)
                                          · obtain ⟨⟨rfl, er⟩ | ⟨rfl, er⟩ | ⟨rfl, er⟩, H6⟩ := x_330
                                            · refine ⟨356, hd_L_act_0 (by omega), fun q_0 => ?_⟩
                                              refine gk_astore_6 C rfl (by decide) dL_act_356 ?_
                                              refine gk_ldc C cn_L_85 dL_act_358 ?_
                                              refine (R _ _ _ _ _ (by decide) (by decide)).1 _ rfl dL_act_360 ?_
                                              rw [es]
                                              exact ⟨congrArg (fun q => some (iv q)) er.symm, H6⟩
                                            · refine ⟨361, hd_L_act_1 (by omega), fun q_0 => ?_⟩
                                              refine gk_astore_6 C rfl (by decide) dL_act_361 ?_
                                              refine gk_ldc C cn_L_88 dL_act_363 ?_
                                              refine (R _ _ _ _ _ (by decide) (by decide)).1 _ rfl dL_act_365 ?_
                                              rw [es]
                                              exact ⟨congrArg (fun q => some (iv q)) er.symm, H6⟩
                                            · refine ⟨366, hd_L_act_2 (by omega), fun q_0 => ?_⟩
                                              refine gk_astore_6 C rfl (by decide) dL_act_366 ?_
                                              refine gk_ldc C cn_L_91 dL_act_368 ?_
                                              refine (R _ _ _ _ _ (by decide) (by decide)).1 _ rfl dL_act_370 ?_
                                              rw [es]
                                              exact ⟨congrArg (fun q => some (iv q)) er.symm, H6⟩
                                          · obtain ⟨rfl, H6⟩ := p_330
                                            dsimp only [gk_push]
                                            refine gk_goto C (tgt := 355) dL_act_333 (by decide) ?_
                                            refine (R _ _ _ _ _ (by decide) (by decide)).1 _ rfl dL_act_355 ?_
                                            rw [es]
                                            exact ⟨rfl, H6⟩
                                      · refine gk_aload_n C dL_act_312 rfl ?_
                                        refine gk_iload_n C dL_act_313 rfl ?_
                                        refine gk_iload_n C dL_act_314 rfl ?_
                                        refine gk_iload C dL_act_315 rfl ?_
                                        have es : stp σ w a b c d = sMark σ a b c := (by rw [show w = 18 by omega]; rfl)
                                        obtain ⟨fs, ob⟩ := H.obj
                                        refine gk_callVH T0 o_X4_mark k_L_71 dL_act_317 (h_mark hfl H (j := a) (b := b) (m := c) ha hb hc) ob rfl rfl rfl (by decide) (by decide) (by exact Nat.le_of_ble_eq_true rfl) (fun E_317 h_317 x_317 => ?_) (fun v_317 h_317 p_317 => ?_)
                                        · obtain ⟨⟨rfl, er⟩ | ⟨rfl, er⟩ | ⟨rfl, er⟩, H6⟩ := x_317
                                          · refine ⟨356, hd_L_act_0 (by omega), fun q_0 => ?_⟩
                                            refine gk_astore_6 C rfl (by decide) dL_act_356 ?_
                                            refine gk_ldc C cn_L_85 dL_act_358 ?_
                                            refine (R _ _ _ _ _ (by decide) (by decide)).1 _ rfl dL_act_360 ?_
                                            rw [es]
                                            exact ⟨congrArg (fun q => some (iv q)) er.symm, H6⟩
                                          · refine ⟨361, hd_L_act_1 (by omega), fun q_0 => ?_⟩
                                            refine gk_astore_6 C rfl (by decide) dL_act_361 ?_
                                            refine gk_ldc C cn_L_88 dL_act_363 ?_
                                            refine (R _ _ _ _ _ (by decide) (by decide)).1 _ rfl dL_act_365 ?_
                                            rw [es]
                                            exact ⟨congrArg (fun q => some (iv q)) er.symm, H6⟩
                                          · refine ⟨366, hd_L_act_2 (by omega), fun q_0 => ?_⟩
                                            refine gk_astore_6 C rfl (by decide) dL_act_366 ?_
                                            refine gk_ldc C cn_L_91 dL_act_368 ?_
                                            refine (R _ _ _ _ _ (by decide) (by decide)).1 _ rfl dL_act_370 ?_
                                            rw [es]
                                            exact ⟨congrArg (fun q => some (iv q)) er.symm, H6⟩
                                        · obtain ⟨rfl, H6⟩ := p_317
                                          dsimp only [gk_push]
                                          refine gk_goto C (tgt := 355) dL_act_320 (by decide) ?_
                                          refine (R _ _ _ _ _ (by decide) (by decide)).1 _ rfl dL_act_355 ?_
                                          rw [es]
                                          exact ⟨rfl, H6⟩
                                    · refine gk_aload_n C dL_act_298 rfl ?_
                                      refine gk_iload_n C dL_act_299 rfl ?_
                                      have es : stp σ w a b c d = sContest σ a := (by rw [show w = 17 by omega]; rfl)
                                      obtain ⟨fs, ob⟩ := H.obj
                                      refine gk_callVH T0 o_X4_contest k_L_68 dL_act_300 (h_contest hfl H (g := a) ha) ob rfl rfl rfl (by decide) (by decide) (by exact Nat.le_of_ble_eq_true rfl) (fun E_300 h_300 x_300 => ?_) (fun v_300 h_300 p_300 => ?_)
                                      · obtain ⟨⟨rfl, er⟩ | ⟨rfl, er⟩ | ⟨rfl, er⟩, H6⟩ := x_300
                                        · refine ⟨356, hd_L_act_0 (by omega), fun q_0 => ?_⟩
                                          refine gk_astore_6 C rfl (by decide) dL_act_356 ?_
                                          refine gk_ldc C cn_L_85 dL_act_358 ?_
                                          refine (R _ _ _ _ _ (by decide) (by decide)).1 _ rfl dL_act_360 ?_
                                          rw [es]
                                          exact ⟨congrArg (fun q => some (iv q)) er.symm, H6⟩
                                        · refine ⟨361, hd_L_act_1 (by omega), fun q_0 => ?_⟩
                                          refine gk_astore_6 C rfl (by decide) dL_act_361 ?_
                                          refine gk_ldc C cn_L_88 dL_act_363 ?_
                                          refine (R _ _ _ _ _ (by decide) (by decide)).1 _ rfl dL_act_365 ?_
                                          rw [es]
                                          exact ⟨congrArg (fun q => some (iv q)) er.symm, H6⟩
                                        · refine ⟨366, hd_L_act_2 (by omega), fun q_0 => ?_⟩
                                          refine gk_astore_6 C rfl (by decide) dL_act_366 ?_
                                          refine gk_ldc C cn_L_91 dL_act_368 ?_
                                          refine (R _ _ _ _ _ (by decide) (by decide)).1 _ rfl dL_act_370 ?_
                                          rw [es]
                                          exact ⟨congrArg (fun q => some (iv q)) er.symm, H6⟩
                                      · obtain ⟨rfl, H6⟩ := p_300
                                        dsimp only [gk_push]
                                        refine gk_goto C (tgt := 355) dL_act_303 (by decide) ?_
                                        refine (R _ _ _ _ _ (by decide) (by decide)).1 _ rfl dL_act_355 ?_
                                        rw [es]
                                        exact ⟨rfl, H6⟩
                                  · refine gk_aload_n C dL_act_284 rfl ?_
                                    refine gk_iload_n C dL_act_285 rfl ?_
                                    have es : stp σ w a b c d = sBand σ a := (by rw [show w = 16 by omega]; rfl)
                                    obtain ⟨fs, ob⟩ := H.obj
                                    refine gk_callVH T0 o_X4_band k_L_65 dL_act_286 (h_band hfl H (z := a) ha) ob rfl rfl rfl (by decide) (by decide) (by exact Nat.le_of_ble_eq_true rfl) (fun E_286 h_286 x_286 => ?_) (fun v_286 h_286 p_286 => ?_)
                                    · obtain ⟨⟨rfl, er⟩ | ⟨rfl, er⟩ | ⟨rfl, er⟩, H6⟩ := x_286
                                      · refine ⟨356, hd_L_act_0 (by omega), fun q_0 => ?_⟩
                                        refine gk_astore_6 C rfl (by decide) dL_act_356 ?_
                                        refine gk_ldc C cn_L_85 dL_act_358 ?_
                                        refine (R _ _ _ _ _ (by decide) (by decide)).1 _ rfl dL_act_360 ?_
                                        rw [es]
                                        exact ⟨congrArg (fun q => some (iv q)) er.symm, H6⟩
                                      · refine ⟨361, hd_L_act_1 (by omega), fun q_0 => ?_⟩
                                        refine gk_astore_6 C rfl (by decide) dL_act_361 ?_
                                        refine gk_ldc C cn_L_88 dL_act_363 ?_
                                        refine (R _ _ _ _ _ (by decide) (by decide)).1 _ rfl dL_act_365 ?_
                                        rw [es]
                                        exact ⟨congrArg (fun q => some (iv q)) er.symm, H6⟩
                                      · refine ⟨366, hd_L_act_2 (by omega), fun q_0 => ?_⟩
                                        refine gk_astore_6 C rfl (by decide) dL_act_366 ?_
                                        refine gk_ldc C cn_L_91 dL_act_368 ?_
                                        refine (R _ _ _ _ _ (by decide) (by decide)).1 _ rfl dL_act_370 ?_
                                        rw [es]
                                        exact ⟨congrArg (fun q => some (iv q)) er.symm, H6⟩
                                    · obtain ⟨rfl, H6⟩ := p_286
                                      dsimp only [gk_push]
                                      refine gk_goto C (tgt := 355) dL_act_289 (by decide) ?_
                                      refine (R _ _ _ _ _ (by decide) (by decide)).1 _ rfl dL_act_355 ?_
                                      rw [es]
                                      exact ⟨rfl, H6⟩
                                · refine gk_aload_n C dL_act_267 rfl ?_
                                  refine gk_iload_n C dL_act_268 rfl ?_
                                  refine gk_iload_n C dL_act_269 rfl ?_
                                  refine gk_iload C dL_act_270 rfl ?_
                                  have es : stp σ w a b c d = sAhead σ a b c := (by rw [show w = 15 by omega]; rfl)
                                  obtain ⟨fs, ob⟩ := H.obj
                                  refine gk_callVH T0 o_X4_ahead k_L_62 dL_act_272 (h_ahead hfl H (m := a) (r := b) (t := c) ha hb hc) ob rfl rfl rfl (by decide) (by decide) (by exact Nat.le_of_ble_eq_true rfl) (fun E_272 h_272 x_272 => ?_) (fun v_272 h_272 p_272 => ?_)
                                  · obtain ⟨⟨rfl, er⟩ | ⟨rfl, er⟩ | ⟨rfl, er⟩, H6⟩ := x_272
                                    · refine ⟨356, hd_L_act_0 (by omega), fun q_0 => ?_⟩
                                      refine gk_astore_6 C rfl (by decide) dL_act_356 ?_
                                      refine gk_ldc C cn_L_85 dL_act_358 ?_
                                      refine (R _ _ _ _ _ (by decide) (by decide)).1 _ rfl dL_act_360 ?_
                                      rw [es]
                                      exact ⟨congrArg (fun q => some (iv q)) er.symm, H6⟩
                                    · refine ⟨361, hd_L_act_1 (by omega), fun q_0 => ?_⟩
                                      refine gk_astore_6 C rfl (by decide) dL_act_361 ?_
                                      refine gk_ldc C cn_L_88 dL_act_363 ?_
                                      refine (R _ _ _ _ _ (by decide) (by decide)).1 _ rfl dL_act_365 ?_
                                      rw [es]
                                      exact ⟨congrArg (fun q => some (iv q)) er.symm, H6⟩
                                    · refine ⟨366, hd_L_act_2 (by omega), fun q_0 => ?_⟩
                                      refine gk_astore_6 C rfl (by decide) dL_act_366 ?_
                                      refine gk_ldc C cn_L_91 dL_act_368 ?_
                                      refine (R _ _ _ _ _ (by decide) (by decide)).1 _ rfl dL_act_370 ?_
                                      rw [es]
                                      exact ⟨congrArg (fun q => some (iv q)) er.symm, H6⟩
                                  · obtain ⟨rfl, H6⟩ := p_272
                                    dsimp only [gk_push]
                                    refine gk_goto C (tgt := 355) dL_act_275 (by decide) ?_
                                    refine (R _ _ _ _ _ (by decide) (by decide)).1 _ rfl dL_act_355 ?_
                                    rw [es]
                                    exact ⟨rfl, H6⟩
                              · refine gk_aload_n C dL_act_242 rfl ?_
                                refine gk_iload_n C dL_act_243 rfl ?_
                                refine gk_iload_n C dL_act_244 rfl ?_
                                have es : stp σ w a b c d = sBelow σ a b := (by rw [show w = 14 by omega]; rfl)
                                obtain ⟨fs, ob⟩ := H.obj
                                refine gk_callVH T0 o_X4_beats k_L_58 dL_act_245 (h_beats hfl H ha hb) ob rfl rfl rfl (by decide) (by decide) (by exact Nat.le_of_ble_eq_true rfl) (fun E_245 h_245 x_245 => ?_) (fun v_245 h_245 p_245 => ?_)
                                · obtain ⟨rfl, nk, H6⟩ := x_245
                                  have er : (sBelow σ a b).1 = eI := by unfold sBelow; rw [if_neg nk]
                                  have H7 : HD Γ x (sBelow σ a b).2 h_245 := by unfold sBelow; rw [if_neg nk]; exact H6
                                  refine ⟨356, hd_L_act_0 (by omega), fun q_0 => ?_⟩
                                  refine gk_astore_6 C rfl (by decide) dL_act_356 ?_
                                  refine gk_ldc C cn_L_85 dL_act_358 ?_
                                  refine (R _ _ _ _ _ (by decide) (by decide)).1 _ rfl dL_act_360 ?_
                                  rw [es]
                                  exact ⟨congrArg (fun q => some (iv q)) er.symm, H7⟩
                                · obtain ⟨rfl, k1, k2, H6⟩ := p_245
                                  dsimp only [gk_push]
                                  obtain ⟨rr, hr1, hr2⟩ := btF_ge k2
                                  have H7 : HD Γ x (sBelow σ a b).2 h_245 := by unfold sBelow; rw [if_pos k1]; exact H6
                                  have er : (sBelow σ a b).1 = 0 := by unfold sBelow; rw [if_pos k1]
                                  refine gk_fconst0 C dL_act_248 ?_
                                  refine gk_fcmp C dL_act_249 hr1 ?_
                                  refine gk_if_ge C (tgt := 257) (by omega) dL_act_250 (by decide) (fun c_250 => ?_) (fun c_250 => ?_)
                                  rotate_left
                                  · exact absurd c_250 (by omega)
                                  refine gk_iconst C dL_act_257 ?_
                                  refine gk_goto C (tgt := 355) dL_act_258 (by decide) ?_
                                  refine (R _ _ _ _ _ (by decide) (by decide)).1 _ rfl dL_act_355 ?_
                                  rw [es]
                                  exact ⟨congrArg (fun q => some (iv q)) er.symm, H7⟩
                            · refine gk_aload_n C dL_act_227 rfl ?_
                              refine gk_iload_n C dL_act_228 rfl ?_
                              refine gk_iload_n C dL_act_229 rfl ?_
                              have es : stp σ w a b c d = sOfPip σ a b := (by rw [show w = 13 by omega]; rfl)
                              obtain ⟨fs, ob⟩ := H.obj
                              refine gk_callVH T0 o_X4_ofPiper k_L_55 dL_act_230 (h_ofPiper hfl H (p := a) (w := b) ha hb) ob rfl rfl rfl (by decide) (by decide) (by exact Nat.le_of_ble_eq_true rfl) (fun E_230 h_230 x_230 => ?_) (fun v_230 h_230 p_230 => ?_)
                              · obtain ⟨⟨rfl, er⟩ | ⟨rfl, er⟩ | ⟨rfl, er⟩, H6⟩ := x_230
                                · refine ⟨356, hd_L_act_0 (by omega), fun q_0 => ?_⟩
                                  refine gk_astore_6 C rfl (by decide) dL_act_356 ?_
                                  refine gk_ldc C cn_L_85 dL_act_358 ?_
                                  refine (R _ _ _ _ _ (by decide) (by decide)).1 _ rfl dL_act_360 ?_
                                  rw [es]
                                  exact ⟨congrArg (fun q => some (iv q)) er.symm, H6⟩
                                · refine ⟨361, hd_L_act_1 (by omega), fun q_0 => ?_⟩
                                  refine gk_astore_6 C rfl (by decide) dL_act_361 ?_
                                  refine gk_ldc C cn_L_88 dL_act_363 ?_
                                  refine (R _ _ _ _ _ (by decide) (by decide)).1 _ rfl dL_act_365 ?_
                                  rw [es]
                                  exact ⟨congrArg (fun q => some (iv q)) er.symm, H6⟩
                                · refine ⟨366, hd_L_act_2 (by omega), fun q_0 => ?_⟩
                                  refine gk_astore_6 C rfl (by decide) dL_act_366 ?_
                                  refine gk_ldc C cn_L_91 dL_act_368 ?_
                                  refine (R _ _ _ _ _ (by decide) (by decide)).1 _ rfl dL_act_370 ?_
                                  rw [es]
                                  exact ⟨congrArg (fun q => some (iv q)) er.symm, H6⟩
                              · obtain ⟨rfl, H6⟩ := p_230
                                dsimp only [gk_push]
                                refine gk_goto C (tgt := 355) dL_act_233 (by decide) ?_
                                refine (R _ _ _ _ _ (by decide) (by decide)).1 _ rfl dL_act_355 ?_
                                rw [es]
                                exact ⟨rfl, H6⟩
                          · refine gk_aload_n C dL_act_210 rfl ?_
                            refine gk_iload_n C dL_act_211 rfl ?_
                            refine gk_iload_n C dL_act_212 rfl ?_
                            refine gk_iload C dL_act_213 rfl ?_
                            have es : stp σ w a b c d = sPlay σ a b c := (by rw [show w = 12 by omega]; rfl)
                            obtain ⟨fs, ob⟩ := H.obj
                            refine gk_callVH T0 o_X4_play k_L_52 dL_act_215 (h_play hfl H (m := a) (r := b) (t := c) ha hb hc) ob rfl rfl rfl (by decide) (by decide) (by exact Nat.le_of_ble_eq_true rfl) (fun E_215 h_215 x_215 => ?_) (fun v_215 h_215 p_215 => ?_)
                            · obtain ⟨⟨rfl, er⟩ | ⟨rfl, er⟩ | ⟨rfl, er⟩, H6⟩ := x_215
                              · refine ⟨356, hd_L_act_0 (by omega), fun q_0 => ?_⟩
                                refine gk_astore_6 C rfl (by decide) dL_act_356 ?_
                                refine gk_ldc C cn_L_85 dL_act_358 ?_
                                refine (R _ _ _ _ _ (by decide) (by decide)).1 _ rfl dL_act_360 ?_
                                rw [es]
                                exact ⟨congrArg (fun q => some (iv q)) er.symm, H6⟩
                              · refine ⟨361, hd_L_act_1 (by omega), fun q_0 => ?_⟩
                                refine gk_astore_6 C rfl (by decide) dL_act_361 ?_
                                refine gk_ldc C cn_L_88 dL_act_363 ?_
                                refine (R _ _ _ _ _ (by decide) (by decide)).1 _ rfl dL_act_365 ?_
                                rw [es]
                                exact ⟨congrArg (fun q => some (iv q)) er.symm, H6⟩
                              · refine ⟨366, hd_L_act_2 (by omega), fun q_0 => ?_⟩
                                refine gk_astore_6 C rfl (by decide) dL_act_366 ?_
                                refine gk_ldc C cn_L_91 dL_act_368 ?_
                                refine (R _ _ _ _ _ (by decide) (by decide)).1 _ rfl dL_act_370 ?_
                                rw [es]
                                exact ⟨congrArg (fun q => some (iv q)) er.symm, H6⟩
                            · obtain ⟨rfl, H6⟩ := p_215
                              dsimp only [gk_push]
                              refine gk_goto C (tgt := 355) dL_act_218 (by decide) ?_
                              refine (R _ _ _ _ _ (by decide) (by decide)).1 _ rfl dL_act_355 ?_
                              rw [es]
                              exact ⟨rfl, H6⟩
                        · refine gk_aload_n C dL_act_178 rfl ?_
                          refine gk_iload_n C dL_act_179 rfl ?_
                          refine gk_iload_n C dL_act_180 rfl ?_
                          refine gk_iconst C dL_act_181 ?_
                          refine gk_icmp_ne C (tgt := 189) (by omega) (by omega) dL_act_182 (by decide) (fun c_182 => ?_) (fun c_182 => ?_)
                          · refine gk_iconst C dL_act_189 ?_
                            have es : stp σ w a b c d = sRest σ a (0) := (by show stp σ w a b c d = _; rw [show w = 11 by omega]; show sRest σ a (if b = 1 then 1 else 0) = _; rw [if_neg c_182])
                            obtain ⟨fs, ob⟩ := H.obj
                            refine gk_callVH T0 o_X4_rest k_L_48 dL_act_190 (h_rest2 hfl H (p := a) (b := (0)) ha (by omega)) ob rfl rfl rfl (by decide) (by decide) (by exact Nat.le_of_ble_eq_true rfl) (fun E_190 h_190 x_190 => ?_) (fun v_190 h_190 p_190 => ?_)
                            · obtain ⟨⟨rfl, er⟩ | ⟨rfl, er⟩ | ⟨rfl, er⟩, H6⟩ := x_190
                              · refine ⟨356, hd_L_act_0 (by omega), fun q_0 => ?_⟩
                                refine gk_astore_6 C rfl (by decide) dL_act_356 ?_
                                refine gk_ldc C cn_L_85 dL_act_358 ?_
                                refine (R _ _ _ _ _ (by decide) (by decide)).1 _ rfl dL_act_360 ?_
                                rw [es]
                                exact ⟨congrArg (fun q => some (iv q)) er.symm, H6⟩
                              · refine ⟨361, hd_L_act_1 (by omega), fun q_0 => ?_⟩
                                refine gk_astore_6 C rfl (by decide) dL_act_361 ?_
                                refine gk_ldc C cn_L_88 dL_act_363 ?_
                                refine (R _ _ _ _ _ (by decide) (by decide)).1 _ rfl dL_act_365 ?_
                                rw [es]
                                exact ⟨congrArg (fun q => some (iv q)) er.symm, H6⟩
                              · refine ⟨366, hd_L_act_2 (by omega), fun q_0 => ?_⟩
                                refine gk_astore_6 C rfl (by decide) dL_act_366 ?_
                                refine gk_ldc C cn_L_91 dL_act_368 ?_
                                refine (R _ _ _ _ _ (by decide) (by decide)).1 _ rfl dL_act_370 ?_
                                rw [es]
                                exact ⟨congrArg (fun q => some (iv q)) er.symm, H6⟩
                            · obtain ⟨rfl, k1, H6⟩ := p_190
                              dsimp only [gk_push]
                              refine gk_if_eq C (tgt := 200) (by omega) dL_act_193 (by decide) (fun c_193 => ?_) (fun c_193 => ?_)
                              · refine gk_iconst C dL_act_200 ?_
                                refine gk_goto C (tgt := 355) dL_act_201 (by decide) ?_
                                refine (R _ _ _ _ _ (by decide) (by decide)).1 _ rfl dL_act_355 ?_
                                rw [es]
                                exact ⟨congrArg (fun q => some (iv q)) (by omega), H6⟩
                              · refine gk_iconst C dL_act_196 ?_
                                refine gk_goto C (tgt := 355) dL_act_197 (by decide) ?_
                                refine (R _ _ _ _ _ (by decide) (by decide)).1 _ rfl dL_act_355 ?_
                                rw [es]
                                exact ⟨congrArg (fun q => some (iv q)) (by omega), H6⟩
                          · refine gk_iconst C dL_act_185 ?_
                            refine gk_goto C (tgt := 190) dL_act_186 (by decide) ?_
                            have es : stp σ w a b c d = sRest σ a (1) := (by show stp σ w a b c d = _; rw [show w = 11 by omega]; show sRest σ a (if b = 1 then 1 else 0) = _; rw [if_pos c_182])
                            obtain ⟨fs, ob⟩ := H.obj
                            refine gk_callVH T0 o_X4_rest k_L_48 dL_act_190 (h_rest2 hfl H (p := a) (b := (1)) ha (by omega)) ob rfl rfl rfl (by decide) (by decide) (by exact Nat.le_of_ble_eq_true rfl) (fun E_190 h_190 x_190 => ?_) (fun v_190 h_190 p_190 => ?_)
                            · obtain ⟨⟨rfl, er⟩ | ⟨rfl, er⟩ | ⟨rfl, er⟩, H6⟩ := x_190
                              · refine ⟨356, hd_L_act_0 (by omega), fun q_0 => ?_⟩
                                refine gk_astore_6 C rfl (by decide) dL_act_356 ?_
                                refine gk_ldc C cn_L_85 dL_act_358 ?_
                                refine (R _ _ _ _ _ (by decide) (by decide)).1 _ rfl dL_act_360 ?_
                                rw [es]
                                exact ⟨congrArg (fun q => some (iv q)) er.symm, H6⟩
                              · refine ⟨361, hd_L_act_1 (by omega), fun q_0 => ?_⟩
                                refine gk_astore_6 C rfl (by decide) dL_act_361 ?_
                                refine gk_ldc C cn_L_88 dL_act_363 ?_
                                refine (R _ _ _ _ _ (by decide) (by decide)).1 _ rfl dL_act_365 ?_
                                rw [es]
                                exact ⟨congrArg (fun q => some (iv q)) er.symm, H6⟩
                              · refine ⟨366, hd_L_act_2 (by omega), fun q_0 => ?_⟩
                                refine gk_astore_6 C rfl (by decide) dL_act_366 ?_
                                refine gk_ldc C cn_L_91 dL_act_368 ?_
                                refine (R _ _ _ _ _ (by decide) (by decide)).1 _ rfl dL_act_370 ?_
                                rw [es]
                                exact ⟨congrArg (fun q => some (iv q)) er.symm, H6⟩
                            · obtain ⟨rfl, k1, H6⟩ := p_190
                              dsimp only [gk_push]
                              refine gk_if_eq C (tgt := 200) (by omega) dL_act_193 (by decide) (fun c_193 => ?_) (fun c_193 => ?_)
                              · refine gk_iconst C dL_act_200 ?_
                                refine gk_goto C (tgt := 355) dL_act_201 (by decide) ?_
                                refine (R _ _ _ _ _ (by decide) (by decide)).1 _ rfl dL_act_355 ?_
                                rw [es]
                                exact ⟨congrArg (fun q => some (iv q)) (by omega), H6⟩
                              · refine gk_iconst C dL_act_196 ?_
                                refine gk_goto C (tgt := 355) dL_act_197 (by decide) ?_
                                refine (R _ _ _ _ _ (by decide) (by decide)).1 _ rfl dL_act_355 ?_
                                rw [es]
                                exact ⟨congrArg (fun q => some (iv q)) (by omega), H6⟩
                      · refine gk_aload_n C dL_act_163 rfl ?_
                        refine gk_iload_n C dL_act_164 rfl ?_
                        refine gk_iload_n C dL_act_165 rfl ?_
                        have es : stp σ w a b c d = sSeat σ a b := (by rw [show w = 10 by omega]; rfl)
                        obtain ⟨fs, ob⟩ := H.obj
                        refine gk_callVH T0 o_X4_seat k_L_45 dL_act_166 (h_seat hfl H (p := a) (b := b) ha hb) ob rfl rfl rfl (by decide) (by decide) (by exact Nat.le_of_ble_eq_true rfl) (fun E_166 h_166 x_166 => ?_) (fun v_166 h_166 p_166 => ?_)
                        · obtain ⟨⟨rfl, er⟩ | ⟨rfl, er⟩ | ⟨rfl, er⟩, H6⟩ := x_166
                          · refine ⟨356, hd_L_act_0 (by omega), fun q_0 => ?_⟩
                            refine gk_astore_6 C rfl (by decide) dL_act_356 ?_
                            refine gk_ldc C cn_L_85 dL_act_358 ?_
                            refine (R _ _ _ _ _ (by decide) (by decide)).1 _ rfl dL_act_360 ?_
                            rw [es]
                            exact ⟨congrArg (fun q => some (iv q)) er.symm, H6⟩
                          · refine ⟨361, hd_L_act_1 (by omega), fun q_0 => ?_⟩
                            refine gk_astore_6 C rfl (by decide) dL_act_361 ?_
                            refine gk_ldc C cn_L_88 dL_act_363 ?_
                            refine (R _ _ _ _ _ (by decide) (by decide)).1 _ rfl dL_act_365 ?_
                            rw [es]
                            exact ⟨congrArg (fun q => some (iv q)) er.symm, H6⟩
                          · refine ⟨366, hd_L_act_2 (by omega), fun q_0 => ?_⟩
                            refine gk_astore_6 C rfl (by decide) dL_act_366 ?_
                            refine gk_ldc C cn_L_91 dL_act_368 ?_
                            refine (R _ _ _ _ _ (by decide) (by decide)).1 _ rfl dL_act_370 ?_
                            rw [es]
                            exact ⟨congrArg (fun q => some (iv q)) er.symm, H6⟩
                        · obtain ⟨rfl, H6⟩ := p_166
                          dsimp only [gk_push]
                          refine gk_goto C (tgt := 355) dL_act_169 (by decide) ?_
                          refine (R _ _ _ _ _ (by decide) (by decide)).1 _ rfl dL_act_355 ?_
                          rw [es]
                          exact ⟨rfl, H6⟩
                    · refine gk_aload_n C dL_act_146 rfl ?_
                      refine gk_iload_n C dL_act_147 rfl ?_
                      refine gk_iload_n C dL_act_148 rfl ?_
                      refine gk_iload C dL_act_149 rfl ?_
                      have es : stp σ w a b c d = sPiper σ a b c := (by rw [show w = 9 by omega]; rfl)
                      obtain ⟨fs, ob⟩ := H.obj
                      refine gk_callVH T0 o_X4_piper k_L_42 dL_act_151 (h_piper hfl H (a := a) (b := b) (e := c) ha hb hc) ob rfl rfl rfl (by decide) (by decide) (by exact Nat.le_of_ble_eq_true rfl) (fun E_151 h_151 x_151 => ?_) (fun v_151 h_151 p_151 => ?_)
                      · obtain ⟨⟨rfl, er⟩ | ⟨rfl, er⟩ | ⟨rfl, er⟩, H6⟩ := x_151
                        · refine ⟨356, hd_L_act_0 (by omega), fun q_0 => ?_⟩
                          refine gk_astore_6 C rfl (by decide) dL_act_356 ?_
                          refine gk_ldc C cn_L_85 dL_act_358 ?_
                          refine (R _ _ _ _ _ (by decide) (by decide)).1 _ rfl dL_act_360 ?_
                          rw [es]
                          exact ⟨congrArg (fun q => some (iv q)) er.symm, H6⟩
                        · refine ⟨361, hd_L_act_1 (by omega), fun q_0 => ?_⟩
                          refine gk_astore_6 C rfl (by decide) dL_act_361 ?_
                          refine gk_ldc C cn_L_88 dL_act_363 ?_
                          refine (R _ _ _ _ _ (by decide) (by decide)).1 _ rfl dL_act_365 ?_
                          rw [es]
                          exact ⟨congrArg (fun q => some (iv q)) er.symm, H6⟩
                        · refine ⟨366, hd_L_act_2 (by omega), fun q_0 => ?_⟩
                          refine gk_astore_6 C rfl (by decide) dL_act_366 ?_
                          refine gk_ldc C cn_L_91 dL_act_368 ?_
                          refine (R _ _ _ _ _ (by decide) (by decide)).1 _ rfl dL_act_370 ?_
                          rw [es]
                          exact ⟨congrArg (fun q => some (iv q)) er.symm, H6⟩
                      · obtain ⟨rfl, H6⟩ := p_151
                        dsimp only [gk_push]
                        refine gk_goto C (tgt := 355) dL_act_154 (by decide) ?_
                        refine (R _ _ _ _ _ (by decide) (by decide)).1 _ rfl dL_act_355 ?_
                        rw [es]
                        exact ⟨rfl, H6⟩
                  · refine gk_aload_n C dL_act_133 rfl ?_
                    have es : stp σ w a b c d = sDrop σ := (by rw [show w = 8 by omega]; rfl)
                    obtain ⟨fs, ob⟩ := H.obj
                    refine gk_callVH T0 o_X4_drop k_L_38 dL_act_134 (h_drop hfl H  ) ob rfl rfl rfl (by decide) (by decide) (by exact Nat.le_of_ble_eq_true rfl) (fun E_134 h_134 x_134 => ?_) (fun v_134 h_134 p_134 => ?_)
                    · obtain ⟨⟨rfl, er⟩ | ⟨rfl, er⟩ | ⟨rfl, er⟩, H6⟩ := x_134
                      · refine ⟨356, hd_L_act_0 (by omega), fun q_0 => ?_⟩
                        refine gk_astore_6 C rfl (by decide) dL_act_356 ?_
                        refine gk_ldc C cn_L_85 dL_act_358 ?_
                        refine (R _ _ _ _ _ (by decide) (by decide)).1 _ rfl dL_act_360 ?_
                        rw [es]
                        exact ⟨congrArg (fun q => some (iv q)) er.symm, H6⟩
                      · refine ⟨361, hd_L_act_1 (by omega), fun q_0 => ?_⟩
                        refine gk_astore_6 C rfl (by decide) dL_act_361 ?_
                        refine gk_ldc C cn_L_88 dL_act_363 ?_
                        refine (R _ _ _ _ _ (by decide) (by decide)).1 _ rfl dL_act_365 ?_
                        rw [es]
                        exact ⟨congrArg (fun q => some (iv q)) er.symm, H6⟩
                      · refine ⟨366, hd_L_act_2 (by omega), fun q_0 => ?_⟩
                        refine gk_astore_6 C rfl (by decide) dL_act_366 ?_
                        refine gk_ldc C cn_L_91 dL_act_368 ?_
                        refine (R _ _ _ _ _ (by decide) (by decide)).1 _ rfl dL_act_370 ?_
                        rw [es]
                        exact ⟨congrArg (fun q => some (iv q)) er.symm, H6⟩
                    · obtain ⟨rfl, H6⟩ := p_134
                      dsimp only [gk_push]
                      refine gk_goto C (tgt := 355) dL_act_137 (by decide) ?_
                      refine (R _ _ _ _ _ (by decide) (by decide)).1 _ rfl dL_act_355 ?_
                      rw [es]
                      exact ⟨rfl, H6⟩
                · refine gk_aload_n C dL_act_118 rfl ?_
                  refine gk_iload_n C dL_act_119 rfl ?_
                  refine gk_iload_n C dL_act_120 rfl ?_
                  have es : stp σ w a b c d = sFollow σ a b := (by rw [show w = 7 by omega]; rfl)
                  obtain ⟨fs, ob⟩ := H.obj
                  refine gk_callVH T0 o_X4_follow k_L_35 dL_act_121 (h_follow hfl H (t := a) (tp := b) ha hb) ob rfl rfl rfl (by decide) (by decide) (by exact Nat.le_of_ble_eq_true rfl) (fun E_121 h_121 x_121 => ?_) (fun v_121 h_121 p_121 => ?_)
                  · obtain ⟨⟨rfl, er⟩ | ⟨rfl, er⟩ | ⟨rfl, er⟩, H6⟩ := x_121
                    · refine ⟨356, hd_L_act_0 (by omega), fun q_0 => ?_⟩
                      refine gk_astore_6 C rfl (by decide) dL_act_356 ?_
                      refine gk_ldc C cn_L_85 dL_act_358 ?_
                      refine (R _ _ _ _ _ (by decide) (by decide)).1 _ rfl dL_act_360 ?_
                      rw [es]
                      exact ⟨congrArg (fun q => some (iv q)) er.symm, H6⟩
                    · refine ⟨361, hd_L_act_1 (by omega), fun q_0 => ?_⟩
                      refine gk_astore_6 C rfl (by decide) dL_act_361 ?_
                      refine gk_ldc C cn_L_88 dL_act_363 ?_
                      refine (R _ _ _ _ _ (by decide) (by decide)).1 _ rfl dL_act_365 ?_
                      rw [es]
                      exact ⟨congrArg (fun q => some (iv q)) er.symm, H6⟩
                    · refine ⟨366, hd_L_act_2 (by omega), fun q_0 => ?_⟩
                      refine gk_astore_6 C rfl (by decide) dL_act_366 ?_
                      refine gk_ldc C cn_L_91 dL_act_368 ?_
                      refine (R _ _ _ _ _ (by decide) (by decide)).1 _ rfl dL_act_370 ?_
                      rw [es]
                      exact ⟨congrArg (fun q => some (iv q)) er.symm, H6⟩
                  · obtain ⟨rfl, H6⟩ := p_121
                    dsimp only [gk_push]
                    refine gk_goto C (tgt := 355) dL_act_124 (by decide) ?_
                    refine (R _ _ _ _ _ (by decide) (by decide)).1 _ rfl dL_act_355 ?_
                    rw [es]
                    exact ⟨rfl, H6⟩
              · refine gk_aload_n C dL_act_103 rfl ?_
                refine gk_iload_n C dL_act_104 rfl ?_
                refine gk_iload_n C dL_act_105 rfl ?_
                have es : stp σ w a b c d = sAlike σ a b := (by rw [show w = 6 by omega]; rfl)
                obtain ⟨fs, ob⟩ := H.obj
                refine gk_callVH T0 o_X4_alikeAnew k_L_32 dL_act_106 (h_alikeAnew hfl H (t := a) (u := b) ha hb) ob rfl rfl rfl (by decide) (by decide) (by exact Nat.le_of_ble_eq_true rfl) (fun E_106 h_106 x_106 => ?_) (fun v_106 h_106 p_106 => ?_)
                · obtain ⟨⟨rfl, er⟩ | ⟨rfl, er⟩ | ⟨rfl, er⟩, H6⟩ := x_106
                  · refine ⟨356, hd_L_act_0 (by omega), fun q_0 => ?_⟩
                    refine gk_astore_6 C rfl (by decide) dL_act_356 ?_
                    refine gk_ldc C cn_L_85 dL_act_358 ?_
                    refine (R _ _ _ _ _ (by decide) (by decide)).1 _ rfl dL_act_360 ?_
                    rw [es]
                    exact ⟨congrArg (fun q => some (iv q)) er.symm, H6⟩
                  · refine ⟨361, hd_L_act_1 (by omega), fun q_0 => ?_⟩
                    refine gk_astore_6 C rfl (by decide) dL_act_361 ?_
                    refine gk_ldc C cn_L_88 dL_act_363 ?_
                    refine (R _ _ _ _ _ (by decide) (by decide)).1 _ rfl dL_act_365 ?_
                    rw [es]
                    exact ⟨congrArg (fun q => some (iv q)) er.symm, H6⟩
                  · refine ⟨366, hd_L_act_2 (by omega), fun q_0 => ?_⟩
                    refine gk_astore_6 C rfl (by decide) dL_act_366 ?_
                    refine gk_ldc C cn_L_91 dL_act_368 ?_
                    refine (R _ _ _ _ _ (by decide) (by decide)).1 _ rfl dL_act_370 ?_
                    rw [es]
                    exact ⟨congrArg (fun q => some (iv q)) er.symm, H6⟩
                · obtain ⟨rfl, H6⟩ := p_106
                  dsimp only [gk_push]
                  refine gk_goto C (tgt := 355) dL_act_109 (by decide) ?_
                  refine (R _ _ _ _ _ (by decide) (by decide)).1 _ rfl dL_act_355 ?_
                  rw [es]
                  exact ⟨rfl, H6⟩
            · refine gk_aload_n C dL_act_88 rfl ?_
              refine gk_iload_n C dL_act_89 rfl ?_
              refine gk_iload_n C dL_act_90 rfl ?_
              have es : stp σ w a b c d = sAlike σ a b := (by rw [show w = 5 by omega]; rfl)
              obtain ⟨fs, ob⟩ := H.obj
              refine gk_callVH T0 o_X4_alike k_L_29 dL_act_91 (h_alike hfl H (t := a) (u := b) ha hb) ob rfl rfl rfl (by decide) (by decide) (by exact Nat.le_of_ble_eq_true rfl) (fun E_91 h_91 x_91 => ?_) (fun v_91 h_91 p_91 => ?_)
              · obtain ⟨⟨rfl, er⟩ | ⟨rfl, er⟩ | ⟨rfl, er⟩, H6⟩ := x_91
                · refine ⟨356, hd_L_act_0 (by omega), fun q_0 => ?_⟩
                  refine gk_astore_6 C rfl (by decide) dL_act_356 ?_
                  refine gk_ldc C cn_L_85 dL_act_358 ?_
                  refine (R _ _ _ _ _ (by decide) (by decide)).1 _ rfl dL_act_360 ?_
                  rw [es]
                  exact ⟨congrArg (fun q => some (iv q)) er.symm, H6⟩
                · refine ⟨361, hd_L_act_1 (by omega), fun q_0 => ?_⟩
                  refine gk_astore_6 C rfl (by decide) dL_act_361 ?_
                  refine gk_ldc C cn_L_88 dL_act_363 ?_
                  refine (R _ _ _ _ _ (by decide) (by decide)).1 _ rfl dL_act_365 ?_
                  rw [es]
                  exact ⟨congrArg (fun q => some (iv q)) er.symm, H6⟩
                · refine ⟨366, hd_L_act_2 (by omega), fun q_0 => ?_⟩
                  refine gk_astore_6 C rfl (by decide) dL_act_366 ?_
                  refine gk_ldc C cn_L_91 dL_act_368 ?_
                  refine (R _ _ _ _ _ (by decide) (by decide)).1 _ rfl dL_act_370 ?_
                  rw [es]
                  exact ⟨congrArg (fun q => some (iv q)) er.symm, H6⟩
              · obtain ⟨rfl, H6⟩ := p_91
                dsimp only [gk_push]
                refine gk_goto C (tgt := 355) dL_act_94 (by decide) ?_
                refine (R _ _ _ _ _ (by decide) (by decide)).1 _ rfl dL_act_355 ?_
                rw [es]
                exact ⟨rfl, H6⟩
          · refine gk_aload_n C dL_act_74 rfl ?_
            refine gk_iload_n C dL_act_75 rfl ?_
            refine gk_iload_n C dL_act_76 rfl ?_
            have es : stp σ w a b c d = sOfTune σ a b := (by rw [show w = 4 by omega]; rfl)
            obtain ⟨fs, ob⟩ := H.obj
            refine gk_callVH T0 o_X4_ofTune k_L_25 dL_act_77 (h_ofTune hfl H (t := a) (w := b) ha hb) ob rfl rfl rfl (by decide) (by decide) (by exact Nat.le_of_ble_eq_true rfl) (fun E_77 h_77 x_77 => ?_) (fun v_77 h_77 p_77 => ?_)
            · obtain ⟨⟨rfl, er⟩ | ⟨rfl, er⟩ | ⟨rfl, er⟩, H6⟩ := x_77
              · refine ⟨356, hd_L_act_0 (by omega), fun q_0 => ?_⟩
                refine gk_astore_6 C rfl (by decide) dL_act_356 ?_
                refine gk_ldc C cn_L_85 dL_act_358 ?_
                refine (R _ _ _ _ _ (by decide) (by decide)).1 _ rfl dL_act_360 ?_
                rw [es]
                exact ⟨congrArg (fun q => some (iv q)) er.symm, H6⟩
              · refine ⟨361, hd_L_act_1 (by omega), fun q_0 => ?_⟩
                refine gk_astore_6 C rfl (by decide) dL_act_361 ?_
                refine gk_ldc C cn_L_88 dL_act_363 ?_
                refine (R _ _ _ _ _ (by decide) (by decide)).1 _ rfl dL_act_365 ?_
                rw [es]
                exact ⟨congrArg (fun q => some (iv q)) er.symm, H6⟩
              · refine ⟨366, hd_L_act_2 (by omega), fun q_0 => ?_⟩
                refine gk_astore_6 C rfl (by decide) dL_act_366 ?_
                refine gk_ldc C cn_L_91 dL_act_368 ?_
                refine (R _ _ _ _ _ (by decide) (by decide)).1 _ rfl dL_act_370 ?_
                rw [es]
                exact ⟨congrArg (fun q => some (iv q)) er.symm, H6⟩
            · obtain ⟨rfl, H6⟩ := p_77
              dsimp only [gk_push]
              refine gk_goto C (tgt := 355) dL_act_80 (by decide) ?_
              refine (R _ _ _ _ _ (by decide) (by decide)).1 _ rfl dL_act_355 ?_
              rw [es]
              exact ⟨rfl, H6⟩
        · refine gk_aload_n C dL_act_58 rfl ?_
          refine gk_iload_n C dL_act_59 rfl ?_
          refine gk_iload_n C dL_act_60 rfl ?_
          refine gk_iload C dL_act_61 rfl ?_
          have es : stp σ w a b c d = sPlayed σ a b c := (by rw [show w = 3 by omega]; rfl)
          obtain ⟨fs, ob⟩ := H.obj
          refine gk_callVH T0 o_X4_played k_L_21 dL_act_63 (h_played hfl H (t := a) (p := b) (w := c) ha hb hc) ob rfl rfl rfl (by decide) (by decide) (by exact Nat.le_of_ble_eq_true rfl) (fun E_63 h_63 x_63 => ?_) (fun v_63 h_63 p_63 => ?_)
          · obtain ⟨⟨rfl, er⟩ | ⟨rfl, er⟩ | ⟨rfl, er⟩, H6⟩ := x_63
            · refine ⟨356, hd_L_act_0 (by omega), fun q_0 => ?_⟩
              refine gk_astore_6 C rfl (by decide) dL_act_356 ?_
              refine gk_ldc C cn_L_85 dL_act_358 ?_
              refine (R _ _ _ _ _ (by decide) (by decide)).1 _ rfl dL_act_360 ?_
              rw [es]
              exact ⟨congrArg (fun q => some (iv q)) er.symm, H6⟩
            · refine ⟨361, hd_L_act_1 (by omega), fun q_0 => ?_⟩
              refine gk_astore_6 C rfl (by decide) dL_act_361 ?_
              refine gk_ldc C cn_L_88 dL_act_363 ?_
              refine (R _ _ _ _ _ (by decide) (by decide)).1 _ rfl dL_act_365 ?_
              rw [es]
              exact ⟨congrArg (fun q => some (iv q)) er.symm, H6⟩
            · refine ⟨366, hd_L_act_2 (by omega), fun q_0 => ?_⟩
              refine gk_astore_6 C rfl (by decide) dL_act_366 ?_
              refine gk_ldc C cn_L_91 dL_act_368 ?_
              refine (R _ _ _ _ _ (by decide) (by decide)).1 _ rfl dL_act_370 ?_
              rw [es]
              exact ⟨congrArg (fun q => some (iv q)) er.symm, H6⟩
          · obtain ⟨rfl, H6⟩ := p_63
            dsimp only [gk_push]
            refine gk_goto C (tgt := 355) dL_act_66 (by decide) ?_
            refine (R _ _ _ _ _ (by decide) (by decide)).1 _ rfl dL_act_355 ?_
            rw [es]
            exact ⟨rfl, H6⟩
      · refine gk_aload_n C dL_act_35 rfl ?_
        refine gk_iload_n C dL_act_36 rfl ?_
        refine gk_iload_n C dL_act_37 rfl ?_
        refine gk_iconst C dL_act_38 ?_
        refine gk_icmp_ne C (tgt := 46) (by omega) (by omega) dL_act_39 (by decide) (fun c_39 => ?_) (fun c_39 => ?_)
        · refine gk_iconst C dL_act_46 ?_
          have es : stp σ w a b c d = sPart σ a (0) := (by show stp σ w a b c d = _; rw [show w = 2 by omega]; show sPart σ a (if b = 1 then 1 else 0) = _; rw [if_neg c_39])
          obtain ⟨fs, ob⟩ := H.obj
          refine gk_callVH T0 o_X4_part k_L_17 dL_act_47 (h_part hfl H (t := a) (rep := (0)) ha (by omega)) ob rfl rfl rfl (by decide) (by decide) (by exact Nat.le_of_ble_eq_true rfl) (fun E_47 h_47 x_47 => ?_) (fun v_47 h_47 p_47 => ?_)
          · obtain ⟨⟨rfl, er⟩ | ⟨rfl, er⟩ | ⟨rfl, er⟩, H6⟩ := x_47
            · refine ⟨356, hd_L_act_0 (by omega), fun q_0 => ?_⟩
              refine gk_astore_6 C rfl (by decide) dL_act_356 ?_
              refine gk_ldc C cn_L_85 dL_act_358 ?_
              refine (R _ _ _ _ _ (by decide) (by decide)).1 _ rfl dL_act_360 ?_
              rw [es]
              exact ⟨congrArg (fun q => some (iv q)) er.symm, H6⟩
            · refine ⟨361, hd_L_act_1 (by omega), fun q_0 => ?_⟩
              refine gk_astore_6 C rfl (by decide) dL_act_361 ?_
              refine gk_ldc C cn_L_88 dL_act_363 ?_
              refine (R _ _ _ _ _ (by decide) (by decide)).1 _ rfl dL_act_365 ?_
              rw [es]
              exact ⟨congrArg (fun q => some (iv q)) er.symm, H6⟩
            · refine ⟨366, hd_L_act_2 (by omega), fun q_0 => ?_⟩
              refine gk_astore_6 C rfl (by decide) dL_act_366 ?_
              refine gk_ldc C cn_L_91 dL_act_368 ?_
              refine (R _ _ _ _ _ (by decide) (by decide)).1 _ rfl dL_act_370 ?_
              rw [es]
              exact ⟨congrArg (fun q => some (iv q)) er.symm, H6⟩
          · obtain ⟨rfl, H6⟩ := p_47
            dsimp only [gk_push]
            refine gk_goto C (tgt := 355) dL_act_50 (by decide) ?_
            refine (R _ _ _ _ _ (by decide) (by decide)).1 _ rfl dL_act_355 ?_
            rw [es]
            exact ⟨rfl, H6⟩
        · refine gk_iconst C dL_act_42 ?_
          refine gk_goto C (tgt := 47) dL_act_43 (by decide) ?_
          have es : stp σ w a b c d = sPart σ a (1) := (by show stp σ w a b c d = _; rw [show w = 2 by omega]; show sPart σ a (if b = 1 then 1 else 0) = _; rw [if_pos c_39])
          obtain ⟨fs, ob⟩ := H.obj
          refine gk_callVH T0 o_X4_part k_L_17 dL_act_47 (h_part hfl H (t := a) (rep := (1)) ha (by omega)) ob rfl rfl rfl (by decide) (by decide) (by exact Nat.le_of_ble_eq_true rfl) (fun E_47 h_47 x_47 => ?_) (fun v_47 h_47 p_47 => ?_)
          · obtain ⟨⟨rfl, er⟩ | ⟨rfl, er⟩ | ⟨rfl, er⟩, H6⟩ := x_47
            · refine ⟨356, hd_L_act_0 (by omega), fun q_0 => ?_⟩
              refine gk_astore_6 C rfl (by decide) dL_act_356 ?_
              refine gk_ldc C cn_L_85 dL_act_358 ?_
              refine (R _ _ _ _ _ (by decide) (by decide)).1 _ rfl dL_act_360 ?_
              rw [es]
              exact ⟨congrArg (fun q => some (iv q)) er.symm, H6⟩
            · refine ⟨361, hd_L_act_1 (by omega), fun q_0 => ?_⟩
              refine gk_astore_6 C rfl (by decide) dL_act_361 ?_
              refine gk_ldc C cn_L_88 dL_act_363 ?_
              refine (R _ _ _ _ _ (by decide) (by decide)).1 _ rfl dL_act_365 ?_
              rw [es]
              exact ⟨congrArg (fun q => some (iv q)) er.symm, H6⟩
            · refine ⟨366, hd_L_act_2 (by omega), fun q_0 => ?_⟩
              refine gk_astore_6 C rfl (by decide) dL_act_366 ?_
              refine gk_ldc C cn_L_91 dL_act_368 ?_
              refine (R _ _ _ _ _ (by decide) (by decide)).1 _ rfl dL_act_370 ?_
              rw [es]
              exact ⟨congrArg (fun q => some (iv q)) er.symm, H6⟩
          · obtain ⟨rfl, H6⟩ := p_47
            dsimp only [gk_push]
            refine gk_goto C (tgt := 355) dL_act_50 (by decide) ?_
            refine (R _ _ _ _ _ (by decide) (by decide)).1 _ rfl dL_act_355 ?_
            rw [es]
            exact ⟨rfl, H6⟩
    · refine gk_aload_n C dL_act_17 rfl ?_
      refine gk_iload_n C dL_act_18 rfl ?_
      refine gk_iload_n C dL_act_19 rfl ?_
      refine gk_iload C dL_act_20 rfl ?_
      refine gk_iload C dL_act_22 rfl ?_
      have es : stp σ w a b c d = sNote σ a b c d := (by rw [show w = 1 by omega]; rfl)
      obtain ⟨fs, ob⟩ := H.obj
      refine gk_callVH T0 o_X4_note k_L_13 dL_act_24 (h_note hfl H (t := a) (a := b) (b := c) (g := d) ha hb hc hd) ob rfl rfl rfl (by decide) (by decide) (by exact Nat.le_of_ble_eq_true rfl) (fun E_24 h_24 x_24 => ?_) (fun v_24 h_24 p_24 => ?_)
      · obtain ⟨⟨rfl, er⟩ | ⟨rfl, er⟩ | ⟨rfl, er⟩, H6⟩ := x_24
        · refine ⟨356, hd_L_act_0 (by omega), fun q_0 => ?_⟩
          refine gk_astore_6 C rfl (by decide) dL_act_356 ?_
          refine gk_ldc C cn_L_85 dL_act_358 ?_
          refine (R _ _ _ _ _ (by decide) (by decide)).1 _ rfl dL_act_360 ?_
          rw [es]
          exact ⟨congrArg (fun q => some (iv q)) er.symm, H6⟩
        · refine ⟨361, hd_L_act_1 (by omega), fun q_0 => ?_⟩
          refine gk_astore_6 C rfl (by decide) dL_act_361 ?_
          refine gk_ldc C cn_L_88 dL_act_363 ?_
          refine (R _ _ _ _ _ (by decide) (by decide)).1 _ rfl dL_act_365 ?_
          rw [es]
          exact ⟨congrArg (fun q => some (iv q)) er.symm, H6⟩
        · refine ⟨366, hd_L_act_2 (by omega), fun q_0 => ?_⟩
          refine gk_astore_6 C rfl (by decide) dL_act_366 ?_
          refine gk_ldc C cn_L_91 dL_act_368 ?_
          refine (R _ _ _ _ _ (by decide) (by decide)).1 _ rfl dL_act_370 ?_
          rw [es]
          exact ⟨congrArg (fun q => some (iv q)) er.symm, H6⟩
      · obtain ⟨rfl, H6⟩ := p_24
        dsimp only [gk_push]
        refine gk_goto C (tgt := 355) dL_act_27 (by decide) ?_
        refine (R _ _ _ _ _ (by decide) (by decide)).1 _ rfl dL_act_355 ?_
        rw [es]
        exact ⟨rfl, H6⟩
  · refine gk_aload_n C dL_act_4 rfl ?_
    refine gk_iload_n C dL_act_5 rfl ?_
    have es : stp σ w a b c d = sTune σ a := (by rw [show w = 0 by omega]; rfl)
    obtain ⟨fs, ob⟩ := H.obj
    refine gk_callVH T0 o_X4_tune k_L_7 dL_act_6 (h_tune hfl H (z := a) ha) ob rfl rfl rfl (by decide) (by decide) (by exact Nat.le_of_ble_eq_true rfl) (fun E_6 h_6 x_6 => ?_) (fun v_6 h_6 p_6 => ?_)
    · obtain ⟨⟨rfl, er⟩ | ⟨rfl, er⟩ | ⟨rfl, er⟩, H6⟩ := x_6
      · refine ⟨356, hd_L_act_0 (by omega), fun q_0 => ?_⟩
        refine gk_astore_6 C rfl (by decide) dL_act_356 ?_
        refine gk_ldc C cn_L_85 dL_act_358 ?_
        refine (R _ _ _ _ _ (by decide) (by decide)).1 _ rfl dL_act_360 ?_
        rw [es]
        exact ⟨congrArg (fun q => some (iv q)) er.symm, H6⟩
      · refine ⟨361, hd_L_act_1 (by omega), fun q_0 => ?_⟩
        refine gk_astore_6 C rfl (by decide) dL_act_361 ?_
        refine gk_ldc C cn_L_88 dL_act_363 ?_
        refine (R _ _ _ _ _ (by decide) (by decide)).1 _ rfl dL_act_365 ?_
        rw [es]
        exact ⟨congrArg (fun q => some (iv q)) er.symm, H6⟩
      · refine ⟨366, hd_L_act_2 (by omega), fun q_0 => ?_⟩
        refine gk_astore_6 C rfl (by decide) dL_act_366 ?_
        refine gk_ldc C cn_L_91 dL_act_368 ?_
        refine (R _ _ _ _ _ (by decide) (by decide)).1 _ rfl dL_act_370 ?_
        rw [es]
        exact ⟨congrArg (fun q => some (iv q)) er.symm, H6⟩
    · obtain ⟨rfl, H6⟩ := p_6
      dsimp only [gk_push]
      refine gk_goto C (tgt := 355) dL_act_9 (by decide) ?_
      refine (R _ _ _ _ _ (by decide) (by decide)).1 _ rfl dL_act_355 ?_
      rw [es]
      exact ⟨rfl, H6⟩

theorem act_e {l : Launch} {Γ : GA} {x : Nat} {σ σ2 : ST} {h : Hp} (hfl : l.stackTraces = false) (H : HD Γ x σ h) {wi : Int} {w : Nat} {a b c d r : Int} (hwi : wi = (w : Int)) (hw : w ≤ 21) (ha : -2147483648 ≤ a ∧ a ≤ 2147483647) (hb : -2147483648 ≤ b ∧ b ≤ 2147483647) (hc : -2147483648 ≤ c ∧ c ≤ 2147483647) (hd : -2147483648 ≤ d ∧ d ≤ 2147483647) (hcl : σ.2.2.2.2 ≤ 10000) (e : stp σ w a b c d = (r, σ2)) : CtH l Γ m_L_act hh_L_act [.ref x, iv wi, iv a, iv b, iv c, iv d] h (fun v h' => v = some (iv r) ∧ HD Γ x σ2 h') := by
  have k := h_act hfl H hwi hw ha hb hc hd hcl
  rw [e] at k
  exact k
