/-! the law's loop -/
set_option maxRecDepth 100000 in
set_option maxHeartbeats 4000000 in
theorem law_loop {l : Launch} {Γ : GA} {nm : String} {G : GP} {sb ls : Nat} {xs : Nat → Int32} (CL : CxL l Γ (m_law nm) G sb ls xs) (hfl : l.stackTraces = false) {x o od : Nat} {adm : Nat → Nat} (IMm : IM adm) (hne : o ≠ od) (hls : ls ≤ 2560)
    (fin : ∀ (L : List (Option Value)) (h : Hp) (k n : Nat), k ≤ 601024 → n ≤ 7293033 → G 1739 L [] h k n) :
    ∀ (d c : Nat), ls < 5 * c + d → 5 * c ≤ ls → ∀ (X W : Hp) (s : MS) (f : Int → Int) (g : Int → UInt64) (k n : Nat) (u0 v0 : Option Value), LX Γ x c X s → W o = some (aL 1 f) → W od = some (aD 1 g) → hdj X (hU (HM adm s) W) → hdj (HM adm s) W → k ≤ 1000 + 40 * c → n ≤ 4000 + 1000 * c →
    G 28 [some (.ref sb), some (.ref x), some (.ref (adm 40)), some (.ref o), some (.ref od), some (iv (5 * (c : Int))), u0, v0] [] (hU X (hU (HM adm s) W)) k n := by
  have C := CL.cx
  intro d
  induction d with
  | zero =>
    intro c h1 h2
    omega
  | succ d ih =>
    intro c hd h5 X W s f g k n u0 v0 hx hW hV hdX hdm hk hn
    have hc : c ≤ 512 := by omega
    have back : ∀ (X2 : Hp) (s2 : MS) (W2 : Hp) (f2 : Int → Int) (g2 : Int → UInt64) (k2 n2 : Nat) (u v : Option Value), 5 * c + 5 ≤ ls → LX Γ x (c + 1) X2 s2 → W2 o = some (aL 1 f2) → W2 od = some (aD 1 g2) → hdj X2 (hU (HM adm s2) W2) → hdj (HM adm s2) W2 → k2 ≤ k + 40 → n2 ≤ n + 1000 → G 1733 [some (.ref sb), some (.ref x), some (.ref (adm 40)), some (.ref o), some (.ref od), some (iv (5 * (c : Int))), u, v] [] (hU X2 (hU (HM adm s2) W2)) k2 n2 := by
      intro X2 s2 W2 f2 g2 k2 n2 u v h5c hx2 hW2 hV2 hdX2 hdm2 hk2 hn2
      refine gk_iinc_5 C rfl (by exact Nat.le_of_ble_eq_true rfl) dL_law_1733 ?_
      refine gk_goto C (tgt := 28) dL_law_1736 (by decide) ?_
      rw [show 5 * (c : Int) + 5 = 5 * ((c + 1 : Nat) : Int) by omega]
      exact ih (c + 1) (by omega) (by omega) X2 W2 s2 f2 g2 k2 n2 u v hx2 hW2 hV2 hdX2 hdm2 (by omega) (by omega)
    refine gk_iload C dL_law_28 rfl ?_
    refine gk_aload_n C dL_law_30 rfl ?_
    refine gk_slen CL dL_law_31 ?_
    refine gk_iconst C dL_law_32 ?_
    refine gk_isub C dL_law_33 ?_
    refine gk_icmp_gt C (tgt := 1739) (by omega) (by omega) dL_law_34 (by decide) (fun c_34 => ?_) (fun c_34 => ?_)
    · exact fin _ _ _ _ (by omega) (by omega)
    · have h5c : 5 * c + 5 ≤ ls := by omega
      refine gk_aload_n C dL_law_37 rfl ?_
      refine gk_iload C dL_law_38 rfl ?_
      refine gk_sld CL dL_law_40 (by omega) (by omega) ?_
      refine gk_bipush C dL_law_41 (by decide) ?_
      obtain ⟨rr, hr1, hr2, hr3⟩ := and31 (xz xs (5 * (c : Int)))
      refine gk_iand C dL_law_43 hr1 ?_
      rcases (show (rr < 0 ∨ 24 < rr) ∨ rr = 0 ∨ rr = 1 ∨ rr = 2 ∨ rr = 3 ∨ rr = 4 ∨ rr = 5 ∨ rr = 6 ∨ rr = 7 ∨ rr = 8 ∨ rr = 9 ∨ rr = 10 ∨ rr = 11 ∨ rr = 12 ∨ rr = 13 ∨ rr = 14 ∨ rr = 15 ∨ rr = 16 ∨ rr = 17 ∨ rr = 18 ∨ rr = 19 ∨ rr = 20 ∨ rr = 21 ∨ rr = 22 ∨ rr = 23 ∨ rr = 24 from by omega) with c_44 | c_44 | c_44 | c_44 | c_44 | c_44 | c_44 | c_44 | c_44 | c_44 | c_44 | c_44 | c_44 | c_44 | c_44 | c_44 | c_44 | c_44 | c_44 | c_44 | c_44 | c_44 | c_44 | c_44 | c_44 | c_44
      · refine gk_tableOut C (tgt := 1733) (by omega) dL_law_44 c_44 (by decide) ?_
        exact back X s W f g k n u0 v0 h5c hx.next hW hV hdX hdm (by omega) (by omega)
      · refine gk_tableIn C (tgt := 160) (by omega) dL_law_44 (by omega) (by omega) (by rw [c_44]; rfl) (by decide) ?_
        exact lt_tune CL hfl hx (by omega) IMm hW hV hne hdX hdm (by omega) hls (by omega) (fun X2 s2 W2 f2 g2 k2 n2 u v => back X2 s2 W2 f2 g2 k2 n2 u v h5c)
      · refine gk_tableIn C (tgt := 216) (by omega) dL_law_44 (by omega) (by omega) (by rw [c_44]; rfl) (by decide) ?_
        exact lt_note CL hfl hx (by omega) IMm hW hV hne hdX hdm (by omega) hls (by omega) (fun X2 s2 W2 f2 g2 k2 n2 u v => back X2 s2 W2 f2 g2 k2 n2 u v h5c)
      · refine gk_tableIn C (tgt := 308) (by omega) dL_law_44 (by omega) (by omega) (by rw [c_44]; rfl) (by decide) ?_
        exact lt_part CL hfl hx (by omega) IMm hW hV hne hdX hdm (by omega) hls (by omega) (fun X2 s2 W2 f2 g2 k2 n2 u v => back X2 s2 W2 f2 g2 k2 n2 u v h5c)
      · refine gk_tableIn C (tgt := 392) (by omega) dL_law_44 (by omega) (by omega) (by rw [c_44]; rfl) (by decide) ?_
        exact lt_played CL hfl hx (by omega) IMm hW hV hne hdX hdm (by omega) hls (by omega) (fun X2 s2 W2 f2 g2 k2 n2 u v => back X2 s2 W2 f2 g2 k2 n2 u v h5c)
      · refine gk_tableIn C (tgt := 472) (by omega) dL_law_44 (by omega) (by omega) (by rw [c_44]; rfl) (by decide) ?_
        exact lt_ofTune CL hfl hx (by omega) IMm hW hV hne hdX hdm (by omega) hls (by omega) (fun X2 s2 W2 f2 g2 k2 n2 u v => back X2 s2 W2 f2 g2 k2 n2 u v h5c)
      · refine gk_tableIn C (tgt := 540) (by omega) dL_law_44 (by omega) (by omega) (by rw [c_44]; rfl) (by decide) ?_
        exact lt_alike CL hfl hx (by omega) IMm hW hV hne hdX hdm (by omega) hls (by omega) (fun X2 s2 W2 f2 g2 k2 n2 u v => back X2 s2 W2 f2 g2 k2 n2 u v h5c)
      · refine gk_tableIn C (tgt := 608) (by omega) dL_law_44 (by omega) (by omega) (by rw [c_44]; rfl) (by decide) ?_
        exact lt_alikeAnew CL hfl hx (by omega) IMm hW hV hne hdX hdm (by omega) hls (by omega) (fun X2 s2 W2 f2 g2 k2 n2 u v => back X2 s2 W2 f2 g2 k2 n2 u v h5c)
      · refine gk_tableIn C (tgt := 676) (by omega) dL_law_44 (by omega) (by omega) (by rw [c_44]; rfl) (by decide) ?_
        exact lt_follow CL hfl hx (by omega) IMm hW hV hne hdX hdm (by omega) hls (by omega) (fun X2 s2 W2 f2 g2 k2 n2 u v => back X2 s2 W2 f2 g2 k2 n2 u v h5c)
      · refine gk_tableIn C (tgt := 744) (by omega) dL_law_44 (by omega) (by omega) (by rw [c_44]; rfl) (by decide) ?_
        exact lt_drop CL hfl hx (by omega) IMm hW hV hne hdX hdm (by omega) hls (by omega) (fun X2 s2 W2 f2 g2 k2 n2 u v => back X2 s2 W2 f2 g2 k2 n2 u v h5c)
      · refine gk_tableIn C (tgt := 788) (by omega) dL_law_44 (by omega) (by omega) (by rw [c_44]; rfl) (by decide) ?_
        exact lt_time CL hfl hx (by omega) IMm hW hV hne hdX hdm (by omega) hls (by omega) (fun X2 s2 W2 f2 g2 k2 n2 u v => back X2 s2 W2 f2 g2 k2 n2 u v h5c)
      · refine gk_tableIn C (tgt := 802) (by omega) dL_law_44 (by omega) (by omega) (by rw [c_44]; rfl) (by decide) ?_
        exact lt_piper CL hfl hx (by omega) IMm hW hV hne hdX hdm (by omega) hls (by omega) (fun X2 s2 W2 f2 g2 k2 n2 u v => back X2 s2 W2 f2 g2 k2 n2 u v h5c)
      · refine gk_tableIn C (tgt := 882) (by omega) dL_law_44 (by omega) (by omega) (by rw [c_44]; rfl) (by decide) ?_
        exact lt_seat CL hfl hx (by omega) IMm hW hV hne hdX hdm (by omega) hls (by omega) (fun X2 s2 W2 f2 g2 k2 n2 u v => back X2 s2 W2 f2 g2 k2 n2 u v h5c)
      · refine gk_tableIn C (tgt := 950) (by omega) dL_law_44 (by omega) (by omega) (by rw [c_44]; rfl) (by decide) ?_
        exact lt_rest CL hfl hx (by omega) IMm hW hV hne hdX hdm (by omega) hls (by omega) (fun X2 s2 W2 f2 g2 k2 n2 u v => back X2 s2 W2 f2 g2 k2 n2 u v h5c)
      · refine gk_tableIn C (tgt := 1041) (by omega) dL_law_44 (by omega) (by omega) (by rw [c_44]; rfl) (by decide) ?_
        exact lt_play CL hfl hx (by omega) IMm hW hV hne hdX hdm (by omega) hls (by omega) (fun X2 s2 W2 f2 g2 k2 n2 u v => back X2 s2 W2 f2 g2 k2 n2 u v h5c)
      · refine gk_tableIn C (tgt := 1121) (by omega) dL_law_44 (by omega) (by omega) (by rw [c_44]; rfl) (by decide) ?_
        exact lt_ofPiper CL hfl hx (by omega) IMm hW hV hne hdX hdm (by omega) hls (by omega) (fun X2 s2 W2 f2 g2 k2 n2 u v => back X2 s2 W2 f2 g2 k2 n2 u v h5c)
      · refine gk_tableIn C (tgt := 1189) (by omega) dL_law_44 (by omega) (by omega) (by rw [c_44]; rfl) (by decide) ?_
        exact lt_spread CL hfl hx (by omega) IMm hW hV hne hdX hdm (by omega) hls (by omega) (fun X2 s2 W2 f2 g2 k2 n2 u v => back X2 s2 W2 f2 g2 k2 n2 u v h5c)
      · refine gk_tableIn C (tgt := 1202) (by omega) dL_law_44 (by omega) (by omega) (by rw [c_44]; rfl) (by decide) ?_
        exact lt_odd CL hfl hx (by omega) IMm hW hV hne hdX hdm (by omega) hls (by omega) (fun X2 s2 W2 f2 g2 k2 n2 u v => back X2 s2 W2 f2 g2 k2 n2 u v h5c)
      · refine gk_tableIn C (tgt := 1215) (by omega) dL_law_44 (by omega) (by omega) (by rw [c_44]; rfl) (by decide) ?_
        exact lt_beats CL hfl hx (by omega) IMm hW hV hne hdX hdm (by omega) hls (by omega) (fun X2 s2 W2 f2 g2 k2 n2 u v => back X2 s2 W2 f2 g2 k2 n2 u v h5c)
      · refine gk_tableIn C (tgt := 1305) (by omega) dL_law_44 (by omega) (by omega) (by rw [c_44]; rfl) (by decide) ?_
        exact lt_ahead CL hfl hx (by omega) IMm hW hV hne hdX hdm (by omega) hls (by omega) (fun X2 s2 W2 f2 g2 k2 n2 u v => back X2 s2 W2 f2 g2 k2 n2 u v h5c)
      · refine gk_tableIn C (tgt := 1385) (by omega) dL_law_44 (by omega) (by omega) (by rw [c_44]; rfl) (by decide) ?_
        exact lt_band CL hfl hx (by omega) IMm hW hV hne hdX hdm (by omega) hls (by omega) (fun X2 s2 W2 f2 g2 k2 n2 u v => back X2 s2 W2 f2 g2 k2 n2 u v h5c)
      · refine gk_tableIn C (tgt := 1441) (by omega) dL_law_44 (by omega) (by omega) (by rw [c_44]; rfl) (by decide) ?_
        exact lt_contest CL hfl hx (by omega) IMm hW hV hne hdX hdm (by omega) hls (by omega) (fun X2 s2 W2 f2 g2 k2 n2 u v => back X2 s2 W2 f2 g2 k2 n2 u v h5c)
      · refine gk_tableIn C (tgt := 1497) (by omega) dL_law_44 (by omega) (by omega) (by rw [c_44]; rfl) (by decide) ?_
        exact lt_mark CL hfl hx (by omega) IMm hW hV hne hdX hdm (by omega) hls (by omega) (fun X2 s2 W2 f2 g2 k2 n2 u v => back X2 s2 W2 f2 g2 k2 n2 u v h5c)
      · refine gk_tableIn C (tgt := 1577) (by omega) dL_law_44 (by omega) (by omega) (by rw [c_44]; rfl) (by decide) ?_
        exact lt_close CL hfl hx (by omega) IMm hW hV hne hdX hdm (by omega) hls (by omega) (fun X2 s2 W2 f2 g2 k2 n2 u v => back X2 s2 W2 f2 g2 k2 n2 u v h5c)
      · refine gk_tableIn C (tgt := 1621) (by omega) dL_law_44 (by omega) (by omega) (by rw [c_44]; rfl) (by decide) ?_
        exact lt_season CL hfl hx (by omega) IMm hW hV hne hdX hdm (by omega) hls (by omega) (fun X2 s2 W2 f2 g2 k2 n2 u v => back X2 s2 W2 f2 g2 k2 n2 u v h5c)
      · refine gk_tableIn C (tgt := 1665) (by omega) dL_law_44 (by omega) (by omega) (by rw [c_44]; rfl) (by decide) ?_
        exact lt_ofBand CL hfl hx (by omega) IMm hW hV hne hdX hdm (by omega) hls (by omega) (fun X2 s2 W2 f2 g2 k2 n2 u v => back X2 s2 W2 f2 g2 k2 n2 u v h5c)
