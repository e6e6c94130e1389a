/-! the law's cases, closed -/
theorem lt_tune {l : Launch} {Γ : GA} {nm : String} {G : GP} {sb ls : Nat} {xs : Nat → Int32} (CL : CxL l Γ (m_law nm) G sb ls xs) (hfl : l.stackTraces = false) {x o od c : Nat} {i : Int} {k n : Nat} {X W : Hp} {adm : Nat → Nat} {s : MS} {f : Int → Int} {g : Int → UInt64} {u0 v0 : Option Value} (hx : LX Γ x c X s) (hc : c ≤ 600) (IMm : IM adm) (hW : W o = some (aL 1 f)) (hV : W od = some (aD 1 g)) (hne : o ≠ od) (hdX : hdj X (hU (HM adm s) W)) (hdm : hdj (HM adm s) W) (hi : 0 ≤ i ∧ i + 5 ≤ ls) (hls : ls ≤ 2560) (hk : k + 100 ≤ 601024 ∧ n + 2000 ≤ 7293033)
    (nx : ∀ (X2 : Hp) (s2 : MS) (W2 : Hp) (f2 : Int → Int) (g2 : Int → UInt64) (k2 n2 : Nat) (u v : Option Value), LX Γ x (c + 1) X2 s2 → W2 o = some (aL 1 f2) → W2 od = some (aD 1 g2) → hdj X2 (hU (HM adm s2) W2) → hdj (HM adm s2) W2 → k2 ≤ k + 40 → n2 ≤ n + 1000 → G 1733 [some (.ref sb), some (.ref x), some (.ref (adm 40)), some (.ref o), some (.ref od), some (iv i), u, v] [] (hU X2 (hU (HM adm s2) W2)) k2 n2) :
    G 160 [some (.ref sb), some (.ref x), some (.ref (adm 40)), some (.ref o), some (.ref od), some (iv i), u0, v0] [] (hU X (hU (HM adm s) W)) k n := by
  obtain ⟨ad, Q, S, P, B, rfl, I, rfl, H⟩ := hx
  have r1 := xz_rng xs (i + 1)
  refine lc_tune CL hfl (MP := fun (b : Int) (s2 : MS) => MTune s (xz xs (i + 1)) b s2) IMm hW hV hne hdX hdm hi hls hk ?_ ?_ nx
  · exact w_tune (hx_0 I) (hU_r hdm hW) hdX (cs_tune hfl I H hc r1)
  · exact Ct.mono (m_tune hfl IMm H.1 r1) (fun v h' p => p) (fun _ _ z => z)

theorem lt_note {l : Launch} {Γ : GA} {nm : String} {G : GP} {sb ls : Nat} {xs : Nat → Int32} (CL : CxL l Γ (m_law nm) G sb ls xs) (hfl : l.stackTraces = false) {x o od c : Nat} {i : Int} {k n : Nat} {X W : Hp} {adm : Nat → Nat} {s : MS} {f : Int → Int} {g : Int → UInt64} {u0 v0 : Option Value} (hx : LX Γ x c X s) (hc : c ≤ 600) (IMm : IM adm) (hW : W o = some (aL 1 f)) (hV : W od = some (aD 1 g)) (hne : o ≠ od) (hdX : hdj X (hU (HM adm s) W)) (hdm : hdj (HM adm s) W) (hi : 0 ≤ i ∧ i + 5 ≤ ls) (hls : ls ≤ 2560) (hk : k + 100 ≤ 601024 ∧ n + 2000 ≤ 7293033)
    (nx : ∀ (X2 : Hp) (s2 : MS) (W2 : Hp) (f2 : Int → Int) (g2 : Int → UInt64) (k2 n2 : Nat) (u v : Option Value), LX Γ x (c + 1) X2 s2 → W2 o = some (aL 1 f2) → W2 od = some (aD 1 g2) → hdj X2 (hU (HM adm s2) W2) → hdj (HM adm s2) W2 → k2 ≤ k + 40 → n2 ≤ n + 1000 → G 1733 [some (.ref sb), some (.ref x), some (.ref (adm 40)), some (.ref o), some (.ref od), some (iv i), u, v] [] (hU X2 (hU (HM adm s2) W2)) k2 n2) :
    G 216 [some (.ref sb), some (.ref x), some (.ref (adm 40)), some (.ref o), some (.ref od), some (iv i), u0, v0] [] (hU X (hU (HM adm s) W)) k n := by
  obtain ⟨ad, Q, S, P, B, rfl, I, rfl, H⟩ := hx
  have r1 := xz_rng xs (i + 1)
  have r2 := xz_rng xs (i + 2)
  have r3 := xz_rng xs (i + 3)
  have r4 := xz_rng xs (i + 4)
  refine lc_note CL hfl (MP := fun (b : Int) (s2 : MS) => MNote s (xz xs (i + 1)) (xz xs (i + 2)) (xz xs (i + 3)) (xz xs (i + 4)) b s2) IMm hW hV hne hdX hdm hi hls hk ?_ ?_ nx
  · exact w_note (hx_0 I) (hU_r hdm hW) hdX (cs_note hfl I H hc r1 r2 r3 r4)
  · exact Ct.mono (m_note hfl IMm H.1 r1 r2 r3 r4) (fun v h' p => p) (fun _ _ z => z)

theorem lt_part {l : Launch} {Γ : GA} {nm : String} {G : GP} {sb ls : Nat} {xs : Nat → Int32} (CL : CxL l Γ (m_law nm) G sb ls xs) (hfl : l.stackTraces = false) {x o od c : Nat} {i : Int} {k n : Nat} {X W : Hp} {adm : Nat → Nat} {s : MS} {f : Int → Int} {g : Int → UInt64} {u0 v0 : Option Value} (hx : LX Γ x c X s) (hc : c ≤ 600) (IMm : IM adm) (hW : W o = some (aL 1 f)) (hV : W od = some (aD 1 g)) (hne : o ≠ od) (hdX : hdj X (hU (HM adm s) W)) (hdm : hdj (HM adm s) W) (hi : 0 ≤ i ∧ i + 5 ≤ ls) (hls : ls ≤ 2560) (hk : k + 100 ≤ 601024 ∧ n + 2000 ≤ 7293033)
    (nx : ∀ (X2 : Hp) (s2 : MS) (W2 : Hp) (f2 : Int → Int) (g2 : Int → UInt64) (k2 n2 : Nat) (u v : Option Value), LX Γ x (c + 1) X2 s2 → W2 o = some (aL 1 f2) → W2 od = some (aD 1 g2) → hdj X2 (hU (HM adm s2) W2) → hdj (HM adm s2) W2 → k2 ≤ k + 40 → n2 ≤ n + 1000 → G 1733 [some (.ref sb), some (.ref x), some (.ref (adm 40)), some (.ref o), some (.ref od), some (iv i), u, v] [] (hU X2 (hU (HM adm s2) W2)) k2 n2) :
    G 308 [some (.ref sb), some (.ref x), some (.ref (adm 40)), some (.ref o), some (.ref od), some (iv i), u0, v0] [] (hU X (hU (HM adm s) W)) k n := by
  obtain ⟨ad, Q, S, P, B, rfl, I, rfl, H⟩ := hx
  have r1 := xz_rng xs (i + 1)
  have r2 := xz_rng xs (i + 2)
  obtain ⟨bz, hbz, hb1⟩ : ∃ bz : Int, ((xz xs (i + 2) = 0 ∧ bz = 0) ∨ (¬ xz xs (i + 2) = 0 ∧ bz = 1)) ∧ (bz = 0 ∨ bz = 1) := by
    by_cases q : xz xs (i + 2) = 0
    · exact ⟨0, Or.inl ⟨q, rfl⟩, Or.inl rfl⟩
    · exact ⟨1, Or.inr ⟨q, rfl⟩, Or.inr rfl⟩
  refine lc_part CL hfl (MP := fun (b : Int) (s2 : MS) => MPart s (xz xs (i + 1)) bz b s2) IMm hW hV hne hdX hdm hi hls hk hbz ?_ ?_ nx
  · exact w_part (hx_0 I) (hU_r hdm hW) hdX (cs_part hfl I H hc r1 hb1)
  · exact Ct.mono (m_part hfl IMm H.1 r1 hb1) (fun v h' p => p) (fun _ _ z => z)

theorem lt_played {l : Launch} {Γ : GA} {nm : String} {G : GP} {sb ls : Nat} {xs : Nat → Int32} (CL : CxL l Γ (m_law nm) G sb ls xs) (hfl : l.stackTraces = false) {x o od c : Nat} {i : Int} {k n : Nat} {X W : Hp} {adm : Nat → Nat} {s : MS} {f : Int → Int} {g : Int → UInt64} {u0 v0 : Option Value} (hx : LX Γ x c X s) (hc : c ≤ 600) (IMm : IM adm) (hW : W o = some (aL 1 f)) (hV : W od = some (aD 1 g)) (hne : o ≠ od) (hdX : hdj X (hU (HM adm s) W)) (hdm : hdj (HM adm s) W) (hi : 0 ≤ i ∧ i + 5 ≤ ls) (hls : ls ≤ 2560) (hk : k + 100 ≤ 601024 ∧ n + 2000 ≤ 7293033)
    (nx : ∀ (X2 : Hp) (s2 : MS) (W2 : Hp) (f2 : Int → Int) (g2 : Int → UInt64) (k2 n2 : Nat) (u v : Option Value), LX Γ x (c + 1) X2 s2 → W2 o = some (aL 1 f2) → W2 od = some (aD 1 g2) → hdj X2 (hU (HM adm s2) W2) → hdj (HM adm s2) W2 → k2 ≤ k + 40 → n2 ≤ n + 1000 → G 1733 [some (.ref sb), some (.ref x), some (.ref (adm 40)), some (.ref o), some (.ref od), some (iv i), u, v] [] (hU X2 (hU (HM adm s2) W2)) k2 n2) :
    G 392 [some (.ref sb), some (.ref x), some (.ref (adm 40)), some (.ref o), some (.ref od), some (iv i), u0, v0] [] (hU X (hU (HM adm s) W)) k n := by
  obtain ⟨ad, Q, S, P, B, rfl, I, rfl, H⟩ := hx
  have r1 := xz_rng xs (i + 1)
  have r2 := xz_rng xs (i + 2)
  have r3 := xz_rng xs (i + 3)
  refine lc_played CL hfl (MP := fun (b : Int) (s2 : MS) => ∃ cd : Int, MPlayed s (xz xs (i + 1)) (xz xs (i + 2)) (xz xs (i + 3)) b cd ∧ mSame s s2 ∧ VM s2 ∧ s2 39 0 = cd) IMm hW hV hne hdX hdm hi hls hk ?_ ?_ nx
  · exact w_played (hx_0 I) (hU_r hdm hW) hdX (cs_played hfl I H hc r1 r2 r3)
  · exact Ct.mono (m_played hfl IMm H.1 H.VP r1 r2 r3) (fun v h' p => by obtain ⟨r, cd, s2, e1, e2, e3⟩ := p; exact ⟨r, s2, e1, e2, cd, e3⟩) (fun _ _ z => z)

theorem lt_ofTune {l : Launch} {Γ : GA} {nm : String} {G : GP} {sb ls : Nat} {xs : Nat → Int32} (CL : CxL l Γ (m_law nm) G sb ls xs) (hfl : l.stackTraces = false) {x o od c : Nat} {i : Int} {k n : Nat} {X W : Hp} {adm : Nat → Nat} {s : MS} {f : Int → Int} {g : Int → UInt64} {u0 v0 : Option Value} (hx : LX Γ x c X s) (hc : c ≤ 600) (IMm : IM adm) (hW : W o = some (aL 1 f)) (hV : W od = some (aD 1 g)) (hne : o ≠ od) (hdX : hdj X (hU (HM adm s) W)) (hdm : hdj (HM adm s) W) (hi : 0 ≤ i ∧ i + 5 ≤ ls) (hls : ls ≤ 2560) (hk : k + 100 ≤ 601024 ∧ n + 2000 ≤ 7293033)
    (nx : ∀ (X2 : Hp) (s2 : MS) (W2 : Hp) (f2 : Int → Int) (g2 : Int → UInt64) (k2 n2 : Nat) (u v : Option Value), LX Γ x (c + 1) X2 s2 → W2 o = some (aL 1 f2) → W2 od = some (aD 1 g2) → hdj X2 (hU (HM adm s2) W2) → hdj (HM adm s2) W2 → k2 ≤ k + 40 → n2 ≤ n + 1000 → G 1733 [some (.ref sb), some (.ref x), some (.ref (adm 40)), some (.ref o), some (.ref od), some (iv i), u, v] [] (hU X2 (hU (HM adm s2) W2)) k2 n2) :
    G 472 [some (.ref sb), some (.ref x), some (.ref (adm 40)), some (.ref o), some (.ref od), some (iv i), u0, v0] [] (hU X (hU (HM adm s) W)) k n := by
  obtain ⟨ad, Q, S, P, B, rfl, I, rfl, H⟩ := hx
  have r1 := xz_rng xs (i + 1)
  have r2 := xz_rng xs (i + 2)
  refine lc_ofTune CL hfl (MP := fun (b : Int) (s2 : MS) => ∃ cd : Int, MOfTune s (xz xs (i + 1)) (xz xs (i + 2)) b cd ∧ mSame s s2 ∧ VM s2 ∧ s2 39 0 = cd) IMm hW hV hne hdX hdm hi hls hk ?_ ?_ nx
  · exact w_ofTune (hx_0 I) (hU_r hdm hW) hdX (cs_ofTune hfl I H hc r1 r2)
  · exact Ct.mono (m_ofTune hfl IMm H.1 H.VP r1 r2) (fun v h' p => by obtain ⟨r, cd, s2, e1, e2, e3⟩ := p; exact ⟨r, s2, e1, e2, cd, e3⟩) (fun _ _ z => z)

theorem lt_alike {l : Launch} {Γ : GA} {nm : String} {G : GP} {sb ls : Nat} {xs : Nat → Int32} (CL : CxL l Γ (m_law nm) G sb ls xs) (hfl : l.stackTraces = false) {x o od c : Nat} {i : Int} {k n : Nat} {X W : Hp} {adm : Nat → Nat} {s : MS} {f : Int → Int} {g : Int → UInt64} {u0 v0 : Option Value} (hx : LX Γ x c X s) (hc : c ≤ 600) (IMm : IM adm) (hW : W o = some (aL 1 f)) (hV : W od = some (aD 1 g)) (hne : o ≠ od) (hdX : hdj X (hU (HM adm s) W)) (hdm : hdj (HM adm s) W) (hi : 0 ≤ i ∧ i + 5 ≤ ls) (hls : ls ≤ 2560) (hk : k + 100 ≤ 601024 ∧ n + 2000 ≤ 7293033)
    (nx : ∀ (X2 : Hp) (s2 : MS) (W2 : Hp) (f2 : Int → Int) (g2 : Int → UInt64) (k2 n2 : Nat) (u v : Option Value), LX Γ x (c + 1) X2 s2 → W2 o = some (aL 1 f2) → W2 od = some (aD 1 g2) → hdj X2 (hU (HM adm s2) W2) → hdj (HM adm s2) W2 → k2 ≤ k + 40 → n2 ≤ n + 1000 → G 1733 [some (.ref sb), some (.ref x), some (.ref (adm 40)), some (.ref o), some (.ref od), some (iv i), u, v] [] (hU X2 (hU (HM adm s2) W2)) k2 n2) :
    G 540 [some (.ref sb), some (.ref x), some (.ref (adm 40)), some (.ref o), some (.ref od), some (iv i), u0, v0] [] (hU X (hU (HM adm s) W)) k n := by
  obtain ⟨ad, Q, S, P, B, rfl, I, rfl, H⟩ := hx
  have r1 := xz_rng xs (i + 1)
  have r2 := xz_rng xs (i + 2)
  refine lc_alike CL hfl (MP := fun (b : Int) (s2 : MS) => ∃ cd : Int, MAlike s (xz xs (i + 1)) (xz xs (i + 2)) b cd ∧ mSame s s2 ∧ VM s2 ∧ s2 39 0 = cd) IMm hW hV hne hdX hdm hi hls hk ?_ ?_ nx
  · exact w_alike (hx_0 I) (hU_r hdm hW) hdX (cs_alike hfl I H hc r1 r2)
  · exact Ct.mono (m_alike hfl IMm H.1 H.VP r1 r2) (fun v h' p => by obtain ⟨r, cd, s2, e1, e2, e3⟩ := p; exact ⟨r, s2, e1, e2, cd, e3⟩) (fun _ _ z => z)

theorem lt_alikeAnew {l : Launch} {Γ : GA} {nm : String} {G : GP} {sb ls : Nat} {xs : Nat → Int32} (CL : CxL l Γ (m_law nm) G sb ls xs) (hfl : l.stackTraces = false) {x o od c : Nat} {i : Int} {k n : Nat} {X W : Hp} {adm : Nat → Nat} {s : MS} {f : Int → Int} {g : Int → UInt64} {u0 v0 : Option Value} (hx : LX Γ x c X s) (hc : c ≤ 600) (IMm : IM adm) (hW : W o = some (aL 1 f)) (hV : W od = some (aD 1 g)) (hne : o ≠ od) (hdX : hdj X (hU (HM adm s) W)) (hdm : hdj (HM adm s) W) (hi : 0 ≤ i ∧ i + 5 ≤ ls) (hls : ls ≤ 2560) (hk : k + 100 ≤ 601024 ∧ n + 2000 ≤ 7293033)
    (nx : ∀ (X2 : Hp) (s2 : MS) (W2 : Hp) (f2 : Int → Int) (g2 : Int → UInt64) (k2 n2 : Nat) (u v : Option Value), LX Γ x (c + 1) X2 s2 → W2 o = some (aL 1 f2) → W2 od = some (aD 1 g2) → hdj X2 (hU (HM adm s2) W2) → hdj (HM adm s2) W2 → k2 ≤ k + 40 → n2 ≤ n + 1000 → G 1733 [some (.ref sb), some (.ref x), some (.ref (adm 40)), some (.ref o), some (.ref od), some (iv i), u, v] [] (hU X2 (hU (HM adm s2) W2)) k2 n2) :
    G 608 [some (.ref sb), some (.ref x), some (.ref (adm 40)), some (.ref o), some (.ref od), some (iv i), u0, v0] [] (hU X (hU (HM adm s) W)) k n := by
  obtain ⟨ad, Q, S, P, B, rfl, I, rfl, H⟩ := hx
  have r1 := xz_rng xs (i + 1)
  have r2 := xz_rng xs (i + 2)
  refine lc_alikeAnew CL hfl (MP := fun (b : Int) (s2 : MS) => ∃ cd : Int, MAlike s (xz xs (i + 1)) (xz xs (i + 2)) b cd ∧ mSame s s2 ∧ VM s2 ∧ s2 39 0 = cd) IMm hW hV hne hdX hdm hi hls hk ?_ ?_ nx
  · exact w_alikeAnew (hx_0 I) (hU_r hdm hW) hdX (cs_alikeAnew hfl I H hc r1 r2)
  · exact Ct.mono (m_alikeAnew hfl IMm H.1 H.VP r1 r2) (fun v h' p => by obtain ⟨r, cd, s2, e1, e2, e3⟩ := p; exact ⟨r, s2, e1, e2, cd, e3⟩) (fun _ _ z => z)

theorem lt_follow {l : Launch} {Γ : GA} {nm : String} {G : GP} {sb ls : Nat} {xs : Nat → Int32} (CL : CxL l Γ (m_law nm) G sb ls xs) (hfl : l.stackTraces = false) {x o od c : Nat} {i : Int} {k n : Nat} {X W : Hp} {adm : Nat → Nat} {s : MS} {f : Int → Int} {g : Int → UInt64} {u0 v0 : Option Value} (hx : LX Γ x c X s) (hc : c ≤ 600) (IMm : IM adm) (hW : W o = some (aL 1 f)) (hV : W od = some (aD 1 g)) (hne : o ≠ od) (hdX : hdj X (hU (HM adm s) W)) (hdm : hdj (HM adm s) W) (hi : 0 ≤ i ∧ i + 5 ≤ ls) (hls : ls ≤ 2560) (hk : k + 100 ≤ 601024 ∧ n + 2000 ≤ 7293033)
    (nx : ∀ (X2 : Hp) (s2 : MS) (W2 : Hp) (f2 : Int → Int) (g2 : Int → UInt64) (k2 n2 : Nat) (u v : Option Value), LX Γ x (c + 1) X2 s2 → W2 o = some (aL 1 f2) → W2 od = some (aD 1 g2) → hdj X2 (hU (HM adm s2) W2) → hdj (HM adm s2) W2 → k2 ≤ k + 40 → n2 ≤ n + 1000 → G 1733 [some (.ref sb), some (.ref x), some (.ref (adm 40)), some (.ref o), some (.ref od), some (iv i), u, v] [] (hU X2 (hU (HM adm s2) W2)) k2 n2) :
    G 676 [some (.ref sb), some (.ref x), some (.ref (adm 40)), some (.ref o), some (.ref od), some (iv i), u0, v0] [] (hU X (hU (HM adm s) W)) k n := by
  obtain ⟨ad, Q, S, P, B, rfl, I, rfl, H⟩ := hx
  have r1 := xz_rng xs (i + 1)
  have r2 := xz_rng xs (i + 2)
  refine lc_follow CL hfl (MP := fun (b : Int) (s2 : MS) => ∃ (cd : Int) (s1 : MS), MFollow s (xz xs (i + 1)) (xz xs (i + 2)) b cd s1 s2 ∧ mSame s s1 ∧ VM s1 ∧ s1 39 0 = cd) IMm hW hV hne hdX hdm hi hls hk ?_ ?_ nx
  · exact w_follow (hx_0 I) (hU_r hdm hW) hdX (cs_follow hfl I H hc r1 r2)
  · exact Ct.mono (m_follow hfl IMm H.1 H.VP H.VS r1 r2) (fun v h' p => by obtain ⟨r, cd, s1, s2, e1, e2, e3⟩ := p; exact ⟨r, s2, e1, e2, cd, s1, e3⟩) (fun _ _ z => z)

theorem lt_drop {l : Launch} {Γ : GA} {nm : String} {G : GP} {sb ls : Nat} {xs : Nat → Int32} (CL : CxL l Γ (m_law nm) G sb ls xs) (hfl : l.stackTraces = false) {x o od c : Nat} {i : Int} {k n : Nat} {X W : Hp} {adm : Nat → Nat} {s : MS} {f : Int → Int} {g : Int → UInt64} {u0 v0 : Option Value} (hx : LX Γ x c X s) (hc : c ≤ 600) (IMm : IM adm) (hW : W o = some (aL 1 f)) (hV : W od = some (aD 1 g)) (hne : o ≠ od) (hdX : hdj X (hU (HM adm s) W)) (hdm : hdj (HM adm s) W) (hi : 0 ≤ i ∧ i + 5 ≤ ls) (hls : ls ≤ 2560) (hk : k + 100 ≤ 601024 ∧ n + 2000 ≤ 7293033)
    (nx : ∀ (X2 : Hp) (s2 : MS) (W2 : Hp) (f2 : Int → Int) (g2 : Int → UInt64) (k2 n2 : Nat) (u v : Option Value), LX Γ x (c + 1) X2 s2 → W2 o = some (aL 1 f2) → W2 od = some (aD 1 g2) → hdj X2 (hU (HM adm s2) W2) → hdj (HM adm s2) W2 → k2 ≤ k + 40 → n2 ≤ n + 1000 → G 1733 [some (.ref sb), some (.ref x), some (.ref (adm 40)), some (.ref o), some (.ref od), some (iv i), u, v] [] (hU X2 (hU (HM adm s2) W2)) k2 n2) :
    G 744 [some (.ref sb), some (.ref x), some (.ref (adm 40)), some (.ref o), some (.ref od), some (iv i), u0, v0] [] (hU X (hU (HM adm s) W)) k n := by
  obtain ⟨ad, Q, S, P, B, rfl, I, rfl, H⟩ := hx
  refine lc_drop CL hfl (MP := fun (b : Int) (s2 : MS) => MDrop s b s2) IMm hW hV hne hdX hdm hi hls hk ?_ ?_ nx
  · exact w_drop (z0 := 0) (hx_0 I) (hU_r hdm hW) hdX (cs_drop hfl I H hc )
  · exact Ct.mono (m_drop hfl IMm H.1) (fun v h' p => p) (fun _ _ z => z)

theorem lt_time {l : Launch} {Γ : GA} {nm : String} {G : GP} {sb ls : Nat} {xs : Nat → Int32} (CL : CxL l Γ (m_law nm) G sb ls xs) (hfl : l.stackTraces = false) {x o od c : Nat} {i : Int} {k n : Nat} {X W : Hp} {adm : Nat → Nat} {s : MS} {f : Int → Int} {g : Int → UInt64} {u0 v0 : Option Value} (hx : LX Γ x c X s) (hc : c ≤ 600) (IMm : IM adm) (hW : W o = some (aL 1 f)) (hV : W od = some (aD 1 g)) (hne : o ≠ od) (hdX : hdj X (hU (HM adm s) W)) (hdm : hdj (HM adm s) W) (hi : 0 ≤ i ∧ i + 5 ≤ ls) (hls : ls ≤ 2560) (hk : k + 100 ≤ 601024 ∧ n + 2000 ≤ 7293033)
    (nx : ∀ (X2 : Hp) (s2 : MS) (W2 : Hp) (f2 : Int → Int) (g2 : Int → UInt64) (k2 n2 : Nat) (u v : Option Value), LX Γ x (c + 1) X2 s2 → W2 o = some (aL 1 f2) → W2 od = some (aD 1 g2) → hdj X2 (hU (HM adm s2) W2) → hdj (HM adm s2) W2 → k2 ≤ k + 40 → n2 ≤ n + 1000 → G 1733 [some (.ref sb), some (.ref x), some (.ref (adm 40)), some (.ref o), some (.ref od), some (iv i), u, v] [] (hU X2 (hU (HM adm s2) W2)) k2 n2) :
    G 788 [some (.ref sb), some (.ref x), some (.ref (adm 40)), some (.ref o), some (.ref od), some (iv i), u0, v0] [] (hU X (hU (HM adm s) W)) k n := by
  obtain ⟨ad, Q, S, P, B, rfl, I, rfl, H⟩ := hx
  refine lc_time CL hfl (MP := fun (b : Int) (s2 : MS) => b = mTime s (s 14 0).toNat ∧ mSame s s2 ∧ VM s2) IMm hW hV hne hdX hdm hi hls hk (hx_0 I) ?_ ?_ nx
  · refine Ct.mono (x_time hfl I H.hokT.1 H.hokT.2 H.hse) ?_ (fun _ _ z => z)
    rintro v h' ⟨rfl, rfl⟩
    have tb := xTime_bd H S.2.1 (Nat.le_refl _)
    have s8 := H.hse.1
    exact ⟨_, rfl, by omega, fun b s2 hm => ⟨(st_time H).symm.trans hm.1.symm, LX_same I H hm.2.1 hm.2.2⟩⟩
  · refine Ct.mono (m_time hfl IMm H.1 H.VP H.VS) ?_ (fun _ _ z => z)
    rintro v h' ⟨s2, rfl, rfl, h1, h2, h3⟩
    exact ⟨_, s2, rfl, rfl, rfl, h1, h2⟩

theorem lt_piper {l : Launch} {Γ : GA} {nm : String} {G : GP} {sb ls : Nat} {xs : Nat → Int32} (CL : CxL l Γ (m_law nm) G sb ls xs) (hfl : l.stackTraces = false) {x o od c : Nat} {i : Int} {k n : Nat} {X W : Hp} {adm : Nat → Nat} {s : MS} {f : Int → Int} {g : Int → UInt64} {u0 v0 : Option Value} (hx : LX Γ x c X s) (hc : c ≤ 600) (IMm : IM adm) (hW : W o = some (aL 1 f)) (hV : W od = some (aD 1 g)) (hne : o ≠ od) (hdX : hdj X (hU (HM adm s) W)) (hdm : hdj (HM adm s) W) (hi : 0 ≤ i ∧ i + 5 ≤ ls) (hls : ls ≤ 2560) (hk : k + 100 ≤ 601024 ∧ n + 2000 ≤ 7293033)
    (nx : ∀ (X2 : Hp) (s2 : MS) (W2 : Hp) (f2 : Int → Int) (g2 : Int → UInt64) (k2 n2 : Nat) (u v : Option Value), LX Γ x (c + 1) X2 s2 → W2 o = some (aL 1 f2) → W2 od = some (aD 1 g2) → hdj X2 (hU (HM adm s2) W2) → hdj (HM adm s2) W2 → k2 ≤ k + 40 → n2 ≤ n + 1000 → G 1733 [some (.ref sb), some (.ref x), some (.ref (adm 40)), some (.ref o), some (.ref od), some (iv i), u, v] [] (hU X2 (hU (HM adm s2) W2)) k2 n2) :
    G 802 [some (.ref sb), some (.ref x), some (.ref (adm 40)), some (.ref o), some (.ref od), some (iv i), u0, v0] [] (hU X (hU (HM adm s) W)) k n := by
  obtain ⟨ad, Q, S, P, B, rfl, I, rfl, H⟩ := hx
  have r1 := xz_rng xs (i + 1)
  have r2 := xz_rng xs (i + 2)
  have r3 := xz_rng xs (i + 3)
  refine lc_piper CL hfl (MP := fun (b : Int) (s2 : MS) => MPiper s (xz xs (i + 1)) (xz xs (i + 2)) (xz xs (i + 3)) b s2) IMm hW hV hne hdX hdm hi hls hk ?_ ?_ nx
  · exact w_piper (hx_0 I) (hU_r hdm hW) hdX (cs_piper hfl I H hc r1 r2 r3)
  · exact Ct.mono (m_piper hfl IMm H.1 r1 r2 r3) (fun v h' p => p) (fun _ _ z => z)

theorem lt_seat {l : Launch} {Γ : GA} {nm : String} {G : GP} {sb ls : Nat} {xs : Nat → Int32} (CL : CxL l Γ (m_law nm) G sb ls xs) (hfl : l.stackTraces = false) {x o od c : Nat} {i : Int} {k n : Nat} {X W : Hp} {adm : Nat → Nat} {s : MS} {f : Int → Int} {g : Int → UInt64} {u0 v0 : Option Value} (hx : LX Γ x c X s) (hc : c ≤ 600) (IMm : IM adm) (hW : W o = some (aL 1 f)) (hV : W od = some (aD 1 g)) (hne : o ≠ od) (hdX : hdj X (hU (HM adm s) W)) (hdm : hdj (HM adm s) W) (hi : 0 ≤ i ∧ i + 5 ≤ ls) (hls : ls ≤ 2560) (hk : k + 100 ≤ 601024 ∧ n + 2000 ≤ 7293033)
    (nx : ∀ (X2 : Hp) (s2 : MS) (W2 : Hp) (f2 : Int → Int) (g2 : Int → UInt64) (k2 n2 : Nat) (u v : Option Value), LX Γ x (c + 1) X2 s2 → W2 o = some (aL 1 f2) → W2 od = some (aD 1 g2) → hdj X2 (hU (HM adm s2) W2) → hdj (HM adm s2) W2 → k2 ≤ k + 40 → n2 ≤ n + 1000 → G 1733 [some (.ref sb), some (.ref x), some (.ref (adm 40)), some (.ref o), some (.ref od), some (iv i), u, v] [] (hU X2 (hU (HM adm s2) W2)) k2 n2) :
    G 882 [some (.ref sb), some (.ref x), some (.ref (adm 40)), some (.ref o), some (.ref od), some (iv i), u0, v0] [] (hU X (hU (HM adm s) W)) k n := by
  obtain ⟨ad, Q, S, P, B, rfl, I, rfl, H⟩ := hx
  have r1 := xz_rng xs (i + 1)
  have r2 := xz_rng xs (i + 2)
  refine lc_seat CL hfl (MP := fun (b : Int) (s2 : MS) => MSeat s (xz xs (i + 1)) (xz xs (i + 2)) b s2) IMm hW hV hne hdX hdm hi hls hk ?_ ?_ nx
  · exact w_seat (hx_0 I) (hU_r hdm hW) hdX (cs_seat hfl I H hc r1 r2)
  · exact Ct.mono (m_seat hfl IMm H.1 r1 r2) (fun v h' p => p) (fun _ _ z => z)

theorem lt_rest {l : Launch} {Γ : GA} {nm : String} {G : GP} {sb ls : Nat} {xs : Nat → Int32} (CL : CxL l Γ (m_law nm) G sb ls xs) (hfl : l.stackTraces = false) {x o od c : Nat} {i : Int} {k n : Nat} {X W : Hp} {adm : Nat → Nat} {s : MS} {f : Int → Int} {g : Int → UInt64} {u0 v0 : Option Value} (hx : LX Γ x c X s) (hc : c ≤ 600) (IMm : IM adm) (hW : W o = some (aL 1 f)) (hV : W od = some (aD 1 g)) (hne : o ≠ od) (hdX : hdj X (hU (HM adm s) W)) (hdm : hdj (HM adm s) W) (hi : 0 ≤ i ∧ i + 5 ≤ ls) (hls : ls ≤ 2560) (hk : k + 100 ≤ 601024 ∧ n + 2000 ≤ 7293033)
    (nx : ∀ (X2 : Hp) (s2 : MS) (W2 : Hp) (f2 : Int → Int) (g2 : Int → UInt64) (k2 n2 : Nat) (u v : Option Value), LX Γ x (c + 1) X2 s2 → W2 o = some (aL 1 f2) → W2 od = some (aD 1 g2) → hdj X2 (hU (HM adm s2) W2) → hdj (HM adm s2) W2 → k2 ≤ k + 40 → n2 ≤ n + 1000 → G 1733 [some (.ref sb), some (.ref x), some (.ref (adm 40)), some (.ref o), some (.ref od), some (iv i), u, v] [] (hU X2 (hU (HM adm s2) W2)) k2 n2) :
    G 950 [some (.ref sb), some (.ref x), some (.ref (adm 40)), some (.ref o), some (.ref od), some (iv i), u0, v0] [] (hU X (hU (HM adm s) W)) k n := by
  obtain ⟨ad, Q, S, P, B, rfl, I, rfl, H⟩ := hx
  have r1 := xz_rng xs (i + 1)
  have r2 := xz_rng xs (i + 2)
  obtain ⟨bz, hbz, hb1⟩ : ∃ bz : Int, ((xz xs (i + 2) = 0 ∧ bz = 0) ∨ (¬ xz xs (i + 2) = 0 ∧ bz = 1)) ∧ (bz = 0 ∨ bz = 1) := by
    by_cases q : xz xs (i + 2) = 0
    · exact ⟨0, Or.inl ⟨q, rfl⟩, Or.inl rfl⟩
    · exact ⟨1, Or.inr ⟨q, rfl⟩, Or.inr rfl⟩
  refine lc_rest CL hfl (MP := fun (b : Int) (s2 : MS) => MRest s (xz xs (i + 1)) bz b s2) IMm hW hV hne hdX hdm hi hls hk hbz ?_ ?_ nx
  · exact w_rest (hx_0 I) (hU_r hdm hW) hdX (cs_rest hfl I H hc r1 hb1)
  · exact Ct.mono (m_rest hfl IMm H.1 r1 hb1) (fun v h' p => p) (fun _ _ z => z)

theorem lt_play {l : Launch} {Γ : GA} {nm : String} {G : GP} {sb ls : Nat} {xs : Nat → Int32} (CL : CxL l Γ (m_law nm) G sb ls xs) (hfl : l.stackTraces = false) {x o od c : Nat} {i : Int} {k n : Nat} {X W : Hp} {adm : Nat → Nat} {s : MS} {f : Int → Int} {g : Int → UInt64} {u0 v0 : Option Value} (hx : LX Γ x c X s) (hc : c ≤ 600) (IMm : IM adm) (hW : W o = some (aL 1 f)) (hV : W od = some (aD 1 g)) (hne : o ≠ od) (hdX : hdj X (hU (HM adm s) W)) (hdm : hdj (HM adm s) W) (hi : 0 ≤ i ∧ i + 5 ≤ ls) (hls : ls ≤ 2560) (hk : k + 100 ≤ 601024 ∧ n + 2000 ≤ 7293033)
    (nx : ∀ (X2 : Hp) (s2 : MS) (W2 : Hp) (f2 : Int → Int) (g2 : Int → UInt64) (k2 n2 : Nat) (u v : Option Value), LX Γ x (c + 1) X2 s2 → W2 o = some (aL 1 f2) → W2 od = some (aD 1 g2) → hdj X2 (hU (HM adm s2) W2) → hdj (HM adm s2) W2 → k2 ≤ k + 40 → n2 ≤ n + 1000 → G 1733 [some (.ref sb), some (.ref x), some (.ref (adm 40)), some (.ref o), some (.ref od), some (iv i), u, v] [] (hU X2 (hU (HM adm s2) W2)) k2 n2) :
    G 1041 [some (.ref sb), some (.ref x), some (.ref (adm 40)), some (.ref o), some (.ref od), some (iv i), u0, v0] [] (hU X (hU (HM adm s) W)) k n := by
  obtain ⟨ad, Q, S, P, B, rfl, I, rfl, H⟩ := hx
  have r1 := xz_rng xs (i + 1)
  have r2 := xz_rng xs (i + 2)
  have r3 := xz_rng xs (i + 3)
  refine lc_play CL hfl (MP := fun (b : Int) (s2 : MS) => MPlay s (xz xs (i + 1)) (xz xs (i + 2)) (xz xs (i + 3)) b s2) IMm hW hV hne hdX hdm hi hls hk ?_ ?_ nx
  · exact w_play (hx_0 I) (hU_r hdm hW) hdX (cs_play hfl I H hc r1 r2 r3)
  · exact Ct.mono (m_play hfl IMm H.1 r1 r2 r3) (fun v h' p => p) (fun _ _ z => z)

theorem lt_ofPiper {l : Launch} {Γ : GA} {nm : String} {G : GP} {sb ls : Nat} {xs : Nat → Int32} (CL : CxL l Γ (m_law nm) G sb ls xs) (hfl : l.stackTraces = false) {x o od c : Nat} {i : Int} {k n : Nat} {X W : Hp} {adm : Nat → Nat} {s : MS} {f : Int → Int} {g : Int → UInt64} {u0 v0 : Option Value} (hx : LX Γ x c X s) (hc : c ≤ 600) (IMm : IM adm) (hW : W o = some (aL 1 f)) (hV : W od = some (aD 1 g)) (hne : o ≠ od) (hdX : hdj X (hU (HM adm s) W)) (hdm : hdj (HM adm s) W) (hi : 0 ≤ i ∧ i + 5 ≤ ls) (hls : ls ≤ 2560) (hk : k + 100 ≤ 601024 ∧ n + 2000 ≤ 7293033)
    (nx : ∀ (X2 : Hp) (s2 : MS) (W2 : Hp) (f2 : Int → Int) (g2 : Int → UInt64) (k2 n2 : Nat) (u v : Option Value), LX Γ x (c + 1) X2 s2 → W2 o = some (aL 1 f2) → W2 od = some (aD 1 g2) → hdj X2 (hU (HM adm s2) W2) → hdj (HM adm s2) W2 → k2 ≤ k + 40 → n2 ≤ n + 1000 → G 1733 [some (.ref sb), some (.ref x), some (.ref (adm 40)), some (.ref o), some (.ref od), some (iv i), u, v] [] (hU X2 (hU (HM adm s2) W2)) k2 n2) :
    G 1121 [some (.ref sb), some (.ref x), some (.ref (adm 40)), some (.ref o), some (.ref od), some (iv i), u0, v0] [] (hU X (hU (HM adm s) W)) k n := by
  obtain ⟨ad, Q, S, P, B, rfl, I, rfl, H⟩ := hx
  have r1 := xz_rng xs (i + 1)
  have r2 := xz_rng xs (i + 2)
  refine lc_ofPiper CL hfl (MP := fun (b : Int) (s2 : MS) => ∃ cd : Int, MOfPiper s (xz xs (i + 1)) (xz xs (i + 2)) b cd ∧ mSame s s2 ∧ VM s2 ∧ s2 39 0 = cd) IMm hW hV hne hdX hdm hi hls hk ?_ ?_ nx
  · exact w_ofPiper (hx_0 I) (hU_r hdm hW) hdX (cs_ofPiper hfl I H hc r1 r2)
  · exact Ct.mono (m_ofPiper hfl IMm H.1 r1 r2) (fun v h' p => by obtain ⟨r, cd, s2, e1, e2, e3⟩ := p; exact ⟨r, s2, e1, e2, cd, e3⟩) (fun _ _ z => z)

theorem lt_spread {l : Launch} {Γ : GA} {nm : String} {G : GP} {sb ls : Nat} {xs : Nat → Int32} (CL : CxL l Γ (m_law nm) G sb ls xs) (hfl : l.stackTraces = false) {x o od c : Nat} {i : Int} {k n : Nat} {X W : Hp} {adm : Nat → Nat} {s : MS} {f : Int → Int} {g : Int → UInt64} {u0 v0 : Option Value} (hx : LX Γ x c X s) (hc : c ≤ 600) (IMm : IM adm) (hW : W o = some (aL 1 f)) (hV : W od = some (aD 1 g)) (hne : o ≠ od) (hdX : hdj X (hU (HM adm s) W)) (hdm : hdj (HM adm s) W) (hi : 0 ≤ i ∧ i + 5 ≤ ls) (hls : ls ≤ 2560) (hk : k + 100 ≤ 601024 ∧ n + 2000 ≤ 7293033)
    (nx : ∀ (X2 : Hp) (s2 : MS) (W2 : Hp) (f2 : Int → Int) (g2 : Int → UInt64) (k2 n2 : Nat) (u v : Option Value), LX Γ x (c + 1) X2 s2 → W2 o = some (aL 1 f2) → W2 od = some (aD 1 g2) → hdj X2 (hU (HM adm s2) W2) → hdj (HM adm s2) W2 → k2 ≤ k + 40 → n2 ≤ n + 1000 → G 1733 [some (.ref sb), some (.ref x), some (.ref (adm 40)), some (.ref o), some (.ref od), some (iv i), u, v] [] (hU X2 (hU (HM adm s2) W2)) k2 n2) :
    G 1189 [some (.ref sb), some (.ref x), some (.ref (adm 40)), some (.ref o), some (.ref od), some (iv i), u0, v0] [] (hU X (hU (HM adm s) W)) k n := by
  obtain ⟨ad, Q, S, P, B, rfl, I, rfl, H⟩ := hx
  refine lc_spread CL hfl (MP := fun (b : Int) (s2 : MS) => b = mSpr (moS s 39 (fun _ => 0)) (-1) ∧ s2 = moS s 39 (fun _ => 0)) IMm hW hV hne hdX hdm hi hls hk (hx_0 I) ?_ ?_ nx
  · refine Ct.mono (x_spread hfl I H.hokP.1 H.hokP.2.1 H.hokP.2.2.1) ?_ (fun _ _ z => z)
    rintro v h' ⟨rfl, c2, f2, hc2, hf2, rfl⟩
    have gb := gSp_bd (pf := P.2.2.1) (n := P.1) (w := -1) H.hokP.2.1
    exact ⟨_, rfl, by omega, fun b s2 hm => ⟨(st_spread H).symm.trans hm.1.symm, by rw [hm.2]; exact LX_rows I (Sim_th H (by omega)) hc2 hf2⟩⟩
  · refine Ct.mono (m_spread hfl IMm H.1) ?_ (fun _ _ z => z)
    rintro v h' ⟨rfl, rfl⟩
    exact ⟨_, _, rfl, rfl, rfl, rfl⟩

theorem lt_odd {l : Launch} {Γ : GA} {nm : String} {G : GP} {sb ls : Nat} {xs : Nat → Int32} (CL : CxL l Γ (m_law nm) G sb ls xs) (hfl : l.stackTraces = false) {x o od c : Nat} {i : Int} {k n : Nat} {X W : Hp} {adm : Nat → Nat} {s : MS} {f : Int → Int} {g : Int → UInt64} {u0 v0 : Option Value} (hx : LX Γ x c X s) (hc : c ≤ 600) (IMm : IM adm) (hW : W o = some (aL 1 f)) (hV : W od = some (aD 1 g)) (hne : o ≠ od) (hdX : hdj X (hU (HM adm s) W)) (hdm : hdj (HM adm s) W) (hi : 0 ≤ i ∧ i + 5 ≤ ls) (hls : ls ≤ 2560) (hk : k + 100 ≤ 601024 ∧ n + 2000 ≤ 7293033)
    (nx : ∀ (X2 : Hp) (s2 : MS) (W2 : Hp) (f2 : Int → Int) (g2 : Int → UInt64) (k2 n2 : Nat) (u v : Option Value), LX Γ x (c + 1) X2 s2 → W2 o = some (aL 1 f2) → W2 od = some (aD 1 g2) → hdj X2 (hU (HM adm s2) W2) → hdj (HM adm s2) W2 → k2 ≤ k + 40 → n2 ≤ n + 1000 → G 1733 [some (.ref sb), some (.ref x), some (.ref (adm 40)), some (.ref o), some (.ref od), some (iv i), u, v] [] (hU X2 (hU (HM adm s2) W2)) k2 n2) :
    G 1202 [some (.ref sb), some (.ref x), some (.ref (adm 40)), some (.ref o), some (.ref od), some (iv i), u0, v0] [] (hU X (hU (HM adm s) W)) k n := by
  obtain ⟨ad, Q, S, P, B, rfl, I, rfl, H⟩ := hx
  refine lc_odd CL hfl (MP := fun (b : Int) (s2 : MS) => b = (if mPlg (moS s 39 (fun _ => 0)) ((moS s 39 (fun _ => 0)) 17 0).toNat ≤ 1 then -1 else (mOdd (moS s 39 (fun _ => 0)) ((moS s 39 (fun _ => 0)) 17 0).toNat).1) ∧ s2 = moS s 39 (fun _ => 0)) IMm hW hV hne hdX hdm hi hls hk (hx_0 I) ?_ ?_ nx
  · refine Ct.mono (x_odd hfl I H.hokP.1 H.hokP.2.1 H.hokP.2.2.1) ?_ (fun _ _ z => z)
    rintro v h' ⟨rfl, c2, f2, hc2, hf2, rfl⟩
    have ob := (oddK_bd (pf := P.2.2.1) (n := P.1) H.hokP.2.1 P.1).1
    have p8 := H.hokP.1
    refine ⟨_, rfl, ?_, fun b s2 hm => ⟨(st_odd H).symm.trans hm.1.symm, by rw [hm.2]; exact LX_rows I (Sim_th H (by omega)) hc2 hf2⟩⟩
    split <;> omega
  · refine Ct.mono (m_odd hfl IMm H.1) ?_ (fun _ _ z => z)
    rintro v h' ⟨rfl, rfl⟩
    exact ⟨_, _, rfl, rfl, rfl, rfl⟩

theorem lt_beats {l : Launch} {Γ : GA} {nm : String} {G : GP} {sb ls : Nat} {xs : Nat → Int32} (CL : CxL l Γ (m_law nm) G sb ls xs) (hfl : l.stackTraces = false) {x o od c : Nat} {i : Int} {k n : Nat} {X W : Hp} {adm : Nat → Nat} {s : MS} {f : Int → Int} {g : Int → UInt64} {u0 v0 : Option Value} (hx : LX Γ x c X s) (hc : c ≤ 600) (IMm : IM adm) (hW : W o = some (aL 1 f)) (hV : W od = some (aD 1 g)) (hne : o ≠ od) (hdX : hdj X (hU (HM adm s) W)) (hdm : hdj (HM adm s) W) (hi : 0 ≤ i ∧ i + 5 ≤ ls) (hls : ls ≤ 2560) (hk : k + 100 ≤ 601024 ∧ n + 2000 ≤ 7293033)
    (nx : ∀ (X2 : Hp) (s2 : MS) (W2 : Hp) (f2 : Int → Int) (g2 : Int → UInt64) (k2 n2 : Nat) (u v : Option Value), LX Γ x (c + 1) X2 s2 → W2 o = some (aL 1 f2) → W2 od = some (aD 1 g2) → hdj X2 (hU (HM adm s2) W2) → hdj (HM adm s2) W2 → k2 ≤ k + 40 → n2 ≤ n + 1000 → G 1733 [some (.ref sb), some (.ref x), some (.ref (adm 40)), some (.ref o), some (.ref od), some (iv i), u, v] [] (hU X2 (hU (HM adm s2) W2)) k2 n2) :
    G 1215 [some (.ref sb), some (.ref x), some (.ref (adm 40)), some (.ref o), some (.ref od), some (iv i), u0, v0] [] (hU X (hU (HM adm s) W)) k n := by
  obtain ⟨ad, Q, S, P, B, rfl, I, rfl, H⟩ := hx
  have r1 := xz_rng xs (i + 1)
  have r2 := xz_rng xs (i + 2)
  refine lc_beats CL hfl (MP := fun (b : UInt32) (s2 : MS) => MBeats s (xz xs (i + 1)) (xz xs (i + 2)) b s2) IMm hW hV hne hdX hdm hi hls hk ?_ ?_ ?_ nx
  · exact w_beats (hx_0 I) (hU_r hdm hV) hdX (cs_beats hfl I H hc r1 r2)
  · exact Ct.mono (m_beats hfl IMm H.1 r1 r2) (fun v h' p => p) (fun _ _ z => z)
  · intro b s2 hm h39
    by_cases q : (0 ≤ xz xs (i + 1) ∧ xz xs (i + 1) < P.1) ∧ (0 ≤ xz xs (i + 2) ∧ xz xs (i + 2) < P.1)
    · obtain ⟨a1, a2, a3⟩ := (st_beats H hm).2 q
      have b1 := pPit_bd (H.hokP.2.1 (xz xs (i + 1)).toNat (by omega))
      have b2 := pPit_bd (H.hokP.2.1 (xz xs (i + 2)).toNat (by omega))
      rw [a2]
      refine (btF_d2 ?_).1
      unfold isAbs
      split <;> omega
    · have := ((st_beats H hm).1 q).1
      omega

theorem lt_ahead {l : Launch} {Γ : GA} {nm : String} {G : GP} {sb ls : Nat} {xs : Nat → Int32} (CL : CxL l Γ (m_law nm) G sb ls xs) (hfl : l.stackTraces = false) {x o od c : Nat} {i : Int} {k n : Nat} {X W : Hp} {adm : Nat → Nat} {s : MS} {f : Int → Int} {g : Int → UInt64} {u0 v0 : Option Value} (hx : LX Γ x c X s) (hc : c ≤ 600) (IMm : IM adm) (hW : W o = some (aL 1 f)) (hV : W od = some (aD 1 g)) (hne : o ≠ od) (hdX : hdj X (hU (HM adm s) W)) (hdm : hdj (HM adm s) W) (hi : 0 ≤ i ∧ i + 5 ≤ ls) (hls : ls ≤ 2560) (hk : k + 100 ≤ 601024 ∧ n + 2000 ≤ 7293033)
    (nx : ∀ (X2 : Hp) (s2 : MS) (W2 : Hp) (f2 : Int → Int) (g2 : Int → UInt64) (k2 n2 : Nat) (u v : Option Value), LX Γ x (c + 1) X2 s2 → W2 o = some (aL 1 f2) → W2 od = some (aD 1 g2) → hdj X2 (hU (HM adm s2) W2) → hdj (HM adm s2) W2 → k2 ≤ k + 40 → n2 ≤ n + 1000 → G 1733 [some (.ref sb), some (.ref x), some (.ref (adm 40)), some (.ref o), some (.ref od), some (iv i), u, v] [] (hU X2 (hU (HM adm s2) W2)) k2 n2) :
    G 1305 [some (.ref sb), some (.ref x), some (.ref (adm 40)), some (.ref o), some (.ref od), some (iv i), u0, v0] [] (hU X (hU (HM adm s) W)) k n := by
  obtain ⟨ad, Q, S, P, B, rfl, I, rfl, H⟩ := hx
  have r1 := xz_rng xs (i + 1)
  have r2 := xz_rng xs (i + 2)
  have r3 := xz_rng xs (i + 3)
  refine lc_ahead CL hfl (MP := fun (b : Int) (s2 : MS) => ∃ (cd : Int) (s1 : MS), MAhead s s1 (xz xs (i + 1)) (xz xs (i + 2)) (xz xs (i + 3)) b cd ∧ mSame s s1 ∧ VM s1 ∧ mSame s s2 ∧ VM s2 ∧ s2 39 0 = cd) IMm hW hV hne hdX hdm hi hls hk ?_ ?_ nx
  · exact w_ahead (hx_0 I) (hU_r hdm hW) hdX (cs_ahead hfl I H hc r1 r2 r3)
  · exact Ct.mono (m_ahead hfl IMm H.1 r1 r2 r3) (fun v h' p => by obtain ⟨r, cd, s1, s2, e1, e2, e3⟩ := p; exact ⟨r, s2, e1, e2, cd, s1, e3⟩) (fun _ _ z => z)

theorem lt_band {l : Launch} {Γ : GA} {nm : String} {G : GP} {sb ls : Nat} {xs : Nat → Int32} (CL : CxL l Γ (m_law nm) G sb ls xs) (hfl : l.stackTraces = false) {x o od c : Nat} {i : Int} {k n : Nat} {X W : Hp} {adm : Nat → Nat} {s : MS} {f : Int → Int} {g : Int → UInt64} {u0 v0 : Option Value} (hx : LX Γ x c X s) (hc : c ≤ 600) (IMm : IM adm) (hW : W o = some (aL 1 f)) (hV : W od = some (aD 1 g)) (hne : o ≠ od) (hdX : hdj X (hU (HM adm s) W)) (hdm : hdj (HM adm s) W) (hi : 0 ≤ i ∧ i + 5 ≤ ls) (hls : ls ≤ 2560) (hk : k + 100 ≤ 601024 ∧ n + 2000 ≤ 7293033)
    (nx : ∀ (X2 : Hp) (s2 : MS) (W2 : Hp) (f2 : Int → Int) (g2 : Int → UInt64) (k2 n2 : Nat) (u v : Option Value), LX Γ x (c + 1) X2 s2 → W2 o = some (aL 1 f2) → W2 od = some (aD 1 g2) → hdj X2 (hU (HM adm s2) W2) → hdj (HM adm s2) W2 → k2 ≤ k + 40 → n2 ≤ n + 1000 → G 1733 [some (.ref sb), some (.ref x), some (.ref (adm 40)), some (.ref o), some (.ref od), some (iv i), u, v] [] (hU X2 (hU (HM adm s2) W2)) k2 n2) :
    G 1385 [some (.ref sb), some (.ref x), some (.ref (adm 40)), some (.ref o), some (.ref od), some (iv i), u0, v0] [] (hU X (hU (HM adm s) W)) k n := by
  obtain ⟨ad, Q, S, P, B, rfl, I, rfl, H⟩ := hx
  have r1 := xz_rng xs (i + 1)
  refine lc_band CL hfl (MP := fun (b : Int) (s2 : MS) => MBand s (xz xs (i + 1)) b s2) IMm hW hV hne hdX hdm hi hls hk ?_ ?_ nx
  · exact w_band (hx_0 I) (hU_r hdm hW) hdX (cs_band hfl I H hc r1)
  · exact Ct.mono (m_band hfl IMm H.1 r1) (fun v h' p => p) (fun _ _ z => z)

theorem lt_contest {l : Launch} {Γ : GA} {nm : String} {G : GP} {sb ls : Nat} {xs : Nat → Int32} (CL : CxL l Γ (m_law nm) G sb ls xs) (hfl : l.stackTraces = false) {x o od c : Nat} {i : Int} {k n : Nat} {X W : Hp} {adm : Nat → Nat} {s : MS} {f : Int → Int} {g : Int → UInt64} {u0 v0 : Option Value} (hx : LX Γ x c X s) (hc : c ≤ 600) (IMm : IM adm) (hW : W o = some (aL 1 f)) (hV : W od = some (aD 1 g)) (hne : o ≠ od) (hdX : hdj X (hU (HM adm s) W)) (hdm : hdj (HM adm s) W) (hi : 0 ≤ i ∧ i + 5 ≤ ls) (hls : ls ≤ 2560) (hk : k + 100 ≤ 601024 ∧ n + 2000 ≤ 7293033)
    (nx : ∀ (X2 : Hp) (s2 : MS) (W2 : Hp) (f2 : Int → Int) (g2 : Int → UInt64) (k2 n2 : Nat) (u v : Option Value), LX Γ x (c + 1) X2 s2 → W2 o = some (aL 1 f2) → W2 od = some (aD 1 g2) → hdj X2 (hU (HM adm s2) W2) → hdj (HM adm s2) W2 → k2 ≤ k + 40 → n2 ≤ n + 1000 → G 1733 [some (.ref sb), some (.ref x), some (.ref (adm 40)), some (.ref o), some (.ref od), some (iv i), u, v] [] (hU X2 (hU (HM adm s2) W2)) k2 n2) :
    G 1441 [some (.ref sb), some (.ref x), some (.ref (adm 40)), some (.ref o), some (.ref od), some (iv i), u0, v0] [] (hU X (hU (HM adm s) W)) k n := by
  obtain ⟨ad, Q, S, P, B, rfl, I, rfl, H⟩ := hx
  have r1 := xz_rng xs (i + 1)
  refine lc_contest CL hfl (MP := fun (b : Int) (s2 : MS) => MContest s (xz xs (i + 1)) b s2) IMm hW hV hne hdX hdm hi hls hk ?_ ?_ nx
  · exact w_contest (hx_0 I) (hU_r hdm hW) hdX (cs_contest hfl I H hc r1)
  · exact Ct.mono (m_contest hfl IMm H.1 r1) (fun v h' p => p) (fun _ _ z => z)

theorem lt_mark {l : Launch} {Γ : GA} {nm : String} {G : GP} {sb ls : Nat} {xs : Nat → Int32} (CL : CxL l Γ (m_law nm) G sb ls xs) (hfl : l.stackTraces = false) {x o od c : Nat} {i : Int} {k n : Nat} {X W : Hp} {adm : Nat → Nat} {s : MS} {f : Int → Int} {g : Int → UInt64} {u0 v0 : Option Value} (hx : LX Γ x c X s) (hc : c ≤ 600) (IMm : IM adm) (hW : W o = some (aL 1 f)) (hV : W od = some (aD 1 g)) (hne : o ≠ od) (hdX : hdj X (hU (HM adm s) W)) (hdm : hdj (HM adm s) W) (hi : 0 ≤ i ∧ i + 5 ≤ ls) (hls : ls ≤ 2560) (hk : k + 100 ≤ 601024 ∧ n + 2000 ≤ 7293033)
    (nx : ∀ (X2 : Hp) (s2 : MS) (W2 : Hp) (f2 : Int → Int) (g2 : Int → UInt64) (k2 n2 : Nat) (u v : Option Value), LX Γ x (c + 1) X2 s2 → W2 o = some (aL 1 f2) → W2 od = some (aD 1 g2) → hdj X2 (hU (HM adm s2) W2) → hdj (HM adm s2) W2 → k2 ≤ k + 40 → n2 ≤ n + 1000 → G 1733 [some (.ref sb), some (.ref x), some (.ref (adm 40)), some (.ref o), some (.ref od), some (iv i), u, v] [] (hU X2 (hU (HM adm s2) W2)) k2 n2) :
    G 1497 [some (.ref sb), some (.ref x), some (.ref (adm 40)), some (.ref o), some (.ref od), some (iv i), u0, v0] [] (hU X (hU (HM adm s) W)) k n := by
  obtain ⟨ad, Q, S, P, B, rfl, I, rfl, H⟩ := hx
  have r1 := xz_rng xs (i + 1)
  have r2 := xz_rng xs (i + 2)
  have r3 := xz_rng xs (i + 3)
  refine lc_mark CL hfl (MP := fun (b : Int) (s2 : MS) => MMark s (xz xs (i + 1)) (xz xs (i + 2)) (xz xs (i + 3)) b s2) IMm hW hV hne hdX hdm hi hls hk ?_ ?_ nx
  · exact w_mark (hx_0 I) (hU_r hdm hW) hdX (cs_mark hfl I H hc r1 r2 r3)
  · exact Ct.mono (m_mark hfl IMm H.1 r1 r2 r3) (fun v h' p => p) (fun _ _ z => z)

theorem lt_close {l : Launch} {Γ : GA} {nm : String} {G : GP} {sb ls : Nat} {xs : Nat → Int32} (CL : CxL l Γ (m_law nm) G sb ls xs) (hfl : l.stackTraces = false) {x o od c : Nat} {i : Int} {k n : Nat} {X W : Hp} {adm : Nat → Nat} {s : MS} {f : Int → Int} {g : Int → UInt64} {u0 v0 : Option Value} (hx : LX Γ x c X s) (hc : c ≤ 600) (IMm : IM adm) (hW : W o = some (aL 1 f)) (hV : W od = some (aD 1 g)) (hne : o ≠ od) (hdX : hdj X (hU (HM adm s) W)) (hdm : hdj (HM adm s) W) (hi : 0 ≤ i ∧ i + 5 ≤ ls) (hls : ls ≤ 2560) (hk : k + 100 ≤ 601024 ∧ n + 2000 ≤ 7293033)
    (nx : ∀ (X2 : Hp) (s2 : MS) (W2 : Hp) (f2 : Int → Int) (g2 : Int → UInt64) (k2 n2 : Nat) (u v : Option Value), LX Γ x (c + 1) X2 s2 → W2 o = some (aL 1 f2) → W2 od = some (aD 1 g2) → hdj X2 (hU (HM adm s2) W2) → hdj (HM adm s2) W2 → k2 ≤ k + 40 → n2 ≤ n + 1000 → G 1733 [some (.ref sb), some (.ref x), some (.ref (adm 40)), some (.ref o), some (.ref od), some (iv i), u, v] [] (hU X2 (hU (HM adm s2) W2)) k2 n2) :
    G 1577 [some (.ref sb), some (.ref x), some (.ref (adm 40)), some (.ref o), some (.ref od), some (iv i), u0, v0] [] (hU X (hU (HM adm s) W)) k n := by
  obtain ⟨ad, Q, S, P, B, rfl, I, rfl, H⟩ := hx
  have hp31 : ∀ q, 0 ≤ s 31 q ∧ s 31 q ≤ 10000 := fun q => ⟨(H.1.at 31 q rfl).1, by have := (H.2.2.2.2.2.2.2.1 q).1; omega⟩
  have hp34 : ∀ q, 0 ≤ s 34 q ∧ s 34 q ≤ 10000 := fun q => ⟨(H.1.at 34 q rfl).1, by have := (H.2.2.2.2.2.2.2.1 q).2; omega⟩
  refine lc_close CL hfl (MP := fun (b : Int) (s2 : MS) => MClose s b s2) IMm hW hV hne hdX hdm hi hls hk ?_ ?_ nx
  · exact w_close (z0 := 0) (hx_0 I) (hU_r hdm hW) hdX (cs_close hfl I H hc )
  · exact Ct.mono (m_close hfl IMm H.1 hp31 hp34) (fun v h' p => p) (fun _ _ z => z)

theorem lt_season {l : Launch} {Γ : GA} {nm : String} {G : GP} {sb ls : Nat} {xs : Nat → Int32} (CL : CxL l Γ (m_law nm) G sb ls xs) (hfl : l.stackTraces = false) {x o od c : Nat} {i : Int} {k n : Nat} {X W : Hp} {adm : Nat → Nat} {s : MS} {f : Int → Int} {g : Int → UInt64} {u0 v0 : Option Value} (hx : LX Γ x c X s) (hc : c ≤ 600) (IMm : IM adm) (hW : W o = some (aL 1 f)) (hV : W od = some (aD 1 g)) (hne : o ≠ od) (hdX : hdj X (hU (HM adm s) W)) (hdm : hdj (HM adm s) W) (hi : 0 ≤ i ∧ i + 5 ≤ ls) (hls : ls ≤ 2560) (hk : k + 100 ≤ 601024 ∧ n + 2000 ≤ 7293033)
    (nx : ∀ (X2 : Hp) (s2 : MS) (W2 : Hp) (f2 : Int → Int) (g2 : Int → UInt64) (k2 n2 : Nat) (u v : Option Value), LX Γ x (c + 1) X2 s2 → W2 o = some (aL 1 f2) → W2 od = some (aD 1 g2) → hdj X2 (hU (HM adm s2) W2) → hdj (HM adm s2) W2 → k2 ≤ k + 40 → n2 ≤ n + 1000 → G 1733 [some (.ref sb), some (.ref x), some (.ref (adm 40)), some (.ref o), some (.ref od), some (iv i), u, v] [] (hU X2 (hU (HM adm s2) W2)) k2 n2) :
    G 1621 [some (.ref sb), some (.ref x), some (.ref (adm 40)), some (.ref o), some (.ref od), some (iv i), u0, v0] [] (hU X (hU (HM adm s) W)) k n := by
  obtain ⟨ad, Q, S, P, B, rfl, I, rfl, H⟩ := hx
  refine lc_season CL hfl (MP := fun (b : Int) (s2 : MS) => MSeason s b s2) IMm hW hV hne hdX hdm hi hls hk ?_ ?_ nx
  · exact w_season (z0 := 0) (hx_0 I) (hU_r hdm hW) hdX (cs_season hfl I H hc )
  · exact Ct.mono (m_season hfl IMm H.1) (fun v h' p => p) (fun _ _ z => z)

theorem lt_ofBand {l : Launch} {Γ : GA} {nm : String} {G : GP} {sb ls : Nat} {xs : Nat → Int32} (CL : CxL l Γ (m_law nm) G sb ls xs) (hfl : l.stackTraces = false) {x o od c : Nat} {i : Int} {k n : Nat} {X W : Hp} {adm : Nat → Nat} {s : MS} {f : Int → Int} {g : Int → UInt64} {u0 v0 : Option Value} (hx : LX Γ x c X s) (hc : c ≤ 600) (IMm : IM adm) (hW : W o = some (aL 1 f)) (hV : W od = some (aD 1 g)) (hne : o ≠ od) (hdX : hdj X (hU (HM adm s) W)) (hdm : hdj (HM adm s) W) (hi : 0 ≤ i ∧ i + 5 ≤ ls) (hls : ls ≤ 2560) (hk : k + 100 ≤ 601024 ∧ n + 2000 ≤ 7293033)
    (nx : ∀ (X2 : Hp) (s2 : MS) (W2 : Hp) (f2 : Int → Int) (g2 : Int → UInt64) (k2 n2 : Nat) (u v : Option Value), LX Γ x (c + 1) X2 s2 → W2 o = some (aL 1 f2) → W2 od = some (aD 1 g2) → hdj X2 (hU (HM adm s2) W2) → hdj (HM adm s2) W2 → k2 ≤ k + 40 → n2 ≤ n + 1000 → G 1733 [some (.ref sb), some (.ref x), some (.ref (adm 40)), some (.ref o), some (.ref od), some (iv i), u, v] [] (hU X2 (hU (HM adm s2) W2)) k2 n2) :
    G 1665 [some (.ref sb), some (.ref x), some (.ref (adm 40)), some (.ref o), some (.ref od), some (iv i), u0, v0] [] (hU X (hU (HM adm s) W)) k n := by
  obtain ⟨ad, Q, S, P, B, rfl, I, rfl, H⟩ := hx
  have r1 := xz_rng xs (i + 1)
  have r2 := xz_rng xs (i + 2)
  refine lc_ofBand CL hfl (MP := fun (b : Int) (s2 : MS) => MOfBand s (xz xs (i + 1)) (xz xs (i + 2)) b s2) IMm hW hV hne hdX hdm hi hls hk ?_ ?_ nx
  · exact w_ofBand (hx_0 I) (hU_r hdm hW) hdX (cs_ofBand hfl I H hc r1 r2)
  · exact Ct.mono (m_ofBand hfl IMm H.1 r1 r2) (fun v h' p => p) (fun _ _ z => z)
