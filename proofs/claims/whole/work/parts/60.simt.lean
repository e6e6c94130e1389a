/-! class and reference side by side: tunes -/
theorem rsum_congr {f g : Int → Int} {a : Int} : ∀ {n : Nat}, (∀ i : Int, 0 ≤ i → i < n → f (a + i) = g (a + i)) → rsum f a n = rsum g a n
  | 0, _ => rfl
  | n + 1, h => by
    show rsum f a n + f (a + n) = rsum g a n + g (a + n)
    rw [rsum_congr (n := n) (fun i h0 h1 => h i h0 (by omega)), h n (by omega) (by omega)]
theorem mFk_ag {s s2 : MS} {i n : Int} (h : ∀ k : Int, 0 ≤ k → k < n → s2 7 (8 * i + k) = s 7 (8 * i + k)) {k : Int} (h0 : 0 ≤ k) (h1 : k ≤ n) : mFk s2 i k = mFk s i k := by
  unfold mFk
  by_cases c : k = 0
  · rw [if_pos c, if_pos c]
  · rw [if_neg c, if_neg c, show 8 * i + k - 1 = 8 * i + (k - 1) by omega]
    exact h (k - 1) (by omega) (by omega)
theorem mPl_ag {s s2 : MS} {i n : Int} (h7 : ∀ k : Int, 0 ≤ k → k < n → s2 7 (8 * i + k) = s 7 (8 * i + k)) (h8 : ∀ k : Int, 0 ≤ k → k < n → s2 8 (8 * i + k) = s 8 (8 * i + k)) : ∀ m : Nat, (m : Int) ≤ n → plA (mPl s2 i m) (mPl s i m)
  | 0, _ => ⟨rfl, fun j h1 h0 => by
      have h2 : j < 0 := h1
      omega⟩
  | m + 1, hm => by
    show plA (prep (mPl s2 i m) (64 * i + mFk s2 i m) m (s2 7 (8 * i + m) - mFk s2 i m) (mTw s2 i m)) (prep (mPl s i m) (64 * i + mFk s i m) m (s 7 (8 * i + m) - mFk s i m) (mTw s i m))
    rw [mFk_ag h7 (k := m) (by omega) (by omega), h7 m (by omega) (by omega)]
    unfold mTw
    rw [h8 m (by omega) (by omega)]
    exact plA_prep (mPl_ag h7 h8 m (by omega)) _
/-- the reference's cells of the tune i hold the class's tune t -/
def TS (s : MS) (i : Int) (t : TuS) : Prop :=
  (s 1 i = tKd t ∧ s 2 i = tWc t ∧ s 3 i = tPc t) ∧ (mFo s i = tFo t ∧ mOu s i = tOu t ∧ (tOu t = 0 ↔ tWc t = tFo t)) ∧
  (∀ k : Int, 0 ≤ k → k < tWc t → s 4 (64 * i + k) = tH t k ∧ s 5 (64 * i + k) = tL t k ∧ s 6 (64 * i + k) = tG t k) ∧
  (mMany s i = tPl t ∧ ∀ j : Int, 0 ≤ j → j < tPl t → mRow s i j = 64 * i + tN t j ∧ mPart s i j = tP t (tN t j) ∧ 0 ≤ tN t j ∧ tN t j < tFo t) ∧ VPt s i
theorem TS_cong {s s2 : MS} {i : Int} {t : TuS} (h : TS s i t) (ht : tuOk t) (h1 : s2 1 i = s 1 i) (h2 : s2 2 i = s 2 i) (h3 : s2 3 i = s 3 i)
    (h7 : ∀ k : Int, 0 ≤ k → k < 8 → s2 7 (8 * i + k) = s 7 (8 * i + k)) (h8 : ∀ k : Int, 0 ≤ k → k < 8 → s2 8 (8 * i + k) = s 8 (8 * i + k))
    (h4 : ∀ k : Int, 0 ≤ k → k < 64 → s2 4 (64 * i + k) = s 4 (64 * i + k)) (h5 : ∀ k : Int, 0 ≤ k → k < 64 → s2 5 (64 * i + k) = s 5 (64 * i + k)) (h6 : ∀ k : Int, 0 ≤ k → k < 64 → s2 6 (64 * i + k) = s 6 (64 * i + k)) : TS s2 i t := by
  obtain ⟨⟨a1, a2, a3⟩, ⟨b1, b2, b3⟩, c, ⟨d1, d2⟩, e⟩ := h
  obtain ⟨k1, k2, k3, k4, k5, k6, k7, k8, k9, k10⟩ := ht
  have f0 : mFo s2 i = mFo s i := by
    unfold mFo
    rw [h3]
    by_cases z : s 3 i = 0
    · rw [if_pos z, if_pos z]
    · rw [if_neg z, if_neg z, show 8 * i + s 3 i - 1 = 8 * i + (s 3 i - 1) by omega]
      exact h7 (s 3 i - 1) (by omega) (by omega)
  have p0 : plA (mPl s2 i (s 3 i).toNat) (mPl s i (s 3 i).toNat) := mPl_ag h7 h8 _ (by omega)
  refine ⟨⟨h1.trans a1, h2.trans a2, h3.trans a3⟩, ⟨f0.trans b1, ?_, b3⟩, ?_, ⟨?_, ?_⟩, ?_⟩
  · rw [← b2]
    unfold mOu
    rw [f0, h2]
    exact rsum_congr (fun k hk0 hk1 => h5 (mFo s i + k) (by omega) (by omega))
  · intro k hk0 hk1
    obtain ⟨x1, x2, x3⟩ := c k hk0 hk1
    exact ⟨(h4 k hk0 (by omega)).trans x1, (h5 k hk0 (by omega)).trans x2, (h6 k hk0 (by omega)).trans x3⟩
  · rw [← d1]
    unfold mMany
    rw [h3]
    exact p0.1
  · intro j hj0 hj1
    obtain ⟨x1, x2, x3, x4⟩ := d2 j hj0 hj1
    have d3 : (mPl s i (s 3 i).toNat).1 = tPl t := d1
    have p1 := p0.2 j (by rw [p0.1, d3]; exact hj1) hj0
    refine ⟨?_, ?_, x3, x4⟩
    · rw [← x1]
      unfold mRow
      rw [h3]
      exact p1.1
    · rw [← x2]
      unfold mPart
      rw [h3]
      exact p1.2
  · intro k hk0 hk1
    rw [h3] at hk1
    rw [mFk_ag h7 hk0 (by omega), h7 k hk0 (by omega)]
    exact e k hk0 hk1
/-- plays as far as they go: what stands in the rows -/
def PLm (q : Int × (Int → Int) × (Int → Int)) (i : Int) (pl : Nat) (tn tp : Int → Int) (F : Nat) : Prop := q.1 = pl ∧ ∀ j : Int, 0 ≤ j → j < pl → q.2.1 j = 64 * i + tn j ∧ q.2.2 j = tp (tn j) ∧ 0 ≤ tn j ∧ tn j < F
theorem PL_pst {q : Int × (Int → Int) × (Int → Int)} {i : Int} {pl fo n F : Nat} {tn tp : Int → Int} {k : Int} (h : PLm q i pl tn tp F) (hF : fo + n ≤ F) (hp : ∀ z : Int, fo ≤ z → z < fo + n → tp z = k) : PLm (pst q (64 * i + fo) k n) i (pl + n) (napp tn pl fo n) tp F := by
  obtain ⟨h1, h2⟩ := h
  refine ⟨?_, ?_⟩
  · show q.1 + n = _
    rw [h1]
    omega
  · intro j hj0 hj1
    show mapp q.2.1 q.1 (64 * i + fo) n j = 64 * i + napp tn pl fo n j ∧ mcon q.2.2 q.1 k n j = tp (napp tn pl fo n j) ∧ 0 ≤ napp tn pl fo n j ∧ napp tn pl fo n j < F
    unfold mapp mcon napp
    rw [h1]
    by_cases c : (pl : Int) ≤ j ∧ j < pl + n
    · rw [if_pos c, if_pos c, if_pos c]
      refine ⟨by omega, (hp _ (by omega) (by omega)).symm, by omega, by omega⟩
    · rw [if_neg c, if_neg c, if_neg c]
      exact h2 j hj0 (by omega)
theorem TS_note {s : MS} {i : Int} {t : TuS} {h l g : Int} (H : TS s i t) (ht : tuOk t) (hw : tWc t < 64) (hl : 1 ≤ l) :
    TS (moS (moS (moS (moS (moS s 39 (fun _ => 0)) 4 (gupd (s 4) (64 * i + s 2 i) h)) 5 (gupd (s 5) (64 * i + s 2 i) l)) 6 (gupd (s 6) (64 * i + s 2 i) g)) 2 (gupd (s 2) i (s 2 i + 1))) i (tNote t h l g) := by
  obtain ⟨⟨a1, a2, a3⟩, ⟨b1, b2, b3⟩, c, ⟨d1, d2⟩, e⟩ := H
  obtain ⟨k1, k2, k3, k4, k5, k6, k7, k8, k9, k10⟩ := ht
  generalize hs2 : moS (moS (moS (moS (moS s 39 (fun _ => 0)) 4 (gupd (s 4) (64 * i + s 2 i) h)) 5 (gupd (s 5) (64 * i + s 2 i) l)) 6 (gupd (s 6) (64 * i + s 2 i) g)) 2 (gupd (s 2) i (s 2 i + 1)) = s2
  have e1 : s2 1 = s 1 := by rw [← hs2]; rfl
  have e2 : s2 2 = gupd (s 2) i (s 2 i + 1) := by rw [← hs2]; rfl
  have e3 : s2 3 = s 3 := by rw [← hs2]; rfl
  have e4 : s2 4 = gupd (s 4) (64 * i + s 2 i) h := by rw [← hs2]; rfl
  have e5 : s2 5 = gupd (s 5) (64 * i + s 2 i) l := by rw [← hs2]; rfl
  have e6 : s2 6 = gupd (s 6) (64 * i + s 2 i) g := by rw [← hs2]; rfl
  have e7 : s2 7 = s 7 := by rw [← hs2]; rfl
  have e8 : s2 8 = s 8 := by rw [← hs2]; rfl
  have f0 : mFo s2 i = mFo s i := by
    unfold mFo
    rw [e3, e7]
  have ra := mRow_agree (s := s) (s2 := s2) (t := i) e3 e7 e8
  refine ⟨⟨?_, ?_, ?_⟩, ⟨?_, ?_, ?_⟩, ?_, ⟨?_, ?_⟩, ?_⟩
  · rw [e1]; exact a1
  · rw [e2, gupd_eq, a2]
    rfl
  · rw [e3]; exact a3
  · rw [f0]; exact b1
  · show mOu s2 i = tOu t + l
    rw [← b2]
    unfold mOu
    rw [f0, e2, gupd_eq, e5, show (s 2 i + 1 - mFo s i).toNat = (s 2 i - mFo s i).toNat + 1 by omega]
    show rsum _ (mFo s i) (s 2 i - mFo s i).toNat + gupd (s 5) (64 * i + s 2 i) l (64 * i + (mFo s i + ((s 2 i - mFo s i).toNat : Int))) = _
    rw [show 64 * i + (mFo s i + ((s 2 i - mFo s i).toNat : Int)) = 64 * i + s 2 i by omega, gupd_eq]
    refine congrArg (fun x => x + l) (rsum_congr (fun k hk0 hk1 => ?_))
    exact gupd_ne (by omega)
  · show tOu t + l = 0 ↔ tWc t + 1 = tFo t
    omega
  · intro k hk0 hk1
    show s2 4 (64 * i + k) = gupd (tH t) (tWc t) h k ∧ s2 5 (64 * i + k) = gupd (tL t) (tWc t) l k ∧ s2 6 (64 * i + k) = gupd (tG t) (tWc t) g k
    have hk2 : k < ((tWc t + 1 : Nat) : Int) := hk1
    rw [e4, e5, e6, a2]
    by_cases q : k = (tWc t : Int)
    · subst q
      rw [gupd_eq, gupd_eq, gupd_eq, gupd_eq, gupd_eq, gupd_eq]
      exact ⟨rfl, rfl, rfl⟩
    · rw [gupd_ne (show 64 * i + k ≠ 64 * i + (tWc t : Int) by omega), gupd_ne (show 64 * i + k ≠ 64 * i + (tWc t : Int) by omega), gupd_ne (show 64 * i + k ≠ 64 * i + (tWc t : Int) by omega), gupd_ne q, gupd_ne q, gupd_ne q]
      exact c k hk0 (by omega)
  · show mMany s2 i = tPl t
    rw [ra.1]; exact d1
  · intro j hj0 hj1
    have hj2 : j < (tPl t : Int) := hj1
    obtain ⟨x1, x2, x3, x4⟩ := d2 j hj0 hj2
    obtain ⟨r1, r2⟩ := ra.2 j hj0 (by rw [d1]; exact hj2)
    exact ⟨r1.trans x1, r2.trans x2, x3, x4⟩
  · exact VPt_congr e3 e7 e
theorem TS_part {s : MS} {i : Int} {t : TuS} {tw : Int} (H : TS s i t) (ht : tuOk t) (hp : tPc t < 8) (htw : tw = 0 ∨ tw = 1) :
    TS (moS (moS (moS (moS s 39 (fun _ => 0)) 7 (gupd (s 7) (8 * i + s 3 i) (s 2 i))) 8 (gupd (s 8) (8 * i + s 3 i) tw)) 3 (gupd (s 3) i (s 3 i + 1))) i (tPart t tw) := by
  obtain ⟨⟨a1, a2, a3⟩, ⟨b1, b2, b3⟩, c, ⟨d1, d2⟩, e⟩ := H
  obtain ⟨k1, k2, k3, k4, k5, k6, k7, k8, k9, k10⟩ := ht
  generalize hs2 : moS (moS (moS (moS s 39 (fun _ => 0)) 7 (gupd (s 7) (8 * i + s 3 i) (s 2 i))) 8 (gupd (s 8) (8 * i + s 3 i) tw)) 3 (gupd (s 3) i (s 3 i + 1)) = s2
  have e1 : s2 1 = s 1 := by rw [← hs2]; rfl
  have e2 : s2 2 = s 2 := by rw [← hs2]; rfl
  have e3 : s2 3 = gupd (s 3) i (s 3 i + 1) := by rw [← hs2]; rfl
  have e4 : s2 4 = s 4 := by rw [← hs2]; rfl
  have e5 : s2 5 = s 5 := by rw [← hs2]; rfl
  have e6 : s2 6 = s 6 := by rw [← hs2]; rfl
  have e7 : s2 7 = gupd (s 7) (8 * i + s 3 i) (s 2 i) := by rw [← hs2]; rfl
  have e8 : s2 8 = gupd (s 8) (8 * i + s 3 i) tw := by rw [← hs2]; rfl
  have g7 : ∀ k : Int, 0 ≤ k → k < tPc t → s2 7 (8 * i + k) = s 7 (8 * i + k) := fun k h0 h1 => by rw [e7]; exact gupd_ne (by omega)
  have g8 : ∀ k : Int, 0 ≤ k → k < tPc t → s2 8 (8 * i + k) = s 8 (8 * i + k) := fun k h0 h1 => by rw [e8]; exact gupd_ne (by omega)
  have n7 : s2 7 (8 * i + (tPc t : Int)) = tWc t := by rw [e7, a3, gupd_eq, a2]
  have n8 : s2 8 (8 * i + (tPc t : Int)) = tw := by rw [e8, a3, gupd_eq]
  have fk : mFk s2 i (tPc t) = tFo t := by
    rw [mFk_ag g7 (by omega) (Int.le_refl _), ← b1]
    unfold mFk mFo
    rw [a3]
  have h3n : (s2 3 i).toNat = tPc t + 1 := by
    rw [e3, gupd_eq, a3]
    omega
  have pA : plA (mPl s2 i (tPc t)) (mPl s i (tPc t)) := mPl_ag g7 g8 _ (Int.le_refl _)
  have hN : (s 3 i).toNat = tPc t := by omega
  -- what was played before, under the new parts
  have P0 : PLm (mPl s2 i (tPc t)) i (tPl t) (tN t) (pset (tP t) (tFo t) (tWc t - tFo t) (tPc t)) (tWc t) := by
    have d1' : (mPl s i (tPc t)).1 = tPl t := by rw [← hN]; exact d1
    refine ⟨pA.1.trans d1', fun j hj0 hj1 => ?_⟩
    obtain ⟨x1, x2, x3, x4⟩ := d2 j hj0 hj1
    have p1 := pA.2 j (by rw [pA.1, d1']; exact hj1) hj0
    have y1 : (mPl s i (tPc t)).2.1 j = 64 * i + tN t j := by rw [← hN]; exact x1
    have y2 : (mPl s i (tPc t)).2.2 j = tP t (tN t j) := by rw [← hN]; exact x2
    refine ⟨p1.1.trans y1, ?_, x3, by omega⟩
    rw [p1.2, y2]
    unfold pset
    rw [if_neg (by omega)]
  have hset : ∀ z : Int, (tFo t : Int) ≤ z → z < tFo t + (tWc t - tFo t : Nat) → pset (tP t) (tFo t) (tWc t - tFo t) (tPc t) z = (tPc t : Int) := by
    intro z h0 h1
    unfold pset
    rw [if_pos ⟨h0, h1⟩]
  have P1 := PL_pst (n := tWc t - tFo t) (fo := tFo t) (k := (tPc t : Int)) P0 (by omega) hset
  have P2 := PL_pst (n := tWc t - tFo t) (fo := tFo t) (k := (tPc t : Int)) P1 (by omega) hset
  have step : mPl s2 i (tPc t + 1) = prep (mPl s2 i (tPc t)) (64 * i + (tFo t : Int)) (tPc t : Int) ((tWc t - tFo t : Nat) : Int) (if tw = 0 then 1 else 2) := by
    show prep (mPl s2 i (tPc t)) (64 * i + mFk s2 i (tPc t)) (tPc t : Int) (s2 7 (8 * i + (tPc t : Int)) - mFk s2 i (tPc t)) (mTw s2 i (tPc t)) = _
    rw [fk, n7, show (tWc t : Int) - (tFo t : Int) = ((tWc t - tFo t : Nat) : Int) by omega]
    unfold mTw
    rw [n8]
  have PF : PLm (mPl s2 i (tPc t + 1)) i (tPl (tPart t tw)) (tN (tPart t tw)) (tP (tPart t tw)) (tFo (tPart t tw)) := by
    rw [step]
    by_cases z : tw = 0
    · have u1 : tPl (tPart t tw) = tPl t + (tWc t - tFo t) := by
        show tPl t + (if tw = 0 then (tWc t - tFo t) else 2 * (tWc t - tFo t)) = _
        rw [if_pos z]
      have u2 : tN (tPart t tw) = napp (tN t) (tPl t) (tFo t) (tWc t - tFo t) := by
        show (if tw = 0 then napp (tN t) (tPl t) (tFo t) (tWc t - tFo t) else napp (napp (tN t) (tPl t) (tFo t) (tWc t - tFo t)) (tPl t + (tWc t - tFo t)) (tFo t) (tWc t - tFo t)) = _
        rw [if_pos z]
      rw [if_pos z, u1, u2]
      exact P1
    · have u1 : tPl (tPart t tw) = tPl t + (tWc t - tFo t) + (tWc t - tFo t) := by
        show tPl t + (if tw = 0 then (tWc t - tFo t) else 2 * (tWc t - tFo t)) = _
        rw [if_neg z]
        omega
      have u2 : tN (tPart t tw) = napp (napp (tN t) (tPl t) (tFo t) (tWc t - tFo t)) (tPl t + (tWc t - tFo t)) (tFo t) (tWc t - tFo t) := by
        show (if tw = 0 then napp (tN t) (tPl t) (tFo t) (tWc t - tFo t) else napp (napp (tN t) (tPl t) (tFo t) (tWc t - tFo t)) (tPl t + (tWc t - tFo t)) (tFo t) (tWc t - tFo t)) = _
        rw [if_neg z]
      rw [if_neg z, u1, u2]
      exact P2
  refine ⟨⟨?_, ?_, ?_⟩, ⟨?_, ?_, ?_⟩, ?_, ⟨?_, ?_⟩, ?_⟩
  · rw [e1]; exact a1
  · rw [e2]; exact a2
  · rw [e3, gupd_eq, a3]
    rfl
  · show mFo s2 i = tWc t
    unfold mFo
    rw [e3, gupd_eq, if_neg (by omega), e7, show 8 * i + (s 3 i + 1) - 1 = 8 * i + s 3 i by omega, gupd_eq]
    exact a2
  · show mOu s2 i = 0
    have q : mFo s2 i = tWc t := by
      unfold mFo
      rw [e3, gupd_eq, if_neg (by omega), e7, show 8 * i + (s 3 i + 1) - 1 = 8 * i + s 3 i by omega, gupd_eq]
      exact a2
    unfold mOu
    rw [q, e2, a2, show ((tWc t : Int) - (tWc t : Int)).toNat = 0 by omega]
    rfl
  · show (0 : Int) = 0 ↔ tWc t = tWc t
    exact ⟨fun _ => rfl, fun _ => rfl⟩
  · intro k hk0 hk1
    rw [e4, e5, e6]
    exact c k hk0 hk1
  · unfold mMany
    rw [h3n]
    exact PF.1
  · intro j hj0 hj1
    unfold mRow mPart
    rw [h3n]
    exact PF.2 j hj0 hj1
  · intro k hk0 hk1
    rw [e3, gupd_eq, a3] at hk1
    by_cases q : k = (tPc t : Int)
    · rw [q, fk, n7]
      omega
    · rw [mFk_ag g7 hk0 (by omega), g7 k hk0 (by omega)]
      exact e k hk0 (by omega)
theorem TS_new {s : MS} {i : Int} {z : Int} (h2 : s 2 i = 0) (h3 : s 3 i = 0) : TS (moS (moS (moS s 39 (fun _ => 0)) 1 (gupd (s 1) i z)) 0 (fun _ => s 0 0 + 1)) i (z, 0, 0, 0, 0, 0, (fun _ => 0), (fun _ => 0), (fun _ => 0), (fun _ => 0), (fun _ => 0)) := by
  generalize hs2 : moS (moS (moS s 39 (fun _ => 0)) 1 (gupd (s 1) i z)) 0 (fun _ => s 0 0 + 1) = s2
  have e1 : s2 1 = gupd (s 1) i z := by rw [← hs2]; rfl
  have e2 : s2 2 = s 2 := by rw [← hs2]; rfl
  have e3 : s2 3 = s 3 := by rw [← hs2]; rfl
  have f0 : mFo s2 i = 0 := by
    unfold mFo
    rw [e3, if_pos h3]
  refine ⟨⟨?_, ?_, ?_⟩, ⟨?_, ?_, ?_⟩, ?_, ⟨?_, ?_⟩, ?_⟩
  · rw [e1, gupd_eq]
  · rw [e2]; exact h2
  · rw [e3]; exact h3
  · exact f0
  · unfold mOu
    rw [f0, e2, h2]
    rfl
  · exact ⟨fun _ => rfl, fun _ => rfl⟩
  · intro k hk0 hk1
    have hk2 : k < ((0 : Nat) : Int) := hk1
    omega
  · unfold mMany
    rw [e3, h3]
    rfl
  · intro k hk0 hk1
    have hk2 : k < ((0 : Nat) : Int) := hk1
    omega
  · intro k hk0 hk1
    rw [e3, h3] at hk1
    omega
