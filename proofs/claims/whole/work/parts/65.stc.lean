/-! steps side by side: the closing of a contest -/
theorem clK_lt {bf : Nat → BaS} {n : Nat} : ∀ (k j : Nat), j < k → clK bf n k j = if bTp (bf j) = 1 then bPl (bFg (bf j)) (plF bf n j 4) (plS bf n j 4) else bFg (bf j)
  | 0, j, h => absurd h (Nat.not_lt_zero j)
  | k + 1, j, h => by
    show tset (clK bf n k) k (if bTp (bf k) = 1 then bPl (bFg (bf k)) (plF bf n k 4) (plS bf n k 4) else bFg (bf k)) j = _
    by_cases q : j = k
    · rw [q, tset_eq]
    · rw [tset_ne q]
      exact clK_lt k j (by omega)
theorem rkK_lt {bf : Nat → BaS} {n : Nat} : ∀ (k j : Nat), j < k → rkK bf n k j = if bTp (bf j) = 1 then bRank (bf j) (1 + xAh bf j n) else bf j
  | 0, j, h => absurd h (Nat.not_lt_zero j)
  | k + 1, j, h => by
    show (if bTp (bf k) = 1 then tset (rkK bf n k) k (bRank (bf k) (1 + xAh bf k n)) else rkK bf n k) j = _
    by_cases q : j = k
    · subst q
      by_cases z : bTp (bf j) = 1
      · rw [if_pos z, if_pos z, tset_eq]
      · rw [if_neg z, if_neg z]
        exact rkK_ge j j (Nat.le_refl _)
    · by_cases z : bTp (bf k) = 1
      · rw [if_pos z, tset_ne q]
        exact rkK_lt k j (by omega)
      · rw [if_neg z]
        exact rkK_lt k j (by omega)
theorem clR_at {s : MS} : ∀ (k : Nat), (∀ i : Nat, i < k → clR s k i = if mTb s i = 1 then mRk s i else -1)
  | 0 => fun i h => absurd h (Nat.not_lt_zero i)
  | k + 1 => fun i h => by
    show gupd (clR s k) k (if mTb s k = 1 then mRk s k else -1) i = _
    by_cases q : i = k
    · rw [q, gupd_eq]
    · rw [gupd_ne (by omega)]
      exact clR_at k i (by omega)
theorem clT_at {s : MS} : ∀ (k : Nat), (∀ i : Nat, i < k → clT s k i = if mTb s i = 1 then mSumO s i else -1)
  | 0 => fun i h => absurd h (Nat.not_lt_zero i)
  | k + 1 => fun i h => by
    show gupd (clT s k) k (if mTb s k = 1 then mSumO s k else -1) i = _
    by_cases q : i = k
    · rw [q, gupd_eq]
    · rw [gupd_ne (by omega)]
      exact clT_at k i (by omega)
theorem clP_at {s : MS} : ∀ (k : Nat), (∀ i : Nat, i < k → clP s k i = if mTb s i = 1 then s 31 i + ptOf (mRk s i) else s 31 i) ∧ (∀ i : Int, (i < 0 ∨ (k : Int) ≤ i) → clP s k i = s 31 i)
  | 0 => ⟨fun i h => absurd h (Nat.not_lt_zero i), fun _ _ => rfl⟩
  | k + 1 => by
    obtain ⟨h1, h2⟩ := clP_at (s := s) k
    have e : clP s (k + 1) = if mTb s k = 1 then gupd (clP s k) k (clP s k k + ptOf (mRk s k)) else clP s k := rfl
    rw [e]
    by_cases z : mTb s k = 1
    · rw [if_pos z]
      refine ⟨fun i hi => ?_, fun i hi => ?_⟩
      · by_cases q : i = k
        · subst q
          rw [gupd_eq, if_pos z, h2 i (Or.inr (Int.le_refl _))]
        · rw [gupd_ne (by omega)]
          exact h1 i (by omega)
      · rw [gupd_ne (by omega)]
        exact h2 i (by omega)
    · rw [if_neg z]
      refine ⟨fun i hi => ?_, fun i hi => h2 i (by omega)⟩
      by_cases q : i = k
      · subst q
        rw [if_neg z]
        exact h2 i (Or.inr (Int.le_refl _))
      · exact h1 i (by omega)
theorem clF_at {s : MS} : ∀ (k : Nat), (∀ i : Nat, i < k → clF s k i = if mTb s i = 1 then s 34 i + (if mRk s i = 1 then 1 else 0) else s 34 i) ∧ (∀ i : Int, (i < 0 ∨ (k : Int) ≤ i) → clF s k i = s 34 i)
  | 0 => ⟨fun i h => absurd h (Nat.not_lt_zero i), fun _ _ => rfl⟩
  | k + 1 => by
    obtain ⟨h1, h2⟩ := clF_at (s := s) k
    have e : clF s (k + 1) = if mTb s k = 1 then gupd (clF s k) k (clF s k k + if mRk s k = 1 then 1 else 0) else clF s k := rfl
    rw [e]
    by_cases z : mTb s k = 1
    · rw [if_pos z]
      refine ⟨fun i hi => ?_, fun i hi => ?_⟩
      · by_cases q : i = k
        · subst q
          rw [gupd_eq, if_pos z, h2 i (Or.inr (Int.le_refl _))]
        · rw [gupd_ne (by omega)]
          exact h1 i (by omega)
      · rw [gupd_ne (by omega)]
        exact h2 i (by omega)
    · rw [if_neg z]
      refine ⟨fun i hi => ?_, fun i hi => h2 i (by omega)⟩
      by_cases q : i = k
      · subst q
        rw [if_neg z]
        exact h2 i (Or.inr (Int.le_refl _))
      · exact h1 i (by omega)
theorem isBf_congr {a a2 b b2 : Int} {f f2 g g2 : Int → Int} {n n2 : Int} (ha : a = a2) (hb : b = b2) (h0 : f 0 = f2 0) (h1 : f 1 = f2 1) (h3 : f 3 = f2 3) (k0 : g 0 = g2 0) (k1 : g 1 = g2 1) (k3 : g 3 = g2 3) : isBf a b f g n n2 ↔ isBf a2 b2 f2 g2 n n2 := by
  unfold isBf
  rw [ha, hb, h0, h1, h3, k0, k1, k3]
theorem isBf_irr {a : Int} {f : Int → Int} {n : Int} : ¬ isBf a a f f n n := by
  unfold isBf
  omega
theorem plF_4 {bf : Nat → BaS} {n i : Nat} : plF bf n i 4 0 = 1 + xPc bf i 0 n ∧ plF bf n i 4 1 = 1 + xPc bf i 1 n ∧ plF bf n i 4 3 = 1 + xPc bf i 3 n := by
  have e : plF bf n i 4 = gupd (gupd (gupd (gupd (bP (bf i)) 0 (1 + xPc bf i 0 n)) 1 (1 + xPc bf i 1 n)) 2 (1 + xPc bf i 2 n)) 3 (1 + xPc bf i 3 n) := rfl
  rw [e]
  refine ⟨?_, ?_, gupd_eq⟩
  · rw [gupd_ne (by omega), gupd_ne (by omega), gupd_ne (by omega), gupd_eq]
  · rw [gupd_ne (by omega), gupd_ne (by omega), gupd_eq]
theorem plS_4 {bf : Nat → BaS} {n i : Nat} : plS bf n i 4 = 0 + (1 + xPc bf i 0 n) + (1 + xPc bf i 1 n) + (1 + xPc bf i 2 n) + (1 + xPc bf i 3 n) := rfl
section SC
variable {c : Nat} {Q : XTs} {S : XSs} {P : XPs} {B : XBs} {s s2 : MS}
theorem plc_eq (h : SimO B s) {i : Nat} (hi : i < B.1) (ht : bTp (B.2.2.1 i) = 1) {j : Int} (h0 : 0 ≤ j) (h1 : j ≤ 3) : ∀ k : Nat, k ≤ B.1 → usum (fun k => if mTb s k = 1 ∧ s 38 (8 * j + i) < s 38 (8 * j + k) then 1 else 0) k = xPc B.2.2.1 i j k
  | 0, _ => rfl
  | k + 1, hk => by
    obtain ⟨w1, w2, w3⟩ := h
    show usum _ k + (if mTb s k = 1 ∧ s 38 (8 * j + i) < s 38 (8 * j + k) then 1 else 0) = xPc B.2.2.1 i j k + if bTp (B.2.2.1 k) = 1 ∧ bM (B.2.2.1 i) j < bM (B.2.2.1 k) j then 1 else 0
    rw [plc_eq ⟨w1, w2, w3⟩ hi ht h0 h1 k (by omega), (w2 i hi).2 ht j h0 h1, (w2 k (by omega)).1]
    by_cases z : bTp (B.2.2.1 k) = 1
    · rw [(w2 k (by omega)).2 z j h0 h1]
    · rw [if_neg (fun x => z x.1), if_neg (fun x => z x.1)]
theorem ah_eq (h29 : s 29 0 = B.1) (h : SimO B s) {i : Nat} (hi : i < B.1) (ht : bTp (B.2.2.1 i) = 1) : ∀ m : Nat, m ≤ B.1 → usum (mAh s i) m = xAh (clK B.2.2.1 B.1 B.1) i m := by
  have pl : ∀ k : Nat, k < B.1 → bTp (B.2.2.1 k) = 1 → ∀ j : Int, 0 ≤ j → j ≤ 3 → mPlc s j k = 1 + xPc B.2.2.1 k j B.1 := by
    intro k hk htk j h0 h1
    unfold mPlc
    rw [h29, show ((B.1 : Int)).toNat = B.1 from rfl, plc_eq h hk htk h0 h1 B.1 (Nat.le_refl _)]
  have su : ∀ k : Nat, k < B.1 → bTp (B.2.2.1 k) = 1 → mSumO s k = plS B.2.2.1 B.1 k 4 := by
    intro k hk htk
    unfold mSumO
    rw [pl k hk htk 0 (by omega) (by omega), pl k hk htk 1 (by omega) (by omega), pl k hk htk 2 (by omega) (by omega), pl k hk htk 3 (by omega) (by omega), plS_4]
    omega
  have g1 : ∀ k : Nat, k < B.1 → bTp (B.2.2.1 k) = 1 → clK B.2.2.1 B.1 B.1 k = bPl (bFg (B.2.2.1 k)) (plF B.2.2.1 B.1 k 4) (plS B.2.2.1 B.1 k 4) := fun k hk htk => by
    rw [clK_lt B.1 k hk, if_pos htk]
  intro m
  induction m with
  | zero => intro _; rfl
  | succ m ih =>
    intro hm
    show usum (mAh s i) m + mAh s i m = xAh (clK B.2.2.1 B.1 B.1) i m + xA1 (clK B.2.2.1 B.1 B.1) i m
    rw [ih (by omega)]
    refine congrArg (fun x => xAh (clK B.2.2.1 B.1 B.1) i m + x) ?_
    have hm1 : m < B.1 := by omega
    have tb := (h.2.1 m hm1).1
    have tp := (clK_same (bf := B.2.2.1) (n := B.1) B.1 m).1
    unfold mAh xA1
    by_cases z : bTp (B.2.2.1 m) = 1
    · have iff : isBf (mSumO s m) (mSumO s i) (fun j => mPlc s j m) (fun j => mPlc s j i) m i ↔ isBf (bSu (clK B.2.2.1 B.1 B.1 m)) (bSu (clK B.2.2.1 B.1 B.1 i)) (bP (clK B.2.2.1 B.1 B.1 m)) (bP (clK B.2.2.1 B.1 B.1 i)) m i := by
        rw [g1 m hm1 z, g1 i hi ht]
        obtain ⟨p0, p1, p3⟩ := plF_4 (bf := B.2.2.1) (n := B.1) (i := m)
        obtain ⟨q0, q1, q3⟩ := plF_4 (bf := B.2.2.1) (n := B.1) (i := i)
        refine isBf_congr (su m hm1 z) (su i hi ht) ?_ ?_ ?_ ?_ ?_ ?_
        · exact (pl m hm1 z 0 (by omega) (by omega)).trans p0.symm
        · exact (pl m hm1 z 1 (by omega) (by omega)).trans p1.symm
        · exact (pl m hm1 z 3 (by omega) (by omega)).trans p3.symm
        · exact (pl i hi ht 0 (by omega) (by omega)).trans q0.symm
        · exact (pl i hi ht 1 (by omega) (by omega)).trans q1.symm
        · exact (pl i hi ht 3 (by omega) (by omega)).trans q3.symm
      by_cases y : isBf (mSumO s m) (mSumO s i) (fun j => mPlc s j m) (fun j => mPlc s j i) m i
      · have ne : ¬ (m : Int) = i := by
          intro e
          rw [e] at y
          exact isBf_irr y
        rw [if_pos ⟨ne, tb.trans z, y⟩, if_pos ⟨tp.trans z, iff.mp y⟩]
      · rw [if_neg (fun x => y x.2.2), if_neg (fun x => y (iff.mpr x.2))]
    · rw [if_neg (fun x => z (tb.symm.trans x.2.1)), if_neg (fun x => z (tp.symm.trans x.1))]
theorem st_close {r : Int} (H : Sim c Q S P B s) (hc : c ≤ 600) (M : MClose s r s2) :
    (¬ (B.2.2.2.1 = 1 ∧ B.2.2.2.2 ≤ 0) → s2 39 0 = 1 ∧ Sim (c + 1) Q S P B s2) ∧
    ((B.2.2.2.1 = 1 ∧ B.2.2.2.2 ≤ 0) → s2 39 0 = 0 ∧ r = rk1 (clK B.2.2.1 B.1 B.1) B.1 B.1 ∧ Sim (c + 1) Q S P (B.1, B.2.1, rkK (clK B.2.2.1 B.1 B.1) B.1 B.1, 0, B.2.2.2.2) s2) := by
  obtain ⟨V, t, u, d, ⟨⟨e1, e2⟩, e3, e4, e5, ⟨e6, e7⟩, e8, e9⟩⟩ := id H
  have heq : (s 36 0 = 1 ∧ mMis s ≤ 0) ↔ (B.2.2.2.1 = 1 ∧ B.2.2.2.2 ≤ 0) := by
    rw [e6]
    constructor
    · rintro ⟨x1, x2⟩
      exact ⟨x1, by rw [(e8 x1).1]; exact x2⟩
    · rintro ⟨x1, x2⟩
      exact ⟨x1, by rw [← (e8 x1).1]; exact x2⟩
  unfold MClose at M
  rw [heq] at M
  rcases M with ⟨m1, m2, rfl⟩ | ⟨m1, s0, hs0, m2, hs2⟩
  · exact ⟨fun _ => ⟨rfl, Sim_th H (by omega)⟩, fun z => absurd z m1⟩
  · refine ⟨fun z => absurd m1 z, fun _ => ?_⟩
    have o0 : SimO B s0 := by rw [hs0]; exact SimO_cong rfl rfl rfl (e8 m1.1)
    have V0 : VM s0 := by rw [hs0]; exact VM_th V 0 (by omega)
    have z29 : s0 29 0 = B.1 := by rw [hs0]; exact e1
    have z31 : s0 31 = s 31 := by rw [hs0]; rfl
    have z34 : s0 34 = s 34 := by rw [hs0]; rfl
    have z30 : s0 30 = s 30 := by rw [hs0]; rfl
    have hT : ((s 29 0)).toNat = B.1 := by rw [e1]; rfl
    rw [hT] at m2 hs2
    have rk : ∀ k : Nat, k < B.1 → bTp (B.2.2.1 k) = 1 → mRk s0 k = 1 + xAh (clK B.2.2.1 B.1 B.1) k B.1 := by
      intro k hk htk
      unfold mRk
      rw [z29, show ((B.1 : Int)).toNat = B.1 from rfl, ah_eq z29 o0 hk htk B.1 (Nat.le_refl _)]
    have su : ∀ k : Nat, k < B.1 → bTp (B.2.2.1 k) = 1 → mSumO s0 k = plS B.2.2.1 B.1 k 4 := by
      intro k hk htk
      have pl : ∀ j : Int, 0 ≤ j → j ≤ 3 → mPlc s0 j k = 1 + xPc B.2.2.1 k j B.1 := by
        intro j h0 h1
        unfold mPlc
        rw [z29, show ((B.1 : Int)).toNat = B.1 from rfl, plc_eq o0 hk htk h0 h1 B.1 (Nat.le_refl _)]
      unfold mSumO
      rw [pl 0 (by omega) (by omega), pl 1 (by omega) (by omega), pl 2 (by omega) (by omega), pl 3 (by omega) (by omega), plS_4]
      omega
    have first : ∀ k : Nat, k ≤ B.1 → cl1 s0 k = rk1 (clK B.2.2.1 B.1 B.1) B.1 k := by
      intro k
      induction k with
      | zero => intro _; rfl
      | succ k ih =>
        intro hk
        show (if mTb s0 k = 1 ∧ mRk s0 k = 1 then (k : Int) else cl1 s0 k) = if bTp (clK B.2.2.1 B.1 B.1 k) = 1 ∧ 1 + xAh (clK B.2.2.1 B.1 B.1) k B.1 = 1 then (k : Int) else rk1 (clK B.2.2.1 B.1 B.1) B.1 k
        rw [ih (by omega), (o0.2.1 k (by omega)).1, (clK_same (bf := B.2.2.1) (n := B.1) B.1 k).1]
        by_cases z : bTp (B.2.2.1 k) = 1
        · rw [rk k (by omega) z]
        · rw [if_neg (fun x => z x.1), if_neg (fun x => z x.1)]
    have p31 : ∀ i, 0 ≤ s0 31 i ∧ s0 31 i ≤ 10000 := fun i => by
      rw [z31]
      have h1 := V.at 31 i rfl
      have h2 := (e5 i).1
      exact ⟨h1.1, by omega⟩
    have p34 : ∀ i, 0 ≤ s0 34 i ∧ s0 34 i ≤ 10000 := fun i => by
      rw [z34]
      have h1 := V.at 34 i rfl
      have h2 := (e5 i).2
      exact ⟨h1.1, by omega⟩
    have ehs : ∀ k, k ≠ 32 → k ≠ 33 → k ≠ 31 → k ≠ 34 → k ≠ 36 → k ≠ 39 → s2 k = s k := fun k c1 c2 c3 c4 c5 c6 => by
      rw [hs2, moS_ne c5]
      unfold moS4
      rw [moS_ne c4, moS_ne c3, moS_ne c2, moS_ne c1, hs0, moS_ne c6]
    have h32 : s2 32 = clR s0 B.1 := by rw [hs2]; rfl
    have h33 : s2 33 = clT s0 B.1 := by rw [hs2]; rfl
    have h31 : s2 31 = clP s0 B.1 := by rw [hs2]; rfl
    have h34 : s2 34 = clF s0 B.1 := by rw [hs2]; rfl
    have h36 : s2 36 0 = 0 := by rw [hs2]; rfl
    have h39 : s2 39 0 = 0 := by
      rw [hs2]
      show s0 39 0 = 0
      rw [hs0]
      rfl
    refine ⟨h39, by rw [m2]; exact first B.1 (Nat.le_refl _), ?_, ?_, ?_, ?_, ?_⟩
    · rw [hs2]
      refine (VM4 V0 (clR_bd V0 B.1) (clT_bd V0 B.1) (fun i => ?_) (fun i => ?_)).set (j := 36) rfl (fun _ => ⟨by omega, by omega⟩)
      · have := clP_bd p31 B.1 i
        omega
      · have := clF_bd p34 B.1 i
        omega
    · exact SimT_cong (fun k h1 => ehs k (by omega) (by omega) (by omega) (by omega) (by omega) (by omega)) t
    · exact SimS_cong (fun k h1 h2 => ehs k (by omega) (by omega) (by omega) (by omega) (by omega) (by omega)) u
    · exact SimP_cong (fun k h1 h2 => ehs k (by omega) (by omega) (by omega) (by omega) (by omega) (by omega)) d
    · have okc : ∀ i, i < B.1 → baOk (clK B.2.2.1 B.1 B.1 i) ∧ bPo (clK B.2.2.1 B.1 B.1 i) ≤ 90000 ∧ bFi (clK B.2.2.1 B.1 B.1 i) ≤ 90000 := by
        intro i hi
        obtain ⟨q1, q2, q3, q4, q5, q6⟩ := clK_same (bf := B.2.2.1) (n := B.1) B.1 i
        obtain ⟨y1, y2, y3, y4, y5, y6, y7⟩ := e3 i hi
        obtain ⟨f1, f2⟩ := e5 i
        refine ⟨clK_ok (fun k hk => (e3 k hk).1) e2 B.1 (Nat.le_refl _) i hi, ?_, ?_⟩
        · rw [q5, ← y4]; omega
        · rw [q6, ← y7]; omega
      refine ⟨⟨by rw [ehs 29 (by omega) (by omega) (by omega) (by omega) (by omega) (by omega)]; exact e1, e2⟩, fun i hi => ⟨rkK_ok okc e2 B.1 (Nat.le_refl _) i hi, ?_⟩, fun i h1 h2 => ?_, fun i => ?_, ⟨h36, Or.inl rfl⟩, fun z => ?_, e9⟩
      · show BS s2 i (rkK (clK B.2.2.1 B.1 B.1) B.1 B.1 i)
        have hi2 : i < B.1 := hi
        obtain ⟨y1, y2, y3, y4, y5, y6, y7⟩ := e3 i hi2
        have tb := (o0.2.1 i hi2).1
        have cr := clR_at (s := s0) B.1 i hi2
        have ct := clT_at (s := s0) B.1 i hi2
        have cp := (clP_at (s := s0) B.1).1 i hi2
        have cf := (clF_at (s := s0) B.1).1 i hi2
        have tp := (clK_same (bf := B.2.2.1) (n := B.1) B.1 i).1
        unfold BS
        rw [ehs 30 (by omega) (by omega) (by omega) (by omega) (by omega) (by omega), h31, h32, h33, h34, cr, ct, cp, cf, rkK_lt B.1 i hi2, tp, tb, z31, z34]
        by_cases z : bTp (B.2.2.1 i) = 1
        · rw [if_pos z, if_pos z, if_pos z, if_pos z, if_pos z, clK_lt B.1 i hi2, if_pos z, rk i hi2 z, su i hi2 z, y2, y4, y7]
          refine ⟨rfl, y3, rfl, rfl, rfl, ?_⟩
          show bFi (B.2.2.1 i) + _ = if 1 + xAh (clK B.2.2.1 B.1 B.1) i B.1 = 1 then bFi (B.2.2.1 i) + 1 else bFi (B.2.2.1 i)
          by_cases z2 : 1 + xAh (clK B.2.2.1 B.1 B.1) i B.1 = 1
          · rw [if_pos z2, if_pos z2]
          · rw [if_neg z2, if_neg z2]
            omega
        · rw [if_neg z, if_neg z, if_neg z, if_neg z, if_neg z, clK_lt B.1 i hi2, if_neg z]
          exact ⟨y2, y3, y4, rfl, rfl, y7⟩
      · have h3 : B.1 ≤ i := h1
        rw [h31, h34, (clP_at (s := s0) B.1).2 i (by omega), (clF_at (s := s0) B.1).2 i (by omega), z31, z34]
        exact e4 i h3 h2
      · rw [h31, h34]
        obtain ⟨f1, f2⟩ := e5 i
        by_cases q : i < 0 ∨ (B.1 : Int) ≤ i
        · rw [(clP_at (s := s0) B.1).2 i q, (clF_at (s := s0) B.1).2 i q, z31, z34]
          omega
        · obtain ⟨k, rfl⟩ := nat_of (show 0 ≤ i by omega)
          rw [(clP_at (s := s0) B.1).1 k (by omega), (clF_at (s := s0) B.1).1 k (by omega), z31, z34]
          have := ptOf_bd (mRk s0 k)
          by_cases z : mTb s0 k = 1
          · rw [if_pos z, if_pos z]
            refine ⟨by omega, ?_⟩
            split <;> omega
          · rw [if_neg z, if_neg z]
            omega
      · have z2 : (0 : Int) = 1 := z
        omega
end SC
