/-! steps side by side: bands, contests -/
theorem usum_add {f : Int → Int} (a : Nat) : ∀ b : Nat, usum f (a + b) = usum f a + usum (fun k => f ((a : Int) + k)) b
  | 0 => by
    show usum f a = usum f a + 0
    omega
  | b + 1 => by
    show usum f (a + b) + f ((a + b : Nat) : Int) = usum f a + (usum (fun k => f ((a : Int) + k)) b + f ((a : Int) + b))
    rw [usum_add a b, show (((a + b : Nat) : Int)) = (a : Int) + b by omega]
    omega
theorem usum_zero {f : Int → Int} : ∀ {n : Nat}, (∀ i : Int, 0 ≤ i → i < n → f i = 0) → usum f n = 0
  | 0, _ => rfl
  | n + 1, h => by
    show usum f n + f n = 0
    rw [usum_zero (n := n) (fun i h0 h1 => h i h0 (by omega)), h n (by omega) (by omega)]
    rfl
/-- one place less -/
theorem usum_less {f g : Int → Int} {z : Int} (hz : 0 ≤ z) (h : ∀ i, i ≠ z → g i = f i) (h1 : g z = f z - 1) : ∀ n : Nat, z < n → usum g n = usum f n - 1
  | 0, hn => by omega
  | n + 1, hn => by
    show usum g n + g n = usum f n + f n - 1
    by_cases q : z = (n : Int)
    · rw [← q, h1, usum_congr (f := g) (g := f) (n := n) (fun i _ h3 => h i (by omega))]
      omega
    · rw [usum_less hz h h1 n (by omega), h n (by omega)]
      omega
def blk (s : MS) (j : Int) : Int := usum (fun i => if mTb s i = 1 ∧ s 38 (8 * j + i) = -1 then 1 else 0) 8
theorem mMis_blk (s : MS) : mMis s = blk s 0 + blk s 1 + blk s 2 + blk s 3 := by
  have e : ∀ (a : Nat) (j : Int), (a : Int) = 8 * j → usum (fun k => (fun k => if mTb s (k % 8) = 1 ∧ s 38 k = -1 then (1 : Int) else 0) ((a : Int) + k)) 8 = blk s j := by
    intro a j ha
    refine usum_congr (fun i h0 h1 => ?_)
    dsimp only
    rw [ha, show (8 * j + i) % 8 = i by omega]
  have h1 := usum_add (f := fun k => if mTb s (k % 8) = 1 ∧ s 38 k = -1 then (1 : Int) else 0) 24 8
  have h2 := usum_add (f := fun k => if mTb s (k % 8) = 1 ∧ s 38 k = -1 then (1 : Int) else 0) 16 8
  have h3 := usum_add (f := fun k => if mTb s (k % 8) = 1 ∧ s 38 k = -1 then (1 : Int) else 0) 8 8
  have h4 := usum_add (f := fun k => if mTb s (k % 8) = 1 ∧ s 38 k = -1 then (1 : Int) else 0) 0 8
  rw [e 24 3 (by omega)] at h1
  rw [e 16 2 (by omega)] at h2
  rw [e 8 1 (by omega)] at h3
  rw [e 0 0 (by omega)] at h4
  have h5 : usum (fun k => if mTb s (k % 8) = 1 ∧ s 38 k = -1 then (1 : Int) else 0) 0 = 0 := rfl
  show usum _ (24 + 8) = _
  rw [h1]
  show usum _ (16 + 8) + _ = _
  rw [h2]
  show usum _ (8 + 8) + _ + _ = _
  rw [h3]
  show usum _ (0 + 8) + _ + _ + _ = _
  rw [h4, h5]
  omega
section SBn
variable {c : Nat} {Q : XTs} {S : XSs} {P : XPs} {B : XBs} {s s2 : MS}
theorem og_eq {n : Nat} {bf : Nat → BaS} {g : Int} (h : ∀ k : Nat, k < n → s 30 k = bGr (bf k)) : ∀ k : Nat, k ≤ n → mOg s g k = cOg bf g k
  | 0, _ => rfl
  | k + 1, hk => by
    show mOg s g k + (if s 30 (k : Int) = g then 1 else 0) = cOg bf g k + if bGr (bf k) = g then 1 else 0
    rw [og_eq h k (by omega), h k (by omega)]
theorem SimB.og (H : SimB c B s) (g : Int) : mOg s g (s 29 0).toNat = cOg B.2.2.1 g B.1 := by
  rw [H.1.1, show ((B.1 : Int)).toNat = B.1 from rfl]
  exact og_eq (fun k hk => (H.2.1 k hk).2.1) B.1 (Nat.le_refl _)
theorem st_band {g r : Int} (H : Sim c Q S P B s) (M : MBand s g r s2) :
    (¬ (1 ≤ g ∧ g ≤ 5) → s2 39 0 = 1 ∧ Sim (c + 1) Q S P B s2) ∧ ((1 ≤ g ∧ g ≤ 5) ∧ ¬ B.1 < 8 → s2 39 0 = 2 ∧ Sim (c + 1) Q S P B s2) ∧
    ((1 ≤ g ∧ g ≤ 5) ∧ B.1 < 8 → s2 39 0 = 0 ∧ r = (B.1 : Int) ∧ Sim (c + 1) Q S P (B.1 + 1, B.2.1 + 1, tset B.2.2.1 B.1 (g, g, 0, -1, -1, 0, 0, (fun _ => 0), (fun _ => 0)), B.2.2.2) s2) := by
  obtain ⟨V, t, u, d, ⟨⟨e1, e2⟩, e3, e4, e5, ⟨e6, e7⟩, e8, e9⟩⟩ := id H
  unfold MBand at M
  rw [e1] at M
  rcases M with ⟨m1, m2, rfl⟩ | ⟨m1, m0, m2, rfl⟩ | ⟨m1, m0, m2, rfl⟩
  · exact ⟨fun _ => ⟨rfl, Sim_th H (by omega)⟩, fun z => absurd z.1 m1, fun z => absurd z.1 m1⟩
  · exact ⟨fun z => absurd m1 z, fun _ => ⟨rfl, Sim_th H (by omega)⟩, fun z => by omega⟩
  · refine ⟨fun z => absurd m1 z, fun z => by omega, fun hz => ⟨rfl, m2, ?_, ?_, ?_, ?_, ?_⟩⟩
    · have x1 := (VM_th V 0 (by omega)).set (j := 30) (f := gupd (s 30) (B.1 : Int) g) rfl (gupd_bd (fun i => V.at 30 i rfl) ⟨by omega, by omega⟩)
      have x2 := x1.set (j := 32) (f := gupd (s 32) (B.1 : Int) (-1)) rfl (gupd_bd (fun i => V.at 32 i rfl) ⟨by omega, by omega⟩)
      have x3 := x2.set (j := 33) (f := gupd (s 33) (B.1 : Int) (-1)) rfl (gupd_bd (fun i => V.at 33 i rfl) ⟨by omega, by omega⟩)
      exact x3.set (j := 29) rfl (fun _ => ⟨by omega, by omega⟩)
    · exact SimT_cong (fun k h1 => by rw [moS_ne (by omega), moS_ne (by omega), moS_ne (by omega), moS_ne (by omega), moS_ne (by omega)]) t
    · exact SimS_cong (fun k h1 h2 => by rw [moS_ne (by omega), moS_ne (by omega), moS_ne (by omega), moS_ne (by omega), moS_ne (by omega)]) u
    · exact SimP_cong (fun k h1 h2 => by rw [moS_ne (by omega), moS_ne (by omega), moS_ne (by omega), moS_ne (by omega), moS_ne (by omega)]) d
    · refine ⟨⟨rfl, by show B.1 + 1 ≤ 8; omega⟩, fun i hi => ?_, fun i h1 h2 => ?_, fun i => ?_, ⟨e6, e7⟩, fun z => ?_, e9⟩
      · show baOk (tset B.2.2.1 B.1 _ i) ∧ BS _ _ (tset B.2.2.1 B.1 _ i)
        have hi2 : i < B.1 + 1 := hi
        by_cases q : i = B.1
        · subst q
          rw [tset_eq]
          obtain ⟨z1, z2⟩ := e4 B.1 (Nat.le_refl _) hz.2
          refine ⟨⟨m1, m1, ⟨Int.le_refl _, by show (0 : Int) ≤ 100000; decide⟩, ⟨Int.le_refl _, by show (-1 : Int) ≤ 9; decide⟩, ⟨Int.le_refl _, by show (-1 : Int) ≤ 100; decide⟩, ⟨Int.le_refl _, by show (0 : Int) ≤ 100000; decide⟩, Or.inl rfl, fun _ _ _ => ⟨by show (-1 : Int) ≤ 0; decide, by show (0 : Int) ≤ 100; decide⟩, fun _ _ _ => ⟨Int.le_refl _, by show (0 : Int) ≤ 9; decide⟩⟩, ?_, rfl, z1, ?_, ?_, z2⟩
          · show gupd (s 30) (B.1 : Int) g B.1 = g
            exact gupd_eq
          · show gupd (s 32) (B.1 : Int) (-1) B.1 = -1
            exact gupd_eq
          · show gupd (s 33) (B.1 : Int) (-1) B.1 = -1
            exact gupd_eq
        · rw [tset_ne q]
          obtain ⟨y1, y2, y3, y4, y5, y6, y7⟩ := e3 i (by omega)
          refine ⟨y1, ?_, y3, y4, ?_, ?_, y7⟩
          · show gupd (s 30) (B.1 : Int) g i = _
            rw [gupd_ne (by omega)]; exact y2
          · show gupd (s 32) (B.1 : Int) (-1) i = _
            rw [gupd_ne (by omega)]; exact y5
          · show gupd (s 33) (B.1 : Int) (-1) i = _
            rw [gupd_ne (by omega)]; exact y6
      · have h3 : B.1 + 1 ≤ i := h1
        exact e4 i (by omega) h2
      · obtain ⟨y1, y2⟩ := e5 i
        have y3 : s 31 i ≤ 6 * ((c + 1 : Nat) : Int) := by omega
        have y4 : s 34 i ≤ ((c + 1 : Nat) : Int) := by omega
        exact ⟨y3, y4⟩
      · obtain ⟨w1, w2, w3⟩ := e8 z
        refine SimO_cong (s := s) rfl rfl rfl ⟨w1, fun i hi => ?_, fun i h1 h2 => ?_⟩
        · show mTb s i = bTp (tset B.2.2.1 B.1 _ i) ∧ (bTp (tset B.2.2.1 B.1 _ i) = 1 → ∀ j : Int, 0 ≤ j → j ≤ 3 → s 38 (8 * j + i) = bM (tset B.2.2.1 B.1 _ i) j)
          have hi2 : i < B.1 + 1 := hi
          by_cases q : i = B.1
          · subst q
            rw [tset_eq]
            refine ⟨w3 B.1 (Nat.le_refl _) hz.2, fun x => ?_⟩
            have x2 : (0 : Int) = 1 := x
            omega
          · rw [tset_ne q]
            exact w2 i (by omega)
        · have h3 : B.1 + 1 ≤ i := h1
          exact w3 i (by omega) h2
theorem st_ofBand {i : Nat} {w r : Int} (H : Sim c Q S P B s) (hi : i < B.1) (M : MOfBand s i w r s2) :
    (¬ (0 ≤ w ∧ w ≤ 4) → s2 39 0 = 2 ∧ Sim (c + 1) Q S P B s2) ∧
    ((0 ≤ w ∧ w ≤ 4) → s2 39 0 = 0 ∧ (r = if w = 0 then bGr (B.2.2.1 i) else if w = 1 then bPo (B.2.2.1 i) else if w = 2 then bRk (B.2.2.1 i) else if w = 3 then bSu (B.2.2.1 i) else bFi (B.2.2.1 i)) ∧ Sim (c + 1) Q S P B s2) := by
  obtain ⟨⟨e1, e2⟩, e3, -⟩ := H.2.2.2.2
  obtain ⟨y1, y2, y3, y4, y5, y6, y7⟩ := e3 i hi
  have hin : 0 ≤ (i : Int) ∧ (i : Int) < s 29 0 := by omega
  unfold MOfBand at M
  rcases M with ⟨m1, -⟩ | ⟨m0, m1, m2, rfl⟩ | ⟨m0, m1, m2, rfl⟩
  · exact absurd hin m1
  · exact ⟨fun _ => ⟨rfl, Sim_th H (by omega)⟩, fun z => absurd z m1⟩
  · refine ⟨fun z => absurd m1 z, fun _ => ⟨rfl, ?_, Sim_th H (by omega)⟩⟩
    rw [m2, y2, y4, y5, y6, y7]
theorem mTb_open {i : Int} (h : mTb s i = 1) : s 36 0 = 1 := by
  unfold mTb at h
  by_cases q : s 36 0 = 1
  · exact q
  · rw [if_neg q] at h
    omega
theorem st_mark {j m r : Int} {i : Nat} (H : Sim c Q S P B s) (hj : 0 ≤ j ∧ j ≤ 3) (hi : i < B.1) (M : MMark s j i m r s2) :
    (¬ (0 ≤ m ∧ m ≤ 100) → s2 39 0 = 2 ∧ Sim (c + 1) Q S P B s2) ∧
    ((0 ≤ m ∧ m ≤ 100) ∧ ¬ (B.2.2.2.1 = 1 ∧ bTp (B.2.2.1 i) = 1 ∧ bM (B.2.2.1 i) j = -1) → s2 39 0 = 3 ∧ Sim (c + 1) Q S P B s2) ∧
    ((0 ≤ m ∧ m ≤ 100) ∧ (B.2.2.2.1 = 1 ∧ bTp (B.2.2.1 i) = 1 ∧ bM (B.2.2.1 i) j = -1) → s2 39 0 = 0 ∧ r = B.2.2.2.2 - 1 ∧ Sim (c + 1) Q S P (B.1, B.2.1, tset B.2.2.1 i (bGr (B.2.2.1 i), bNg (B.2.2.1 i), bPo (B.2.2.1 i), bRk (B.2.2.1 i), bSu (B.2.2.1 i), bFi (B.2.2.1 i), bTp (B.2.2.1 i), gupd (bM (B.2.2.1 i)) j m, bP (B.2.2.1 i)), B.2.2.2.1, (B.2.2.2.2 - 1)) s2) := by
  obtain ⟨V, t, u, d, ⟨⟨e1, e2⟩, e3, e4, e5, ⟨e6, e7⟩, e8, e9⟩⟩ := id H
  have hin : (0 ≤ j ∧ j ≤ 3) ∧ (0 ≤ (i : Int) ∧ (i : Int) < s 29 0) := ⟨hj, by omega, by omega⟩
  have heq : (mTb s i = 1 ∧ s 38 (8 * j + i) = -1) ↔ (B.2.2.2.1 = 1 ∧ bTp (B.2.2.1 i) = 1 ∧ bM (B.2.2.1 i) j = -1) := by
    constructor
    · rintro ⟨x1, x2⟩
      have x3 := mTb_open x1
      rw [e6] at x3
      obtain ⟨w1, w2, w3⟩ := e8 x3
      obtain ⟨y1, y2⟩ := w2 i hi
      have y3 : bTp (B.2.2.1 i) = 1 := by rw [← y1]; exact x1
      exact ⟨x3, y3, by rw [← y2 y3 j hj.1 hj.2]; exact x2⟩
    · rintro ⟨x1, x2, x3⟩
      obtain ⟨w1, w2, w3⟩ := e8 x1
      obtain ⟨y1, y2⟩ := w2 i hi
      exact ⟨y1.trans x2, (y2 x2 j hj.1 hj.2).trans x3⟩
  unfold MMark at M
  rw [heq] at M
  rcases M with ⟨m1, -⟩ | ⟨m0, m1, m2, rfl⟩ | ⟨m0, m1, m3, m2, rfl⟩ | ⟨m0, m1, m3, m2, rfl⟩
  · exact absurd hin m1
  · exact ⟨fun _ => ⟨rfl, Sim_th H (by omega)⟩, fun z => absurd z.1 m1, fun z => absurd z.1 m1⟩
  · exact ⟨fun z => absurd m1 z, fun _ => ⟨rfl, Sim_th H (by omega)⟩, fun z => absurd z.2 m3⟩
  · obtain ⟨x1, x2⟩ := heq.mpr m3
    obtain ⟨w1, w2, w3⟩ := e8 m3.1
    have hmis : mMis (moS (moS s 39 (fun _ => 0)) 38 (gupd (s 38) (8 * j + i) m)) = B.2.2.2.2 - 1 := by
      rw [w1]
      refine usum_less (z := 8 * j + i) (by omega) (fun k hk => ?_) ?_ 32 (by omega)
      · show (if mTb s (k % 8) = 1 ∧ gupd (s 38) (8 * j + i) m k = -1 then (1 : Int) else 0) = if mTb s (k % 8) = 1 ∧ s 38 k = -1 then 1 else 0
        rw [gupd_ne hk]
      · show (if mTb s ((8 * j + i) % 8) = 1 ∧ gupd (s 38) (8 * j + i) m (8 * j + i) = -1 then (1 : Int) else 0) = (if mTb s ((8 * j + i) % 8) = 1 ∧ s 38 (8 * j + i) = -1 then 1 else 0) - 1
        rw [gupd_eq, show (8 * j + (i : Int)) % 8 = i by omega, if_neg (fun z => by omega), if_pos ⟨x1, x2⟩]
        rfl
    have mb := mMis_bd s
    refine ⟨fun z => absurd m1 z, fun z => absurd m3 z.2, fun _ => ⟨rfl, by rw [m2, hmis], ?_, ?_, ?_, ?_, ?_⟩⟩
    · exact (VM_th V 0 (by omega)).set (j := 38) rfl (gupd_bd (fun i => V.at 38 i rfl) ⟨by omega, by omega⟩)
    · exact SimT_cong (fun k h1 => by rw [moS_ne (by omega), moS_ne (by omega)]) t
    · exact SimS_cong (fun k h1 h2 => by rw [moS_ne (by omega), moS_ne (by omega)]) u
    · exact SimP_cong (fun k h1 h2 => by rw [moS_ne (by omega), moS_ne (by omega)]) d
    · refine ⟨⟨e1, e2⟩, fun k hk => ?_, e4, fun k => ?_, ⟨e6, e7⟩, fun _ => ⟨hmis.symm, fun k hk => ?_, fun k h1 h2 => ?_⟩, by show -1000 ≤ B.2.2.2.2 - 1; omega, by show B.2.2.2.2 - 1 ≤ 1000; omega⟩
      · show baOk (tset B.2.2.1 i _ k) ∧ BS _ _ (tset B.2.2.1 i _ k)
        by_cases q : k = i
        · subst q
          rw [tset_eq]
          obtain ⟨⟨o1, o2, o3, o4, o5, o6, o7, o8, o9⟩, o10⟩ := e3 k hi
          refine ⟨⟨o1, o2, o3, o4, o5, o6, o7, fun z h0 h1 => ?_, o9⟩, o10⟩
          show -1 ≤ gupd (bM (B.2.2.1 k)) j m z ∧ gupd (bM (B.2.2.1 k)) j m z ≤ 100
          by_cases z2 : z = j
          · rw [z2, gupd_eq]; omega
          · rw [gupd_ne z2]; exact o8 z h0 h1
        · rw [tset_ne q]
          exact e3 k hk
      · obtain ⟨y1, y2⟩ := e5 k
        have y3 : s 31 k ≤ 6 * ((c + 1 : Nat) : Int) := by omega
        have y4 : s 34 k ≤ ((c + 1 : Nat) : Int) := by omega
        exact ⟨y3, y4⟩
      · show mTb s k = bTp (tset B.2.2.1 i _ k) ∧ (bTp (tset B.2.2.1 i _ k) = 1 → ∀ j2 : Int, 0 ≤ j2 → j2 ≤ 3 → gupd (s 38) (8 * j + i) m (8 * j2 + k) = bM (tset B.2.2.1 i _ k) j2)
        have hk2 : k < B.1 := hk
        by_cases q : k = i
        · subst q
          rw [tset_eq]
          refine ⟨(w2 k hi).1, fun x j2 h0 h1 => ?_⟩
          show _ = gupd (bM (B.2.2.1 k)) j m j2
          by_cases z2 : j2 = j
          · rw [z2, gupd_eq, gupd_eq]
          · rw [gupd_ne (show 8 * j2 + (k : Int) ≠ 8 * j + (k : Int) by omega), gupd_ne z2]
            exact (w2 k hi).2 x j2 h0 h1
        · rw [tset_ne q]
          refine ⟨(w2 k hk2).1, fun x j2 h0 h1 => ?_⟩
          rw [gupd_ne (show 8 * j2 + (k : Int) ≠ 8 * j + (i : Int) by omega)]
          exact (w2 k hk2).2 x j2 h0 h1
      · show mTb s k = 0
        exact w3 k h1 h2
theorem pk_bit (s : MS) (g : Int) : ∀ (n i : Nat), pkS s g n / 2 ^ i % 2 = if i < n then (if s 30 i = g then 1 else 0) else 0
  | 0, i => by
    show 0 / 2 ^ i % 2 = _
    rw [Nat.zero_div, if_neg (Nat.not_lt_zero i)]
  | n + 1, i => by
    have ih := pk_bit s g n i
    have hl := pkS_lt s g n
    have e : pkS s g (n + 1) = pkS s g n + if s 30 (n : Int) = g then 2 ^ n else 0 := rfl
    by_cases q : i < n
    · rw [if_pos q] at ih
      rw [if_pos (by omega), ← ih, e]
      by_cases z : s 30 (n : Int) = g
      · rw [if_pos z]
        obtain ⟨d, hd⟩ : ∃ d, n = i + 1 + d := ⟨n - i - 1, by omega⟩
        have hp : 2 ^ n = 2 ^ i * (2 * 2 ^ d) := by
          rw [hd, Nat.pow_add, Nat.pow_succ, Nat.mul_assoc]
        rw [hp, Nat.add_mul_div_left _ _ (Nat.two_pow_pos i), Nat.add_mul_mod_self_left]
      · rw [if_neg z, Nat.add_zero]
    · by_cases q2 : i = n
      · subst q2
        rw [if_pos (by omega), e]
        by_cases z : s 30 (i : Int) = g
        · rw [if_pos z, if_pos z, show pkS s g i + 2 ^ i = pkS s g i + 2 ^ i * 1 by omega, Nat.add_mul_div_left _ _ (Nat.two_pow_pos i), Nat.div_eq_of_lt hl]
        · rw [if_neg z, if_neg z, Nat.add_zero, Nat.div_eq_of_lt hl]
      · rw [if_neg (by omega), e]
        have h2 : 2 ^ (n + 1) ≤ 2 ^ i := Nat.pow_le_pow_right (n := 2) (by omega) (by omega)
        rw [Nat.pow_succ] at h2
        have h3 : (pkS s g n + if s 30 (n : Int) = g then 2 ^ n else 0) < 2 ^ i := by
          split <;> omega
        rw [Nat.div_eq_of_lt h3]
theorem st_contest {g r : Int} (H : Sim c Q S P B s) (M : MContest s g r s2) :
    (¬ (1 ≤ g ∧ g ≤ 5) → s2 39 0 = 1 ∧ Sim (c + 1) Q S P B s2) ∧ ((1 ≤ g ∧ g ≤ 5) ∧ (B.2.2.2.1 = 1 ∨ cOg B.2.2.1 g B.1 < 2) → s2 39 0 = 2 ∧ Sim (c + 1) Q S P B s2) ∧
    ((1 ≤ g ∧ g ≤ 5) ∧ ¬ (B.2.2.2.1 = 1 ∨ cOg B.2.2.1 g B.1 < 2) → s2 39 0 = 0 ∧ r = cOg B.2.2.1 g B.1 ∧ ∀ bf : Nat → BaS, (∀ j, j < B.1 → ctUp (B.2.2.1 j) (bf j) g) → Sim (c + 1) Q S P (B.1, B.2.1, bf, 1, cOg B.2.2.1 g B.1 * 4) s2) := by
  have ho := H.2.2.2.2.og g
  obtain ⟨V, t, u, d, ⟨⟨e1, e2⟩, e3, e4, e5, ⟨e6, e7⟩, e8, e9⟩⟩ := id H
  unfold MContest at M
  rw [ho, e6] at M
  rcases M with ⟨m1, m2, rfl⟩ | ⟨m1, m0, m2, rfl⟩ | ⟨m1, m0, m2, f, f1, f2, rfl⟩
  · exact ⟨fun _ => ⟨rfl, Sim_th H (by omega)⟩, fun z => absurd z.1 m1, fun z => absurd z.1 m1⟩
  · exact ⟨fun z => absurd m1 z, fun _ => ⟨rfl, Sim_th H (by omega)⟩, fun z => absurd m0 z.2⟩
  · refine ⟨fun z => absurd m1 z, fun z => absurd z.2 m0, fun _ => ⟨rfl, m2, fun bf hbf => ?_⟩⟩
    have hpl := pkS_lt s g B.1
    have hp8 := pow_le8 e2
    rw [e1, show ((B.1 : Int)).toNat = B.1 from rfl]
    generalize hs2 : moS (moS (moS (moS s 39 (fun _ => 0)) 36 (fun _ => 1)) 37 (fun _ => (pkS s g B.1 : Int))) 38 f = s2
    have er : ∀ k, k ≠ 39 → k ≠ 36 → k ≠ 37 → k ≠ 38 → s2 k = s k := fun k c1 c2 c3 c4 => by
      rw [← hs2, moS_ne c4, moS_ne c3, moS_ne c2, moS_ne c1]
    have e36 : s2 36 0 = 1 := by rw [← hs2]; rfl
    have e37 : s2 37 0 = (pkS s g B.1 : Int) := by rw [← hs2]; rfl
    have e38 : s2 38 = f := by rw [← hs2]; rfl
    have tb : ∀ i : Nat, mTb s2 i = if i < B.1 then (if s 30 i = g then 1 else 0) else 0 := by
      intro i
      unfold mTb
      rw [e36, if_pos rfl, e37, show ((pkS s g B.1 : Int)).toNat = pkS s g B.1 from rfl, show ((i : Int)).toNat = i from rfl, pk_bit]
      by_cases q : i < B.1
      · rw [if_pos q, if_pos q]
        by_cases z : s 30 i = g
        · rw [if_pos z, if_pos z]; rfl
        · rw [if_neg z, if_neg z]; rfl
      · rw [if_neg q, if_neg q]; rfl
    have cb := cOg_bd B.2.2.1 g B.1
    have bk : ∀ j : Int, 0 ≤ j → j ≤ 3 → blk s2 j = cOg B.2.2.1 g B.1 := by
      intro j h0 h1
      have h2 : blk s2 j = usum (fun i => if mTb s2 i = 1 then 1 else 0) 8 := usum_congr (fun i h3 h4 => by
        rw [e38, f1 (8 * j + i) (by omega) (by omega)]
        by_cases z : mTb s2 i = 1
        · rw [if_pos ⟨z, rfl⟩, if_pos z]
        · rw [if_neg (fun x => z x.1), if_neg z])
      rw [h2, show (8 : Nat) = B.1 + (8 - B.1) by omega, usum_add, ← ho, e1, show ((B.1 : Int)).toNat = B.1 from rfl, usum_zero (n := 8 - B.1) (fun i h3 h4 => ?_)]
      · rw [Int.add_zero]
        unfold mOg
        refine usum_congr (fun i h3 h4 => ?_)
        obtain ⟨k, rfl⟩ := nat_of h3
        rw [tb k, if_pos (show k < B.1 by omega)]
        by_cases z : s 30 k = g
        · rw [if_pos z, if_pos rfl]
        · rw [if_neg z, if_neg (show ¬ (0 : Int) = 1 by omega)]
      · obtain ⟨k, rfl⟩ := nat_of h3
        rw [show (B.1 : Int) + (k : Int) = ((B.1 + k : Nat) : Int) by omega, tb (B.1 + k), if_neg (show ¬ B.1 + k < B.1 by omega), if_neg (show ¬ (0 : Int) = 1 by omega)]
    refine ⟨?_, ?_, ?_, ?_, ?_⟩
    · rw [← hs2]
      have x1 := (VM_th V 0 (by omega)).set (j := 36) (f := fun _ => 1) rfl (fun _ => ⟨by omega, by omega⟩)
      have x2 := x1.set (j := 37) (f := fun _ => (pkS s g B.1 : Int)) rfl (fun _ => ⟨by omega, by omega⟩)
      exact x2.set (j := 38) rfl f2
    · exact SimT_cong (fun k h1 => er k (by omega) (by omega) (by omega) (by omega)) t
    · exact SimS_cong (fun k h1 h2 => er k (by omega) (by omega) (by omega) (by omega)) u
    · exact SimP_cong (fun k h1 h2 => er k (by omega) (by omega) (by omega) (by omega)) d
    · refine ⟨⟨by rw [er 29 (by omega) (by omega) (by omega) (by omega)]; exact e1, e2⟩, fun i hi => ?_, fun i h1 h2 => ?_, fun i => ?_, ⟨e36, Or.inr rfl⟩, fun _ => ⟨?_, fun i hi => ?_, fun i h1 h2 => ?_⟩, ?_, ?_⟩
      · show baOk (bf i) ∧ BS s2 i (bf i)
        obtain ⟨⟨o1, o2, o3, o4, o5, o6, o7, o8, o9⟩, p1, p2, p3, p4, p5, p6⟩ := e3 i hi
        obtain ⟨q1, q2, q3, q4, q5, q6, q7, q8, q9⟩ := hbf i hi
        refine ⟨⟨by rw [q1]; exact o1, by rw [q2]; exact o2, by rw [q3]; exact o3, by rw [q4]; exact o4, by rw [q5]; exact o5, by rw [q6]; exact o6, ?_, fun z h0 h1 => ?_, by rw [q7]; exact o9⟩, ?_⟩
        · rw [q8]
          split <;> omega
        · rw [q9 z h0 h1]
          omega
        · unfold BS
          rw [er 30 (by omega) (by omega) (by omega) (by omega), er 31 (by omega) (by omega) (by omega) (by omega), er 32 (by omega) (by omega) (by omega) (by omega), er 33 (by omega) (by omega) (by omega) (by omega), er 34 (by omega) (by omega) (by omega) (by omega), q1, q2, q3, q4, q5, q6]
          exact ⟨p1, p2, p3, p4, p5, p6⟩
      · rw [er 31 (by omega) (by omega) (by omega) (by omega), er 34 (by omega) (by omega) (by omega) (by omega)]
        exact e4 i h1 h2
      · rw [er 31 (by omega) (by omega) (by omega) (by omega), er 34 (by omega) (by omega) (by omega) (by omega)]
        have := e5 i
        omega
      · show cOg B.2.2.1 g B.1 * 4 = mMis s2
        rw [mMis_blk, bk 0 (by omega) (by omega), bk 1 (by omega) (by omega), bk 2 (by omega) (by omega), bk 3 (by omega) (by omega)]
        omega
      · show mTb s2 i = bTp (bf i) ∧ (bTp (bf i) = 1 → ∀ j : Int, 0 ≤ j → j ≤ 3 → s2 38 (8 * j + i) = bM (bf i) j)
        obtain ⟨q1, q2, q3, q4, q5, q6, q7, q8, q9⟩ := hbf i hi
        have hi2 : i < B.1 := hi
        refine ⟨?_, fun x j h0 h1 => ?_⟩
        · rw [tb i, if_pos hi2, q8, (e3 i hi2).2.1]
        · rw [e38, f1 _ (by omega) (by omega), q9 j h0 (by omega)]
      · rw [tb i, if_neg (by have h3 : B.1 ≤ i := h1; omega)]
      · show -1000 ≤ cOg B.2.2.1 g B.1 * 4
        omega
      · show cOg B.2.2.1 g B.1 * 4 ≤ 1000
        omega
end SBn
