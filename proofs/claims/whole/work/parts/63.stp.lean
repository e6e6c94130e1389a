/-! steps side by side: pipers -/
def srt (f : Int → Int) (n : Nat) : Prop := ∀ i j : Int, 0 ≤ i → i ≤ j → j < n → f i ≤ f j
theorem pins_srt {p : Int} : ∀ (c : Nat) (f : Int → Int), srt f c → srt (pins p c f) (c + 1) ∧ (pins p c f 0 = if c = 0 then p else (if p < f 0 then p else f 0)) ∧ (pins p c f c = if c = 0 then p else (if f ((c : Int) - 1) < p then p else f ((c : Int) - 1)))
  | 0, f, _ => by
    show srt (gupd f 0 p) 1 ∧ (gupd f 0 p 0 = _) ∧ (gupd f 0 p 0 = _)
    rw [gupd_eq]
    refine ⟨fun i j h0 h1 h2 => ?_, rfl, rfl⟩
    rw [show i = 0 by omega, show j = 0 by omega]
    exact Int.le_refl _
  | c + 1, f, h => by
    have hu : pins p (c + 1) f = if p < f c then pins p c (gupd f ((c : Int) + 1) (f c)) else gupd f ((c : Int) + 1) p := rfl
    rw [hu]
    have hc0 : f 0 ≤ f c := h 0 c (by omega) (by omega) (by omega)
    by_cases q : p < f c
    · rw [if_pos q]
      have hg : ∀ i : Int, i < (c : Int) + 1 → gupd f ((c : Int) + 1) (f c) i = f i := fun i hi => gupd_ne (by omega)
      obtain ⟨k1, k2, k3⟩ := pins_srt (p := p) c (gupd f ((c : Int) + 1) (f c)) (fun i j h0 h1 h2 => by rw [hg i (by omega), hg j (by omega)]; exact h i j h0 h1 (by omega))
      have hh : pins p c (gupd f ((c : Int) + 1) (f c)) ((c : Int) + 1) = f c := by
        rw [pins_hi c _ _ (by omega), gupd_eq]
      have hle : pins p c (gupd f ((c : Int) + 1) (f c)) c ≤ f c := by
        rw [k3]
        by_cases z : c = 0
        · rw [if_pos z]; omega
        · rw [if_neg z, hg _ (by omega)]
          have := h ((c : Int) - 1) c (by omega) (by omega) (by omega)
          split <;> omega
      refine ⟨fun i j h0 h1 h2 => ?_, ?_, ?_⟩
      · by_cases z : j = (c : Int) + 1
        · subst z
          rw [hh]
          by_cases z2 : i = (c : Int) + 1
          · rw [z2, hh]; exact Int.le_refl _
          · have := k1 i c h0 (by omega) (by omega)
            omega
        · exact k1 i j h0 h1 (by omega)
      · rw [k2, hg 0 (by omega)]
        by_cases z : c = 0
        · rw [if_pos z, if_neg (show ¬ c + 1 = 0 by omega), if_pos (show p < f 0 by subst z; exact q)]
        · rw [if_neg z, if_neg (show ¬ c + 1 = 0 by omega)]
      · rw [show (((c + 1 : Nat) : Int)) = (c : Int) + 1 by omega, hh, if_neg (by omega), show (c : Int) + 1 - 1 = c by omega, if_neg (by omega)]
    · rw [if_neg q]
      have hg : ∀ i : Int, i < (c : Int) + 1 → gupd f ((c : Int) + 1) p i = f i := fun i hi => gupd_ne (by omega)
      refine ⟨fun i j h0 h1 h2 => ?_, ?_, ?_⟩
      · by_cases z : j = (c : Int) + 1
        · subst z
          rw [gupd_eq]
          by_cases z2 : i = (c : Int) + 1
          · rw [z2, gupd_eq]; exact Int.le_refl _
          · rw [hg i (by omega)]
            have := h i c h0 (by omega) (by omega)
            omega
        · rw [hg i (by omega), hg j (by omega)]
          exact h i j h0 h1 (by omega)
      · rw [hg 0 (by omega), if_neg (by omega)]
        rw [if_neg (by omega)]
      · rw [show (((c + 1 : Nat) : Int)) = (c : Int) + 1 by omega, gupd_eq, if_neg (by omega), show (c : Int) + 1 - 1 = c by omega]
        split <;> omega
/-- the pipers of both sides have the same pitches, and rest alike -/
def BR (s : MS) (pf : Nat → PiS) (n : Nat) : Prop := ∀ k : Nat, k < n → mPit s k = pPit (pf k) ∧ s 24 k = pZ (pf k) ∧ (-400 ≤ pPit (pf k) ∧ pPit (pf k) ≤ 600)
theorem gat_ends {s : MS} {pf : Nat → PiS} {n : Nat} (h : BR s pf n) (w : Int) (f0 : Int → Int) : ∀ k : Nat, k ≤ n → srt (gatK pf f0 w k).2 (gatK pf f0 w k).1 ∧
    ((gatK pf f0 w k).1 = 0 → mLo s w k = 1000000 ∧ mHi s w k = -1000000) ∧ (0 < (gatK pf f0 w k).1 → mLo s w k = (gatK pf f0 w k).2 0 ∧ mHi s w k = (gatK pf f0 w k).2 (((gatK pf f0 w k).1 : Int) - 1) ∧ mLo s w k ≤ 600 ∧ -400 ≤ mHi s w k)
  | 0, _ => ⟨fun i j h0 h1 h2 => by
      have h3 : j < ((0 : Nat) : Int) := h2
      omega, fun _ => ⟨rfl, rfl⟩, fun z => absurd z (Nat.lt_irrefl 0)⟩
  | k + 1, hk => by
    obtain ⟨i1, i2, i3⟩ := gat_ends h w f0 k (by omega)
    obtain ⟨b1, b2, b3, b4⟩ := h k (by omega)
    have eg : gatK pf f0 w (k + 1) = if pZ (pf k) = 0 ∧ ¬ (k : Int) = w then ((gatK pf f0 w k).1 + 1, pins (pPit (pf k)) (gatK pf f0 w k).1 (gatK pf f0 w k).2) else gatK pf f0 w k := rfl
    have el : mLo s w (k + 1) = if s 24 k = 0 ∧ ¬ (k : Int) = w then (if mPit s k < mLo s w k then mPit s k else mLo s w k) else mLo s w k := rfl
    have eh : mHi s w (k + 1) = if s 24 k = 0 ∧ ¬ (k : Int) = w then (if mHi s w k < mPit s k then mPit s k else mHi s w k) else mHi s w k := rfl
    rw [eg, el, eh, b1, b2]
    by_cases q : pZ (pf k) = 0 ∧ ¬ (k : Int) = w
    · rw [if_pos q, if_pos q, if_pos q]
      obtain ⟨p1, p2, p3⟩ := pins_srt (p := pPit (pf k)) (gatK pf f0 w k).1 (gatK pf f0 w k).2 i1
      refine ⟨p1, fun z => absurd z (by show (gatK pf f0 w k).1 + 1 ≠ 0; omega), fun _ => ?_⟩
      show _ = pins (pPit (pf k)) (gatK pf f0 w k).1 (gatK pf f0 w k).2 0 ∧ _ = pins (pPit (pf k)) (gatK pf f0 w k).1 (gatK pf f0 w k).2 ((((gatK pf f0 w k).1 + 1 : Nat) : Int) - 1) ∧ _
      rw [show ((((gatK pf f0 w k).1 + 1 : Nat) : Int) - 1) = ((gatK pf f0 w k).1 : Int) by omega, p2, p3]
      by_cases z : (gatK pf f0 w k).1 = 0
      · obtain ⟨j1, j2⟩ := i2 z
        rw [if_pos z, if_pos z, j1, j2, if_pos (by omega), if_pos (by omega)]
        exact ⟨rfl, rfl, b4, b3⟩
      · obtain ⟨j1, j2, j3, j4⟩ := i3 (by omega)
        rw [if_neg z, if_neg z]
        rw [j1, j2] at *
        refine ⟨rfl, rfl, ?_, ?_⟩ <;> split <;> omega
    · rw [if_neg q, if_neg q, if_neg q]
      exact ⟨i1, i2, i3⟩
theorem spr_eq {s : MS} {pf : Nat → PiS} {n : Nat} (h : BR s pf n) (h17 : s 17 0 = n) (w : Int) : mSpr s w = gSp pf n w := by
  obtain ⟨i1, i2, i3⟩ := gat_ends h w (fun _ => 0) n (Nat.le_refl _)
  unfold mSpr gSp gCnt gRow
  rw [h17, show ((n : Int)).toNat = n from rfl]
  by_cases z : (gatK pf (fun _ => 0) w n).1 = 0
  · obtain ⟨j1, j2⟩ := i2 z
    rw [j1, j2, if_pos z, if_pos (by omega)]
  · obtain ⟨j1, j2, j3, j4⟩ := i3 (by omega)
    have := i1 0 (((gatK pf (fun _ => 0) w n).1 : Int) - 1) (by omega) (by omega) (by omega)
    rw [if_neg z, j1, j2, if_neg (by omega)]
theorem mid_eq {s : MS} {pf : Nat → PiS} {n : Nat} (h : BR s pf n) : ∀ k : Nat, k ≤ n → mMid s k = gatK pf (s 28) (-1) k
  | 0, _ => rfl
  | k + 1, hk => by
    obtain ⟨b1, b2, -⟩ := h k (by omega)
    show (if s 24 k = 0 then ((mMid s k).1 + 1, pins (mPit s k) (mMid s k).1 (mMid s k).2) else mMid s k) = if pZ (pf k) = 0 ∧ ¬ (k : Int) = -1 then ((gatK pf (s 28) (-1) k).1 + 1, pins (pPit (pf k)) (gatK pf (s 28) (-1) k).1 (gatK pf (s 28) (-1) k).2) else gatK pf (s 28) (-1) k
    rw [mid_eq h k (by omega), b1, b2]
    by_cases q : pZ (pf k) = 0
    · rw [if_pos q, if_pos ⟨q, by omega⟩]
    · rw [if_neg q, if_neg (fun z => q z.1)]
theorem odd_eq {s : MS} {pf : Nat → PiS} {n : Nat} (h : BR s pf n) (h17 : s 17 0 = n) : ∀ k : Nat, k ≤ n → mOdd s k = oddK pf n k
  | 0, _ => rfl
  | k + 1, hk => by
    obtain ⟨b1, b2, -⟩ := h k (by omega)
    show (if s 24 k = 0 ∧ ((mOdd s k).1 = -1 ∨ mSpr s k < (mOdd s k).2) then ((k : Int), mSpr s k) else mOdd s k) = if pZ (pf k) = 0 ∧ ((oddK pf n k).1 = -1 ∨ gSp pf n k < (oddK pf n k).2) then ((k : Int), gSp pf n k) else oddK pf n k
    rw [odd_eq h h17 k (by omega), spr_eq h h17, b2]
theorem pIt_s {f : Int × Int × Int → Int × Int × Int} : ∀ (m : Nat) (q : Int × Int × Int), pIt f (m + 1) q = f (pIt f m q)
  | 0, _ => rfl
  | m + 1, q => pIt_s m (f q)
theorem goK_at {s : MS} {rain heat : Int} : ∀ (k i : Nat), i < k → mGoK s rain heat k 18 i = (mQ s i rain heat).1 ∧ mGoK s rain heat k 22 i = (mQ s i rain heat).2.1 ∧ mGoK s rain heat k 23 i = (mQ s i rain heat).2.2
  | 0, i, h => absurd h (Nat.not_lt_zero i)
  | k + 1, i, h => by
    show mGo (mGoK s rain heat k) k rain heat 18 i = _ ∧ mGo (mGoK s rain heat k) k rain heat 22 i = _ ∧ mGo (mGoK s rain heat k) k rain heat 23 i = _
    by_cases q : i = k
    · subst q
      have e : mQ (mGoK s rain heat i) i rain heat = mQ s i rain heat := by
        unfold mQ
        rw [mGoK_ne (j := 20) rfl, mGoK_ne (j := 24) rfl, mGoK_out i (Or.inr (Int.le_refl _)), mGoK_out i (Or.inr (Int.le_refl _)), mGoK_out i (Or.inr (Int.le_refl _))]
      refine ⟨?_, ?_, ?_⟩
      · show gupd _ (i : Int) (mQ (mGoK s rain heat i) i rain heat).1 i = _
        rw [gupd_eq, e]
      · show gupd _ (i : Int) (mQ (mGoK s rain heat i) i rain heat).2.1 i = _
        rw [gupd_eq, e]
      · show gupd _ (i : Int) (mQ (mGoK s rain heat i) i rain heat).2.2 i = _
        rw [gupd_eq, e]
    · rw [mGo_out (by omega), mGo_out (by omega), mGo_out (by omega)]
      exact goK_at k i (by omega)
theorem goM_at {s : MS} {rain heat : Int} {n : Nat} (h17 : s 17 0 = n) {i : Nat} (hi : i < n) : ∀ m : Nat, (mGoM s rain heat m 18 i, mGoM s rain heat m 22 i, mGoM s rain heat m 23 i) = pIt (pStep (s 20 i) (s 24 i) rain heat) m (s 18 i, s 22 i, s 23 i)
  | 0 => rfl
  | m + 1 => by
    rw [pIt_s, ← goM_at h17 hi m, mGoM_s, h17, show ((n : Int)).toNat = n from rfl]
    obtain ⟨g1, g2, g3⟩ := goK_at (s := mGoM s rain heat m) (rain := rain) (heat := heat) n i hi
    rw [g1, g2, g3]
    unfold mQ
    rw [mGoM_ne (j := 20) rfl, mGoM_ne (j := 24) rfl]
theorem mP3_no {k : Nat} (h : k ≠ 18 ∧ k ≠ 22 ∧ k ≠ 23) : mP3 k = false := by
  unfold mP3
  cases e : [18, 22, 23].contains k with
  | false => rfl
  | true =>
    exfalso
    have h2 := List.contains_iff_mem.mp e
    simp at h2
    omega
section SP
variable {c : Nat} {Q : XTs} {S : XSs} {P : XPs} {B : XBs} {s s2 : MS}
theorem PS_pit {i : Nat} {p : PiS} (h : PS s i p) (hp : piOk p) : mPit s i = pPit p ∧ s 24 i = pZ p ∧ (-400 ≤ pPit p ∧ pPit p ≤ 600) := by
  refine ⟨?_, h.2.2.2.2.2.2, pPit_bd hp⟩
  obtain ⟨h1, h2, h3, h4, h5, h6, h7⟩ := h
  unfold mPit pPit
  rw [h1, h2, h4, h5, h6]
theorem SimP.br (H : SimP P s) : BR s P.2.2.1 P.1 := fun k hk => PS_pit (H.2.1 k hk).2 (H.2.1 k hk).1
theorem st_piper {a b e r : Int} (H : Sim c Q S P B s) (M : MPiper s a b e r s2) :
    (¬ ((-100 ≤ a ∧ a ≤ 100) ∧ (10 ≤ b ∧ b ≤ 40) ∧ (0 ≤ e ∧ e ≤ 9)) → s2 39 0 = 1 ∧ Sim (c + 1) Q S P B s2) ∧
    (((-100 ≤ a ∧ a ≤ 100) ∧ (10 ≤ b ∧ b ≤ 40) ∧ (0 ≤ e ∧ e ≤ 9)) ∧ ¬ P.1 < 8 → s2 39 0 = 2 ∧ Sim (c + 1) Q S P B s2) ∧
    (((-100 ≤ a ∧ a ≤ 100) ∧ (10 ≤ b ∧ b ≤ 40) ∧ (0 ≤ e ∧ e ≤ 9)) ∧ P.1 < 8 → s2 39 0 = 0 ∧ r = (P.1 : Int) ∧ Sim (c + 1) Q S (P.1 + 1, P.2.1 + 1, tset P.2.2.1 P.1 (a, b, e, 0, 0, 0, 0), P.2.2.2) B s2) := by
  obtain ⟨V, t, u, ⟨⟨d1, d2⟩, d3, d4, d5⟩, g⟩ := id H
  unfold MPiper at M
  rw [d1] at M
  rcases M with ⟨m1, m2, rfl⟩ | ⟨m1, m0, m2, rfl⟩ | ⟨m1, m0, m2, rfl⟩
  · exact ⟨fun _ => ⟨rfl, Sim_th H (by omega)⟩, fun z => absurd z.1 m1, fun z => absurd z.1 m1⟩
  · exact ⟨fun z => absurd m1 z, fun _ => ⟨rfl, Sim_th H (by omega)⟩, fun z => by omega⟩
  · refine ⟨fun z => absurd m1 z, fun z => by omega, fun hz => ⟨rfl, m2, ?_, ?_, ?_, ?_, ?_⟩⟩
    · have x1 := (VM_th V 0 (by omega)).set (j := 18) (f := gupd (s 18) (P.1 : Int) a) rfl (gupd_bd (fun i => V.at 18 i rfl) m1.1)
      have x2 := x1.set (j := 19) (f := gupd (s 19) (P.1 : Int) b) rfl (gupd_bd (fun i => V.at 19 i rfl) ⟨by omega, by omega⟩)
      have x3 := x2.set (j := 20) (f := gupd (s 20) (P.1 : Int) e) rfl (gupd_bd (fun i => V.at 20 i rfl) m1.2.2)
      exact x3.set (j := 17) rfl (fun _ => ⟨by omega, by omega⟩)
    · exact SimT_cong (fun k h1 => by rw [moS_ne (by omega), moS_ne (by omega), moS_ne (by omega), moS_ne (by omega), moS_ne (by omega)]) t
    · exact SimS_cong (fun k h1 h2 => by rw [moS_ne (by omega), moS_ne (by omega), moS_ne (by omega), moS_ne (by omega), moS_ne (by omega)]) u
    · refine ⟨⟨rfl, by show P.1 + 1 ≤ 8; omega⟩, fun i hi => ?_, fun i h1 h2 => ?_, d5⟩
      · show piOk (tset P.2.2.1 P.1 _ i) ∧ PS _ _ (tset P.2.2.1 P.1 _ i)
        have hi2 : i < P.1 + 1 := hi
        by_cases q : i = P.1
        · subst q
          rw [tset_eq]
          obtain ⟨z1, z2, z3, z4⟩ := d4 P.1 (Nat.le_refl _) hz.2
          refine ⟨⟨m1.1, m1.2.1, m1.2.2, ⟨by show (-100 : Int) ≤ 0; decide, by show (0 : Int) ≤ 100; decide⟩, ⟨Int.le_refl _, by show (0 : Int) ≤ 40; decide⟩, ⟨Int.le_refl _, by show (0 : Int) ≤ 100; decide⟩, Or.inl rfl⟩, ?_, ?_, ?_, z1, z2, z3, z4⟩
          · show gupd (s 18) (P.1 : Int) a P.1 = a
            exact gupd_eq
          · show gupd (s 19) (P.1 : Int) b P.1 = b
            exact gupd_eq
          · show gupd (s 20) (P.1 : Int) e P.1 = e
            exact gupd_eq
        · rw [tset_ne q]
          obtain ⟨y1, y2, y3, y4, y5⟩ := d3 i (by omega)
          refine ⟨y1, ?_, ?_, ?_, y5⟩
          · show gupd (s 18) (P.1 : Int) a i = _
            rw [gupd_ne (by omega)]; exact y2
          · show gupd (s 19) (P.1 : Int) b i = _
            rw [gupd_ne (by omega)]; exact y3
          · show gupd (s 20) (P.1 : Int) e i = _
            rw [gupd_ne (by omega)]; exact y4
      · have h3 : P.1 + 1 ≤ i := h1
        exact d4 i (by omega) h2
    · exact SimB_cong (fun k h1 h2 _ => by rw [moS_ne (by omega), moS_ne (by omega), moS_ne (by omega), moS_ne (by omega), moS_ne (by omega)]) g
theorem st_seat {i : Nat} {b r : Int} (H : Sim c Q S P B s) (hi : i < P.1) (M : MSeat s i b r s2) :
    (¬ ((-100 ≤ b ∧ b ≤ 100) ∧ (-100 ≤ pS (P.2.2.1 i) + b ∧ pS (P.2.2.1 i) + b ≤ 100)) → s2 39 0 = 2 ∧ Sim (c + 1) Q S P B s2) ∧
    (((-100 ≤ b ∧ b ≤ 100) ∧ (-100 ≤ pS (P.2.2.1 i) + b ∧ pS (P.2.2.1 i) + b ≤ 100)) → s2 39 0 = 0 ∧ r = pS (P.2.2.1 i) + b ∧ Sim (c + 1) Q S (P.1, P.2.1, tset P.2.2.1 i (pR (P.2.2.1 i), pP (P.2.2.1 i), pB (P.2.2.1 i), pS (P.2.2.1 i) + b, pW (P.2.2.1 i), pT (P.2.2.1 i), pZ (P.2.2.1 i)), P.2.2.2.1, P.2.2.2.2.1, P.2.2.2.2.2) B s2) := by
  obtain ⟨V, t, u, ⟨⟨d1, d2⟩, d3, d4, d5⟩, g⟩ := id H
  obtain ⟨y1, y2, y3, y4, y5, y6, y7, y8⟩ := d3 i hi
  have hin : 0 ≤ (i : Int) ∧ (i : Int) < s 17 0 := by omega
  unfold MSeat at M
  rw [y5] at M
  rcases M with ⟨m1, -⟩ | ⟨m0, m1, m2, rfl⟩ | ⟨m0, m1, m2, rfl⟩
  · exact absurd hin m1
  · exact ⟨fun _ => ⟨rfl, Sim_th H (by omega)⟩, fun z => absurd z m1⟩
  · refine ⟨fun z => absurd m1 z, fun hz => ⟨rfl, m2, ?_, ?_, ?_, ?_, ?_⟩⟩
    · exact (VM_th V 0 (by omega)).set (j := 21) rfl (gupd_bd (fun i => V.at 21 i rfl) m1.2)
    · exact SimT_cong (fun k h1 => by rw [moS_ne (by omega), moS_ne (by omega)]) t
    · exact SimS_cong (fun k h1 h2 => by rw [moS_ne (by omega), moS_ne (by omega)]) u
    · refine ⟨⟨d1, d2⟩, fun j hj => ?_, fun j h1 h2 => ?_, d5⟩
      · show piOk (tset P.2.2.1 i _ j) ∧ PS _ _ (tset P.2.2.1 i _ j)
        by_cases q : j = i
        · subst q
          rw [tset_eq]
          obtain ⟨o1, o2, o3, o4, o5⟩ := y1
          exact ⟨⟨o1, o2, o3, m1.2, o5⟩, y2, y3, y4, gupd_eq, y6, y7, y8⟩
        · rw [tset_ne q]
          obtain ⟨z1, z2, z3, z4, z5, z6⟩ := d3 j hj
          exact ⟨z1, z2, z3, z4, (gupd_ne (by omega)).trans z5, z6⟩
      · obtain ⟨w1, w2⟩ := d4 j h1 h2
        have h3 : P.1 ≤ j := h1
        exact ⟨(gupd_ne (by omega)).trans w1, w2⟩
    · exact SimB_cong (fun k h1 h2 _ => by rw [moS_ne (by omega), moS_ne (by omega)]) g
theorem st_rest {i : Nat} {b r : Int} (H : Sim c Q S P B s) (hi : i < P.1) (hb : b = 0 ∨ b = 1) (M : MRest s i b r s2) :
    s2 39 0 = 0 ∧ r = pZ (P.2.2.1 i) ∧ Sim (c + 1) Q S (P.1, P.2.1, tset P.2.2.1 i (pR (P.2.2.1 i), pP (P.2.2.1 i), pB (P.2.2.1 i), pS (P.2.2.1 i), pW (P.2.2.1 i), pT (P.2.2.1 i), b), P.2.2.2.1, P.2.2.2.2.1, P.2.2.2.2.2) B s2 := by
  obtain ⟨V, t, u, ⟨⟨d1, d2⟩, d3, d4, d5⟩, g⟩ := id H
  obtain ⟨y1, y2, y3, y4, y5, y6, y7, y8⟩ := d3 i hi
  have hin : 0 ≤ (i : Int) ∧ (i : Int) < s 17 0 := by omega
  unfold MRest at M
  rcases M with ⟨m1, -⟩ | ⟨m0, m2, rfl⟩
  · exact absurd hin m1
  · refine ⟨rfl, m2.trans y8, ?_, ?_, ?_, ?_, ?_⟩
    · exact (VM_th V 0 (by omega)).set (j := 24) rfl (gupd_bd (fun i => V.at 24 i rfl) ⟨by omega, by omega⟩)
    · exact SimT_cong (fun k h1 => by rw [moS_ne (by omega), moS_ne (by omega)]) t
    · exact SimS_cong (fun k h1 h2 => by rw [moS_ne (by omega), moS_ne (by omega)]) u
    · refine ⟨⟨d1, d2⟩, fun j hj => ?_, fun j h1 h2 => ?_, d5⟩
      · show piOk (tset P.2.2.1 i _ j) ∧ PS _ _ (tset P.2.2.1 i _ j)
        by_cases q : j = i
        · subst q
          rw [tset_eq]
          obtain ⟨o1, o2, o3, o4, o5, o6, o7⟩ := y1
          exact ⟨⟨o1, o2, o3, o4, o5, o6, hb⟩, y2, y3, y4, y5, y6, y7, gupd_eq⟩
        · rw [tset_ne q]
          obtain ⟨z1, z2, z3, z4, z5, z6, z7, z8⟩ := d3 j hj
          exact ⟨z1, z2, z3, z4, z5, z6, z7, (gupd_ne (by omega)).trans z8⟩
      · obtain ⟨w1, w2, w3, w4⟩ := d4 j h1 h2
        have h3 : P.1 ≤ j := h1
        exact ⟨w1, w2, w3, (gupd_ne (by omega)).trans w4⟩
    · exact SimB_cong (fun k h1 h2 _ => by rw [moS_ne (by omega), moS_ne (by omega)]) g
theorem PS_go {m : Nat} {rain heat : Int} (h17 : s 17 0 = P.1) {i : Nat} (hi : i < P.1) {p : PiS} (h : PS s i p) : PS (mGoM s rain heat m) i (pAdv p m rain heat) := by
  obtain ⟨h1, h2, h3, h4, h5, h6, h7⟩ := h
  have g := goM_at (rain := rain) (heat := heat) h17 hi m
  rw [h1, h3, h5, h6, h7] at g
  refine ⟨congrArg (fun q => q.1) g, ?_, ?_, ?_, congrArg (fun q => q.2.1) g, congrArg (fun q => q.2.2) g, ?_⟩
  · rw [mGoM_ne (j := 19) rfl]; exact h2
  · rw [mGoM_ne (j := 20) rfl]; exact h3
  · rw [mGoM_ne (j := 21) rfl]; exact h4
  · rw [mGoM_ne (j := 24) rfl]; exact h7
theorem go_spr {m : Nat} {rain heat : Int} (H : SimP P s) (hr : 0 ≤ rain ∧ rain ≤ 9) (hh : 0 ≤ heat ∧ heat ≤ 40) {pf : Nat → PiS} (hpf : ∀ i, i < P.1 → pf i = pAdv (P.2.2.1 i) m rain heat) : mSpr (mGoM s rain heat m) (-1) = gSp pf P.1 (-1) := by
  obtain ⟨⟨d1, d2⟩, d3, d4, d5⟩ := H
  refine spr_eq (fun k hk => ?_) (by rw [mGoM_ne (j := 17) rfl]; exact d1) (-1)
  rw [hpf k hk]
  exact PS_pit (PS_go d1 hk (d3 k hk).2) (pAdv_ok (d3 k hk).1 hr hh)
theorem st_play {m rain heat r : Int} (H : Sim c Q S P B s) (M : MPlay s m rain heat r s2) :
    (¬ isMin m rain heat → s2 39 0 = 1 ∧ Sim (c + 1) Q S P B s2) ∧
    (isMin m rain heat → s2 39 0 = 0 ∧ r = gSp (advK P.2.2.1 m.toNat rain heat P.1) P.1 (-1) ∧ Sim (c + 1) Q S (P.1, P.2.1, advK P.2.2.1 m.toNat rain heat P.1, P.2.2.2.1, P.2.2.2.2.1, P.2.2.2.2.2) B s2) := by
  unfold MPlay at M
  rcases M with ⟨m1, m2, rfl⟩ | ⟨m1, m2, rfl⟩
  · exact ⟨fun _ => ⟨rfl, Sim_th H (by omega)⟩, fun z => absurd z m1⟩
  · obtain ⟨V0, t, u, d, g⟩ := Sim_th H (v := 0) (by omega)
    have hr := m1.2.1
    have hh := m1.2.2
    have s17 := d.1.1
    refine ⟨fun z => absurd m1 z, fun _ => ⟨?_, ?_, ?_, ?_, ?_, ?_, ?_⟩⟩
    · rw [mGoM_ne (j := 39) rfl]; rfl
    · rw [m2]
      exact go_spr d hr hh (fun i hi => advK_lt P.1 i hi)
    · exact VM_goM V0 hr hh _
    · exact SimT_cong (fun k h1 => mGoM_ne (mP3_no (by omega)) _) t
    · exact SimS_cong (fun k h1 h2 => mGoM_ne (mP3_no (by omega)) _) u
    · obtain ⟨⟨d1, d2⟩, d3, d4, d5⟩ := d
      refine ⟨⟨by rw [mGoM_ne (j := 17) rfl]; exact d1, d2⟩, fun i hi => ?_, fun i h1 h2 => ?_, d5⟩
      · show piOk (advK P.2.2.1 m.toNat rain heat P.1 i) ∧ PS _ _ (advK P.2.2.1 m.toNat rain heat P.1 i)
        have hi2 : i < P.1 := hi
        rw [advK_lt P.1 i hi2]
        exact ⟨pAdv_ok (d3 i hi2).1 hr hh, PS_go d1 hi2 (d3 i hi2).2⟩
      · have h3 : P.1 ≤ i := h1
        obtain ⟨w1, w2, w3, w4⟩ := d4 i h3 h2
        have ho : (i : Int) < 0 ∨ (((moS s 39 (fun _ => 0)) 17 0).toNat : Int) ≤ i := by
          right
          rw [d1]
          omega
        rw [mGoM_ne (j := 21) rfl, mGoM_ne (j := 24) rfl, mGoM_out ho, mGoM_out ho]
        exact ⟨w1, w2, w3, w4⟩
    · have g2 := SimB_cong (s2 := mGoM (moS s 39 (fun _ => 0)) rain heat m.toNat) (c := c) (B := B) (s := s) (fun k h1 h2 _ => (mGoM_ne (mP3_no (by omega)) _).trans (moS_ne (by omega))) H.2.2.2.2
      exact g2
theorem st_ahead {m rain heat r cd : Int} {s1 : MS} (H : Sim c Q S P B s) (hs : mSame s s1) (M : MAhead s s1 m rain heat r cd) :
    (¬ isMin m rain heat → cd = 1) ∧ (isMin m rain heat → cd = 0 ∧ r = gSp (advA P.2.2.1 m.toNat rain heat) P.1 (-1)) := by
  unfold MAhead at M
  rcases M with ⟨m1, m2, m3⟩ | ⟨m1, m2, m3⟩
  · exact ⟨fun _ => m3, fun z => absurd z m1⟩
  · refine ⟨fun z => absurd m1 z, fun _ => ⟨m2, ?_⟩⟩
    rw [m3]
    exact go_spr (SimP_cong (fun k h1 h2 => hs k (mSc_no (by omega))) H.2.2.2.1) m1.2.1 m1.2.2 (fun i hi => rfl)
theorem st_spread (H : Sim c Q S P B s) : mSpr (moS s 39 (fun _ => 0)) (-1) = gSp P.2.2.1 P.1 (-1) := by
  have d := (Sim_th H (v := 0) (by omega)).2.2.2.1
  exact spr_eq d.br d.1.1 (-1)
theorem plg_eq (V : VM s) (d : SimP P s) : mPlg s (s 17 0).toNat = gCnt P.2.2.1 P.1 (-1) := by
  have h1 := mMid_bd V (s 17 0).toNat
  rw [← h1.2.1, d.1.1, show ((P.1 : Int)).toNat = P.1 from rfl, mid_eq d.br P.1 (Nat.le_refl _), gCnt_of]
theorem st_odd (H : Sim c Q S P B s) : (if mPlg (moS s 39 (fun _ => 0)) ((moS s 39 (fun _ => 0)) 17 0).toNat ≤ 1 then -1 else (mOdd (moS s 39 (fun _ => 0)) ((moS s 39 (fun _ => 0)) 17 0).toNat).1) = (if gCnt P.2.2.1 P.1 (-1) < 2 then -1 else (oddK P.2.2.1 P.1 P.1).1) := by
  obtain ⟨V, -, -, d, -⟩ := Sim_th H (v := 0) (by omega)
  rw [plg_eq V d]
  have e := odd_eq d.br d.1.1 P.1 (Nat.le_refl _)
  rw [d.1.1, show ((P.1 : Int)).toNat = P.1 from rfl, e]
  by_cases q : gCnt P.2.2.1 P.1 (-1) < 2
  · rw [if_pos q, if_pos (by omega)]
  · rw [if_neg q, if_neg (by omega)]
theorem st_ofPiper {i : Nat} {w r cd : Int} (H : Sim c Q S P B s) (hi : i < P.1) (M : MOfPiper s i w r cd) :
    (¬ (0 ≤ w ∧ w ≤ 5) → cd = 2) ∧ ((0 ≤ w ∧ w ≤ 5) → cd = 0 ∧ r = if w = 5 then (if gCnt P.2.2.1 P.1 (-1) < 1 then 0 else gMd P.2.2.1 P.1 (-1) - pPit (P.2.2.1 i)) else if w = 0 then pPit (P.2.2.1 i) else if w = 1 then pR (P.2.2.1 i) else if w = 2 then pS (P.2.2.1 i) else if w = 3 then pW (P.2.2.1 i) else pT (P.2.2.1 i)) := by
  obtain ⟨V, -, -, d, -⟩ := H
  have d' := d
  obtain ⟨⟨d1, d2⟩, d3, d4, d5⟩ := d'
  obtain ⟨y1, y2⟩ := d3 i hi
  have hin : 0 ≤ (i : Int) ∧ (i : Int) < s 17 0 := by omega
  have ep := (PS_pit y2 y1).1
  have eg := plg_eq V d
  have em : mMid s (s 17 0).toNat = gatK P.2.2.1 (s 28) (-1) P.1 := by
    rw [d1, show ((P.1 : Int)).toNat = P.1 from rfl]
    exact mid_eq d.br P.1 (Nat.le_refl _)
  obtain ⟨z1, z2, z3, z4, z5, z6, z7⟩ := y2
  unfold MOfPiper at M
  rcases M with ⟨m1, -⟩ | ⟨m0, m1, m2, m3⟩ | ⟨m0, m1, m2, m3⟩
  · exact absurd hin m1
  · exact ⟨fun _ => m2, fun z => absurd z m1⟩
  · refine ⟨fun z => absurd m1 z, fun _ => ⟨m2, ?_⟩⟩
    have emd := gMd_of (pf := P.2.2.1) (f := s 28) (n := P.1) (w := -1)
    have ec := gCnt_of (pf := P.2.2.1) (f := s 28) (n := P.1) (w := -1)
    rw [m3, ep, z1, z4, z5, z6, eg, em]
    have hw : w = 0 ∨ w = 1 ∨ w = 2 ∨ w = 3 ∨ w = 4 ∨ w = 5 := by omega
    rcases hw with rfl | rfl | rfl | rfl | rfl | rfl
    · rfl
    · rfl
    · rfl
    · rfl
    · rfl
    · show (if (gCnt P.2.2.1 P.1 (-1) : Int) = 0 then 0 else _) = (if gCnt P.2.2.1 P.1 (-1) < 1 then 0 else _)
      by_cases q : gCnt P.2.2.1 P.1 (-1) < 1
      · rw [if_pos q, if_pos (by omega)]
      · rw [if_neg q, if_neg (by omega), ← emd, if_neg (by omega)]
theorem st_beats {p q : Int} {v : UInt32} (H : Sim c Q S P B s) (M : MBeats s p q v s2) :
    (¬ ((0 ≤ p ∧ p < P.1) ∧ (0 ≤ q ∧ q < P.1)) → s2 39 0 = 1 ∧ Sim (c + 1) Q S P B s2) ∧
    (((0 ≤ p ∧ p < P.1) ∧ (0 ≤ q ∧ q < P.1)) → s2 39 0 = 0 ∧ v = btF (isAbs (pPit (P.2.2.1 p.toNat) - pPit (P.2.2.1 q.toNat))) ∧ Sim (c + 1) Q S P B s2) := by
  have d := H.2.2.2.1
  unfold MBeats at M
  rw [d.1.1] at M
  rcases M with ⟨m1, m2, rfl⟩ | ⟨m1, m2, rfl⟩
  · exact ⟨fun _ => ⟨rfl, Sim_th H (by omega)⟩, fun z => absurd z m1⟩
  · refine ⟨fun z => absurd m1 z, fun _ => ⟨rfl, ?_, Sim_th H (by omega)⟩⟩
    obtain ⟨⟨x1, x2⟩, x3, x4⟩ := m1
    obtain ⟨i, rfl⟩ := nat_of x1
    obtain ⟨j, rfl⟩ := nat_of x3
    rw [m2, (d.br i (by omega)).1, (d.br j (by omega)).1]
    rfl
end SP
