/-! what a drawn call does: pipers, bands, contests -/
section FY
variable {σ : ST}
theorem f_rest (wf : WF σ) {i b : Int} (hi : 0 ≤ i ∧ i < ((σ.2.2.1.1 : Nat) : Int)) : ∃ (w : Int) (σ1 σ2 σ3 : ST), sRest σ i b = (w, σ1) ∧ (w = 0 ∨ w = 1) ∧ sRest σ1 i w = (b, σ2) ∧ sRest σ2 i b = (w, σ3) ∧ σ3.1 = σ.1 ∧ σ3.2.1 = σ.2.1 ∧ σ3.2.2.1.1 = σ.2.2.1.1 ∧ σ3.2.2.2 = σ.2.2.2 := by
  have z := (wf.2.2.1.2 i.toNat (by omega)).2.2.2.2.2.2
  have step : ∀ (τ : ST) (v u : Int), τ.2.2.1.1 = σ.2.2.1.1 → pZ (gP τ i) = v → sRest τ i u = (v, wP τ i (pR (gP τ i), pP (gP τ i), pB (gP τ i), pS (gP τ i), pW (gP τ i), pT (gP τ i), u)) := by
    intro τ v u h1 h2
    rw [← h2]
    exact if_pos (by show 0 ≤ i ∧ i < ((τ.2.2.1.1 : Nat) : Int); rw [h1]; exact hi)
  have after : ∀ (τ : ST) (q : PiS), pZ (gP (wP τ i q) i) = pZ q := by
    intro τ q
    have e : gP (wP τ i q) i = q := tset_eq
    rw [e]
  refine ⟨pZ (gP σ i), _, _, _, step σ _ b rfl rfl, z, step _ b _ rfl (after _ _), step _ _ b rfl (after _ _), rfl, rfl, rfl, rfl⟩
theorem f_seat (wf : WF σ) {i b : Int} (hi : 0 ≤ i ∧ i < ((σ.2.2.1.1 : Nat) : Int)) : ∃ (r : Int) (σ2 : ST), stp σ 10 i b 0 0 = (r, σ2) ∧ (r = -7000002 ∨ (-100 ≤ r ∧ r ≤ 100)) ∧ σ2.1 = σ.1 ∧ σ2.2.1 = σ.2.1 ∧ σ2.2.2.1.1 = σ.2.2.1.1 ∧ σ2.2.2.2 = σ.2.2.2 := by
  by_cases c : rgSeat (gP σ i) b
  · exact ⟨_, _, (if_pos hi).trans (if_pos c), Or.inr c.2, rfl, rfl, rfl, rfl⟩
  · exact ⟨_, _, (if_pos hi).trans (if_neg c), Or.inl rfl, rfl, rfl, rfl, rfl⟩
theorem oddK_less {pf : Nat → PiS} {n : Nat} : ∀ k : Nat, (oddK pf n k).1 < k
  | 0 => by show (-1 : Int) < ((0 : Nat) : Int); omega
  | k + 1 => by
    have ih := oddK_less (pf := pf) (n := n) k
    show (if pZ (pf k) = 0 ∧ ((oddK pf n k).1 = -1 ∨ gSp pf n k < (oddK pf n k).2) then ((k : Int), gSp pf n k) else oddK pf n k).1 < ((k + 1 : Nat) : Int)
    by_cases c : pZ (pf k) = 0 ∧ ((oddK pf n k).1 = -1 ∨ gSp pf n k < (oddK pf n k).2)
    · rw [if_pos c]
      show (k : Int) < ((k + 1 : Nat) : Int)
      omega
    · rw [if_neg c]
      omega
theorem f_odd (wf : WF σ) (h0 : 0 < ((σ.2.2.1.1 : Nat) : Int)) : ∃ r : Int, sOdd σ = (r, σ) ∧ -1 ≤ r ∧ r < ((σ.2.2.1.1 : Nat) : Int) := by
  refine ⟨_, rfl, ?_⟩
  have h1 := oddK_less (pf := σ.2.2.1.2.2) (n := σ.2.2.1.1) σ.2.2.1.1
  have h2 := (oddK_bd (pf := σ.2.2.1.2.2) (n := σ.2.2.1.1) wf.2.2.1.2 σ.2.2.1.1).1.1
  split <;> omega
theorem f_pip (wf : WF σ) {i : Int} (hi : 0 ≤ i ∧ i < ((σ.2.2.1.1 : Nat) : Int)) : ∃ r q : Int, sOfPip σ i 4 = (r, σ) ∧ (0 ≤ r ∧ r ≤ 100) ∧ sOfPip σ i 1 = (q, σ) ∧ (-100 ≤ q ∧ q ≤ 100) := by
  have z := wf.2.2.1.2 i.toNat (by omega)
  exact ⟨pT (gP σ i), pR (gP σ i), (if_pos hi).trans (if_pos (by decide)), z.2.2.2.2.2.1, (if_pos hi).trans (if_pos (by decide)), z.1⟩
/-- the rows of bands are as many, and so is all else -/
def sameB (σ σ2 : ST) : Prop := σ2.1 = σ.1 ∧ σ2.2.1 = σ.2.1 ∧ σ2.2.2.1 = σ.2.2.1 ∧ nB σ2 = nB σ
theorem sameB.rf : sameB σ σ := ⟨rfl, rfl, rfl, rfl⟩
theorem f_contest (wf : WF σ) (hop : opB σ = 0) {g : Int} (hg : 1 ≤ g ∧ g ≤ 5) : (∃ (r : Int) (σ2 : ST), stp σ 17 g 0 0 0 = (r, σ2) ∧ (2 ≤ r ∧ r ≤ ((nB σ : Nat) : Int)) ∧ opB σ2 = 1 ∧ sameB σ σ2 ∧ σ2.2.2.2.2 = σ.2.2.2.2) ∨ (stp σ 17 g 0 0 0 = (-7000003, σ)) := by
  have hb := cOg_bd (fB σ) g (nB σ)
  by_cases c : opB σ = 1 ∨ cOg (fB σ) g (nB σ) < 2
  · exact Or.inr ((if_pos hg).trans (if_pos c))
  · have c2 : 2 ≤ cOg (fB σ) g (nB σ) := by
      by_cases q : cOg (fB σ) g (nB σ) < 2
      · exact absurd (Or.inr q) c
      · omega
    exact Or.inl ⟨_, _, (if_pos hg).trans (if_neg c), ⟨c2, hb.2⟩, rfl, sameB.rf, rfl⟩
/-- behind m calls of mark: who takes part has what has been handed in -/
def MI (σ : ST) (m : Nat) : Prop := ∀ q : Nat, q < m → q / 4 < nB σ → bTp (fB σ (q / 4)) = 1 → ¬ bM (fB σ (q / 4)) ((q % 4 : Nat) : Int) = -1
theorem f_mark (wf : WF σ) (hop : opB σ = 1) {m : Nat} (M : MI σ m) (hn : 1 ≤ nB σ) {bd mk : Int} (hbd : bd = if ((m / 4 : Nat) : Int) < ((nB σ : Nat) : Int) then ((m / 4 : Nat) : Int) else 0) (hmk : 0 ≤ mk ∧ mk ≤ 100) : ∃ (r : Int) (σ2 : ST), stp σ 18 ((m % 4 : Nat) : Int) bd mk 0 = (r, σ2) ∧ (r = -7000003 ∨ (-1001 ≤ r ∧ r ≤ 1000)) ∧ opB σ2 = 1 ∧ MI σ2 (m + 1) ∧ sameB σ σ2 ∧ σ2.2.2.2.2 = σ.2.2.2.2 := by
  have hmm := wf.2.2.2.mm
  have hin : (0 ≤ ((m % 4 : Nat) : Int) ∧ ((m % 4 : Nat) : Int) ≤ 3) ∧ inB σ bd := by
    refine ⟨by omega, ?_⟩
    show 0 ≤ bd ∧ bd < ((nB σ : Nat) : Int)
    rw [hbd]
    split <;> omega
  by_cases c : okMark σ ((m % 4 : Nat) : Int) bd
  · refine ⟨_, _, (if_pos hin).trans ((if_pos hmk).trans (if_pos c)), Or.inr ⟨?_, ?_⟩, hop, ?_, sameB.rf, rfl⟩
    · show -1001 ≤ miB σ - 1
      have h1 : -1000 ≤ miB σ := hmm.1
      omega
    · show miB σ - 1 ≤ 1000
      have h1 : miB σ ≤ 1000 := hmm.2
      omega
    · intro q hq hq2 hq3
      have hq4 : q / 4 < nB σ := hq2
      have hq5 : bTp (tset (fB σ) bd.toNat (bMk (gB σ bd) ((m % 4 : Nat) : Int) mk) (q / 4)) = 1 := hq3
      show ¬ bM (tset (fB σ) bd.toNat (bMk (gB σ bd) ((m % 4 : Nat) : Int) mk) (q / 4)) ((q % 4 : Nat) : Int) = -1
      by_cases e : q / 4 = bd.toNat
      · rw [e, tset_eq]
        show ¬ gupd (bM (gB σ bd)) ((m % 4 : Nat) : Int) mk ((q % 4 : Nat) : Int) = -1
        by_cases e2 : q % 4 = m % 4
        · rw [e2, gupd_eq]
          omega
        · rw [gupd_ne (by omega)]
          rw [e, tset_eq] at hq5
          have hq6 : bTp (fB σ bd.toNat) = 1 := hq5
          have hlt : q < m := by
            by_cases z : q = m
            · exact absurd (by rw [z]) e2
            · omega
          have := M q hlt hq4 (by rw [e]; exact hq6)
          rw [e] at this
          exact this
      · rw [tset_ne e]
        rw [tset_ne e] at hq5
        have hlt : q < m := by
          by_cases z : q = m
          · exfalso
            apply e
            rw [hbd, z]
            rw [z] at hq4
            rw [if_pos (by omega)]
            rfl
          · omega
        exact M q hlt hq4 hq5
  · refine ⟨_, _, (if_pos hin).trans ((if_pos hmk).trans (if_neg c)), Or.inl rfl, hop, ?_, sameB.rf, rfl⟩
    intro q hq hq2 hq3
    by_cases z : q = m
    · intro hz
      apply c
      have hq4 : q / 4 < nB σ := hq2
      have e : bd.toNat = q / 4 := by
        rw [hbd, ← z, if_pos (by omega)]
        rfl
      refine ⟨hop, ?_, ?_⟩
      · show bTp (fB σ bd.toNat) = 1
        rw [e]; exact hq3
      · show bM (fB σ bd.toNat) ((m % 4 : Nat) : Int) = -1
        rw [e, ← z]; exact hz
    · exact M q (by omega) hq2 hq3
theorem clK_is {bf : Nat → BaS} {n : Nat} : ∀ (k j : Nat), j < k → clK bf n k j = if bTp (bf j) = 1 then bPl (bFg (bf j)) (plF bf n j 4) (plS bf n j 4) else bFg (bf j)
  | 0, j, h => absurd h (Nat.not_lt_zero j)
  | k + 1, j, h => by
    show tset (clK bf n k) k (if bTp (bf k) = 1 then bPl (bFg (bf k)) (plF bf n k 4) (plS bf n k 4) else bFg (bf k)) j = _
    by_cases q : j = k
    · rw [q, tset_eq]
    · rw [tset_ne q]
      exact clK_is k j (by omega)
theorem yrkK_at {bf : Nat → BaS} {n : Nat} : ∀ (k j : Nat), (k ≤ j → yrkK bf n k j = bf j) ∧ (j < k → yrkK bf n k j = if bTp (bf j) = 1 then bRank (bf j) (1 + yAh bf j n) else bf j)
  | 0, j => ⟨fun _ => rfl, fun h => absurd h (Nat.not_lt_zero j)⟩
  | k + 1, j => by
    obtain ⟨h1, h2⟩ := yrkK_at (bf := bf) (n := n) k j
    have e : yrkK bf n (k + 1) j = (if bTp (bf k) = 1 then tset (yrkK bf n k) k (bRank (bf k) (1 + yAh bf k n)) else yrkK bf n k) j := rfl
    rw [e]
    by_cases z : bTp (bf k) = 1
    · rw [if_pos z]
      refine ⟨fun h => ?_, fun h => ?_⟩
      · rw [tset_ne (by omega)]
        exact h1 (by omega)
      · by_cases q : j = k
        · subst q
          rw [tset_eq, if_pos z]
        · rw [tset_ne q]
          exact h2 (by omega)
    · rw [if_neg z]
      refine ⟨fun h => h1 (by omega), fun h => ?_⟩
      by_cases q : j = k
      · subst q
        rw [if_neg z]
        exact h1 (Nat.le_refl _)
      · exact h2 (by omega)
theorem isBf_tr {s1 s2 s3 : Int} {f1 f2 f3 : Int → Int} {n1 n2 n3 : Int} (h1 : isBf s1 s2 f1 f2 n1 n2) (h2 : isBf s2 s3 f2 f3 n2 n3) : isBf s1 s3 f1 f3 n1 n3 := by
  unfold isBf at *
  omega
theorem isBf_no {s : Int} {f : Int → Int} {n : Int} : ¬ isBf s s f f n n := by
  unfold isBf
  omega
/-- one of those who take part has nobody ahead -/
theorem first_ex {bf : Nat → BaS} : ∀ n : Nat, (∀ i, i < n → ¬ bTp (bf i) = 1) ∨ ∃ i, i < n ∧ bTp (bf i) = 1 ∧ ∀ j, j < n → bTp (bf j) = 1 → ¬ isBf (bSu (bf j)) (bSu (bf i)) (bP (bf j)) (bP (bf i)) j i
  | 0 => Or.inl (fun i h => absurd h (Nat.not_lt_zero i))
  | n + 1 => by
    rcases first_ex (bf := bf) n with h | ⟨i, h1, h2, h3⟩
    · by_cases c : bTp (bf n) = 1
      · refine Or.inr ⟨n, by omega, c, fun j hj ht => ?_⟩
        by_cases q : j = n
        · rw [q]; exact isBf_no
        · exact absurd ht (h j (by omega))
      · refine Or.inl (fun i hi => ?_)
        by_cases q : i = n
        · rw [q]; exact c
        · exact h i (by omega)
    · by_cases c : bTp (bf n) = 1 ∧ isBf (bSu (bf n)) (bSu (bf i)) (bP (bf n)) (bP (bf i)) n i
      · refine Or.inr ⟨n, by omega, c.1, fun j hj ht z => ?_⟩
        by_cases q : j = n
        · rw [q] at z; exact isBf_no z
        · exact h3 j (by omega) ht (isBf_tr z c.2)
      · refine Or.inr ⟨i, by omega, h2, fun j hj ht z => ?_⟩
        by_cases q : j = n
        · rw [q] at z ht; exact c ⟨ht, z⟩
        · exact h3 j (by omega) ht z
theorem yAh_0 {bf : Nat → BaS} {i : Nat} : ∀ n : Nat, (∀ j, j < n → bTp (bf j) = 1 → ¬ isBf (bSu (bf j)) (bSu (bf i)) (bP (bf j)) (bP (bf i)) j i) → yAh bf i n = 0
  | 0, _ => rfl
  | n + 1, h => by
    show yAh bf i n + yA1 bf i n = 0
    rw [yAh_0 n (fun j hj => h j (by omega))]
    unfold yA1
    rw [if_neg (fun z => h n (by omega) z.1 z.2)]
    rfl
theorem yrk1_at {bf : Nat → BaS} {n : Nat} : ∀ k : Nat, (∃ i, i < k ∧ bTp (bf i) = 1 ∧ 1 + yAh bf i n = 1) → ∃ i : Nat, yrk1 bf n k = (i : Int) ∧ i < k ∧ bTp (bf i) = 1 ∧ 1 + yAh bf i n = 1
  | 0, h => by
    obtain ⟨i, h1, -⟩ := h
    exact absurd h1 (Nat.not_lt_zero i)
  | k + 1, h => by
    show ∃ i : Nat, (if bTp (bf k) = 1 ∧ 1 + yAh bf k n = 1 then (k : Int) else yrk1 bf n k) = (i : Int) ∧ _
    by_cases c : bTp (bf k) = 1 ∧ 1 + yAh bf k n = 1
    · rw [if_pos c]
      exact ⟨k, rfl, by omega, c.1, c.2⟩
    · rw [if_neg c]
      obtain ⟨i, h1, h2, h3⟩ := h
      obtain ⟨j, j1, j2, j3, j4⟩ := yrk1_at k ⟨i, by
        by_cases q : i = k
        · rw [q] at h2 h3; exact absurd ⟨h2, h3⟩ c
        · omega, h2, h3⟩
      exact ⟨j, j1, by omega, j3, j4⟩
theorem tkK_ex {bf : Nat → BaS} : ∀ n : Nat, 0 < tkK bf n → ∃ i, i < n ∧ bTp (bf i) = 1
  | 0, h => absurd h (by show ¬ (0 : Int) < 0; omega)
  | n + 1, h => by
    by_cases c : bTp (bf n) = 1
    · exact ⟨n, by omega, c⟩
    · have h2 : 0 < tkK bf n := by
        have h3 : 0 < tkK bf n + (if bTp (bf n) = 1 then 1 else 0) := h
        rw [if_neg c] at h3
        omega
      obtain ⟨i, h3, h4⟩ := tkK_ex n h2
      exact ⟨i, by omega, h4⟩
theorem misK_0 {bf : Nat → BaS} : ∀ n : Nat, (∀ i, i < n → mm4 (bf i) = 0) → misK bf n = 0
  | 0, _ => rfl
  | n + 1, h => by
    show misK bf n + mm4 (bf n) = 0
    rw [misK_0 n (fun i hi => h i (by omega)), h n (by omega)]
    rfl
theorem f_close (wf : WF σ) (hop : opB σ = 1) (M : MI σ 32) : ∃ (r : Int) (σ2 : ST), stp σ 19 0 0 0 0 = (r, σ2) ∧ (0 ≤ r ∧ r < ((nB σ : Nat) : Int)) ∧ sOfBand σ2 r 2 = (1, σ2) ∧ (∃ s : Int, sOfBand σ2 r 3 = (s, σ2) ∧ 4 ≤ s ∧ s ≤ 100) ∧ opB σ2 = 0 ∧ sameB σ σ2 ∧ σ2.2.2.2.2 = σ.2.2.2.2 + 1 := by
  obtain ⟨b1, b2, b3⟩ := wf.2.2.2
  have hz : misK (fB σ) (nB σ) = 0 := by
    refine misK_0 _ (fun i hi => ?_)
    have m1 : ∀ j : Nat, j < 4 → mm1 (fB σ i) (j : Int) = 0 := by
      intro j hj
      unfold mm1
      refine if_neg (fun z => ?_)
      have e1 : (4 * i + j) / 4 = i := by omega
      have e2 : (4 * i + j) % 4 = j := by omega
      have hi8 : i < 8 := Nat.lt_of_lt_of_le hi b1
      have := M (4 * i + j) (by omega) (by rw [e1]; exact hi) (by rw [e1]; exact z.1)
      rw [e1, e2] at this
      exact this z.2
    have a0 : mm1 (fB σ i) 0 = 0 := m1 0 (by omega)
    have a1 : mm1 (fB σ i) 1 = 0 := m1 1 (by omega)
    have a2 : mm1 (fB σ i) 2 = 0 := m1 2 (by omega)
    have a3 : mm1 (fB σ i) 3 = 0 := m1 3 (by omega)
    unfold mm4
    omega
  rcases b3 with ⟨-, x2, x3⟩ | x
  · have hmi : miB σ = misK (fB σ) (nB σ) := x2
    have c : opB σ = 1 ∧ miB σ ≤ 0 := ⟨hop, by omega⟩
    obtain ⟨i0, i1, i2⟩ := tkK_ex (nB σ) x3
    have tp : ∀ k, bTp (clK (fB σ) (nB σ) (nB σ) k) = bTp (fB σ k) := fun k => (clK_same (bf := fB σ) (n := nB σ) (nB σ) k).1
    have ex : ∃ i, i < nB σ ∧ bTp (clK (fB σ) (nB σ) (nB σ) i) = 1 ∧ 1 + yAh (clK (fB σ) (nB σ) (nB σ)) i (nB σ) = 1 := by
      rcases first_ex (bf := clK (fB σ) (nB σ) (nB σ)) (nB σ) with h | ⟨i, h1, h2, h3⟩
      · exact absurd (by rw [tp]; exact i2) (h i0 i1)
      · exact ⟨i, h1, h2, by rw [yAh_0 _ h3]; rfl⟩
    obtain ⟨i, r1, r2, r3, r4⟩ := yrk1_at (nB σ) ex
    refine ⟨_, _, if_pos c, ?_, ?_, ?_, rfl, sameB.rf, rfl⟩
    · rw [r1]
      omega
    · rw [r1]
      have hin : 0 ≤ (i : Int) ∧ (i : Int) < ((nB σ : Nat) : Int) := by omega
      refine ((if_pos hin).trans (if_pos (by decide))).trans ?_
      refine congrArg (fun q : Int => (q, _)) ?_
      show bRk (yrkK (clK (fB σ) (nB σ) (nB σ)) (nB σ) (nB σ) i) = 1
      rw [(yrkK_at (nB σ) i).2 r2, if_pos r3]
      exact r4
    · rw [r1]
      have hin : 0 ≤ (i : Int) ∧ (i : Int) < ((nB σ : Nat) : Int) := by omega
      refine ⟨_, (if_pos hin).trans (if_pos (by decide)), ?_⟩
      show 4 ≤ bSu (yrkK (clK (fB σ) (nB σ) (nB σ)) (nB σ) (nB σ) i) ∧ bSu (yrkK (clK (fB σ) (nB σ) (nB σ)) (nB σ) (nB σ) i) ≤ 100
      rw [(yrkK_at (nB σ) i).2 r2, if_pos r3]
      show 4 ≤ bSu (clK (fB σ) (nB σ) (nB σ) i) ∧ bSu (clK (fB σ) (nB σ) (nB σ) i) ≤ 100
      rw [tp] at r3
      rw [clK_is (nB σ) i r2, if_pos r3]
      show 4 ≤ 0 + (1 + xPc (fB σ) i 0 (nB σ)) + (1 + xPc (fB σ) i 1 (nB σ)) + (1 + xPc (fB σ) i 2 (nB σ)) + (1 + xPc (fB σ) i 3 (nB σ)) ∧ 0 + (1 + xPc (fB σ) i 0 (nB σ)) + (1 + xPc (fB σ) i 1 (nB σ)) + (1 + xPc (fB σ) i 2 (nB σ)) + (1 + xPc (fB σ) i 3 (nB σ)) ≤ 100
      have p0 := xPc_bd (fB σ) i 0 (nB σ)
      have p1 := xPc_bd (fB σ) i 1 (nB σ)
      have p2 := xPc_bd (fB σ) i 2 (nB σ)
      have p3 := xPc_bd (fB σ) i 3 (nB σ)
      have b1' : nB σ ≤ 8 := b1
      omega
  · have z : opB σ = 0 := x.1
    omega
theorem f_close0 (hop : opB σ = 0) : stp σ 19 0 0 0 0 = (-7000003, σ) := if_neg (fun z => by have := z.1; omega)
theorem mvK_b (bf : Nat → BaS) : ∀ k : Nat, 0 ≤ mvK bf k ∧ mvK bf k ≤ k
  | 0 => by
    show 0 ≤ (0 : Int) ∧ (0 : Int) ≤ ((0 : Nat) : Int)
    omega
  | k + 1 => by
    have ih := mvK_b bf k
    show 0 ≤ mvK bf k + (if bGr (bf k) = bNg (bf k) then 0 else 1) ∧ mvK bf k + (if bGr (bf k) = bNg (bf k) then 0 else 1) ≤ ((k + 1 : Nat) : Int)
    split <;> omega
theorem f_season (wf : WF σ) (hop : opB σ = 0) : ∃ (r : Int) (σ2 : ST), sSeason σ = (r, σ2) ∧ (0 ≤ r ∧ r ≤ ((nB σ : Nat) : Int)) ∧ opB σ2 = 0 ∧ sameB σ σ2 ∧ σ2.2.2.2.2 = σ.2.2.2.2 ∧ ∀ i : Int, 0 ≤ i → i < ((nB σ : Nat) : Int) → sOfBand σ2 i 1 = (0, σ2) ∧ ∃ g : Int, sOfBand σ2 i 0 = (g, σ2) ∧ 1 ≤ g ∧ g ≤ 5 := by
  have w := wf_season wf
  have e : sSeason σ = (mvK (seaK (fB σ) (nB σ) 4) (nB σ), wB σ (begK (seaK (fB σ) (nB σ) 4) (nB σ)) (opB σ) (miB σ)) := if_pos hop
  rw [e] at w ⊢
  refine ⟨_, _, rfl, mvK_b _ _, hop, sameB.rf, rfl, fun i h0 h1 => ?_⟩
  have hin : 0 ≤ i ∧ i < ((nB σ : Nat) : Int) := ⟨h0, h1⟩
  refine ⟨((if_pos hin).trans (if_pos (by decide))).trans ?_, _, (if_pos hin).trans (if_pos (by decide)), ?_⟩
  · refine congrArg (fun q : Int => (q, _)) ?_
    show bPo (begK (seaK (fB σ) (nB σ) 4) (nB σ) i.toNat) = 0
    rw [begK_at _ _ (by omega)]
    rfl
  · exact (w.2.2.2.2.1 i.toNat (by show i.toNat < nB σ; omega)).1.1
end FY
