/-! what holds of the class's state all along -/
def tuX (t : TuS) : Prop := tuOk t ∧ (tOu t ≤ 16 * ((tWc t : Int) - tFo t) ∧ (tWc t : Int) - tFo t ≤ tOu t) ∧ ∀ j : Int, 0 ≤ j → j < tPl t → 0 ≤ tN t j ∧ tN t j < tFo t
def mm1 (b : BaS) (j : Int) : Int := if bTp b = 1 ∧ bM b j = -1 then 1 else 0
def mm4 (b : BaS) : Int := mm1 b 0 + mm1 b 1 + mm1 b 2 + mm1 b 3
/-- marks that are missing -/
def misK (bf : Nat → BaS) : Nat → Int
  | 0 => 0
  | k + 1 => misK bf k + mm4 (bf k)
/-- bands that take part -/
def tkK (bf : Nat → BaS) : Nat → Int
  | 0 => 0
  | k + 1 => tkK bf k + if bTp (bf k) = 1 then 1 else 0
theorem mm1_01 (b : BaS) (j : Int) : 0 ≤ mm1 b j ∧ mm1 b j ≤ 1 := by
  unfold mm1
  split <;> omega
theorem mm4_bd (b : BaS) : 0 ≤ mm4 b ∧ mm4 b ≤ 4 := by
  have h0 := mm1_01 b 0
  have h1 := mm1_01 b 1
  have h2 := mm1_01 b 2
  have h3 := mm1_01 b 3
  unfold mm4
  omega
theorem misK_bd (bf : Nat → BaS) : ∀ k : Nat, 0 ≤ misK bf k ∧ misK bf k ≤ 4 * k
  | 0 => by show 0 ≤ (0 : Int) ∧ (0 : Int) ≤ 4 * ((0 : Nat) : Int); omega
  | k + 1 => by
    have ih := misK_bd bf k
    have h := mm4_bd (bf k)
    show 0 ≤ misK bf k + mm4 (bf k) ∧ misK bf k + mm4 (bf k) ≤ 4 * ((k + 1 : Nat) : Int)
    omega
theorem misK_cg {bf bg : Nat → BaS} : ∀ k : Nat, (∀ i, i < k → mm4 (bf i) = mm4 (bg i)) → misK bf k = misK bg k
  | 0, _ => rfl
  | k + 1, h => by
    show misK bf k + mm4 (bf k) = misK bg k + mm4 (bg k)
    rw [misK_cg k (fun i hi => h i (by omega)), h k (by omega)]
theorem misK_set {bf : Nat → BaS} {j : Nat} {b : BaS} : ∀ k : Nat, j < k → misK (tset bf j b) k = misK bf k - mm4 (bf j) + mm4 b
  | 0, h => absurd h (Nat.not_lt_zero _)
  | k + 1, h => by
    show misK (tset bf j b) k + mm4 (tset bf j b k) = misK bf k + mm4 (bf k) - mm4 (bf j) + mm4 b
    by_cases c : j = k
    · subst c
      rw [tset_eq, misK_cg (bg := bf) j (fun i hi => by rw [tset_ne (by omega)])]
      omega
    · rw [misK_set k (by omega), tset_ne (fun z => c z.symm)]
      omega
theorem tkK_cg {bf bg : Nat → BaS} : ∀ k : Nat, (∀ i, i < k → bTp (bf i) = bTp (bg i)) → tkK bf k = tkK bg k
  | 0, _ => rfl
  | k + 1, h => by
    show tkK bf k + (if bTp (bf k) = 1 then 1 else 0) = tkK bg k + if bTp (bg k) = 1 then 1 else 0
    rw [tkK_cg k (fun i hi => h i (by omega)), h k (by omega)]
theorem tkK_bd (bf : Nat → BaS) : ∀ k : Nat, 0 ≤ tkK bf k
  | 0 => Int.le_refl _
  | k + 1 => by
    have ih := tkK_bd bf k
    show 0 ≤ tkK bf k + if bTp (bf k) = 1 then 1 else 0
    split <;> omega
/-- a contest's start: all marks of who takes part are missing -/
theorem ct_mis {bf : Nat → BaS} {g : Int} {n : Nat} : ∀ k : Nat, k ≤ n → misK (ctK bf g n) k = 4 * cOg bf g k ∧ tkK (ctK bf g n) k = cOg bf g k
  | 0, _ => ⟨rfl, rfl⟩
  | k + 1, h => by
    obtain ⟨h1, h2⟩ := ct_mis (bf := bf) (g := g) (n := n) k (by omega)
    have e : ctK bf g n k = ctB (bf k) g := if_pos (by omega)
    have em : ∀ j : Int, 0 ≤ j → j < 4 → bM (ctB (bf k) g) j = -1 := by
      intro j h0 h1
      show gupd (gupd (gupd (gupd (bM (bf k)) 0 (-1)) 1 (-1)) 2 (-1)) 3 (-1) j = -1
      rcases (show j = 0 ∨ j = 1 ∨ j = 2 ∨ j = 3 by omega) with rfl | rfl | rfl | rfl
      · rw [gupd_ne (by omega), gupd_ne (by omega), gupd_ne (by omega), gupd_eq]
      · rw [gupd_ne (by omega), gupd_ne (by omega), gupd_eq]
      · rw [gupd_ne (by omega), gupd_eq]
      · rw [gupd_eq]
    show misK (ctK bf g n) k + mm4 (ctK bf g n k) = 4 * (cOg bf g k + if bGr (bf k) = g then 1 else 0) ∧ tkK (ctK bf g n) k + (if bTp (ctK bf g n k) = 1 then 1 else 0) = cOg bf g k + if bGr (bf k) = g then 1 else 0
    rw [h1, h2, e]
    have et : bTp (ctB (bf k) g) = if bGr (bf k) = g then 1 else 0 := rfl
    unfold mm4 mm1
    rw [et, em 0 (by omega) (by omega), em 1 (by omega) (by omega), em 2 (by omega) (by omega), em 3 (by omega) (by omega)]
    by_cases c : bGr (bf k) = g
    · rw [if_pos c, if_pos (show (1 : Int) = 1 ∧ (-1 : Int) = -1 from ⟨rfl, rfl⟩), if_pos (show (1 : Int) = 1 from rfl)]
      omega
    · rw [if_neg c, if_neg (show ¬ ((0 : Int) = 1 ∧ (-1 : Int) = -1) from by omega), if_neg (show ¬ (0 : Int) = 1 by omega)]
      omega
def baX (c : Nat) (b : BaS) : Prop := baOk b ∧ bNg b = bGr b ∧ bPo b ≤ 6 * c ∧ bFi b ≤ c
def WFB (c : Nat) (B : XBs) : Prop := B.1 ≤ 8 ∧ (∀ i, i < B.1 → baX c (B.2.2.1 i)) ∧ ((B.2.2.2.1 = 1 ∧ B.2.2.2.2 = misK B.2.2.1 B.1 ∧ 0 < tkK B.2.2.1 B.1) ∨ (B.2.2.2.1 = 0 ∧ B.2.2.2.2 = 0))
def WF (σ : ST) : Prop := (σ.1.1 ≤ 10 ∧ ∀ i, i < σ.1.1 → tuX (σ.1.2.2 i)) ∧ seOk σ.1 σ.2.1 ∧ (σ.2.2.1.1 ≤ 8 ∧ ∀ i, i < σ.2.2.1.1 → piOk (σ.2.2.1.2.2 i)) ∧ WFB σ.2.2.2.2 σ.2.2.2.1
theorem WFB.op {c : Nat} {B : XBs} (h : WFB c B) : B.2.2.2.1 = 0 ∨ B.2.2.2.1 = 1 := by
  rcases h.2.2 with h | h
  · exact Or.inr h.1
  · exact Or.inl h.1
theorem WFB.mm {c : Nat} {B : XBs} (h : WFB c B) : -1000 ≤ B.2.2.2.2 ∧ B.2.2.2.2 ≤ 1000 := by
  have h8 := h.1
  have hb := misK_bd B.2.2.1 B.1
  rcases h.2.2 with h | h <;> omega
theorem WF.T {σ : ST} (h : WF σ) : ∀ i, i < σ.1.1 → tuOk (σ.1.2.2 i) := fun i hi => (h.1.2 i hi).1
theorem WF.B {σ : ST} (h : WF σ) : ∀ i, i < σ.2.2.2.1.1 → baOk (σ.2.2.2.1.2.2.1 i) := fun i hi => (h.2.2.2.2.1 i hi).1
theorem WF.ss {σ : ST} (h : WF σ) : ∀ i, i < σ.2.1.2.1 → σ.2.1.2.2.2.1 i < σ.1.1 := fun i hi => (h.2.1.2.2 i hi).1
theorem wf_0 : WF σ0 := by
  refine ⟨⟨by decide, fun i hi => absurd hi (Nat.not_lt_zero i)⟩, ⟨by decide, fun h => absurd h (Nat.not_lt_zero _), fun i hi => absurd hi (Nat.not_lt_zero i)⟩, ⟨by decide, fun i hi => absurd hi (Nat.not_lt_zero i)⟩, by decide, fun i hi => absurd hi (Nat.not_lt_zero i), Or.inr ⟨rfl, rfl⟩⟩
theorem seOk_ts {Q : XTs} {S : XSs} {i : Nat} {t2 : TuS} (h : seOk Q S) (hp : tPl (Q.2.2 i) ≤ tPl t2) : seOk (Q.1, Q.2.1, tset Q.2.2 i t2) S := by
  obtain ⟨s8, sal, sin⟩ := h
  refine ⟨s8, sal, fun j hj => ?_⟩
  obtain ⟨y1, y2, y3⟩ := sin j hj
  show S.2.2.2.1 j < Q.1 ∧ 1 ≤ tPl (tset Q.2.2 i t2 (S.2.2.2.1 j)) ∧ _
  by_cases q : S.2.2.2.1 j = i
  · rw [q, tset_eq]
    rw [q] at y1 y2
    exact ⟨y1, by omega, y3⟩
  · rw [tset_ne q]
    exact ⟨y1, y2, y3⟩
theorem gupd_b {f : Int → Int} {lo hi z x : Int} (h : ∀ i, lo ≤ f i ∧ f i ≤ hi) (hx : lo ≤ x ∧ x ≤ hi) : ∀ i, lo ≤ gupd f z x i ∧ gupd f z x i ≤ hi := by
  intro i
  by_cases c : i = z
  · rw [c, gupd_eq]; exact hx
  · rw [gupd_ne c]; exact h i
theorem tuX_0 {z : Int} (hz : 0 ≤ z ∧ z ≤ 3) : tuX (tu0 z) := by
  refine ⟨⟨hz, Nat.zero_le _, Nat.le_refl _, Nat.zero_le _, Nat.zero_le _, ⟨Int.le_refl _, (show (0 : Int) ≤ 1024 by decide)⟩, fun _ => ⟨Int.le_refl _, (show (0 : Int) ≤ 8 by decide)⟩, fun _ => ⟨Int.le_refl _, (show (0 : Int) ≤ 16 by decide)⟩, fun _ => ⟨Int.le_refl _, (show (0 : Int) ≤ 8 by decide)⟩, fun i h0 h1 => ?_⟩, ⟨by show (0 : Int) ≤ 16 * (((0 : Nat) : Int) - ((0 : Nat) : Int)); decide, by show (((0 : Nat) : Int) - ((0 : Nat) : Int)) ≤ (0 : Int); decide⟩, fun i h0 h1 => ?_⟩
  · have h2 : i < ((0 : Nat) : Int) := h1
    omega
  · have h2 : i < ((0 : Nat) : Int) := h1
    omega
theorem tuX_note {t : TuS} {h l g : Int} (H : tuX t) (hr : rgNote h l g) (ho : okNote t h l g) : tuX (tNote t h l g) := by
  obtain ⟨⟨k1, k2, k3, k4, k5, k6, k7, k8, k9, k10⟩, ⟨e1, e2⟩, e3⟩ := H
  have hw := ho.1
  refine ⟨⟨k1, by show tWc t + 1 ≤ 64; omega, by show tFo t ≤ tWc t + 1; omega, k4, k5, ⟨by show 0 ≤ tOu t + l; omega, by show tOu t + l ≤ 1024; omega⟩, ?_, ?_, ?_, k10⟩, ⟨by show tOu t + l ≤ 16 * (((tWc t + 1 : Nat) : Int) - tFo t); omega, by show ((tWc t + 1 : Nat) : Int) - tFo t ≤ tOu t + l; omega⟩, e3⟩
  · exact gupd_b k7 hr.1
  · exact gupd_b k8 ⟨by omega, by omega⟩
  · exact gupd_b k9 hr.2.2
theorem napp_at {fn : Int → Int} {pl fo n F : Nat} (h : ∀ j : Int, 0 ≤ j → j < pl → 0 ≤ fn j ∧ fn j < F) (hF : fo + n ≤ F) : ∀ j : Int, 0 ≤ j → j < (pl + n : Nat) → 0 ≤ napp fn pl fo n j ∧ napp fn pl fo n j < F := by
  intro j h0 h1
  unfold napp
  by_cases c : (pl : Int) ≤ j ∧ j < pl + n
  · rw [if_pos c]; omega
  · rw [if_neg c]; exact h j h0 (by omega)
theorem tuX_part {t : TuS} {rep : Int} (H : tuX t) (ho : okPart t) : tuX (tPart t rep) := by
  obtain ⟨⟨k1, k2, k3, k4, k5, k6, k7, k8, k9, k10⟩, ⟨e1, e2⟩, e3⟩ := H
  have e4 : ∀ j : Int, 0 ≤ j → j < tPl (tPart t rep) → 0 ≤ tN (tPart t rep) j ∧ tN (tPart t rep) j < tWc t := by
    intro j h0 h1
    have w : ∀ j : Int, 0 ≤ j → j < tPl t → 0 ≤ tN t j ∧ tN t j < tWc t := fun j h0 h1 => by
      have := e3 j h0 h1
      omega
    have w2 := napp_at (F := tWc t) (n := tWc t - tFo t) (fo := tFo t) w (by omega)
    have h2 : j < ((tPl t + (if rep = 0 then (tWc t - tFo t) else 2 * (tWc t - tFo t)) : Nat) : Int) := h1
    show 0 ≤ (if rep = 0 then napp (tN t) (tPl t) (tFo t) (tWc t - tFo t) else napp (napp (tN t) (tPl t) (tFo t) (tWc t - tFo t)) (tPl t + (tWc t - tFo t)) (tFo t) (tWc t - tFo t)) j ∧ (if rep = 0 then napp (tN t) (tPl t) (tFo t) (tWc t - tFo t) else napp (napp (tN t) (tPl t) (tFo t) (tWc t - tFo t)) (tPl t + (tWc t - tFo t)) (tFo t) (tWc t - tFo t)) j < tWc t
    by_cases c : rep = 0
    · rw [if_pos c]
      rw [if_pos c] at h2
      exact w2 j h0 h2
    · rw [if_neg c]
      rw [if_neg c] at h2
      exact napp_at w2 (by omega) j h0 (by omega)
  refine ⟨⟨k1, k2, Nat.le_refl _, by show tPc t + 1 ≤ 8; omega, ?_, ⟨Int.le_refl _, by show (0 : Int) ≤ 1024; decide⟩, k7, k8, k9, fun j h0 h1 => ?_⟩, ⟨?_, ?_⟩, e4⟩
  · show tPl t + (if rep = 0 then (tWc t - tFo t) else 2 * (tWc t - tFo t)) ≤ 2 * tWc t
    split <;> omega
  · have := e4 j h0 h1
    omega
  · show (0 : Int) ≤ 16 * ((tWc t : Int) - tWc t)
    omega
  · show (tWc t : Int) - tWc t ≤ 0
    omega
theorem tset_all {α : Type} {p : α → Prop} {f : Nat → α} {n i : Nat} {x : α} (h : ∀ j, j < n → p (f j)) (hx : p x) : ∀ j, j < n → p (tset f i x j) := by
  intro j hj
  by_cases c : j = i
  · rw [c, tset_eq]; exact hx
  · rw [tset_ne c]; exact h j hj
theorem wf_wT {σ : ST} {t : Int} {x : TuS} (h : WF σ) (hx : tuX x) (hp : tPl (gT σ t) ≤ tPl x) : WF (wT σ t x) := ⟨⟨h.1.1, tset_all h.1.2 hx⟩, seOk_ts h.2.1 hp, h.2.2⟩
theorem wf_wP {σ : ST} {t : Int} {x : PiS} (h : WF σ) (hx : piOk x) : WF (wP σ t x) := ⟨h.1, h.2.1, ⟨h.2.2.1.1, tset_all h.2.2.1.2 hx⟩, h.2.2.2⟩
theorem wf_tune {σ : ST} (h : WF σ) {z : Int} : WF (sTune σ z).2 := by
  unfold sTune
  by_cases c1 : 0 ≤ z ∧ z ≤ 3
  · rw [if_pos c1]
    by_cases c2 : σ.1.1 < 10
    · rw [if_pos c2]
      obtain ⟨⟨a1, a2⟩, ⟨b1, b2, b3⟩, d⟩ := h
      refine ⟨⟨c2, fun i hi => ?_⟩, ⟨b1, b2, fun i hi => ?_⟩, d⟩
      · have hi2 : i < σ.1.1 + 1 := hi
        by_cases q : i = σ.1.1
        · subst q
          show tuX (tset _ _ _ _)
          rw [tset_eq]
          exact tuX_0 c1
        · show tuX (tset _ _ _ _)
          rw [tset_ne q]
          exact a2 i (by omega)
      · obtain ⟨y1, y2, y3⟩ := b3 i hi
        show σ.2.1.2.2.2.1 i < σ.1.1 + 1 ∧ 1 ≤ tPl (tset σ.1.2.2 σ.1.1 _ (σ.2.1.2.2.2.1 i)) ∧ _
        rw [tset_ne (by omega)]
        exact ⟨by omega, y2, y3⟩
    · rw [if_neg c2]; exact h
  · rw [if_neg c1]; exact h
theorem wf_note {σ : ST} (h : WF σ) {t a b g : Int} : WF (sNote σ t a b g).2 := by
  unfold sNote
  by_cases c1 : inT σ t
  · rw [if_pos c1]
    by_cases c2 : rgNote a b g
    · rw [if_pos c2]
      by_cases c3 : okNote (gT σ t) a b g
      · rw [if_pos c3]
        exact wf_wT h (tuX_note (h.1.2 _ (by have := c1.2; omega)) c2 c3) (Nat.le_refl _)
      · rw [if_neg c3]; exact h
    · rw [if_neg c2]; exact h
  · rw [if_neg c1]; exact h
theorem wf_part {σ : ST} (h : WF σ) {t rep : Int} : WF (sPart σ t rep).2 := by
  unfold sPart
  by_cases c1 : inT σ t
  · rw [if_pos c1]
    by_cases c2 : okPart (gT σ t)
    · rw [if_pos c2]
      exact wf_wT h (tuX_part (h.1.2 _ (by have := c1.2; omega)) c2) (Nat.le_add_right _ _)
    · rw [if_neg c2]; exact h
  · rw [if_neg c1]; exact h
theorem wf_follow {σ : ST} (h : WF σ) {t tp : Int} : WF (sFollow σ t tp).2 := by
  unfold sFollow
  by_cases c1 : inT σ t
  · rw [if_pos c1]
    by_cases c2 : 30 ≤ tp ∧ tp ≤ 600
    · rw [if_pos c2]
      by_cases c3 : okFol σ t tp
      · rw [if_pos c3]
        obtain ⟨a, ⟨b1, b2, b3⟩, d⟩ := h
        refine ⟨a, ⟨c3.1, fun _ => rfl, fun i hi => ?_⟩, d⟩
        have hi2 : i < σ.2.1.2.1 + 1 := hi
        show tset σ.2.1.2.2.2.1 σ.2.1.2.1 t.toNat i < σ.1.1 ∧ 1 ≤ tPl (σ.1.2.2 (tset σ.2.1.2.2.2.1 σ.2.1.2.1 t.toNat i)) ∧ 30 ≤ gupd σ.2.1.2.2.2.2 σ.2.1.2.1 tp i ∧ gupd σ.2.1.2.2.2.2 σ.2.1.2.1 tp i ≤ 600
        by_cases q : i = σ.2.1.2.1
        · subst q
          rw [tset_eq, gupd_eq]
          have := c1.2
          exact ⟨by omega, c3.2.1, c2⟩
        · rw [tset_ne q, gupd_ne (by omega)]
          exact b3 i (by omega)
      · rw [if_neg c3]; exact h
    · rw [if_neg c2]; exact h
  · rw [if_neg c1]; exact h
theorem wf_drop {σ : ST} (h : WF σ) : WF (sDrop σ).2 := by
  unfold sDrop
  by_cases c : 1 ≤ σ.2.1.2.1
  · rw [if_pos c]
    obtain ⟨a, ⟨b1, b2, b3⟩, d⟩ := h
    refine ⟨a, ⟨by show σ.2.1.2.1 - 1 ≤ 8; omega, fun _ => b2 (by omega), fun i hi => ?_⟩, d⟩
    have hi2 : i < σ.2.1.2.1 - 1 := hi
    exact b3 i (by omega)
  · rw [if_neg c]; exact h
theorem wf_piper {σ : ST} (h : WF σ) {a b e : Int} : WF (sPiper σ a b e).2 := by
  unfold sPiper
  by_cases c1 : rgPip a b e
  · rw [if_pos c1]
    by_cases c2 : σ.2.2.1.1 < 8
    · rw [if_pos c2]
      obtain ⟨a1, a2, ⟨b1, b2⟩, d⟩ := h
      refine ⟨a1, a2, ⟨c2, fun i hi => ?_⟩, d⟩
      have hi2 : i < σ.2.2.1.1 + 1 := hi
      by_cases q : i = σ.2.2.1.1
      · subst q
        show piOk (tset _ _ _ _)
        rw [tset_eq]
        exact ⟨c1.1, c1.2.1, c1.2.2, (show (-100 : Int) ≤ 0 ∧ (0 : Int) ≤ 100 by decide), (show (0 : Int) ≤ 0 ∧ (0 : Int) ≤ 40 by decide), (show (0 : Int) ≤ 0 ∧ (0 : Int) ≤ 100 by decide), Or.inl rfl⟩
      · show piOk (tset _ _ _ _)
        rw [tset_ne q]
        exact b2 i (by omega)
    · rw [if_neg c2]; exact h
  · rw [if_neg c1]; exact h
theorem wf_seat {σ : ST} (h : WF σ) {p b : Int} : WF (sSeat σ p b).2 := by
  unfold sSeat
  by_cases c1 : inP σ p
  · rw [if_pos c1]
    by_cases c2 : rgSeat (gP σ p) b
    · rw [if_pos c2]
      obtain ⟨k1, k2, k3, k4, k5, k6, k7⟩ := h.2.2.1.2 p.toNat (by have := c1.2; omega)
      exact wf_wP h ⟨k1, k2, k3, c2.2, k5, k6, k7⟩
    · rw [if_neg c2]; exact h
  · rw [if_neg c1]; exact h
theorem wf_rest {σ : ST} (h : WF σ) {p b : Int} (hb : b = 0 ∨ b = 1) : WF (sRest σ p b).2 := by
  unfold sRest
  by_cases c1 : inP σ p
  · rw [if_pos c1]
    obtain ⟨k1, k2, k3, k4, k5, k6, k7⟩ := h.2.2.1.2 p.toNat (by have := c1.2; omega)
    exact wf_wP h ⟨k1, k2, k3, k4, k5, k6, hb⟩
  · rw [if_neg c1]; exact h
theorem wf_play {σ : ST} (h : WF σ) {m r t : Int} : WF (sPlay σ m r t).2 := by
  unfold sPlay
  by_cases c1 : isMin m r t
  · rw [if_pos c1]
    refine ⟨h.1, h.2.1, ⟨h.2.2.1.1, fun i hi => ?_⟩, h.2.2.2⟩
    show piOk (advK σ.2.2.1.2.2 m.toNat r t σ.2.2.1.1 i)
    rw [advK_lt _ _ hi]
    exact pAdv_ok (h.2.2.1.2 i hi) c1.2.1 c1.2.2
  · rw [if_neg c1]; exact h
theorem tkK_new {bf : Nat → BaS} {n : Nat} {b : BaS} (hb : bTp b = 0) : tkK (tset bf n b) (n + 1) = tkK bf n ∧ misK (tset bf n b) (n + 1) = misK bf n := by
  refine ⟨?_, ?_⟩
  · show tkK (tset bf n b) n + (if bTp (tset bf n b n) = 1 then 1 else 0) = tkK bf n
    rw [tset_eq, hb, if_neg (by omega), tkK_cg (bg := bf) n (fun i hi => by rw [tset_ne (by omega)])]
    omega
  · show misK (tset bf n b) n + mm4 (tset bf n b n) = misK bf n
    rw [tset_eq, misK_cg (bg := bf) n (fun i hi => by rw [tset_ne (by omega)])]
    unfold mm4 mm1
    rw [hb]
    have z : ∀ x : Prop, ¬ ((0 : Int) = 1 ∧ x) := fun x y => absurd y.1 (by decide)
    rw [if_neg (z _), if_neg (z _), if_neg (z _), if_neg (z _)]
    omega
theorem baX_0 {c : Nat} {z : Int} (hz : 1 ≤ z ∧ z ≤ 5) : baX c (ba0 z) := by
  refine ⟨⟨hz, hz, ⟨Int.le_refl _, by show (0 : Int) ≤ 100000; decide⟩, ⟨Int.le_refl _, by show (-1 : Int) ≤ 9; decide⟩, ⟨Int.le_refl _, by show (-1 : Int) ≤ 100; decide⟩, ⟨Int.le_refl _, by show (0 : Int) ≤ 100000; decide⟩, Or.inl rfl, fun i _ _ => ⟨by show (-1 : Int) ≤ 0; decide, by show (0 : Int) ≤ 100; decide⟩, fun i _ _ => ⟨by show (0 : Int) ≤ 0; decide, by show (0 : Int) ≤ 9; decide⟩⟩, rfl, ?_, ?_⟩
  · show (0 : Int) ≤ 6 * c
    omega
  · show (0 : Int) ≤ c
    omega
theorem wf_band {σ : ST} (h : WF σ) {z : Int} : WF (sBand σ z).2 := by
  unfold sBand
  by_cases c1 : 1 ≤ z ∧ z ≤ 5
  · rw [if_pos c1]
    by_cases c2 : σ.2.2.2.1.1 < 8
    · rw [if_pos c2]
      obtain ⟨a1, a2, a3, b1, b2, b3⟩ := h
      obtain ⟨t1, t2⟩ := tkK_new (bf := σ.2.2.2.1.2.2.1) (n := σ.2.2.2.1.1) (b := ba0 z) rfl
      refine ⟨a1, a2, a3, c2, fun i hi => ?_, ?_⟩
      · have hi2 : i < σ.2.2.2.1.1 + 1 := hi
        by_cases q : i = σ.2.2.2.1.1
        · subst q
          show baX _ (tset _ _ _ _)
          rw [tset_eq]
          exact baX_0 c1
        · show baX _ (tset _ _ _ _)
          rw [tset_ne q]
          exact b2 i (by omega)
      · rcases b3 with ⟨x1, x2, x3⟩ | x
        · exact Or.inl ⟨x1, x2.trans t2.symm, by show 0 < tkK (tset _ _ _) _; rw [t1]; exact x3⟩
        · exact Or.inr x
    · rw [if_neg c2]; exact h
  · rw [if_neg c1]; exact h
theorem wf_contest {σ : ST} (h : WF σ) {g : Int} : WF (sContest σ g).2 := by
  unfold sContest
  by_cases c1 : 1 ≤ g ∧ g ≤ 5
  · rw [if_pos c1]
    by_cases c2 : opB σ = 1 ∨ cOg (fB σ) g (nB σ) < 2
    · rw [if_pos c2]; exact h
    · rw [if_neg c2]
      obtain ⟨a1, a2, a3, b1, b2, b3⟩ := h
      obtain ⟨m1, m2⟩ := ct_mis (bf := fB σ) (g := g) (n := nB σ) (nB σ) (Nat.le_refl _)
      refine ⟨a1, a2, a3, b1, fun i hi => ?_, Or.inl ⟨rfl, ?_, ?_⟩⟩
      · show baX _ (ctK (fB σ) g (nB σ) i)
        have e : ctK (fB σ) g (nB σ) i = ctB (fB σ i) g := if_pos hi
        rw [e]
        obtain ⟨⟨y1, y2, y3, y4, y5, y6, y7, y8, y9⟩, y10⟩ := b2 i hi
        refine ⟨⟨y1, y2, y3, y4, y5, y6, ?_, fun j h0 h1 => ?_, y9⟩, y10⟩
        · show (if bGr (fB σ i) = g then (1 : Int) else 0) = 0 ∨ (if bGr (fB σ i) = g then (1 : Int) else 0) = 1
          split <;> omega
        · show -1 ≤ gupd (gupd (gupd (gupd (bM (fB σ i)) 0 (-1)) 1 (-1)) 2 (-1)) 3 (-1) j ∧ gupd (gupd (gupd (gupd (bM (fB σ i)) 0 (-1)) 1 (-1)) 2 (-1)) 3 (-1) j ≤ 100
          have := y8 j h0 h1
          unfold gupd
          split
          · omega
          · split
            · omega
            · split
              · omega
              · split <;> omega
      · show cOg (fB σ) g (nB σ) * 4 = misK (ctK (fB σ) g (nB σ)) (nB σ)
        rw [m1]
        omega
      · show 0 < tkK (ctK (fB σ) g (nB σ)) (nB σ)
        rw [m2]
        omega
  · rw [if_neg c1]; exact h
theorem mm4_mk {b : BaS} {j m : Int} (hj : 0 ≤ j ∧ j ≤ 3) (ht : bTp b = 1) (hm : bM b j = -1) (hm2 : 0 ≤ m) : mm4 (bMk b j m) = mm4 b - 1 := by
  have e : ∀ k : Int, k ≠ j → mm1 (bMk b j m) k = mm1 b k := by
    intro k hk
    unfold mm1
    show (if bTp b = 1 ∧ gupd (bM b) j m k = -1 then (1 : Int) else 0) = _
    rw [gupd_ne hk]
  have e2 : mm1 (bMk b j m) j = mm1 b j - 1 := by
    unfold mm1
    show (if bTp b = 1 ∧ gupd (bM b) j m j = -1 then (1 : Int) else 0) = _
    rw [gupd_eq, if_neg (by omega), if_pos ⟨ht, hm⟩]
    omega
  unfold mm4
  rcases (show j = 0 ∨ j = 1 ∨ j = 2 ∨ j = 3 by omega) with rfl | rfl | rfl | rfl
  · rw [e2, e 1 (by omega), e 2 (by omega), e 3 (by omega)]; omega
  · rw [e2, e 0 (by omega), e 2 (by omega), e 3 (by omega)]; omega
  · rw [e2, e 0 (by omega), e 1 (by omega), e 3 (by omega)]; omega
  · rw [e2, e 0 (by omega), e 1 (by omega), e 2 (by omega)]; omega
theorem wf_mark {σ : ST} (h : WF σ) {j b m : Int} : WF (sMark σ j b m).2 := by
  unfold sMark
  by_cases c1 : (0 ≤ j ∧ j ≤ 3) ∧ inB σ b
  · rw [if_pos c1]
    by_cases c2 : 0 ≤ m ∧ m ≤ 100
    · rw [if_pos c2]
      by_cases c3 : okMark σ j b
      · rw [if_pos c3]
        obtain ⟨a1, a2, a3, b1, b2, b3⟩ := h
        have hb : b < ((nB σ : Nat) : Int) := c1.2.2
        have hb0 : 0 ≤ b := c1.2.1
        have hi : b.toNat < nB σ := by omega
        obtain ⟨⟨y1, y2, y3, y4, y5, y6, y7, y8, y9⟩, y10⟩ := b2 b.toNat hi
        refine ⟨a1, a2, a3, b1, tset_all b2 ⟨⟨y1, y2, y3, y4, y5, y6, y7, fun i h0 h1 => ?_, y9⟩, y10⟩, Or.inl ⟨c3.1, ?_, ?_⟩⟩
        · show -1 ≤ gupd (bM (gB σ b)) j m i ∧ gupd (bM (gB σ b)) j m i ≤ 100
          by_cases q : i = j
          · rw [q, gupd_eq]; omega
          · rw [gupd_ne q]; exact y8 i h0 h1
        · show miB σ - 1 = misK (tset (fB σ) b.toNat (bMk (gB σ b) j m)) (nB σ)
          rw [misK_set _ hi, mm4_mk c1.1 c3.2.1 c3.2.2 c2.1]
          rcases b3 with x | x
          · have := x.2.1
            show miB σ - 1 = misK (fB σ) (nB σ) - mm4 (fB σ b.toNat) + (mm4 (fB σ b.toNat) - 1)
            have e : miB σ = misK (fB σ) (nB σ) := x.2.1
            omega
          · have z1 := c3.1
            have z2 : opB σ = 0 := x.1
            omega
        · show 0 < tkK (tset (fB σ) b.toNat (bMk (gB σ b) j m)) (nB σ)
          rw [tkK_cg (bg := fB σ) _ (fun i hi => by
            by_cases q : i = b.toNat
            · rw [q, tset_eq]; rfl
            · rw [tset_ne q])]
          rcases b3 with x | x
          · exact x.2.2
          · have z1 := c3.1
            have z2 : opB σ = 0 := x.1
            omega
      · rw [if_neg c3]; exact h
    · rw [if_neg c2]; exact h
  · rw [if_neg c1]; exact h
theorem yAh_bd (bf : Nat → BaS) (i : Nat) : ∀ k : Nat, 0 ≤ yAh bf i k ∧ yAh bf i k ≤ k := fun k => by
  rw [yAh_is]
  exact xAh_bd bf i k
theorem ptOf_le (r : Int) : 0 ≤ ptOf r ∧ ptOf r ≤ 6 := by
  unfold ptOf
  split
  · rename_i c
    rcases (show r = 1 ∨ r = 2 ∨ r = 3 ∨ r = 4 ∨ r = 5 ∨ r = 6 by omega) with rfl | rfl | rfl | rfl | rfl | rfl <;> decide
  · omega
theorem rkK_po {bf : Nat → BaS} {n : Nat} : ∀ (k j : Nat), bPo (rkK bf n k j) ≤ bPo (bf j) + 6 ∧ bFi (rkK bf n k j) ≤ bFi (bf j) + 1
  | 0, j => by
    show bPo (bf j) ≤ bPo (bf j) + 6 ∧ bFi (bf j) ≤ bFi (bf j) + 1
    omega
  | k + 1, j => by
    have ih := rkK_po (bf := bf) (n := n) k j
    show bPo ((if bTp (bf k) = 1 then tset (rkK bf n k) k (bRank (bf k) (1 + xAh bf k n)) else rkK bf n k) j) ≤ _ ∧ bFi ((if bTp (bf k) = 1 then tset (rkK bf n k) k (bRank (bf k) (1 + xAh bf k n)) else rkK bf n k) j) ≤ _
    by_cases c : bTp (bf k) = 1
    · rw [if_pos c]
      by_cases q : j = k
      · subst q
        rw [tset_eq]
        have h1 := ptOf_le (1 + xAh bf j n)
        show bPo (bf j) + ptOf (1 + xAh bf j n) ≤ _ ∧ (if 1 + xAh bf j n = 1 then bFi (bf j) + 1 else bFi (bf j)) ≤ _
        refine ⟨by omega, ?_⟩
        split <;> omega
      · rw [tset_ne q]; exact ih
    · rw [if_neg c]; exact ih
theorem wf_close {σ : ST} (h : WF σ) (hc : σ.2.2.2.2 ≤ 10000) : WF (sClose σ).2 := by
  unfold sClose
  by_cases c1 : opB σ = 1 ∧ miB σ ≤ 0
  · rw [if_pos c1, yrkK_is]
    obtain ⟨a1, a2, a3, b1, b2, b3⟩ := h
    have hcl := fun i => clK_same (bf := fB σ) (n := nB σ) (nB σ) i
    have hok : ∀ i, i < nB σ → baOk (clK (fB σ) (nB σ) (nB σ) i) ∧ bPo (clK (fB σ) (nB σ) (nB σ) i) ≤ 90000 ∧ bFi (clK (fB σ) (nB σ) (nB σ) i) ≤ 90000 := by
      intro i hi
      obtain ⟨-, -, -, -, q5, q6⟩ := hcl i
      obtain ⟨y1, y2, y3, y4⟩ := b2 i hi
      have y3' : bPo (fB σ i) ≤ 6 * (σ.2.2.2.2 : Int) := y3
      have y4' : bFi (fB σ i) ≤ (σ.2.2.2.2 : Int) := y4
      exact ⟨clK_ok (fun k hk => (b2 k hk).1) b1 (nB σ) (Nat.le_refl _) i hi, by rw [q5]; omega, by rw [q6]; omega⟩
    refine ⟨a1, a2, a3, b1, fun i hi => ?_, Or.inr ⟨rfl, ?_⟩⟩
    · show baX (σ.2.2.2.2 + 1) (rkK (clK (fB σ) (nB σ) (nB σ)) (nB σ) (nB σ) i)
      have ok := rkK_ok hok b1 (nB σ) (Nat.le_refl _) i hi
      obtain ⟨-, -, -, p4, p5, -⟩ := rkK_same (bf := clK (fB σ) (nB σ) (nB σ)) (n := nB σ) (nB σ) i
      obtain ⟨-, -, q3, q4, q5, q6⟩ := hcl i
      have hp := rkK_po (bf := clK (fB σ) (nB σ) (nB σ)) (n := nB σ) (nB σ) i
      obtain ⟨y1, y2, y3, y4⟩ := b2 i hi
      refine ⟨ok, by rw [p5, p4, q4, q3]; exact y2, ?_, ?_⟩
      · have e : bPo (clK (fB σ) (nB σ) (nB σ) i) = bPo (fB σ i) := q5
        have y3' : bPo (fB σ i) ≤ 6 * (σ.2.2.2.2 : Int) := y3
        omega
      · have e : bFi (clK (fB σ) (nB σ) (nB σ) i) = bFi (fB σ i) := q6
        have y4' : bFi (fB σ i) ≤ (σ.2.2.2.2 : Int) := y4
        omega
    · show miB σ = 0
      rcases b3 with x | x
      · have e : miB σ = misK (fB σ) (nB σ) := x.2.1
        have := misK_bd (fB σ) (nB σ)
        omega
      · exact x.2
  · rw [if_neg c1]; exact h
theorem seaK_fi {bf : Nat → BaS} {n : Nat} : ∀ (g j : Nat), bFi (seaK bf n g j) = bFi (bf j)
  | 0, _ => rfl
  | g + 1, j => by
    have ih := seaK_fi (bf := bf) (n := n) g j
    have e1 : ∀ bg : Nat → BaS, ∀ z : Int, bFi (xUp bg n z j) = bFi (bg j) := by
      intro bg z
      unfold xUp
      split
      · by_cases q : j = (upB bg z n).1.toNat
        · rw [q, tset_eq]; rfl
        · rw [tset_ne q]
      · rfl
    have e2 : ∀ bg : Nat → BaS, ∀ z : Int, bFi (xDn bg n z j) = bFi (bg j) := by
      intro bg z
      unfold xDn
      split
      · by_cases q : j = (dnB bg z n).1.toNat
        · rw [q, tset_eq]; rfl
        · rw [tset_ne q]
      · rfl
    show bFi (xDn (xUp (seaK bf n g) n ((g : Int) + 2)) n ((g : Int) + 1) j) = bFi (bf j)
    rw [e2, e1, ih]
theorem begK_at {bf : Nat → BaS} : ∀ (k j : Nat), j < k → begK bf k j = bBeg (bf j)
  | 0, j, h => absurd h (Nat.not_lt_zero j)
  | k + 1, j, h => by
    show tset (begK bf k) k (bBeg (bf k)) j = _
    by_cases q : j = k
    · rw [q, tset_eq]
    · rw [tset_ne q]
      exact begK_at k j (by omega)
theorem wf_season {σ : ST} (h : WF σ) : WF (sSeason σ).2 := by
  unfold sSeason
  by_cases c1 : opB σ = 0
  · rw [if_pos c1]
    obtain ⟨a1, a2, a3, b1, b2, b3⟩ := h
    refine ⟨a1, a2, a3, b1, fun i hi => ?_, Or.inr ⟨c1, ?_⟩⟩
    · show baX _ (begK (seaK (fB σ) (nB σ) 4) (nB σ) i)
      have hi2 : i < nB σ := hi
      rw [begK_at _ _ hi2]
      obtain ⟨y1, y2, y3, y4, y5, y6, y7, y8, y9⟩ := seaK_ok (fun i hi => (b2 i hi).1) 4 (Nat.le_refl _) i hi
      refine ⟨⟨y2, y2, ⟨Int.le_refl _, by show (0 : Int) ≤ 100000; decide⟩, y4, y5, y6, y7, y8, y9⟩, rfl, ?_, ?_⟩
      · show (0 : Int) ≤ 6 * _
        omega
      · show bFi (seaK (fB σ) (nB σ) 4 i) ≤ _
        rw [seaK_fi]
        exact (b2 i hi).2.2.2
    · rcases b3 with x | x
      · have z2 : opB σ = 1 := x.1
        omega
      · exact x.2
  · rw [if_neg c1]; exact h
