/-! steps side by side: seasons -/
theorem upB_inv {bf : Nat → BaS} {g : Int} : ∀ k : Nat, ((upB bf g k).1 = -1 ∧ (upB bf g k).2 = 0 ∧ ∀ i, i < k → bGr (bf i) = g → bPo (bf i) ≤ 0) ∨
    (∃ j : Nat, j < k ∧ (upB bf g k).1 = j ∧ (upB bf g k).2 = bPo (bf j) ∧ bGr (bf j) = g ∧ 0 < bPo (bf j) ∧ ∀ i, i < k → bGr (bf i) = g → bPo (bf i) ≤ bPo (bf j) ∧ (i < j → bPo (bf i) < bPo (bf j)))
  | 0 => Or.inl ⟨rfl, rfl, fun i h => absurd h (Nat.not_lt_zero i)⟩
  | k + 1 => by
    have e : upB bf g (k + 1) = if bGr (bf k) = g ∧ (upB bf g k).2 < bPo (bf k) then ((k : Int), bPo (bf k)) else upB bf g k := rfl
    rw [e]
    rcases upB_inv (bf := bf) (g := g) k with ⟨h1, h2, h3⟩ | ⟨j, h1, h2, h3, h4, h5, h6⟩
    · rw [h2]
      by_cases q : bGr (bf k) = g ∧ 0 < bPo (bf k)
      · rw [if_pos q]
        refine Or.inr ⟨k, by omega, rfl, rfl, q.1, q.2, fun i hi hg => ?_⟩
        by_cases z : i = k
        · subst z; exact ⟨Int.le_refl _, fun x => absurd x (Nat.lt_irrefl _)⟩
        · have := h3 i (by omega) hg
          exact ⟨by omega, fun _ => by omega⟩
      · rw [if_neg q]
        refine Or.inl ⟨h1, h2, fun i hi hg => ?_⟩
        by_cases z : i = k
        · subst z
          exact Int.not_lt.mp (fun x => q ⟨hg, x⟩)
        · exact h3 i (by omega) hg
    · rw [h3]
      by_cases q : bGr (bf k) = g ∧ bPo (bf j) < bPo (bf k)
      · rw [if_pos q]
        refine Or.inr ⟨k, by omega, rfl, rfl, q.1, by omega, fun i hi hg => ?_⟩
        by_cases z : i = k
        · subst z; exact ⟨Int.le_refl _, fun x => absurd x (Nat.lt_irrefl _)⟩
        · have := (h6 i (by omega) hg).1
          exact ⟨by omega, fun _ => by omega⟩
      · rw [if_neg q]
        refine Or.inr ⟨j, by omega, h2, h3, h4, h5, fun i hi hg => ?_⟩
        by_cases z : i = k
        · subst z
          exact ⟨Int.not_lt.mp (fun x => q ⟨hg, x⟩), fun x => by omega⟩
        · exact h6 i (by omega) hg
theorem dnB_inv {bf : Nat → BaS} {g : Int} : ∀ k : Nat, ((dnB bf g k).1 = -1 ∧ ∀ i, i < k → ¬ bGr (bf i) = g) ∨
    (∃ j : Nat, j < k ∧ (dnB bf g k).1 = j ∧ (dnB bf g k).2 = bPo (bf j) ∧ bGr (bf j) = g ∧ ∀ i, i < k → bGr (bf i) = g → bPo (bf j) ≤ bPo (bf i) ∧ (j < i → bPo (bf j) < bPo (bf i)))
  | 0 => Or.inl ⟨rfl, fun i h => absurd h (Nat.not_lt_zero i)⟩
  | k + 1 => by
    have e : dnB bf g (k + 1) = if bGr (bf k) = g ∧ ((dnB bf g k).1 = -1 ∨ bPo (bf k) ≤ (dnB bf g k).2) then ((k : Int), bPo (bf k)) else dnB bf g k := rfl
    rw [e]
    rcases dnB_inv (bf := bf) (g := g) k with ⟨h1, h3⟩ | ⟨j, h1, h2, h3, h4, h6⟩
    · by_cases q : bGr (bf k) = g ∧ ((dnB bf g k).1 = -1 ∨ bPo (bf k) ≤ (dnB bf g k).2)
      · rw [if_pos q]
        refine Or.inr ⟨k, by omega, rfl, rfl, q.1, fun i hi hg => ?_⟩
        by_cases z : i = k
        · subst z; exact ⟨Int.le_refl _, fun x => absurd x (Nat.lt_irrefl _)⟩
        · exact absurd hg (h3 i (by omega))
      · rw [if_neg q]
        refine Or.inl ⟨h1, fun i hi hg => ?_⟩
        by_cases z : i = k
        · subst z
          exact q ⟨hg, Or.inl h1⟩
        · exact h3 i (by omega) hg
    · rw [h2, h3]
      by_cases q : bGr (bf k) = g ∧ ((j : Int) = -1 ∨ bPo (bf k) ≤ bPo (bf j))
      · rw [if_pos q]
        have q2 : bPo (bf k) ≤ bPo (bf j) := by
          rcases q.2 with x | x
          · omega
          · exact x
        refine Or.inr ⟨k, by omega, rfl, rfl, q.1, fun i hi hg => ?_⟩
        by_cases z : i = k
        · subst z; exact ⟨Int.le_refl _, fun x => absurd x (Nat.lt_irrefl _)⟩
        · have := (h6 i (by omega) hg).1
          exact ⟨by omega, fun _ => by omega⟩
      · rw [if_neg q]
        refine Or.inr ⟨j, by omega, h2, h3, h4, fun i hi hg => ?_⟩
        by_cases z : i = k
        · subst z
          have x : ¬ bPo (bf i) ≤ bPo (bf j) := fun x => q ⟨hg, Or.inr x⟩
          exact ⟨by omega, fun _ => by omega⟩
        · exact h6 i (by omega) hg
theorem cOg_le1 {bf : Nat → BaS} {g : Int} {j : Nat} : ∀ k : Nat, (∀ i, i < k → bGr (bf i) = g → i = j) → cOg bf g k ≤ if j < k then 1 else 0
  | 0, _ => by
    show (0 : Int) ≤ _
    split <;> omega
  | k + 1, h => by
    show cOg bf g k + (if bGr (bf k) = g then 1 else 0) ≤ _
    have ih := cOg_le1 k (fun i hi => h i (by omega))
    by_cases q : bGr (bf k) = g
    · have := h k (by omega) q
      subst this
      rw [if_neg (Nat.lt_irrefl _)] at ih
      rw [if_pos q, if_pos (by omega)]
      omega
    · rw [if_neg q]
      by_cases z : j < k
      · rw [if_pos z] at ih
        rw [if_pos (by omega)]
        omega
      · rw [if_neg z] at ih
        split <;> omega
theorem ud_ne {bf : Nat → BaS} {g : Int} {n : Nat} (h : 2 ≤ cOg bf g n) : 0 ≤ (dnB bf g n).1 ∧ ¬ (upB bf g n).1 = (dnB bf g n).1 := by
  rcases dnB_inv (bf := bf) (g := g) n with ⟨h1, h3⟩ | ⟨j, h1, h2, h3, h4, h6⟩
  · exfalso
    have := cOg_le1 (bf := bf) (g := g) (j := n) n (fun i hi hg => absurd hg (h3 i hi))
    rw [if_neg (Nat.lt_irrefl _)] at this
    omega
  · refine ⟨by rw [h2]; omega, fun e => ?_⟩
    rcases upB_inv (bf := bf) (g := g) n with ⟨k1, -, -⟩ | ⟨j2, k1, k2, k3, k4, k5, k6⟩
    · omega
    · have ej : j2 = j := by omega
      subst ej
      have := cOg_le1 (bf := bf) (g := g) (j := j2) n (fun i hi hg => by
        obtain ⟨a1, a2⟩ := k6 i hi hg
        obtain ⟨b1, b2⟩ := h6 i hi hg
        by_cases x : i < j2
        · have := a2 x
          omega
        · by_cases y : j2 < i
          · have := b2 y
            omega
          · omega)
      rw [if_pos h1] at this
      omega
/-- the next grades when the sends up from the grades pu and down from the grades pd are made -/
def NX (n : Nat) (U D : Int → Int) (two : Int → Prop) (gr : Nat → Int) (pu pd : Int → Prop) (N : Nat → Int) : Prop := ∀ k : Nat, k < n →
  (pu (gr k) ∧ U (gr k) = k → N k = gr k - 1) ∧ (¬ (pu (gr k) ∧ U (gr k) = k) → (pd (gr k) ∧ two (gr k) ∧ D (gr k) = k) → N k = gr k + 1) ∧ (¬ (pu (gr k) ∧ U (gr k) = k) → ¬ (pd (gr k) ∧ two (gr k) ∧ D (gr k) = k) → N k = gr k)
section NXs
variable {n : Nat} {U D : Int → Int} {two : Int → Prop} {gr : Nat → Int} {pu pd : Int → Prop} {N N2 : Nat → Int} {g : Int}
theorem NX_up (h : NX n U D two gr pu pd N) (hg : ∀ k : Nat, k < n → (k : Int) = U g → gr k = g) (h1 : ∀ k : Nat, k < n → (k : Int) = U g → N2 k = g - 1) (h2 : ∀ k : Nat, k < n → ¬ (k : Int) = U g → N2 k = N k) : NX n U D two gr (fun x => pu x ∨ x = g) pd N2 := by
  intro k hk
  obtain ⟨a1, a2, a3⟩ := h k hk
  show ((pu (gr k) ∨ gr k = g) ∧ U (gr k) = k → _) ∧ (¬ ((pu (gr k) ∨ gr k = g) ∧ U (gr k) = k) → _ → _) ∧ (¬ ((pu (gr k) ∨ gr k = g) ∧ U (gr k) = k) → _ → _)
  by_cases q : (k : Int) = U g
  · have e := hg k hk q
    have y : (pu (gr k) ∨ gr k = g) ∧ U (gr k) = k := ⟨Or.inr e, by rw [e]; exact q.symm⟩
    exact ⟨fun _ => by rw [h1 k hk q, e], fun z => absurd y z, fun z => absurd y z⟩
  · have e1 : ((pu (gr k) ∨ gr k = g) ∧ U (gr k) = k) → (pu (gr k) ∧ U (gr k) = k) := by
      rintro ⟨a | a, b⟩
      · exact ⟨a, b⟩
      · exact absurd (by rw [← a]; exact b.symm) q
    rw [h2 k hk q]
    exact ⟨fun z => a1 (e1 z), fun z1 z2 => a2 (fun y => z1 ⟨Or.inl y.1, y.2⟩) z2, fun z1 z2 => a3 (fun y => z1 ⟨Or.inl y.1, y.2⟩) z2⟩
theorem NX_dn (h : NX n U D two gr pu pd N) (hg : ∀ k : Nat, k < n → (k : Int) = D g → gr k = g) (hne : two g → ¬ U g = D g) (h1 : ∀ k : Nat, k < n → two g ∧ (k : Int) = D g → N2 k = g + 1) (h2 : ∀ k : Nat, k < n → ¬ (two g ∧ (k : Int) = D g) → N2 k = N k) : NX n U D two gr pu (fun x => pd x ∨ x = g) N2 := by
  intro k hk
  obtain ⟨a1, a2, a3⟩ := h k hk
  show _ ∧ (_ → ((pd (gr k) ∨ gr k = g) ∧ two (gr k) ∧ D (gr k) = k) → _) ∧ (_ → ¬ ((pd (gr k) ∨ gr k = g) ∧ two (gr k) ∧ D (gr k) = k) → _)
  by_cases q : two g ∧ (k : Int) = D g
  · have e := hg k hk q.2
    have y : (pd (gr k) ∨ gr k = g) ∧ two (gr k) ∧ D (gr k) = k := ⟨Or.inr e, by rw [e]; exact q.1, by rw [e]; exact q.2.symm⟩
    have nz : ¬ (pu (gr k) ∧ U (gr k) = k) := by
      rintro ⟨-, b⟩
      rw [e] at b
      exact hne q.1 (b.trans q.2)
    exact ⟨fun z => absurd z nz, fun _ _ => by rw [h1 k hk q, e], fun _ z => absurd y z⟩
  · have e1 : ((pd (gr k) ∨ gr k = g) ∧ two (gr k) ∧ D (gr k) = k) → (pd (gr k) ∧ two (gr k) ∧ D (gr k) = k) := by
      rintro ⟨a | a, b1, b2⟩
      · exact ⟨a, b1, b2⟩
      · exact absurd ⟨by rw [← a]; exact b1, by rw [← a]; exact b2.symm⟩ q
    rw [h2 k hk q]
    exact ⟨a1, fun z1 z2 => a2 z1 (e1 z2), fun z1 z2 => a3 z1 (fun y => z2 ⟨Or.inl y.1, y.2⟩)⟩
theorem NX_eq {pu2 pd2 : Int → Prop} (h : NX n U D two gr pu pd N) (h2 : NX n U D two gr pu2 pd2 N2) (e1 : ∀ x, pu x ↔ pu2 x) (e2 : ∀ x, pd x ↔ pd2 x) {k : Nat} (hk : k < n) : N k = N2 k := by
  obtain ⟨a1, a2, a3⟩ := h k hk
  obtain ⟨b1, b2, b3⟩ := h2 k hk
  rw [← e1, ← e2] at *
  by_cases x : pu (gr k) ∧ U (gr k) = k
  · rw [a1 x, b1 x]
  · by_cases y : pd (gr k) ∧ two (gr k) ∧ D (gr k) = k
    · rw [a2 x y, b2 x y]
    · rw [a3 x y, b3 x y]
end NXs
theorem mvK_tset {bf : Nat → BaS} {j : Nat} {b : BaS} (h1 : bGr (bf j) = bNg (bf j)) (h2 : ¬ bGr b = bNg b) : ∀ m : Nat, mvK (tset bf j b) m = mvK bf m + if j < m then 1 else 0
  | 0 => rfl
  | m + 1 => by
    show mvK (tset bf j b) m + (if bGr (tset bf j b m) = bNg (tset bf j b m) then 0 else 1) = mvK bf m + (if bGr (bf m) = bNg (bf m) then 0 else 1) + _
    rw [mvK_tset h1 h2 m]
    by_cases q : m = j
    · subst q
      rw [tset_eq, if_neg h2, if_pos h1, if_neg (Nat.lt_irrefl _), if_pos (Nat.lt_succ_self _)]
    · rw [tset_ne q]
      by_cases z : j < m
      · rw [if_pos z, if_pos (show j < m + 1 by omega)]
        omega
      · rw [if_neg z, if_neg (show ¬ j < m + 1 by omega)]
        omega
theorem upB_cg {bf bg : Nat → BaS} (h1 : ∀ k, bGr (bg k) = bGr (bf k)) (h2 : ∀ k, bPo (bg k) = bPo (bf k)) (g : Int) : ∀ k : Nat, upB bg g k = upB bf g k
  | 0 => rfl
  | k + 1 => by
    show (if bGr (bg k) = g ∧ (upB bg g k).2 < bPo (bg k) then ((k : Int), bPo (bg k)) else upB bg g k) = if bGr (bf k) = g ∧ (upB bf g k).2 < bPo (bf k) then ((k : Int), bPo (bf k)) else upB bf g k
    rw [upB_cg h1 h2 g k, h1, h2]
theorem dnB_cg {bf bg : Nat → BaS} (h1 : ∀ k, bGr (bg k) = bGr (bf k)) (h2 : ∀ k, bPo (bg k) = bPo (bf k)) (g : Int) : ∀ k : Nat, dnB bg g k = dnB bf g k
  | 0 => rfl
  | k + 1 => by
    show (if bGr (bg k) = g ∧ ((dnB bg g k).1 = -1 ∨ bPo (bg k) ≤ (dnB bg g k).2) then ((k : Int), bPo (bg k)) else dnB bg g k) = if bGr (bf k) = g ∧ ((dnB bf g k).1 = -1 ∨ bPo (bf k) ≤ (dnB bf g k).2) then ((k : Int), bPo (bf k)) else dnB bf g k
    rw [dnB_cg h1 h2 g k, h1, h2]
theorem cOg_cg {bf bg : Nat → BaS} (h1 : ∀ k, bGr (bg k) = bGr (bf k)) (g : Int) : ∀ k : Nat, cOg bg g k = cOg bf g k
  | 0 => rfl
  | k + 1 => by
    show cOg bg g k + (if bGr (bg k) = g then 1 else 0) = cOg bf g k + if bGr (bf k) = g then 1 else 0
    rw [cOg_cg h1 g k, h1]
/-- bands that differ from bf by their next grades alone -/
def sng (bf bg : Nat → BaS) : Prop := ∀ k, bg k = bNx (bf k) (bNg (bg k))
section SNG
variable {bf bg : Nat → BaS} {n : Nat} {pu pd : Int → Prop} {g : Int}
abbrev uG (bf : Nat → BaS) (n : Nat) (g : Int) : Int := (upB bf g n).1
abbrev dG (bf : Nat → BaS) (n : Nat) (g : Int) : Int := (dnB bf g n).1
abbrev tG2 (bf : Nat → BaS) (n : Nat) (g : Int) : Prop := 2 ≤ cOg bf g n
theorem sng_gr (h : sng bf bg) (k : Nat) : bGr (bg k) = bGr (bf k) := (congrArg bGr (h k)).trans rfl
theorem sng_po (h : sng bf bg) (k : Nat) : bPo (bg k) = bPo (bf k) := (congrArg bPo (h k)).trans rfl
theorem sng_set (h : sng bf bg) (j : Nat) (ng : Int) : sng bf (tset bg j (bNx (bg j) ng)) := by
  intro k
  by_cases q : k = j
  · subst q
    rw [tset_eq]
    show bNx (bg k) ng = bNx (bf k) ng
    rw [h k]
    rfl
  · rw [tset_ne q]
    exact h k
theorem uG_gr {k : Nat} (hk : (k : Int) = uG bf n g) : bGr (bf k) = g := by
  rcases upB_inv (bf := bf) (g := g) n with ⟨k1, -, -⟩ | ⟨j2, k1, k2, k3, k4, k5, k6⟩
  · have : (k : Int) = (upB bf g n).1 := hk
    omega
  · have : (k : Int) = (upB bf g n).1 := hk
    rw [show k = j2 by omega]
    exact k4
theorem dG_gr {k : Nat} (hk : (k : Int) = dG bf n g) : bGr (bf k) = g := by
  rcases dnB_inv (bf := bf) (g := g) n with ⟨k1, -⟩ | ⟨j2, k1, k2, k3, k4, k6⟩
  · have : (k : Int) = (dnB bf g n).1 := hk
    omega
  · have : (k : Int) = (dnB bf g n).1 := hk
    rw [show k = j2 by omega]
    exact k4
theorem uG_lt : uG bf n g < n := by
  rcases upB_inv (bf := bf) (g := g) n with ⟨k1, -, -⟩ | ⟨j2, k1, k2, k3, k4, k5, k6⟩
  · have : uG bf n g = -1 := k1
    omega
  · have : uG bf n g = j2 := k2
    omega
theorem dG_lt : dG bf n g < n := by
  rcases dnB_inv (bf := bf) (g := g) n with ⟨k1, -⟩ | ⟨j2, k1, k2, k3, k4, k6⟩
  · have : dG bf n g = -1 := k1
    omega
  · have : dG bf n g = j2 := k2
    omega
theorem c_up (hs : sng bf bg) (h : NX n (uG bf n) (dG bf n) (tG2 bf n) (fun k => bGr (bf k)) pu pd (fun k => bNg (bg k))) (hp : ¬ pu g) :
    sng bf (xUp bg n g) ∧ NX n (uG bf n) (dG bf n) (tG2 bf n) (fun k => bGr (bf k)) (fun x => pu x ∨ x = g) pd (fun k => bNg (xUp bg n g k)) ∧ mvK (xUp bg n g) n = mvK bg n + if 0 ≤ uG bf n g then 1 else 0 := by
  have eu : upB bg g n = upB bf g n := upB_cg (sng_gr hs) (sng_po hs) g n
  have hlt := uG_lt (bf := bf) (n := n) (g := g)
  have hgr : ∀ k : Nat, k < n → (k : Int) = uG bf n g → bGr (bf k) = g := fun k _ hk => uG_gr hk
  by_cases q : 0 ≤ uG bf n g
  · obtain ⟨j, hj⟩ := nat_of q
    have e : xUp bg n g = tset bg j (bNx (bg j) (g - 1)) := by
      unfold xUp
      rw [eu]
      rw [if_pos q, show (upB bf g n).1 = (j : Int) from hj]
      rfl
    have hjn : j < n := by omega
    have hgj := uG_gr (bf := bf) (n := n) (g := g) (k := j) hj.symm
    have hng : bNg (bg j) = g := by
      obtain ⟨a1, a2, a3⟩ := h j hjn
      have x1 : ¬ (pu (bGr (bf j)) ∧ uG bf n (bGr (bf j)) = j) := fun z => hp (by rw [← hgj]; exact z.1)
      have x2 : ¬ (pd (bGr (bf j)) ∧ tG2 bf n (bGr (bf j)) ∧ dG bf n (bGr (bf j)) = j) := fun z => by
        rw [hgj] at z
        exact (ud_ne z.2.1).2 (hj.trans z.2.2.symm)
      exact (a3 x1 x2).trans hgj
    rw [e]
    refine ⟨sng_set hs j (g - 1), NX_up h hgr (fun k hk hku => ?_) (fun k hk hku => ?_), ?_⟩
    · rw [show k = j by omega, tset_eq]
      rfl
    · rw [tset_ne (show k ≠ j from fun z => hku (by rw [z]; exact hj.symm))]
    · rw [mvK_tset (by rw [hng, sng_gr hs, hgj]) (by show ¬ bGr (bg j) = g - 1; rw [sng_gr hs, hgj]; omega) n, if_pos hjn, if_pos q]
  · have e : xUp bg n g = bg := by
      unfold xUp
      rw [eu]
      rw [if_neg q]
    rw [e, if_neg q]
    exact ⟨hs, NX_up h hgr (fun k hk hku => by omega) (fun k hk hku => rfl), by omega⟩
theorem c_dn (hs : sng bf bg) (h : NX n (uG bf n) (dG bf n) (tG2 bf n) (fun k => bGr (bf k)) pu pd (fun k => bNg (bg k))) (hp : ¬ pd g) :
    sng bf (xDn bg n g) ∧ NX n (uG bf n) (dG bf n) (tG2 bf n) (fun k => bGr (bf k)) pu (fun x => pd x ∨ x = g) (fun k => bNg (xDn bg n g k)) ∧ mvK (xDn bg n g) n = mvK bg n + if 2 ≤ cOg bf g n then 1 else 0 := by
  have eu : dnB bg g n = dnB bf g n := dnB_cg (sng_gr hs) (sng_po hs) g n
  have ec : cOg bg g n = cOg bf g n := cOg_cg (sng_gr hs) g n
  have hlt := dG_lt (bf := bf) (n := n) (g := g)
  have hgr : ∀ k : Nat, k < n → (k : Int) = dG bf n g → bGr (bf k) = g := fun k _ hk => dG_gr hk
  have hne : tG2 bf n g → ¬ uG bf n g = dG bf n g := fun z => (ud_ne z).2
  by_cases q : 2 ≤ cOg bf g n
  · have q0 := (ud_ne q).1
    obtain ⟨j, hj⟩ := nat_of q0
    have hj2 : dG bf n g = j := hj
    have e : xDn bg n g = tset bg j (bNx (bg j) (g + 1)) := by
      unfold xDn
      rw [eu, ec]
      rw [if_pos ⟨q, q0⟩, hj]
      rfl
    have hjn : j < n := by omega
    have hgj := dG_gr (bf := bf) (n := n) (g := g) (k := j) hj.symm
    have hng : bNg (bg j) = g := by
      obtain ⟨a1, a2, a3⟩ := h j hjn
      have x1 : ¬ (pu (bGr (bf j)) ∧ uG bf n (bGr (bf j)) = j) := fun z => by
        rw [hgj] at z
        exact hne q (z.2.trans hj2.symm)
      have x2 : ¬ (pd (bGr (bf j)) ∧ tG2 bf n (bGr (bf j)) ∧ dG bf n (bGr (bf j)) = j) := fun z => hp (by rw [← hgj]; exact z.1)
      exact (a3 x1 x2).trans hgj
    rw [e]
    refine ⟨sng_set hs j (g + 1), NX_dn h hgr hne (fun k hk hku => ?_) (fun k hk hku => ?_), ?_⟩
    · rw [show k = j by omega, tset_eq]
      rfl
    · rw [tset_ne (show k ≠ j from fun z => hku ⟨q, by rw [z]; exact hj2.symm⟩)]
    · rw [mvK_tset (by rw [hng, sng_gr hs, hgj]) (by show ¬ bGr (bg j) = g + 1; rw [sng_gr hs, hgj]; omega) n, if_pos hjn, if_pos q]
  · have e : xDn bg n g = bg := by
      unfold xDn
      rw [ec]
      rw [if_neg (fun z => q z.1)]
    rw [e, if_neg q]
    exact ⟨hs, NX_dn h hgr hne (fun k hk hku => absurd hku.1 q) (fun k hk hku => rfl), by omega⟩
end SNG
section SD
variable {bf : Nat → BaS} {n : Nat} {s : MS} {pu pd : Int → Prop} {g : Int}
theorem most_eq (h30 : ∀ k : Nat, k < n → s 30 k = bGr (bf k)) (h31 : ∀ k : Nat, k < n → s 31 k = bPo (bf k)) : ∀ k : Nat, k ≤ n → mMost s g k = (upB bf g k).1
  | 0, _ => rfl
  | k + 1, hk => by
    show (if s 30 k = g ∧ 0 < s 31 k ∧ (mMost s g k = -1 ∨ s 31 (mMost s g k) < s 31 k) then (k : Int) else mMost s g k) = (if bGr (bf k) = g ∧ (upB bf g k).2 < bPo (bf k) then ((k : Int), bPo (bf k)) else upB bf g k).1
    rw [most_eq h30 h31 k (by omega), h30 k (by omega), h31 k (by omega)]
    rcases upB_inv (bf := bf) (g := g) k with ⟨k1, k2, -⟩ | ⟨j2, k1, k2, k3, k4, k5, k6⟩
    · rw [k2]
      by_cases q : bGr (bf k) = g ∧ 0 < bPo (bf k)
      · rw [if_pos q, if_pos ⟨q.1, q.2, Or.inl k1⟩]
      · rw [if_neg q, if_neg (fun z => q ⟨z.1, z.2.1⟩)]
    · rw [k3]
      rw [k2, h31 j2 (by omega)]
      by_cases q : bGr (bf k) = g ∧ bPo (bf j2) < bPo (bf k)
      · rw [if_pos q, if_pos ⟨q.1, by omega, Or.inr q.2⟩]
      · rw [if_neg q, if_neg (fun z => q ⟨z.1, by
          rcases z.2.2 with x | x
          · omega
          · exact x⟩)]
        exact k2.symm
theorem few_eq (h30 : ∀ k : Nat, k < n → s 30 k = bGr (bf k)) (h31 : ∀ k : Nat, k < n → s 31 k = bPo (bf k)) : ∀ k : Nat, k ≤ n → mFew s g k = (dnB bf g k).1
  | 0, _ => rfl
  | k + 1, hk => by
    show (if s 30 k = g ∧ (mFew s g k = -1 ∨ s 31 k ≤ s 31 (mFew s g k)) then (k : Int) else mFew s g k) = (if bGr (bf k) = g ∧ ((dnB bf g k).1 = -1 ∨ bPo (bf k) ≤ (dnB bf g k).2) then ((k : Int), bPo (bf k)) else dnB bf g k).1
    rw [few_eq h30 h31 k (by omega), h30 k (by omega), h31 k (by omega)]
    rcases dnB_inv (bf := bf) (g := g) k with ⟨k1, -⟩ | ⟨j2, k1, k2, k3, k4, k6⟩
    · by_cases q : bGr (bf k) = g
      · rw [if_pos ⟨q, Or.inl k1⟩, if_pos ⟨q, Or.inl k1⟩]
      · rw [if_neg (fun z => q z.1), if_neg (fun z => q z.1)]
    · rw [k3]
      rw [k2, h31 j2 (by omega)]
      by_cases q : bGr (bf k) = g ∧ ((j2 : Int) = -1 ∨ bPo (bf k) ≤ bPo (bf j2))
      · rw [if_pos q, if_pos q]
      · rw [if_neg q, if_neg q]
        exact k2.symm
theorem r_up (hg : 1 < g) (hm : mMost s g (s 29 0).toNat = uG bf n g) {q : (Int → Int) × Int} (h : NX n (uG bf n) (dG bf n) (tG2 bf n) (fun k => bGr (bf k)) pu pd (fun k => q.1 k)) :
    NX n (uG bf n) (dG bf n) (tG2 bf n) (fun k => bGr (bf k)) (fun x => pu x ∨ x = g) pd (fun k => (mSe1 s g q).1 k) ∧ (mSe1 s g q).2 = q.2 + if 0 ≤ uG bf n g then 1 else 0 := by
  have hgr : ∀ k : Nat, k < n → (k : Int) = uG bf n g → bGr (bf k) = g := fun k _ hk => uG_gr hk
  unfold mSe1
  rw [hm]
  by_cases z : 0 ≤ uG bf n g
  · rw [if_pos ⟨hg, by omega⟩, if_pos z]
    refine ⟨NX_up h hgr (fun k hk hku => ?_) (fun k hk hku => gupd_ne hku), rfl⟩
    show gupd q.1 (uG bf n g) (g - 1) k = g - 1
    rw [hku, gupd_eq]
  · have z2 : uG bf n g = -1 := by
      rcases upB_inv (bf := bf) (g := g) n with ⟨k1, -, -⟩ | ⟨j2, k1, k2, -⟩
      · exact k1
      · have : uG bf n g = j2 := k2
        omega
    rw [if_neg (fun x => x.2 z2), if_neg z]
    exact ⟨NX_up h hgr (fun k hk hku => by omega) (fun k hk hku => rfl), by omega⟩
theorem r_dn (hg : g < 5) (hm : mFew s g (s 29 0).toNat = dG bf n g) (ho : mOg s g (s 29 0).toNat = cOg bf g n) {q : (Int → Int) × Int} (h : NX n (uG bf n) (dG bf n) (tG2 bf n) (fun k => bGr (bf k)) pu pd (fun k => q.1 k)) :
    NX n (uG bf n) (dG bf n) (tG2 bf n) (fun k => bGr (bf k)) pu (fun x => pd x ∨ x = g) (fun k => (mSe2 s g q).1 k) ∧ (mSe2 s g q).2 = q.2 + if 2 ≤ cOg bf g n then 1 else 0 := by
  have hgr : ∀ k : Nat, k < n → (k : Int) = dG bf n g → bGr (bf k) = g := fun k _ hk => dG_gr hk
  have hne : tG2 bf n g → ¬ uG bf n g = dG bf n g := fun z => (ud_ne z).2
  unfold mSe2
  rw [hm, ho]
  by_cases z : 2 ≤ cOg bf g n
  · rw [if_pos ⟨hg, by omega⟩, if_pos z]
    refine ⟨NX_dn h hgr hne (fun k hk hku => ?_) (fun k hk hku => gupd_ne (fun x => hku ⟨z, x⟩)), rfl⟩
    show gupd q.1 (dG bf n g) (g + 1) k = g + 1
    rw [hku.2, gupd_eq]
  · rw [if_neg (fun x => by omega), if_neg z]
    exact ⟨NX_dn h hgr hne (fun k hk hku => absurd hku.1 z) (fun k hk hku => rfl), by omega⟩
theorem cpN_lt {s : MS} : ∀ (k i : Nat), i < k → cpN s k i = s 30 i
  | 0, i, h => absurd h (Nat.not_lt_zero i)
  | k + 1, i, h => by
    show gupd (cpN s k) k (s 30 k) i = _
    by_cases q : i = k
    · rw [q, gupd_eq]
    · rw [gupd_ne (by omega)]
      exact cpN_lt k i (by omega)
theorem grN_at {s : MS} {f : Int → Int} : ∀ (k : Nat), (∀ i : Nat, i < k → grN s f k i = f i) ∧ (∀ i : Int, (i < 0 ∨ (k : Int) ≤ i) → grN s f k i = s 30 i)
  | 0 => ⟨fun i h => absurd h (Nat.not_lt_zero i), fun _ _ => rfl⟩
  | k + 1 => by
    obtain ⟨h1, h2⟩ := grN_at (s := s) (f := f) k
    refine ⟨fun i h => ?_, fun i h => ?_⟩
    · show gupd (grN s f k) k (f k) i = _
      by_cases q : i = k
      · rw [q, gupd_eq]
      · rw [gupd_ne (by omega)]
        exact h1 i (by omega)
    · show gupd (grN s f k) k (f k) i = _
      rw [gupd_ne (by omega)]
      exact h2 i (by omega)
theorem ptN_at {s : MS} : ∀ (k : Nat), (∀ i : Nat, i < k → ptN s k i = 0) ∧ (∀ i : Int, (i < 0 ∨ (k : Int) ≤ i) → ptN s k i = s 31 i)
  | 0 => ⟨fun i h => absurd h (Nat.not_lt_zero i), fun _ _ => rfl⟩
  | k + 1 => by
    obtain ⟨h1, h2⟩ := ptN_at (s := s) k
    refine ⟨fun i h => ?_, fun i h => ?_⟩
    · show gupd (ptN s k) k 0 i = _
      by_cases q : i = k
      · rw [q, gupd_eq]
      · rw [gupd_ne (by omega)]
        exact h1 i (by omega)
    · show gupd (ptN s k) k 0 i = _
      rw [gupd_ne (by omega)]
      exact h2 i (by omega)
theorem begK_lt {bf : Nat → BaS} : ∀ (k j : Nat), j < k → begK bf k j = bBeg (bf j)
  | 0, j, h => absurd h (Nat.not_lt_zero j)
  | k + 1, j, h => by
    show tset (begK bf k) k (bBeg (bf k)) j = _
    by_cases q : j = k
    · rw [q, tset_eq]
    · rw [tset_ne q]
      exact begK_lt k j (by omega)
theorem mvK_0 {bf : Nat → BaS} : ∀ (m : Nat), (∀ k, k < m → bNg (bf k) = bGr (bf k)) → mvK bf m = 0
  | 0, _ => rfl
  | m + 1, h => by
    show mvK bf m + (if bGr (bf m) = bNg (bf m) then 0 else 1) = 0
    rw [mvK_0 m (fun k hk => h k (by omega)), if_pos (h m (by omega)).symm]
    rfl
end SD
section SE
variable {c : Nat} {Q : XTs} {S : XSs} {P : XPs} {B : XBs} {s s2 : MS}
theorem sea_both {bf : Nat → BaS} {n : Nat} {s : MS} (h29 : s 29 0 = n) (h30 : ∀ k : Nat, k < n → s 30 k = bGr (bf k)) (h31 : ∀ k : Nat, k < n → s 31 k = bPo (bf k)) (hng : ∀ k : Nat, k < n → bNg (bf k) = bGr (bf k)) (hr : ∀ k : Nat, k < n → 1 ≤ bGr (bf k) ∧ bGr (bf k) ≤ 5) :
    (mSeaG s 5).2 = mvK (seaK bf n 4) n ∧ (∀ k : Nat, k < n → (mSeaG s 5).1 k = bNg (seaK bf n 4 k)) ∧ sng bf (seaK bf n 4) := by
  have hT : (s 29 0).toNat = n := by rw [h29]; rfl
  have hM : ∀ g, mMost s g (s 29 0).toNat = uG bf n g := fun g => by rw [hT]; exact most_eq h30 h31 n (Nat.le_refl _)
  have hF : ∀ g, mFew s g (s 29 0).toNat = dG bf n g := fun g => by rw [hT]; exact few_eq h30 h31 n (Nat.le_refl _)
  have hO : ∀ g, mOg s g (s 29 0).toNat = cOg bf g n := fun g => by rw [hT]; exact og_eq h30 n (Nat.le_refl _)
  have no5 : ∀ k : Nat, k < n → ¬ bGr (bf k) = -5 := fun k hk z => by have := hr k hk; omega
  have base : ∀ N : Nat → Int, (∀ k : Nat, k < n → N k = bGr (bf k)) → NX n (uG bf n) (dG bf n) (tG2 bf n) (fun k => bGr (bf k)) (fun x => x = -5) (fun x => x = -5) N := by
    intro N hN k hk
    exact ⟨fun z => absurd z.1 (no5 k hk), fun _ z => absurd z.1 (no5 k hk), fun _ _ => hN k hk⟩
  have c0 := base (fun k => bNg (bf k)) hng
  have s0 : sng bf bf := fun k => rfl
  obtain ⟨s1, c1, m1⟩ := c_up (g := 2) s0 c0 (by simp)
  obtain ⟨s2, c2, m2⟩ := c_dn (g := 1) s1 c1 (by simp)
  obtain ⟨s3, c3, m3⟩ := c_up (g := 3) s2 c2 (by simp)
  obtain ⟨s4, c4, m4⟩ := c_dn (g := 2) s3 c3 (by simp)
  obtain ⟨s5, c5, m5⟩ := c_up (g := 4) s4 c4 (by simp)
  obtain ⟨s6, c6, m6⟩ := c_dn (g := 3) s5 c5 (by simp)
  obtain ⟨s7, c7, m7⟩ := c_up (g := 5) s6 c6 (by simp)
  obtain ⟨s8, c8, m8⟩ := c_dn (g := 4) s7 c7 (by simp)
  have ec : seaK bf n 4 = xDn (xUp (xDn (xUp (xDn (xUp (xDn (xUp bf n 2) n 1) n 3) n 2) n 4) n 3) n 5) n 4 := rfl
  have r0 := base (fun k => (cpN s (s 29 0).toNat, (0 : Int)).1 k) (fun k hk => by
    show cpN s (s 29 0).toNat k = _
    rw [hT, cpN_lt n k hk, h30 k hk])
  obtain ⟨d1, q1⟩ := r_dn (g := 1) (by omega) (hF 1) (hO 1) r0
  obtain ⟨d2, q2⟩ := r_up (g := 2) (by omega) (hM 2) d1
  obtain ⟨d3, q3⟩ := r_dn (g := 2) (by omega) (hF 2) (hO 2) d2
  obtain ⟨d4, q4⟩ := r_up (g := 3) (by omega) (hM 3) d3
  obtain ⟨d5, q5⟩ := r_dn (g := 3) (by omega) (hF 3) (hO 3) d4
  obtain ⟨d6, q6⟩ := r_up (g := 4) (by omega) (hM 4) d5
  obtain ⟨d7, q7⟩ := r_dn (g := 4) (by omega) (hF 4) (hO 4) d6
  obtain ⟨d8, q8⟩ := r_up (g := 5) (by omega) (hM 5) d7
  have e1 : mSe1 s 1 (cpN s (s 29 0).toNat, 0) = (cpN s (s 29 0).toNat, 0) := mSe1_neg (by omega)
  have er : mSeaG s 5 = mSe1 s 5 (mSe2 s 4 (mSe1 s 4 (mSe2 s 3 (mSe1 s 3 (mSe2 s 2 (mSe1 s 2 (mSe2 s 1 (cpN s (s 29 0).toNat, 0)))))))) := by
    have e2 : mSeaG s 5 = mSe2 s 5 (mSe1 s 5 (mSe2 s 4 (mSe1 s 4 (mSe2 s 3 (mSe1 s 3 (mSe2 s 2 (mSe1 s 2 (mSe2 s 1 (mSe1 s 1 (cpN s (s 29 0).toNat, 0)))))))))) := rfl
    rw [e2, e1]
    exact mSe2_neg (by omega)
  rw [ec, er]
  refine ⟨?_, fun k hk => NX_eq d8 c8 (fun _ => Iff.rfl) (fun _ => Iff.rfl) hk, s8⟩
  rw [q8, q7, q6, q5, q4, q3, q2, q1, m8, m7, m6, m5, m4, m3, m2, m1, mvK_0 n hng]
  generalize (if 0 ≤ uG bf n 2 then (1 : Int) else 0) = x1
  generalize (if 0 ≤ uG bf n 3 then (1 : Int) else 0) = x2
  generalize (if 0 ≤ uG bf n 4 then (1 : Int) else 0) = x3
  generalize (if 0 ≤ uG bf n 5 then (1 : Int) else 0) = x4
  generalize (if 2 ≤ cOg bf 1 n then (1 : Int) else 0) = y1
  generalize (if 2 ≤ cOg bf 2 n then (1 : Int) else 0) = y2
  generalize (if 2 ≤ cOg bf 3 n then (1 : Int) else 0) = y3
  generalize (if 2 ≤ cOg bf 4 n then (1 : Int) else 0) = y4
  show (0 : Int) + y1 + x1 + y2 + x2 + y3 + x3 + y4 + x4 = 0 + x1 + y1 + x2 + y2 + x3 + y3 + x4 + y4
  omega
theorem st_season {r : Int} (H : Sim c Q S P B s) (M : MSeason s r s2) :
    (¬ B.2.2.2.1 = 0 → s2 39 0 = 1 ∧ Sim (c + 1) Q S P B s2) ∧
    (B.2.2.2.1 = 0 → s2 39 0 = 0 ∧ r = mvK (seaK B.2.2.1 B.1 4) B.1 ∧ Sim (c + 1) Q S P (B.1, B.2.1, begK (seaK B.2.2.1 B.1 4) B.1, B.2.2.2.1, B.2.2.2.2) s2) := by
  obtain ⟨V, t, u, d, ⟨⟨e1, e2⟩, e3, e4, e5, ⟨e6, e7⟩, e8, e9⟩⟩ := id H
  unfold MSeason at M
  rw [e6] at M
  rcases M with ⟨m1, m2, rfl⟩ | ⟨m1, s0, hs0, m2, hs2⟩
  · exact ⟨fun _ => ⟨rfl, Sim_th H (by omega)⟩, fun z => by omega⟩
  · refine ⟨fun z => by omega, fun hz => ?_⟩
    have V0 : VM s0 := by rw [hs0]; exact VM_th V 0 (by omega)
    have z29 : s0 29 0 = B.1 := by rw [hs0]; exact e1
    have hT : ((s 29 0)).toNat = B.1 := by rw [e1]; rfl
    obtain ⟨a1, a2, a3⟩ := sea_both (bf := B.2.2.1) (n := B.1) (s := s0) z29 (fun k hk => by rw [hs0]; exact (e3 k hk).2.1) (fun k hk => by rw [hs0]; exact (e3 k hk).2.2.2.1) (fun k hk => (e3 k hk).2.2.1) (fun k hk => (e3 k hk).1.1)
    have okS := seaK_ok (bf := B.2.2.1) (n := B.1) (fun i hi => (e3 i hi).1) 4 (by omega)
    rw [hT] at hs2
    have ehs : ∀ k, k ≠ 35 → k ≠ 30 → k ≠ 31 → k ≠ 39 → s2 k = s k := fun k c1 c2 c3 c4 => by
      rw [hs2, moS_ne c3, moS_ne c2, moS_ne c1, hs0, moS_ne c4]
    have h30 : s2 30 = grN s0 (mSeaG s0 5).1 B.1 := by rw [hs2]; rfl
    have h31 : s2 31 = ptN s0 B.1 := by rw [hs2]; rfl
    have z30 : s0 30 = s 30 := by rw [hs0]; rfl
    have z31 : s0 31 = s 31 := by rw [hs0]; rfl
    have h39 : s2 39 0 = 0 := by
      rw [hs2]
      show s0 39 0 = 0
      rw [hs0]
      rfl
    refine ⟨h39, m2.trans a1, ?_, ?_, ?_, ?_, ?_⟩
    · rw [hs2]
      have x1 := V0.set (j := 35) (f := (mSeaG s0 5).1) rfl (mSeaG_bd V0 5 (by omega))
      have x2 := x1.set (j := 30) (f := grN s0 (mSeaG s0 5).1 B.1) rfl (fun i => by
        by_cases q : i < 0 ∨ (B.1 : Int) ≤ i
        · rw [(grN_at (s := s0) B.1).2 i q]
          exact V0.at 30 i rfl
        · obtain ⟨k, rfl⟩ := nat_of (show 0 ≤ i by omega)
          rw [(grN_at (s := s0) B.1).1 k (by omega), a2 k (by omega)]
          have := (okS k (by omega)).2.1
          omega)
      refine x2.set (j := 31) rfl (fun i => ?_)
      by_cases q : i < 0 ∨ (B.1 : Int) ≤ i
      · rw [(ptN_at (s := s0) B.1).2 i q]
        exact V0.at 31 i rfl
      · obtain ⟨k, rfl⟩ := nat_of (show 0 ≤ i by omega)
        rw [(ptN_at (s := s0) B.1).1 k (by omega)]
        omega
    · exact SimT_cong (fun k h1 => ehs k (by omega) (by omega) (by omega) (by omega)) t
    · exact SimS_cong (fun k h1 h2 => ehs k (by omega) (by omega) (by omega) (by omega)) u
    · exact SimP_cong (fun k h1 h2 => ehs k (by omega) (by omega) (by omega) (by omega)) d
    · refine ⟨⟨by rw [ehs 29 (by omega) (by omega) (by omega) (by omega)]; exact e1, e2⟩, fun i hi => ?_, fun i h1 h2 => ?_, fun i => ?_, ⟨by rw [ehs 36 (by omega) (by omega) (by omega) (by omega)]; exact e6, e7⟩, fun z => ?_, e9⟩
      · show baOk (begK (seaK B.2.2.1 B.1 4) B.1 i) ∧ BS s2 i (begK (seaK B.2.2.1 B.1 4) B.1 i)
        have hi2 : i < B.1 := hi
        obtain ⟨y1, y2, y3, y4, y5, y6, y7⟩ := e3 i hi2
        have o := okS i hi2
        rw [begK_lt B.1 i hi2]
        refine ⟨?_, ?_⟩
        · obtain ⟨o1, o2, o3, o4⟩ := o
          exact ⟨o2, o2, ⟨Int.le_refl _, by show (0 : Int) ≤ 100000; decide⟩, o4⟩
        · unfold BS
          rw [h30, h31, (grN_at (s := s0) B.1).1 i hi2, (ptN_at (s := s0) B.1).1 i hi2, a2 i hi2, ehs 32 (by omega) (by omega) (by omega) (by omega), ehs 33 (by omega) (by omega) (by omega) (by omega), ehs 34 (by omega) (by omega) (by omega) (by omega), y5, y6, y7]
          have e := a3 i
          refine ⟨rfl, rfl, rfl, ?_, ?_, ?_⟩
          · exact (congrArg bRk e).symm
          · exact (congrArg bSu e).symm
          · exact (congrArg bFi e).symm
      · have h3 : B.1 ≤ i := h1
        rw [h31, (ptN_at (s := s0) B.1).2 i (by omega), z31, ehs 34 (by omega) (by omega) (by omega) (by omega)]
        exact e4 i h3 h2
      · rw [h31, ehs 34 (by omega) (by omega) (by omega) (by omega)]
        obtain ⟨f1, f2⟩ := e5 i
        by_cases q : i < 0 ∨ (B.1 : Int) ≤ i
        · rw [(ptN_at (s := s0) B.1).2 i q, z31]
          omega
        · obtain ⟨k, rfl⟩ := nat_of (show 0 ≤ i by omega)
          rw [(ptN_at (s := s0) B.1).1 k (by omega)]
          omega
      · have z2 : B.2.2.2.1 = 1 := z
        omega
end SE
