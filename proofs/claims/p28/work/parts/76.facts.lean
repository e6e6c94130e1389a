/-! what a drawn call does, as the law asks for it -/
section FX
variable {σ : ST}
abbrev i64 (z : Int) : Prop := 0 ≤ z ∧ z ≤ 64
theorem f_tune (wf : WF σ) {z : Int} (hz : 0 ≤ z ∧ z ≤ 3) : (((σ.1.1 : Nat) : Int) < 10 ∧ ∃ σ2 : ST, stp σ 0 z 0 0 0 = (((σ.1.1 : Nat) : Int), σ2) ∧ ((σ2.1.1 : Nat) : Int) = ((σ.1.1 : Nat) : Int) + 1 ∧ σ2.2 = σ.2) ∨ (10 ≤ ((σ.1.1 : Nat) : Int) ∧ stp σ 0 z 0 0 0 = (-7000003, σ)) := by
  by_cases c : σ.1.1 < 10
  · refine Or.inl ⟨by omega, _, (if_pos hz).trans (if_pos c), ?_, rfl⟩
    show ((σ.1.1 + 1 : Nat) : Int) = _
    omega
  · exact Or.inr ⟨by omega, (if_pos hz).trans (if_neg c)⟩
theorem f_piper (wf : WF σ) {a b c : Int} (hr : rgPip a b c) : (((σ.2.2.1.1 : Nat) : Int) < 8 ∧ ∃ σ2 : ST, stp σ 9 a b c 0 = (((σ.2.2.1.1 : Nat) : Int), σ2) ∧ ((σ2.2.2.1.1 : Nat) : Int) = ((σ.2.2.1.1 : Nat) : Int) + 1 ∧ σ2.1 = σ.1 ∧ σ2.2.2.2 = σ.2.2.2) ∨ (8 ≤ ((σ.2.2.1.1 : Nat) : Int) ∧ stp σ 9 a b c 0 = (-7000003, σ)) := by
  by_cases q : σ.2.2.1.1 < 8
  · refine Or.inl ⟨by omega, _, (if_pos hr).trans (if_pos q), ?_, rfl, rfl⟩
    show ((σ.2.2.1.1 + 1 : Nat) : Int) = _
    omega
  · exact Or.inr ⟨by omega, (if_pos hr).trans (if_neg q)⟩
theorem f_band (wf : WF σ) {z : Int} (hz : 1 ≤ z ∧ z ≤ 5) : (((nB σ : Nat) : Int) < 8 ∧ ∃ σ2 : ST, stp σ 16 z 0 0 0 = (((nB σ : Nat) : Int), σ2) ∧ ((nB σ2 : Nat) : Int) = ((nB σ : Nat) : Int) + 1 ∧ σ2.1 = σ.1 ∧ σ2.2.2.1 = σ.2.2.1 ∧ opB σ2 = opB σ ∧ σ2.2.2.2.2 = σ.2.2.2.2) ∨ (8 ≤ ((nB σ : Nat) : Int) ∧ stp σ 16 z 0 0 0 = (-7000003, σ)) := by
  by_cases q : σ.2.2.2.1.1 < 8
  · refine Or.inl ⟨by show ((σ.2.2.2.1.1 : Nat) : Int) < 8; omega, _, (if_pos hz).trans (if_pos q), ?_, rfl, rfl, rfl, rfl⟩
    show ((σ.2.2.2.1.1 + 1 : Nat) : Int) = ((σ.2.2.2.1.1 : Nat) : Int) + 1
    omega
  · exact Or.inr ⟨by show 8 ≤ ((σ.2.2.2.1.1 : Nat) : Int); omega, (if_pos hz).trans (if_neg q)⟩
/-- the open notes and the parts of a tune -/
abbrev vOp (σ : ST) (i : Int) : Int := (tWc (gT σ i) : Int) - tFo (gT σ i)
abbrev vPa (σ : ST) (i : Int) : Int := (tPc (gT σ i) : Int)
abbrev vPl (σ : ST) (i : Int) : Int := (tPl (gT σ i) : Int)
theorem f_tq (wf : WF σ) {i : Int} (hi : 0 ≤ i ∧ i < ((σ.1.1 : Nat) : Int)) : (0 ≤ vOp σ i ∧ vOp σ i ≤ 64) ∧ (0 ≤ vPa σ i ∧ vPa σ i ≤ 8) ∧ (0 ≤ vPl σ i ∧ vPl σ i ≤ 128) := by
  obtain ⟨k1, k2, k3, k4, k5, -⟩ := wf.T i.toNat (by omega)
  have e1 : tWc (gT σ i) ≤ 64 := k2
  have e2 : tFo (gT σ i) ≤ tWc (gT σ i) := k3
  have e3 : tPc (gT σ i) ≤ 8 := k4
  have e4 : tPl (gT σ i) ≤ 2 * tFo (gT σ i) := k5
  refine ⟨⟨?_, ?_⟩, ⟨?_, ?_⟩, ?_, ?_⟩
  · show 0 ≤ (tWc (gT σ i) : Int) - tFo (gT σ i); omega
  · show (tWc (gT σ i) : Int) - tFo (gT σ i) ≤ 64; omega
  · show 0 ≤ (tPc (gT σ i) : Int); omega
  · show (tPc (gT σ i) : Int) ≤ 8; omega
  · show 0 ≤ (tPl (gT σ i) : Int); omega
  · show (tPl (gT σ i) : Int) ≤ 128; omega
theorem f_of6 {i : Int} (hi : 0 ≤ i ∧ i < ((σ.1.1 : Nat) : Int)) : sOfTune σ i 6 = (vOp σ i, σ) := (if_pos hi).trans (if_pos (by decide))
theorem f_of5 {i : Int} (hi : 0 ≤ i ∧ i < ((σ.1.1 : Nat) : Int)) : sOfTune σ i 5 = (vPa σ i, σ) := (if_pos hi).trans (if_pos (by decide))
theorem f_of1 {i : Int} (hi : 0 ≤ i ∧ i < ((σ.1.1 : Nat) : Int)) : sOfTune σ i 1 = (vPl σ i, σ) := (if_pos hi).trans (if_pos (by decide))
theorem f_note (wf : WF σ) {i a b g : Int} (hi : 0 ≤ i ∧ i < ((σ.1.1 : Nat) : Int)) (hr : rgNote a b g) : (∃ (r : Int) (σ2 : ST), stp σ 1 i a b g = (r, σ2) ∧ (1 ≤ r ∧ r ≤ 64) ∧ vOp σ2 i = vOp σ i + 1 ∧ σ2.1.1 = σ.1.1 ∧ σ2.2 = σ.2) ∨ (stp σ 1 i a b g = (-7000003, σ)) := by
  by_cases c : okNote (gT σ i) a b g
  · have hw := c.1
    have h2 := wf.T i.toNat (by omega)
    have h3 : tFo (gT σ i) ≤ tWc (gT σ i) := h2.2.2.1
    refine Or.inl ⟨_, _, (if_pos hi).trans ((if_pos hr).trans (if_pos c)), ⟨by omega, by omega⟩, ?_, rfl, rfl⟩
    have e : gT (wT σ i (tNote (gT σ i) a b g)) i = tNote (gT σ i) a b g := tset_eq
    show (tWc (gT (wT σ i (tNote (gT σ i) a b g)) i) : Int) - tFo (gT (wT σ i (tNote (gT σ i) a b g)) i) = (tWc (gT σ i) : Int) - tFo (gT σ i) + 1
    rw [e]
    show ((tWc (gT σ i) + 1 : Nat) : Int) - tFo (gT σ i) = _
    omega
  · exact Or.inr ((if_pos hi).trans ((if_pos hr).trans (if_neg c)))
theorem f_part (wf : WF σ) {i b : Int} (hi : 0 ≤ i ∧ i < ((σ.1.1 : Nat) : Int)) : (∃ (r : Int) (σ2 : ST), stp σ 2 i b 0 0 = (r, σ2) ∧ (1 ≤ r ∧ r ≤ 1024) ∧ vPa σ2 i = vPa σ i + 1 ∧ vOp σ2 i = 0 ∧ σ2.1.1 = σ.1.1 ∧ σ2.2 = σ.2) ∨ (stp σ 2 i b 0 0 = (-7000003, σ)) := by
  by_cases c : okPart (gT σ i)
  · have h2 := wf.1.2 i.toNat (by omega)
    have h3 : (tWc (gT σ i) : Int) - tFo (gT σ i) ≤ tOu (gT σ i) := h2.2.1.2
    have h4 : tOu (gT σ i) ≤ 1024 := h2.1.2.2.2.2.2.1.2
    have h5 := c.2.1
    have h6 := c.2.2
    have bU := barU_r (tKd (gT σ i))
    have e1 := Int.emod_add_mul_ediv (tOu (gT σ i)) (barU (tKd (gT σ i)))
    have hb : 1 ≤ tOu (gT σ i) / barU (tKd (gT σ i)) ∧ tOu (gT σ i) / barU (tKd (gT σ i)) ≤ 1024 := by
      have p1 : 0 ≤ tOu (gT σ i) / barU (tKd (gT σ i)) := Int.ediv_nonneg (by omega) (by omega)
      have p2 := Int.ediv_le_self (barU (tKd (gT σ i))) (show 0 ≤ tOu (gT σ i) by omega)
      refine ⟨?_, by omega⟩
      by_cases q : tOu (gT σ i) / barU (tKd (gT σ i)) = 0
      · rw [q, Int.mul_zero] at e1
        omega
      · omega
    refine Or.inl ⟨_, _, (if_pos hi).trans (if_pos c), hb, ?_, ?_, rfl, rfl⟩
    · have e : gT (wT σ i (tPart (gT σ i) (if b = 1 then 1 else 0))) i = tPart (gT σ i) (if b = 1 then 1 else 0) := tset_eq
      show (tPc (gT (wT σ i (tPart (gT σ i) (if b = 1 then 1 else 0))) i) : Int) = (tPc (gT σ i) : Int) + 1
      rw [e]
      show ((tPc (gT σ i) + 1 : Nat) : Int) = _
      omega
    · have e : gT (wT σ i (tPart (gT σ i) (if b = 1 then 1 else 0))) i = tPart (gT σ i) (if b = 1 then 1 else 0) := tset_eq
      show (tWc (gT (wT σ i (tPart (gT σ i) (if b = 1 then 1 else 0))) i) : Int) - tFo (gT (wT σ i (tPart (gT σ i) (if b = 1 then 1 else 0))) i) = 0
      rw [e]
      show (tWc (gT σ i) : Int) - tWc (gT σ i) = 0
      omega
  · exact Or.inr ((if_pos hi).trans (if_neg c))
theorem f_alike {a b : Int} (ha : 0 ≤ a ∧ a < ((σ.1.1 : Nat) : Int)) (hb : 0 ≤ b ∧ b < ((σ.1.1 : Nat) : Int)) : ∃ m : Nat, sAlike σ a b = ((m : Int), σ) ∧ sAlike σ b a = ((m : Int), σ) ∧ (m : Int) ≤ vPl σ a := by
  have e : vAlike σ b a = vAlike σ a b := isAlike_one (vAlike_is σ b a) (isAlike_sym (vAlike_is σ a b))
  refine ⟨vAlike σ a b, if_pos ⟨ha, hb⟩, ?_, ?_⟩
  · rw [← e]
    exact if_pos ⟨hb, ha⟩
  · have h := (vAlike_is σ a b).2
    have h2 : vAlike σ a b ≤ tPl (gT σ a) := by
      rcases h with h | ⟨k, j, hk, hj, h3⟩
      · omega
      · have := suf_le1 (hts (gT σ a)) (hts (gT σ b)) k j
        omega
    show (vAlike σ a b : Int) ≤ (tPl (gT σ a) : Int)
    omega
theorem f_self {a : Int} (ha : 0 ≤ a ∧ a < ((σ.1.1 : Nat) : Int)) : sAlike σ a a = (vPl σ a, σ) := by
  have e : vAlike σ a a = tPl (gT σ a) := if_pos rfl
  have h : sAlike σ a a = ((vAlike σ a a : Int), σ) := if_pos ⟨ha, ha⟩
  rw [h, e]
theorem f_follow (wf : WF σ) {a tp : Int} (ha : 0 ≤ a ∧ a < ((σ.1.1 : Nat) : Int)) (ht : 30 ≤ tp ∧ tp ≤ 600) : (∃ (r : Int) (σ2 : ST), stp σ 7 a tp 0 0 = (r, σ2) ∧ (1 ≤ r ∧ r ≤ 8) ∧ (∃ σ3 : ST, sDrop σ2 = (a, σ3) ∧ σ3.1 = σ.1 ∧ σ3.2.2 = σ.2.2) ∧ σ2.1 = σ.1 ∧ σ2.2.2 = σ.2.2) ∨ (stp σ 7 a tp 0 0 = (-7000003, σ)) := by
  by_cases c : okFol σ a tp
  · have c1 := c.1
    refine Or.inl ⟨_, _, (if_pos ha).trans ((if_pos ht).trans (if_pos c)), ⟨by omega, by omega⟩, ⟨wS σ (true, σ.2.1.2.1 + 1 - 1, σ.2.1.2.2.1 + 1 + 1, tset σ.2.1.2.2.2.1 σ.2.1.2.1 a.toNat, gupd σ.2.1.2.2.2.2 σ.2.1.2.1 tp), ?_, rfl, rfl⟩, rfl, rfl⟩
    have e : tset σ.2.1.2.2.2.1 σ.2.1.2.1 a.toNat (σ.2.1.2.1 + 1 - 1) = a.toNat := by
      rw [show σ.2.1.2.1 + 1 - 1 = σ.2.1.2.1 by omega, tset_eq]
    refine (if_pos (show 1 ≤ σ.2.1.2.1 + 1 by omega)).trans ?_
    refine congrArg (fun q : Int => (q, wS σ (true, σ.2.1.2.1 + 1 - 1, σ.2.1.2.2.1 + 1 + 1, tset σ.2.1.2.2.2.1 σ.2.1.2.1 a.toNat, gupd σ.2.1.2.2.2.2 σ.2.1.2.1 tp))) ?_
    show ((tset σ.2.1.2.2.2.1 σ.2.1.2.1 a.toNat (σ.2.1.2.1 + 1 - 1) : Nat) : Int) = a
    rw [e]
    omega
  · exact Or.inr ((if_pos ha).trans ((if_pos ht).trans (if_neg c)))
theorem gSp_ext {pf pg : Nat → PiS} {n : Nat} {w : Int} (h : ∀ j, j < n → pf j = pg j) : gSp pf n w = gSp pg n w := by
  unfold gSp gCnt gRow
  rw [gat_ext n h]
theorem f_min {m r t : Int} (h : isMin m r t) : ∃ (v : Int) (σ2 : ST), sAhead σ m r t = (v, σ) ∧ sPlay σ m r t = (v, σ2) ∧ sSpread σ2 = (v, σ2) ∧ σ2.1 = σ.1 ∧ σ2.2.1 = σ.2.1 ∧ σ2.2.2.1.1 = σ.2.2.1.1 ∧ σ2.2.2.2 = σ.2.2.2 := by
  have e : gSp (advA σ.2.2.1.2.2 m.toNat r t) σ.2.2.1.1 (-1) = gSp (advK σ.2.2.1.2.2 m.toNat r t σ.2.2.1.1) σ.2.2.1.1 (-1) := gSp_ext (fun j hj => (advK_lt _ _ hj).symm)
  refine ⟨gSp (advK σ.2.2.1.2.2 m.toNat r t σ.2.2.1.1) σ.2.2.1.1 (-1), (σ.1, σ.2.1, (σ.2.2.1.1, σ.2.2.1.2.1, advK σ.2.2.1.2.2 m.toNat r t σ.2.2.1.1), σ.2.2.2), ?_, if_pos h, rfl, rfl, rfl, rfl, rfl⟩
  rw [← e]
  exact if_pos h
end FX
