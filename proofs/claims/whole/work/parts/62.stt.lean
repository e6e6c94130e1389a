/-! steps side by side: tunes and the set -/
section ST
variable {c : Nat} {Q : XTs} {S : XSs} {P : XPs} {B : XBs} {s s2 : MS}
theorem nat_of {t : Int} (h : 0 ≤ t) : ∃ i : Nat, t = (i : Int) := ⟨t.toNat, by omega⟩
theorem xt0_ok {z : Int} (hz : 0 ≤ z ∧ z ≤ 3) : tuOk (z, 0, 0, 0, 0, 0, (fun _ => 0), (fun _ => 0), (fun _ => 0), (fun _ => 0), (fun _ => 0)) := by
  refine ⟨hz, Nat.zero_le _, Nat.le_refl _, Nat.zero_le _, Nat.zero_le _, ⟨Int.le_refl _, (show (0 : Int) ≤ 1024 by decide)⟩, fun _ => ⟨Int.le_refl _, (show (0 : Int) ≤ 8 by decide)⟩, fun _ => ⟨Int.le_refl _, (show (0 : Int) ≤ 16 by decide)⟩, fun _ => ⟨Int.le_refl _, (show (0 : Int) ≤ 8 by decide)⟩, fun i h0 h1 => ?_⟩
  have h2 : i < ((0 : Nat) : Int) := h1
  omega
theorem st_tune {z r : Int} (H : Sim c Q S P B s) (M : MTune s z r s2) :
    ((0 ≤ z ∧ z ≤ 3) ∧ Q.1 < 10 → s2 39 0 = 0 ∧ r = (Q.1 : Int) ∧ Sim (c + 1) (Q.1 + 1, Q.2.1 + 1, tset Q.2.2 Q.1 (z, 0, 0, 0, 0, 0, (fun _ => 0), (fun _ => 0), (fun _ => 0), (fun _ => 0), (fun _ => 0))) S P B s2) ∧
    (¬ (0 ≤ z ∧ z ≤ 3) → s2 39 0 = 1 ∧ Sim (c + 1) Q S P B s2) ∧ ((0 ≤ z ∧ z ≤ 3) ∧ ¬ Q.1 < 10 → s2 39 0 = 2 ∧ Sim (c + 1) Q S P B s2) := by
  obtain ⟨V, ⟨⟨a1, a2⟩, a3, a4⟩, ⟨b1, b2, b3⟩, d, e⟩ := id H
  rcases M with ⟨m1, m2, rfl⟩ | ⟨m1, m0, m2, rfl⟩ | ⟨m1, m0, m2, rfl⟩
  · exact ⟨fun z => absurd z.1 m1, fun _ => ⟨rfl, Sim_th H (by omega)⟩, fun z => absurd z.1 m1⟩
  · exact ⟨fun z => by omega, fun z => absurd m1 z, fun _ => ⟨rfl, Sim_th H (by omega)⟩⟩
  · refine ⟨fun hz => ⟨rfl, by omega, ?_, ?_, ?_, ?_, ?_⟩, fun z => absurd m1 z, fun z => by omega⟩
    · have v1 := (VM_th V 0 (by omega)).set (j := 1) (f := gupd (s 1) (s 0 0) z) rfl (gupd_bd (fun i => V.at 1 i rfl) m1)
      exact v1.set (j := 0) rfl (fun _ => ⟨by omega, by omega⟩)
    · have tn := TS_new (s := s) (i := (Q.1 : Int)) (z := z) (a4 Q.1 (Nat.le_refl _) hz.2).1 (a4 Q.1 (Nat.le_refl _) hz.2).2
      rw [a1]
      rw [a1] at tn
      refine ⟨⟨rfl, hz.2⟩, fun i hi => ?_, fun i h1 h2 => ?_⟩
      · by_cases q : i = Q.1
        · subst q
          show tuOk (tset Q.2.2 Q.1 _ Q.1) ∧ TS _ _ (tset Q.2.2 Q.1 _ Q.1)
          rw [tset_eq]
          exact ⟨xt0_ok m1, tn⟩
        · have hi2 : i < Q.1 := by
            have : i < Q.1 + 1 := hi
            omega
          show tuOk (tset Q.2.2 Q.1 _ i) ∧ TS _ _ (tset Q.2.2 Q.1 _ i)
          rw [tset_ne q]
          obtain ⟨k1, k2⟩ := a3 i hi2
          refine ⟨k1, TS_cong k2 k1 ?_ rfl rfl (fun _ _ _ => rfl) (fun _ _ _ => rfl) (fun _ _ _ => rfl) (fun _ _ _ => rfl) (fun _ _ _ => rfl)⟩
          show gupd (s 1) (Q.1 : Int) z i = s 1 i
          exact gupd_ne (by omega)
      · have h3 : Q.1 + 1 ≤ i := h1
        exact a4 i (by omega) h2
    · refine ⟨?_, b2, b3⟩
      obtain ⟨s8, sal, sin⟩ := b1
      refine ⟨s8, sal, fun i hi => ?_⟩
      obtain ⟨y1, y2, y3⟩ := sin i hi
      show S.2.2.2.1 i < Q.1 + 1 ∧ 1 ≤ tPl (tset Q.2.2 Q.1 _ (S.2.2.2.1 i)) ∧ _
      rw [tset_ne (by omega)]
      exact ⟨by omega, y2, y3⟩
    · exact SimP_cong (fun k h1 h2 => by rw [moS_ne (by omega), moS_ne (by omega), moS_ne (by omega)]) d
    · exact SimB_cong (fun k h1 h2 _ => by rw [moS_ne (by omega), moS_ne (by omega), moS_ne (by omega)]) e
theorem mLast_is {i : Nat} {t : TuS} (H : TS s i t) : mLast s i = lastH (tH t) (tWc t) := by
  obtain ⟨⟨a1, a2, a3⟩, -, q, -⟩ := H
  unfold mLast lastH
  rw [a2]
  by_cases z : tWc t = 0
  · rw [if_pos (by omega), if_pos z]
  · rw [if_neg (by omega), if_neg z, show 64 * (i : Int) + (tWc t : Int) - 1 = 64 * (i : Int) + ((tWc t : Int) - 1) by omega]
    exact (q ((tWc t : Int) - 1) (by omega) (by omega)).1
theorem seOk_tset {i : Nat} {t2 : TuS} (h : seOk Q S) (hp : tPl (Q.2.2 i) ≤ tPl t2) : seOk (Q.1, Q.2.1, tset Q.2.2 i t2) S := by
  obtain ⟨s8, sal, sin⟩ := h
  refine ⟨s8, sal, fun j hj => ?_⟩
  obtain ⟨y1, y2, y3⟩ := sin j hj
  show S.2.2.2.1 j < Q.1 ∧ 1 ≤ tPl (tset Q.2.2 i t2 (S.2.2.2.1 j)) ∧ _
  by_cases q : S.2.2.2.1 j = i
  · rw [q, tset_eq]
    rw [q] at y1 y2
    exact ⟨y1, by omega, y3⟩
  · rw [tset_ne q]
    exact ⟨y1, y2, y3⟩
theorem st_note {i : Nat} {h l g r : Int} (H : Sim c Q S P B s) (hi : i < Q.1) (M : MNote s i h l g r s2) :
    (¬ ((0 ≤ h ∧ h ≤ 8) ∧ (1 ≤ l ∧ l ≤ 16) ∧ (0 ≤ g ∧ g ≤ 8)) → s2 39 0 = 2 ∧ Sim (c + 1) Q S P B s2) ∧
    (((0 ≤ h ∧ h ≤ 8) ∧ (1 ≤ l ∧ l ≤ 16) ∧ (0 ≤ g ∧ g ≤ 8)) ∧ ¬ (tWc (Q.2.2 i) < 64 ∧ tOu (Q.2.2 i) % barU (tKd (Q.2.2 i)) + l ≤ barU (tKd (Q.2.2 i)) ∧ lawf (lastH (tH (Q.2.2 i)) (tWc (Q.2.2 i))) h g) → s2 39 0 = 3 ∧ Sim (c + 1) Q S P B s2) ∧
    (((0 ≤ h ∧ h ≤ 8) ∧ (1 ≤ l ∧ l ≤ 16) ∧ (0 ≤ g ∧ g ≤ 8)) ∧ (tWc (Q.2.2 i) < 64 ∧ tOu (Q.2.2 i) % barU (tKd (Q.2.2 i)) + l ≤ barU (tKd (Q.2.2 i)) ∧ lawf (lastH (tH (Q.2.2 i)) (tWc (Q.2.2 i))) h g) → s2 39 0 = 0 ∧ r = (tWc (Q.2.2 i) : Int) + 1 ∧ Sim (c + 1) (Q.1, Q.2.1, tset Q.2.2 i (tNote (Q.2.2 i) h l g)) S P B s2) := by
  obtain ⟨V, ⟨⟨a1, a2⟩, a3, a4⟩, ⟨b1, b2, b3⟩, d, e⟩ := id H
  obtain ⟨k1, k2⟩ := a3 i hi
  have kk := k2
  obtain ⟨⟨u1, u2, u3⟩, ⟨v1, v2, v3⟩, w, -⟩ := k2
  have hin : 0 ≤ (i : Int) ∧ (i : Int) < s 0 0 := by omega
  have eL := mLast_is kk
  unfold MNote at M
  rw [eL, v2, u1, u2] at M
  rcases M with ⟨m1, m2, rfl⟩ | ⟨m1, m0, m2, rfl⟩ | ⟨m1, m0, m3, m2, rfl⟩ | ⟨m1, m0, m3, m2, rfl⟩
  · exact absurd hin m1
  · exact ⟨fun _ => ⟨rfl, Sim_th H (by omega)⟩, fun z => absurd z.1 m0, fun z => absurd z.1 m0⟩
  · exact ⟨fun z => absurd m0 z, fun _ => ⟨rfl, Sim_th H (by omega)⟩, fun z => absurd ⟨z.2.2.2, z.2.2.1, by omega⟩ m3⟩
  · refine ⟨fun z => absurd m0 z, fun z => absurd ⟨by omega, m3.2.1, m3.1⟩ z.2, fun hz => ⟨rfl, m2, ?_⟩⟩
    have tn := TS_note (h := h) (l := l) (g := g) kk k1 hz.2.1 (by omega)
    rw [u2] at tn
    generalize hs2 : moS (moS (moS (moS (moS s 39 (fun _ => 0)) 4 (gupd (s 4) (64 * (i : Int) + (tWc (Q.2.2 i) : Int)) h)) 5 (gupd (s 5) (64 * (i : Int) + (tWc (Q.2.2 i) : Int)) l)) 6 (gupd (s 6) (64 * (i : Int) + (tWc (Q.2.2 i) : Int)) g)) 2 (gupd (s 2) i ((tWc (Q.2.2 i) : Int) + 1)) = s2 at *
    have V2 : VM s2 := by
      rw [← hs2]
      have x1 := (VM_th V 0 (by omega)).set (j := 4) (f := gupd (s 4) (64 * (i : Int) + (tWc (Q.2.2 i) : Int)) h) rfl (gupd_bd (fun i => V.at 4 i rfl) hz.1.1)
      have x2 := x1.set (j := 5) (f := gupd (s 5) (64 * (i : Int) + (tWc (Q.2.2 i) : Int)) l) rfl (gupd_bd (fun i => V.at 5 i rfl) ⟨by omega, by omega⟩)
      have x3 := x2.set (j := 6) (f := gupd (s 6) (64 * (i : Int) + (tWc (Q.2.2 i) : Int)) g) rfl (gupd_bd (fun i => V.at 6 i rfl) hz.1.2.2)
      exact x3.set (j := 2) rfl (gupd_bd (fun i => V.at 2 i rfl) ⟨by omega, by omega⟩)
    have e2 : s2 2 = gupd (s 2) i ((tWc (Q.2.2 i) : Int) + 1) := by rw [← hs2]; rfl
    have e4 : s2 4 = gupd (s 4) (64 * (i : Int) + (tWc (Q.2.2 i) : Int)) h := by rw [← hs2]; rfl
    have e5 : s2 5 = gupd (s 5) (64 * (i : Int) + (tWc (Q.2.2 i) : Int)) l := by rw [← hs2]; rfl
    have e6 : s2 6 = gupd (s 6) (64 * (i : Int) + (tWc (Q.2.2 i) : Int)) g := by rw [← hs2]; rfl
    have er : ∀ k, k ≠ 39 → k ≠ 4 → k ≠ 5 → k ≠ 6 → k ≠ 2 → s2 k = s k := fun k c1 c2 c3 c4 c5 => by
      rw [← hs2, moS_ne c5, moS_ne c4, moS_ne c3, moS_ne c2, moS_ne c1]
    have ou2 := mOu_bd V2 i
    have lim := hz.2.1
    have nok : tuOk (tNote (Q.2.2 i) h l g) := by
      obtain ⟨k1, k2, k3, k4, k5, k6, k7, k8, k9, k10⟩ := k1
      have ou3 : mOu s2 i = tOu (Q.2.2 i) + l := tn.2.1.2.1
      refine ⟨k1, by show tWc (Q.2.2 i) + 1 ≤ 64; omega, by show tFo (Q.2.2 i) ≤ tWc (Q.2.2 i) + 1; omega, k4, k5, ⟨by show 0 ≤ tOu (Q.2.2 i) + l; omega, by show tOu (Q.2.2 i) + l ≤ 1024; omega⟩, ?_, ?_, ?_, k10⟩
      · exact gupd_bd k7 hz.1.1
      · exact gupd_bd k8 ⟨by omega, by omega⟩
      · exact gupd_bd k9 hz.1.2.2
    refine ⟨V2, ⟨⟨by rw [er 0 (by omega) (by omega) (by omega) (by omega) (by omega)]; exact a1, a2⟩, fun j hj => ?_, fun j h1 h2 => ?_⟩, ⟨seOk_tset b1 (Nat.le_refl _), ?_, ?_⟩, ?_, ?_⟩
    · show tuOk (tset Q.2.2 i _ j) ∧ TS _ _ (tset Q.2.2 i _ j)
      by_cases q : j = i
      · subst q
        rw [tset_eq]
        exact ⟨nok, tn⟩
      · rw [tset_ne q]
        have hj2 : j < Q.1 := hj
        obtain ⟨y1, y2⟩ := a3 j hj2
        refine ⟨y1, TS_cong y2 y1 ?_ ?_ ?_ ?_ ?_ ?_ ?_ ?_⟩
        · rw [er 1 (by omega) (by omega) (by omega) (by omega) (by omega)]
        · rw [e2]; exact gupd_ne (by omega)
        · rw [er 3 (by omega) (by omega) (by omega) (by omega) (by omega)]
        · intro k _ _; rw [er 7 (by omega) (by omega) (by omega) (by omega) (by omega)]
        · intro k _ _; rw [er 8 (by omega) (by omega) (by omega) (by omega) (by omega)]
        · intro k _ _; rw [e4]; exact gupd_ne (by omega)
        · intro k _ _; rw [e5]; exact gupd_ne (by omega)
        · intro k _ _; rw [e6]; exact gupd_ne (by omega)
    · have h3 : Q.1 ≤ j := h1
      rw [e2, er 3 (by omega) (by omega) (by omega) (by omega) (by omega), gupd_ne (by omega)]
      exact a4 j h3 h2
    · rw [er 14 (by omega) (by omega) (by omega) (by omega) (by omega)]
      exact b2
    · rw [er 15 (by omega) (by omega) (by omega) (by omega) (by omega), er 16 (by omega) (by omega) (by omega) (by omega) (by omega)]
      exact b3
    · exact SimP_cong (fun k h1 h2 => er k (by omega) (by omega) (by omega) (by omega) (by omega)) d
    · exact SimB_cong (fun k h1 h2 _ => er k (by omega) (by omega) (by omega) (by omega) (by omega)) e
theorem st_part {i : Nat} {tw r : Int} (H : Sim c Q S P B s) (hi : i < Q.1) (htw : tw = 0 ∨ tw = 1) (M : MPart s i tw r s2) :
    (¬ (tPc (Q.2.2 i) < 8 ∧ tFo (Q.2.2 i) < tWc (Q.2.2 i) ∧ tOu (Q.2.2 i) % barU (tKd (Q.2.2 i)) = 0) → s2 39 0 = 2 ∧ Sim (c + 1) Q S P B s2) ∧
    ((tPc (Q.2.2 i) < 8 ∧ tFo (Q.2.2 i) < tWc (Q.2.2 i) ∧ tOu (Q.2.2 i) % barU (tKd (Q.2.2 i)) = 0) → s2 39 0 = 0 ∧ r = tOu (Q.2.2 i) / barU (tKd (Q.2.2 i)) ∧ Sim (c + 1) (Q.1, Q.2.1, tset Q.2.2 i (tPart (Q.2.2 i) tw)) S P B s2) := by
  obtain ⟨V, ⟨⟨a1, a2⟩, a3, a4⟩, ⟨b1, b2, b3⟩, d, e⟩ := id H
  obtain ⟨k1, k2⟩ := a3 i hi
  have kk := k2
  obtain ⟨⟨u1, u2, u3⟩, ⟨v1, v2, v3⟩, w, -⟩ := k2
  have hin : 0 ≤ (i : Int) ∧ (i : Int) < s 0 0 := by omega
  unfold MPart at M
  rw [v2, u1, u2, u3] at M
  have bU := barU_r (tKd (Q.2.2 i))
  have mn : 0 ≤ tOu (Q.2.2 i) % barU (tKd (Q.2.2 i)) := Int.emod_nonneg _ (by omega)
  rcases M with ⟨m1, m2, rfl⟩ | ⟨m1, m0, m2, rfl⟩ | ⟨m1, m0, m2, rfl⟩
  · exact absurd hin m1
  · refine ⟨fun _ => ⟨rfl, Sim_th H (by omega)⟩, fun z => ?_⟩
    exfalso
    rcases m0 with m0 | m0 | m0
    · have := v3.mp m0
      omega
    · omega
    · omega
  · have hz : tPc (Q.2.2 i) < 8 ∧ tFo (Q.2.2 i) < tWc (Q.2.2 i) ∧ tOu (Q.2.2 i) % barU (tKd (Q.2.2 i)) = 0 := by
      have q1 : ¬ tOu (Q.2.2 i) = 0 := fun z => m0 (Or.inl z)
      have q2 : ¬ 0 < tOu (Q.2.2 i) % barU (tKd (Q.2.2 i)) := fun z => m0 (Or.inr (Or.inl z))
      have q3 : ¬ (tPc (Q.2.2 i) : Int) = 8 := fun z => m0 (Or.inr (Or.inr z))
      have q4 : ¬ tWc (Q.2.2 i) = tFo (Q.2.2 i) := fun z => q1 (v3.mpr z)
      have q5 := k1.2.2.1
      have q6 := k1.2.2.2.1
      exact ⟨by omega, by omega, by omega⟩
    refine ⟨fun z => absurd hz z, fun _ => ⟨rfl, m2, ?_⟩⟩
    have tn := TS_part (tw := tw) kk k1 hz.1 htw
    rw [u2, u3] at tn
    generalize hs2 : moS (moS (moS (moS s 39 (fun _ => 0)) 7 (gupd (s 7) (8 * (i : Int) + (tPc (Q.2.2 i) : Int)) (tWc (Q.2.2 i) : Int))) 8 (gupd (s 8) (8 * (i : Int) + (tPc (Q.2.2 i) : Int)) tw)) 3 (gupd (s 3) i ((tPc (Q.2.2 i) : Int) + 1)) = s2 at *
    have e3 : s2 3 = gupd (s 3) i ((tPc (Q.2.2 i) : Int) + 1) := by rw [← hs2]; rfl
    have e7 : s2 7 = gupd (s 7) (8 * (i : Int) + (tPc (Q.2.2 i) : Int)) (tWc (Q.2.2 i) : Int) := by rw [← hs2]; rfl
    have e8 : s2 8 = gupd (s 8) (8 * (i : Int) + (tPc (Q.2.2 i) : Int)) tw := by rw [← hs2]; rfl
    have er : ∀ k, k ≠ 39 → k ≠ 7 → k ≠ 8 → k ≠ 3 → s2 k = s k := fun k c1 c2 c3 c4 => by
      rw [← hs2, moS_ne c4, moS_ne c3, moS_ne c2, moS_ne c1]
    have k2' := k1
    obtain ⟨k1, k2, k3, k4, k5, k6, k7, k8, k9, k10⟩ := k2'
    have V2 : VM s2 := by
      rw [← hs2]
      have x1 := (VM_th V 0 (by omega)).set (j := 7) (f := gupd (s 7) (8 * (i : Int) + (tPc (Q.2.2 i) : Int)) (tWc (Q.2.2 i) : Int)) rfl (gupd_bd (fun i => V.at 7 i rfl) ⟨by omega, by omega⟩)
      have x2 := x1.set (j := 8) (f := gupd (s 8) (8 * (i : Int) + (tPc (Q.2.2 i) : Int)) tw) rfl (gupd_bd (fun i => V.at 8 i rfl) ⟨by omega, by omega⟩)
      exact x2.set (j := 3) rfl (gupd_bd (fun i => V.at 3 i rfl) ⟨by omega, by omega⟩)
    have hpl : tPl (tPart (Q.2.2 i) tw) = tPl (Q.2.2 i) + (if tw = 0 then (tWc (Q.2.2 i) - tFo (Q.2.2 i)) else 2 * (tWc (Q.2.2 i) - tFo (Q.2.2 i))) := rfl
    have hple : tPl (tPart (Q.2.2 i) tw) ≤ 2 * tWc (Q.2.2 i) := by
      rw [hpl]
      split <;> omega
    have nok : tuOk (tPart (Q.2.2 i) tw) := by
      refine ⟨k1, k2, Nat.le_refl _, hz.1, hple, ⟨Int.le_refl _, by show (0 : Int) ≤ 1024; decide⟩, k7, k8, k9, fun j hj0 hj1 => ?_⟩
      obtain ⟨-, -, y1, y2⟩ := tn.2.2.2.1.2 j hj0 hj1
      have y3 : tN (tPart (Q.2.2 i) tw) j < (tWc (Q.2.2 i) : Int) := y2
      exact ⟨y1, by omega⟩
    refine ⟨V2, ⟨⟨by rw [er 0 (by omega) (by omega) (by omega) (by omega)]; exact a1, a2⟩, fun j hj => ?_, fun j h1 h2 => ?_⟩, ⟨seOk_tset b1 (by rw [hpl]; omega), ?_, ?_⟩, ?_, ?_⟩
    · show tuOk (tset Q.2.2 i _ j) ∧ TS _ _ (tset Q.2.2 i _ j)
      by_cases q : j = i
      · subst q
        rw [tset_eq]
        exact ⟨nok, tn⟩
      · rw [tset_ne q]
        have hj2 : j < Q.1 := hj
        obtain ⟨y1, y2⟩ := a3 j hj2
        refine ⟨y1, TS_cong y2 y1 ?_ ?_ ?_ ?_ ?_ ?_ ?_ ?_⟩
        · rw [er 1 (by omega) (by omega) (by omega) (by omega)]
        · rw [er 2 (by omega) (by omega) (by omega) (by omega)]
        · rw [e3]; exact gupd_ne (by omega)
        · intro k _ _; rw [e7]; exact gupd_ne (by omega)
        · intro k _ _; rw [e8]; exact gupd_ne (by omega)
        · intro k _ _; rw [er 4 (by omega) (by omega) (by omega) (by omega)]
        · intro k _ _; rw [er 5 (by omega) (by omega) (by omega) (by omega)]
        · intro k _ _; rw [er 6 (by omega) (by omega) (by omega) (by omega)]
    · have h3 : Q.1 ≤ j := h1
      rw [e3, er 2 (by omega) (by omega) (by omega) (by omega), gupd_ne (by omega)]
      exact a4 j h3 h2
    · rw [er 14 (by omega) (by omega) (by omega) (by omega)]
      exact b2
    · rw [er 15 (by omega) (by omega) (by omega) (by omega), er 16 (by omega) (by omega) (by omega) (by omega)]
      exact b3
    · exact SimP_cong (fun k h1 h2 => er k (by omega) (by omega) (by omega) (by omega)) d
    · exact SimB_cong (fun k h1 h2 _ => er k (by omega) (by omega) (by omega) (by omega)) e
/-- what is played, in both -/
theorem pl_rows {i : Nat} {t : TuS} (H : TS s i t) (ht : tuOk t) : mMany s i = tPl t ∧ ∀ j : Int, 0 ≤ j → j < tPl t → s 4 (mRow s i j) = tH t (tN t j) ∧ s 5 (mRow s i j) = tL t (tN t j) ∧ s 6 (mRow s i j) = tG t (tN t j) ∧ mPart s i j = tP t (tN t j) := by
  obtain ⟨-, -, q, ⟨d1, d2⟩, -⟩ := H
  refine ⟨d1, fun j h0 h1 => ?_⟩
  obtain ⟨x1, x2, x3, x4⟩ := d2 j h0 h1
  have k3 := ht.2.2.1
  obtain ⟨y1, y2, y3⟩ := q (tN t j) x3 (by omega)
  rw [x1]
  exact ⟨y1, y2, y3, x2⟩
theorem st_played {i : Nat} {p w r cd : Int} (H : Sim c Q S P B s) (hi : i < Q.1) (M : MPlayed s i p w r cd) :
    (¬ (0 ≤ p ∧ p < tPl (Q.2.2 i)) → cd = 1) ∧ ((0 ≤ p ∧ p < tPl (Q.2.2 i)) ∧ ¬ (0 ≤ w ∧ w ≤ 4) → cd = 2) ∧
    ((0 ≤ p ∧ p < tPl (Q.2.2 i)) ∧ (0 ≤ w ∧ w ≤ 4) → cd = 0 ∧ r = if w = 0 then tH (Q.2.2 i) (tN (Q.2.2 i) p) else if w = 1 then tL (Q.2.2 i) (tN (Q.2.2 i) p) else if w = 2 then tG (Q.2.2 i) (tN (Q.2.2 i) p) else if w = 3 then usum (fun j => tL (Q.2.2 i) (tN (Q.2.2 i) j)) p.toNat else tP (Q.2.2 i) (tN (Q.2.2 i) p)) := by
  obtain ⟨V, ⟨⟨a1, a2⟩, a3, a4⟩, -⟩ := H
  obtain ⟨k1, k2⟩ := a3 i hi
  obtain ⟨p1, p2⟩ := pl_rows k2 k1
  have hin : 0 ≤ (i : Int) ∧ (i : Int) < s 0 0 := by omega
  unfold MPlayed at M
  rw [p1] at M
  rcases M with ⟨m1, m2, m3⟩ | ⟨m0, m1, m2, m3⟩ | ⟨m0, m1, m2, m3, m4⟩ | ⟨m0, m1, m2, m3, m4⟩
  · exact absurd hin m1
  · exact ⟨fun _ => m2, fun z => absurd z.1 m1, fun z => absurd z.1 m1⟩
  · exact ⟨fun z => absurd m1 z, fun _ => m3, fun z => absurd z.2 m2⟩
  · refine ⟨fun z => absurd m1 z, fun z => absurd m2 z.2, fun _ => ⟨m3, ?_⟩⟩
    obtain ⟨q1, q2, q3, q4⟩ := p2 p m1.1 m1.2
    rw [m4, q1, q2, q3, q4, usum_congr (f := fun k => s 5 (mRow s i k)) (g := fun j => tL (Q.2.2 i) (tN (Q.2.2 i) j)) (n := p.toNat) (fun j h0 h1 => (p2 j h0 (by omega)).2.1)]
theorem st_ofTune {i : Nat} {w r cd : Int} (H : Sim c Q S P B s) (hi : i < Q.1) (M : MOfTune s i w r cd) :
    (¬ (0 ≤ w ∧ w ≤ 6) → cd = 2) ∧
    ((0 ≤ w ∧ w ≤ 6) → cd = 0 ∧ r = if w = 0 then tKd (Q.2.2 i) else if w = 1 then (tPl (Q.2.2 i) : Int) else if w = 2 then usum (fun j => tL (Q.2.2 i) (tN (Q.2.2 i) j)) (tPl (Q.2.2 i)) else if w = 3 then usum (clash1 (fun j => tG (Q.2.2 i) (tN (Q.2.2 i) j)) (fun j => tH (Q.2.2 i) (tN (Q.2.2 i) j))) (tPl (Q.2.2 i)) else if w = 4 then usum (fun j => smallOf (tG (Q.2.2 i) (tN (Q.2.2 i) j))) (tPl (Q.2.2 i)) else if w = 5 then (tPc (Q.2.2 i) : Int) else (tWc (Q.2.2 i) : Int) - tFo (Q.2.2 i)) := by
  obtain ⟨V, ⟨⟨a1, a2⟩, a3, a4⟩, -⟩ := H
  obtain ⟨k1, k2⟩ := a3 i hi
  obtain ⟨p1, p2⟩ := pl_rows k2 k1
  have hin : 0 ≤ (i : Int) ∧ (i : Int) < s 0 0 := by omega
  obtain ⟨⟨u1, u2, u3⟩, ⟨v1, v2, v3⟩, -⟩ := k2
  unfold MOfTune at M
  rw [p1] at M
  rcases M with ⟨m1, m2, m3⟩ | ⟨m0, m1, m2, m3⟩ | ⟨m0, m1, m2, m3⟩
  · exact absurd hin m1
  · exact ⟨fun _ => m2, fun z => absurd z m1⟩
  · refine ⟨fun z => absurd m1 z, fun _ => ⟨m2, ?_⟩⟩
    have e1 : usum (fun k => s 5 (mRow s i k)) (tPl (Q.2.2 i)) = usum (fun j => tL (Q.2.2 i) (tN (Q.2.2 i) j)) (tPl (Q.2.2 i)) := usum_congr (fun j h0 h1 => (p2 j h0 h1).2.1)
    have e2 : usum (clash1 (fun k => s 6 (mRow s i k)) (fun k => s 4 (mRow s i k))) (tPl (Q.2.2 i)) = usum (clash1 (fun j => tG (Q.2.2 i) (tN (Q.2.2 i) j)) (fun j => tH (Q.2.2 i) (tN (Q.2.2 i) j))) (tPl (Q.2.2 i)) := usum_congr (fun j h0 h1 => by
      unfold clash1
      dsimp only
      by_cases q : 1 ≤ j
      · have r1 := (p2 j h0 h1).1
        have r2 := (p2 j h0 h1).2.2.1
        have r3 := (p2 (j - 1) (by omega) (by omega)).1
        simp only [r1, r2, r3]
      · rw [if_neg (fun z => q z.1), if_neg (fun z => q z.1)])
    have e3 : usum (fun k => smallOf (s 6 (mRow s i k))) (tPl (Q.2.2 i)) = usum (fun j => smallOf (tG (Q.2.2 i) (tN (Q.2.2 i) j))) (tPl (Q.2.2 i)) := usum_congr (fun j h0 h1 => by
      show smallOf (s 6 (mRow s i j)) = smallOf (tG (Q.2.2 i) (tN (Q.2.2 i) j))
      rw [(p2 j h0 h1).2.2.1])
    rw [m3, show ((tPl (Q.2.2 i) : Int)).toNat = tPl (Q.2.2 i) from rfl, e1, e2, e3, u1, u2, u3, v1]
theorem isAlike_congr {A A2 B1 B2 : Int → Int} {na nb m : Nat} (ha : ∀ i : Nat, i < na → A i = A2 i) (hb : ∀ i : Nat, i < nb → B1 i = B2 i) (h : isAlike A na B1 nb m) : isAlike A2 na B2 nb m := by
  obtain ⟨h1, h2⟩ := h
  refine ⟨fun k j hk hj => ?_, ?_⟩
  · rw [← suf_congr k j (fun i hi => ha i (by omega)) (fun i hi => hb i (by omega))]
    exact h1 k j hk hj
  · rcases h2 with h2 | ⟨k, j, hk, hj, h3⟩
    · exact Or.inl h2
    · refine Or.inr ⟨k, j, hk, hj, ?_⟩
      rw [← suf_congr k j (fun i hi => ha i (by omega)) (fun i hi => hb i (by omega))]
      exact h3
theorem st_alike {t t2 r cd : Int} (H : Sim c Q S P B s) (M : MAlike s t t2 r cd) :
    (¬ ((0 ≤ t ∧ t < Q.1) ∧ (0 ≤ t2 ∧ t2 < Q.1)) → cd = 1) ∧
    (((0 ≤ t ∧ t < Q.1) ∧ (0 ≤ t2 ∧ t2 < Q.1)) → cd = 0 ∧ ∀ m : Nat, isAlike (fun j => tH (Q.2.2 t.toNat) (tN (Q.2.2 t.toNat) j)) (tPl (Q.2.2 t.toNat)) (fun j => tH (Q.2.2 t2.toNat) (tN (Q.2.2 t2.toNat) j)) (tPl (Q.2.2 t2.toNat)) m → r = m) := by
  obtain ⟨V, ⟨⟨a1, a2⟩, a3, a4⟩, -⟩ := H
  unfold MAlike at M
  rw [a1] at M
  rcases M with ⟨m1, m2, m3⟩ | ⟨m1, m2, m3, rfl, m4⟩
  · exact ⟨fun _ => m2, fun z => absurd z m1⟩
  · refine ⟨fun z => absurd m1 z, fun _ => ⟨m2, fun m hm => ?_⟩⟩
    obtain ⟨⟨x1, x2⟩, x3, x4⟩ := m1
    obtain ⟨i, rfl⟩ := nat_of x1
    obtain ⟨j, rfl⟩ := nat_of x3
    obtain ⟨y1, y2⟩ := a3 i (by omega)
    obtain ⟨z1, z2⟩ := a3 j (by omega)
    obtain ⟨p1, p2⟩ := pl_rows y2 y1
    obtain ⟨q1, q2⟩ := pl_rows z2 z1
    rw [p1, q1] at m4
    have m5 := isAlike_congr (A2 := fun k => tH (Q.2.2 i) (tN (Q.2.2 i) k)) (B2 := fun k => tH (Q.2.2 j) (tN (Q.2.2 j) k)) (na := tPl (Q.2.2 i)) (nb := tPl (Q.2.2 j)) (fun k hk => (p2 k (by omega) (by omega)).1) (fun k hk => (q2 k (by omega) (by omega)).1) m4
    rw [isAlike_one m5 hm]
theorem may_iff {i : Nat} {tp : Int} (H : Sim c Q S P B s) (hi : i < Q.1) : MMay s i tp ↔ xMay Q S (Q.2.2 i) tp := by
  obtain ⟨V, ⟨⟨a1, a2⟩, a3, a4⟩, ⟨⟨s8, sal, sin⟩, b2, b3⟩, -⟩ := H
  obtain ⟨k1, k2⟩ := a3 i hi
  obtain ⟨p1, p2⟩ := pl_rows k2 k1
  obtain ⟨⟨u1, u2, u3⟩, -⟩ := k2
  unfold MMay xMay
  rw [p1, b2]
  by_cases q : 1 ≤ tPl (Q.2.2 i)
  · by_cases z : S.2.1 = 0
    · exact ⟨fun _ => ⟨q, Or.inl z⟩, fun _ => ⟨by omega, Or.inl (by omega)⟩⟩
    · obtain ⟨y1, y2, y3, y4⟩ := sin (S.2.1 - 1) (by omega)
      obtain ⟨w1, w2⟩ := b3 (S.2.1 - 1) (by omega)
      rw [show ((S.2.1 - 1 : Nat) : Int) = (S.2.1 : Int) - 1 by omega] at w1 w2
      obtain ⟨l1, l2⟩ := a3 _ y1
      obtain ⟨n1, n2⟩ := pl_rows l2 l1
      obtain ⟨⟨o1, -⟩, -⟩ := l2
      obtain ⟨f1, f2, f3, f4⟩ := p2 0 (by omega) (by omega)
      rw [w1, w2, n1, u1, o1, f1, f3, (n2 ((tPl (Q.2.2 (S.2.2.2.1 (S.2.1 - 1))) : Int) - 1) (by omega) (by omega)).1]
      constructor
      · rintro ⟨h1, h2⟩
        refine ⟨q, Or.inr ?_⟩
        rcases h2 with h2 | ⟨h2, h3⟩
        · omega
        · refine ⟨fun x => h2 ⟨x.1.symm, x.2⟩, ?_⟩
          by_cases g0 : tG (Q.2.2 i) (tN (Q.2.2 i) 0) = 0
          · exact Or.inr (fun x => h3 ⟨g0, x⟩)
          · exact Or.inl g0
      · rintro ⟨h1, h2⟩
        refine ⟨by omega, Or.inr ?_⟩
        rcases h2 with h2 | ⟨h2, h3⟩
        · exact absurd h2 z
        · refine ⟨fun x => h2 ⟨x.1.symm, x.2⟩, fun x => ?_⟩
          rcases h3 with h3 | h3
          · exact h3 x.1
          · exact h3 x.2
  · exact ⟨fun x => absurd x.1 (by omega), fun x => absurd x.1 q⟩
theorem st_follow {i : Nat} {tp r cd : Int} {s1 : MS} (H : Sim c Q S P B s) (hi : i < Q.1) (hs : mSame s s1) (V1 : VM s1) (h39 : s1 39 0 = cd) (M : MFollow s i tp r cd s1 s2) :
    (¬ (30 ≤ tp ∧ tp ≤ 600) → s2 39 0 = 2 ∧ Sim (c + 1) Q S P B s2) ∧
    ((30 ≤ tp ∧ tp ≤ 600) ∧ ¬ (S.2.1 < 8 ∧ xMay Q S (Q.2.2 i) tp) → s2 39 0 = 3 ∧ Sim (c + 1) Q S P B s2) ∧
    ((30 ≤ tp ∧ tp ≤ 600) ∧ (S.2.1 < 8 ∧ xMay Q S (Q.2.2 i) tp) → s2 39 0 = 0 ∧ r = (S.2.1 : Int) + 1 ∧ Sim (c + 1) Q (true, S.2.1 + 1, S.2.2.1 + 1, tset S.2.2.2.1 S.2.1 i, gupd S.2.2.2.2 S.2.1 tp) P B s2) := by
  have mi := may_iff (tp := tp) H hi
  obtain ⟨V, ⟨⟨a1, a2⟩, a3, a4⟩, ⟨⟨s8, sal, sin⟩, b2, b3⟩, d, e⟩ := id H
  have hin : 0 ≤ (i : Int) ∧ (i : Int) < s 0 0 := by omega
  unfold MFollow at M
  rw [mi, b2] at M
  rcases M with ⟨m1, -⟩ | ⟨m0, m1, m2, m3, rfl⟩ | ⟨m0, m1, m4, m2, m3, rfl⟩ | ⟨m0, m1, m4, m5, m2, m3, rfl⟩
  · exact absurd hin m1
  · exact ⟨fun _ => ⟨h39.trans m2, Sim_same H hs V1⟩, fun z => absurd z.1 m1, fun z => absurd z.1 m1⟩
  · refine ⟨fun z => absurd m1 z, fun _ => ⟨h39.trans m2, Sim_same H hs V1⟩, fun z => ?_⟩
    exfalso
    rcases m4 with m4 | m4
    · omega
    · exact m4 z.2.2
  · refine ⟨fun z => absurd m1 z, fun z => absurd ⟨by omega, m5⟩ z.2, fun hz => ⟨?_, m3, ?_⟩⟩
    · show s1 39 0 = 0
      exact h39.trans m2
    · obtain ⟨-, T1, S1, P1, B1⟩ := Sim_same H hs V1
      refine ⟨?_, ?_, ?_, ?_, ?_⟩
      · have x1 := V1.set (j := 15) (f := gupd (s 15) (S.2.1 : Int) i) rfl (gupd_bd (fun i => V.at 15 i rfl) ⟨by omega, by omega⟩)
        have x2 := x1.set (j := 16) (f := gupd (s 16) (S.2.1 : Int) tp) rfl (gupd_bd (fun i => V.at 16 i rfl) ⟨by omega, by omega⟩)
        exact x2.set (j := 14) rfl (fun _ => ⟨by omega, by omega⟩)
      · exact SimT_cong (fun k h1 => by rw [moS_ne (by omega), moS_ne (by omega), moS_ne (by omega)]) T1
      · refine ⟨⟨by show S.2.1 + 1 ≤ 8; omega, fun _ => rfl, fun j hj => ?_⟩, rfl, fun j hj => ?_⟩
        · have hj2 : j < S.2.1 + 1 := hj
          show tset S.2.2.2.1 S.2.1 i j < Q.1 ∧ 1 ≤ tPl (Q.2.2 (tset S.2.2.2.1 S.2.1 i j)) ∧ 30 ≤ gupd S.2.2.2.2 S.2.1 tp j ∧ gupd S.2.2.2.2 S.2.1 tp j ≤ 600
          by_cases q : j = S.2.1
          · subst q
            rw [tset_eq, gupd_eq]
            exact ⟨hi, m5.1, m1.1, m1.2⟩
          · rw [tset_ne q, gupd_ne (by omega)]
            exact sin j (by omega)
        · have hj2 : j < S.2.1 + 1 := hj
          show gupd (s 15) (S.2.1 : Int) i j = ((tset S.2.2.2.1 S.2.1 i j : Nat) : Int) ∧ gupd (s 16) (S.2.1 : Int) tp j = gupd S.2.2.2.2 S.2.1 tp j
          by_cases q : j = S.2.1
          · subst q
            rw [tset_eq, gupd_eq, gupd_eq, gupd_eq]
            exact ⟨rfl, rfl⟩
          · rw [tset_ne q, gupd_ne (by omega), gupd_ne (by omega), gupd_ne (by omega)]
            exact b3 j (by omega)
      · exact SimP_cong (fun k h1 h2 => by rw [moS_ne (by omega), moS_ne (by omega), moS_ne (by omega)]) P1
      · obtain ⟨g1, g2, g3, g4, g5, g6, g7⟩ := B1
        exact ⟨g1, g2, g3, g4, g5, fun z => SimO_cong rfl rfl rfl (g6 z), g7⟩
theorem st_drop {r : Int} (H : Sim c Q S P B s) (M : MDrop s r s2) :
    (¬ 1 ≤ S.2.1 → s2 39 0 = 1 ∧ Sim (c + 1) Q S P B s2) ∧ (1 ≤ S.2.1 → s2 39 0 = 0 ∧ r = (S.2.2.2.1 (S.2.1 - 1) : Int) ∧ Sim (c + 1) Q (S.1, S.2.1 - 1, S.2.2.1 + 1, S.2.2.2.1, S.2.2.2.2) P B s2) := by
  obtain ⟨V, a, ⟨⟨s8, sal, sin⟩, b2, b3⟩, d, e⟩ := id H
  unfold MDrop at M
  rw [b2] at M
  rcases M with ⟨m1, m2, rfl⟩ | ⟨m1, m2, rfl⟩
  · refine ⟨fun _ => ⟨rfl, ?_⟩, fun z => absurd m1 (by omega)⟩
    refine ⟨(VM_th V 1 (by omega)).set (j := 14) rfl (fun _ => ⟨by omega, by omega⟩), SimT_cong (fun k h1 => by rw [moS_ne (by omega), moS_ne (by omega)]) a, ⟨⟨s8, sal, sin⟩, ?_, b3⟩, SimP_cong (fun k h1 h2 => by rw [moS_ne (by omega), moS_ne (by omega)]) d, SimB_cong (fun k h1 h2 _ => by rw [moS_ne (by omega), moS_ne (by omega)]) e⟩
    show (S.2.1 : Int) - 0 = S.2.1
    omega
  · refine ⟨fun z => absurd m1 (by omega), fun hz => ⟨rfl, ?_, ?_⟩⟩
    · have w := (b3 (S.2.1 - 1) (by omega)).1
      rw [show ((S.2.1 - 1 : Nat) : Int) = (S.2.1 : Int) - 1 by omega] at w
      rw [m2, w]
    · refine ⟨(VM_th V 0 (by omega)).set (j := 14) rfl (fun _ => ⟨by omega, by omega⟩), SimT_cong (fun k h1 => by rw [moS_ne (by omega), moS_ne (by omega)]) a, ⟨⟨?_, ?_, ?_⟩, ?_, ?_⟩, SimP_cong (fun k h1 h2 => by rw [moS_ne (by omega), moS_ne (by omega)]) d, SimB_cong (fun k h1 h2 _ => by rw [moS_ne (by omega), moS_ne (by omega)]) e⟩
      · show S.2.1 - 1 ≤ 8
        omega
      · intro z
        have z2 : 0 < S.2.1 - 1 := z
        exact sal (by omega)
      · intro j hj
        have hj2 : j < S.2.1 - 1 := hj
        exact sin j (by omega)
      · show (S.2.1 : Int) - 1 = ((S.2.1 - 1 : Nat) : Int)
        omega
      · intro j hj
        have hj2 : j < S.2.1 - 1 := hj
        exact b3 j (by omega)
theorem st_time (H : Sim c Q S P B s) : mTime s (s 14 0).toNat = xTime Q S S.2.1 := by
  obtain ⟨V, ⟨⟨a1, a2⟩, a3, a4⟩, ⟨⟨s8, sal, sin⟩, b2, b3⟩, -⟩ := H
  have key : ∀ k : Nat, k ≤ S.2.1 → mTime s k = xTime Q S k := by
    intro k
    induction k with
    | zero => intro _; rfl
    | succ k ih =>
      intro hk
      show mTime s k + 60000 * mUt s (s 15 k) / s 16 k = xTime Q S k + 60000 * tUt (Q.2.2 (S.2.2.2.1 k)) / S.2.2.2.2 k
      obtain ⟨w1, w2⟩ := b3 k (by omega)
      obtain ⟨y1, -⟩ := sin k (by omega)
      obtain ⟨l1, l2⟩ := a3 _ y1
      obtain ⟨n1, n2⟩ := pl_rows l2 l1
      rw [ih (by omega), w1, w2]
      unfold mUt tUt
      rw [n1, show ((tPl (Q.2.2 (S.2.2.2.1 k)) : Int)).toNat = tPl (Q.2.2 (S.2.2.2.1 k)) from rfl, usum_congr (f := fun j => s 5 (mRow s (S.2.2.2.1 k) j)) (g := fun j => tL (Q.2.2 (S.2.2.2.1 k)) (tN (Q.2.2 (S.2.2.2.1 k)) j)) (fun j h0 h1 => (n2 j h0 h1).2.1)]
  rw [b2, show ((S.2.1 : Int)).toNat = S.2.1 from rfl]
  exact key _ (Nat.le_refl _)
end ST
