/-! class and reference side by side: the whole relation -/
def SimT (Q : XTs) (s : MS) : Prop := (s 0 0 = Q.1 ∧ Q.1 ≤ 10) ∧ (∀ i : Nat, i < Q.1 → tuOk (Q.2.2 i) ∧ TS s i (Q.2.2 i)) ∧ (∀ i : Nat, Q.1 ≤ i → i < 10 → s 2 i = 0 ∧ s 3 i = 0)
def SimS (Q : XTs) (S : XSs) (s : MS) : Prop := seOk Q S ∧ s 14 0 = S.2.1 ∧ ∀ i : Nat, i < S.2.1 → s 15 i = S.2.2.2.1 i ∧ s 16 i = S.2.2.2.2 i
def PS (s : MS) (i : Int) (p : PiS) : Prop := s 18 i = pR p ∧ s 19 i = pP p ∧ s 20 i = pB p ∧ s 21 i = pS p ∧ s 22 i = pW p ∧ s 23 i = pT p ∧ s 24 i = pZ p
def SimP (P : XPs) (s : MS) : Prop := (s 17 0 = P.1 ∧ P.1 ≤ 8) ∧ (∀ i : Nat, i < P.1 → piOk (P.2.2.1 i) ∧ PS s i (P.2.2.1 i)) ∧ (∀ i : Nat, P.1 ≤ i → i < 8 → s 21 i = 0 ∧ s 22 i = 0 ∧ s 23 i = 0 ∧ s 24 i = 0) ∧ (P.2.2.2.2.1 ≤ 8 ∧ ∀ i, -1000000 ≤ P.2.2.2.2.2 i ∧ P.2.2.2.2.2 i ≤ 1000000)
def BS (s : MS) (i : Int) (b : BaS) : Prop := s 30 i = bGr b ∧ bNg b = bGr b ∧ s 31 i = bPo b ∧ s 32 i = bRk b ∧ s 33 i = bSu b ∧ s 34 i = bFi b
def SimO (B : XBs) (s : MS) : Prop := B.2.2.2.2 = mMis s ∧ (∀ i : Nat, i < B.1 → mTb s i = bTp (B.2.2.1 i) ∧ (bTp (B.2.2.1 i) = 1 → ∀ j : Int, 0 ≤ j → j ≤ 3 → s 38 (8 * j + i) = bM (B.2.2.1 i) j)) ∧ (∀ i : Nat, B.1 ≤ i → i < 8 → mTb s i = 0)
def SimB (c : Nat) (B : XBs) (s : MS) : Prop := (s 29 0 = B.1 ∧ B.1 ≤ 8) ∧ (∀ i : Nat, i < B.1 → baOk (B.2.2.1 i) ∧ BS s i (B.2.2.1 i)) ∧ (∀ i : Nat, B.1 ≤ i → i < 8 → s 31 i = 0 ∧ s 34 i = 0) ∧ (∀ i : Int, s 31 i ≤ 6 * c ∧ s 34 i ≤ c) ∧ (s 36 0 = B.2.2.2.1 ∧ (B.2.2.2.1 = 0 ∨ B.2.2.2.1 = 1)) ∧ (B.2.2.2.1 = 1 → SimO B s) ∧ (-1000 ≤ B.2.2.2.2 ∧ B.2.2.2.2 ≤ 1000)
/-- class and reference agree, c calls having been made -/
def Sim (c : Nat) (Q : XTs) (S : XSs) (P : XPs) (B : XBs) (s : MS) : Prop := VM s ∧ SimT Q s ∧ SimS Q S s ∧ SimP P s ∧ SimB c B s
theorem SimT_cong {Q : XTs} {s s2 : MS} (h : ∀ k, k ≤ 8 → s2 k = s k) (H : SimT Q s) : SimT Q s2 := by
  obtain ⟨⟨a, b⟩, c, d⟩ := H
  refine ⟨⟨by rw [h 0 (by omega)]; exact a, b⟩, fun i hi => ?_, fun i h1 h2 => ?_⟩
  · obtain ⟨c1, c2⟩ := c i hi
    refine ⟨c1, TS_cong c2 c1 (by rw [h 1 (by omega)]) (by rw [h 2 (by omega)]) (by rw [h 3 (by omega)]) ?_ ?_ ?_ ?_ ?_⟩
    · intro k _ _; rw [h 7 (by omega)]
    · intro k _ _; rw [h 8 (by omega)]
    · intro k _ _; rw [h 4 (by omega)]
    · intro k _ _; rw [h 5 (by omega)]
    · intro k _ _; rw [h 6 (by omega)]
  · rw [h 2 (by omega), h 3 (by omega)]
    exact d i h1 h2
theorem SimS_cong {Q : XTs} {S : XSs} {s s2 : MS} (h : ∀ k, 14 ≤ k → k ≤ 16 → s2 k = s k) (H : SimS Q S s) : SimS Q S s2 := by
  obtain ⟨a, b, c⟩ := H
  refine ⟨a, by rw [h 14 (by omega) (by omega)]; exact b, fun i hi => ?_⟩
  rw [h 15 (by omega) (by omega), h 16 (by omega) (by omega)]
  exact c i hi
theorem SimP_cong {P : XPs} {s s2 : MS} (h : ∀ k, 17 ≤ k → k ≤ 24 → s2 k = s k) (H : SimP P s) : SimP P s2 := by
  obtain ⟨⟨a, b⟩, c, d, e⟩ := H
  refine ⟨⟨by rw [h 17 (by omega) (by omega)]; exact a, b⟩, fun i hi => ?_, fun i h1 h2 => ?_, e⟩
  · refine ⟨(c i hi).1, ?_⟩
    unfold PS
    rw [h 18 (by omega) (by omega), h 19 (by omega) (by omega), h 20 (by omega) (by omega), h 21 (by omega) (by omega), h 22 (by omega) (by omega), h 23 (by omega) (by omega), h 24 (by omega) (by omega)]
    exact (c i hi).2
  · rw [h 21 (by omega) (by omega), h 22 (by omega) (by omega), h 23 (by omega) (by omega), h 24 (by omega) (by omega)]
    exact d i h1 h2
theorem mTb_cong {s s2 : MS} (h1 : s2 36 = s 36) (h2 : s2 37 = s 37) (i : Int) : mTb s2 i = mTb s i := by
  unfold mTb
  rw [h1, h2]
theorem mMis_cong {s s2 : MS} (h1 : s2 36 = s 36) (h2 : s2 37 = s 37) (h3 : s2 38 = s 38) : mMis s2 = mMis s := by
  unfold mMis
  exact usum_congr (fun i _ _ => by rw [mTb_cong h1 h2, h3])
theorem SimO_cong {B : XBs} {s s2 : MS} (h1 : s2 36 = s 36) (h2 : s2 37 = s 37) (h3 : s2 38 = s 38) (H : SimO B s) : SimO B s2 := by
  obtain ⟨a, b, c⟩ := H
  refine ⟨by rw [mMis_cong h1 h2 h3]; exact a, fun i hi => ?_, fun i k1 k2 => ?_⟩
  · rw [mTb_cong h1 h2, h3]
    exact b i hi
  · rw [mTb_cong h1 h2]
    exact c i k1 k2
theorem SimB_cong {c : Nat} {B : XBs} {s s2 : MS} (h : ∀ k, 29 ≤ k → k ≤ 38 → k ≠ 35 → s2 k = s k) (H : SimB c B s) : SimB (c + 1) B s2 := by
  obtain ⟨⟨a, b⟩, d, e, f, ⟨g1, g2⟩, i, j⟩ := H
  refine ⟨⟨by rw [h 29 (by omega) (by omega) (by omega)]; exact a, b⟩, fun i hi => ?_, fun i k1 k2 => ?_, fun i => ?_, ⟨by rw [h 36 (by omega) (by omega) (by omega)]; exact g1, g2⟩, fun z => SimO_cong (h 36 (by omega) (by omega) (by omega)) (h 37 (by omega) (by omega) (by omega)) (h 38 (by omega) (by omega) (by omega)) (i z), j⟩
  · refine ⟨(d i hi).1, ?_⟩
    unfold BS
    rw [h 30 (by omega) (by omega) (by omega), h 31 (by omega) (by omega) (by omega), h 32 (by omega) (by omega) (by omega), h 33 (by omega) (by omega) (by omega), h 34 (by omega) (by omega) (by omega)]
    exact (d i hi).2
  · rw [h 31 (by omega) (by omega) (by omega), h 34 (by omega) (by omega) (by omega)]
    exact e i k1 k2
  · rw [h 31 (by omega) (by omega) (by omega), h 34 (by omega) (by omega) (by omega)]
    have := f i
    omega
theorem mSc_no {k : Nat} (h : k ≤ 8 ∨ (14 ≤ k ∧ k ≤ 24) ∨ (29 ≤ k ∧ k ≤ 38)) : mSc k = false := by
  unfold mSc
  have : ¬ (k = 9 ∨ k = 10 ∨ k = 11 ∨ k = 12 ∨ k = 13 ∨ k = 25 ∨ k = 26 ∨ k = 27 ∨ k = 28 ∨ k = 39) := by omega
  cases e : [9, 10, 11, 12, 13, 25, 26, 27, 28, 39].contains k with
  | false => rfl
  | true =>
    exfalso
    apply this
    have h2 := List.contains_iff_mem.mp e
    simpa using h2
theorem Sim_same {c : Nat} {Q : XTs} {S : XSs} {P : XPs} {B : XBs} {s s2 : MS} (H : Sim c Q S P B s) (h : mSame s s2) (V2 : VM s2) : Sim (c + 1) Q S P B s2 := by
  obtain ⟨-, a, b, d, e⟩ := H
  exact ⟨V2, SimT_cong (fun k h1 => h k (mSc_no (by omega))) a, SimS_cong (fun k h1 h2 => h k (mSc_no (by omega))) b, SimP_cong (fun k h1 h2 => h k (mSc_no (by omega))) d, SimB_cong (fun k h1 h2 _ => h k (mSc_no (by omega))) e⟩
theorem Sim_th {c : Nat} {Q : XTs} {S : XSs} {P : XPs} {B : XBs} {s : MS} (H : Sim c Q S P B s) {v : Int} (hv : 0 ≤ v ∧ v ≤ 3) : Sim (c + 1) Q S P B (moS s 39 (fun _ => v)) := Sim_same H (mSame.of.set rfl) (VM_th H.1 v hv)
theorem th_39 {s : MS} {v : Int} : moS s 39 (fun _ => v) 39 0 = v := rfl
/-- the rows' shape, as the contracts want it -/
theorem Sim.hokT {c : Nat} {Q : XTs} {S : XSs} {P : XPs} {B : XBs} {s : MS} (H : Sim c Q S P B s) : Q.1 ≤ 10 ∧ ∀ i, i < Q.1 → tuOk (Q.2.2 i) := ⟨H.2.1.1.2, fun i hi => (H.2.1.2.1 i hi).1⟩
theorem Sim.hse {c : Nat} {Q : XTs} {S : XSs} {P : XPs} {B : XBs} {s : MS} (H : Sim c Q S P B s) : seOk Q S := H.2.2.1.1
theorem Sim.hss {c : Nat} {Q : XTs} {S : XSs} {P : XPs} {B : XBs} {s : MS} (H : Sim c Q S P B s) : ∀ i, i < S.2.1 → S.2.2.2.1 i < Q.1 := fun i hi => (H.2.2.1.1.2.2 i hi).1
theorem Sim.VP {c : Nat} {Q : XTs} {S : XSs} {P : XPs} {B : XBs} {s : MS} (H : Sim c Q S P B s) : ∀ t : Int, 0 ≤ t → t < s 0 0 → VPt s t := by
  intro t h0 h1
  rw [H.2.1.1.1] at h1
  have h2 := (H.2.1.2.1 t.toNat (by omega)).2.2.2.2.2
  rw [show ((t.toNat : Nat) : Int) = t by omega] at h2
  exact h2
theorem Sim.VS {c : Nat} {Q : XTs} {S : XSs} {P : XPs} {B : XBs} {s : MS} (H : Sim c Q S P B s) : VSet s := by
  intro i h0 h1
  obtain ⟨-, ⟨⟨t1, t2⟩, t3, -⟩, ⟨⟨-, -, q⟩, q2, q3⟩, -, -⟩ := H
  rw [q2] at h1
  obtain ⟨y1, y2, y3, y4⟩ := q i.toNat (by omega)
  obtain ⟨z1, z2⟩ := q3 i.toNat (by omega)
  rw [show ((i.toNat : Nat) : Int) = i by omega] at z1 z2
  have y3' : 30 ≤ S.2.2.2.2 i := by
    have := y3
    rw [show ((i.toNat : Nat) : Int) = i by omega] at this
    exact this
  obtain ⟨-, w⟩ := t3 _ y1
  rw [z1, z2, t1]
  refine ⟨by omega, ?_, y3'⟩
  rw [w.2.2.2.1.1]
  omega
theorem Sim.hokP {c : Nat} {Q : XTs} {S : XSs} {P : XPs} {B : XBs} {s : MS} (H : Sim c Q S P B s) : P.1 ≤ 8 ∧ (∀ i, i < P.1 → piOk (P.2.2.1 i)) ∧ (∀ i, -1000000 ≤ P.2.2.2.2.2 i ∧ P.2.2.2.2.2 i ≤ 1000000) ∧ P.2.2.2.2.1 ≤ 8 := ⟨H.2.2.2.1.1.2, fun i hi => (H.2.2.2.1.2.1 i hi).1, H.2.2.2.1.2.2.2.2, H.2.2.2.1.2.2.2.1⟩
theorem Sim.hokB {c : Nat} {Q : XTs} {S : XSs} {P : XPs} {B : XBs} {s : MS} (H : Sim c Q S P B s) : B.1 ≤ 8 ∧ (∀ i, i < B.1 → baOk (B.2.2.1 i)) ∧ (B.2.2.2.1 = 0 ∨ B.2.2.2.1 = 1) ∧ (-1000 ≤ B.2.2.2.2 ∧ B.2.2.2.2 ≤ 1000) := ⟨H.2.2.2.2.1.2, fun i hi => (H.2.2.2.2.2.1 i hi).1, H.2.2.2.2.2.2.2.2.1.2, H.2.2.2.2.2.2.2.2.2.2⟩
theorem Sim_rows {c : Nat} {Q : XTs} {S : XSs} {P : XPs} {B : XBs} {s : MS} (H : Sim c Q S P B s) {tr : PiS} {c2 : Nat} {f2 : Int → Int} (h1 : c2 ≤ 8) (h2 : ∀ i, -1000000 ≤ f2 i ∧ f2 i ≤ 1000000) : Sim c Q S (P.1, P.2.1, P.2.2.1, tr, c2, f2) B s := by
  obtain ⟨V, a, b, ⟨d1, d2, d3, -⟩, e⟩ := H
  exact ⟨V, a, b, ⟨d1, d2, d3, h1, h2⟩, e⟩
