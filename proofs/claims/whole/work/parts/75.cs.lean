/-! the class's contracts, as the law's cases want them -/
section CS
variable {l : Launch} {Γ : GA} {c : Nat} {ad : XK → Nat} {Q : XTs} {S : XSs} {P : XPs} {B : XBs} {s : MS}
theorem LX_th (I : IX (gEm Γ) ad Q S P B) (H : Sim c Q S P B s) {v : Int} (hv : 0 ≤ v ∧ v ≤ 3) : LX Γ (ad (0, 0)) (c + 1) (HX (gEm Γ) ad Q S P B) (moS s 39 (fun _ => v)) := ⟨ad, Q, S, P, B, rfl, I, rfl, Sim_th H hv⟩
theorem LX_same (I : IX (gEm Γ) ad Q S P B) (H : Sim c Q S P B s) {s2 : MS} (h : mSame s s2) (V2 : VM s2) : LX Γ (ad (0, 0)) (c + 1) (HX (gEm Γ) ad Q S P B) s2 := ⟨ad, Q, S, P, B, rfl, I, rfl, Sim_same H h V2⟩
theorem LX_rows (I : IX (gEm Γ) ad Q S P B) {s2 : MS} (H : Sim c Q S P B s2) {tr : PiS} {c2 : Nat} {f2 : Int → Int} (h1 : c2 ≤ 8) (h2 : ∀ i, -1000000 ≤ f2 i ∧ f2 i ≤ 1000000) : LX Γ (ad (0, 0)) c (HX (gEm Γ) ad Q S (P.1, P.2.1, P.2.2.1, tr, c2, f2) B) s2 := ⟨ad, Q, S, _, B, rfl, IX_P I, rfl, Sim_rows H h1 h2⟩
theorem div_rng {a b : Int} (ha : 0 ≤ a ∧ a ≤ 1024) (hb : 6 ≤ b) : -2147483648 ≤ a / b ∧ a / b ≤ 2147483647 := by
  have h1 : 0 ≤ a / b := Int.ediv_nonneg ha.1 (by omega)
  have h2 : a / b ≤ a := Int.ediv_le_self b ha.1
  omega
theorem alike_le {A A2 : Int → Int} {na nb m : Nat} (h : isAlike A na A2 nb m) : m ≤ na := by
  rcases h.2 with h2 | ⟨k, j, hk, hj, h3⟩
  · omega
  · have := suf_le1 A A2 k j
    omega
theorem smallOf_bd (z : Int) : 0 ≤ smallOf z ∧ smallOf z ≤ 4 := by
  unfold smallOf
  split
  · omega
  · split
    · omega
    · split <;> omega
theorem clash_bd (A A2 : Int → Int) (z : Int) : 0 ≤ clash1 A A2 z ∧ clash1 A A2 z ≤ 1 := by
  unfold clash1
  split <;> omega
theorem rk1_bd (bf : Nat → BaS) (n : Nat) : ∀ k : Nat, -1 ≤ rk1 bf n k ∧ rk1 bf n k < k
  | 0 => by
    show -1 ≤ (-1 : Int) ∧ (-1 : Int) < ((0 : Nat) : Int)
    omega
  | k + 1 => by
    have ih := rk1_bd bf n k
    show -1 ≤ (if bTp (bf k) = 1 ∧ 1 + xAh bf k n = 1 then (k : Int) else rk1 bf n k) ∧ (if bTp (bf k) = 1 ∧ 1 + xAh bf k n = 1 then (k : Int) else rk1 bf n k) < ((k + 1 : Nat) : Int)
    split <;> omega
theorem mvK_bd (bf : Nat → BaS) : ∀ k : Nat, 0 ≤ mvK bf k ∧ mvK bf k ≤ k
  | 0 => by
    show 0 ≤ (0 : Int) ∧ (0 : Int) ≤ ((0 : Nat) : Int)
    omega
  | k + 1 => by
    have ih := mvK_bd bf k
    show 0 ≤ mvK bf k + (if bGr (bf k) = bNg (bf k) then 0 else 1) ∧ mvK bf k + (if bGr (bf k) = bNg (bf k) then 0 else 1) ≤ ((k + 1 : Nat) : Int)
    split <;> omega
theorem gMd_bd {pf : Nat → PiS} {n : Nat} {w : Int} (h : ∀ i, i < n → piOk (pf i)) : -1000000 ≤ gMd pf n w ∧ gMd pf n w ≤ 1000000 := by
  have h2 := gatK_bd (pf := pf) (f0 := fun _ => 0) (w := w) (fun _ => by omega) n h
  unfold gMd gRow
  split
  · omega
  · exact h2.2 _
theorem xTime_bd (H : Sim c Q S P B s) : ∀ k : Nat, k ≤ S.2.1 → 0 ≤ xTime Q S k ∧ xTime Q S k ≤ 122880000 * k
  | 0, _ => by
    show 0 ≤ (0 : Int) ∧ (0 : Int) ≤ 122880000 * ((0 : Nat) : Int)
    omega
  | k + 1, hk => by
    have ih := xTime_bd H k (by omega)
    obtain ⟨y1, y2, y3, y4⟩ := H.hse.2.2 k (by omega)
    have tb := tUt_bd (H.hokT.2 _ y1)
    have h1 : 0 ≤ 60000 * tUt (Q.2.2 (S.2.2.2.1 k)) / S.2.2.2.2 k := Int.ediv_nonneg (by omega) (by omega)
    have h2 : 60000 * tUt (Q.2.2 (S.2.2.2.1 k)) / S.2.2.2.2 k ≤ 60000 * tUt (Q.2.2 (S.2.2.2.1 k)) := Int.ediv_le_self _ (by omega)
    show 0 ≤ xTime Q S k + 60000 * tUt (Q.2.2 (S.2.2.2.1 k)) / S.2.2.2.2 k ∧ xTime Q S k + 60000 * tUt (Q.2.2 (S.2.2.2.1 k)) / S.2.2.2.2 k ≤ 122880000 * ((k + 1 : Nat) : Int)
    omega

theorem cs_tune (hfl : l.stackTraces = false) (I : IX (gEm Γ) ad Q S P B) (H : Sim c Q S P B s) (hc : c ≤ 600) {z : Int} (hz : -2147483648 ≤ z ∧ z ≤ 2147483647) : Ct l Γ m_X4_tune [.ref (ad (0, 0)), iv z] (HX (gEm Γ) ad Q S P B) (fun v h' => ∃ r : Int, v = some (iv r) ∧ (-2147483648 ≤ r ∧ r ≤ 2147483647) ∧ ∀ (b : Int) (s2 : MS), (MTune s z b s2) → s2 39 0 = 0 ∧ r = b ∧ LX Γ (ad (0, 0)) (c + 1) h' s2) (fun E h' => h' = (HX (gEm Γ) ad Q S P B) ∧ ((E = "java/lang/IllegalArgumentException" ∧ ∀ (b : Int) (s2 : MS), (MTune s z b s2) → s2 39 0 = 1 ∧ LX Γ (ad (0, 0)) (c + 1) (HX (gEm Γ) ad Q S P B) s2) ∨ (E = "java/lang/IllegalStateException" ∧ ∀ (b : Int) (s2 : MS), (MTune s z b s2) → s2 39 0 = 2 ∧ LX Γ (ad (0, 0)) (c + 1) (HX (gEm Γ) ad Q S P B) s2))) := by
  have e0 : s 0 0 = Q.1 := H.2.1.1.1
  have e17 : s 17 0 = P.1 := H.2.2.2.1.1.1
  have e29 : s 29 0 = B.1 := H.2.2.2.2.1.1
  refine Ct.mono (x_tune hfl I H.hokT.1 H.hss hz) ?_ ?_
  · rintro v h' ⟨rfl, hq, ad2, hd2, I2, rfl⟩
    refine ⟨_, rfl, by omega, fun b s2 hm => ?_⟩
    obtain ⟨a1, a2, a3⟩ := (st_tune H hm).1 hq
    exact ⟨a1, a2.symm, ad2, _, _, _, _, hd2 _ (by intro z; cases z), I2, rfl, a3⟩
  · rintro E h' ⟨rfl, hE⟩
    refine ⟨rfl, ?_⟩
    rcases hE with ⟨rfl, h1⟩ | ⟨rfl, h1⟩
    · exact Or.inl ⟨rfl, fun b s2 hm => ⟨((st_tune H hm).2.1 h1).1, ad, Q, S, P, B, rfl, I, rfl, ((st_tune H hm).2.1 h1).2⟩⟩
    · exact Or.inr ⟨rfl, fun b s2 hm => ⟨((st_tune H hm).2.2 h1).1, ad, Q, S, P, B, rfl, I, rfl, ((st_tune H hm).2.2 h1).2⟩⟩

theorem cs_note (hfl : l.stackTraces = false) (I : IX (gEm Γ) ad Q S P B) (H : Sim c Q S P B s) (hc : c ≤ 600) {t : Int} {h2 : Int} {l2 : Int} {g : Int} (ht : -2147483648 ≤ t ∧ t ≤ 2147483647) (hh2 : -2147483648 ≤ h2 ∧ h2 ≤ 2147483647) (hl2 : -2147483648 ≤ l2 ∧ l2 ≤ 2147483647) (hg : -2147483648 ≤ g ∧ g ≤ 2147483647) : Ct l Γ m_X4_note [.ref (ad (0, 0)), iv t, iv h2, iv l2, iv g] (HX (gEm Γ) ad Q S P B) (fun v h' => ∃ r : Int, v = some (iv r) ∧ (-2147483648 ≤ r ∧ r ≤ 2147483647) ∧ ∀ (b : Int) (s2 : MS), (MNote s t h2 l2 g b s2) → s2 39 0 = 0 ∧ r = b ∧ LX Γ (ad (0, 0)) (c + 1) h' s2) (fun E h' => h' = (HX (gEm Γ) ad Q S P B) ∧ ((E = "java/lang/IndexOutOfBoundsException" ∧ ∀ (b : Int) (s2 : MS), (MNote s t h2 l2 g b s2) → s2 39 0 = 1 ∧ LX Γ (ad (0, 0)) (c + 1) (HX (gEm Γ) ad Q S P B) s2) ∨ (E = "java/lang/IllegalArgumentException" ∧ ∀ (b : Int) (s2 : MS), (MNote s t h2 l2 g b s2) → s2 39 0 = 2 ∧ LX Γ (ad (0, 0)) (c + 1) (HX (gEm Γ) ad Q S P B) s2) ∨ (E = "java/lang/IllegalStateException" ∧ ∀ (b : Int) (s2 : MS), (MNote s t h2 l2 g b s2) → s2 39 0 = 3 ∧ LX Γ (ad (0, 0)) (c + 1) (HX (gEm Γ) ad Q S P B) s2))) := by
  have e0 : s 0 0 = Q.1 := H.2.1.1.1
  have e17 : s 17 0 = P.1 := H.2.2.2.1.1.1
  have e29 : s 29 0 = B.1 := H.2.2.2.2.1.1
  refine Ct.mono (x_note hfl I H.hokT.1 H.hokT.2 ht hh2 hl2 hg) ?_ ?_
  · rintro v h' ⟨rfl, ⟨hin, hrg, hcan⟩, rfl⟩
    obtain ⟨j, rfl⟩ := nat_of hin.1
    have hj : j < Q.1 := by omega
    have tk := (H.hokT.2 j hj).2.1
    refine ⟨_, rfl, ⟨by show -2147483648 ≤ (tWc (Q.2.2 j) : Int) + 1; omega, by show (tWc (Q.2.2 j) : Int) + 1 ≤ 2147483647; omega⟩, fun b s2 hm => ?_⟩
    obtain ⟨a1, a2, a3⟩ := (st_note H hj hm).2.2 ⟨hrg, hcan⟩
    exact ⟨a1, a2.symm, ad, _, _, _, _, rfl, IX_tuS I, rfl, a3⟩
  · rintro E h' ⟨rfl, hE⟩
    refine ⟨rfl, ?_⟩
    rcases hE with ⟨rfl, h1⟩ | ⟨rfl, h1, h2⟩ | ⟨rfl, h1, h2, h3⟩
    · refine Or.inl ⟨rfl, fun b s2 hm => ?_⟩
      unfold MNote at hm
      rcases hm with ⟨m1, m2, rfl⟩ | ⟨m0, -⟩ | ⟨m0, -⟩ | ⟨m0, -⟩
      · exact ⟨rfl, LX_th I H (by omega)⟩
      · exact absurd (show _ by rw [e0] at m0; exact m0) h1
      · exact absurd (show _ by rw [e0] at m0; exact m0) h1
      · exact absurd (show _ by rw [e0] at m0; exact m0) h1
    · obtain ⟨j, rfl⟩ := nat_of h1.1
      have hj : j < Q.1 := by omega
      exact Or.inr (Or.inl ⟨rfl, fun b s2 hm => ⟨((st_note H hj hm).1 h2).1, ad, Q, S, P, B, rfl, I, rfl, ((st_note H hj hm).1 h2).2⟩⟩)
    · obtain ⟨j, rfl⟩ := nat_of h1.1
      have hj : j < Q.1 := by omega
      exact Or.inr (Or.inr ⟨rfl, fun b s2 hm => ⟨((st_note H hj hm).2.1 ⟨h2, h3⟩).1, ad, Q, S, P, B, rfl, I, rfl, ((st_note H hj hm).2.1 ⟨h2, h3⟩).2⟩⟩)

theorem cs_part (hfl : l.stackTraces = false) (I : IX (gEm Γ) ad Q S P B) (H : Sim c Q S P B s) (hc : c ≤ 600) {t : Int} {tw : Int} (ht : -2147483648 ≤ t ∧ t ≤ 2147483647) (htw : tw = 0 ∨ tw = 1) : Ct l Γ m_X4_part [.ref (ad (0, 0)), iv t, iv tw] (HX (gEm Γ) ad Q S P B) (fun v h' => ∃ r : Int, v = some (iv r) ∧ (-2147483648 ≤ r ∧ r ≤ 2147483647) ∧ ∀ (b : Int) (s2 : MS), (MPart s t tw b s2) → s2 39 0 = 0 ∧ r = b ∧ LX Γ (ad (0, 0)) (c + 1) h' s2) (fun E h' => h' = (HX (gEm Γ) ad Q S P B) ∧ ((E = "java/lang/IndexOutOfBoundsException" ∧ ∀ (b : Int) (s2 : MS), (MPart s t tw b s2) → s2 39 0 = 1 ∧ LX Γ (ad (0, 0)) (c + 1) (HX (gEm Γ) ad Q S P B) s2) ∨ (E = "java/lang/IllegalStateException" ∧ ∀ (b : Int) (s2 : MS), (MPart s t tw b s2) → s2 39 0 = 2 ∧ LX Γ (ad (0, 0)) (c + 1) (HX (gEm Γ) ad Q S P B) s2))) := by
  have e0 : s 0 0 = Q.1 := H.2.1.1.1
  have e17 : s 17 0 = P.1 := H.2.2.2.1.1.1
  have e29 : s 29 0 = B.1 := H.2.2.2.2.1.1
  refine Ct.mono (x_part hfl I H.hokT.1 H.hokT.2 ht htw) ?_ ?_
  · rintro v h' ⟨rfl, ⟨hin, hcan⟩, rfl⟩
    obtain ⟨j, rfl⟩ := nat_of hin.1
    have hj : j < Q.1 := by omega
    have tk := (H.hokT.2 j hj).2.2.2.2.2.1
    refine ⟨_, rfl, div_rng tk (barU_r _).1, fun b s2 hm => ?_⟩
    obtain ⟨a1, a2, a3⟩ := (st_part H hj htw hm).2 hcan
    exact ⟨a1, a2.symm, ad, _, _, _, _, rfl, IX_tuS I, rfl, a3⟩
  · rintro E h' ⟨rfl, hE⟩
    refine ⟨rfl, ?_⟩
    rcases hE with ⟨rfl, h1⟩ | ⟨rfl, h1, h2⟩
    · refine Or.inl ⟨rfl, fun b s2 hm => ?_⟩
      unfold MPart at hm
      rcases hm with ⟨m1, m2, rfl⟩ | ⟨m0, -⟩ | ⟨m0, -⟩
      · exact ⟨rfl, LX_th I H (by omega)⟩
      · exact absurd (show _ by rw [e0] at m0; exact m0) h1
      · exact absurd (show _ by rw [e0] at m0; exact m0) h1
    · obtain ⟨j, rfl⟩ := nat_of h1.1
      have hj : j < Q.1 := by omega
      exact Or.inr ⟨rfl, fun b s2 hm => ⟨((st_part H hj htw hm).1 h2).1, ad, Q, S, P, B, rfl, I, rfl, ((st_part H hj htw hm).1 h2).2⟩⟩

theorem cs_played (hfl : l.stackTraces = false) (I : IX (gEm Γ) ad Q S P B) (H : Sim c Q S P B s) (hc : c ≤ 600) {t : Int} {p : Int} {w : Int} (ht : -2147483648 ≤ t ∧ t ≤ 2147483647) (hp : -2147483648 ≤ p ∧ p ≤ 2147483647) (hw : -2147483648 ≤ w ∧ w ≤ 2147483647) : Ct l Γ m_X4_played [.ref (ad (0, 0)), iv t, iv p, iv w] (HX (gEm Γ) ad Q S P B) (fun v h' => ∃ r : Int, v = some (iv r) ∧ (-2147483648 ≤ r ∧ r ≤ 2147483647) ∧ ∀ (b : Int) (s2 : MS), (∃ cd : Int, MPlayed s t p w b cd ∧ mSame s s2 ∧ VM s2 ∧ s2 39 0 = cd) → s2 39 0 = 0 ∧ r = b ∧ LX Γ (ad (0, 0)) (c + 1) h' s2) (fun E h' => h' = (HX (gEm Γ) ad Q S P B) ∧ ((E = "java/lang/IndexOutOfBoundsException" ∧ ∀ (b : Int) (s2 : MS), (∃ cd : Int, MPlayed s t p w b cd ∧ mSame s s2 ∧ VM s2 ∧ s2 39 0 = cd) → s2 39 0 = 1 ∧ LX Γ (ad (0, 0)) (c + 1) (HX (gEm Γ) ad Q S P B) s2) ∨ (E = "java/lang/IllegalArgumentException" ∧ ∀ (b : Int) (s2 : MS), (∃ cd : Int, MPlayed s t p w b cd ∧ mSame s s2 ∧ VM s2 ∧ s2 39 0 = cd) → s2 39 0 = 2 ∧ LX Γ (ad (0, 0)) (c + 1) (HX (gEm Γ) ad Q S P B) s2))) := by
  have e0 : s 0 0 = Q.1 := H.2.1.1.1
  have e17 : s 17 0 = P.1 := H.2.2.2.1.1.1
  have e29 : s 29 0 = B.1 := H.2.2.2.2.1.1
  refine Ct.mono (x_played hfl I H.hokT.1 H.hokT.2 ht hp hw) ?_ ?_
  · rintro v h' ⟨rfl, ⟨hin, hpl, hrg⟩, rfl⟩
    obtain ⟨j, rfl⟩ := nat_of hin.1
    have hj : j < Q.1 := by omega
    have hq10 := H.hokT.1
    have tk := H.hokT.2 j hj
    have tsj := (H.2.1.2.1 j hj).2
    have pr := (pl_rows tsj tk).2 p hpl.1 hpl.2
    have mr := mPl_rows H.1 (t := (j : Int)) (by omega) (s 3 j).toNat (by have := H.1.at 3 (j : Int) rfl; omega)
    obtain ⟨k1, k2, k3, k4, k5, k6, k7, k8, k9, k10⟩ := tk
    have b7 := k7 (tN (Q.2.2 j) p)
    have b8 := k8 (tN (Q.2.2 j) p)
    have b9 := k9 (tN (Q.2.2 j) p)
    have bp : 0 ≤ tP (Q.2.2 j) (tN (Q.2.2 j) p) ∧ tP (Q.2.2 j) (tN (Q.2.2 j) p) ≤ 8 := by
      rw [← pr.2.2.2]
      exact mr.2 p
    have bu := usum_bound (f := fun q => tL (Q.2.2 j) (tN (Q.2.2 j) q)) (b := 16) (by omega) (n := p.toNat) (fun q _ _ => k8 _)
    have pb : p < (tPl (Q.2.2 j) : Int) := hpl.2
    refine ⟨_, rfl, ?_, fun b s2 hm => ?_⟩
    · show -2147483648 ≤ (if w = 0 then tH (Q.2.2 j) (tN (Q.2.2 j) p) else if w = 1 then tL (Q.2.2 j) (tN (Q.2.2 j) p) else if w = 2 then tG (Q.2.2 j) (tN (Q.2.2 j) p) else if w = 3 then usum (fun q => tL (Q.2.2 j) (tN (Q.2.2 j) q)) p.toNat else tP (Q.2.2 j) (tN (Q.2.2 j) p)) ∧ (if w = 0 then tH (Q.2.2 j) (tN (Q.2.2 j) p) else if w = 1 then tL (Q.2.2 j) (tN (Q.2.2 j) p) else if w = 2 then tG (Q.2.2 j) (tN (Q.2.2 j) p) else if w = 3 then usum (fun q => tL (Q.2.2 j) (tN (Q.2.2 j) q)) p.toNat else tP (Q.2.2 j) (tN (Q.2.2 j) p)) ≤ 2147483647
      (repeat' split) <;> omega
    · obtain ⟨cd, hm, hsm, V2, h39⟩ := hm
      obtain ⟨a1, a2⟩ := (st_played H hj hm).2.2 ⟨hpl, hrg⟩
      exact ⟨h39.trans a1, a2.symm, LX_same I H hsm V2⟩
  · rintro E h' ⟨rfl, hE⟩
    refine ⟨rfl, ?_⟩
    rcases hE with ⟨rfl, h1⟩ | ⟨rfl, h1, h2, h3⟩
    · refine Or.inl ⟨rfl, fun b s2 hm => ?_⟩
      obtain ⟨cd, hm, hsm, V2, h39⟩ := hm
      refine ⟨?_, LX_same I H hsm V2⟩
      rcases h1 with h1 | ⟨h0, h1⟩
      · unfold MPlayed at hm
        rcases hm with ⟨m1, m2, -⟩ | ⟨m0, -⟩ | ⟨m0, -⟩ | ⟨m0, -⟩
        · exact h39.trans m2
        · exact absurd (show _ by rw [e0] at m0; exact m0) h1
        · exact absurd (show _ by rw [e0] at m0; exact m0) h1
        · exact absurd (show _ by rw [e0] at m0; exact m0) h1
      · obtain ⟨j, rfl⟩ := nat_of h0.1
        have hj : j < Q.1 := by omega
        exact h39.trans ((st_played H hj hm).1 h1)
    · obtain ⟨j, rfl⟩ := nat_of h1.1
      have hj : j < Q.1 := by omega
      refine Or.inr ⟨rfl, fun b s2 hm => ?_⟩
      obtain ⟨cd, hm, hsm, V2, h39⟩ := hm
      exact ⟨h39.trans ((st_played H hj hm).2.1 ⟨h2, h3⟩), LX_same I H hsm V2⟩

theorem cs_ofTune (hfl : l.stackTraces = false) (I : IX (gEm Γ) ad Q S P B) (H : Sim c Q S P B s) (hc : c ≤ 600) {t : Int} {w : Int} (ht : -2147483648 ≤ t ∧ t ≤ 2147483647) (hw : -2147483648 ≤ w ∧ w ≤ 2147483647) : Ct l Γ m_X4_ofTune [.ref (ad (0, 0)), iv t, iv w] (HX (gEm Γ) ad Q S P B) (fun v h' => ∃ r : Int, v = some (iv r) ∧ (-2147483648 ≤ r ∧ r ≤ 2147483647) ∧ ∀ (b : Int) (s2 : MS), (∃ cd : Int, MOfTune s t w b cd ∧ mSame s s2 ∧ VM s2 ∧ s2 39 0 = cd) → s2 39 0 = 0 ∧ r = b ∧ LX Γ (ad (0, 0)) (c + 1) h' s2) (fun E h' => h' = (HX (gEm Γ) ad Q S P B) ∧ ((E = "java/lang/IndexOutOfBoundsException" ∧ ∀ (b : Int) (s2 : MS), (∃ cd : Int, MOfTune s t w b cd ∧ mSame s s2 ∧ VM s2 ∧ s2 39 0 = cd) → s2 39 0 = 1 ∧ LX Γ (ad (0, 0)) (c + 1) (HX (gEm Γ) ad Q S P B) s2) ∨ (E = "java/lang/IllegalArgumentException" ∧ ∀ (b : Int) (s2 : MS), (∃ cd : Int, MOfTune s t w b cd ∧ mSame s s2 ∧ VM s2 ∧ s2 39 0 = cd) → s2 39 0 = 2 ∧ LX Γ (ad (0, 0)) (c + 1) (HX (gEm Γ) ad Q S P B) s2))) := by
  have e0 : s 0 0 = Q.1 := H.2.1.1.1
  have e17 : s 17 0 = P.1 := H.2.2.2.1.1.1
  have e29 : s 29 0 = B.1 := H.2.2.2.2.1.1
  refine Ct.mono (x_ofTune hfl I H.hokT.1 H.hokT.2 ht hw) ?_ ?_
  · rintro v h' ⟨rfl, ⟨hin, hrg⟩, rfl⟩
    obtain ⟨j, rfl⟩ := nat_of hin.1
    have hj : j < Q.1 := by omega
    obtain ⟨k1, k2, k3, k4, k5, k6, k7, k8, k9, k10⟩ := H.hokT.2 j hj
    have bu := usum_bound (f := fun q => tL (Q.2.2 j) (tN (Q.2.2 j) q)) (b := 16) (by omega) (n := tPl (Q.2.2 j)) (fun q _ _ => k8 _)
    have bv := usum_bound (f := clash1 (fun q => tG (Q.2.2 j) (tN (Q.2.2 j) q)) (fun q => tH (Q.2.2 j) (tN (Q.2.2 j) q))) (b := 1) (by omega) (n := tPl (Q.2.2 j)) (fun q _ _ => clash_bd _ _ _)
    have bw := usum_bound (f := fun q => smallOf (tG (Q.2.2 j) (tN (Q.2.2 j) q))) (b := 4) (by omega) (n := tPl (Q.2.2 j)) (fun q _ _ => smallOf_bd _)
    refine ⟨_, rfl, ?_, fun b s2 hm => ?_⟩
    · show -2147483648 ≤ (if w = 0 then tKd (Q.2.2 j) else if w = 1 then (tPl (Q.2.2 j) : Int) else if w = 2 then usum (fun q => tL (Q.2.2 j) (tN (Q.2.2 j) q)) (tPl (Q.2.2 j)) else if w = 3 then usum (clash1 (fun q => tG (Q.2.2 j) (tN (Q.2.2 j) q)) (fun q => tH (Q.2.2 j) (tN (Q.2.2 j) q))) (tPl (Q.2.2 j)) else if w = 4 then usum (fun q => smallOf (tG (Q.2.2 j) (tN (Q.2.2 j) q))) (tPl (Q.2.2 j)) else if w = 5 then (tPc (Q.2.2 j) : Int) else (tWc (Q.2.2 j) : Int) - tFo (Q.2.2 j)) ∧ (if w = 0 then tKd (Q.2.2 j) else if w = 1 then (tPl (Q.2.2 j) : Int) else if w = 2 then usum (fun q => tL (Q.2.2 j) (tN (Q.2.2 j) q)) (tPl (Q.2.2 j)) else if w = 3 then usum (clash1 (fun q => tG (Q.2.2 j) (tN (Q.2.2 j) q)) (fun q => tH (Q.2.2 j) (tN (Q.2.2 j) q))) (tPl (Q.2.2 j)) else if w = 4 then usum (fun q => smallOf (tG (Q.2.2 j) (tN (Q.2.2 j) q))) (tPl (Q.2.2 j)) else if w = 5 then (tPc (Q.2.2 j) : Int) else (tWc (Q.2.2 j) : Int) - tFo (Q.2.2 j)) ≤ 2147483647
      (repeat' split) <;> omega
    · obtain ⟨cd, hm, hsm, V2, h39⟩ := hm
      obtain ⟨a1, a2⟩ := (st_ofTune H hj hm).2 hrg
      exact ⟨h39.trans a1, a2.symm, LX_same I H hsm V2⟩
  · rintro E h' ⟨rfl, hE⟩
    refine ⟨rfl, ?_⟩
    rcases hE with ⟨rfl, h1⟩ | ⟨rfl, h1, h2⟩
    · refine Or.inl ⟨rfl, fun b s2 hm => ?_⟩
      obtain ⟨cd, hm, hsm, V2, h39⟩ := hm
      refine ⟨?_, LX_same I H hsm V2⟩
      unfold MOfTune at hm
      rcases hm with ⟨m1, m2, -⟩ | ⟨m0, -⟩ | ⟨m0, -⟩
      · exact h39.trans m2
      · exact absurd (show _ by rw [e0] at m0; exact m0) h1
      · exact absurd (show _ by rw [e0] at m0; exact m0) h1
    · obtain ⟨j, rfl⟩ := nat_of h1.1
      have hj : j < Q.1 := by omega
      refine Or.inr ⟨rfl, fun b s2 hm => ?_⟩
      obtain ⟨cd, hm, hsm, V2, h39⟩ := hm
      exact ⟨h39.trans ((st_ofTune H hj hm).1 h2), LX_same I H hsm V2⟩

theorem cs_alike (hfl : l.stackTraces = false) (I : IX (gEm Γ) ad Q S P B) (H : Sim c Q S P B s) (hc : c ≤ 600) {t : Int} {t2 : Int} (ht : -2147483648 ≤ t ∧ t ≤ 2147483647) (ht2 : -2147483648 ≤ t2 ∧ t2 ≤ 2147483647) : Ct l Γ m_X4_alike [.ref (ad (0, 0)), iv t, iv t2] (HX (gEm Γ) ad Q S P B) (fun v h' => ∃ r : Int, v = some (iv r) ∧ (-2147483648 ≤ r ∧ r ≤ 2147483647) ∧ ∀ (b : Int) (s2 : MS), (∃ cd : Int, MAlike s t t2 b cd ∧ mSame s s2 ∧ VM s2 ∧ s2 39 0 = cd) → s2 39 0 = 0 ∧ r = b ∧ LX Γ (ad (0, 0)) (c + 1) h' s2) (fun E h' => h' = (HX (gEm Γ) ad Q S P B) ∧ ((E = "java/lang/IndexOutOfBoundsException" ∧ ∀ (b : Int) (s2 : MS), (∃ cd : Int, MAlike s t t2 b cd ∧ mSame s s2 ∧ VM s2 ∧ s2 39 0 = cd) → s2 39 0 = 1 ∧ LX Γ (ad (0, 0)) (c + 1) (HX (gEm Γ) ad Q S P B) s2))) := by
  have e0 : s 0 0 = Q.1 := H.2.1.1.1
  have e17 : s 17 0 = P.1 := H.2.2.2.1.1.1
  have e29 : s 29 0 = B.1 := H.2.2.2.2.1.1
  refine Ct.mono (x_alike hfl I H.hokT.1 H.hokT.2 ht ht2) ?_ ?_
  · rintro v h' ⟨m, rfl, hal, hin, rfl⟩
    have hm0 := alike_le hal
    have hj : t.toNat < Q.1 := by omega
    have k5 := (H.hokT.2 _ hj).2.2.2.2.1
    have k3 := (H.hokT.2 _ hj).2.2.1
    have k2 := (H.hokT.2 _ hj).2.1
    refine ⟨_, rfl, by omega, fun b s2 hm => ?_⟩
    obtain ⟨cd, hm, hsm, V2, h39⟩ := hm
    obtain ⟨a1, a2⟩ := (st_alike H hm).2 hin
    exact ⟨h39.trans a1, (a2 m hal).symm, LX_same I H hsm V2⟩
  · rintro E h' ⟨rfl, rfl, h1⟩
    refine ⟨rfl, rfl, fun b s2 hm => ?_⟩
    obtain ⟨cd, hm, hsm, V2, h39⟩ := hm
    exact ⟨h39.trans ((st_alike H hm).1 h1), LX_same I H hsm V2⟩

theorem cs_alikeAnew (hfl : l.stackTraces = false) (I : IX (gEm Γ) ad Q S P B) (H : Sim c Q S P B s) (hc : c ≤ 600) {t : Int} {t2 : Int} (ht : -2147483648 ≤ t ∧ t ≤ 2147483647) (ht2 : -2147483648 ≤ t2 ∧ t2 ≤ 2147483647) : Ct l Γ m_X4_alikeAnew [.ref (ad (0, 0)), iv t, iv t2] (HX (gEm Γ) ad Q S P B) (fun v h' => ∃ r : Int, v = some (iv r) ∧ (-2147483648 ≤ r ∧ r ≤ 2147483647) ∧ ∀ (b : Int) (s2 : MS), (∃ cd : Int, MAlike s t t2 b cd ∧ mSame s s2 ∧ VM s2 ∧ s2 39 0 = cd) → s2 39 0 = 0 ∧ r = b ∧ LX Γ (ad (0, 0)) (c + 1) h' s2) (fun E h' => h' = (HX (gEm Γ) ad Q S P B) ∧ ((E = "java/lang/IndexOutOfBoundsException" ∧ ∀ (b : Int) (s2 : MS), (∃ cd : Int, MAlike s t t2 b cd ∧ mSame s s2 ∧ VM s2 ∧ s2 39 0 = cd) → s2 39 0 = 1 ∧ LX Γ (ad (0, 0)) (c + 1) (HX (gEm Γ) ad Q S P B) s2))) := by
  have e0 : s 0 0 = Q.1 := H.2.1.1.1
  have e17 : s 17 0 = P.1 := H.2.2.2.1.1.1
  have e29 : s 29 0 = B.1 := H.2.2.2.2.1.1
  refine Ct.mono (x_alikeAnew hfl I H.hokT.1 H.hokT.2 ht ht2) ?_ ?_
  · rintro v h' ⟨m, rfl, hal, hin, rfl⟩
    have hm0 := alike_le hal
    have hj : t.toNat < Q.1 := by omega
    have k5 := (H.hokT.2 _ hj).2.2.2.2.1
    have k3 := (H.hokT.2 _ hj).2.2.1
    have k2 := (H.hokT.2 _ hj).2.1
    refine ⟨_, rfl, by omega, fun b s2 hm => ?_⟩
    obtain ⟨cd, hm, hsm, V2, h39⟩ := hm
    obtain ⟨a1, a2⟩ := (st_alike H hm).2 hin
    exact ⟨h39.trans a1, (a2 m hal).symm, LX_same I H hsm V2⟩
  · rintro E h' ⟨rfl, rfl, h1⟩
    refine ⟨rfl, rfl, fun b s2 hm => ?_⟩
    obtain ⟨cd, hm, hsm, V2, h39⟩ := hm
    exact ⟨h39.trans ((st_alike H hm).1 h1), LX_same I H hsm V2⟩

theorem cs_follow (hfl : l.stackTraces = false) (I : IX (gEm Γ) ad Q S P B) (H : Sim c Q S P B s) (hc : c ≤ 600) {t : Int} {tp : Int} (ht : -2147483648 ≤ t ∧ t ≤ 2147483647) (htp : -2147483648 ≤ tp ∧ tp ≤ 2147483647) : Ct l Γ m_X4_follow [.ref (ad (0, 0)), iv t, iv tp] (HX (gEm Γ) ad Q S P B) (fun v h' => ∃ r : Int, v = some (iv r) ∧ (-2147483648 ≤ r ∧ r ≤ 2147483647) ∧ ∀ (b : Int) (s2 : MS), (∃ (cd : Int) (s1 : MS), MFollow s t tp b cd s1 s2 ∧ mSame s s1 ∧ VM s1 ∧ s1 39 0 = cd) → s2 39 0 = 0 ∧ r = b ∧ LX Γ (ad (0, 0)) (c + 1) h' s2) (fun E h' => h' = (HX (gEm Γ) ad Q S P B) ∧ ((E = "java/lang/IndexOutOfBoundsException" ∧ ∀ (b : Int) (s2 : MS), (∃ (cd : Int) (s1 : MS), MFollow s t tp b cd s1 s2 ∧ mSame s s1 ∧ VM s1 ∧ s1 39 0 = cd) → s2 39 0 = 1 ∧ LX Γ (ad (0, 0)) (c + 1) (HX (gEm Γ) ad Q S P B) s2) ∨ (E = "java/lang/IllegalArgumentException" ∧ ∀ (b : Int) (s2 : MS), (∃ (cd : Int) (s1 : MS), MFollow s t tp b cd s1 s2 ∧ mSame s s1 ∧ VM s1 ∧ s1 39 0 = cd) → s2 39 0 = 2 ∧ LX Γ (ad (0, 0)) (c + 1) (HX (gEm Γ) ad Q S P B) s2) ∨ (E = "java/lang/IllegalStateException" ∧ ∀ (b : Int) (s2 : MS), (∃ (cd : Int) (s1 : MS), MFollow s t tp b cd s1 s2 ∧ mSame s s1 ∧ VM s1 ∧ s1 39 0 = cd) → s2 39 0 = 3 ∧ LX Γ (ad (0, 0)) (c + 1) (HX (gEm Γ) ad Q S P B) s2))) := by
  have e0 : s 0 0 = Q.1 := H.2.1.1.1
  have e17 : s 17 0 = P.1 := H.2.2.2.1.1.1
  have e29 : s 29 0 = B.1 := H.2.2.2.2.1.1
  refine Ct.mono (x_follow hfl I H.hokT.1 H.hokT.2 H.hse ht htp) ?_ ?_
  · rintro v h' ⟨rfl, ⟨hin, hrg, hmay⟩, ad2, hd2, I2, rfl⟩
    obtain ⟨j, rfl⟩ := nat_of hin.1
    have hj : j < Q.1 := by omega
    refine ⟨_, rfl, by omega, fun b s2 hm => ?_⟩
    obtain ⟨cd, s1, hm, hsm, V1, h39⟩ := hm
    obtain ⟨a1, a2, a3⟩ := (st_follow H hj hsm V1 h39 hm).2.2 ⟨hrg, hmay⟩
    exact ⟨a1, a2.symm, ad2, _, _, _, _, hd2 _ (by intro z; cases z), I2, rfl, a3⟩
  · rintro E h' ⟨rfl, hE⟩
    refine ⟨rfl, ?_⟩
    rcases hE with ⟨rfl, h1⟩ | ⟨rfl, h1, h2⟩ | ⟨rfl, h1, h2, h3⟩
    · refine Or.inl ⟨rfl, fun b s2 hm => ?_⟩
      obtain ⟨cd, s1, hm, hsm, V1, h39⟩ := hm
      unfold MFollow at hm
      rcases hm with ⟨m1, m2, -, rfl⟩ | ⟨m0, -⟩ | ⟨m0, -⟩ | ⟨m0, -⟩
      · exact ⟨h39.trans m2, LX_same I H hsm V1⟩
      · exact absurd (show _ by rw [e0] at m0; exact m0) h1
      · exact absurd (show _ by rw [e0] at m0; exact m0) h1
      · exact absurd (show _ by rw [e0] at m0; exact m0) h1
    · obtain ⟨j, rfl⟩ := nat_of h1.1
      have hj : j < Q.1 := by omega
      refine Or.inr (Or.inl ⟨rfl, fun b s2 hm => ?_⟩)
      obtain ⟨cd, s1, hm, hsm, V1, h39⟩ := hm
      obtain ⟨a1, a2⟩ := (st_follow H hj hsm V1 h39 hm).1 h2
      exact ⟨a1, ad, Q, S, P, B, rfl, I, rfl, a2⟩
    · obtain ⟨j, rfl⟩ := nat_of h1.1
      have hj : j < Q.1 := by omega
      refine Or.inr (Or.inr ⟨rfl, fun b s2 hm => ?_⟩)
      obtain ⟨cd, s1, hm, hsm, V1, h39⟩ := hm
      obtain ⟨a1, a2⟩ := (st_follow H hj hsm V1 h39 hm).2.1 ⟨h2, h3⟩
      exact ⟨a1, ad, Q, S, P, B, rfl, I, rfl, a2⟩

theorem cs_drop (hfl : l.stackTraces = false) (I : IX (gEm Γ) ad Q S P B) (H : Sim c Q S P B s) (hc : c ≤ 600)   : Ct l Γ m_X4_drop [.ref (ad (0, 0))] (HX (gEm Γ) ad Q S P B) (fun v h' => ∃ r : Int, v = some (iv r) ∧ (-2147483648 ≤ r ∧ r ≤ 2147483647) ∧ ∀ (b : Int) (s2 : MS), (MDrop s b s2) → s2 39 0 = 0 ∧ r = b ∧ LX Γ (ad (0, 0)) (c + 1) h' s2) (fun E h' => h' = (HX (gEm Γ) ad Q S P B) ∧ ((E = "java/lang/IllegalStateException" ∧ ∀ (b : Int) (s2 : MS), (MDrop s b s2) → s2 39 0 = 1 ∧ LX Γ (ad (0, 0)) (c + 1) (HX (gEm Γ) ad Q S P B) s2))) := by
  have e0 : s 0 0 = Q.1 := H.2.1.1.1
  have e17 : s 17 0 = P.1 := H.2.2.2.1.1.1
  have e29 : s 29 0 = B.1 := H.2.2.2.2.1.1
  refine Ct.mono (x_drop hfl I H.hokT.1 H.hokT.2 H.hse) ?_ ?_
  · rintro v h' ⟨rfl, h1, rfl⟩
    have hb := H.hss (S.2.1 - 1) (by omega)
    have hq := H.hokT.1
    refine ⟨_, rfl, by omega, fun b s2 hm => ?_⟩
    obtain ⟨a1, a2, a3⟩ := (st_drop H hm).2 h1
    exact ⟨a1, a2.symm, ad, _, _, _, _, rfl, IX_drop I, rfl, a3⟩
  · rintro E h' ⟨rfl, rfl, h1⟩
    refine ⟨rfl, rfl, fun b s2 hm => ?_⟩
    obtain ⟨a1, a2⟩ := (st_drop H hm).1 h1
    exact ⟨a1, ad, Q, S, P, B, rfl, I, rfl, a2⟩

theorem cs_piper (hfl : l.stackTraces = false) (I : IX (gEm Γ) ad Q S P B) (H : Sim c Q S P B s) (hc : c ≤ 600) {a : Int} {b0 : Int} {e : Int} (ha : -2147483648 ≤ a ∧ a ≤ 2147483647) (hb0 : -2147483648 ≤ b0 ∧ b0 ≤ 2147483647) (he : -2147483648 ≤ e ∧ e ≤ 2147483647) : Ct l Γ m_X4_piper [.ref (ad (0, 0)), iv a, iv b0, iv e] (HX (gEm Γ) ad Q S P B) (fun v h' => ∃ r : Int, v = some (iv r) ∧ (-2147483648 ≤ r ∧ r ≤ 2147483647) ∧ ∀ (b : Int) (s2 : MS), (MPiper s a b0 e b s2) → s2 39 0 = 0 ∧ r = b ∧ LX Γ (ad (0, 0)) (c + 1) h' s2) (fun E h' => h' = (HX (gEm Γ) ad Q S P B) ∧ ((E = "java/lang/IllegalArgumentException" ∧ ∀ (b : Int) (s2 : MS), (MPiper s a b0 e b s2) → s2 39 0 = 1 ∧ LX Γ (ad (0, 0)) (c + 1) (HX (gEm Γ) ad Q S P B) s2) ∨ (E = "java/lang/IllegalStateException" ∧ ∀ (b : Int) (s2 : MS), (MPiper s a b0 e b s2) → s2 39 0 = 2 ∧ LX Γ (ad (0, 0)) (c + 1) (HX (gEm Γ) ad Q S P B) s2))) := by
  have e0 : s 0 0 = Q.1 := H.2.1.1.1
  have e17 : s 17 0 = P.1 := H.2.2.2.1.1.1
  have e29 : s 29 0 = B.1 := H.2.2.2.2.1.1
  refine Ct.mono (x_piper hfl I H.hokP.1 H.hss ha hb0 he) ?_ ?_
  · rintro v h' ⟨rfl, ⟨hrg, hlt⟩, ad2, hd2, I2, rfl⟩
    refine ⟨_, rfl, by omega, fun b s2 hm => ?_⟩
    obtain ⟨a1, a2, a3⟩ := (st_piper H hm).2.2 ⟨hrg, hlt⟩
    exact ⟨a1, a2.symm, ad2, _, _, _, _, hd2 _ (by intro z; cases z), I2, rfl, a3⟩
  · rintro E h' ⟨rfl, hE⟩
    refine ⟨rfl, ?_⟩
    rcases hE with ⟨rfl, h1⟩ | ⟨rfl, h1⟩
    · exact Or.inl ⟨rfl, fun b s2 hm => ⟨((st_piper H hm).1 h1).1, ad, Q, S, P, B, rfl, I, rfl, ((st_piper H hm).1 h1).2⟩⟩
    · exact Or.inr ⟨rfl, fun b s2 hm => ⟨((st_piper H hm).2.1 h1).1, ad, Q, S, P, B, rfl, I, rfl, ((st_piper H hm).2.1 h1).2⟩⟩

theorem cs_seat (hfl : l.stackTraces = false) (I : IX (gEm Γ) ad Q S P B) (H : Sim c Q S P B s) (hc : c ≤ 600) {p : Int} {b0 : Int} (hp : -2147483648 ≤ p ∧ p ≤ 2147483647) (hb0 : -2147483648 ≤ b0 ∧ b0 ≤ 2147483647) : Ct l Γ m_X4_seat [.ref (ad (0, 0)), iv p, iv b0] (HX (gEm Γ) ad Q S P B) (fun v h' => ∃ r : Int, v = some (iv r) ∧ (-2147483648 ≤ r ∧ r ≤ 2147483647) ∧ ∀ (b : Int) (s2 : MS), (MSeat s p b0 b s2) → s2 39 0 = 0 ∧ r = b ∧ LX Γ (ad (0, 0)) (c + 1) h' s2) (fun E h' => h' = (HX (gEm Γ) ad Q S P B) ∧ ((E = "java/lang/IndexOutOfBoundsException" ∧ ∀ (b : Int) (s2 : MS), (MSeat s p b0 b s2) → s2 39 0 = 1 ∧ LX Γ (ad (0, 0)) (c + 1) (HX (gEm Γ) ad Q S P B) s2) ∨ (E = "java/lang/IllegalArgumentException" ∧ ∀ (b : Int) (s2 : MS), (MSeat s p b0 b s2) → s2 39 0 = 2 ∧ LX Γ (ad (0, 0)) (c + 1) (HX (gEm Γ) ad Q S P B) s2))) := by
  have e0 : s 0 0 = Q.1 := H.2.1.1.1
  have e17 : s 17 0 = P.1 := H.2.2.2.1.1.1
  have e29 : s 29 0 = B.1 := H.2.2.2.2.1.1
  refine Ct.mono (x_seat hfl I H.hokP.1 H.hokP.2.1 hp hb0) ?_ ?_
  · rintro v h' ⟨rfl, ⟨hin, hrg, hrg2⟩, rfl⟩
    obtain ⟨j, rfl⟩ := nat_of hin.1
    have hj : j < P.1 := by omega
    have hr3 : -100 ≤ pS (P.2.2.1 j) + b0 ∧ pS (P.2.2.1 j) + b0 ≤ 100 := hrg2
    refine ⟨_, rfl, ⟨by show -2147483648 ≤ pS (P.2.2.1 j) + b0; omega, by show pS (P.2.2.1 j) + b0 ≤ 2147483647; omega⟩, fun b s2 hm => ?_⟩
    obtain ⟨a1, a2, a3⟩ := (st_seat H hj hm).2 ⟨hrg, hr3⟩
    exact ⟨a1, a2.symm, ad, _, _, _, _, rfl, IX_P I, rfl, a3⟩
  · rintro E h' ⟨rfl, hE⟩
    refine ⟨rfl, ?_⟩
    rcases hE with ⟨rfl, h1⟩ | ⟨rfl, h1, h2⟩
    · refine Or.inl ⟨rfl, fun b s2 hm => ?_⟩
      unfold MSeat at hm
      rcases hm with ⟨m1, m2, rfl⟩ | ⟨m0, -⟩ | ⟨m0, -⟩
      · exact ⟨rfl, LX_th I H (by omega)⟩
      · exact absurd (show _ by rw [e17] at m0; exact m0) h1
      · exact absurd (show _ by rw [e17] at m0; exact m0) h1
    · obtain ⟨j, rfl⟩ := nat_of h1.1
      have hj : j < P.1 := by omega
      exact Or.inr ⟨rfl, fun b s2 hm => ⟨((st_seat H hj hm).1 h2).1, ad, Q, S, P, B, rfl, I, rfl, ((st_seat H hj hm).1 h2).2⟩⟩

theorem cs_rest (hfl : l.stackTraces = false) (I : IX (gEm Γ) ad Q S P B) (H : Sim c Q S P B s) (hc : c ≤ 600) {p : Int} {b0 : Int} (hp : -2147483648 ≤ p ∧ p ≤ 2147483647) (hb0 : b0 = 0 ∨ b0 = 1) : Ct l Γ m_X4_rest [.ref (ad (0, 0)), iv p, iv b0] (HX (gEm Γ) ad Q S P B) (fun v h' => ∃ r : Int, v = some (iv r) ∧ (r = 0 ∨ r = 1) ∧ ∀ (b : Int) (s2 : MS), (MRest s p b0 b s2) → s2 39 0 = 0 ∧ r = b ∧ LX Γ (ad (0, 0)) (c + 1) h' s2) (fun E h' => h' = (HX (gEm Γ) ad Q S P B) ∧ ((E = "java/lang/IndexOutOfBoundsException" ∧ ∀ (b : Int) (s2 : MS), (MRest s p b0 b s2) → s2 39 0 = 1 ∧ LX Γ (ad (0, 0)) (c + 1) (HX (gEm Γ) ad Q S P B) s2))) := by
  have e0 : s 0 0 = Q.1 := H.2.1.1.1
  have e17 : s 17 0 = P.1 := H.2.2.2.1.1.1
  have e29 : s 29 0 = B.1 := H.2.2.2.2.1.1
  refine Ct.mono (x_rest hfl I H.hokP.1 H.hokP.2.1 hp hb0) ?_ ?_
  · rintro v h' ⟨rfl, hin, rfl⟩
    obtain ⟨j, rfl⟩ := nat_of hin.1
    have hj : j < P.1 := by omega
    refine ⟨_, rfl, (H.hokP.2.1 j hj).2.2.2.2.2.2, fun b s2 hm => ?_⟩
    obtain ⟨a1, a2, a3⟩ := st_rest H hj hb0 hm
    exact ⟨a1, a2.symm, ad, _, _, _, _, rfl, IX_P I, rfl, a3⟩
  · rintro E h' ⟨rfl, rfl, h1⟩
    refine ⟨rfl, rfl, fun b s2 hm => ?_⟩
    unfold MRest at hm
    rcases hm with ⟨m1, m2, rfl⟩ | ⟨m0, -⟩
    · exact ⟨rfl, LX_th I H (by omega)⟩
    · exact absurd (show _ by rw [e17] at m0; exact m0) h1

theorem cs_play (hfl : l.stackTraces = false) (I : IX (gEm Γ) ad Q S P B) (H : Sim c Q S P B s) (hc : c ≤ 600) {m : Int} {ra : Int} {he : Int} (hm : -2147483648 ≤ m ∧ m ≤ 2147483647) (hra : -2147483648 ≤ ra ∧ ra ≤ 2147483647) (hhe : -2147483648 ≤ he ∧ he ≤ 2147483647) : Ct l Γ m_X4_play [.ref (ad (0, 0)), iv m, iv ra, iv he] (HX (gEm Γ) ad Q S P B) (fun v h' => ∃ r : Int, v = some (iv r) ∧ (-2147483648 ≤ r ∧ r ≤ 2147483647) ∧ ∀ (b : Int) (s2 : MS), (MPlay s m ra he b s2) → s2 39 0 = 0 ∧ r = b ∧ LX Γ (ad (0, 0)) (c + 1) h' s2) (fun E h' => h' = (HX (gEm Γ) ad Q S P B) ∧ ((E = "java/lang/IllegalArgumentException" ∧ ∀ (b : Int) (s2 : MS), (MPlay s m ra he b s2) → s2 39 0 = 1 ∧ LX Γ (ad (0, 0)) (c + 1) (HX (gEm Γ) ad Q S P B) s2))) := by
  have e0 : s 0 0 = Q.1 := H.2.1.1.1
  have e17 : s 17 0 = P.1 := H.2.2.2.1.1.1
  have e29 : s 29 0 = B.1 := H.2.2.2.2.1.1
  refine Ct.mono (x_play hfl I H.hokP.1 H.hokP.2.1 H.hokP.2.2.1 H.hokP.2.2.2 hm hra hhe) ?_ ?_
  · rintro v h' ⟨rfl, hmin, c2, f2, hc2, hf2, rfl⟩
    have gb := gSp_bd (pf := advK P.2.2.1 m.toNat ra he P.1) (n := P.1) (w := -1) (fun i hi => by rw [advK_lt P.1 i hi]; exact pAdv_ok (H.hokP.2.1 i hi) hmin.2.1 hmin.2.2)
    refine ⟨_, rfl, by omega, fun b s2 hm => ?_⟩
    obtain ⟨a1, a2, a3⟩ := (st_play H hm).2 hmin
    exact ⟨a1, a2.symm, ad, _, _, _, _, rfl, IX_P I, rfl, Sim_rows a3 hc2 hf2⟩
  · rintro E h' ⟨rfl, rfl, h1⟩
    refine ⟨rfl, rfl, fun b s2 hm => ?_⟩
    obtain ⟨a1, a2⟩ := (st_play H hm).1 h1
    exact ⟨a1, ad, Q, S, P, B, rfl, I, rfl, a2⟩

theorem cs_ofPiper (hfl : l.stackTraces = false) (I : IX (gEm Γ) ad Q S P B) (H : Sim c Q S P B s) (hc : c ≤ 600) {p : Int} {w : Int} (hp : -2147483648 ≤ p ∧ p ≤ 2147483647) (hw : -2147483648 ≤ w ∧ w ≤ 2147483647) : Ct l Γ m_X4_ofPiper [.ref (ad (0, 0)), iv p, iv w] (HX (gEm Γ) ad Q S P B) (fun v h' => ∃ r : Int, v = some (iv r) ∧ (-2147483648 ≤ r ∧ r ≤ 2147483647) ∧ ∀ (b : Int) (s2 : MS), (∃ cd : Int, MOfPiper s p w b cd ∧ mSame s s2 ∧ VM s2 ∧ s2 39 0 = cd) → s2 39 0 = 0 ∧ r = b ∧ LX Γ (ad (0, 0)) (c + 1) h' s2) (fun E h' => h' = (HX (gEm Γ) ad Q S P B) ∧ ((E = "java/lang/IndexOutOfBoundsException" ∧ ∀ (b : Int) (s2 : MS), (∃ cd : Int, MOfPiper s p w b cd ∧ mSame s s2 ∧ VM s2 ∧ s2 39 0 = cd) → s2 39 0 = 1 ∧ LX Γ (ad (0, 0)) (c + 1) (HX (gEm Γ) ad Q S P B) s2) ∨ (E = "java/lang/IllegalArgumentException" ∧ ∀ (b : Int) (s2 : MS), (∃ cd : Int, MOfPiper s p w b cd ∧ mSame s s2 ∧ VM s2 ∧ s2 39 0 = cd) → s2 39 0 = 2 ∧ LX Γ (ad (0, 0)) (c + 1) (HX (gEm Γ) ad Q S P B) s2))) := by
  have e0 : s 0 0 = Q.1 := H.2.1.1.1
  have e17 : s 17 0 = P.1 := H.2.2.2.1.1.1
  have e29 : s 29 0 = B.1 := H.2.2.2.2.1.1
  refine Ct.mono (x_ofPiper hfl I H.hokP.1 H.hokP.2.1 H.hokP.2.2.1 H.hokP.2.2.2 hp hw) ?_ ?_
  · rintro v h' ⟨rfl, ⟨hin, hrg⟩, c2, f2, hc2, hf2, rfl⟩
    obtain ⟨j, rfl⟩ := nat_of hin.1
    have hj : j < P.1 := by omega
    have pk := H.hokP.2.1 j hj
    have pb := pPit_bd pk
    have gb := gMd_bd (pf := P.2.2.1) (n := P.1) (w := -1) H.hokP.2.1
    obtain ⟨o1, o2, o3, o4, o5, o6, o7⟩ := pk
    refine ⟨_, rfl, ?_, fun b s2 hm => ?_⟩
    · show -2147483648 ≤ (if w = 5 then (if gCnt P.2.2.1 P.1 (-1) < 1 then 0 else gMd P.2.2.1 P.1 (-1) - pPit (P.2.2.1 j)) else if w = 0 then pPit (P.2.2.1 j) else if w = 1 then pR (P.2.2.1 j) else if w = 2 then pS (P.2.2.1 j) else if w = 3 then pW (P.2.2.1 j) else pT (P.2.2.1 j)) ∧ (if w = 5 then (if gCnt P.2.2.1 P.1 (-1) < 1 then 0 else gMd P.2.2.1 P.1 (-1) - pPit (P.2.2.1 j)) else if w = 0 then pPit (P.2.2.1 j) else if w = 1 then pR (P.2.2.1 j) else if w = 2 then pS (P.2.2.1 j) else if w = 3 then pW (P.2.2.1 j) else pT (P.2.2.1 j)) ≤ 2147483647
      (repeat' split) <;> omega
    · obtain ⟨cd, hm, hsm, V2, h39⟩ := hm
      obtain ⟨a1, a2⟩ := (st_ofPiper H hj hm).2 hrg
      exact ⟨h39.trans a1, a2.symm, LX_rows I (Sim_same H hsm V2) hc2 hf2⟩
  · rintro E h' ⟨rfl, hE⟩
    refine ⟨rfl, ?_⟩
    rcases hE with ⟨rfl, h1⟩ | ⟨rfl, h1, h2⟩
    · refine Or.inl ⟨rfl, fun b s2 hm => ?_⟩
      obtain ⟨cd, hm, hsm, V2, h39⟩ := hm
      refine ⟨?_, LX_same I H hsm V2⟩
      unfold MOfPiper at hm
      rcases hm with ⟨m1, m2, -⟩ | ⟨m0, -⟩ | ⟨m0, -⟩
      · exact h39.trans m2
      · exact absurd (show _ by rw [e17] at m0; exact m0) h1
      · exact absurd (show _ by rw [e17] at m0; exact m0) h1
    · obtain ⟨j, rfl⟩ := nat_of h1.1
      have hj : j < P.1 := by omega
      refine Or.inr ⟨rfl, fun b s2 hm => ?_⟩
      obtain ⟨cd, hm, hsm, V2, h39⟩ := hm
      exact ⟨h39.trans ((st_ofPiper H hj hm).1 h2), LX_same I H hsm V2⟩

theorem cs_beats (hfl : l.stackTraces = false) (I : IX (gEm Γ) ad Q S P B) (H : Sim c Q S P B s) (hc : c ≤ 600) {p : Int} {q : Int} (hp : -2147483648 ≤ p ∧ p ≤ 2147483647) (hq : -2147483648 ≤ q ∧ q ≤ 2147483647) : Ct l Γ m_X4_beats [.ref (ad (0, 0)), iv p, iv q] (HX (gEm Γ) ad Q S P B) (fun v h' => ∃ r : UInt32, v = some (.float r) ∧ vf_n64 (FP.f2d r) ∧ ∀ (b : UInt32) (s2 : MS), (MBeats s p q b s2) → s2 39 0 = 0 ∧ r = b ∧ LX Γ (ad (0, 0)) (c + 1) h' s2) (fun E h' => h' = (HX (gEm Γ) ad Q S P B) ∧ ((E = "java/lang/IndexOutOfBoundsException" ∧ ∀ (b : UInt32) (s2 : MS), (MBeats s p q b s2) → s2 39 0 = 1 ∧ LX Γ (ad (0, 0)) (c + 1) (HX (gEm Γ) ad Q S P B) s2))) := by
  have e0 : s 0 0 = Q.1 := H.2.1.1.1
  have e17 : s 17 0 = P.1 := H.2.2.2.1.1.1
  have e29 : s 29 0 = B.1 := H.2.2.2.2.1.1
  refine Ct.mono (x_beats hfl I H.hokP.1 H.hokP.2.1 hp hq) ?_ ?_
  · rintro v h' ⟨rfl, hin, rfl⟩
    have b1 := pPit_bd (H.hokP.2.1 p.toNat (by omega))
    have b2 := pPit_bd (H.hokP.2.1 q.toNat (by omega))
    have ab : 0 ≤ isAbs (pPit (P.2.2.1 p.toNat) - pPit (P.2.2.1 q.toNat)) ∧ isAbs (pPit (P.2.2.1 p.toNat) - pPit (P.2.2.1 q.toNat)) ≤ 1000 := by
      unfold isAbs
      split <;> omega
    refine ⟨_, rfl, (btF_d2 ab).2, fun b s2 hm => ?_⟩
    obtain ⟨a1, a2, a3⟩ := (st_beats H hm).2 hin
    exact ⟨a1, a2.symm, ad, Q, S, P, B, rfl, I, rfl, a3⟩
  · rintro E h' ⟨rfl, rfl, h1⟩
    refine ⟨rfl, rfl, fun b s2 hm => ?_⟩
    obtain ⟨a1, a2⟩ := (st_beats H hm).1 h1
    exact ⟨a1, ad, Q, S, P, B, rfl, I, rfl, a2⟩

theorem cs_ahead (hfl : l.stackTraces = false) (I : IX (gEm Γ) ad Q S P B) (H : Sim c Q S P B s) (hc : c ≤ 600) {m : Int} {ra : Int} {he : Int} (hm : -2147483648 ≤ m ∧ m ≤ 2147483647) (hra : -2147483648 ≤ ra ∧ ra ≤ 2147483647) (hhe : -2147483648 ≤ he ∧ he ≤ 2147483647) : Ct l Γ m_X4_ahead [.ref (ad (0, 0)), iv m, iv ra, iv he] (HX (gEm Γ) ad Q S P B) (fun v h' => ∃ r : Int, v = some (iv r) ∧ (-2147483648 ≤ r ∧ r ≤ 2147483647) ∧ ∀ (b : Int) (s2 : MS), (∃ (cd : Int) (s1 : MS), MAhead s s1 m ra he b cd ∧ mSame s s1 ∧ VM s1 ∧ mSame s s2 ∧ VM s2 ∧ s2 39 0 = cd) → s2 39 0 = 0 ∧ r = b ∧ LX Γ (ad (0, 0)) (c + 1) h' s2) (fun E h' => h' = (HX (gEm Γ) ad Q S P B) ∧ ((E = "java/lang/IllegalArgumentException" ∧ ∀ (b : Int) (s2 : MS), (∃ (cd : Int) (s1 : MS), MAhead s s1 m ra he b cd ∧ mSame s s1 ∧ VM s1 ∧ mSame s s2 ∧ VM s2 ∧ s2 39 0 = cd) → s2 39 0 = 1 ∧ LX Γ (ad (0, 0)) (c + 1) (HX (gEm Γ) ad Q S P B) s2))) := by
  have e0 : s 0 0 = Q.1 := H.2.1.1.1
  have e17 : s 17 0 = P.1 := H.2.2.2.1.1.1
  have e29 : s 29 0 = B.1 := H.2.2.2.2.1.1
  refine Ct.mono (x_ahead hfl I H.hokP.1 H.hokP.2.1 H.hokP.2.2.1 hm hra hhe) ?_ ?_
  · rintro v h' ⟨rfl, hmin, tr, c2, f2, hc2, hf2, rfl⟩
    have gb := gSp_bd (pf := advA P.2.2.1 m.toNat ra he) (n := P.1) (w := -1) (fun i hi => pAdv_ok (H.hokP.2.1 i hi) hmin.2.1 hmin.2.2)
    refine ⟨_, rfl, by omega, fun b s2 hm => ?_⟩
    obtain ⟨cd, s1, hm, hs1, V1, hs2, V2, h39⟩ := hm
    obtain ⟨a1, a2⟩ := (st_ahead H hs1 hm).2 hmin
    exact ⟨h39.trans a1, a2.symm, LX_rows I (Sim_same H hs2 V2) hc2 hf2⟩
  · rintro E h' ⟨rfl, rfl, h1⟩
    refine ⟨rfl, rfl, fun b s2 hm => ?_⟩
    obtain ⟨cd, s1, hm, hs1, V1, hs2, V2, h39⟩ := hm
    exact ⟨h39.trans ((st_ahead H hs1 hm).1 h1), LX_same I H hs2 V2⟩

theorem cs_band (hfl : l.stackTraces = false) (I : IX (gEm Γ) ad Q S P B) (H : Sim c Q S P B s) (hc : c ≤ 600) {z : Int} (hz : -2147483648 ≤ z ∧ z ≤ 2147483647) : Ct l Γ m_X4_band [.ref (ad (0, 0)), iv z] (HX (gEm Γ) ad Q S P B) (fun v h' => ∃ r : Int, v = some (iv r) ∧ (-2147483648 ≤ r ∧ r ≤ 2147483647) ∧ ∀ (b : Int) (s2 : MS), (MBand s z b s2) → s2 39 0 = 0 ∧ r = b ∧ LX Γ (ad (0, 0)) (c + 1) h' s2) (fun E h' => h' = (HX (gEm Γ) ad Q S P B) ∧ ((E = "java/lang/IllegalArgumentException" ∧ ∀ (b : Int) (s2 : MS), (MBand s z b s2) → s2 39 0 = 1 ∧ LX Γ (ad (0, 0)) (c + 1) (HX (gEm Γ) ad Q S P B) s2) ∨ (E = "java/lang/IllegalStateException" ∧ ∀ (b : Int) (s2 : MS), (MBand s z b s2) → s2 39 0 = 2 ∧ LX Γ (ad (0, 0)) (c + 1) (HX (gEm Γ) ad Q S P B) s2))) := by
  have e0 : s 0 0 = Q.1 := H.2.1.1.1
  have e17 : s 17 0 = P.1 := H.2.2.2.1.1.1
  have e29 : s 29 0 = B.1 := H.2.2.2.2.1.1
  refine Ct.mono (x_band hfl I H.hokB.1 H.hss hz) ?_ ?_
  · rintro v h' ⟨rfl, hq, ad2, hd2, I2, rfl⟩
    refine ⟨_, rfl, by omega, fun b s2 hm => ?_⟩
    obtain ⟨a1, a2, a3⟩ := (st_band H hm).2.2 hq
    exact ⟨a1, a2.symm, ad2, _, _, _, _, hd2 _ (by intro z; cases z), I2, rfl, a3⟩
  · rintro E h' ⟨rfl, hE⟩
    refine ⟨rfl, ?_⟩
    rcases hE with ⟨rfl, h1⟩ | ⟨rfl, h1⟩
    · exact Or.inl ⟨rfl, fun b s2 hm => ⟨((st_band H hm).1 h1).1, ad, Q, S, P, B, rfl, I, rfl, ((st_band H hm).1 h1).2⟩⟩
    · exact Or.inr ⟨rfl, fun b s2 hm => ⟨((st_band H hm).2.1 h1).1, ad, Q, S, P, B, rfl, I, rfl, ((st_band H hm).2.1 h1).2⟩⟩

theorem cs_contest (hfl : l.stackTraces = false) (I : IX (gEm Γ) ad Q S P B) (H : Sim c Q S P B s) (hc : c ≤ 600) {g : Int} (hg : -2147483648 ≤ g ∧ g ≤ 2147483647) : Ct l Γ m_X4_contest [.ref (ad (0, 0)), iv g] (HX (gEm Γ) ad Q S P B) (fun v h' => ∃ r : Int, v = some (iv r) ∧ (-2147483648 ≤ r ∧ r ≤ 2147483647) ∧ ∀ (b : Int) (s2 : MS), (MContest s g b s2) → s2 39 0 = 0 ∧ r = b ∧ LX Γ (ad (0, 0)) (c + 1) h' s2) (fun E h' => h' = (HX (gEm Γ) ad Q S P B) ∧ ((E = "java/lang/IllegalArgumentException" ∧ ∀ (b : Int) (s2 : MS), (MContest s g b s2) → s2 39 0 = 1 ∧ LX Γ (ad (0, 0)) (c + 1) (HX (gEm Γ) ad Q S P B) s2) ∨ (E = "java/lang/IllegalStateException" ∧ ∀ (b : Int) (s2 : MS), (MContest s g b s2) → s2 39 0 = 2 ∧ LX Γ (ad (0, 0)) (c + 1) (HX (gEm Γ) ad Q S P B) s2))) := by
  have e0 : s 0 0 = Q.1 := H.2.1.1.1
  have e17 : s 17 0 = P.1 := H.2.2.2.1.1.1
  have e29 : s 29 0 = B.1 := H.2.2.2.2.1.1
  refine Ct.mono (x_contest hfl I H.hokB.1 H.hokB.2.1 H.hokB.2.2.1 hg) ?_ ?_
  · rintro v h' ⟨rfl, hq, bf, hbf, rfl⟩
    have cb := cOg_bd B.2.2.1 g B.1
    have hb8 := H.hokB.1
    refine ⟨_, rfl, by omega, fun b s2 hm => ?_⟩
    obtain ⟨a1, a2, a3⟩ := (st_contest H hm).2.2 hq
    exact ⟨a1, a2.symm, ad, _, _, _, _, rfl, IX_B I, rfl, a3 bf hbf⟩
  · rintro E h' ⟨rfl, hE⟩
    refine ⟨rfl, ?_⟩
    rcases hE with ⟨rfl, h1⟩ | ⟨rfl, h1⟩
    · exact Or.inl ⟨rfl, fun b s2 hm => ⟨((st_contest H hm).1 h1).1, ad, Q, S, P, B, rfl, I, rfl, ((st_contest H hm).1 h1).2⟩⟩
    · exact Or.inr ⟨rfl, fun b s2 hm => ⟨((st_contest H hm).2.1 h1).1, ad, Q, S, P, B, rfl, I, rfl, ((st_contest H hm).2.1 h1).2⟩⟩

theorem cs_mark (hfl : l.stackTraces = false) (I : IX (gEm Γ) ad Q S P B) (H : Sim c Q S P B s) (hc : c ≤ 600) {j0 : Int} {b0 : Int} {m : Int} (hj0 : -2147483648 ≤ j0 ∧ j0 ≤ 2147483647) (hb0 : -2147483648 ≤ b0 ∧ b0 ≤ 2147483647) (hm : -2147483648 ≤ m ∧ m ≤ 2147483647) : Ct l Γ m_X4_mark [.ref (ad (0, 0)), iv j0, iv b0, iv m] (HX (gEm Γ) ad Q S P B) (fun v h' => ∃ r : Int, v = some (iv r) ∧ (-2147483648 ≤ r ∧ r ≤ 2147483647) ∧ ∀ (b : Int) (s2 : MS), (MMark s j0 b0 m b s2) → s2 39 0 = 0 ∧ r = b ∧ LX Γ (ad (0, 0)) (c + 1) h' s2) (fun E h' => h' = (HX (gEm Γ) ad Q S P B) ∧ ((E = "java/lang/IndexOutOfBoundsException" ∧ ∀ (b : Int) (s2 : MS), (MMark s j0 b0 m b s2) → s2 39 0 = 1 ∧ LX Γ (ad (0, 0)) (c + 1) (HX (gEm Γ) ad Q S P B) s2) ∨ (E = "java/lang/IllegalArgumentException" ∧ ∀ (b : Int) (s2 : MS), (MMark s j0 b0 m b s2) → s2 39 0 = 2 ∧ LX Γ (ad (0, 0)) (c + 1) (HX (gEm Γ) ad Q S P B) s2) ∨ (E = "java/lang/IllegalStateException" ∧ ∀ (b : Int) (s2 : MS), (MMark s j0 b0 m b s2) → s2 39 0 = 3 ∧ LX Γ (ad (0, 0)) (c + 1) (HX (gEm Γ) ad Q S P B) s2))) := by
  have e0 : s 0 0 = Q.1 := H.2.1.1.1
  have e17 : s 17 0 = P.1 := H.2.2.2.1.1.1
  have e29 : s 29 0 = B.1 := H.2.2.2.2.1.1
  refine Ct.mono (x_mark hfl I H.hokB.1 H.hokB.2.1 H.hokB.2.2.1 hj0 hb0 hm) ?_ ?_
  · rintro v h' ⟨rfl, ⟨⟨hjn, hin⟩, hrg, hcan⟩, rfl⟩
    obtain ⟨j, rfl⟩ := nat_of hin.1
    have hj : j < B.1 := by omega
    have mm := H.hokB.2.2.2
    refine ⟨_, rfl, by omega, fun b s2 hm => ?_⟩
    obtain ⟨a1, a2, a3⟩ := (st_mark H hjn hj hm).2.2 ⟨hrg, hcan⟩
    exact ⟨a1, a2.symm, ad, _, _, _, _, rfl, IX_B I, rfl, a3⟩
  · rintro E h' ⟨rfl, hE⟩
    refine ⟨rfl, ?_⟩
    rcases hE with ⟨rfl, h1⟩ | ⟨rfl, h1, h2⟩ | ⟨rfl, h1, h2, h3⟩
    · refine Or.inl ⟨rfl, fun b s2 hm => ?_⟩
      unfold MMark at hm
      rcases hm with ⟨m1, m2, rfl⟩ | ⟨m0, -⟩ | ⟨m0, -⟩ | ⟨m0, -⟩
      · exact ⟨rfl, LX_th I H (by omega)⟩
      · exact absurd (show _ by rw [e29] at m0; exact m0) h1
      · exact absurd (show _ by rw [e29] at m0; exact m0) h1
      · exact absurd (show _ by rw [e29] at m0; exact m0) h1
    · obtain ⟨j, rfl⟩ := nat_of h1.2.1
      have hj : j < B.1 := by omega
      exact Or.inr (Or.inl ⟨rfl, fun b s2 hm => ⟨((st_mark H h1.1 hj hm).1 h2).1, ad, Q, S, P, B, rfl, I, rfl, ((st_mark H h1.1 hj hm).1 h2).2⟩⟩)
    · obtain ⟨j, rfl⟩ := nat_of h1.2.1
      have hj : j < B.1 := by omega
      exact Or.inr (Or.inr ⟨rfl, fun b s2 hm => ⟨((st_mark H h1.1 hj hm).2.1 ⟨h2, h3⟩).1, ad, Q, S, P, B, rfl, I, rfl, ((st_mark H h1.1 hj hm).2.1 ⟨h2, h3⟩).2⟩⟩)

theorem cs_close (hfl : l.stackTraces = false) (I : IX (gEm Γ) ad Q S P B) (H : Sim c Q S P B s) (hc : c ≤ 600)   : Ct l Γ m_X4_close [.ref (ad (0, 0))] (HX (gEm Γ) ad Q S P B) (fun v h' => ∃ r : Int, v = some (iv r) ∧ (-2147483648 ≤ r ∧ r ≤ 2147483647) ∧ ∀ (b : Int) (s2 : MS), (MClose s b s2) → s2 39 0 = 0 ∧ r = b ∧ LX Γ (ad (0, 0)) (c + 1) h' s2) (fun E h' => h' = (HX (gEm Γ) ad Q S P B) ∧ ((E = "java/lang/IllegalStateException" ∧ ∀ (b : Int) (s2 : MS), (MClose s b s2) → s2 39 0 = 1 ∧ LX Γ (ad (0, 0)) (c + 1) (HX (gEm Γ) ad Q S P B) s2))) := by
  have e0 : s 0 0 = Q.1 := H.2.1.1.1
  have e17 : s 17 0 = P.1 := H.2.2.2.1.1.1
  have e29 : s 29 0 = B.1 := H.2.2.2.2.1.1
  refine Ct.mono (x_close hfl I H.hokB.1 (fun i hi => ?_) H.hokB.2.2.1 H.hokB.2.2.2) ?_ ?_
  · have y := H.2.2.2.2.2.1 i hi
    have f := H.2.2.2.2.2.2.2.1 (i : Int)
    have y4 := y.2.2.2.1
    have y7 := y.2.2.2.2.2.2
    exact ⟨y.1, by rw [← y4]; omega, by rw [← y7]; omega⟩
  · rintro v h' ⟨rfl, hq, rfl⟩
    have rb := rk1_bd (clK B.2.2.1 B.1 B.1) B.1 B.1
    have hb8 := H.hokB.1
    refine ⟨_, rfl, by omega, fun b s2 hm => ?_⟩
    obtain ⟨a1, a2, a3⟩ := (st_close H hc hm).2 hq
    exact ⟨a1, a2.symm, ad, _, _, _, _, rfl, IX_B I, rfl, a3⟩
  · rintro E h' ⟨rfl, rfl, h1⟩
    refine ⟨rfl, rfl, fun b s2 hm => ?_⟩
    obtain ⟨a1, a2⟩ := (st_close H hc hm).1 h1
    exact ⟨a1, ad, Q, S, P, B, rfl, I, rfl, a2⟩

theorem cs_season (hfl : l.stackTraces = false) (I : IX (gEm Γ) ad Q S P B) (H : Sim c Q S P B s) (hc : c ≤ 600)   : Ct l Γ m_X4_season [.ref (ad (0, 0))] (HX (gEm Γ) ad Q S P B) (fun v h' => ∃ r : Int, v = some (iv r) ∧ (-2147483648 ≤ r ∧ r ≤ 2147483647) ∧ ∀ (b : Int) (s2 : MS), (MSeason s b s2) → s2 39 0 = 0 ∧ r = b ∧ LX Γ (ad (0, 0)) (c + 1) h' s2) (fun E h' => h' = (HX (gEm Γ) ad Q S P B) ∧ ((E = "java/lang/IllegalStateException" ∧ ∀ (b : Int) (s2 : MS), (MSeason s b s2) → s2 39 0 = 1 ∧ LX Γ (ad (0, 0)) (c + 1) (HX (gEm Γ) ad Q S P B) s2))) := by
  have e0 : s 0 0 = Q.1 := H.2.1.1.1
  have e17 : s 17 0 = P.1 := H.2.2.2.1.1.1
  have e29 : s 29 0 = B.1 := H.2.2.2.2.1.1
  refine Ct.mono (x_season hfl I H.hokB.1 H.hokB.2.1 H.hokB.2.2.1) ?_ ?_
  · rintro v h' ⟨rfl, hq, rfl⟩
    have rb := mvK_bd (seaK B.2.2.1 B.1 4) B.1
    have hb8 := H.hokB.1
    refine ⟨_, rfl, by omega, fun b s2 hm => ?_⟩
    obtain ⟨a1, a2, a3⟩ := (st_season H hm).2 hq
    exact ⟨a1, a2.symm, ad, _, _, _, _, rfl, IX_B I, rfl, a3⟩
  · rintro E h' ⟨rfl, rfl, h1⟩
    refine ⟨rfl, rfl, fun b s2 hm => ?_⟩
    obtain ⟨a1, a2⟩ := (st_season H hm).1 h1
    exact ⟨a1, ad, Q, S, P, B, rfl, I, rfl, a2⟩

theorem cs_ofBand (hfl : l.stackTraces = false) (I : IX (gEm Γ) ad Q S P B) (H : Sim c Q S P B s) (hc : c ≤ 600) {p : Int} {w : Int} (hp : -2147483648 ≤ p ∧ p ≤ 2147483647) (hw : -2147483648 ≤ w ∧ w ≤ 2147483647) : Ct l Γ m_X4_ofBand [.ref (ad (0, 0)), iv p, iv w] (HX (gEm Γ) ad Q S P B) (fun v h' => ∃ r : Int, v = some (iv r) ∧ (-2147483648 ≤ r ∧ r ≤ 2147483647) ∧ ∀ (b : Int) (s2 : MS), (MOfBand s p w b s2) → s2 39 0 = 0 ∧ r = b ∧ LX Γ (ad (0, 0)) (c + 1) h' s2) (fun E h' => h' = (HX (gEm Γ) ad Q S P B) ∧ ((E = "java/lang/IndexOutOfBoundsException" ∧ ∀ (b : Int) (s2 : MS), (MOfBand s p w b s2) → s2 39 0 = 1 ∧ LX Γ (ad (0, 0)) (c + 1) (HX (gEm Γ) ad Q S P B) s2) ∨ (E = "java/lang/IllegalArgumentException" ∧ ∀ (b : Int) (s2 : MS), (MOfBand s p w b s2) → s2 39 0 = 2 ∧ LX Γ (ad (0, 0)) (c + 1) (HX (gEm Γ) ad Q S P B) s2))) := by
  have e0 : s 0 0 = Q.1 := H.2.1.1.1
  have e17 : s 17 0 = P.1 := H.2.2.2.1.1.1
  have e29 : s 29 0 = B.1 := H.2.2.2.2.1.1
  refine Ct.mono (x_ofBand hfl I H.hokB.1 H.hokB.2.1 hp hw) ?_ ?_
  · rintro v h' ⟨rfl, ⟨hin, hrg⟩, rfl⟩
    obtain ⟨j, rfl⟩ := nat_of hin.1
    have hj : j < B.1 := by omega
    obtain ⟨o1, o2, o3, o4, o5, o6, o7, o8⟩ := H.hokB.2.1 j hj
    refine ⟨_, rfl, ?_, fun b s2 hm => ?_⟩
    · show -2147483648 ≤ (if w = 0 then bGr (B.2.2.1 j) else if w = 1 then bPo (B.2.2.1 j) else if w = 2 then bRk (B.2.2.1 j) else if w = 3 then bSu (B.2.2.1 j) else bFi (B.2.2.1 j)) ∧ (if w = 0 then bGr (B.2.2.1 j) else if w = 1 then bPo (B.2.2.1 j) else if w = 2 then bRk (B.2.2.1 j) else if w = 3 then bSu (B.2.2.1 j) else bFi (B.2.2.1 j)) ≤ 2147483647
      (repeat' split) <;> omega
    · obtain ⟨a1, a2, a3⟩ := (st_ofBand H hj hm).2 hrg
      exact ⟨a1, a2.symm, ad, Q, S, P, B, rfl, I, rfl, a3⟩
  · rintro E h' ⟨rfl, hE⟩
    refine ⟨rfl, ?_⟩
    rcases hE with ⟨rfl, h1⟩ | ⟨rfl, h1, h2⟩
    · refine Or.inl ⟨rfl, fun b s2 hm => ?_⟩
      unfold MOfBand at hm
      rcases hm with ⟨m1, m2, rfl⟩ | ⟨m0, -⟩ | ⟨m0, -⟩
      · exact ⟨rfl, LX_th I H (by omega)⟩
      · exact absurd (show _ by rw [e29] at m0; exact m0) h1
      · exact absurd (show _ by rw [e29] at m0; exact m0) h1
    · obtain ⟨j, rfl⟩ := nat_of h1.1
      have hj : j < B.1 := by omega
      exact Or.inr ⟨rfl, fun b s2 hm => ⟨((st_ofBand H hj hm).1 h2).1, ad, Q, S, P, B, rfl, I, rfl, ((st_ofBand H hj hm).1 h2).2⟩⟩

end CS
