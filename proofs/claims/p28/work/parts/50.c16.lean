/-! the class: new tunes, pipers, bands -/
theorem mk_tu {E : Nat} {ad : XK → Nat} {Q : XTs} {S : XSs} {P : XPs} {B : XBs} (I : IX E ad Q S P B) {q0 a14 a15 a16 a17 a18 : Nat} {e0 : AE} {kd : Int} (hq : HX E ad Q S P B q0 = none) (c14 : a14 ≠ q0 ∧ hset (HX E ad Q S P B) q0 e0 a14 = none) (c15 : a15 ≠ q0 ∧ a15 ≠ a14 ∧ hset (HX E ad Q S P B) q0 e0 a15 = none) (c16 : a16 ≠ q0 ∧ a16 ≠ a15 ∧ a16 ≠ a14 ∧ hset (HX E ad Q S P B) q0 e0 a16 = none) (c17 : a17 ≠ q0 ∧ a17 ≠ a16 ∧ a17 ≠ a15 ∧ a17 ≠ a14 ∧ hset (HX E ad Q S P B) q0 e0 a17 = none) (c18 : a18 ≠ q0 ∧ a18 ≠ a17 ∧ a18 ≠ a16 ∧ a18 ≠ a15 ∧ a18 ≠ a14 ∧ hset (HX E ad Q S P B) q0 e0 a18 = none) :
    ∃ (ad1 : XK → Nat) (m1 : XK → Option AE), hset (hset (hset (hset (hset (hset (hset (HX E ad Q S P B) q0 e0) a14 (aI 64 (fun _ => 0))) a15 (aI 64 (fun _ => 0))) a16 (aI 64 (fun _ => 0))) a17 (aI 64 (fun _ => 0))) a18 (aI 128 (fun _ => 0))) q0 (oTu Q.1 kd a14 a15 a16 a17 a18 0 0 0 0 0) = emb ad1 m1 ∧ embI ad1 m1 ∧ (∀ k, XM E ad Q S P B k ≠ none → ad1 k = ad k) ∧ (∀ r, 13 ≤ r ∧ r < 19 → m1 (r, Q.1) = some (tuC ad1 (kd, 0, 0, 0, 0, 0, (fun _ => 0), (fun _ => 0), (fun _ => 0), (fun _ => 0), (fun _ => 0)) r Q.1)) ∧ (∀ k, (∀ r, 13 ≤ r ∧ r < 19 → k ≠ (r, Q.1)) → m1 k = XM E ad Q S P B k) ∧ ad1 (13, Q.1) = q0 := by
  have x0 : ∀ r, 13 ≤ r ∧ r < 19 → XM E ad Q S P B (r, Q.1) = none := by
    intro r hr
    unfold XM
    dsimp only
    rw [if_neg (show ¬ r < 13 by omega), if_pos (show r < 19 by omega), if_neg (Nat.lt_irrefl _)]
  have s0 := emb_kn (k := ((13, Q.1) : XK)) (e := e0) I (x0 13 (by omega)) hq
  have s1 := emb_kn (k := ((14, Q.1) : XK)) (e := aI 64 (fun _ => 0)) s0.2 (by rw [kset_ne (show ((14, Q.1) : XK) ≠ (13, Q.1) from pne (by decide))]; exact x0 14 (by omega)) (by rw [← s0.1]; exact c14.2)
  have s2 := emb_kn (k := ((15, Q.1) : XK)) (e := aI 64 (fun _ => 0)) s1.2 (by rw [kset_ne (show ((15, Q.1) : XK) ≠ (14, Q.1) from pne (by decide)), kset_ne (show ((15, Q.1) : XK) ≠ (13, Q.1) from pne (by decide))]; exact x0 15 (by omega)) (by rw [← s1.1, hset_ne c15.2.1, ← s0.1]; exact c15.2.2)
  have s3 := emb_kn (k := ((16, Q.1) : XK)) (e := aI 64 (fun _ => 0)) s2.2 (by rw [kset_ne (show ((16, Q.1) : XK) ≠ (15, Q.1) from pne (by decide)), kset_ne (show ((16, Q.1) : XK) ≠ (14, Q.1) from pne (by decide)), kset_ne (show ((16, Q.1) : XK) ≠ (13, Q.1) from pne (by decide))]; exact x0 16 (by omega)) (by rw [← s2.1, hset_ne c16.2.1, ← s1.1, hset_ne c16.2.2.1, ← s0.1]; exact c16.2.2.2)
  have s4 := emb_kn (k := ((17, Q.1) : XK)) (e := aI 64 (fun _ => 0)) s3.2 (by rw [kset_ne (show ((17, Q.1) : XK) ≠ (16, Q.1) from pne (by decide)), kset_ne (show ((17, Q.1) : XK) ≠ (15, Q.1) from pne (by decide)), kset_ne (show ((17, Q.1) : XK) ≠ (14, Q.1) from pne (by decide)), kset_ne (show ((17, Q.1) : XK) ≠ (13, Q.1) from pne (by decide))]; exact x0 17 (by omega)) (by rw [← s3.1, hset_ne c17.2.1, ← s2.1, hset_ne c17.2.2.1, ← s1.1, hset_ne c17.2.2.2.1, ← s0.1]; exact c17.2.2.2.2)
  have s5 := emb_kn (k := ((18, Q.1) : XK)) (e := aI 128 (fun _ => 0)) s4.2 (by rw [kset_ne (show ((18, Q.1) : XK) ≠ (17, Q.1) from pne (by decide)), kset_ne (show ((18, Q.1) : XK) ≠ (16, Q.1) from pne (by decide)), kset_ne (show ((18, Q.1) : XK) ≠ (15, Q.1) from pne (by decide)), kset_ne (show ((18, Q.1) : XK) ≠ (14, Q.1) from pne (by decide)), kset_ne (show ((18, Q.1) : XK) ≠ (13, Q.1) from pne (by decide))]; exact x0 18 (by omega)) (by rw [← s4.1, hset_ne c18.2.1, ← s3.1, hset_ne c18.2.2.1, ← s2.1, hset_ne c18.2.2.2.1, ← s1.1, hset_ne c18.2.2.2.2.1, ← s0.1]; exact c18.2.2.2.2.2)
  have s6 := emb_ks (k := ((13, Q.1) : XK)) (e := oTu Q.1 kd a14 a15 a16 a17 a18 0 0 0 0 0) s5.2 (by rw [kset_ne (show ((13, Q.1) : XK) ≠ (18, Q.1) from pne (by decide)), kset_ne (show ((13, Q.1) : XK) ≠ (17, Q.1) from pne (by decide)), kset_ne (show ((13, Q.1) : XK) ≠ (16, Q.1) from pne (by decide)), kset_ne (show ((13, Q.1) : XK) ≠ (15, Q.1) from pne (by decide)), kset_ne (show ((13, Q.1) : XK) ≠ (14, Q.1) from pne (by decide)), kset_eq]; intro z; cases z)
  have eo : (adset (adset (adset (adset (adset (adset ad (13, Q.1) q0) (14, Q.1) a14) (15, Q.1) a15) (16, Q.1) a16) (17, Q.1) a17) (18, Q.1) a18) (13, Q.1) = q0 := by rw [adset_ne (show ((13, Q.1) : XK) ≠ (18, Q.1) from pne (by decide)), adset_ne (show ((13, Q.1) : XK) ≠ (17, Q.1) from pne (by decide)), adset_ne (show ((13, Q.1) : XK) ≠ (16, Q.1) from pne (by decide)), adset_ne (show ((13, Q.1) : XK) ≠ (15, Q.1) from pne (by decide)), adset_ne (show ((13, Q.1) : XK) ≠ (14, Q.1) from pne (by decide)), adset_eq]
  have e14 : (adset (adset (adset (adset (adset (adset ad (13, Q.1) q0) (14, Q.1) a14) (15, Q.1) a15) (16, Q.1) a16) (17, Q.1) a17) (18, Q.1) a18) (14, Q.1) = a14 := by rw [adset_ne (show ((14, Q.1) : XK) ≠ (18, Q.1) from pne (by decide)), adset_ne (show ((14, Q.1) : XK) ≠ (17, Q.1) from pne (by decide)), adset_ne (show ((14, Q.1) : XK) ≠ (16, Q.1) from pne (by decide)), adset_ne (show ((14, Q.1) : XK) ≠ (15, Q.1) from pne (by decide)), adset_eq]
  have e15 : (adset (adset (adset (adset (adset (adset ad (13, Q.1) q0) (14, Q.1) a14) (15, Q.1) a15) (16, Q.1) a16) (17, Q.1) a17) (18, Q.1) a18) (15, Q.1) = a15 := by rw [adset_ne (show ((15, Q.1) : XK) ≠ (18, Q.1) from pne (by decide)), adset_ne (show ((15, Q.1) : XK) ≠ (17, Q.1) from pne (by decide)), adset_ne (show ((15, Q.1) : XK) ≠ (16, Q.1) from pne (by decide)), adset_eq]
  have e16 : (adset (adset (adset (adset (adset (adset ad (13, Q.1) q0) (14, Q.1) a14) (15, Q.1) a15) (16, Q.1) a16) (17, Q.1) a17) (18, Q.1) a18) (16, Q.1) = a16 := by rw [adset_ne (show ((16, Q.1) : XK) ≠ (18, Q.1) from pne (by decide)), adset_ne (show ((16, Q.1) : XK) ≠ (17, Q.1) from pne (by decide)), adset_eq]
  have e17 : (adset (adset (adset (adset (adset (adset ad (13, Q.1) q0) (14, Q.1) a14) (15, Q.1) a15) (16, Q.1) a16) (17, Q.1) a17) (18, Q.1) a18) (17, Q.1) = a17 := by rw [adset_ne (show ((17, Q.1) : XK) ≠ (18, Q.1) from pne (by decide)), adset_eq]
  have e18 : (adset (adset (adset (adset (adset (adset ad (13, Q.1) q0) (14, Q.1) a14) (15, Q.1) a15) (16, Q.1) a16) (17, Q.1) a17) (18, Q.1) a18) (18, Q.1) = a18 := by rw [adset_eq]
  refine ⟨adset (adset (adset (adset (adset (adset ad (13, Q.1) q0) (14, Q.1) a14) (15, Q.1) a15) (16, Q.1) a16) (17, Q.1) a17) (18, Q.1) a18, kset (kset (kset (kset (kset (kset (kset (XM E ad Q S P B) (13, Q.1) e0) (14, Q.1) (aI 64 (fun _ => 0))) (15, Q.1) (aI 64 (fun _ => 0))) (16, Q.1) (aI 64 (fun _ => 0))) (17, Q.1) (aI 64 (fun _ => 0))) (18, Q.1) (aI 128 (fun _ => 0))) (13, Q.1) (oTu Q.1 kd a14 a15 a16 a17 a18 0 0 0 0 0), ?_, s6.2, ?_, ?_, ?_, eo⟩
  · have f := s6.1
    rw [eo] at f
    rw [← f, ← s5.1, ← s4.1, ← s3.1, ← s2.1, ← s1.1, ← s0.1]
    rfl
  · intro k hk
    have nk : ∀ r, 13 ≤ r ∧ r < 19 → k ≠ (r, Q.1) := fun r hr z => hk (by rw [z]; exact x0 r hr)
    rw [adset_ne (nk 18 (by omega)), adset_ne (nk 17 (by omega)), adset_ne (nk 16 (by omega)), adset_ne (nk 15 (by omega)), adset_ne (nk 14 (by omega)), adset_ne (nk 13 (by omega))]
  · intro r hr
    rcases (show r = 13 ∨ r = 14 ∨ r = 15 ∨ r = 16 ∨ r = 17 ∨ r = 18 from by omega) with e | e | e | e | e | e <;> subst e
    · rw [kset_eq]
      unfold tuC
      rw [if_pos rfl, e14, e15, e16, e17, e18]
    · rw [kset_ne (show ((14, Q.1) : XK) ≠ (13, Q.1) from pne (by decide)), kset_ne (show ((14, Q.1) : XK) ≠ (18, Q.1) from pne (by decide)), kset_ne (show ((14, Q.1) : XK) ≠ (17, Q.1) from pne (by decide)), kset_ne (show ((14, Q.1) : XK) ≠ (16, Q.1) from pne (by decide)), kset_ne (show ((14, Q.1) : XK) ≠ (15, Q.1) from pne (by decide)), kset_eq]
      rfl
    · rw [kset_ne (show ((15, Q.1) : XK) ≠ (13, Q.1) from pne (by decide)), kset_ne (show ((15, Q.1) : XK) ≠ (18, Q.1) from pne (by decide)), kset_ne (show ((15, Q.1) : XK) ≠ (17, Q.1) from pne (by decide)), kset_ne (show ((15, Q.1) : XK) ≠ (16, Q.1) from pne (by decide)), kset_eq]
      rfl
    · rw [kset_ne (show ((16, Q.1) : XK) ≠ (13, Q.1) from pne (by decide)), kset_ne (show ((16, Q.1) : XK) ≠ (18, Q.1) from pne (by decide)), kset_ne (show ((16, Q.1) : XK) ≠ (17, Q.1) from pne (by decide)), kset_eq]
      rfl
    · rw [kset_ne (show ((17, Q.1) : XK) ≠ (13, Q.1) from pne (by decide)), kset_ne (show ((17, Q.1) : XK) ≠ (18, Q.1) from pne (by decide)), kset_eq]
      rfl
    · rw [kset_ne (show ((18, Q.1) : XK) ≠ (13, Q.1) from pne (by decide)), kset_eq]
      rfl
  · intro k nk
    rw [kset_ne (nk 13 (by omega)), kset_ne (nk 18 (by omega)), kset_ne (nk 17 (by omega)), kset_ne (nk 16 (by omega)), kset_ne (nk 15 (by omega)), kset_ne (nk 14 (by omega)), kset_ne (nk 13 (by omega))]

theorem mk_ba {E : Nat} {ad : XK → Nat} {Q : XTs} {S : XSs} {P : XPs} {B : XBs} (I : IX E ad Q S P B) {q0 a21 a22 : Nat} {e0 : AE} {gr : Int} (hq : HX E ad Q S P B q0 = none) (c21 : a21 ≠ q0 ∧ hset (HX E ad Q S P B) q0 e0 a21 = none) (c22 : a22 ≠ q0 ∧ a22 ≠ a21 ∧ hset (HX E ad Q S P B) q0 e0 a22 = none) :
    ∃ (ad1 : XK → Nat) (m1 : XK → Option AE), hset (hset (hset (hset (HX E ad Q S P B) q0 e0) a21 (aI 4 (fun _ => 0))) a22 (aI 4 (fun _ => 0))) q0 (oBa B.1 a21 a22 gr gr 0 (-1) (-1) 0 0) = emb ad1 m1 ∧ embI ad1 m1 ∧ (∀ k, XM E ad Q S P B k ≠ none → ad1 k = ad k) ∧ (∀ r, 20 ≤ r ∧ r < 23 → m1 (r, B.1) = some (baC ad1 (gr, gr, 0, -1, -1, 0, 0, (fun _ => 0), (fun _ => 0)) r B.1)) ∧ (∀ k, (∀ r, 20 ≤ r ∧ r < 23 → k ≠ (r, B.1)) → m1 k = XM E ad Q S P B k) ∧ ad1 (20, B.1) = q0 := by
  have x0 : ∀ r, 20 ≤ r ∧ r < 23 → XM E ad Q S P B (r, B.1) = none := by
    intro r hr
    unfold XM
    dsimp only
    rw [if_neg (show ¬ r < 13 by omega), if_neg (show ¬ r < 19 by omega), if_neg (show ¬ r = 19 by omega), if_pos (show r < 23 by omega), if_neg (Nat.lt_irrefl _)]
  have s0 := emb_kn (k := ((20, B.1) : XK)) (e := e0) I (x0 20 (by omega)) hq
  have s1 := emb_kn (k := ((21, B.1) : XK)) (e := aI 4 (fun _ => 0)) s0.2 (by rw [kset_ne (show ((21, B.1) : XK) ≠ (20, B.1) from pne (by decide))]; exact x0 21 (by omega)) (by rw [← s0.1]; exact c21.2)
  have s2 := emb_kn (k := ((22, B.1) : XK)) (e := aI 4 (fun _ => 0)) s1.2 (by rw [kset_ne (show ((22, B.1) : XK) ≠ (21, B.1) from pne (by decide)), kset_ne (show ((22, B.1) : XK) ≠ (20, B.1) from pne (by decide))]; exact x0 22 (by omega)) (by rw [← s1.1, hset_ne c22.2.1, ← s0.1]; exact c22.2.2)
  have s3 := emb_ks (k := ((20, B.1) : XK)) (e := oBa B.1 a21 a22 gr gr 0 (-1) (-1) 0 0) s2.2 (by rw [kset_ne (show ((20, B.1) : XK) ≠ (22, B.1) from pne (by decide)), kset_ne (show ((20, B.1) : XK) ≠ (21, B.1) from pne (by decide)), kset_eq]; intro z; cases z)
  have eo : (adset (adset (adset ad (20, B.1) q0) (21, B.1) a21) (22, B.1) a22) (20, B.1) = q0 := by rw [adset_ne (show ((20, B.1) : XK) ≠ (22, B.1) from pne (by decide)), adset_ne (show ((20, B.1) : XK) ≠ (21, B.1) from pne (by decide)), adset_eq]
  have e21 : (adset (adset (adset ad (20, B.1) q0) (21, B.1) a21) (22, B.1) a22) (21, B.1) = a21 := by rw [adset_ne (show ((21, B.1) : XK) ≠ (22, B.1) from pne (by decide)), adset_eq]
  have e22 : (adset (adset (adset ad (20, B.1) q0) (21, B.1) a21) (22, B.1) a22) (22, B.1) = a22 := by rw [adset_eq]
  refine ⟨adset (adset (adset ad (20, B.1) q0) (21, B.1) a21) (22, B.1) a22, kset (kset (kset (kset (XM E ad Q S P B) (20, B.1) e0) (21, B.1) (aI 4 (fun _ => 0))) (22, B.1) (aI 4 (fun _ => 0))) (20, B.1) (oBa B.1 a21 a22 gr gr 0 (-1) (-1) 0 0), ?_, s3.2, ?_, ?_, ?_, eo⟩
  · have f := s3.1
    rw [eo] at f
    rw [← f, ← s2.1, ← s1.1, ← s0.1]
    rfl
  · intro k hk
    have nk : ∀ r, 20 ≤ r ∧ r < 23 → k ≠ (r, B.1) := fun r hr z => hk (by rw [z]; exact x0 r hr)
    rw [adset_ne (nk 22 (by omega)), adset_ne (nk 21 (by omega)), adset_ne (nk 20 (by omega))]
  · intro r hr
    rcases (show r = 20 ∨ r = 21 ∨ r = 22 from by omega) with e | e | e <;> subst e
    · rw [kset_eq]
      unfold baC
      rw [if_pos rfl, e21, e22]
    · rw [kset_ne (show ((21, B.1) : XK) ≠ (20, B.1) from pne (by decide)), kset_ne (show ((21, B.1) : XK) ≠ (22, B.1) from pne (by decide)), kset_eq]
      rfl
    · rw [kset_ne (show ((22, B.1) : XK) ≠ (20, B.1) from pne (by decide)), kset_eq]
      rfl
  · intro k nk
    rw [kset_ne (nk 20 (by omega)), kset_ne (nk 22 (by omega)), kset_ne (nk 21 (by omega)), kset_ne (nk 20 (by omega))]

theorem mk_pi {E : Nat} {ad : XK → Nat} {Q : XTs} {S : XSs} {P : XPs} {B : XBs} (I : IX E ad Q S P B) {q0 : Nat} {e0 : AE} {p0 : PiS} (hq : HX E ad Q S P B q0 = none) :
    ∃ (ad1 : XK → Nat) (m1 : XK → Option AE), hset (hset (HX E ad Q S P B) q0 e0) q0 (piC p0) = emb ad1 m1 ∧ embI ad1 m1 ∧ (∀ k, XM E ad Q S P B k ≠ none → ad1 k = ad k) ∧ (∀ r, r = 19 → m1 (r, P.1) = some (piC p0)) ∧ (∀ k, (∀ r, r = 19 → k ≠ (r, P.1)) → m1 k = XM E ad Q S P B k) ∧ ad1 (19, P.1) = q0 := by
  have x0 : XM E ad Q S P B (19, P.1) = none := by
    unfold XM
    dsimp only
    rw [if_neg (show ¬ 19 < 13 by omega), if_neg (show ¬ 19 < 19 by omega), if_pos rfl, if_neg (Nat.lt_irrefl _)]
  have s0 := emb_kn (k := ((19, P.1) : XK)) (e := piC p0) I x0 hq
  refine ⟨adset ad (19, P.1) q0, kset (XM E ad Q S P B) (19, P.1) (piC p0), ?_, s0.2, ?_, ?_, ?_, adset_eq⟩
  · rw [hset_set]
    exact s0.1
  · intro k hk
    rw [adset_ne (fun z => hk (by rw [z]; exact x0))]
  · rintro r rfl
    rw [kset_eq]
  · intro k nk
    rw [kset_ne (nk 19 rfl)]

set_option maxRecDepth 100000 in
set_option maxHeartbeats 4000000 in
theorem x_tune {l : Launch} {Γ : GA} (hfl : l.stackTraces = false) {ad : XK → Nat} {Q : XTs} {S : XSs} {P : XPs} {B : XBs} (I : IX (gEm Γ) ad Q S P B) (hn : Q.1 ≤ 10) (hss : ∀ i, i < S.2.1 → S.2.2.2.1 i < Q.1) {z : Int} (hz : -2147483648 ≤ z ∧ z ≤ 2147483647) : Ct l Γ m_X4_tune [.ref (ad (0, 0)), iv z] (HX (gEm Γ) ad Q S P B) (fun v h' => v = some (iv (Q.1 : Int)) ∧ ((0 ≤ z ∧ z ≤ 3) ∧ Q.1 < 10) ∧ ∃ ad2 : XK → Nat, (∀ k, XM (gEm Γ) ad Q S P B k ≠ none → ad2 k = ad k) ∧ IX (gEm Γ) ad2 (Q.1 + 1, Q.2.1 + 1, tset Q.2.2 Q.1 (z, 0, 0, 0, 0, 0, (fun _ => 0), (fun _ => 0), (fun _ => 0), (fun _ => 0), (fun _ => 0))) S P B ∧ h' = HX (gEm Γ) ad2 (Q.1 + 1, Q.2.1 + 1, tset Q.2.2 Q.1 (z, 0, 0, 0, 0, 0, (fun _ => 0), (fun _ => 0), (fun _ => 0), (fun _ => 0), (fun _ => 0))) S P B) (fun X0 h' => h' = HX (gEm Γ) ad Q S P B ∧ ((X0 = "java/lang/IllegalArgumentException" ∧ ¬ (0 ≤ z ∧ z ≤ 3)) ∨ (X0 = "java/lang/IllegalStateException" ∧ (0 ≤ z ∧ z ≤ 3) ∧ ¬ Q.1 < 10))) := by
  refine Ct.intro hfl (by decide +kernel) rfl (Nat.le_of_ble_eq_true rfl) ?_
  intro G C R T
  show G 0 [some (.ref (ad (0, 0))), some (iv z), none] [] (HX (gEm Γ) ad Q S P B) 0 0
  refine gk_iload_n C dX4_tune_0 rfl ?_
  refine gk_iconst C dX4_tune_1 ?_
  refine gk_iconst C dX4_tune_2 ?_
  refine gk_callS C o_X4_isWithin k_X4_53 dX4_tune_3 (x_isWithin hfl hz (by omega) (by omega)) rfl rfl (by decide) (by decide) (by exact Nat.le_of_ble_eq_true rfl) (fun _ _ z => z.elim) (fun v_3 h_3 p_3 => ?_)
  obtain ⟨r_3, rfl, rb_3, rc_3, rfl⟩ := p_3
  dsimp only [gk_push]
  refine gk_if_ne C (tgt := 19) (by omega) dX4_tune_6 (by decide) (fun c_6 => ?_) (fun c_6 => ?_)
  · refine gk_aload_n C dX4_tune_19 rfl ?_
    refine gk_getf C f_X4_10.r dX4_tune_20 (hx_0 I) (by rfl) ?_
    refine gk_callV C o_Jx4a65c_size_8abf5 k_X4_64 dX4_tune_23 (c_AL_size hfl (hx_1s I)) (hx_1s I) rfl rfl rfl (by decide) (by decide) (by exact Nat.le_of_ble_eq_true rfl) (fun _ _ z => z.elim) (fun v_23 h_23 p_23 => ?_)
    obtain ⟨rfl, rfl⟩ := p_23
    dsimp only [gk_push]
    refine gk_bipush C dX4_tune_26 (by decide) ?_
    refine gk_icmp_lt C (tgt := 41) (by omega) (by omega) dX4_tune_28 (by decide) (fun c_28 => ?_) (fun c_28 => ?_)
    · refine gk_aload_n C dX4_tune_41 rfl ?_
      refine gk_getf C f_X4_10.r dX4_tune_42 (hx_0 I) (by rfl) ?_
      refine gk_callV C o_Jx4a65c_size_8abf5 k_X4_64 dX4_tune_45 (c_AL_size hfl (hx_1s I)) (hx_1s I) rfl rfl rfl (by decide) (by decide) (by exact Nat.le_of_ble_eq_true rfl) (fun _ _ z => z.elim) (fun v_45 h_45 p_45 => ?_)
      obtain ⟨rfl, rfl⟩ := p_45
      dsimp only [gk_push]
      refine gk_istore_n_2 C rfl (by decide) dX4_tune_48 ?_
      refine gk_aload_n C dX4_tune_49 rfl ?_
      refine gk_getf C f_X4_10.r dX4_tune_50 (hx_0 I) (by rfl) ?_
      refine gk_new C n_X4_73 (by decide) dX4_tune_53 (fun q_53 e_53 => ?_)
      refine gk_dup C rfl dX4_tune_56 ?_
      refine gk_iload_n C dX4_tune_57 rfl ?_
      refine gk_iload_n C dX4_tune_58 rfl ?_
      refine gk_callI C o_X3_init rfl k_X4_75 dX4_tune_59 (c_X3_init hfl (nb := (Q.1 : Int)) (kd := z) hset_eq) rfl rfl (by decide) (by decide) (by exact Nat.le_of_ble_eq_true rfl) (fun _ _ z => z.elim) (fun v_59 h_59 p_59 => ?_)
      obtain ⟨rfl, a14, a15, a16, a17, a18, c14, c15, c16, c17, c18, rfl⟩ := p_59
      dsimp only [gk_push]
      obtain ⟨ad1, m1, hm1, I1, hd1, hn1, ho1, hq0⟩ := mk_tu I (kd := z) e_53 c14 c15 c16 c17 c18
      refine gi_cast hm1 ?_
      obtain ⟨AL, AC⟩ := add_tu hfl hss I1 hd1 hn1 ho1 hq0 (by omega)
      refine gk_callV C o_Jx4a65c_add_9ea2d k_X4_78 dX4_tune_62 AC AL rfl rfl rfl (by decide) (by decide) (by exact Nat.le_of_ble_eq_true rfl) (fun _ _ z => z.elim) (fun v_62 h_62 p_62 => ?_)
      obtain ⟨rfl, ad2, hd2, I2, rfl⟩ := p_62
      dsimp only [gk_push]
      refine gk_pop C rfl dX4_tune_65 ?_
      refine gk_iload_n C dX4_tune_66 rfl ?_
      refine (R _ _ _ _ _ (by decide) (by decide)).1 _ rfl dX4_tune_67 ?_
      exact ⟨rfl, ⟨by omega, by omega⟩, ad2, hd2, I2, rfl⟩
    · exact T 31 _ _ _ _ _ _ _ 68 70 72 th_X4_tune_31 ⟨rfl, Or.inr ⟨rfl, by omega, by omega⟩⟩ (by decide) (by exact Nat.le_of_ble_eq_true rfl) (by decide) (by decide) td_X4_tune_31
  · exact T 9 _ _ _ _ _ _ _ 57 59 61 th_X4_tune_9 ⟨rfl, Or.inl ⟨rfl, by omega⟩⟩ (by decide) (by exact Nat.le_of_ble_eq_true rfl) (by decide) (by decide) td_X4_tune_9

set_option maxRecDepth 100000 in
set_option maxHeartbeats 4000000 in
theorem x_band {l : Launch} {Γ : GA} (hfl : l.stackTraces = false) {ad : XK → Nat} {Q : XTs} {S : XSs} {P : XPs} {B : XBs} (I : IX (gEm Γ) ad Q S P B) (hn : B.1 ≤ 8) (hss : ∀ i, i < S.2.1 → S.2.2.2.1 i < Q.1) {z : Int} (hz : -2147483648 ≤ z ∧ z ≤ 2147483647) : Ct l Γ m_X4_band [.ref (ad (0, 0)), iv z] (HX (gEm Γ) ad Q S P B) (fun v h' => v = some (iv (B.1 : Int)) ∧ ((1 ≤ z ∧ z ≤ 5) ∧ B.1 < 8) ∧ ∃ ad2 : XK → Nat, (∀ k, XM (gEm Γ) ad Q S P B k ≠ none → ad2 k = ad k) ∧ IX (gEm Γ) ad2 Q S P (B.1 + 1, B.2.1 + 1, tset B.2.2.1 B.1 (z, z, 0, -1, -1, 0, 0, (fun _ => 0), (fun _ => 0)), B.2.2.2) ∧ h' = HX (gEm Γ) ad2 Q S P (B.1 + 1, B.2.1 + 1, tset B.2.2.1 B.1 (z, z, 0, -1, -1, 0, 0, (fun _ => 0), (fun _ => 0)), B.2.2.2)) (fun X0 h' => h' = HX (gEm Γ) ad Q S P B ∧ ((X0 = "java/lang/IllegalArgumentException" ∧ ¬ (1 ≤ z ∧ z ≤ 5)) ∨ (X0 = "java/lang/IllegalStateException" ∧ (1 ≤ z ∧ z ≤ 5) ∧ ¬ B.1 < 8))) := by
  refine Ct.intro hfl (by decide +kernel) rfl (Nat.le_of_ble_eq_true rfl) ?_
  intro G C R T
  show G 0 [some (.ref (ad (0, 0))), some (iv z), none] [] (HX (gEm Γ) ad Q S P B) 0 0
  refine gk_iload_n C dX4_band_0 rfl ?_
  refine gk_iconst C dX4_band_1 ?_
  refine gk_iconst C dX4_band_2 ?_
  refine gk_callS C o_X4_isWithin k_X4_53 dX4_band_3 (x_isWithin hfl hz (by omega) (by omega)) rfl rfl (by decide) (by decide) (by exact Nat.le_of_ble_eq_true rfl) (fun _ _ z => z.elim) (fun v_3 h_3 p_3 => ?_)
  obtain ⟨r_3, rfl, rb_3, rc_3, rfl⟩ := p_3
  dsimp only [gk_push]
  refine gk_if_ne C (tgt := 19) (by omega) dX4_band_6 (by decide) (fun c_6 => ?_) (fun c_6 => ?_)
  · refine gk_aload_n C dX4_band_19 rfl ?_
    refine gk_getf C f_X4_42.r dX4_band_20 (hx_0 I) (by rfl) ?_
    refine gk_callV C o_Jx4a65c_size_8abf5 k_X4_64 dX4_band_23 (c_AL_size hfl (hx_7s I)) (hx_7s I) rfl rfl rfl (by decide) (by decide) (by exact Nat.le_of_ble_eq_true rfl) (fun _ _ z => z.elim) (fun v_23 h_23 p_23 => ?_)
    obtain ⟨rfl, rfl⟩ := p_23
    dsimp only [gk_push]
    refine gk_bipush C dX4_band_26 (by decide) ?_
    refine gk_icmp_lt C (tgt := 41) (by omega) (by omega) dX4_band_28 (by decide) (fun c_28 => ?_) (fun c_28 => ?_)
    · refine gk_aload_n C dX4_band_41 rfl ?_
      refine gk_getf C f_X4_42.r dX4_band_42 (hx_0 I) (by rfl) ?_
      refine gk_callV C o_Jx4a65c_size_8abf5 k_X4_64 dX4_band_45 (c_AL_size hfl (hx_7s I)) (hx_7s I) rfl rfl rfl (by decide) (by decide) (by exact Nat.le_of_ble_eq_true rfl) (fun _ _ z => z.elim) (fun v_45 h_45 p_45 => ?_)
      obtain ⟨rfl, rfl⟩ := p_45
      dsimp only [gk_push]
      refine gk_istore_n_2 C rfl (by decide) dX4_band_48 ?_
      refine gk_aload_n C dX4_band_49 rfl ?_
      refine gk_getf C f_X4_42.r dX4_band_50 (hx_0 I) (by rfl) ?_
      refine gk_new C n_X4_238 (by decide) dX4_band_53 (fun q_53 e_53 => ?_)
      refine gk_dup C rfl dX4_band_56 ?_
      refine gk_iload_n C dX4_band_57 rfl ?_
      refine gk_iload_n C dX4_band_58 rfl ?_
      refine gk_callI C o_X0_init rfl k_X4_240 dX4_band_59 (c_X0_init hfl (nb := (B.1 : Int)) (gr := z) hset_eq) rfl rfl (by decide) (by decide) (by exact Nat.le_of_ble_eq_true rfl) (fun _ _ z => z.elim) (fun v_59 h_59 p_59 => ?_)
      obtain ⟨rfl, a21, a22, c21, c22, rfl⟩ := p_59
      dsimp only [gk_push]
      obtain ⟨ad1, m1, hm1, I1, hd1, hn1, ho1, hq0⟩ := mk_ba I (gr := z) e_53 c21 c22
      refine gi_cast hm1 ?_
      obtain ⟨AL, AC⟩ := add_ba hfl hss I1 hd1 hn1 ho1 hq0 (by omega)
      refine gk_callV C o_Jx4a65c_add_9ea2d k_X4_78 dX4_band_62 AC AL rfl rfl rfl (by decide) (by decide) (by exact Nat.le_of_ble_eq_true rfl) (fun _ _ z => z.elim) (fun v_62 h_62 p_62 => ?_)
      obtain ⟨rfl, ad2, hd2, I2, rfl⟩ := p_62
      dsimp only [gk_push]
      refine gk_pop C rfl dX4_band_65 ?_
      refine gk_iload_n C dX4_band_66 rfl ?_
      refine (R _ _ _ _ _ (by decide) (by decide)).1 _ rfl dX4_band_67 ?_
      exact ⟨rfl, ⟨by omega, by omega⟩, ad2, hd2, I2, rfl⟩
    · exact T 31 _ _ _ _ _ _ _ 68 236 72 th_X4_band_31 ⟨rfl, Or.inr ⟨rfl, by omega, by omega⟩⟩ (by decide) (by exact Nat.le_of_ble_eq_true rfl) (by decide) (by decide) td_X4_band_31
  · exact T 9 _ _ _ _ _ _ _ 57 234 61 th_X4_band_9 ⟨rfl, Or.inl ⟨rfl, by omega⟩⟩ (by decide) (by exact Nat.le_of_ble_eq_true rfl) (by decide) (by decide) td_X4_band_9

set_option maxRecDepth 100000 in
set_option maxHeartbeats 4000000 in
theorem x_piper {l : Launch} {Γ : GA} (hfl : l.stackTraces = false) {ad : XK → Nat} {Q : XTs} {S : XSs} {P : XPs} {B : XBs} (I : IX (gEm Γ) ad Q S P B) (hn : P.1 ≤ 8) (hss : ∀ i, i < S.2.1 → S.2.2.2.1 i < Q.1) {a b c : Int} (ha : -2147483648 ≤ a ∧ a ≤ 2147483647)(hb : -2147483648 ≤ b ∧ b ≤ 2147483647)(hc : -2147483648 ≤ c ∧ c ≤ 2147483647) : Ct l Γ m_X4_piper [.ref (ad (0, 0)), iv a, iv b, iv c] (HX (gEm Γ) ad Q S P B) (fun v h' => v = some (iv (P.1 : Int)) ∧ (((-100 ≤ a ∧ a ≤ 100) ∧ (10 ≤ b ∧ b ≤ 40) ∧ (0 ≤ c ∧ c ≤ 9)) ∧ P.1 < 8) ∧ ∃ ad2 : XK → Nat, (∀ k, XM (gEm Γ) ad Q S P B k ≠ none → ad2 k = ad k) ∧ IX (gEm Γ) ad2 Q S (P.1 + 1, P.2.1 + 1, tset P.2.2.1 P.1 (a, b, c, 0, 0, 0, 0), P.2.2.2) B ∧ h' = HX (gEm Γ) ad2 Q S (P.1 + 1, P.2.1 + 1, tset P.2.2.1 P.1 (a, b, c, 0, 0, 0, 0), P.2.2.2) B) (fun X0 h' => h' = HX (gEm Γ) ad Q S P B ∧ ((X0 = "java/lang/IllegalArgumentException" ∧ ¬ ((-100 ≤ a ∧ a ≤ 100) ∧ (10 ≤ b ∧ b ≤ 40) ∧ (0 ≤ c ∧ c ≤ 9))) ∨ (X0 = "java/lang/IllegalStateException" ∧ ((-100 ≤ a ∧ a ≤ 100) ∧ (10 ≤ b ∧ b ≤ 40) ∧ (0 ≤ c ∧ c ≤ 9)) ∧ ¬ P.1 < 8))) := by
  refine Ct.intro hfl (by decide +kernel) rfl (Nat.le_of_ble_eq_true rfl) ?_
  intro G C R T
  show G 0 [some (.ref (ad (0, 0))), some (iv a), some (iv b), some (iv c)] [] (HX (gEm Γ) ad Q S P B) 0 0
  refine gk_iload_n C dX4_piper_0 rfl ?_
  refine gk_bipush C dX4_piper_1 (by decide) ?_
  refine gk_bipush C dX4_piper_3 (by decide) ?_
  refine gk_callS C o_X4_isWithin k_X4_53 dX4_piper_5 (x_isWithin hfl ha (by omega) (by omega)) rfl rfl (by decide) (by decide) (by exact Nat.le_of_ble_eq_true rfl) (fun _ _ z => z.elim) (fun v_5 h_5 p_5 => ?_)
  obtain ⟨r_5, rfl, rb_5, rc_5, rfl⟩ := p_5
  dsimp only [gk_push]
  refine gk_if_eq C (tgt := 32) (by omega) dX4_piper_8 (by decide) (fun c_8 => ?_) (fun c_8 => ?_)
  · exact T 32 _ _ _ _ _ _ _ 57 168 61 th_X4_piper_32 ⟨rfl, Or.inl ⟨rfl, by omega⟩⟩ (by decide) (by exact Nat.le_of_ble_eq_true rfl) (by decide) (by decide) td_X4_piper_32
  · refine gk_iload_n C dX4_piper_11 rfl ?_
    refine gk_bipush C dX4_piper_12 (by decide) ?_
    refine gk_bipush C dX4_piper_14 (by decide) ?_
    refine gk_callS C o_X4_isWithin k_X4_53 dX4_piper_16 (x_isWithin hfl hb (by omega) (by omega)) rfl rfl (by decide) (by decide) (by exact Nat.le_of_ble_eq_true rfl) (fun _ _ z => z.elim) (fun v_16 h_16 p_16 => ?_)
    obtain ⟨r_16, rfl, rb_16, rc_16, rfl⟩ := p_16
    dsimp only [gk_push]
    refine gk_if_eq C (tgt := 32) (by omega) dX4_piper_19 (by decide) (fun c_19 => ?_) (fun c_19 => ?_)
    · exact T 32 _ _ _ _ _ _ _ 57 168 61 th_X4_piper_32 ⟨rfl, Or.inl ⟨rfl, by omega⟩⟩ (by decide) (by exact Nat.le_of_ble_eq_true rfl) (by decide) (by decide) td_X4_piper_32
    · refine gk_iload_n C dX4_piper_22 rfl ?_
      refine gk_iconst C dX4_piper_23 ?_
      refine gk_bipush C dX4_piper_24 (by decide) ?_
      refine gk_callS C o_X4_isWithin k_X4_53 dX4_piper_26 (x_isWithin hfl hc (by omega) (by omega)) rfl rfl (by decide) (by decide) (by exact Nat.le_of_ble_eq_true rfl) (fun _ _ z => z.elim) (fun v_26 h_26 p_26 => ?_)
      obtain ⟨r_26, rfl, rb_26, rc_26, rfl⟩ := p_26
      dsimp only [gk_push]
      refine gk_if_ne C (tgt := 42) (by omega) dX4_piper_29 (by decide) (fun c_29 => ?_) (fun c_29 => ?_)
      · refine gk_aload_n C dX4_piper_42 rfl ?_
        refine gk_getf C f_X4_23.r dX4_piper_43 (hx_0 I) (by rfl) ?_
        refine gk_callV C o_Jx4a65c_size_8abf5 k_X4_64 dX4_piper_46 (c_AL_size hfl (hx_4s I)) (hx_4s I) rfl rfl rfl (by decide) (by decide) (by exact Nat.le_of_ble_eq_true rfl) (fun _ _ z => z.elim) (fun v_46 h_46 p_46 => ?_)
        obtain ⟨rfl, rfl⟩ := p_46
        dsimp only [gk_push]
        refine gk_bipush C dX4_piper_49 (by decide) ?_
        refine gk_icmp_lt C (tgt := 64) (by omega) (by omega) dX4_piper_51 (by decide) (fun c_51 => ?_) (fun c_51 => ?_)
        · refine gk_aload_n C dX4_piper_64 rfl ?_
          refine gk_getf C f_X4_23.r dX4_piper_65 (hx_0 I) (by rfl) ?_
          refine gk_new C n_X4_26 (by decide) dX4_piper_68 (fun q_68 e_68 => ?_)
          refine gk_dup C rfl dX4_piper_71 ?_
          refine gk_iload_n C dX4_piper_72 rfl ?_
          refine gk_iload_n C dX4_piper_73 rfl ?_
          refine gk_iload_n C dX4_piper_74 rfl ?_
          refine gk_callI C o_X1_init rfl k_X4_28 dX4_piper_75 (c_X1_init hfl (r := a) (p := b) (b := c) hset_eq) rfl rfl (by decide) (by decide) (by exact Nat.le_of_ble_eq_true rfl) (fun _ _ z => z.elim) (fun v_75 h_75 p_75 => ?_)
          obtain ⟨rfl, rfl⟩ := p_75
          dsimp only [gk_push]
          obtain ⟨ad1, m1, hm1, I1, hd1, hn1, ho1, hq0⟩ := mk_pi I (p0 := (a, b, c, 0, 0, 0, 0)) e_68
          refine gi_cast hm1 ?_
          obtain ⟨AL, AC⟩ := add_pi hfl hss I1 hd1 hn1 ho1 hq0 (by omega)
          refine gk_callV C o_Jx4a65c_add_9ea2d k_X4_78 dX4_piper_78 AC AL rfl rfl rfl (by decide) (by decide) (by exact Nat.le_of_ble_eq_true rfl) (fun _ _ z => z.elim) (fun v_78 h_78 p_78 => ?_)
          obtain ⟨rfl, ad2, hd2, I2, rfl⟩ := p_78
          dsimp only [gk_push]
          have e00 : ad2 (0, 0) = ad (0, 0) := hd2 _ (by intro z; cases z)
          rw [← e00]
          refine gk_pop C rfl dX4_piper_81 ?_
          refine gk_aload_n C dX4_piper_82 rfl ?_
          refine gk_getf C f_X4_23.r dX4_piper_83 (hx_0 I2) (by rfl) ?_
          refine gk_callV C o_Jx4a65c_size_8abf5 k_X4_64 dX4_piper_86 (c_AL_size hfl (hx_4s I2)) (hx_4s I2) rfl rfl rfl (by decide) (by decide) (by exact Nat.le_of_ble_eq_true rfl) (fun _ _ z => z.elim) (fun v_86 h_86 p_86 => ?_)
          obtain ⟨rfl, rfl⟩ := p_86
          dsimp only [gk_push]
          refine gk_iconst C dX4_piper_89 ?_
          refine gk_isub C dX4_piper_90 ?_
          refine (R _ _ _ _ _ (by decide) (by decide)).1 _ rfl dX4_piper_91 ?_
          rw [show (((P.1 + 1 : Nat) : Int) - 1) = (P.1 : Int) by omega]
          exact ⟨rfl, ⟨by omega, by omega⟩, ad2, hd2, I2, rfl⟩
        · exact T 54 _ _ _ _ _ _ _ 68 170 72 th_X4_piper_54 ⟨rfl, Or.inr ⟨rfl, by omega, by omega⟩⟩ (by decide) (by exact Nat.le_of_ble_eq_true rfl) (by decide) (by decide) td_X4_piper_54
      · exact T 32 _ _ _ _ _ _ _ 57 168 61 th_X4_piper_32 ⟨rfl, Or.inl ⟨rfl, by omega⟩⟩ (by decide) (by exact Nat.le_of_ble_eq_true rfl) (by decide) (by decide) td_X4_piper_32
