/-! the class: tunes -/
def tuOk (t : TuS) : Prop := (0 ≤ tKd t ∧ tKd t ≤ 3) ∧ tWc t ≤ 64 ∧ tFo t ≤ tWc t ∧ tPc t ≤ 8 ∧ tPl t ≤ 2 * tFo t ∧ (0 ≤ tOu t ∧ tOu t ≤ 1024) ∧ (∀ i, 0 ≤ tH t i ∧ tH t i ≤ 8) ∧ (∀ i, 0 ≤ tL t i ∧ tL t i ≤ 16) ∧ (∀ i, 0 ≤ tG t i ∧ tG t i ≤ 8) ∧ (∀ i : Int, 0 ≤ i → i < tPl t → 0 ≤ tN t i ∧ tN t i < 64)
def tNote (t : TuS) (h l g : Int) : TuS := (tKd t, tWc t + 1, tFo t, tOu t + l, tPc t, tPl t, gupd (tH t) (tWc t) h, gupd (tL t) (tWc t) l, gupd (tG t) (tWc t) g, tP t, tN t)
def tPart (t : TuS) (rep : Int) : TuS := (tKd t, tWc t, tWc t, 0, tPc t + 1, tPl t + (if rep = 0 then (tWc t - tFo t) else 2 * (tWc t - tFo t)), tH t, tL t, tG t, pset (tP t) (tFo t) (tWc t - tFo t) (tPc t),
  if rep = 0 then napp (tN t) (tPl t) (tFo t) (tWc t - tFo t) else napp (napp (tN t) (tPl t) (tFo t) (tWc t - tFo t)) (tPl t + (tWc t - tFo t)) (tFo t) (tWc t - tFo t))
section XZ
variable {E : Nat} {ad : XK → Nat} {Q : XTs} {S : XSs} {P : XPs} {B : XBs}
theorem r13 {r2 : Nat} (h1 : 13 ≤ r2) (h2 : r2 < 19) : r2 = 13 ∨ r2 = 14 ∨ r2 = 15 ∨ r2 = 16 ∨ r2 = 17 ∨ r2 = 18 := by omega
theorem hx_S14 (I : IX E ad Q S P B) {i : Nat} (hi : i < Q.1) {f : Int → Int} {t : TuS} (e : Q.2.2 i = t) : hset (HX E ad Q S P B) (ad (14, i)) (aI 64 f) = HX E ad (Q.1, Q.2.1, tset Q.2.2 i (tKd t, tWc t, tFo t, tOu t, tPc t, tPl t, f, tL t, tG t, tP t, tN t)) S P B := by
  subst e
  exact hx_tuS I (r := 14) (t := (tKd (Q.2.2 i), tWc (Q.2.2 i), tFo (Q.2.2 i), tOu (Q.2.2 i), tPc (Q.2.2 i), tPl (Q.2.2 i), f, tL (Q.2.2 i), tG (Q.2.2 i), tP (Q.2.2 i), tN (Q.2.2 i))) (by omega) hi (fun r2 h h1 h2 => by rcases r13 h1 h2 with e | e | e | e | e | e <;> subst e <;> first | rfl | exact absurd rfl h)
theorem hx_S15 (I : IX E ad Q S P B) {i : Nat} (hi : i < Q.1) {f : Int → Int} {t : TuS} (e : Q.2.2 i = t) : hset (HX E ad Q S P B) (ad (15, i)) (aI 64 f) = HX E ad (Q.1, Q.2.1, tset Q.2.2 i (tKd t, tWc t, tFo t, tOu t, tPc t, tPl t, tH t, f, tG t, tP t, tN t)) S P B := by
  subst e
  exact hx_tuS I (r := 15) (t := (tKd (Q.2.2 i), tWc (Q.2.2 i), tFo (Q.2.2 i), tOu (Q.2.2 i), tPc (Q.2.2 i), tPl (Q.2.2 i), tH (Q.2.2 i), f, tG (Q.2.2 i), tP (Q.2.2 i), tN (Q.2.2 i))) (by omega) hi (fun r2 h h1 h2 => by rcases r13 h1 h2 with e | e | e | e | e | e <;> subst e <;> first | rfl | exact absurd rfl h)
theorem hx_S16 (I : IX E ad Q S P B) {i : Nat} (hi : i < Q.1) {f : Int → Int} {t : TuS} (e : Q.2.2 i = t) : hset (HX E ad Q S P B) (ad (16, i)) (aI 64 f) = HX E ad (Q.1, Q.2.1, tset Q.2.2 i (tKd t, tWc t, tFo t, tOu t, tPc t, tPl t, tH t, tL t, f, tP t, tN t)) S P B := by
  subst e
  exact hx_tuS I (r := 16) (t := (tKd (Q.2.2 i), tWc (Q.2.2 i), tFo (Q.2.2 i), tOu (Q.2.2 i), tPc (Q.2.2 i), tPl (Q.2.2 i), tH (Q.2.2 i), tL (Q.2.2 i), f, tP (Q.2.2 i), tN (Q.2.2 i))) (by omega) hi (fun r2 h h1 h2 => by rcases r13 h1 h2 with e | e | e | e | e | e <;> subst e <;> first | rfl | exact absurd rfl h)
theorem hx_S17 (I : IX E ad Q S P B) {i : Nat} (hi : i < Q.1) {f : Int → Int} {t : TuS} (e : Q.2.2 i = t) : hset (HX E ad Q S P B) (ad (17, i)) (aI 64 f) = HX E ad (Q.1, Q.2.1, tset Q.2.2 i (tKd t, tWc t, tFo t, tOu t, tPc t, tPl t, tH t, tL t, tG t, f, tN t)) S P B := by
  subst e
  exact hx_tuS I (r := 17) (t := (tKd (Q.2.2 i), tWc (Q.2.2 i), tFo (Q.2.2 i), tOu (Q.2.2 i), tPc (Q.2.2 i), tPl (Q.2.2 i), tH (Q.2.2 i), tL (Q.2.2 i), tG (Q.2.2 i), f, tN (Q.2.2 i))) (by omega) hi (fun r2 h h1 h2 => by rcases r13 h1 h2 with e | e | e | e | e | e <;> subst e <;> first | rfl | exact absurd rfl h)
theorem hx_S18 (I : IX E ad Q S P B) {i : Nat} (hi : i < Q.1) {f : Int → Int} {t : TuS} (e : Q.2.2 i = t) : hset (HX E ad Q S P B) (ad (18, i)) (aI 128 f) = HX E ad (Q.1, Q.2.1, tset Q.2.2 i (tKd t, tWc t, tFo t, tOu t, tPc t, tPl t, tH t, tL t, tG t, tP t, f)) S P B := by
  subst e
  exact hx_tuS I (r := 18) (t := (tKd (Q.2.2 i), tWc (Q.2.2 i), tFo (Q.2.2 i), tOu (Q.2.2 i), tPc (Q.2.2 i), tPl (Q.2.2 i), tH (Q.2.2 i), tL (Q.2.2 i), tG (Q.2.2 i), tP (Q.2.2 i), f)) (by omega) hi (fun r2 h h1 h2 => by rcases r13 h1 h2 with e | e | e | e | e | e <;> subst e <;> first | rfl | exact absurd rfl h)
theorem hx_S13 (I : IX E ad Q S P B) {i : Nat} (hi : i < Q.1) {wc fo pc pl : Nat} {kd ou : Int} {t : TuS} (e : Q.2.2 i = t) (ek : kd = tKd t) : hset (HX E ad Q S P B) (ad (13, i)) (oTu i kd (ad (14, i)) (ad (15, i)) (ad (16, i)) (ad (17, i)) (ad (18, i)) wc fo ou pc pl) = HX E ad (Q.1, Q.2.1, tset Q.2.2 i (tKd t, wc, fo, ou, pc, pl, tH t, tL t, tG t, tP t, tN t)) S P B := by
  subst e
  subst ek
  exact hx_tuS I (r := 13) (t := (tKd (Q.2.2 i), wc, fo, ou, pc, pl, tH (Q.2.2 i), tL (Q.2.2 i), tG (Q.2.2 i), tP (Q.2.2 i), tN (Q.2.2 i))) (by omega) hi (fun r2 h h1 h2 => by rcases r13 h1 h2 with e | e | e | e | e | e <;> subst e <;> first | rfl | exact absurd rfl h)
theorem hx_ne (I : IX E ad Q S P B) {r r2 i : Nat} (hi : i < Q.1) (h1 : 13 ≤ r ∧ r < 19) (h2 : 13 ≤ r2 ∧ r2 < 19) (h : r ≠ r2) : ad (r, i) ≠ ad (r2, i) := by
  intro z
  have h3 := I (r, i) (r2, i) (by rw [XM_tu h1 hi]; intro z; cases z) (by rw [XM_tu h2 hi]; intro z; cases z) z
  exact h (congrArg Prod.fst h3)
theorem hx_write (I : IX E ad Q S P B) {i : Nat} (hi : i < Q.1) {h l g : Int} : hset (hset (hset (hset (HX E ad Q S P B) (ad (14, i)) (aI 64 (gupd (tH (Q.2.2 i)) (tWc (Q.2.2 i)) h))) (ad (15, i)) (aI 64 (gupd (tL (Q.2.2 i)) (tWc (Q.2.2 i)) l))) (ad (16, i)) (aI 64 (gupd (tG (Q.2.2 i)) (tWc (Q.2.2 i)) g))) (ad (13, i)) (oTu i (tKd (Q.2.2 i)) (ad (14, i)) (ad (15, i)) (ad (16, i)) (ad (17, i)) (ad (18, i)) (tWc (Q.2.2 i) + 1) (tFo (Q.2.2 i)) (tOu (Q.2.2 i) + l) (tPc (Q.2.2 i)) (tPl (Q.2.2 i))) = HX E ad (Q.1, Q.2.1, tset Q.2.2 i (tNote (Q.2.2 i) h l g)) S P B := by
  rw [hx_S14 I hi rfl, hx_S15 (IX_tuS I) hi tset_eq, hx_S16 (IX_tuS (IX_tuS I)) hi tset_eq, hx_S13 (IX_tuS (IX_tuS (IX_tuS I))) hi tset_eq rfl]
  dsimp only
  rw [tset_2, tset_2, tset_2]
  rfl
theorem hx_end (I : IX E ad Q S P B) {i : Nat} (hi : i < Q.1) {fp fn : Int → Int} {wc fo pc pl : Nat} {ou : Int} : hset (hset (hset (HX E ad Q S P B) (ad (17, i)) (aI 64 fp)) (ad (18, i)) (aI 128 fn)) (ad (13, i)) (oTu i (tKd (Q.2.2 i)) (ad (14, i)) (ad (15, i)) (ad (16, i)) (ad (17, i)) (ad (18, i)) wc fo ou pc pl) = HX E ad (Q.1, Q.2.1, tset Q.2.2 i (tKd (Q.2.2 i), wc, fo, ou, pc, pl, tH (Q.2.2 i), tL (Q.2.2 i), tG (Q.2.2 i), fp, fn)) S P B := by
  rw [hx_S17 I hi rfl, hx_S18 (IX_tuS I) hi tset_eq, hx_S13 (IX_tuS (IX_tuS I)) hi tset_eq rfl]
  dsimp only
  rw [tset_2, tset_2]
end XZ

set_option maxRecDepth 100000 in
set_option maxHeartbeats 4000000 in
theorem x_played {l : Launch} {Γ : GA} (hfl : l.stackTraces = false) {ad : XK → Nat} {Q : XTs} {S : XSs} {P : XPs} {B : XBs} (I : IX (gEm Γ) ad Q S P B) (hn : Q.1 ≤ 10) (hok : ∀ i, i < Q.1 → tuOk (Q.2.2 i)) {t p w : Int} (ht : -2147483648 ≤ t ∧ t ≤ 2147483647)(hp : -2147483648 ≤ p ∧ p ≤ 2147483647)(hw : -2147483648 ≤ w ∧ w ≤ 2147483647) : Ct l Γ m_X4_played [.ref (ad (0, 0)), iv t, iv p, iv w] (HX (gEm Γ) ad Q S P B) (fun v h' => v = some (iv (if w = 0 then tH (Q.2.2 t.toNat) (tN (Q.2.2 t.toNat) p) else if w = 1 then tL (Q.2.2 t.toNat) (tN (Q.2.2 t.toNat) p) else if w = 2 then tG (Q.2.2 t.toNat) (tN (Q.2.2 t.toNat) p) else if w = 3 then usum (fun j => tL (Q.2.2 t.toNat) (tN (Q.2.2 t.toNat) j)) p.toNat else tP (Q.2.2 t.toNat) (tN (Q.2.2 t.toNat) p))) ∧ ((0 ≤ t ∧ t < Q.1) ∧ (0 ≤ p ∧ p < tPl (Q.2.2 t.toNat)) ∧ (0 ≤ w ∧ w ≤ 4)) ∧ h' = HX (gEm Γ) ad Q S P B) (fun X0 h' => h' = HX (gEm Γ) ad Q S P B ∧ ((X0 = "java/lang/IndexOutOfBoundsException" ∧ (¬ (0 ≤ t ∧ t < Q.1) ∨ ((0 ≤ t ∧ t < Q.1) ∧ ¬ (0 ≤ p ∧ p < tPl (Q.2.2 t.toNat))))) ∨ (X0 = "java/lang/IllegalArgumentException" ∧ (0 ≤ t ∧ t < Q.1) ∧ (0 ≤ p ∧ p < tPl (Q.2.2 t.toNat)) ∧ ¬ (0 ≤ w ∧ w ≤ 4)))) := by
  refine Ct.intro hfl (by decide +kernel) rfl (Nat.le_of_ble_eq_true rfl) ?_
  intro G C R T
  show G 0 [some (.ref (ad (0, 0))), some (iv t), some (iv p), some (iv w), none] [] (HX (gEm Γ) ad Q S P B) 0 0
  refine gk_aload_n C dX4_played_0 rfl ?_
  refine gk_iload_n C dX4_played_1 rfl ?_
  refine gk_callV C o_X4_tuneOfNumber k_X4_82 dX4_played_2 (x_tuneOf hfl I hn ht) (hx_0 I) rfl rfl rfl (by decide) (by decide) (by exact Nat.le_of_ble_eq_true rfl) (fun _ _ z => ⟨⟨z.1, Or.inl ⟨z.2.1, Or.inl z.2.2⟩⟩, by decide, by decide⟩) (fun v_2 h_2 p_2 => ?_)
  obtain ⟨rfl, hti, rfl⟩ := p_2
  dsimp only [gk_push]
  obtain ⟨i, rfl⟩ : ∃ i : Nat, t = (i : Int) := ⟨t.toNat, by omega⟩
  rw [show ((i : Int)).toNat = i from rfl]
  have hi : i < Q.1 := by omega
  obtain ⟨k1, k2, k3, k4, k5, k6, k7, k8, k9, k10⟩ := hok i hi
  refine gk_astore_4 C rfl (by decide) dX4_played_5 ?_
  refine gk_iload_n C dX4_played_7 rfl ?_
  refine gk_if_lt C (tgt := 20) (by omega) dX4_played_8 (by decide) (fun c_8 => ?_) (fun c_8 => ?_)
  · exact T 20 _ _ _ _ _ _ _ 110 112 114 th_X4_played_20 ⟨rfl, Or.inl ⟨rfl, Or.inr ⟨hti, fun z => by have z2 : p < tPl (Q.2.2 i) := z.2; omega⟩⟩⟩ (by decide) (by exact Nat.le_of_ble_eq_true rfl) (by decide) (by decide) td_X4_played_20
  · refine gk_iload_n C dX4_played_11 rfl ?_
    refine gk_aload C dX4_played_12 rfl ?_
    refine gk_getf C f_X4_107.r dX4_played_14 (hx_13 I hi) (by rfl) ?_
    refine gk_icmp_lt C (tgt := 30) (by omega) (by omega) dX4_played_17 (by decide) (fun c_17 => ?_) (fun c_17 => ?_)
    · refine gk_iload_n C dX4_played_30 rfl ?_
      refine gk_iconst C dX4_played_31 ?_
      refine gk_iconst C dX4_played_32 ?_
      refine gk_callS C o_X4_isWithin k_X4_53 dX4_played_33 (x_isWithin hfl hw (by omega) (by omega)) rfl rfl (by decide) (by decide) (by exact Nat.le_of_ble_eq_true rfl) (fun _ _ z => z.elim) (fun v_33 h_33 p_33 => ?_)
      obtain ⟨r_33, rfl, rb_33, rc_33, rfl⟩ := p_33
      dsimp only [gk_push]
      refine gk_if_ne C (tgt := 49) (by omega) dX4_played_36 (by decide) (fun c_36 => ?_) (fun c_36 => ?_)
      · obtain ⟨z, rfl⟩ : ∃ z : Nat, p = (z : Int) := ⟨p.toNat, by omega⟩
        refine gk_aload C dX4_played_49 rfl ?_
        refine gk_iload_n C dX4_played_51 rfl ?_
        refine gk_iload_n C dX4_played_52 rfl ?_
        refine gk_callV C o_X3_tellPlayed k_X4_117 dX4_played_53 (c_X3_tellPlayed hfl (hx_13 I hi) (hx_18 I hi) (by omega) k10 (hx_14 I hi) (hx_15 I hi) (hx_16 I hi) (hx_17 I hi) (z := z) (by omega) (by omega)) (hx_13 I hi) rfl rfl rfl (by decide) (by decide) (by exact Nat.le_of_ble_eq_true rfl) (fun _ _ z => z.elim) (fun v_53 h_53 p_53 => ?_)
        obtain ⟨rfl, rfl⟩ := p_53
        dsimp only [gk_push]
        refine (R _ _ _ _ _ (by decide) (by decide)).1 _ rfl dX4_played_56 ?_
        exact ⟨rfl, ⟨hti, (show (0 : Int) ≤ z ∧ (z : Int) < tPl (Q.2.2 i) by omega), by omega⟩, rfl⟩
      · exact T 39 _ _ _ _ _ _ _ 57 115 61 th_X4_played_39 ⟨rfl, Or.inr ⟨rfl, hti, (show 0 ≤ p ∧ p < tPl (Q.2.2 i) by omega), by omega⟩⟩ (by decide) (by exact Nat.le_of_ble_eq_true rfl) (by decide) (by decide) td_X4_played_39
    · exact T 20 _ _ _ _ _ _ _ 110 112 114 th_X4_played_20 ⟨rfl, Or.inl ⟨rfl, Or.inr ⟨hti, fun z => by have z2 : p < tPl (Q.2.2 i) := z.2; omega⟩⟩⟩ (by decide) (by exact Nat.le_of_ble_eq_true rfl) (by decide) (by decide) td_X4_played_20
