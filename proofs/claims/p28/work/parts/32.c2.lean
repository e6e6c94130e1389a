/-! the class: tunes -/
def tuOk (t : TuS) : Prop := (0 ≤ tKd t ∧ tKd t ≤ 3) ∧ tWc t ≤ 64 ∧ tFo t ≤ tWc t ∧ tPc t ≤ 8 ∧ tPl t ≤ 2 * tFo t ∧ (0 ≤ tOu t ∧ tOu t ≤ 1024) ∧ (∀ i, 0 ≤ tH t i ∧ tH t i ≤ 8) ∧ (∀ i, 0 ≤ tL t i ∧ tL t i ≤ 16) ∧ (∀ i, 0 ≤ tG t i ∧ tG t i ≤ 8) ∧ (∀ i : Int, 0 ≤ i → i < tPl t → 0 ≤ tN t i ∧ tN t i < 64)
def tNote (t : TuS) (h l g : Int) : TuS := (tKd t, tWc t + 1, tFo t, tOu t + l, tPc t, tPl t, gupd (tH t) (tWc t) h, gupd (tL t) (tWc t) l, gupd (tG t) (tWc t) g, tP t, tN t)
def tPart (t : TuS) (rep : Int) : TuS := (tKd t, tWc t, tWc t, 0, tPc t + 1, tPl t + (if rep = 0 then (tWc t - tFo t) else 2 * (tWc t - tFo t)), tH t, tL t, tG t, pset (tP t) (tFo t) (tWc t - tFo t) (tPc t),
  if rep = 0 then napp (tN t) (tPl t) (tFo t) (tWc t - tFo t) else napp (napp (tN t) (tPl t) (tFo t) (tWc t - tFo t)) (tPl t + (tWc t - tFo t)) (tFo t) (tWc t - tFo t))
section XZ
variable {E : Nat} {ad : XK → Nat} {Q : XTs} {S : XSs} {P : XPs} {B : XBs}
theorem r13 {r2 : Nat} (h1 : 13 ≤ r2) (h2 : r2 < 19) : r2 = 13 ∨ r2 = 14 ∨ r2 = 15 ∨ r2 = 16 ∨ r2 = 17 ∨ r2 = 18 := by omega
theorem hx_S14 (I : IX E ad Q S P B) {i : Nat} (hi : i < Q.1) {f : Int → Int} {t : TuS} (e : Q.2.2 i = t) : hset (HX E ad Q S P B) (ad (14, i)) (aI 64 f) = HX E ad (Q.1, Q.2.1, tset Q.2.2 i (tKd t, tWc t, tFo t, tOu t, tPc t, tPl t, f, tL t, tG t, tP t, tN t)) S P B := by
  subst e
  exact hx_tuS I (r := 14) (t := (tKd (Q.2.2 i), tWc (Q.2.2 i), tFo (Q.2.2 i), tOu (Q.2.2 i), tPc (Q.2.2 i), tPl (Q.2.2 i), f, tL (Q.2.2 i), tG (Q.2.2 i), tP (Q.2.2 i), tN (Q.2.2 i))) (by omega) hi (fun r2 h h1 h2 => by rcases r13 h1 h2 with e | e | e | e | e | e <;> subst e <;> first | rfl | exact absurd rfl h)
theorem hx_S15 (I : IX E ad Q S P B) {i : Nat} (hi : i < Q.1) {f : Int → Int} {t : TuS} (e : Q.2.2 i = t) : hset (HX E ad Q S P B) (ad (15, i)) (aI 64 f) = HX E ad (Q.1, Q.2.1, tset Q.2.2 i (tKd t, tWc t, tFo t, tOu t, tPc t, tPl t, tH t, f, tG t, tP t, tN t)) S P B := by
  subst e
  exact hx_tuS I (r := 15) (t := (tKd (Q.2.2 i), tWc (Q.2.2 i), tFo (Q.2.2 i), tOu (Q.2.2 i), tPc (Q.2.2 i), tPl (Q.2.2 i), tH (Q.2.2 i), f, tG (Q.2.2 i), tP (Q.2.2 i), tN (Q.2.2 i))) (by omega) hi (fun r2 h h1 h2 => by rcases r13 h1 h2 with e | e | e | e | e | e <;> subst e <;> first | rfl | exact absurd rfl h)
theorem hx_S16 (I : IX E ad Q S P B) {i : Nat} (hi : i < Q.1) {f : Int → Int} {t : TuS} (e : Q.2.2 i = t) : hset (HX E ad Q S P B) (ad (16, i)) (aI 64 f) = HX E ad (Q.1, Q.2.1, tset Q.2.2 i (tKd t, tWc t, tFo t, tOu t, tPc t, tPl t, tH t, tL t, f, tP t, tN t)) S P B := by
  subst e
  exact hx_tuS I (r := 16) (t := (tKd (Q.2.2 i), tWc (Q.2.2 i), tFo (Q.2.2 i), tOu (Q.2.2 i), tPc (Q.2.2 i), tPl (Q.2.2 i), tH (Q.2.2 i), tL (Q.2.2 i), f, tP (Q.2.2 i), tN (Q.2.2 i))) (by omega) hi (fun r2 h h1 h2 => by rcases r13 h1 h2 with e | e | e | e | e | e <;> subst e <;> first | rfl | exact absurd rfl h)
theorem hx_S17 (I : IX E ad Q S P B) {i : Nat} (hi : i < Q.1) {f : Int → Int} {t : TuS} (e : Q.2.2 i = t) : hset (HX E ad Q S P B) (ad (17, i)) (aI 64 f) = HX E ad (Q.1, Q.2.1, tset Q.2.2 i (tKd t, tWc t, tFo t, tOu t, tPc t, tPl t, tH t, tL t, tG t, f, tN t)) S P B := by
  subst e
  exact hx_tuS I (r := 17) (t := (tKd (Q.2.2 i), tWc (Q.2.2 i), tFo (Q.2.2 i), tOu (Q.2.2 i), tPc (Q.2.2 i), tPl (Q.2.2 i), tH (Q.2.2 i), tL (Q.2.2 i), tG (Q.2.2 i), f, tN (Q.2.2 i))) (by omega) hi (fun r2 h h1 h2 => by rcases r13 h1 h2 with e | e | e | e | e | e <;> subst e <;> first | rfl | exact absurd rfl h)
theorem hx_S18 (I : IX E ad Q S P B) {i : Nat} (hi : i < Q.1) {f : Int → Int} {t : TuS} (e : Q.2.2 i = t) : hset (HX E ad Q S P B) (ad (18, i)) (aI 128 f) = HX E ad (Q.1, Q.2.1, tset Q.2.2 i (tKd t, tWc t, tFo t, tOu t, tPc t, tPl t, tH t, tL t, tG t, tP t, f)) S P B := by
  subst e
  exact hx_tuS I (r := 18) (t := (tKd (Q.2.2 i), tWc (Q.2.2 i), tFo (Q.2.2 i), tOu (Q.2.2 i), tPc (Q.2.2 i), tPl (Q.2.2 i), tH (Q.2.2 i), tL (Q.2.2 i), tG (Q.2.2 i), tP (Q.2.2 i), f)) (by omega) hi (fun r2 h h1 h2 => by rcases r13 h1 h2 with e | e | e | e | e | e <;> subst e <;> first | rfl | exact absurd rfl h)
theorem hx_S13 (I : IX E ad Q S P B) {i : Nat} (hi : i < Q.1) {wc fo pc pl : Nat} {kd ou : Int} {t : TuS} (e : Q.2.2 i = t) (ek : kd = tKd t) : hset (HX E ad Q S P B) (ad (13, i)) (oTu i kd (ad (14, i)) (ad (15, i)) (ad (16, i)) (ad (17, i)) (ad (18, i)) wc fo ou pc pl) = HX E ad (Q.1, Q.2.1, tset Q.2.2 i (tKd t, wc, fo, ou, pc, pl, tH t, tL t, tG t, tP t, tN t)) S P B := by
  subst e
  subst ek
  exact hx_tuS I (r := 13) (t := (tKd (Q.2.2 i), wc, fo, ou, pc, pl, tH (Q.2.2 i), tL (Q.2.2 i), tG (Q.2.2 i), tP (Q.2.2 i), tN (Q.2.2 i))) (by omega) hi (fun r2 h h1 h2 => by rcases r13 h1 h2 with e | e | e | e | e | e <;> subst e <;> first | rfl | exact absurd rfl h)
theorem hx_ne (I : IX E ad Q S P B) {r r2 i : Nat} (hi : i < Q.1) (h1 : 13 ≤ r ∧ r < 19) (h2 : 13 ≤ r2 ∧ r2 < 19) (h : r ≠ r2) : ad (r, i) ≠ ad (r2, i) := by
  intro z
  have h3 := I (r, i) (r2, i) (by rw [XM_tu h1 hi]; intro z; cases z) (by rw [XM_tu h2 hi]; intro z; cases z) z
  exact h (congrArg Prod.fst h3)
theorem hx_write (I : IX E ad Q S P B) {i : Nat} (hi : i < Q.1) {h l g : Int} : hset (hset (hset (hset (HX E ad Q S P B) (ad (14, i)) (aI 64 (gupd (tH (Q.2.2 i)) (tWc (Q.2.2 i)) h))) (ad (15, i)) (aI 64 (gupd (tL (Q.2.2 i)) (tWc (Q.2.2 i)) l))) (ad (16, i)) (aI 64 (gupd (tG (Q.2.2 i)) (tWc (Q.2.2 i)) g))) (ad (13, i)) (oTu i (tKd (Q.2.2 i)) (ad (14, i)) (ad (15, i)) (ad (16, i)) (ad (17, i)) (ad (18, i)) (tWc (Q.2.2 i) + 1) (tFo (Q.2.2 i)) (tOu (Q.2.2 i) + l) (tPc (Q.2.2 i)) (tPl (Q.2.2 i))) = HX E ad (Q.1, Q.2.1, tset Q.2.2 i (tNote (Q.2.2 i) h l g)) S P B := by
  rw [hx_S14 I hi rfl, hx_S15 (IX_tuS I) hi tset_eq, hx_S16 (IX_tuS (IX_tuS I)) hi tset_eq, hx_S13 (IX_tuS (IX_tuS (IX_tuS I))) hi tset_eq rfl]
  dsimp only
  rw [tset_2, tset_2, tset_2]
  rfl
theorem hx_end (I : IX E ad Q S P B) {i : Nat} (hi : i < Q.1) {fp fn : Int → Int} {wc fo pc pl : Nat} {ou : Int} : hset (hset (hset (HX E ad Q S P B) (ad (17, i)) (aI 64 fp)) (ad (18, i)) (aI 128 fn)) (ad (13, i)) (oTu i (tKd (Q.2.2 i)) (ad (14, i)) (ad (15, i)) (ad (16, i)) (ad (17, i)) (ad (18, i)) wc fo ou pc pl) = HX E ad (Q.1, Q.2.1, tset Q.2.2 i (tKd (Q.2.2 i), wc, fo, ou, pc, pl, tH (Q.2.2 i), tL (Q.2.2 i), tG (Q.2.2 i), fp, fn)) S P B := by
  rw [hx_S17 I hi rfl, hx_S18 (IX_tuS I) hi tset_eq, hx_S13 (IX_tuS (IX_tuS I)) hi tset_eq rfl]
  dsimp only
  rw [tset_2, tset_2]
end XZ

set_option maxRecDepth 100000 in
set_option maxHeartbeats 4000000 in
theorem x_played {l : Launch} {Γ : GA} (hfl : l.stackTraces = false) {ad : XK → Nat} {Q : XTs} {S : XSs} {P : XPs} {B : XBs} (I : IX (gEm Γ) ad Q S P B) (hn : Q.1 ≤ 10) (hok : ∀ i, i < Q.1 → tuOk (Q.2.2 i)) {t p w : Int} (ht : -2147483648 ≤ t ∧ t ≤ 2147483647)(hp : -2147483648 ≤ p ∧ p ≤ 2147483647)(hw : -2147483648 ≤ w ∧ w ≤ 2147483647) : Ct l Γ m_X4_played [.ref (ad (0, 0)), iv t, iv p, iv w] (HX (gEm Γ) ad Q S P B) (fun v h' => v = some (iv (if w = 0 then tH (Q.2.2 t.toNat) (tN (Q.2.2 t.toNat) p) else if w = 1 then tL (Q.2.2 t.toNat) (tN (Q.2.2 t.toNat) p) else if w = 2 then tG (Q.2.2 t.toNat) (tN (Q.2.2 t.toNat) p) else if w = 3 then usum (fun j => tL (Q.2.2 t.toNat) (tN (Q.2.2 t.toNat) j)) p.toNat else tP (Q.2.2 t.toNat) (tN (Q.2.2 t.toNat) p))) ∧ ((0 ≤ t ∧ t < Q.1) ∧ (0 ≤ p ∧ p < tPl (Q.2.2 t.toNat)) ∧ (0 ≤ w ∧ w ≤ 4)) ∧ h' = HX (gEm Γ) ad Q S P B) (fun X0 h' => h' = HX (gEm Γ) ad Q S P B ∧ ((X0 = "java/lang/IndexOutOfBoundsException" ∧ (¬ (0 ≤ t ∧ t < Q.1) ∨ ((0 ≤ t ∧ t < Q.1) ∧ ¬ (0 ≤ p ∧ p < tPl (Q.2.2 t.toNat))))) ∨ (X0 = "java/lang/IllegalArgumentException" ∧ (0 ≤ t ∧ t < Q.1) ∧ (0 ≤ p ∧ p < tPl (Q.2.2 t.toNat)) ∧ ¬ (0 ≤ w ∧ w ≤ 4)))) := by
  refine Ct.intro hfl (by decide +kernel) rfl (Nat.le_of_ble_eq_true rfl) ?_
  intro G C R T
  show G 0 [some (.ref (ad (0, 0))), some (iv t), some (iv p), some (iv w), none] [] (HX (gEm Γ) ad Q S P B) 0 0
  refine gk_aload_n C dX4_played_0 rfl ?_
  refine gk_iload_n C dX4_played_1 rfl ?_
  refine gk_callV C o_X4_tuneOfNumber k_X4_82 dX4_played_2 (x_tuneOf hfl I hn ht) (hx_0 I) rfl rfl rfl (by decide) (by decide) (by exact Nat.le_of_ble_eq_true rfl) (fun _ _ z => ⟨⟨z.1, Or.inl ⟨z.2.1, Or.inl z.2.2⟩⟩, by decide, by decide⟩) (fun v_2 h_2 p_2 => ?_)
  obtain ⟨rfl, hti, rfl⟩ := p_2
  dsimp only [gk_push]
  obtain ⟨i, rfl⟩ : ∃ i : Nat, t = (i : Int) := ⟨t.toNat, by omega⟩
  rw [show ((i : Int)).toNat = i from rfl]
  have hi : i < Q.1 := by omega
  obtain ⟨k1, k2, k3, k4, k5, k6, k7, k8, k9, k10⟩ := hok i hi
  refine gk_astore_4 C rfl (by decide) dX4_played_5 ?_
  refine gk_iload_n C dX4_played_7 rfl ?_
  refine gk_if_lt C (tgt := 20) (by omega) dX4_played_8 (by decide) (fun c_8 => ?_) (fun c_8 => ?_)
  · exact T 20 _ _ _ _ _ _ _ 110 112 114 th_X4_played_20 ⟨rfl, Or.inl ⟨rfl, Or.inr ⟨hti, fun z => by have z2 : p < tPl (Q.2.2 i) := z.2; omega⟩⟩⟩ (by decide) (by exact Nat.le_of_ble_eq_true rfl) (by decide) (by decide) td_X4_played_20
  · refine gk_iload_n C dX4_played_11 rfl ?_
    refine gk_aload C dX4_played_12 rfl ?_
    refine gk_getf C f_X4_107.r dX4_played_14 (hx_13 I hi) (by rfl) ?_
    refine gk_icmp_lt C (tgt := 30) (by omega) (by omega) dX4_played_17 (by decide) (fun c_17 => ?_) (fun c_17 => ?_)
    · refine gk_iload_n C dX4_played_30 rfl ?_
      refine gk_iconst C dX4_played_31 ?_
      refine gk_iconst C dX4_played_32 ?_
      refine gk_callS C o_X4_isWithin k_X4_53 dX4_played_33 (x_isWithin hfl hw (by omega) (by omega)) rfl rfl (by decide) (by decide) (by exact Nat.le_of_ble_eq_true rfl) (fun _ _ z => z.elim) (fun v_33 h_33 p_33 => ?_)
      obtain ⟨r_33, rfl, rb_33, rc_33, rfl⟩ := p_33
      dsimp only [gk_push]
      refine gk_if_ne C (tgt := 49) (by omega) dX4_played_36 (by decide) (fun c_36 => ?_) (fun c_36 => ?_)
      · obtain ⟨z, rfl⟩ : ∃ z : Nat, p = (z : Int) := ⟨p.toNat, by omega⟩
        refine gk_aload C dX4_played_49 rfl ?_
        refine gk_iload_n C dX4_played_51 rfl ?_
        refine gk_iload_n C dX4_played_52 rfl ?_
        refine gk_callV C o_X3_tellPlayed k_X4_117 dX4_played_53 (c_X3_tellPlayed hfl (hx_13 I hi) (hx_18 I hi) (by omega) k10 (hx_14 I hi) (hx_15 I hi) (hx_16 I hi) (hx_17 I hi) (z := z) (by omega) (by omega)) (hx_13 I hi) rfl rfl rfl (by decide) (by decide) (by exact Nat.le_of_ble_eq_true rfl) (fun _ _ z => z.elim) (fun v_53 h_53 p_53 => ?_)
        obtain ⟨rfl, rfl⟩ := p_53
        dsimp only [gk_push]
        refine (R _ _ _ _ _ (by decide) (by decide)).1 _ rfl dX4_played_56 ?_
        exact ⟨rfl, ⟨hti, (show (0 : Int) ≤ z ∧ (z : Int) < tPl (Q.2.2 i) by omega), by omega⟩, rfl⟩
      · exact T 39 _ _ _ _ _ _ _ 57 115 61 th_X4_played_39 ⟨rfl, Or.inr ⟨rfl, hti, (show 0 ≤ p ∧ p < tPl (Q.2.2 i) by omega), by omega⟩⟩ (by decide) (by exact Nat.le_of_ble_eq_true rfl) (by decide) (by decide) td_X4_played_39
    · exact T 20 _ _ _ _ _ _ _ 110 112 114 th_X4_played_20 ⟨rfl, Or.inl ⟨rfl, Or.inr ⟨hti, fun z => by have z2 : p < tPl (Q.2.2 i) := z.2; omega⟩⟩⟩ (by decide) (by exact Nat.le_of_ble_eq_true rfl) (by decide) (by decide) td_X4_played_20

set_option maxRecDepth 100000 in
set_option maxHeartbeats 4000000 in
theorem x_ofTune {l : Launch} {Γ : GA} (hfl : l.stackTraces = false) {ad : XK → Nat} {Q : XTs} {S : XSs} {P : XPs} {B : XBs} (I : IX (gEm Γ) ad Q S P B) (hn : Q.1 ≤ 10) (hok : ∀ i, i < Q.1 → tuOk (Q.2.2 i)) {t w : Int} (ht : -2147483648 ≤ t ∧ t ≤ 2147483647)(hw : -2147483648 ≤ w ∧ w ≤ 2147483647) : Ct l Γ m_X4_ofTune [.ref (ad (0, 0)), iv t, iv w] (HX (gEm Γ) ad Q S P B) (fun v h' => v = some (iv (if w = 0 then tKd (Q.2.2 t.toNat) else if w = 1 then (tPl (Q.2.2 t.toNat) : Int) else if w = 2 then usum (fun j => tL (Q.2.2 t.toNat) (tN (Q.2.2 t.toNat) j)) (tPl (Q.2.2 t.toNat)) else if w = 3 then usum (clash1 (fun j => tG (Q.2.2 t.toNat) (tN (Q.2.2 t.toNat) j)) (fun j => tH (Q.2.2 t.toNat) (tN (Q.2.2 t.toNat) j))) (tPl (Q.2.2 t.toNat)) else if w = 4 then usum (fun j => smallOf (tG (Q.2.2 t.toNat) (tN (Q.2.2 t.toNat) j))) (tPl (Q.2.2 t.toNat)) else if w = 5 then (tPc (Q.2.2 t.toNat) : Int) else (tWc (Q.2.2 t.toNat) : Int) - tFo (Q.2.2 t.toNat))) ∧ ((0 ≤ t ∧ t < Q.1) ∧ (0 ≤ w ∧ w ≤ 6)) ∧ h' = HX (gEm Γ) ad Q S P B) (fun X0 h' => h' = HX (gEm Γ) ad Q S P B ∧ ((X0 = "java/lang/IndexOutOfBoundsException" ∧ ¬ (0 ≤ t ∧ t < Q.1)) ∨ (X0 = "java/lang/IllegalArgumentException" ∧ (0 ≤ t ∧ t < Q.1) ∧ ¬ (0 ≤ w ∧ w ≤ 6)))) := by
  refine Ct.intro hfl (by decide +kernel) rfl (Nat.le_of_ble_eq_true rfl) ?_
  intro G C R T
  show G 0 [some (.ref (ad (0, 0))), some (iv t), some (iv w), none] [] (HX (gEm Γ) ad Q S P B) 0 0
  refine gk_aload_n C dX4_ofTune_0 rfl ?_
  refine gk_iload_n C dX4_ofTune_1 rfl ?_
  refine gk_callV C o_X4_tuneOfNumber k_X4_82 dX4_ofTune_2 (x_tuneOf hfl I hn ht) (hx_0 I) rfl rfl rfl (by decide) (by decide) (by exact Nat.le_of_ble_eq_true rfl) (fun _ _ z => ⟨⟨z.1, Or.inl z.2⟩, by decide, by decide⟩) (fun v_2 h_2 p_2 => ?_)
  obtain ⟨rfl, hti, rfl⟩ := p_2
  dsimp only [gk_push]
  obtain ⟨i, rfl⟩ : ∃ i : Nat, t = (i : Int) := ⟨t.toNat, by omega⟩
  rw [show ((i : Int)).toNat = i from rfl]
  have hi : i < Q.1 := by omega
  obtain ⟨k1, k2, k3, k4, k5, k6, k7, k8, k9, k10⟩ := hok i hi
  refine gk_astore_n_3 C rfl (by decide) dX4_ofTune_5 ?_
  refine gk_iload_n C dX4_ofTune_6 rfl ?_
  refine gk_iconst C dX4_ofTune_7 ?_
  refine gk_bipush C dX4_ofTune_8 (by decide) ?_
  refine gk_callS C o_X4_isWithin k_X4_53 dX4_ofTune_10 (x_isWithin hfl hw (by omega) (by omega)) rfl rfl (by decide) (by decide) (by exact Nat.le_of_ble_eq_true rfl) (fun _ _ z => z.elim) (fun v_10 h_10 p_10 => ?_)
  obtain ⟨r_10, rfl, rb_10, rc_10, rfl⟩ := p_10
  dsimp only [gk_push]
  refine gk_if_ne C (tgt := 26) (by omega) dX4_ofTune_13 (by decide) (fun c_13 => ?_) (fun c_13 => ?_)
  · refine gk_aload_n C dX4_ofTune_26 rfl ?_
    refine gk_iload_n C dX4_ofTune_27 rfl ?_
    refine gk_callV C o_X3_tell k_X4_121 dX4_ofTune_28 (c_X3_tell hfl (hx_13 I hi) (hx_18 I hi) (by omega) k10 (hx_14 I hi) (hx_15 I hi) (hx_16 I hi) (hx_17 I hi) k3 k2 (fun i _ _ => k7 _) (fun i _ _ => k9 _) (by omega)) (hx_13 I hi) rfl rfl rfl (by decide) (by decide) (by exact Nat.le_of_ble_eq_true rfl) (fun _ _ z => z.elim) (fun v_28 h_28 p_28 => ?_)
    obtain ⟨rfl, rfl⟩ := p_28
    dsimp only [gk_push]
    refine (R _ _ _ _ _ (by decide) (by decide)).1 _ rfl dX4_ofTune_31 ?_
    exact ⟨rfl, ⟨hti, by omega⟩, rfl⟩
  · exact T 16 _ _ _ _ _ _ _ 57 115 61 th_X4_ofTune_16 ⟨rfl, Or.inr ⟨rfl, hti, by omega⟩⟩ (by decide) (by exact Nat.le_of_ble_eq_true rfl) (by decide) (by decide) td_X4_ofTune_16

set_option maxRecDepth 100000 in
set_option maxHeartbeats 4000000 in
theorem x_alike {l : Launch} {Γ : GA} (hfl : l.stackTraces = false) {ad : XK → Nat} {Q : XTs} {S : XSs} {P : XPs} {B : XBs} (I : IX (gEm Γ) ad Q S P B) (hn : Q.1 ≤ 10) (hok : ∀ i, i < Q.1 → tuOk (Q.2.2 i)) {t t2 : Int} (ht : -2147483648 ≤ t ∧ t ≤ 2147483647)(ht2 : -2147483648 ≤ t2 ∧ t2 ≤ 2147483647) : Ct l Γ m_X4_alike [.ref (ad (0, 0)), iv t, iv t2] (HX (gEm Γ) ad Q S P B) (fun v h' => ∃ m : Nat, v = some (iv (m : Int)) ∧ isAlike (fun j => tH (Q.2.2 t.toNat) (tN (Q.2.2 t.toNat) j)) (tPl (Q.2.2 t.toNat)) (fun j => tH (Q.2.2 t2.toNat) (tN (Q.2.2 t2.toNat) j)) (tPl (Q.2.2 t2.toNat)) m ∧ ((0 ≤ t ∧ t < Q.1) ∧ (0 ≤ t2 ∧ t2 < Q.1)) ∧ h' = HX (gEm Γ) ad Q S P B) (fun X0 h' => h' = HX (gEm Γ) ad Q S P B ∧ X0 = "java/lang/IndexOutOfBoundsException" ∧ ¬ ((0 ≤ t ∧ t < Q.1) ∧ (0 ≤ t2 ∧ t2 < Q.1))) := by
  refine Ct.intro hfl (by decide +kernel) rfl (Nat.le_of_ble_eq_true rfl) ?_
  intro G C R T
  show G 0 [some (.ref (ad (0, 0))), some (iv t), some (iv t2), none] [] (HX (gEm Γ) ad Q S P B) 0 0
  refine gk_aload_n C dX4_alike_0 rfl ?_
  refine gk_iload_n C dX4_alike_1 rfl ?_
  refine gk_callV C o_X4_tuneOfNumber k_X4_82 dX4_alike_2 (x_tuneOf hfl I hn ht) (hx_0 I) rfl rfl rfl (by decide) (by decide) (by exact Nat.le_of_ble_eq_true rfl) (fun _ _ z => ⟨⟨z.1, z.2.1, fun y => z.2.2 y.1⟩, by decide, by decide⟩) (fun v_2 h_2 p_2 => ?_)
  obtain ⟨rfl, hti, rfl⟩ := p_2
  dsimp only [gk_push]
  obtain ⟨i, rfl⟩ : ∃ i : Nat, t = (i : Int) := ⟨t.toNat, by omega⟩
  rw [show ((i : Int)).toNat = i from rfl]
  have hi : i < Q.1 := by omega
  obtain ⟨k1, k2, k3, k4, k5, k6, k7, k8, k9, k10⟩ := hok i hi
  refine gk_astore_n_3 C rfl (by decide) dX4_alike_5 ?_
  refine gk_aload_n C dX4_alike_6 rfl ?_
  refine gk_aload_n C dX4_alike_7 rfl ?_
  refine gk_iload_n C dX4_alike_8 rfl ?_
  refine gk_callV C o_X4_tuneOfNumber k_X4_82 dX4_alike_9 (x_tuneOf hfl I hn ht2) (hx_0 I) rfl rfl rfl (by decide) (by decide) (by exact Nat.le_of_ble_eq_true rfl) (fun _ _ z => ⟨⟨z.1, z.2.1, fun y => z.2.2 y.2⟩, by decide, by decide⟩) (fun v_9 h_9 p_9 => ?_)
  obtain ⟨rfl, htj, rfl⟩ := p_9
  dsimp only [gk_push]
  obtain ⟨j, rfl⟩ : ∃ j : Nat, t2 = (j : Int) := ⟨t2.toNat, by omega⟩
  rw [show ((j : Int)).toNat = j from rfl]
  have hj : j < Q.1 := by omega
  obtain ⟨u1, u2, u3, u4, u5, u6, u7, u8, u9, u10⟩ := hok j hj
  refine gk_callV C o_X3_likenessByShifts k_X4_125 dX4_alike_12 (c_X3_shifts hfl (hx_13 I hi) (hx_18 I hi) (by omega) k10 (hx_14 I hi) (fun i _ _ => k7 _) (hx_13 I hj) (hx_18 I hj) (by omega) u10 (hx_14 I hj) (fun i _ _ => u7 _)) (hx_13 I hi) rfl rfl rfl (by decide) (by decide) (by exact Nat.le_of_ble_eq_true rfl) (fun _ _ z => z.elim) (fun v_12 h_12 p_12 => ?_)
  obtain ⟨m, rfl, rfl, hm⟩ := p_12
  dsimp only [gk_push]
  refine (R _ _ _ _ _ (by decide) (by decide)).1 _ rfl dX4_alike_15 ?_
  exact ⟨m, rfl, hm, ⟨hti, htj⟩, rfl⟩

set_option maxRecDepth 100000 in
set_option maxHeartbeats 4000000 in
theorem x_alikeAnew {l : Launch} {Γ : GA} (hfl : l.stackTraces = false) {ad : XK → Nat} {Q : XTs} {S : XSs} {P : XPs} {B : XBs} (I : IX (gEm Γ) ad Q S P B) (hn : Q.1 ≤ 10) (hok : ∀ i, i < Q.1 → tuOk (Q.2.2 i)) {t t2 : Int} (ht : -2147483648 ≤ t ∧ t ≤ 2147483647)(ht2 : -2147483648 ≤ t2 ∧ t2 ≤ 2147483647) : Ct l Γ m_X4_alikeAnew [.ref (ad (0, 0)), iv t, iv t2] (HX (gEm Γ) ad Q S P B) (fun v h' => ∃ m : Nat, v = some (iv (m : Int)) ∧ isAlike (fun j => tH (Q.2.2 t.toNat) (tN (Q.2.2 t.toNat) j)) (tPl (Q.2.2 t.toNat)) (fun j => tH (Q.2.2 t2.toNat) (tN (Q.2.2 t2.toNat) j)) (tPl (Q.2.2 t2.toNat)) m ∧ ((0 ≤ t ∧ t < Q.1) ∧ (0 ≤ t2 ∧ t2 < Q.1)) ∧ h' = HX (gEm Γ) ad Q S P B) (fun X0 h' => h' = HX (gEm Γ) ad Q S P B ∧ X0 = "java/lang/IndexOutOfBoundsException" ∧ ¬ ((0 ≤ t ∧ t < Q.1) ∧ (0 ≤ t2 ∧ t2 < Q.1))) := by
  refine Ct.intro hfl (by decide +kernel) rfl (Nat.le_of_ble_eq_true rfl) ?_
  intro G C R T
  show G 0 [some (.ref (ad (0, 0))), some (iv t), some (iv t2), none] [] (HX (gEm Γ) ad Q S P B) 0 0
  refine gk_aload_n C dX4_alikeAnew_0 rfl ?_
  refine gk_iload_n C dX4_alikeAnew_1 rfl ?_
  refine gk_callV C o_X4_tuneOfNumber k_X4_82 dX4_alikeAnew_2 (x_tuneOf hfl I hn ht) (hx_0 I) rfl rfl rfl (by decide) (by decide) (by exact Nat.le_of_ble_eq_true rfl) (fun _ _ z => ⟨⟨z.1, z.2.1, fun y => z.2.2 y.1⟩, by decide, by decide⟩) (fun v_2 h_2 p_2 => ?_)
  obtain ⟨rfl, hti, rfl⟩ := p_2
  dsimp only [gk_push]
  obtain ⟨i, rfl⟩ : ∃ i : Nat, t = (i : Int) := ⟨t.toNat, by omega⟩
  rw [show ((i : Int)).toNat = i from rfl]
  have hi : i < Q.1 := by omega
  obtain ⟨k1, k2, k3, k4, k5, k6, k7, k8, k9, k10⟩ := hok i hi
  refine gk_astore_n_3 C rfl (by decide) dX4_alikeAnew_5 ?_
  refine gk_aload_n C dX4_alikeAnew_6 rfl ?_
  refine gk_aload_n C dX4_alikeAnew_7 rfl ?_
  refine gk_iload_n C dX4_alikeAnew_8 rfl ?_
  refine gk_callV C o_X4_tuneOfNumber k_X4_82 dX4_alikeAnew_9 (x_tuneOf hfl I hn ht2) (hx_0 I) rfl rfl rfl (by decide) (by decide) (by exact Nat.le_of_ble_eq_true rfl) (fun _ _ z => ⟨⟨z.1, z.2.1, fun y => z.2.2 y.2⟩, by decide, by decide⟩) (fun v_9 h_9 p_9 => ?_)
  obtain ⟨rfl, htj, rfl⟩ := p_9
  dsimp only [gk_push]
  obtain ⟨j, rfl⟩ : ∃ j : Nat, t2 = (j : Int) := ⟨t2.toNat, by omega⟩
  rw [show ((j : Int)).toNat = j from rfl]
  have hj : j < Q.1 := by omega
  obtain ⟨u1, u2, u3, u4, u5, u6, u7, u8, u9, u10⟩ := hok j hj
  refine gk_callV C o_X3_likenessByBeginnings k_X4_129 dX4_alikeAnew_12 (c_X3_begins hfl (hx_13 I hi) (hx_18 I hi) (by omega) k10 (hx_14 I hi) (fun i _ _ => k7 _) (hx_13 I hj) (hx_18 I hj) (by omega) u10 (hx_14 I hj) (fun i _ _ => u7 _)) (hx_13 I hi) rfl rfl rfl (by decide) (by decide) (by exact Nat.le_of_ble_eq_true rfl) (fun _ _ z => z.elim) (fun v_12 h_12 p_12 => ?_)
  obtain ⟨m, rfl, rfl, hm⟩ := p_12
  dsimp only [gk_push]
  refine (R _ _ _ _ _ (by decide) (by decide)).1 _ rfl dX4_alikeAnew_15 ?_
  exact ⟨m, rfl, hm, ⟨hti, htj⟩, rfl⟩

set_option maxRecDepth 100000 in
set_option maxHeartbeats 4000000 in
theorem x_note {l : Launch} {Γ : GA} (hfl : l.stackTraces = false) {ad : XK → Nat} {Q : XTs} {S : XSs} {P : XPs} {B : XBs} (I : IX (gEm Γ) ad Q S P B) (hn : Q.1 ≤ 10) (hok : ∀ i, i < Q.1 → tuOk (Q.2.2 i)) {t h2 l2 g : Int} (ht : -2147483648 ≤ t ∧ t ≤ 2147483647)(hh2 : -2147483648 ≤ h2 ∧ h2 ≤ 2147483647)(hl2 : -2147483648 ≤ l2 ∧ l2 ≤ 2147483647)(hg : -2147483648 ≤ g ∧ g ≤ 2147483647) : Ct l Γ m_X4_note [.ref (ad (0, 0)), iv t, iv h2, iv l2, iv g] (HX (gEm Γ) ad Q S P B) (fun v h' => v = some (iv ((tWc (Q.2.2 t.toNat) : Int) + 1)) ∧ ((0 ≤ t ∧ t < Q.1) ∧ ((0 ≤ h2 ∧ h2 ≤ 8) ∧ (1 ≤ l2 ∧ l2 ≤ 16) ∧ (0 ≤ g ∧ g ≤ 8)) ∧ (tWc (Q.2.2 t.toNat) < 64 ∧ tOu (Q.2.2 t.toNat) % barU (tKd (Q.2.2 t.toNat)) + l2 ≤ barU (tKd (Q.2.2 t.toNat)) ∧ lawf (lastH (tH (Q.2.2 t.toNat)) (tWc (Q.2.2 t.toNat))) h2 g)) ∧ h' = HX (gEm Γ) ad (Q.1, Q.2.1, tset Q.2.2 t.toNat (tNote (Q.2.2 t.toNat) h2 l2 g)) S P B) (fun X0 h' => h' = HX (gEm Γ) ad Q S P B ∧ ((X0 = "java/lang/IndexOutOfBoundsException" ∧ ¬ (0 ≤ t ∧ t < Q.1)) ∨ (X0 = "java/lang/IllegalArgumentException" ∧ (0 ≤ t ∧ t < Q.1) ∧ ¬ ((0 ≤ h2 ∧ h2 ≤ 8) ∧ (1 ≤ l2 ∧ l2 ≤ 16) ∧ (0 ≤ g ∧ g ≤ 8))) ∨ (X0 = "java/lang/IllegalStateException" ∧ (0 ≤ t ∧ t < Q.1) ∧ ((0 ≤ h2 ∧ h2 ≤ 8) ∧ (1 ≤ l2 ∧ l2 ≤ 16) ∧ (0 ≤ g ∧ g ≤ 8)) ∧ ¬ (tWc (Q.2.2 t.toNat) < 64 ∧ tOu (Q.2.2 t.toNat) % barU (tKd (Q.2.2 t.toNat)) + l2 ≤ barU (tKd (Q.2.2 t.toNat)) ∧ lawf (lastH (tH (Q.2.2 t.toNat)) (tWc (Q.2.2 t.toNat))) h2 g)))) := by
  refine Ct.intro hfl (by decide +kernel) rfl (Nat.le_of_ble_eq_true rfl) ?_
  intro G C R T
  show G 0 [some (.ref (ad (0, 0))), some (iv t), some (iv h2), some (iv l2), some (iv g), none] [] (HX (gEm Γ) ad Q S P B) 0 0
  refine gk_aload_n C dX4_note_0 rfl ?_
  refine gk_iload_n C dX4_note_1 rfl ?_
  refine gk_callV C o_X4_tuneOfNumber k_X4_82 dX4_note_2 (x_tuneOf hfl I hn ht) (hx_0 I) rfl rfl rfl (by decide) (by decide) (by exact Nat.le_of_ble_eq_true rfl) (fun _ _ z => ⟨⟨z.1, Or.inl z.2⟩, by decide, by decide⟩) (fun v_2 h_2 p_2 => ?_)
  obtain ⟨rfl, hti, rfl⟩ := p_2
  dsimp only [gk_push]
  obtain ⟨i, rfl⟩ : ∃ i : Nat, t = (i : Int) := ⟨t.toNat, by omega⟩
  rw [show ((i : Int)).toNat = i from rfl]
  have hi : i < Q.1 := by omega
  obtain ⟨k1, k2, k3, k4, k5, k6, k7, k8, k9, k10⟩ := hok i hi
  refine gk_astore_5 C rfl (by decide) dX4_note_5 ?_
  refine gk_iload_n C dX4_note_7 rfl ?_
  refine gk_iconst C dX4_note_8 ?_
  refine gk_bipush C dX4_note_9 (by decide) ?_
  refine gk_callS C o_X4_isWithin k_X4_53 dX4_note_11 (x_isWithin hfl hh2 (by omega) (by omega)) rfl rfl (by decide) (by decide) (by exact Nat.le_of_ble_eq_true rfl) (fun _ _ z => z.elim) (fun v_11 h_11 p_11 => ?_)
  obtain ⟨r_11, rfl, rb_11, rc_11, rfl⟩ := p_11
  dsimp only [gk_push]
  refine gk_if_eq C (tgt := 38) (by omega) dX4_note_14 (by decide) (fun c_14 => ?_) (fun c_14 => ?_)
  · exact T 38 _ _ _ _ _ _ _ 57 86 61 th_X4_note_38 ⟨rfl, Or.inr (Or.inl ⟨rfl, hti, by omega⟩)⟩ (by decide) (by exact Nat.le_of_ble_eq_true rfl) (by decide) (by decide) td_X4_note_38
  · refine gk_iload_n C dX4_note_17 rfl ?_
    refine gk_iconst C dX4_note_18 ?_
    refine gk_bipush C dX4_note_19 (by decide) ?_
    refine gk_callS C o_X4_isWithin k_X4_53 dX4_note_21 (x_isWithin hfl hl2 (by omega) (by omega)) rfl rfl (by decide) (by decide) (by exact Nat.le_of_ble_eq_true rfl) (fun _ _ z => z.elim) (fun v_21 h_21 p_21 => ?_)
    obtain ⟨r_21, rfl, rb_21, rc_21, rfl⟩ := p_21
    dsimp only [gk_push]
    refine gk_if_eq C (tgt := 38) (by omega) dX4_note_24 (by decide) (fun c_24 => ?_) (fun c_24 => ?_)
    · exact T 38 _ _ _ _ _ _ _ 57 86 61 th_X4_note_38 ⟨rfl, Or.inr (Or.inl ⟨rfl, hti, by omega⟩)⟩ (by decide) (by exact Nat.le_of_ble_eq_true rfl) (by decide) (by decide) td_X4_note_38
    · refine gk_iload C dX4_note_27 rfl ?_
      refine gk_iconst C dX4_note_29 ?_
      refine gk_bipush C dX4_note_30 (by decide) ?_
      refine gk_callS C o_X4_isWithin k_X4_53 dX4_note_32 (x_isWithin hfl hg (by omega) (by omega)) rfl rfl (by decide) (by decide) (by exact Nat.le_of_ble_eq_true rfl) (fun _ _ z => z.elim) (fun v_32 h_32 p_32 => ?_)
      obtain ⟨r_32, rfl, rb_32, rc_32, rfl⟩ := p_32
      dsimp only [gk_push]
      refine gk_if_ne C (tgt := 48) (by omega) dX4_note_35 (by decide) (fun c_35 => ?_) (fun c_35 => ?_)
      · refine gk_aload C dX4_note_48 rfl ?_
        refine gk_iload_n C dX4_note_50 rfl ?_
        refine gk_iload_n C dX4_note_51 rfl ?_
        refine gk_iload C dX4_note_52 rfl ?_
        refine gk_callV C o_X3_canTake k_X4_88 dX4_note_54 (c_X3_canTake hfl (hx_13 I hi) (hx_14 I hi) k1 k2 (by unfold lastH; have := k7 ((tWc (Q.2.2 i) : Int) - 1); split <;> omega) (by omega) (by omega) (by omega) (by omega)) (hx_13 I hi) rfl rfl rfl (by decide) (by decide) (by exact Nat.le_of_ble_eq_true rfl) (fun _ _ z => z.elim) (fun v_54 h_54 p_54 => ?_)
        obtain ⟨r_54, rfl, rb_54, rc_54, rfl⟩ := p_54
        dsimp only [gk_push]
        refine gk_if_ne C (tgt := 70) (by omega) dX4_note_57 (by decide) (fun c_57 => ?_) (fun c_57 => ?_)
        · refine gk_aload C dX4_note_70 rfl ?_
          refine gk_iload_n C dX4_note_72 rfl ?_
          refine gk_iload_n C dX4_note_73 rfl ?_
          refine gk_iload C dX4_note_74 rfl ?_
          refine gk_callV C o_X3_write k_X4_93 dX4_note_76 (c_X3_write hfl (hx_13 I hi) (hx_14 I hi) (hx_15 I hi) (hx_16 I hi) (hx_ne I hi (by omega) (by omega) (by omega)) (hx_ne I hi (by omega) (by omega) (by omega)) (hx_ne I hi (by omega) (by omega) (by omega)) (rc_54.mp (by omega)).1) (hx_13 I hi) rfl rfl rfl (by decide) (by decide) (by exact Nat.le_of_ble_eq_true rfl) (fun _ _ z => z.elim) (fun v_76 h_76 p_76 => ?_)
          obtain ⟨rfl, rfl⟩ := p_76
          dsimp only [gk_push]
          refine (R _ _ _ _ _ (by decide) (by decide)).1 _ rfl dX4_note_79 ?_
          exact ⟨rfl, ⟨hti, by omega, rc_54.mp (by omega)⟩, hx_write I hi⟩
        · exact T 60 _ _ _ _ _ _ _ 68 91 72 th_X4_note_60 ⟨rfl, Or.inr (Or.inr ⟨rfl, hti, by omega, fun z => by have := rc_54.mpr z; omega⟩)⟩ (by decide) (by exact Nat.le_of_ble_eq_true rfl) (by decide) (by decide) td_X4_note_60
      · exact T 38 _ _ _ _ _ _ _ 57 86 61 th_X4_note_38 ⟨rfl, Or.inr (Or.inl ⟨rfl, hti, by omega⟩)⟩ (by decide) (by exact Nat.le_of_ble_eq_true rfl) (by decide) (by decide) td_X4_note_38

set_option maxRecDepth 100000 in
set_option maxHeartbeats 4000000 in
theorem x_part {l : Launch} {Γ : GA} (hfl : l.stackTraces = false) {ad : XK → Nat} {Q : XTs} {S : XSs} {P : XPs} {B : XBs} (I : IX (gEm Γ) ad Q S P B) (hn : Q.1 ≤ 10) (hok : ∀ i, i < Q.1 → tuOk (Q.2.2 i)) {t rep : Int} (ht : -2147483648 ≤ t ∧ t ≤ 2147483647) (hrep : rep = 0 ∨ rep = 1) : Ct l Γ m_X4_part [.ref (ad (0, 0)), iv t, iv rep] (HX (gEm Γ) ad Q S P B) (fun v h' => v = some (iv (tOu (Q.2.2 t.toNat) / barU (tKd (Q.2.2 t.toNat)))) ∧ ((0 ≤ t ∧ t < Q.1) ∧ (tPc (Q.2.2 t.toNat) < 8 ∧ tFo (Q.2.2 t.toNat) < tWc (Q.2.2 t.toNat) ∧ tOu (Q.2.2 t.toNat) % barU (tKd (Q.2.2 t.toNat)) = 0)) ∧ h' = HX (gEm Γ) ad (Q.1, Q.2.1, tset Q.2.2 t.toNat (tPart (Q.2.2 t.toNat) rep)) S P B) (fun X0 h' => h' = HX (gEm Γ) ad Q S P B ∧ ((X0 = "java/lang/IndexOutOfBoundsException" ∧ ¬ (0 ≤ t ∧ t < Q.1)) ∨ (X0 = "java/lang/IllegalStateException" ∧ (0 ≤ t ∧ t < Q.1) ∧ ¬ (tPc (Q.2.2 t.toNat) < 8 ∧ tFo (Q.2.2 t.toNat) < tWc (Q.2.2 t.toNat) ∧ tOu (Q.2.2 t.toNat) % barU (tKd (Q.2.2 t.toNat)) = 0)))) := by
  refine Ct.intro hfl (by decide +kernel) rfl (Nat.le_of_ble_eq_true rfl) ?_
  intro G C R T
  show G 0 [some (.ref (ad (0, 0))), some (iv t), some (iv rep), none] [] (HX (gEm Γ) ad Q S P B) 0 0
  refine gk_aload_n C dX4_part_0 rfl ?_
  refine gk_iload_n C dX4_part_1 rfl ?_
  refine gk_callV C o_X4_tuneOfNumber k_X4_82 dX4_part_2 (x_tuneOf hfl I hn ht) (hx_0 I) rfl rfl rfl (by decide) (by decide) (by exact Nat.le_of_ble_eq_true rfl) (fun _ _ z => ⟨⟨z.1, Or.inl z.2⟩, by decide, by decide⟩) (fun v_2 h_2 p_2 => ?_)
  obtain ⟨rfl, hti, rfl⟩ := p_2
  dsimp only [gk_push]
  obtain ⟨i, rfl⟩ : ∃ i : Nat, t = (i : Int) := ⟨t.toNat, by omega⟩
  rw [show ((i : Int)).toNat = i from rfl]
  have hi : i < Q.1 := by omega
  obtain ⟨k1, k2, k3, k4, k5, k6, k7, k8, k9, k10⟩ := hok i hi
  refine gk_astore_n_3 C rfl (by decide) dX4_part_5 ?_
  refine gk_aload_n C dX4_part_6 rfl ?_
  refine gk_callV C o_X3_canEndPart k_X4_97 dX4_part_7 (c_X3_canEnd hfl (hx_13 I hi) k1 k2 k3 k4 (by omega)) (hx_13 I hi) rfl rfl rfl (by decide) (by decide) (by exact Nat.le_of_ble_eq_true rfl) (fun _ _ z => z.elim) (fun v_7 h_7 p_7 => ?_)
  obtain ⟨r_7, rfl, rb_7, rc_7, rfl⟩ := p_7
  dsimp only [gk_push]
  have hce : r_7 = 1 → _ := rc_7.mp
  refine gk_if_ne C (tgt := 23) (by omega) dX4_part_10 (by decide) (fun c_10 => ?_) (fun c_10 => ?_)
  · refine gk_aload_n C dX4_part_23 rfl ?_
    refine gk_iload_n C dX4_part_24 rfl ?_
    refine gk_callV C o_X3_endPart k_X4_103 dX4_part_25 (c_X3_endPart hfl (hx_13 I hi) (hx_17 I hi) (hx_18 I hi) k1 (hx_ne I hi (by omega) (by omega) (by omega)) (hce (by omega)).2.1 k2 (hce (by omega)).1 hrep (by split <;> omega) (by omega)) (hx_13 I hi) rfl rfl rfl (by decide) (by decide) (by exact Nat.le_of_ble_eq_true rfl) (fun _ _ z => z.elim) (fun v_25 h_25 p_25 => ?_)
    obtain ⟨rfl, fn2, hfn2, rfl⟩ := p_25
    dsimp only [gk_push]
    refine (R _ _ _ _ _ (by decide) (by decide)).1 _ rfl dX4_part_28 ?_
    refine ⟨rfl, ⟨hti, hce (by omega)⟩, ?_⟩
    rw [hx_end I hi, hfn2]
    rfl
  · exact T 13 _ _ _ _ _ _ _ 68 101 72 th_X4_part_13 ⟨rfl, Or.inr ⟨rfl, hti, fun z => by have := rc_7.mpr z; omega⟩⟩ (by decide) (by exact Nat.le_of_ble_eq_true rfl) (by decide) (by decide) td_X4_part_13
