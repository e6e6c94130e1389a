/-! memories: one key more, one key set; new objects in the class's lists -/
noncomputable def kset {K : Type} (m : K → Option AE) (k : K) (e : AE) : K → Option AE := fun k2 => @ite _ (k2 = k) (Classical.propDecidable _) (some e) (m k2)
theorem kset_eq {K : Type} {m : K → Option AE} {k : K} {e : AE} : kset m k e k = some e := if_pos rfl
theorem kset_ne {K : Type} {m : K → Option AE} {k k2 : K} {e : AE} (c : k2 ≠ k) : kset m k e k2 = m k2 := if_neg c
theorem emb_kn {K : Type} {ad : K → Nat} {m : K → Option AE} {k : K} {e : AE} {q : Nat} (I : embI ad m) (hk : m k = none) (hq : emb ad m q = none) : hset (emb ad m) q e = emb (adset ad k q) (kset m k e) ∧ embI (adset ad k q) (kset m k e) := emb_new I hk hq kset_eq (fun _ c => kset_ne c)
theorem emb_ks {K : Type} {ad : K → Nat} {m : K → Option AE} {k : K} {e : AE} (I : embI ad m) (hk : m k ≠ none) : hset (emb ad m) (ad k) e = emb ad (kset m k e) ∧ embI ad (kset m k e) := by
  refine ⟨emb_set I hk kset_eq (fun _ c => kset_ne c), ?_⟩
  intro a b ha hb
  refine I a b ?_ ?_
  · by_cases c : a = k
    · rw [c]; exact hk
    · rw [kset_ne c] at ha; exact ha
  · by_cases c : b = k
    · rw [c]; exact hk
    · rw [kset_ne c] at hb; exact hb
theorem ladd1 {K : Type} {ad : K → Nat} {m : K → Option AE} {kl kr : K} {q : Nat} {er el : AE} (I : embI ad m) (hkr : m kr = none) (hkl : m kl ≠ none) (hne : kl ≠ kr) (hq : emb ad m q = none) :
    hset (hset (emb ad m) q er) (ad kl) el = emb (adset ad kr q) (kset (kset m kr er) kl el) ∧ embI (adset ad kr q) (kset (kset m kr er) kl el) := by
  have s1 := emb_kn (e := er) I hkr hq
  have s2 := emb_ks (k := kl) (e := el) s1.2 (by rw [kset_ne hne]; exact hkl)
  rw [adset_ne hne] at s2
  rw [s1.1]
  exact s2
theorem ladd2 {K : Type} {ad : K → Nat} {m : K → Option AE} {kl kr : K} {er el : AE} (I : embI ad m) (hkr : m kr ≠ none) (hkl : m kl ≠ none) (hne : kl ≠ kr) :
    hset (hset (emb ad m) (ad kr) er) (ad kl) el = emb ad (kset (kset m kr er) kl el) ∧ embI ad (kset (kset m kr er) kl el) := by
  have s1 := emb_ks (k := kr) (e := er) I hkr
  have s2 := emb_ks (k := kl) (e := el) s1.2 (by rw [kset_ne hne]; exact hkl)
  rw [s1.1]
  exact s2
theorem pne {a b n m : Nat} (h : a ≠ b) : ((a, n) : XK) ≠ (b, m) := fun z => h (congrArg Prod.fst z)
theorem pno {a b n m : Nat} (h : n ≠ m) : ((a, n) : XK) ≠ (b, m) := fun z => h (congrArg Prod.snd z)
theorem rw_addN {n : Nat} {g g2 : Nat → Nat} {v : Nat} (h1 : ∀ i, i < n → g2 i = g i) (h2 : g2 n = v) : aR 10 (gupd (fun z : Int => if 0 ≤ z ∧ z < (n : Int) then some (g z.toNat) else none) (n : Int) (some v)) = rwC (n + 1) g2 := by
  unfold rwC
  refine congrArg (aR 10) (funext fun z => ?_)
  by_cases c : z = (n : Int)
  · rw [c, gupd_eq, if_pos (by omega), show ((n : Int)).toNat = n from rfl, h2]
  · rw [gupd_ne c]
    by_cases c2 : 0 ≤ z ∧ z < (n : Int)
    · rw [if_pos c2, if_pos (by omega), h1 _ (by omega)]
    · rw [if_neg c2, if_neg (by omega)]
theorem rw_add0 {g2 : Nat → Nat} {v : Nat} (h2 : g2 0 = v) : aR 10 (gupd (fun _ => none) 0 (some v)) = rwC 1 g2 := by
  unfold rwC
  refine congrArg (aR 10) (funext fun z => ?_)
  by_cases c : z = 0
  · rw [c, gupd_eq, if_pos (by omega), show ((0 : Int)).toNat = 0 from rfl, h2]
  · rw [gupd_ne c, if_neg (by omega)]

section FN
variable {E : Nat} {ad ad2 : XK → Nat} {Q : XTs} {S : XSs} {P : XPs} {B : XBs} {m2 : XK → Option AE}
theorem fin_tu {t0 : TuS} (hs : ∀ i, i < S.2.1 → S.2.2.2.1 i < Q.1) (hd : ∀ k, XM E ad Q S P B k ≠ none → ad2 k = ad k) (h1 : m2 (1, 0) = some (lsC E ad2 true 9 (Q.2.1 + 1) (Q.1 + 1)))
    (h9 : m2 (9, 0) = some (rwC (Q.1 + 1) (fun i => ad2 (13, i)))) (hn : ∀ r, 13 ≤ r ∧ r < 19 → m2 (r, Q.1) = some (tuC ad2 t0 r Q.1)) (ho : ∀ k, k ≠ (1, 0) → k ≠ (9, 0) → (∀ r, 13 ≤ r ∧ r < 19 → k ≠ (r, Q.1)) → m2 k = XM E ad Q S P B k) : m2 = XM E ad2 (Q.1 + 1, Q.2.1 + 1, tset Q.2.2 Q.1 t0) S P B := by
  rw [← XM_ad hs hd] at ho
  funext k
  obtain ⟨r, j⟩ := k
  by_cases e1 : ((r, j) : XK) = (1, 0)
  · rw [e1, h1]
    rfl
  · by_cases e9 : ((r, j) : XK) = (9, 0)
    · rw [e9, h9]
      rfl
    · by_cases en : (13 ≤ r ∧ r < 19) ∧ j = Q.1
      · obtain ⟨a1, a2⟩ := en
        rw [a2, hn r a1]
        rw [XM_tu (T := (Q.1 + 1, Q.2.1 + 1, tset Q.2.2 Q.1 t0)) a1 (Nat.lt_succ_self Q.1)]
        show _ = some (tuC ad2 (tset Q.2.2 Q.1 t0 Q.1) r Q.1)
        rw [tset_eq]
      · rw [ho _ e1 e9 (fun r2 b1 z => en ⟨by rw [show r = r2 from congrArg Prod.fst z]; exact b1, congrArg Prod.snd z⟩)]
        unfold XM
        dsimp only
        by_cases c1 : r < 13
        · rw [if_pos c1, if_pos c1]
          by_cases c2 : j = 0
          · rw [if_pos c2, if_pos c2]
            rcases r0_12 c1 with e | e | e | e | e | e | e | e | e | e | e | e | e <;> subst e <;> first | rfl | exact absurd (congrArg (fun q : Nat => ((1 : Nat), q)) c2) e1 | exact absurd (congrArg (fun q : Nat => ((9 : Nat), q)) c2) e9
          · rw [if_neg c2, if_neg c2]
        · rw [if_neg c1, if_neg c1]
          by_cases c2 : r < 19
          · rw [if_pos c2, if_pos c2]
            by_cases c3 : j < Q.1
            · rw [if_pos c3, if_pos (show j < Q.1 + 1 by omega), tset_ne (show j ≠ Q.1 by omega)]
            · rw [if_neg c3, if_neg (show ¬ j < Q.1 + 1 from fun z => en ⟨⟨by omega, c2⟩, by omega⟩)]
          · rw [if_neg c2, if_neg c2]
theorem fin_pi {t0 : PiS} (hs : ∀ i, i < S.2.1 → S.2.2.2.1 i < Q.1) (hd : ∀ k, XM E ad Q S P B k ≠ none → ad2 k = ad k) (h1 : m2 (4, 0) = some (lsC E ad2 true 11 (P.2.1 + 1) (P.1 + 1)))
    (h9 : m2 (11, 0) = some (rwC (P.1 + 1) (fun i => ad2 (19, i)))) (hn : ∀ r, r = 19 → m2 (r, P.1) = some (piC t0)) (ho : ∀ k, k ≠ (4, 0) → k ≠ (11, 0) → (∀ r, r = 19 → k ≠ (r, P.1)) → m2 k = XM E ad Q S P B k) : m2 = XM E ad2 Q S (P.1 + 1, P.2.1 + 1, tset P.2.2.1 P.1 t0, P.2.2.2) B := by
  rw [← XM_ad hs hd] at ho
  funext k
  obtain ⟨r, j⟩ := k
  by_cases e1 : ((r, j) : XK) = (4, 0)
  · rw [e1, h1]
    rfl
  · by_cases e9 : ((r, j) : XK) = (11, 0)
    · rw [e9, h9]
      rfl
    · by_cases en : (r = 19) ∧ j = P.1
      · obtain ⟨a1, a2⟩ := en
        rw [a2, hn r a1]
        subst a1
        rw [XM_pi (P := (P.1 + 1, P.2.1 + 1, tset P.2.2.1 P.1 t0, P.2.2.2)) (Nat.lt_succ_self P.1)]
        show _ = some (piC (tset P.2.2.1 P.1 t0 P.1))
        rw [tset_eq]
      · rw [ho _ e1 e9 (fun r2 b1 z => en ⟨by rw [show r = r2 from congrArg Prod.fst z]; exact b1, congrArg Prod.snd z⟩)]
        unfold XM
        dsimp only
        by_cases c1 : r < 13
        · rw [if_pos c1, if_pos c1]
          by_cases c2 : j = 0
          · rw [if_pos c2, if_pos c2]
            rcases r0_12 c1 with e | e | e | e | e | e | e | e | e | e | e | e | e <;> subst e <;> first | rfl | exact absurd (congrArg (fun q : Nat => ((4 : Nat), q)) c2) e1 | exact absurd (congrArg (fun q : Nat => ((11 : Nat), q)) c2) e9
          · rw [if_neg c2, if_neg c2]
        · rw [if_neg c1, if_neg c1]
          by_cases c2 : r < 19
          · rw [if_pos c2, if_pos c2]
          · rw [if_neg c2, if_neg c2]
            by_cases c4 : r = 19
            · rw [if_pos c4, if_pos c4]
              by_cases c3 : j < P.1
              · rw [if_pos c3, if_pos (show j < P.1 + 1 by omega), tset_ne (show j ≠ P.1 by omega)]
              · rw [if_neg c3, if_neg (show ¬ j < P.1 + 1 from fun z => en ⟨c4, by omega⟩)]
            · rw [if_neg c4, if_neg c4]
theorem fin_ba {t0 : BaS} (hs : ∀ i, i < S.2.1 → S.2.2.2.1 i < Q.1) (hd : ∀ k, XM E ad Q S P B k ≠ none → ad2 k = ad k) (h1 : m2 (7, 0) = some (lsC E ad2 true 12 (B.2.1 + 1) (B.1 + 1)))
    (h9 : m2 (12, 0) = some (rwC (B.1 + 1) (fun i => ad2 (20, i)))) (hn : ∀ r, 20 ≤ r ∧ r < 23 → m2 (r, B.1) = some (baC ad2 t0 r B.1)) (ho : ∀ k, k ≠ (7, 0) → k ≠ (12, 0) → (∀ r, 20 ≤ r ∧ r < 23 → k ≠ (r, B.1)) → m2 k = XM E ad Q S P B k) : m2 = XM E ad2 Q S P (B.1 + 1, B.2.1 + 1, tset B.2.2.1 B.1 t0, B.2.2.2) := by
  rw [← XM_ad hs hd] at ho
  funext k
  obtain ⟨r, j⟩ := k
  by_cases e1 : ((r, j) : XK) = (7, 0)
  · rw [e1, h1]
    rfl
  · by_cases e9 : ((r, j) : XK) = (12, 0)
    · rw [e9, h9]
      rfl
    · by_cases en : (20 ≤ r ∧ r < 23) ∧ j = B.1
      · obtain ⟨a1, a2⟩ := en
        rw [a2, hn r a1]
        rw [XM_ba (B := (B.1 + 1, B.2.1 + 1, tset B.2.2.1 B.1 t0, B.2.2.2)) a1 (Nat.lt_succ_self B.1)]
        show _ = some (baC ad2 (tset B.2.2.1 B.1 t0 B.1) r B.1)
        rw [tset_eq]
      · rw [ho _ e1 e9 (fun r2 b1 z => en ⟨by rw [show r = r2 from congrArg Prod.fst z]; exact b1, congrArg Prod.snd z⟩)]
        unfold XM
        dsimp only
        by_cases c1 : r < 13
        · rw [if_pos c1, if_pos c1]
          by_cases c2 : j = 0
          · rw [if_pos c2, if_pos c2]
            rcases r0_12 c1 with e | e | e | e | e | e | e | e | e | e | e | e | e <;> subst e <;> first | rfl | exact absurd (congrArg (fun q : Nat => ((7 : Nat), q)) c2) e1 | exact absurd (congrArg (fun q : Nat => ((12 : Nat), q)) c2) e9
          · rw [if_neg c2, if_neg c2]
        · rw [if_neg c1, if_neg c1]
          by_cases c2 : r < 19
          · rw [if_pos c2, if_pos c2]
          · rw [if_neg c2, if_neg c2]
            by_cases c4 : r = 19
            · rw [if_pos c4, if_pos c4]
            · rw [if_neg c4, if_neg c4]
              by_cases c5 : r < 23
              · rw [if_pos c5, if_pos c5]
                by_cases c3 : j < B.1
                · rw [if_pos c3, if_pos (show j < B.1 + 1 by omega), tset_ne (show j ≠ B.1 by omega)]
                · rw [if_neg c3, if_neg (show ¬ j < B.1 + 1 from fun z => en ⟨⟨by omega, c5⟩, by omega⟩)]
              · rw [if_neg c5, if_neg c5]
end FN
section FA
variable {l : Launch} {Γ : GA} {ad ad1 : XK → Nat} {Q : XTs} {S : XSs} {P : XPs} {B : XBs} {m1 : XK → Option AE}
theorem add_tu {t0 : TuS} {q0 : Nat} (hfl : l.stackTraces = false) (hs : ∀ i, i < S.2.1 → S.2.2.2.1 i < Q.1) (I1 : embI ad1 m1) (hd1 : ∀ k, XM (gEm Γ) ad Q S P B k ≠ none → ad1 k = ad k) (hn1 : ∀ r, 13 ≤ r ∧ r < 19 → m1 (r, Q.1) = some (tuC ad1 t0 r Q.1)) (ho1 : ∀ k, (∀ r, 13 ≤ r ∧ r < 19 → k ≠ (r, Q.1)) → m1 k = XM (gEm Γ) ad Q S P B k) (hq0 : ad1 (13, Q.1) = q0) (hlt : Q.1 < 10) :
    emb ad1 m1 (ad (1, 0)) = some (oAL Q.2.1 (if has Q.1 then ad (9, 0) else gEm Γ) Q.1) ∧ Ct l Γ m_Jx4a65c_add_9ea2d [.ref (ad (1, 0)), .ref q0] (emb ad1 m1) (fun v h' => v = some (iv 1) ∧ ∃ ad2 : XK → Nat, (∀ k, XM (gEm Γ) ad Q S P B k ≠ none → ad2 k = ad k) ∧ IX (gEm Γ) ad2 (Q.1 + 1, Q.2.1 + 1, tset Q.2.2 Q.1 t0) S P B ∧ h' = HX (gEm Γ) ad2 (Q.1 + 1, Q.2.1 + 1, tset Q.2.2 Q.1 t0) S P B) (fun _ _ => False) := by
  have nk : ∀ a : Nat, a < 13 → ∀ r, 13 ≤ r ∧ r < 19 → ((a, 0) : XK) ≠ (r, Q.1) := fun a ha r hr => pne (by omega)
  have d1 : m1 (1, 0) = some (lsC (gEm Γ) ad (has Q.1) 9 Q.2.1 Q.1) := (ho1 (1, 0) (nk 1 (by omega))).trans rfl
  have a1 : ad1 (1, 0) = ad (1, 0) := hd1 _ (by intro z; cases z)
  have v1 : emb ad1 m1 q0 = some (oTu Q.1 (tKd t0) (ad1 (14, Q.1)) (ad1 (15, Q.1)) (ad1 (16, Q.1)) (ad1 (17, Q.1)) (ad1 (18, Q.1)) (tWc t0) (tFo t0) (tOu t0) (tPc t0) (tPl t0)) := by
    rw [← hq0]
    exact emb_at I1 ((hn1 13 ⟨by decide, by decide⟩).trans rfl)
  have l1 : emb ad1 m1 (ad (1, 0)) = some (lsC (gEm Γ) ad (has Q.1) 9 Q.2.1 Q.1) := by
    rw [← a1]
    exact emb_at I1 d1
  have hva : q0 ≠ ad (1, 0) := by
    intro z
    rw [z, l1] at v1
    unfold lsC at v1
    cases Option.some.inj v1
  have dL : m1 (1, 0) ≠ none := by
    rw [d1]
    intro z
    cases z
  refine ⟨l1, ?_⟩
  by_cases hz : Q.1 = 0
  · have hh : has Q.1 = false := by rw [hz]; rfl
    have c0 : emb ad1 m1 (ad (1, 0)) = some (oAL Q.2.1 (gEm Γ) 0) := by
      rw [l1]
      unfold lsC
      rw [hh, hz]
      rfl
    have dR : m1 (9, 0) = none := by
      rw [ho1 (9, 0) (nk 9 (by omega))]
      show (if has Q.1 = true then _ else none) = none
      rw [hh]
      rfl
    refine Ct.mono (c_AL_add0 hfl c0 v1 rfl ca_X3 hva) ?_ (fun _ _ z => z)
    rintro v h' ⟨rfl, q, hqa, hq, rfl⟩
    have s := ladd1 (kl := ((1, 0) : XK)) (kr := (9, 0)) (er := aR 10 (gupd (fun _ => none) 0 (some q0))) (el := oAL (Q.2.1 + 1) q 1) I1 dR dL (pne (by decide)) hq
    rw [a1] at s
    have ea : ∀ k, k ≠ (9, 0) → adset ad1 (9, 0) q k = ad1 k := fun k c => adset_ne c
    have eR : adset ad1 (9, 0) q (9, 0) = q := adset_eq
    have fin : kset (kset m1 (9, 0) (aR 10 (gupd (fun _ => none) 0 (some q0)))) (1, 0) (oAL (Q.2.1 + 1) q 1) = XM (gEm Γ) (adset ad1 (9, 0) q) (Q.1 + 1, Q.2.1 + 1, tset Q.2.2 Q.1 t0) S P B := by
      refine fin_tu (ad := ad) hs ?_ ?_ ?_ ?_ ?_
      · intro k hk
        rw [ea k (fun z => hk (by rw [z, ← ho1 (9, 0) (nk 9 (by omega))]; exact dR))]
        exact hd1 k hk
      · rw [kset_eq]
        unfold lsC
        rw [if_pos rfl, eR, hz]
        rfl
      · rw [kset_ne (show ((9, 0) : XK) ≠ (1, 0) from pne (by decide)), kset_eq]
        refine congrArg some ?_
        have e2 := rw_add0 (g2 := fun i => adset ad1 (9, 0) q (13, i)) (v := q0) (by show adset ad1 (9, 0) q (13, 0) = q0; rw [ea (13, 0) (pne (by decide)), ← hq0, hz])
        rw [hz]
        exact e2
      · intro r hr
        rw [kset_ne (Ne.symm (nk 1 (by omega) r hr)), kset_ne (Ne.symm (nk 9 (by omega) r hr)), hn1 r hr]
        unfold tuC
        rw [ea (14, Q.1) (pne (by decide)), ea (15, Q.1) (pne (by decide)), ea (16, Q.1) (pne (by decide)), ea (17, Q.1) (pne (by decide)), ea (18, Q.1) (pne (by decide))]
      · intro k k1 k2 k3
        rw [kset_ne k1, kset_ne k2]
        exact ho1 k k3
    rw [fin] at s
    refine ⟨rfl, adset ad1 (9, 0) q, fun k hk => ?_, s.2, s.1⟩
    rw [ea k (fun z => hk (by rw [z, ← ho1 (9, 0) (nk 9 (by omega))]; exact dR))]
    exact hd1 k hk
  · have hh : has Q.1 = true := has_of (show 0 < Q.1 by omega)
    have dRx : XM (gEm Γ) ad Q S P B (9, 0) = some (rwC Q.1 (fun i => ad (13, i))) := by
      show (if has Q.1 = true then _ else none) = _
      rw [hh]
      rfl
    have aR1 : ad1 (9, 0) = ad (9, 0) := hd1 _ (by rw [dRx]; intro z; cases z)
    have dR : m1 (9, 0) = some (rwC Q.1 (fun i => ad (13, i))) := (ho1 (9, 0) (nk 9 (by omega))).trans dRx
    have c0 : emb ad1 m1 (ad (1, 0)) = some (oAL Q.2.1 (ad (9, 0)) Q.1) := by
      rw [l1]
      unfold lsC
      rw [hh]
      rfl
    have cR : emb ad1 m1 (ad (9, 0)) = some (rwC Q.1 (fun i => ad (13, i))) := by
      rw [← aR1]
      exact emb_at I1 dR
    refine Ct.mono (c_AL_add hfl c0 cR v1 rfl ca_X3 hva hlt) ?_ (fun _ _ z => z)
    rintro v h' ⟨rfl, rfl⟩
    have s := ladd2 (kl := ((1, 0) : XK)) (kr := (9, 0)) (er := aR 10 (gupd (fun z : Int => if 0 ≤ z ∧ z < (Q.1 : Int) then some ((fun i => ad (13, i)) z.toNat) else none) (Q.1 : Int) (some q0))) (el := oAL (Q.2.1 + 1) (ad (9, 0)) ((Q.1 : Int) + 1)) I1 (by rw [dR]; intro z; cases z) dL (pne (by decide))
    rw [a1, aR1] at s
    have fin : kset (kset m1 (9, 0) (aR 10 (gupd (fun z : Int => if 0 ≤ z ∧ z < (Q.1 : Int) then some ((fun i => ad (13, i)) z.toNat) else none) (Q.1 : Int) (some q0)))) (1, 0) (oAL (Q.2.1 + 1) (ad (9, 0)) ((Q.1 : Int) + 1)) = XM (gEm Γ) ad1 (Q.1 + 1, Q.2.1 + 1, tset Q.2.2 Q.1 t0) S P B := by
      refine fin_tu (ad := ad) hs hd1 ?_ ?_ ?_ ?_
      · rw [kset_eq]
        unfold lsC
        rw [if_pos rfl, aR1]
        rfl
      · rw [kset_ne (show ((9, 0) : XK) ≠ (1, 0) from pne (by decide)), kset_eq]
        refine congrArg some ?_
        exact rw_addN (n := Q.1) (g := fun i => ad (13, i)) (g2 := fun i => ad1 (13, i)) (v := q0) (fun i hi => hd1 _ (by rw [XM_tu ⟨by decide, by decide⟩ hi]; intro z; cases z)) hq0
      · intro r hr
        rw [kset_ne (Ne.symm (nk 1 (by omega) r hr)), kset_ne (Ne.symm (nk 9 (by omega) r hr)), hn1 r hr]
      · intro k k1 k2 k3
        rw [kset_ne k1, kset_ne k2]
        exact ho1 k k3
    rw [fin] at s
    exact ⟨rfl, ad1, hd1, s.2, s.1⟩
theorem add_pi {t0 : PiS} {q0 : Nat} (hfl : l.stackTraces = false) (hs : ∀ i, i < S.2.1 → S.2.2.2.1 i < Q.1) (I1 : embI ad1 m1) (hd1 : ∀ k, XM (gEm Γ) ad Q S P B k ≠ none → ad1 k = ad k) (hn1 : ∀ r, r = 19 → m1 (r, P.1) = some (piC t0)) (ho1 : ∀ k, (∀ r, r = 19 → k ≠ (r, P.1)) → m1 k = XM (gEm Γ) ad Q S P B k) (hq0 : ad1 (19, P.1) = q0) (hlt : P.1 < 10) :
    emb ad1 m1 (ad (4, 0)) = some (oAL P.2.1 (if has P.1 then ad (11, 0) else gEm Γ) P.1) ∧ Ct l Γ m_Jx4a65c_add_9ea2d [.ref (ad (4, 0)), .ref q0] (emb ad1 m1) (fun v h' => v = some (iv 1) ∧ ∃ ad2 : XK → Nat, (∀ k, XM (gEm Γ) ad Q S P B k ≠ none → ad2 k = ad k) ∧ IX (gEm Γ) ad2 Q S (P.1 + 1, P.2.1 + 1, tset P.2.2.1 P.1 t0, P.2.2.2) B ∧ h' = HX (gEm Γ) ad2 Q S (P.1 + 1, P.2.1 + 1, tset P.2.2.1 P.1 t0, P.2.2.2) B) (fun _ _ => False) := by
  have nk : ∀ a : Nat, a < 13 → ∀ r, r = 19 → ((a, 0) : XK) ≠ (r, P.1) := fun a ha r hr => pne (by omega)
  have d1 : m1 (4, 0) = some (lsC (gEm Γ) ad (has P.1) 11 P.2.1 P.1) := (ho1 (4, 0) (nk 4 (by omega))).trans rfl
  have a1 : ad1 (4, 0) = ad (4, 0) := hd1 _ (by intro z; cases z)
  have v1 : emb ad1 m1 q0 = some (oPi (pR t0) (pP t0) (pB t0) (pS t0) (pW t0) (pT t0) (pZ t0)) := by
    rw [← hq0]
    exact emb_at I1 ((hn1 19 rfl).trans rfl)
  have l1 : emb ad1 m1 (ad (4, 0)) = some (lsC (gEm Γ) ad (has P.1) 11 P.2.1 P.1) := by
    rw [← a1]
    exact emb_at I1 d1
  have hva : q0 ≠ ad (4, 0) := by
    intro z
    rw [z, l1] at v1
    unfold lsC at v1
    cases Option.some.inj v1
  have dL : m1 (4, 0) ≠ none := by
    rw [d1]
    intro z
    cases z
  refine ⟨l1, ?_⟩
  by_cases hz : P.1 = 0
  · have hh : has P.1 = false := by rw [hz]; rfl
    have c0 : emb ad1 m1 (ad (4, 0)) = some (oAL P.2.1 (gEm Γ) 0) := by
      rw [l1]
      unfold lsC
      rw [hh, hz]
      rfl
    have dR : m1 (11, 0) = none := by
      rw [ho1 (11, 0) (nk 11 (by omega))]
      show (if has P.1 = true then _ else none) = none
      rw [hh]
      rfl
    refine Ct.mono (c_AL_add0 hfl c0 v1 rfl ca_X1 hva) ?_ (fun _ _ z => z)
    rintro v h' ⟨rfl, q, hqa, hq, rfl⟩
    have s := ladd1 (kl := ((4, 0) : XK)) (kr := (11, 0)) (er := aR 10 (gupd (fun _ => none) 0 (some q0))) (el := oAL (P.2.1 + 1) q 1) I1 dR dL (pne (by decide)) hq
    rw [a1] at s
    have ea : ∀ k, k ≠ (11, 0) → adset ad1 (11, 0) q k = ad1 k := fun k c => adset_ne c
    have eR : adset ad1 (11, 0) q (11, 0) = q := adset_eq
    have fin : kset (kset m1 (11, 0) (aR 10 (gupd (fun _ => none) 0 (some q0)))) (4, 0) (oAL (P.2.1 + 1) q 1) = XM (gEm Γ) (adset ad1 (11, 0) q) Q S (P.1 + 1, P.2.1 + 1, tset P.2.2.1 P.1 t0, P.2.2.2) B := by
      refine fin_pi (ad := ad) hs ?_ ?_ ?_ ?_ ?_
      · intro k hk
        rw [ea k (fun z => hk (by rw [z, ← ho1 (11, 0) (nk 11 (by omega))]; exact dR))]
        exact hd1 k hk
      · rw [kset_eq]
        unfold lsC
        rw [if_pos rfl, eR, hz]
        rfl
      · rw [kset_ne (show ((11, 0) : XK) ≠ (4, 0) from pne (by decide)), kset_eq]
        refine congrArg some ?_
        have e2 := rw_add0 (g2 := fun i => adset ad1 (11, 0) q (19, i)) (v := q0) (by show adset ad1 (11, 0) q (19, 0) = q0; rw [ea (19, 0) (pne (by decide)), ← hq0, hz])
        rw [hz]
        exact e2
      · intro r hr
        rw [kset_ne (Ne.symm (nk 4 (by omega) r hr)), kset_ne (Ne.symm (nk 11 (by omega) r hr)), hn1 r hr]
        skip
      · intro k k1 k2 k3
        rw [kset_ne k1, kset_ne k2]
        exact ho1 k k3
    rw [fin] at s
    refine ⟨rfl, adset ad1 (11, 0) q, fun k hk => ?_, s.2, s.1⟩
    rw [ea k (fun z => hk (by rw [z, ← ho1 (11, 0) (nk 11 (by omega))]; exact dR))]
    exact hd1 k hk
  · have hh : has P.1 = true := has_of (show 0 < P.1 by omega)
    have dRx : XM (gEm Γ) ad Q S P B (11, 0) = some (rwC P.1 (fun i => ad (19, i))) := by
      show (if has P.1 = true then _ else none) = _
      rw [hh]
      rfl
    have aR1 : ad1 (11, 0) = ad (11, 0) := hd1 _ (by rw [dRx]; intro z; cases z)
    have dR : m1 (11, 0) = some (rwC P.1 (fun i => ad (19, i))) := (ho1 (11, 0) (nk 11 (by omega))).trans dRx
    have c0 : emb ad1 m1 (ad (4, 0)) = some (oAL P.2.1 (ad (11, 0)) P.1) := by
      rw [l1]
      unfold lsC
      rw [hh]
      rfl
    have cR : emb ad1 m1 (ad (11, 0)) = some (rwC P.1 (fun i => ad (19, i))) := by
      rw [← aR1]
      exact emb_at I1 dR
    refine Ct.mono (c_AL_add hfl c0 cR v1 rfl ca_X1 hva hlt) ?_ (fun _ _ z => z)
    rintro v h' ⟨rfl, rfl⟩
    have s := ladd2 (kl := ((4, 0) : XK)) (kr := (11, 0)) (er := aR 10 (gupd (fun z : Int => if 0 ≤ z ∧ z < (P.1 : Int) then some ((fun i => ad (19, i)) z.toNat) else none) (P.1 : Int) (some q0))) (el := oAL (P.2.1 + 1) (ad (11, 0)) ((P.1 : Int) + 1)) I1 (by rw [dR]; intro z; cases z) dL (pne (by decide))
    rw [a1, aR1] at s
    have fin : kset (kset m1 (11, 0) (aR 10 (gupd (fun z : Int => if 0 ≤ z ∧ z < (P.1 : Int) then some ((fun i => ad (19, i)) z.toNat) else none) (P.1 : Int) (some q0)))) (4, 0) (oAL (P.2.1 + 1) (ad (11, 0)) ((P.1 : Int) + 1)) = XM (gEm Γ) ad1 Q S (P.1 + 1, P.2.1 + 1, tset P.2.2.1 P.1 t0, P.2.2.2) B := by
      refine fin_pi (ad := ad) hs hd1 ?_ ?_ ?_ ?_
      · rw [kset_eq]
        unfold lsC
        rw [if_pos rfl, aR1]
        rfl
      · rw [kset_ne (show ((11, 0) : XK) ≠ (4, 0) from pne (by decide)), kset_eq]
        refine congrArg some ?_
        exact rw_addN (n := P.1) (g := fun i => ad (19, i)) (g2 := fun i => ad1 (19, i)) (v := q0) (fun i hi => hd1 _ (by rw [XM_pi hi]; intro z; cases z)) hq0
      · intro r hr
        rw [kset_ne (Ne.symm (nk 4 (by omega) r hr)), kset_ne (Ne.symm (nk 11 (by omega) r hr)), hn1 r hr]
      · intro k k1 k2 k3
        rw [kset_ne k1, kset_ne k2]
        exact ho1 k k3
    rw [fin] at s
    exact ⟨rfl, ad1, hd1, s.2, s.1⟩
theorem add_ba {t0 : BaS} {q0 : Nat} (hfl : l.stackTraces = false) (hs : ∀ i, i < S.2.1 → S.2.2.2.1 i < Q.1) (I1 : embI ad1 m1) (hd1 : ∀ k, XM (gEm Γ) ad Q S P B k ≠ none → ad1 k = ad k) (hn1 : ∀ r, 20 ≤ r ∧ r < 23 → m1 (r, B.1) = some (baC ad1 t0 r B.1)) (ho1 : ∀ k, (∀ r, 20 ≤ r ∧ r < 23 → k ≠ (r, B.1)) → m1 k = XM (gEm Γ) ad Q S P B k) (hq0 : ad1 (20, B.1) = q0) (hlt : B.1 < 10) :
    emb ad1 m1 (ad (7, 0)) = some (oAL B.2.1 (if has B.1 then ad (12, 0) else gEm Γ) B.1) ∧ Ct l Γ m_Jx4a65c_add_9ea2d [.ref (ad (7, 0)), .ref q0] (emb ad1 m1) (fun v h' => v = some (iv 1) ∧ ∃ ad2 : XK → Nat, (∀ k, XM (gEm Γ) ad Q S P B k ≠ none → ad2 k = ad k) ∧ IX (gEm Γ) ad2 Q S P (B.1 + 1, B.2.1 + 1, tset B.2.2.1 B.1 t0, B.2.2.2) ∧ h' = HX (gEm Γ) ad2 Q S P (B.1 + 1, B.2.1 + 1, tset B.2.2.1 B.1 t0, B.2.2.2)) (fun _ _ => False) := by
  have nk : ∀ a : Nat, a < 13 → ∀ r, 20 ≤ r ∧ r < 23 → ((a, 0) : XK) ≠ (r, B.1) := fun a ha r hr => pne (by omega)
  have d1 : m1 (7, 0) = some (lsC (gEm Γ) ad (has B.1) 12 B.2.1 B.1) := (ho1 (7, 0) (nk 7 (by omega))).trans rfl
  have a1 : ad1 (7, 0) = ad (7, 0) := hd1 _ (by intro z; cases z)
  have v1 : emb ad1 m1 q0 = some (oBa B.1 (ad1 (21, B.1)) (ad1 (22, B.1)) (bGr t0) (bNg t0) (bPo t0) (bRk t0) (bSu t0) (bFi t0) (bTp t0)) := by
    rw [← hq0]
    exact emb_at I1 ((hn1 20 ⟨by decide, by decide⟩).trans rfl)
  have l1 : emb ad1 m1 (ad (7, 0)) = some (lsC (gEm Γ) ad (has B.1) 12 B.2.1 B.1) := by
    rw [← a1]
    exact emb_at I1 d1
  have hva : q0 ≠ ad (7, 0) := by
    intro z
    rw [z, l1] at v1
    unfold lsC at v1
    cases Option.some.inj v1
  have dL : m1 (7, 0) ≠ none := by
    rw [d1]
    intro z
    cases z
  refine ⟨l1, ?_⟩
  by_cases hz : B.1 = 0
  · have hh : has B.1 = false := by rw [hz]; rfl
    have c0 : emb ad1 m1 (ad (7, 0)) = some (oAL B.2.1 (gEm Γ) 0) := by
      rw [l1]
      unfold lsC
      rw [hh, hz]
      rfl
    have dR : m1 (12, 0) = none := by
      rw [ho1 (12, 0) (nk 12 (by omega))]
      show (if has B.1 = true then _ else none) = none
      rw [hh]
      rfl
    refine Ct.mono (c_AL_add0 hfl c0 v1 rfl ca_X0 hva) ?_ (fun _ _ z => z)
    rintro v h' ⟨rfl, q, hqa, hq, rfl⟩
    have s := ladd1 (kl := ((7, 0) : XK)) (kr := (12, 0)) (er := aR 10 (gupd (fun _ => none) 0 (some q0))) (el := oAL (B.2.1 + 1) q 1) I1 dR dL (pne (by decide)) hq
    rw [a1] at s
    have ea : ∀ k, k ≠ (12, 0) → adset ad1 (12, 0) q k = ad1 k := fun k c => adset_ne c
    have eR : adset ad1 (12, 0) q (12, 0) = q := adset_eq
    have fin : kset (kset m1 (12, 0) (aR 10 (gupd (fun _ => none) 0 (some q0)))) (7, 0) (oAL (B.2.1 + 1) q 1) = XM (gEm Γ) (adset ad1 (12, 0) q) Q S P (B.1 + 1, B.2.1 + 1, tset B.2.2.1 B.1 t0, B.2.2.2) := by
      refine fin_ba (ad := ad) hs ?_ ?_ ?_ ?_ ?_
      · intro k hk
        rw [ea k (fun z => hk (by rw [z, ← ho1 (12, 0) (nk 12 (by omega))]; exact dR))]
        exact hd1 k hk
      · rw [kset_eq]
        unfold lsC
        rw [if_pos rfl, eR, hz]
        rfl
      · rw [kset_ne (show ((12, 0) : XK) ≠ (7, 0) from pne (by decide)), kset_eq]
        refine congrArg some ?_
        have e2 := rw_add0 (g2 := fun i => adset ad1 (12, 0) q (20, i)) (v := q0) (by show adset ad1 (12, 0) q (20, 0) = q0; rw [ea (20, 0) (pne (by decide)), ← hq0, hz])
        rw [hz]
        exact e2
      · intro r hr
        rw [kset_ne (Ne.symm (nk 7 (by omega) r hr)), kset_ne (Ne.symm (nk 12 (by omega) r hr)), hn1 r hr]
        unfold baC
        rw [ea (21, B.1) (pne (by decide)), ea (22, B.1) (pne (by decide))]
      · intro k k1 k2 k3
        rw [kset_ne k1, kset_ne k2]
        exact ho1 k k3
    rw [fin] at s
    refine ⟨rfl, adset ad1 (12, 0) q, fun k hk => ?_, s.2, s.1⟩
    rw [ea k (fun z => hk (by rw [z, ← ho1 (12, 0) (nk 12 (by omega))]; exact dR))]
    exact hd1 k hk
  · have hh : has B.1 = true := has_of (show 0 < B.1 by omega)
    have dRx : XM (gEm Γ) ad Q S P B (12, 0) = some (rwC B.1 (fun i => ad (20, i))) := by
      show (if has B.1 = true then _ else none) = _
      rw [hh]
      rfl
    have aR1 : ad1 (12, 0) = ad (12, 0) := hd1 _ (by rw [dRx]; intro z; cases z)
    have dR : m1 (12, 0) = some (rwC B.1 (fun i => ad (20, i))) := (ho1 (12, 0) (nk 12 (by omega))).trans dRx
    have c0 : emb ad1 m1 (ad (7, 0)) = some (oAL B.2.1 (ad (12, 0)) B.1) := by
      rw [l1]
      unfold lsC
      rw [hh]
      rfl
    have cR : emb ad1 m1 (ad (12, 0)) = some (rwC B.1 (fun i => ad (20, i))) := by
      rw [← aR1]
      exact emb_at I1 dR
    refine Ct.mono (c_AL_add hfl c0 cR v1 rfl ca_X0 hva hlt) ?_ (fun _ _ z => z)
    rintro v h' ⟨rfl, rfl⟩
    have s := ladd2 (kl := ((7, 0) : XK)) (kr := (12, 0)) (er := aR 10 (gupd (fun z : Int => if 0 ≤ z ∧ z < (B.1 : Int) then some ((fun i => ad (20, i)) z.toNat) else none) (B.1 : Int) (some q0))) (el := oAL (B.2.1 + 1) (ad (12, 0)) ((B.1 : Int) + 1)) I1 (by rw [dR]; intro z; cases z) dL (pne (by decide))
    rw [a1, aR1] at s
    have fin : kset (kset m1 (12, 0) (aR 10 (gupd (fun z : Int => if 0 ≤ z ∧ z < (B.1 : Int) then some ((fun i => ad (20, i)) z.toNat) else none) (B.1 : Int) (some q0)))) (7, 0) (oAL (B.2.1 + 1) (ad (12, 0)) ((B.1 : Int) + 1)) = XM (gEm Γ) ad1 Q S P (B.1 + 1, B.2.1 + 1, tset B.2.2.1 B.1 t0, B.2.2.2) := by
      refine fin_ba (ad := ad) hs hd1 ?_ ?_ ?_ ?_
      · rw [kset_eq]
        unfold lsC
        rw [if_pos rfl, aR1]
        rfl
      · rw [kset_ne (show ((12, 0) : XK) ≠ (7, 0) from pne (by decide)), kset_eq]
        refine congrArg some ?_
        exact rw_addN (n := B.1) (g := fun i => ad (20, i)) (g2 := fun i => ad1 (20, i)) (v := q0) (fun i hi => hd1 _ (by rw [XM_ba ⟨by decide, by decide⟩ hi]; intro z; cases z)) hq0
      · intro r hr
        rw [kset_ne (Ne.symm (nk 7 (by omega) r hr)), kset_ne (Ne.symm (nk 12 (by omega) r hr)), hn1 r hr]
      · intro k k1 k2 k3
        rw [kset_ne k1, kset_ne k2]
        exact ho1 k k3
    rw [fin] at s
    exact ⟨rfl, ad1, hd1, s.2, s.1⟩
end FA
