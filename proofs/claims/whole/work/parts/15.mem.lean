/-! memories: a heap is what a memory's keys stand for; and the reference's memory -/
/-- the heap that holds at ad k what the memory m holds at k -/
noncomputable def emb {K : Type} (ad : K → Nat) (m : K → Option AE) : Hp := fun q => @dite _ (∃ k, m k ≠ none ∧ ad k = q) (Classical.propDecidable _) (fun c => m (Classical.choose c)) (fun _ => none)
def embI {K : Type} (ad : K → Nat) (m : K → Option AE) : Prop := ∀ k k', m k ≠ none → m k' ≠ none → ad k = ad k' → k = k'
theorem emb_at {K : Type} {ad : K → Nat} {m : K → Option AE} (I : embI ad m) {k : K} {e : AE} (hk : m k = some e) : emb ad m (ad k) = some e := by
  have hk1 : m k ≠ none := by rw [hk]; intro z; cases z
  have c : ∃ k2, m k2 ≠ none ∧ ad k2 = ad k := ⟨k, hk1, rfl⟩
  unfold emb
  rw [dif_pos c]
  have h2 := Classical.choose_spec c
  rw [I _ _ h2.1 hk1 h2.2, hk]
theorem emb_no {K : Type} {ad : K → Nat} {m : K → Option AE} {q : Nat} (hq : ∀ k, m k ≠ none → ad k ≠ q) : emb ad m q = none := by
  unfold emb
  rw [dif_neg]
  rintro ⟨k, h1, h2⟩
  exact hq k h1 h2
theorem emb_not {K : Type} {ad : K → Nat} {m : K → Option AE} {q : Nat} (I : embI ad m) (hq : emb ad m q = none) {k : K} (hk : m k ≠ none) : ad k ≠ q := by
  intro z
  cases e : m k with
  | none => exact hk e
  | some w =>
    have h1 := emb_at I e
    rw [z, hq] at h1
    cases h1
theorem emb_get {K : Type} {ad : K → Nat} {m : K → Option AE} {q : Nat} {e : AE} (h : emb ad m q = some e) : ∃ k, m k = some e ∧ ad k = q := by
  by_cases c : ∃ k, m k ≠ none ∧ ad k = q
  · unfold emb at h
    rw [dif_pos c] at h
    exact ⟨_, h, (Classical.choose_spec c).2⟩
  · unfold emb at h
    rw [dif_neg c] at h
    cases h
theorem emb_set {K : Type} {ad : K → Nat} {m m2 : K → Option AE} {k : K} {e : AE} (I : embI ad m) (hk : m k ≠ none) (h2 : m2 k = some e) (h3 : ∀ k2, k2 ≠ k → m2 k2 = m k2) : hset (emb ad m) (ad k) e = emb ad m2 := by
  have hd : ∀ k2, m2 k2 ≠ none ↔ m k2 ≠ none := by
    intro k2
    by_cases c : k2 = k
    · subst c
      rw [h2]
      exact ⟨fun _ => hk, fun _ z => by cases z⟩
    · rw [h3 k2 c]
  have I2 : embI ad m2 := fun a b ha hb => I a b ((hd a).mp ha) ((hd b).mp hb)
  funext q
  by_cases c : q = ad k
  · rw [c, hset_eq, emb_at I2 h2]
  · rw [hset_ne c]
    cases e1 : emb ad m q with
    | none => exact (emb_no fun k2 hk2 => emb_not I e1 ((hd k2).mp hk2)).symm
    | some w =>
      obtain ⟨k2, h4, h5⟩ := emb_get e1
      have h6 : k2 ≠ k := fun z => c (by rw [← h5, z])
      rw [← h5, emb_at I2 ((h3 k2 h6).trans h4)]
noncomputable def adset {K : Type} (ad : K → Nat) (k : K) (q : Nat) : K → Nat := fun k2 => @ite _ (k2 = k) (Classical.propDecidable _) q (ad k2)
theorem adset_eq {K : Type} {ad : K → Nat} {k : K} {q : Nat} : adset ad k q k = q := if_pos rfl
theorem adset_ne {K : Type} {ad : K → Nat} {k k2 : K} {q : Nat} (c : k2 ≠ k) : adset ad k q k2 = ad k2 := if_neg c
theorem emb_new {K : Type} {ad : K → Nat} {m m2 : K → Option AE} {k : K} {e : AE} {q : Nat} (I : embI ad m) (hk : m k = none) (hq : emb ad m q = none) (h2 : m2 k = some e) (h3 : ∀ k2, k2 ≠ k → m2 k2 = m k2) : hset (emb ad m) q e = emb (adset ad k q) m2 ∧ embI (adset ad k q) m2 := by
  have I2 : embI (adset ad k q) m2 := by
    intro a b ha hb hab
    by_cases c : a = k
    · by_cases c2 : b = k
      · rw [c, c2]
      · rw [c, adset_eq, adset_ne c2] at hab
        rw [h3 b c2] at hb
        exact absurd hab.symm (emb_not I hq hb)
    · rw [h3 a c] at ha
      by_cases c2 : b = k
      · rw [c2, adset_eq, adset_ne c] at hab
        exact absurd hab (emb_not I hq ha)
      · rw [h3 b c2] at hb
        rw [adset_ne c, adset_ne c2] at hab
        exact I a b ha hb hab
  refine ⟨?_, I2⟩
  funext x
  by_cases c : x = q
  · have h4 := emb_at I2 h2
    rw [adset_eq] at h4
    rw [c, hset_eq, h4]
  · rw [hset_ne c]
    cases e1 : emb ad m x with
    | none =>
      refine (emb_no fun k2 hk2 => ?_).symm
      by_cases c2 : k2 = k
      · rw [c2, adset_eq]; exact Ne.symm c
      · rw [adset_ne c2]
        rw [h3 k2 c2] at hk2
        exact emb_not I e1 hk2
    | some w =>
      obtain ⟨k2, h4, h5⟩ := emb_get e1
      have h6 : k2 ≠ k := fun z => by rw [z, hk] at h4; cases h4
      have h7 := emb_at I2 ((h3 k2 h6).trans h4)
      rw [adset_ne h6, h5] at h7
      rw [h7]
abbrev MS : Type := Nat → Int → Int
def moS (s : MS) (j : Nat) (f : Int → Int) : MS := fun k => if k = j then f else s k
theorem moS_eq {s : MS} {j : Nat} {f : Int → Int} : moS s j f j = f := if_pos rfl
theorem moS_ne {s : MS} {j k : Nat} {f : Int → Int} (c : k ≠ j) : moS s j f k = s k := if_neg c
theorem moS_ap {s : MS} {j k : Nat} {f : Int → Int} : moS s j f k = if k = j then f else s k := rfl
theorem moS_moS {s : MS} {j : Nat} {f g : Int → Int} : moS (moS s j f) j g = moS s j g := by
  funext k
  by_cases c : k = j
  · rw [c, moS_eq, moS_eq]
  · rw [moS_ne c, moS_ne c, moS_ne c]
theorem moS_self {s : MS} {j : Nat} : moS s j (s j) = s := by
  funext k
  by_cases c : k = j
  · rw [c, moS_eq]
  · rw [moS_ne c]
theorem moS_comm {s : MS} {i j : Nat} {f g : Int → Int} (c : i ≠ j) : moS (moS s i f) j g = moS (moS s j g) i f := by
  funext k
  by_cases c1 : k = j
  · rw [c1, moS_eq, moS_ne (Ne.symm c), moS_eq]
  · by_cases c2 : k = i
    · rw [c2, moS_ne c, moS_eq, moS_eq]
    · rw [moS_ne c1, moS_ne c2, moS_ne c2, moS_ne c1]
def moL : List (Option (Bool × Int)) := [none, some (false, 10), some (false, 10), some (false, 10), some (false, 640), some (false, 640), some (false, 640), some (false, 80), some (true, 80), none, some (false, 128), some (false, 128), some (false, 128), some (false, 129), none, some (false, 8), some (false, 8), none, some (false, 8), some (false, 8), some (false, 8), some (false, 8), some (false, 8), some (false, 8), some (true, 8), some (false, 8), some (false, 8), some (false, 8), some (false, 8), none, some (false, 8), some (false, 8), some (false, 8), some (false, 8), some (false, 8), some (false, 8), none, none, some (false, 32), none]
def moK (k : Nat) : Option (Bool × Int) := (moL[k]?).join
def moF (ad : Nat → Nat) (s : MS) : List Value := [iv (s 0 0), .ref (ad 1), .ref (ad 2), .ref (ad 3), .ref (ad 4), .ref (ad 5), .ref (ad 6), .ref (ad 7), .ref (ad 8), iv (s 9 0), .ref (ad 10), .ref (ad 11), .ref (ad 12), .ref (ad 13), iv (s 14 0), .ref (ad 15), .ref (ad 16), iv (s 17 0), .ref (ad 18), .ref (ad 19), .ref (ad 20), .ref (ad 21), .ref (ad 22), .ref (ad 23), .ref (ad 24), .ref (ad 25), .ref (ad 26), .ref (ad 27), .ref (ad 28), iv (s 29 0), .ref (ad 30), .ref (ad 31), .ref (ad 32), .ref (ad 33), .ref (ad 34), .ref (ad 35), iv (s 36 0), iv (s 37 0), .ref (ad 38), iv (s 39 0)]
def moAE (p : Bool × Int) (f : Int → Int) : AE := if p.1 then aZ p.2 f else aI p.2 f
def moM (ad : Nat → Nat) (s : MS) (k : Nat) : Option AE := if k = 40 then some (oO 6 (moF ad s)) else (moK k).map (fun p => moAE p (s k))
noncomputable def HM (ad : Nat → Nat) (s : MS) : Hp := emb ad (moM ad s)
def IM (ad : Nat → Nat) : Prop := ∀ k k', (k = 40 ∨ moK k ≠ none) → (k' = 40 ∨ moK k' ≠ none) → ad k = ad k' → k = k'
theorem moM_dom {ad : Nat → Nat} {s : MS} {k : Nat} : moM ad s k ≠ none ↔ (k = 40 ∨ moK k ≠ none) := by
  unfold moM
  by_cases c : k = 40
  · rw [if_pos c]
    exact ⟨fun _ => Or.inl c, fun _ z => by cases z⟩
  · rw [if_neg c]
    cases moK k with
    | none => exact ⟨fun z => absurd rfl z, fun z => z.elim (fun z => absurd z c) (fun z => absurd rfl z)⟩
    | some p => exact ⟨fun _ => Or.inr (fun z => by cases z), fun _ z => by cases z⟩
theorem IM.to {ad : Nat → Nat} (I : IM ad) (s : MS) : embI ad (moM ad s) := fun k k' h1 h2 => I k k' (moM_dom.mp h1) (moM_dom.mp h2)
theorem mo_obj {ad : Nat → Nat} {s : MS} (I : IM ad) : HM ad s (ad 40) = some (oO 6 (moF ad s)) := emb_at (I.to s) rfl
theorem mo_at {ad : Nat → Nat} {s : MS} (I : IM ad) {j : Nat} {p : Bool × Int} (hj : moK j = some p) : HM ad s (ad j) = some (moAE p (s j)) := by
  refine emb_at (I.to s) ?_
  unfold moM
  rw [if_neg (fun z => by rw [z] at hj; cases hj), hj]
  rfl
theorem mo_row {ad : Nat → Nat} {s : MS} (I : IM ad) {j : Nat} {n : Int} (hj : moK j = some (false, n)) : HM ad s (ad j) = some (aI n (s j)) := mo_at I hj
theorem mo_boo {ad : Nat → Nat} {s : MS} (I : IM ad) {j : Nat} {n : Int} (hj : moK j = some (true, n)) : HM ad s (ad j) = some (aZ n (s j)) := mo_at I hj
theorem mo_fsame {ad : Nat → Nat} {s s2 : MS} (h : ∀ j, moK j = none → s2 j 0 = s j 0) : moF ad s2 = moF ad s := by
  unfold moF
  rw [h 0 rfl, h 9 rfl, h 14 rfl, h 17 rfl, h 29 rfl, h 36 rfl, h 37 rfl, h 39 rfl]
theorem mo_wr0 {ad : Nat → Nat} {s : MS} (I : IM ad) {j : Nat} {p : Bool × Int} {f : Int → Int} (hj : moK j = some p) : hset (HM ad s) (ad j) (moAE p f) = HM ad (moS s j f) := by
  have h40 : j ≠ 40 := fun z => by rw [z] at hj; cases hj
  refine emb_set (I.to s) (moM_dom.mpr (Or.inr (by rw [hj]; intro z; cases z))) ?_ (fun k2 c => ?_)
  · unfold moM
    rw [if_neg h40, hj, moS_eq]
    rfl
  · unfold moM
    rw [moS_ne c]
    by_cases c2 : k2 = 40
    · rw [if_pos c2, if_pos c2, mo_fsame (fun i hi => by rw [moS_ne (fun z => by rw [z, hj] at hi; cases hi)])]
    · rw [if_neg c2, if_neg c2]
theorem mo_wr {ad : Nat → Nat} {s : MS} (I : IM ad) {j : Nat} {n : Int} {f : Int → Int} (hj : moK j = some (false, n)) : hset (HM ad s) (ad j) (aI n f) = HM ad (moS s j f) := mo_wr0 I hj
theorem mo_wz {ad : Nat → Nat} {s : MS} (I : IM ad) {j : Nat} {n : Int} {f : Int → Int} (hj : moK j = some (true, n)) : hset (HM ad s) (ad j) (aZ n f) = HM ad (moS s j f) := mo_wr0 I hj
theorem mo_wo {ad : Nat → Nat} {s : MS} (I : IM ad) {j : Nat} {z : Int} (hj : j = 0 ∨ j = 9 ∨ j = 14 ∨ j = 17 ∨ j = 29 ∨ j = 36 ∨ j = 37 ∨ j = 39) : hset (HM ad s) (ad 40) (oO 6 ((moF ad s).set j (iv z))) = HM ad (moS s j (fun _ => z)) := by
  refine emb_set (I.to s) (moM_dom.mpr (Or.inl rfl)) ?_ (fun k2 c => ?_)
  · show some (oO 6 (moF ad (moS s j (fun _ => z)))) = _
    rcases hj with rfl | rfl | rfl | rfl | rfl | rfl | rfl | rfl <;> rfl
  · unfold moM
    rw [if_neg c, if_neg c]
    by_cases c2 : k2 = j
    · subst c2
      rcases hj with rfl | rfl | rfl | rfl | rfl | rfl | rfl | rfl <;> rfl
    · rw [moS_ne c2]
section MO
variable {l : Launch} {Γ : GA} {M : MD} {G : GP} {X : String → Hp → Nat → Nat → Prop} {pc : Nat} {L : List (Option Value)} {st : List Value} {k n : Nat} {ad : Nat → Nat} {s : MS}
theorem mo_getf (C : Cx l Γ M G X) (I : IM ad) {idx j : Nat} {v : Value} (r : gk_Fr M.1.cls idx 6 j) (d : decode M.2.1 pc = .ok (.getfield idx, 3)) (hv : (moF ad s)[j]? = some v) (kk : G (pc + 3) L (v :: st) (HM ad s) k n) : G pc L (.ref (ad 40) :: st) (HM ad s) k n := gk_getf C r d (mo_obj I) hv kk
theorem mo_putf (C : Cx l Γ M G X) (I : IM ad) {idx j : Nat} {z : Int} (r : gk_F M.1.cls idx 6 j .int false) (hj : j = 0 ∨ j = 9 ∨ j = 14 ∨ j = 17 ∨ j = 29 ∨ j = 36 ∨ j = 37 ∨ j = 39) (d : decode M.2.1 pc = .ok (.putfield idx, 3)) (kk : G (pc + 3) L st (HM ad (moS s j (fun _ => z))) k n) : G pc L (iv z :: .ref (ad 40) :: st) (HM ad s) k n := gk_putf C r d (mo_obj I) rfl rfl (by rcases hj with rfl | rfl | rfl | rfl | rfl | rfl | rfl | rfl <;> exact Nat.le_of_ble_eq_true rfl) (by rw [mo_wo I hj]; exact kk)
theorem mo_putb (C : Cx l Γ M G X) (I : IM ad) {idx j : Nat} {z : Int} (hz : z = 0 ∨ z = 1) (r : gk_F M.1.cls idx 6 j .boolean false) (hj : j = 0 ∨ j = 9 ∨ j = 14 ∨ j = 17 ∨ j = 29 ∨ j = 36 ∨ j = 37 ∨ j = 39) (d : decode M.2.1 pc = .ok (.putfield idx, 3)) (kk : G (pc + 3) L st (HM ad (moS s j (fun _ => z))) k n) : G pc L (iv z :: .ref (ad 40) :: st) (HM ad s) k n := gk_putf C r d (mo_obj I) (gk_nb hz).1 (gk_nb hz).2 (by rcases hj with rfl | rfl | rfl | rfl | rfl | rfl | rfl | rfl <;> exact Nat.le_of_ble_eq_true rfl) (by rw [mo_wo I hj]; exact kk)
theorem mo_iald (C : Cx l Γ M G X) (I : IM ad) {j : Nat} {z n0 : Int} (hj : moK j = some (false, n0)) (d : decode M.2.1 pc = .ok (.iaload, 1)) (hz : 0 ≤ z ∧ z < n0) (hn : n0 ≤ 2147483647) (kk : G (pc + 1) L (iv (s j z) :: st) (HM ad s) k n) : G pc L (iv z :: .ref (ad j) :: st) (HM ad s) k n := gk_iald C d (mo_row I hj) hz hn kk
theorem mo_zald (C : Cx l Γ M G X) (I : IM ad) {j : Nat} {z n0 : Int} (hj : moK j = some (true, n0)) (d : decode M.2.1 pc = .ok (.baload, 1)) (hz : 0 ≤ z ∧ z < n0) (hn : n0 ≤ 2147483647) (kk : G (pc + 1) L (iv (s j z) :: st) (HM ad s) k n) : G pc L (iv z :: .ref (ad j) :: st) (HM ad s) k n := gk_zald C d (mo_boo I hj) hz hn kk
theorem mo_iast (C : Cx l Γ M G X) (I : IM ad) {j : Nat} {x z n0 : Int} (hj : moK j = some (false, n0)) (d : decode M.2.1 pc = .ok (.iastore, 1)) (hz : 0 ≤ z ∧ z < n0) (hn : n0 ≤ 2147483647) (kk : G (pc + 1) L st (HM ad (moS s j (gupd (s j) z x))) k n) : G pc L (iv x :: iv z :: .ref (ad j) :: st) (HM ad s) k n := gk_iast C d (mo_row I hj) hz hn (by rw [mo_wr I hj]; exact kk)
theorem mo_zast (C : Cx l Γ M G X) (I : IM ad) {j : Nat} {x z n0 : Int} (hx2 : x = 0 ∨ x = 1) (hj : moK j = some (true, n0)) (d : decode M.2.1 pc = .ok (.bastore, 1)) (hz : 0 ≤ z ∧ z < n0) (hn : n0 ≤ 2147483647) (kk : G (pc + 1) L st (HM ad (moS s j (gupd (s j) z x))) k n) : G pc L (iv x :: iv z :: .ref (ad j) :: st) (HM ad s) k n := gk_zast C hx2 d (mo_boo I hj) hz hn (by rw [mo_wz I hj]; exact kk)
end MO
