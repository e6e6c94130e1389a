/-! what the class wants of memories, bits and floats -/
/-- the heap that holds at ad k what the memory m holds at k -/
noncomputable def emb {K : Type} (ad : K → Nat) (m : K → Option AE) : Hp := fun q => @dite _ (∃ k, m k ≠ none ∧ ad k = q) (Classical.propDecidable _) (fun c => m (Classical.choose c)) (fun _ => none)
def embI {K : Type} (ad : K → Nat) (m : K → Option AE) : Prop := ∀ k k', m k ≠ none → m k' ≠ none → ad k = ad k' → k = k'
theorem emb_at {K : Type} {ad : K → Nat} {m : K → Option AE} (I : embI ad m) {k : K} {e : AE} (hk : m k = some e) : emb ad m (ad k) = some e := by
  have hk1 : m k ≠ none := by rw [hk]; intro z; cases z
  have c : ∃ k2, m k2 ≠ none ∧ ad k2 = ad k := ⟨k, hk1, rfl⟩
  unfold emb
  rw [dif_pos c]
  have h2 := Classical.choose_spec c
  rw [I _ _ h2.1 hk1 h2.2, hk]
theorem emb_no {K : Type} {ad : K → Nat} {m : K → Option AE} {q : Nat} (hq : ∀ k, m k ≠ none → ad k ≠ q) : emb ad m q = none := by
  unfold emb
  rw [dif_neg]
  rintro ⟨k, h1, h2⟩
  exact hq k h1 h2
theorem emb_not {K : Type} {ad : K → Nat} {m : K → Option AE} {q : Nat} (I : embI ad m) (hq : emb ad m q = none) {k : K} (hk : m k ≠ none) : ad k ≠ q := by
  intro z
  cases e : m k with
  | none => exact hk e
  | some w =>
    have h1 := emb_at I e
    rw [z, hq] at h1
    cases h1
theorem emb_get {K : Type} {ad : K → Nat} {m : K → Option AE} {q : Nat} {e : AE} (h : emb ad m q = some e) : ∃ k, m k = some e ∧ ad k = q := by
  by_cases c : ∃ k, m k ≠ none ∧ ad k = q
  · unfold emb at h
    rw [dif_pos c] at h
    exact ⟨_, h, (Classical.choose_spec c).2⟩
  · unfold emb at h
    rw [dif_neg c] at h
    cases h
theorem emb_set {K : Type} {ad : K → Nat} {m m2 : K → Option AE} {k : K} {e : AE} (I : embI ad m) (hk : m k ≠ none) (h2 : m2 k = some e) (h3 : ∀ k2, k2 ≠ k → m2 k2 = m k2) : hset (emb ad m) (ad k) e = emb ad m2 := by
  have hd : ∀ k2, m2 k2 ≠ none ↔ m k2 ≠ none := by
    intro k2
    by_cases c : k2 = k
    · subst c
      rw [h2]
      exact ⟨fun _ => hk, fun _ z => by cases z⟩
    · rw [h3 k2 c]
  have I2 : embI ad m2 := fun a b ha hb => I a b ((hd a).mp ha) ((hd b).mp hb)
  funext q
  by_cases c : q = ad k
  · rw [c, hset_eq, emb_at I2 h2]
  · rw [hset_ne c]
    cases e1 : emb ad m q with
    | none => exact (emb_no fun k2 hk2 => emb_not I e1 ((hd k2).mp hk2)).symm
    | some w =>
      obtain ⟨k2, h4, h5⟩ := emb_get e1
      have h6 : k2 ≠ k := fun z => c (by rw [← h5, z])
      rw [← h5, emb_at I2 ((h3 k2 h6).trans h4)]
noncomputable def adset {K : Type} (ad : K → Nat) (k : K) (q : Nat) : K → Nat := fun k2 => @ite _ (k2 = k) (Classical.propDecidable _) q (ad k2)
theorem adset_eq {K : Type} {ad : K → Nat} {k : K} {q : Nat} : adset ad k q k = q := if_pos rfl
theorem adset_ne {K : Type} {ad : K → Nat} {k k2 : K} {q : Nat} (c : k2 ≠ k) : adset ad k q k2 = ad k2 := if_neg c
theorem emb_new {K : Type} {ad : K → Nat} {m m2 : K → Option AE} {k : K} {e : AE} {q : Nat} (I : embI ad m) (hk : m k = none) (hq : emb ad m q = none) (h2 : m2 k = some e) (h3 : ∀ k2, k2 ≠ k → m2 k2 = m k2) : hset (emb ad m) q e = emb (adset ad k q) m2 ∧ embI (adset ad k q) m2 := by
  have I2 : embI (adset ad k q) m2 := by
    intro a b ha hb hab
    by_cases c : a = k
    · by_cases c2 : b = k
      · rw [c, c2]
      · rw [c, adset_eq, adset_ne c2] at hab
        rw [h3 b c2] at hb
        exact absurd hab.symm (emb_not I hq hb)
    · rw [h3 a c] at ha
      by_cases c2 : b = k
      · rw [c2, adset_eq, adset_ne c] at hab
        exact absurd hab (emb_not I hq ha)
      · rw [h3 b c2] at hb
        rw [adset_ne c, adset_ne c2] at hab
        exact I a b ha hb hab
  refine ⟨?_, I2⟩
  funext x
  by_cases c : x = q
  · have h4 := emb_at I2 h2
    rw [adset_eq] at h4
    rw [c, hset_eq, h4]
  · rw [hset_ne c]
    cases e1 : emb ad m x with
    | none =>
      refine (emb_no fun k2 hk2 => ?_).symm
      by_cases c2 : k2 = k
      · rw [c2, adset_eq]; exact Ne.symm c
      · rw [adset_ne c2]
        rw [h3 k2 c2] at hk2
        exact emb_not I e1 hk2
    | some w =>
      obtain ⟨k2, h4, h5⟩ := emb_get e1
      have h6 : k2 ≠ k := fun z => by rw [z, hk] at h4; cases h4
      have h7 := emb_at I2 ((h3 k2 h6).trans h4)
      rw [adset_ne h6, h5] at h7
      rw [h7]
def isMin (m rain heat : Int) : Prop := (1 ≤ m ∧ m ≤ 120) ∧ (0 ≤ rain ∧ rain ≤ 9) ∧ (0 ≤ heat ∧ heat ≤ 40)
theorem pins_bd {p lo hi : Int} (hp : lo ≤ p ∧ p ≤ hi) : ∀ (c : Nat) (f : Int → Int), (∀ i, lo ≤ f i ∧ f i ≤ hi) → ∀ i, lo ≤ pins p c f i ∧ pins p c f i ≤ hi
  | 0, f, h, i => by
    show lo ≤ gupd f 0 p i ∧ gupd f 0 p i ≤ hi
    by_cases e : i = 0
    · rw [e, gupd_eq]; exact hp
    · rw [gupd_ne e]; exact h i
  | c + 1, f, h, i => by
    unfold pins
    split
    · refine pins_bd hp c _ (fun j => ?_) i
      by_cases e : j = (c : Int) + 1
      · rw [e, gupd_eq]; exact h _
      · rw [gupd_ne e]; exact h j
    · by_cases e : i = (c : Int) + 1
      · rw [e, gupd_eq]; exact hp
      · rw [gupd_ne e]; exact h i
section GB
variable {l : Launch} {Γ : GA} {M : MD} {G : GP} {X : String → Hp → Nat → Nat → Prop} {pc : Nat} {L : List (Option Value)} {st : List Value} {h : Hp} {k n : Nat}
theorem gk_i2f (C : Cx l Γ M G X) {a : Int} (d : decode M.2.1 pc = .ok (.i2f, 1)) (kk : G (pc + 1) L (.float (FP.i2f (Int32.ofInt a)) :: st) h k n) : G pc L (iv a :: st) h k n := by
  obtain ⟨p, e, s, m, args, below, meth, c, A, Q, ⟨hx, hb, hml, hown, hts, hnm, hlk, hW, hA0⟩, hX, rfl⟩ := C
  intro H locs ls hV hA hS hL
  exact lv_i2f hx hb d (kk H locs ls hV hA hS hL)
theorem gk_fdiv (C : Cx l Γ M G X) {x y : UInt32} (d : decode M.2.1 pc = .ok (.fdiv, 1)) (hne : vf_n32 (FP.fdiv x y)) (kk : G (pc + 1) L (.float (FP.fdiv x y) :: st) h k n) : G pc L (.float y :: .float x :: st) h k n := by
  obtain ⟨p, e, s, m, args, below, meth, c, A, Q, ⟨hx, hb, hml, hown, hts, hnm, hlk, hW, hA0⟩, hX, rfl⟩ := C
  intro H locs ls hV hA hS hL
  exact lv_fdiv hx hb d hne (kk H locs ls hV hA hS hL)
end GB
def btF (z : Int) : UInt32 := FP.fdiv (FP.i2f (Int32.ofInt (480 * z))) (1155031040 : UInt32)
theorem btF_n0 : ∀ i : Fin 1001, btF (i.val : Int) &&& 0x7fffffff ≤ 0x7f800000 := by decide +kernel
theorem btF_n {z : Int} (h : 0 ≤ z ∧ z ≤ 1000) : vf_n32 (FP.fdiv (FP.i2f (Int32.ofInt (480 * z))) (1155031040 : UInt32)) := by
  have h1 := btF_n0 ⟨z.toNat, by omega⟩
  have e : ((⟨z.toNat, by omega⟩ : Fin 1001).val : Int) = z := by show (z.toNat : Int) = z; omega
  rw [e] at h1
  exact h1
def isAbs (a : Int) : Int := if a < 0 then -a else a
theorem gi_cast {G : GP} {pc k n : Nat} {L : List (Option Value)} {st : List Value} {h h2 : Hp} (e : h = h2) (g : G pc L st h2 k n) : G pc L st h k n := by rw [e]; exact g

