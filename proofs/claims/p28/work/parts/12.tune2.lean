/-! the tunes: what is played, asked -/
/-- the i-th clash: counted from the second note on -/
def clash1 (A B : Int → Int) (i : Int) : Int := if 1 ≤ i ∧ A i = 0 ∧ B i = B (i - 1) then 1 else 0
/-- the longest row of heights, one behind the other, that ends at k in A and at j in B -/
def suf (A B : Int → Int) : Nat → Nat → Nat
  | 0, _ => 0
  | _ + 1, 0 => 0
  | k + 1, j + 1 => if A (k : Int) = B (j : Int) then suf A B k j + 1 else 0
theorem suf_le1 (A B : Int → Int) : ∀ k j : Nat, suf A B k j ≤ k
  | 0, _ => Nat.le_refl _
  | _ + 1, 0 => Nat.zero_le _
  | k + 1, j + 1 => by
    unfold suf
    split
    · exact Nat.succ_le_succ (suf_le1 A B k j)
    · exact Nat.zero_le _
theorem suf_le2 (A B : Int → Int) : ∀ k j : Nat, suf A B k j ≤ j
  | 0, _ => Nat.zero_le _
  | _ + 1, 0 => Nat.le_refl _
  | k + 1, j + 1 => by
    unfold suf
    split
    · exact Nat.succ_le_succ (suf_le2 A B k j)
    · exact Nat.zero_le _
/-- r heights from p on in A are those from q on in B -/
def mtch (A B : Int → Int) (p q r : Nat) : Prop := ∀ t : Nat, t < r → A ((p : Int) + t) = B ((q : Int) + t)
theorem suf_mtch (A B : Int → Int) : ∀ (r p q : Nat), r ≤ suf A B (p + r) (q + r) ↔ mtch A B p q r
  | 0, p, q => ⟨fun _ t h => absurd h (Nat.not_lt_zero t), fun _ => Nat.zero_le _⟩
  | r + 1, p, q => by
    have ih := suf_mtch A B r p q
    show r + 1 ≤ suf A B (p + r + 1) (q + r + 1) ↔ _
    unfold suf
    constructor
    · intro h
      by_cases c : A ((p + r : Nat) : Int) = B ((q + r : Nat) : Int)
      · rw [if_pos c] at h
        have h2 := ih.mp (by omega)
        intro t ht
        by_cases e : t = r
        · subst e
          have e1 : ((p : Int) + (t : Int)) = ((p + t : Nat) : Int) := by omega
          have e2 : ((q : Int) + (t : Int)) = ((q + t : Nat) : Int) := by omega
          rw [e1, e2]
          exact c
        · exact h2 t (by omega)
      · rw [if_neg c] at h
        omega
    · intro h
      have c := h r (by omega)
      have e1 : ((p : Int) + (r : Int)) = ((p + r : Nat) : Int) := by omega
      have e2 : ((q : Int) + (r : Int)) = ((q + r : Nat) : Int) := by omega
      rw [e1, e2] at c
      rw [if_pos c]
      have h2 := ih.mpr (fun t ht => h t (by omega))
      omega
/-- how alike two rows are: m is the greatest -/
def isAlike (A : Int → Int) (na : Nat) (B : Int → Int) (nb : Nat) (m : Nat) : Prop :=
  (∀ k j : Nat, k ≤ na → j ≤ nb → suf A B k j ≤ m) ∧ (m = 0 ∨ ∃ k j : Nat, k ≤ na ∧ j ≤ nb ∧ suf A B k j = m)
theorem isAlike_one {A B : Int → Int} {na nb m m2 : Nat} (h : isAlike A na B nb m) (h2 : isAlike A na B nb m2) : m = m2 := by
  have key : ∀ x y : Nat, isAlike A na B nb x → isAlike A na B nb y → x ≤ y := by
    intro x y hx hy
    rcases hx.2 with e | ⟨k, j, h1, h2, e⟩
    · omega
    · rw [← e]; exact hy.1 k j h1 h2
  exact Nat.le_antisymm (key _ _ h h2) (key _ _ h2 h)

set_option maxRecDepth 100000 in
set_option maxHeartbeats 4000000 in
theorem c_X3_ofPlayed {l : Launch} {Γ : GA} (hfl : l.stackTraces = false) {h : Hp} {a hA lA gA pA nA : Nat} {nb kd ou : Int} {wc fo pc pl : Nat} (ha : h a = some (oTu nb kd hA lA gA pA nA wc fo ou pc pl)) {fn : Int → Int} (hN : h nA = some (aI 128 fn)) (hpl : pl ≤ 128) (hfn : ∀ i : Int, 0 ≤ i → i < pl → 0 ≤ fn i ∧ fn i < 64) {rA : Nat} {g : Int → Int} (hR : h rA = some (aI 64 g)) {z : Int} (hz : 0 ≤ z ∧ z < pl) : Ct l Γ m_X3_ofPlayed [.ref a, .ref rA, iv z] h (fun v h' => v = some (iv (g (fn z))) ∧ h' = h) (fun _ _ => False) := by
  have hw := hfn z hz.1 hz.2
  refine Ct.intro hfl (by decide +kernel) rfl (Nat.le_of_ble_eq_true rfl) ?_
  intro G C R T
  show G 0 [some (.ref a), some (.ref rA), some (iv z), none] [] h 0 0
  refine gk_iload_n C dX3_ofPlayed_0 rfl ?_
  refine gk_if_lt C (tgt := 21) (by omega) dX3_ofPlayed_1 (by decide) (fun c_1 => ?_) (fun c_1 => ?_)
  · omega
  · refine gk_iload_n C dX3_ofPlayed_4 rfl ?_
    refine gk_aload_n C dX3_ofPlayed_5 rfl ?_
    refine gk_getf C f_X3_66.r dX3_ofPlayed_6 (by (try simp only [hset_set]); first | assumption | exact hset_eq | (refine (hset_ne (by first | assumption | exact Ne.symm (by assumption))).trans ?_; first | assumption | exact hset_eq | (refine (hset_ne (by first | assumption | exact Ne.symm (by assumption))).trans ?_; first | assumption | exact hset_eq | (refine (hset_ne (by first | assumption | exact Ne.symm (by assumption))).trans ?_; first | assumption | exact hset_eq)))) (by rfl) ?_
    refine gk_icmp_ge C (tgt := 21) (by omega) (by omega) dX3_ofPlayed_9 (by decide) (fun c_9 => ?_) (fun c_9 => ?_)
    · omega
    · refine gk_iload_n C dX3_ofPlayed_12 rfl ?_
      refine gk_aload_n C dX3_ofPlayed_13 rfl ?_
      refine gk_getf C f_X3_31.r dX3_ofPlayed_14 (by (try simp only [hset_set]); first | assumption | exact hset_eq | (refine (hset_ne (by first | assumption | exact Ne.symm (by assumption))).trans ?_; first | assumption | exact hset_eq | (refine (hset_ne (by first | assumption | exact Ne.symm (by assumption))).trans ?_; first | assumption | exact hset_eq | (refine (hset_ne (by first | assumption | exact Ne.symm (by assumption))).trans ?_; first | assumption | exact hset_eq)))) (by rfl) ?_
      refine gk_alenI C dX3_ofPlayed_17 (by (try simp only [hset_set]); first | assumption | exact hset_eq | (refine (hset_ne (by first | assumption | exact Ne.symm (by assumption))).trans ?_; first | assumption | exact hset_eq | (refine (hset_ne (by first | assumption | exact Ne.symm (by assumption))).trans ?_; first | assumption | exact hset_eq | (refine (hset_ne (by first | assumption | exact Ne.symm (by assumption))).trans ?_; first | assumption | exact hset_eq)))) (by omega) ?_
      refine gk_icmp_lt C (tgt := 23) (by omega) (by omega) dX3_ofPlayed_18 (by decide) (fun c_18 => ?_) (fun c_18 => ?_)
      · refine gk_aload_n C dX3_ofPlayed_23 rfl ?_
        refine gk_getf C f_X3_31.r dX3_ofPlayed_24 (by (try simp only [hset_set]); first | assumption | exact hset_eq | (refine (hset_ne (by first | assumption | exact Ne.symm (by assumption))).trans ?_; first | assumption | exact hset_eq | (refine (hset_ne (by first | assumption | exact Ne.symm (by assumption))).trans ?_; first | assumption | exact hset_eq | (refine (hset_ne (by first | assumption | exact Ne.symm (by assumption))).trans ?_; first | assumption | exact hset_eq)))) (by rfl) ?_
        refine gk_iload_n C dX3_ofPlayed_27 rfl ?_
        refine gk_iald C dX3_ofPlayed_28 (by (try simp only [hset_set]); first | assumption | exact hset_eq | (refine (hset_ne (by first | assumption | exact Ne.symm (by assumption))).trans ?_; first | assumption | exact hset_eq | (refine (hset_ne (by first | assumption | exact Ne.symm (by assumption))).trans ?_; first | assumption | exact hset_eq | (refine (hset_ne (by first | assumption | exact Ne.symm (by assumption))).trans ?_; first | assumption | exact hset_eq)))) (by omega) (by omega) ?_
        refine gk_istore_n_3 C rfl (by decide) dX3_ofPlayed_29 ?_
        refine gk_iload_n C dX3_ofPlayed_30 rfl ?_
        refine gk_if_lt C (tgt := 46) (by omega) dX3_ofPlayed_31 (by decide) (fun c_31 => ?_) (fun c_31 => ?_)
        · omega
        · refine gk_iload_n C dX3_ofPlayed_34 rfl ?_
          refine gk_aload_n C dX3_ofPlayed_35 rfl ?_
          refine gk_alenI C dX3_ofPlayed_36 (by (try simp only [hset_set]); first | assumption | exact hset_eq | (refine (hset_ne (by first | assumption | exact Ne.symm (by assumption))).trans ?_; first | assumption | exact hset_eq | (refine (hset_ne (by first | assumption | exact Ne.symm (by assumption))).trans ?_; first | assumption | exact hset_eq | (refine (hset_ne (by first | assumption | exact Ne.symm (by assumption))).trans ?_; first | assumption | exact hset_eq)))) (by omega) ?_
          refine gk_icmp_ge C (tgt := 46) (by omega) (by omega) dX3_ofPlayed_37 (by decide) (fun c_37 => ?_) (fun c_37 => ?_)
          · omega
          · refine gk_aload_n C dX3_ofPlayed_40 rfl ?_
            refine gk_iload_n C dX3_ofPlayed_41 rfl ?_
            refine gk_iald C dX3_ofPlayed_42 (by (try simp only [hset_set]); first | assumption | exact hset_eq | (refine (hset_ne (by first | assumption | exact Ne.symm (by assumption))).trans ?_; first | assumption | exact hset_eq | (refine (hset_ne (by first | assumption | exact Ne.symm (by assumption))).trans ?_; first | assumption | exact hset_eq | (refine (hset_ne (by first | assumption | exact Ne.symm (by assumption))).trans ?_; first | assumption | exact hset_eq)))) (by omega) (by omega) ?_
            refine gk_goto C (tgt := 47) dX3_ofPlayed_43 (by decide) ?_
            refine (R _ _ _ _ _ (by decide) (by decide)).1 _ rfl dX3_ofPlayed_47 ?_
            exact ⟨rfl, rfl⟩
      · omega

set_option maxRecDepth 100000 in
set_option maxHeartbeats 4000000 in
theorem c_X3_heightAt {l : Launch} {Γ : GA} (hfl : l.stackTraces = false) {h : Hp} {a hA lA gA pA nA : Nat} {nb kd ou : Int} {wc fo pc pl : Nat} (ha : h a = some (oTu nb kd hA lA gA pA nA wc fo ou pc pl)) {fn : Int → Int} (hN : h nA = some (aI 128 fn)) (hpl : pl ≤ 128) (hfn : ∀ i : Int, 0 ≤ i → i < pl → 0 ≤ fn i ∧ fn i < 64) {fh : Int → Int} (hH : h hA = some (aI 64 fh)) {z : Int} (hz : 0 ≤ z ∧ z < pl) : Ct l Γ m_X3_heightAt [.ref a, iv z] h (fun v h' => v = some (iv (fh (fn z))) ∧ h' = h) (fun _ _ => False) := by
  refine Ct.intro hfl (by decide +kernel) rfl (Nat.le_of_ble_eq_true rfl) ?_
  intro G C R T
  show G 0 [some (.ref a), some (iv z)] [] h 0 0
  refine gk_aload_n C dX3_heightAt_0 rfl ?_
  refine gk_aload_n C dX3_heightAt_1 rfl ?_
  refine gk_getf C f_X3_18.r dX3_heightAt_2 (by (try simp only [hset_set]); first | assumption | exact hset_eq | (refine (hset_ne (by first | assumption | exact Ne.symm (by assumption))).trans ?_; first | assumption | exact hset_eq | (refine (hset_ne (by first | assumption | exact Ne.symm (by assumption))).trans ?_; first | assumption | exact hset_eq | (refine (hset_ne (by first | assumption | exact Ne.symm (by assumption))).trans ?_; first | assumption | exact hset_eq)))) (by rfl) ?_
  refine gk_iload_n C dX3_heightAt_5 rfl ?_
  refine gk_callV C o_X3_ofPlayed k_X3_69 dX3_heightAt_6 (c_X3_ofPlayed hfl ha hN hpl hfn hH hz) (by (try simp only [hset_set]); first | assumption | exact hset_eq | (refine (hset_ne (by first | assumption | exact Ne.symm (by assumption))).trans ?_; first | assumption | exact hset_eq | (refine (hset_ne (by first | assumption | exact Ne.symm (by assumption))).trans ?_; first | assumption | exact hset_eq | (refine (hset_ne (by first | assumption | exact Ne.symm (by assumption))).trans ?_; first | assumption | exact hset_eq)))) rfl rfl rfl (by decide) (by decide) (by exact Nat.le_of_ble_eq_true rfl) (fun _ _ z => z.elim) (fun v_6 h_6 p_6 => ?_)
  obtain ⟨rfl, rfl⟩ := p_6
  dsimp only [gk_push]
  refine (R _ _ _ _ _ (by decide) (by decide)).1 _ rfl dX3_heightAt_9 ?_
  exact ⟨rfl, rfl⟩

set_option maxRecDepth 100000 in
set_option maxHeartbeats 4000000 in
theorem c_X3_graceAt {l : Launch} {Γ : GA} (hfl : l.stackTraces = false) {h : Hp} {a hA lA gA pA nA : Nat} {nb kd ou : Int} {wc fo pc pl : Nat} (ha : h a = some (oTu nb kd hA lA gA pA nA wc fo ou pc pl)) {fn : Int → Int} (hN : h nA = some (aI 128 fn)) (hpl : pl ≤ 128) (hfn : ∀ i : Int, 0 ≤ i → i < pl → 0 ≤ fn i ∧ fn i < 64) {fg : Int → Int} (hG : h gA = some (aI 64 fg)) {z : Int} (hz : 0 ≤ z ∧ z < pl) : Ct l Γ m_X3_graceAt [.ref a, iv z] h (fun v h' => v = some (iv (fg (fn z))) ∧ h' = h) (fun _ _ => False) := by
  refine Ct.intro hfl (by decide +kernel) rfl (Nat.le_of_ble_eq_true rfl) ?_
  intro G C R T
  show G 0 [some (.ref a), some (iv z)] [] h 0 0
  refine gk_aload_n C dX3_graceAt_0 rfl ?_
  refine gk_aload_n C dX3_graceAt_1 rfl ?_
  refine gk_getf C f_X3_25.r dX3_graceAt_2 (by (try simp only [hset_set]); first | assumption | exact hset_eq | (refine (hset_ne (by first | assumption | exact Ne.symm (by assumption))).trans ?_; first | assumption | exact hset_eq | (refine (hset_ne (by first | assumption | exact Ne.symm (by assumption))).trans ?_; first | assumption | exact hset_eq | (refine (hset_ne (by first | assumption | exact Ne.symm (by assumption))).trans ?_; first | assumption | exact hset_eq)))) (by rfl) ?_
  refine gk_iload_n C dX3_graceAt_5 rfl ?_
  refine gk_callV C o_X3_ofPlayed k_X3_69 dX3_graceAt_6 (c_X3_ofPlayed hfl ha hN hpl hfn hG hz) (by (try simp only [hset_set]); first | assumption | exact hset_eq | (refine (hset_ne (by first | assumption | exact Ne.symm (by assumption))).trans ?_; first | assumption | exact hset_eq | (refine (hset_ne (by first | assumption | exact Ne.symm (by assumption))).trans ?_; first | assumption | exact hset_eq | (refine (hset_ne (by first | assumption | exact Ne.symm (by assumption))).trans ?_; first | assumption | exact hset_eq)))) rfl rfl rfl (by decide) (by decide) (by exact Nat.le_of_ble_eq_true rfl) (fun _ _ z => z.elim) (fun v_6 h_6 p_6 => ?_)
  obtain ⟨rfl, rfl⟩ := p_6
  dsimp only [gk_push]
  refine (R _ _ _ _ _ (by decide) (by decide)).1 _ rfl dX3_graceAt_9 ?_
  exact ⟨rfl, rfl⟩

set_option maxRecDepth 100000 in
set_option maxHeartbeats 4000000 in
theorem c_X3_unitsAhead {l : Launch} {Γ : GA} (hfl : l.stackTraces = false) {h : Hp} {a hA lA gA pA nA : Nat} {nb kd ou : Int} {wc fo pc pl : Nat} (ha : h a = some (oTu nb kd hA lA gA pA nA wc fo ou pc pl)) {fn : Int → Int} (hN : h nA = some (aI 128 fn)) (hpl : pl ≤ 128) (hfn : ∀ i : Int, 0 ≤ i → i < pl → 0 ≤ fn i ∧ fn i < 64) {fl : Int → Int} (hL : h lA = some (aI 64 fl)) {z : Nat} (hz : z ≤ pl) : Ct l Γ m_X3_unitsAhead [.ref a, iv (z : Int)] h (fun v h' => v = some (iv (usum (fun j => fl (fn j)) z)) ∧ h' = h) (fun _ _ => False) := by
  refine Ct.intro hfl (by decide +kernel) rfl (Nat.le_of_ble_eq_true rfl) ?_
  intro G C R T
  show G 0 [some (.ref a), some (iv (z : Int)), none, none] [] h 0 0
  refine gk_iconst C dX3_unitsAhead_0 ?_
  refine gk_istore_n_2 C rfl (by decide) dX3_unitsAhead_1 ?_
  refine gk_iconst C dX3_unitsAhead_2 ?_
  refine gk_istore_n_3 C rfl (by decide) dX3_unitsAhead_3 ?_
  have key : ∀ (n i : Nat), z - i < n → i ≤ z → G 4 [some (.ref a), some (iv (z : Int)), some (iv (usum (fun j => fl (fn j)) i)), some (iv (i : Int))] [] h 0 0 := by
    intro n
    induction n with
    | zero => intro i h1; omega
    | succ n ih =>
      intro i hn hi
      refine gk_iload_n C dX3_unitsAhead_4 rfl ?_
      refine gk_iload_n C dX3_unitsAhead_5 rfl ?_
      refine gk_icmp_ge C (tgt := 35) (by omega) (by omega) dX3_unitsAhead_6 (by decide) (fun c_6 => ?_) (fun c_6 => ?_)
      · refine gk_iload_n C dX3_unitsAhead_35 rfl ?_
        refine (R _ _ _ _ _ (by decide) (by decide)).1 _ rfl dX3_unitsAhead_36 ?_
        have e : i = z := by omega
        rw [e]
        exact ⟨rfl, rfl⟩
      · refine gk_iload_n C dX3_unitsAhead_9 rfl ?_
        refine gk_aload_n C dX3_unitsAhead_10 rfl ?_
        refine gk_getf C f_X3_66.r dX3_unitsAhead_11 (by (try simp only [hset_set]); first | assumption | exact hset_eq | (refine (hset_ne (by first | assumption | exact Ne.symm (by assumption))).trans ?_; first | assumption | exact hset_eq | (refine (hset_ne (by first | assumption | exact Ne.symm (by assumption))).trans ?_; first | assumption | exact hset_eq | (refine (hset_ne (by first | assumption | exact Ne.symm (by assumption))).trans ?_; first | assumption | exact hset_eq)))) (by rfl) ?_
        refine gk_icmp_ge C (tgt := 35) (by omega) (by omega) dX3_unitsAhead_14 (by decide) (fun c_14 => ?_) (fun c_14 => ?_)
        · omega
        · refine gk_iload_n C dX3_unitsAhead_17 rfl ?_
          refine gk_aload_n C dX3_unitsAhead_18 rfl ?_
          refine gk_aload_n C dX3_unitsAhead_19 rfl ?_
          refine gk_getf C f_X3_22.r dX3_unitsAhead_20 (by (try simp only [hset_set]); first | assumption | exact hset_eq | (refine (hset_ne (by first | assumption | exact Ne.symm (by assumption))).trans ?_; first | assumption | exact hset_eq | (refine (hset_ne (by first | assumption | exact Ne.symm (by assumption))).trans ?_; first | assumption | exact hset_eq | (refine (hset_ne (by first | assumption | exact Ne.symm (by assumption))).trans ?_; first | assumption | exact hset_eq)))) (by rfl) ?_
          refine gk_iload_n C dX3_unitsAhead_23 rfl ?_
          refine gk_callV C o_X3_ofPlayed k_X3_69 dX3_unitsAhead_24 (c_X3_ofPlayed hfl ha hN hpl hfn hL (z := (i : Int)) (by omega)) (by (try simp only [hset_set]); first | assumption | exact hset_eq | (refine (hset_ne (by first | assumption | exact Ne.symm (by assumption))).trans ?_; first | assumption | exact hset_eq | (refine (hset_ne (by first | assumption | exact Ne.symm (by assumption))).trans ?_; first | assumption | exact hset_eq | (refine (hset_ne (by first | assumption | exact Ne.symm (by assumption))).trans ?_; first | assumption | exact hset_eq)))) rfl rfl rfl (by decide) (by decide) (by exact Nat.le_of_ble_eq_true rfl) (fun _ _ z => z.elim) (fun v_24 h_24 p_24 => ?_)
          obtain ⟨rfl, rfl⟩ := p_24
          dsimp only [gk_push]
          refine gk_iadd C dX3_unitsAhead_27 ?_
          refine gk_istore_n_2 C rfl (by decide) dX3_unitsAhead_28 ?_
          refine gk_iinc_3 C rfl (by decide) dX3_unitsAhead_29 ?_
          refine gk_goto C (tgt := 4) dX3_unitsAhead_32 (by decide) ?_
          exact ih (i + 1) (by omega) (by omega)
  exact key (z + 1) 0 (by omega) (by omega)

set_option maxRecDepth 100000 in
set_option maxHeartbeats 4000000 in
theorem c_X3_unitsPlayed {l : Launch} {Γ : GA} (hfl : l.stackTraces = false) {h : Hp} {a hA lA gA pA nA : Nat} {nb kd ou : Int} {wc fo pc pl : Nat} (ha : h a = some (oTu nb kd hA lA gA pA nA wc fo ou pc pl)) {fn : Int → Int} (hN : h nA = some (aI 128 fn)) (hpl : pl ≤ 128) (hfn : ∀ i : Int, 0 ≤ i → i < pl → 0 ≤ fn i ∧ fn i < 64) {fl : Int → Int} (hL : h lA = some (aI 64 fl)) : Ct l Γ m_X3_unitsPlayed [.ref a] h (fun v h' => v = some (iv (usum (fun j => fl (fn j)) pl)) ∧ h' = h) (fun _ _ => False) := by
  refine Ct.intro hfl (by decide +kernel) rfl (Nat.le_of_ble_eq_true rfl) ?_
  intro G C R T
  show G 0 [some (.ref a)] [] h 0 0
  refine gk_aload_n C dX3_unitsPlayed_0 rfl ?_
  refine gk_aload_n C dX3_unitsPlayed_1 rfl ?_
  refine gk_getf C f_X3_66.r dX3_unitsPlayed_2 (by (try simp only [hset_set]); first | assumption | exact hset_eq | (refine (hset_ne (by first | assumption | exact Ne.symm (by assumption))).trans ?_; first | assumption | exact hset_eq | (refine (hset_ne (by first | assumption | exact Ne.symm (by assumption))).trans ?_; first | assumption | exact hset_eq | (refine (hset_ne (by first | assumption | exact Ne.symm (by assumption))).trans ?_; first | assumption | exact hset_eq)))) (by rfl) ?_
  refine gk_callV C o_X3_unitsAhead k_X3_73 dX3_unitsPlayed_5 (c_X3_unitsAhead hfl ha hN hpl hfn hL (Nat.le_refl _)) (by (try simp only [hset_set]); first | assumption | exact hset_eq | (refine (hset_ne (by first | assumption | exact Ne.symm (by assumption))).trans ?_; first | assumption | exact hset_eq | (refine (hset_ne (by first | assumption | exact Ne.symm (by assumption))).trans ?_; first | assumption | exact hset_eq | (refine (hset_ne (by first | assumption | exact Ne.symm (by assumption))).trans ?_; first | assumption | exact hset_eq)))) rfl rfl rfl (by decide) (by decide) (by exact Nat.le_of_ble_eq_true rfl) (fun _ _ z => z.elim) (fun v_5 h_5 p_5 => ?_)
  obtain ⟨rfl, rfl⟩ := p_5
  dsimp only [gk_push]
  refine (R _ _ _ _ _ (by decide) (by decide)).1 _ rfl dX3_unitsPlayed_8 ?_
  exact ⟨rfl, rfl⟩

set_option maxRecDepth 100000 in
set_option maxHeartbeats 4000000 in
theorem c_X3_tellPlayed {l : Launch} {Γ : GA} (hfl : l.stackTraces = false) {h : Hp} {a hA lA gA pA nA : Nat} {nb kd ou : Int} {wc fo pc pl : Nat} (ha : h a = some (oTu nb kd hA lA gA pA nA wc fo ou pc pl)) {fn : Int → Int} (hN : h nA = some (aI 128 fn)) (hpl : pl ≤ 128) (hfn : ∀ i : Int, 0 ≤ i → i < pl → 0 ≤ fn i ∧ fn i < 64) {fh : Int → Int} (hH : h hA = some (aI 64 fh)) {fl : Int → Int} (hL : h lA = some (aI 64 fl)) {fg : Int → Int} (hG : h gA = some (aI 64 fg)) {fp : Int → Int} (hP : h pA = some (aI 64 fp)) {z : Nat} (hz : z < pl) {what : Int} (hwh : 0 ≤ what ∧ what ≤ 4) : Ct l Γ m_X3_tellPlayed [.ref a, iv (z : Int), iv what] h (fun v h' => v = some (iv (if what = 0 then fh (fn z) else if what = 1 then fl (fn z) else if what = 2 then fg (fn z) else if what = 3 then usum (fun j => fl (fn j)) z else fp (fn z))) ∧ h' = h) (fun _ _ => False) := by
  refine Ct.intro hfl (by decide +kernel) rfl (Nat.le_of_ble_eq_true rfl) ?_
  intro G C R T
  show G 0 [some (.ref a), some (iv (z : Int)), some (iv what)] [] h 0 0
  refine gk_iload_n C dX3_tellPlayed_0 rfl ?_
  rcases (show (what < 0 ∨ 3 < what) ∨ what = 0 ∨ what = 1 ∨ what = 2 ∨ what = 3 from by omega) with c_1 | c_1 | c_1 | c_1 | c_1
  · refine gk_tableOut C (tgt := 60) (by omega) dX3_tellPlayed_1 c_1 (by decide) ?_
    refine gk_aload_n C dX3_tellPlayed_60 rfl ?_
    refine gk_aload_n C dX3_tellPlayed_61 rfl ?_
    refine gk_getf C f_X3_28.r dX3_tellPlayed_62 (by (try simp only [hset_set]); first | assumption | exact hset_eq | (refine (hset_ne (by first | assumption | exact Ne.symm (by assumption))).trans ?_; first | assumption | exact hset_eq | (refine (hset_ne (by first | assumption | exact Ne.symm (by assumption))).trans ?_; first | assumption | exact hset_eq | (refine (hset_ne (by first | assumption | exact Ne.symm (by assumption))).trans ?_; first | assumption | exact hset_eq)))) (by rfl) ?_
    refine gk_iload_n C dX3_tellPlayed_65 rfl ?_
    refine gk_callV C o_X3_ofPlayed k_X3_69 dX3_tellPlayed_66 (c_X3_ofPlayed hfl ha hN hpl hfn hP (z := (z : Int)) (by omega)) (by (try simp only [hset_set]); first | assumption | exact hset_eq | (refine (hset_ne (by first | assumption | exact Ne.symm (by assumption))).trans ?_; first | assumption | exact hset_eq | (refine (hset_ne (by first | assumption | exact Ne.symm (by assumption))).trans ?_; first | assumption | exact hset_eq | (refine (hset_ne (by first | assumption | exact Ne.symm (by assumption))).trans ?_; first | assumption | exact hset_eq)))) rfl rfl rfl (by decide) (by decide) (by exact Nat.le_of_ble_eq_true rfl) (fun _ _ z => z.elim) (fun v_66 h_66 p_66 => ?_)
    obtain ⟨rfl, rfl⟩ := p_66
    dsimp only [gk_push]
    refine (R _ _ _ _ _ (by decide) (by decide)).1 _ rfl dX3_tellPlayed_69 ?_
    refine ⟨congrArg (fun q => some (iv q)) ?_, rfl⟩
    (repeat' split) <;> first | rfl | omega
  · refine gk_tableIn C (tgt := 32) (by omega) dX3_tellPlayed_1 (by omega) (by omega) (by rw [c_1]; rfl) (by decide) ?_
    refine gk_aload_n C dX3_tellPlayed_32 rfl ?_
    refine gk_iload_n C dX3_tellPlayed_33 rfl ?_
    refine gk_callV C o_X3_heightAt k_X3_77 dX3_tellPlayed_34 (c_X3_heightAt hfl ha hN hpl hfn hH (z := (z : Int)) (by omega)) (by (try simp only [hset_set]); first | assumption | exact hset_eq | (refine (hset_ne (by first | assumption | exact Ne.symm (by assumption))).trans ?_; first | assumption | exact hset_eq | (refine (hset_ne (by first | assumption | exact Ne.symm (by assumption))).trans ?_; first | assumption | exact hset_eq | (refine (hset_ne (by first | assumption | exact Ne.symm (by assumption))).trans ?_; first | assumption | exact hset_eq)))) rfl rfl rfl (by decide) (by decide) (by exact Nat.le_of_ble_eq_true rfl) (fun _ _ z => z.elim) (fun v_34 h_34 p_34 => ?_)
    obtain ⟨rfl, rfl⟩ := p_34
    dsimp only [gk_push]
    refine (R _ _ _ _ _ (by decide) (by decide)).1 _ rfl dX3_tellPlayed_37 ?_
    refine ⟨congrArg (fun q => some (iv q)) ?_, rfl⟩
    (repeat' split) <;> first | rfl | omega
  · refine gk_tableIn C (tgt := 38) (by omega) dX3_tellPlayed_1 (by omega) (by omega) (by rw [c_1]; rfl) (by decide) ?_
    refine gk_aload_n C dX3_tellPlayed_38 rfl ?_
    refine gk_aload_n C dX3_tellPlayed_39 rfl ?_
    refine gk_getf C f_X3_22.r dX3_tellPlayed_40 (by (try simp only [hset_set]); first | assumption | exact hset_eq | (refine (hset_ne (by first | assumption | exact Ne.symm (by assumption))).trans ?_; first | assumption | exact hset_eq | (refine (hset_ne (by first | assumption | exact Ne.symm (by assumption))).trans ?_; first | assumption | exact hset_eq | (refine (hset_ne (by first | assumption | exact Ne.symm (by assumption))).trans ?_; first | assumption | exact hset_eq)))) (by rfl) ?_
    refine gk_iload_n C dX3_tellPlayed_43 rfl ?_
    refine gk_callV C o_X3_ofPlayed k_X3_69 dX3_tellPlayed_44 (c_X3_ofPlayed hfl ha hN hpl hfn hL (z := (z : Int)) (by omega)) (by (try simp only [hset_set]); first | assumption | exact hset_eq | (refine (hset_ne (by first | assumption | exact Ne.symm (by assumption))).trans ?_; first | assumption | exact hset_eq | (refine (hset_ne (by first | assumption | exact Ne.symm (by assumption))).trans ?_; first | assumption | exact hset_eq | (refine (hset_ne (by first | assumption | exact Ne.symm (by assumption))).trans ?_; first | assumption | exact hset_eq)))) rfl rfl rfl (by decide) (by decide) (by exact Nat.le_of_ble_eq_true rfl) (fun _ _ z => z.elim) (fun v_44 h_44 p_44 => ?_)
    obtain ⟨rfl, rfl⟩ := p_44
    dsimp only [gk_push]
    refine (R _ _ _ _ _ (by decide) (by decide)).1 _ rfl dX3_tellPlayed_47 ?_
    refine ⟨congrArg (fun q => some (iv q)) ?_, rfl⟩
    (repeat' split) <;> first | rfl | omega
  · refine gk_tableIn C (tgt := 48) (by omega) dX3_tellPlayed_1 (by omega) (by omega) (by rw [c_1]; rfl) (by decide) ?_
    refine gk_aload_n C dX3_tellPlayed_48 rfl ?_
    refine gk_iload_n C dX3_tellPlayed_49 rfl ?_
    refine gk_callV C o_X3_graceAt k_X3_80 dX3_tellPlayed_50 (c_X3_graceAt hfl ha hN hpl hfn hG (z := (z : Int)) (by omega)) (by (try simp only [hset_set]); first | assumption | exact hset_eq | (refine (hset_ne (by first | assumption | exact Ne.symm (by assumption))).trans ?_; first | assumption | exact hset_eq | (refine (hset_ne (by first | assumption | exact Ne.symm (by assumption))).trans ?_; first | assumption | exact hset_eq | (refine (hset_ne (by first | assumption | exact Ne.symm (by assumption))).trans ?_; first | assumption | exact hset_eq)))) rfl rfl rfl (by decide) (by decide) (by exact Nat.le_of_ble_eq_true rfl) (fun _ _ z => z.elim) (fun v_50 h_50 p_50 => ?_)
    obtain ⟨rfl, rfl⟩ := p_50
    dsimp only [gk_push]
    refine (R _ _ _ _ _ (by decide) (by decide)).1 _ rfl dX3_tellPlayed_53 ?_
    refine ⟨congrArg (fun q => some (iv q)) ?_, rfl⟩
    (repeat' split) <;> first | rfl | omega
  · refine gk_tableIn C (tgt := 54) (by omega) dX3_tellPlayed_1 (by omega) (by omega) (by rw [c_1]; rfl) (by decide) ?_
    refine gk_aload_n C dX3_tellPlayed_54 rfl ?_
    refine gk_iload_n C dX3_tellPlayed_55 rfl ?_
    refine gk_callV C o_X3_unitsAhead k_X3_73 dX3_tellPlayed_56 (c_X3_unitsAhead hfl ha hN hpl hfn hL (by omega)) (by (try simp only [hset_set]); first | assumption | exact hset_eq | (refine (hset_ne (by first | assumption | exact Ne.symm (by assumption))).trans ?_; first | assumption | exact hset_eq | (refine (hset_ne (by first | assumption | exact Ne.symm (by assumption))).trans ?_; first | assumption | exact hset_eq | (refine (hset_ne (by first | assumption | exact Ne.symm (by assumption))).trans ?_; first | assumption | exact hset_eq)))) rfl rfl rfl (by decide) (by decide) (by exact Nat.le_of_ble_eq_true rfl) (fun _ _ z => z.elim) (fun v_56 h_56 p_56 => ?_)
    obtain ⟨rfl, rfl⟩ := p_56
    dsimp only [gk_push]
    refine (R _ _ _ _ _ (by decide) (by decide)).1 _ rfl dX3_tellPlayed_59 ?_
    refine ⟨congrArg (fun q => some (iv q)) ?_, rfl⟩
    (repeat' split) <;> first | rfl | omega

set_option maxRecDepth 100000 in
set_option maxHeartbeats 4000000 in
theorem c_X3_clashes {l : Launch} {Γ : GA} (hfl : l.stackTraces = false) {h : Hp} {a hA lA gA pA nA : Nat} {nb kd ou : Int} {wc fo pc pl : Nat} (ha : h a = some (oTu nb kd hA lA gA pA nA wc fo ou pc pl)) {fn : Int → Int} (hN : h nA = some (aI 128 fn)) (hpl : pl ≤ 128) (hfn : ∀ i : Int, 0 ≤ i → i < pl → 0 ≤ fn i ∧ fn i < 64) {fh : Int → Int} (hH : h hA = some (aI 64 fh)) {fg : Int → Int} (hG : h gA = some (aI 64 fg)) (hhr : ∀ i : Int, 0 ≤ i → i < pl → 0 ≤ fh (fn i) ∧ fh (fn i) ≤ 8) (hgr : ∀ i : Int, 0 ≤ i → i < pl → 0 ≤ fg (fn i) ∧ fg (fn i) ≤ 8) : Ct l Γ m_X3_clashes [.ref a] h (fun v h' => v = some (iv (usum (clash1 (fun j => fg (fn j)) (fun j => fh (fn j))) pl)) ∧ h' = h) (fun _ _ => False) := by
  refine Ct.intro hfl (by decide +kernel) rfl (Nat.le_of_ble_eq_true rfl) ?_
  intro G C R T
  show G 0 [some (.ref a), none, none] [] h 0 0
  refine gk_iconst C dX3_clashes_0 ?_
  refine gk_istore_n_1 C rfl (by decide) dX3_clashes_1 ?_
  refine gk_iconst C dX3_clashes_2 ?_
  refine gk_istore_n_2 C rfl (by decide) dX3_clashes_3 ?_
  have key : ∀ (n i : Nat), pl - i < n → 1 ≤ i → (i ≤ pl ∨ i = 1) → G 4 [some (.ref a), some (iv (usum (clash1 (fun j => fg (fn j)) (fun j => fh (fn j))) i)), some (iv (i : Int))] [] h 0 0 := by
    intro n
    induction n with
    | zero => intro i h1; omega
    | succ n ih =>
      intro i hn hi hi2
      refine gk_iload_n C dX3_clashes_4 rfl ?_
      refine gk_aload_n C dX3_clashes_5 rfl ?_
      refine gk_getf C f_X3_66.r dX3_clashes_6 (by (try simp only [hset_set]); first | assumption | exact hset_eq | (refine (hset_ne (by first | assumption | exact Ne.symm (by assumption))).trans ?_; first | assumption | exact hset_eq | (refine (hset_ne (by first | assumption | exact Ne.symm (by assumption))).trans ?_; first | assumption | exact hset_eq | (refine (hset_ne (by first | assumption | exact Ne.symm (by assumption))).trans ?_; first | assumption | exact hset_eq)))) (by rfl) ?_
      refine gk_icmp_ge C (tgt := 44) (by omega) (by omega) dX3_clashes_9 (by decide) (fun c_9 => ?_) (fun c_9 => ?_)
      · refine gk_iload_n C dX3_clashes_44 rfl ?_
        refine (R _ _ _ _ _ (by decide) (by decide)).1 _ rfl dX3_clashes_45 ?_
        refine ⟨congrArg (fun q => some (iv q)) ?_, rfl⟩
        by_cases q : pl = 0
        · have e : i = 1 := by omega
          rw [q, e]
          rfl
        · have e : i = pl := by omega
          rw [e]
      · have hg1 := hgr (i : Int) (by omega) (by omega)
        have hh1 := hhr (i : Int) (by omega) (by omega)
        have hh2 := hhr ((i : Int) - 1) (by omega) (by omega)
        refine gk_aload_n C dX3_clashes_12 rfl ?_
        refine gk_iload_n C dX3_clashes_13 rfl ?_
        refine gk_callV C o_X3_graceAt k_X3_80 dX3_clashes_14 (c_X3_graceAt hfl ha hN hpl hfn hG (z := (i : Int)) (by omega)) (by (try simp only [hset_set]); first | assumption | exact hset_eq | (refine (hset_ne (by first | assumption | exact Ne.symm (by assumption))).trans ?_; first | assumption | exact hset_eq | (refine (hset_ne (by first | assumption | exact Ne.symm (by assumption))).trans ?_; first | assumption | exact hset_eq | (refine (hset_ne (by first | assumption | exact Ne.symm (by assumption))).trans ?_; first | assumption | exact hset_eq)))) rfl rfl rfl (by decide) (by decide) (by exact Nat.le_of_ble_eq_true rfl) (fun _ _ z => z.elim) (fun v_14 h_14 p_14 => ?_)
        obtain ⟨rfl, rfl⟩ := p_14
        dsimp only [gk_push]
        refine gk_if_ne C (tgt := 38) (by omega) dX3_clashes_17 (by decide) (fun c_17 => ?_) (fun c_17 => ?_)
        · have e0 : clash1 (fun j => fg (fn j)) (fun j => fh (fn j)) (i : Int) = 0 := by unfold clash1; rw [if_neg (fun z => c_17 z.2.1)]
          have e1 : usum (clash1 (fun j => fg (fn j)) (fun j => fh (fn j))) (i + 1) = usum (clash1 (fun j => fg (fn j)) (fun j => fh (fn j))) i := by show _ + _ = _; rw [e0]; omega
          rw [← e1]
          try rw [← e1]
          refine gk_iinc_2 C rfl (by decide) dX3_clashes_38 ?_
          refine gk_goto C (tgt := 4) dX3_clashes_41 (by decide) ?_
          exact ih (i + 1) (by omega) (by omega) (by omega)
        · refine gk_aload_n C dX3_clashes_20 rfl ?_
          refine gk_iload_n C dX3_clashes_21 rfl ?_
          refine gk_callV C o_X3_heightAt k_X3_77 dX3_clashes_22 (c_X3_heightAt hfl ha hN hpl hfn hH (z := (i : Int)) (by omega)) (by (try simp only [hset_set]); first | assumption | exact hset_eq | (refine (hset_ne (by first | assumption | exact Ne.symm (by assumption))).trans ?_; first | assumption | exact hset_eq | (refine (hset_ne (by first | assumption | exact Ne.symm (by assumption))).trans ?_; first | assumption | exact hset_eq | (refine (hset_ne (by first | assumption | exact Ne.symm (by assumption))).trans ?_; first | assumption | exact hset_eq)))) rfl rfl rfl (by decide) (by decide) (by exact Nat.le_of_ble_eq_true rfl) (fun _ _ z => z.elim) (fun v_22 h_22 p_22 => ?_)
          obtain ⟨rfl, rfl⟩ := p_22
          dsimp only [gk_push]
          refine gk_aload_n C dX3_clashes_25 rfl ?_
          refine gk_iload_n C dX3_clashes_26 rfl ?_
          refine gk_iconst C dX3_clashes_27 ?_
          refine gk_isub C dX3_clashes_28 ?_
          refine gk_callV C o_X3_heightAt k_X3_77 dX3_clashes_29 (c_X3_heightAt hfl ha hN hpl hfn hH (z := (i : Int) - 1) (by omega)) (by (try simp only [hset_set]); first | assumption | exact hset_eq | (refine (hset_ne (by first | assumption | exact Ne.symm (by assumption))).trans ?_; first | assumption | exact hset_eq | (refine (hset_ne (by first | assumption | exact Ne.symm (by assumption))).trans ?_; first | assumption | exact hset_eq | (refine (hset_ne (by first | assumption | exact Ne.symm (by assumption))).trans ?_; first | assumption | exact hset_eq)))) rfl rfl rfl (by decide) (by decide) (by exact Nat.le_of_ble_eq_true rfl) (fun _ _ z => z.elim) (fun v_29 h_29 p_29 => ?_)
          obtain ⟨rfl, rfl⟩ := p_29
          dsimp only [gk_push]
          refine gk_icmp_ne C (tgt := 38) (by omega) (by omega) dX3_clashes_32 (by decide) (fun c_32 => ?_) (fun c_32 => ?_)
          · have e0 : clash1 (fun j => fg (fn j)) (fun j => fh (fn j)) (i : Int) = 0 := by unfold clash1; rw [if_neg (fun z => c_32 z.2.2)]
            have e1 : usum (clash1 (fun j => fg (fn j)) (fun j => fh (fn j))) (i + 1) = usum (clash1 (fun j => fg (fn j)) (fun j => fh (fn j))) i := by show _ + _ = _; rw [e0]; omega
            rw [← e1]
            try rw [← e1]
            refine gk_iinc_2 C rfl (by decide) dX3_clashes_38 ?_
            refine gk_goto C (tgt := 4) dX3_clashes_41 (by decide) ?_
            exact ih (i + 1) (by omega) (by omega) (by omega)
          · have e0 : clash1 (fun j => fg (fn j)) (fun j => fh (fn j)) (i : Int) = 1 := by unfold clash1; rw [if_pos ⟨by omega, c_17, c_32⟩]
            have e1 : usum (clash1 (fun j => fg (fn j)) (fun j => fh (fn j))) (i + 1) = usum (clash1 (fun j => fg (fn j)) (fun j => fh (fn j))) i + 1 := by show _ + _ = _; rw [e0]
            refine gk_iinc_1 C rfl (by decide) dX3_clashes_35 ?_
            try rw [← e1]
            refine gk_iinc_2 C rfl (by decide) dX3_clashes_38 ?_
            refine gk_goto C (tgt := 4) dX3_clashes_41 (by decide) ?_
            exact ih (i + 1) (by omega) (by omega) (by omega)
  exact key (pl + 1) 1 (by omega) (by omega) (by omega)

set_option maxRecDepth 100000 in
set_option maxHeartbeats 4000000 in
theorem c_X3_smallOf {l : Launch} {Γ : GA} (hfl : l.stackTraces = false) {h : Hp} {g : Int} (hg : 0 ≤ g ∧ g ≤ 8) : Ct l Γ m_X3_smallNotesOf [iv g] h (fun v h' => v = some (iv (smallOf g)) ∧ h' = h) (fun _ _ => False) := by
  refine Ct.intro hfl (by decide +kernel) rfl (Nat.le_of_ble_eq_true rfl) ?_
  intro G C R T
  show G 0 [some (iv g)] [] h 0 0
  refine gk_iload_n C dX3_smallNotesOf_0 rfl ?_
  rcases (show (g < 0 ∨ 8 < g) ∨ g = 0 ∨ g = 1 ∨ g = 2 ∨ g = 3 ∨ g = 4 ∨ g = 5 ∨ g = 6 ∨ g = 7 ∨ g = 8 from by omega) with c_1 | c_1 | c_1 | c_1 | c_1 | c_1 | c_1 | c_1 | c_1 | c_1
  · refine gk_tableOut C (tgt := 58) (by omega) dX3_smallNotesOf_1 c_1 (by decide) ?_
    refine gk_iconst C dX3_smallNotesOf_58 ?_
    refine (R _ _ _ _ _ (by decide) (by decide)).1 _ rfl dX3_smallNotesOf_59 ?_
    refine ⟨congrArg (fun q => some (iv q)) ?_, rfl⟩
    unfold smallOf
    (repeat' split) <;> omega
  · refine gk_tableIn C (tgt := 52) (by omega) dX3_smallNotesOf_1 (by omega) (by omega) (by rw [c_1]; rfl) (by decide) ?_
    refine gk_iconst C dX3_smallNotesOf_52 ?_
    refine (R _ _ _ _ _ (by decide) (by decide)).1 _ rfl dX3_smallNotesOf_53 ?_
    refine ⟨congrArg (fun q => some (iv q)) ?_, rfl⟩
    unfold smallOf
    (repeat' split) <;> omega
  · refine gk_tableIn C (tgt := 58) (by omega) dX3_smallNotesOf_1 (by omega) (by omega) (by rw [c_1]; rfl) (by decide) ?_
    refine gk_iconst C dX3_smallNotesOf_58 ?_
    refine (R _ _ _ _ _ (by decide) (by decide)).1 _ rfl dX3_smallNotesOf_59 ?_
    refine ⟨congrArg (fun q => some (iv q)) ?_, rfl⟩
    unfold smallOf
    (repeat' split) <;> omega
  · refine gk_tableIn C (tgt := 58) (by omega) dX3_smallNotesOf_1 (by omega) (by omega) (by rw [c_1]; rfl) (by decide) ?_
    refine gk_iconst C dX3_smallNotesOf_58 ?_
    refine (R _ _ _ _ _ (by decide) (by decide)).1 _ rfl dX3_smallNotesOf_59 ?_
    refine ⟨congrArg (fun q => some (iv q)) ?_, rfl⟩
    unfold smallOf
    (repeat' split) <;> omega
  · refine gk_tableIn C (tgt := 58) (by omega) dX3_smallNotesOf_1 (by omega) (by omega) (by rw [c_1]; rfl) (by decide) ?_
    refine gk_iconst C dX3_smallNotesOf_58 ?_
    refine (R _ _ _ _ _ (by decide) (by decide)).1 _ rfl dX3_smallNotesOf_59 ?_
    refine ⟨congrArg (fun q => some (iv q)) ?_, rfl⟩
    unfold smallOf
    (repeat' split) <;> omega
  · refine gk_tableIn C (tgt := 58) (by omega) dX3_smallNotesOf_1 (by omega) (by omega) (by rw [c_1]; rfl) (by decide) ?_
    refine gk_iconst C dX3_smallNotesOf_58 ?_
    refine (R _ _ _ _ _ (by decide) (by decide)).1 _ rfl dX3_smallNotesOf_59 ?_
    refine ⟨congrArg (fun q => some (iv q)) ?_, rfl⟩
    unfold smallOf
    (repeat' split) <;> omega
  · refine gk_tableIn C (tgt := 54) (by omega) dX3_smallNotesOf_1 (by omega) (by omega) (by rw [c_1]; rfl) (by decide) ?_
    refine gk_iconst C dX3_smallNotesOf_54 ?_
    refine (R _ _ _ _ _ (by decide) (by decide)).1 _ rfl dX3_smallNotesOf_55 ?_
    refine ⟨congrArg (fun q => some (iv q)) ?_, rfl⟩
    unfold smallOf
    (repeat' split) <;> omega
  · refine gk_tableIn C (tgt := 54) (by omega) dX3_smallNotesOf_1 (by omega) (by omega) (by rw [c_1]; rfl) (by decide) ?_
    refine gk_iconst C dX3_smallNotesOf_54 ?_
    refine (R _ _ _ _ _ (by decide) (by decide)).1 _ rfl dX3_smallNotesOf_55 ?_
    refine ⟨congrArg (fun q => some (iv q)) ?_, rfl⟩
    unfold smallOf
    (repeat' split) <;> omega
  · refine gk_tableIn C (tgt := 54) (by omega) dX3_smallNotesOf_1 (by omega) (by omega) (by rw [c_1]; rfl) (by decide) ?_
    refine gk_iconst C dX3_smallNotesOf_54 ?_
    refine (R _ _ _ _ _ (by decide) (by decide)).1 _ rfl dX3_smallNotesOf_55 ?_
    refine ⟨congrArg (fun q => some (iv q)) ?_, rfl⟩
    unfold smallOf
    (repeat' split) <;> omega
  · refine gk_tableIn C (tgt := 56) (by omega) dX3_smallNotesOf_1 (by omega) (by omega) (by rw [c_1]; rfl) (by decide) ?_
    refine gk_iconst C dX3_smallNotesOf_56 ?_
    refine (R _ _ _ _ _ (by decide) (by decide)).1 _ rfl dX3_smallNotesOf_57 ?_
    refine ⟨congrArg (fun q => some (iv q)) ?_, rfl⟩
    unfold smallOf
    (repeat' split) <;> omega

set_option maxRecDepth 100000 in
set_option maxHeartbeats 4000000 in
theorem c_X3_small {l : Launch} {Γ : GA} (hfl : l.stackTraces = false) {h : Hp} {a hA lA gA pA nA : Nat} {nb kd ou : Int} {wc fo pc pl : Nat} (ha : h a = some (oTu nb kd hA lA gA pA nA wc fo ou pc pl)) {fn : Int → Int} (hN : h nA = some (aI 128 fn)) (hpl : pl ≤ 128) (hfn : ∀ i : Int, 0 ≤ i → i < pl → 0 ≤ fn i ∧ fn i < 64) {fg : Int → Int} (hG : h gA = some (aI 64 fg)) (hgr : ∀ i : Int, 0 ≤ i → i < pl → 0 ≤ fg (fn i) ∧ fg (fn i) ≤ 8) : Ct l Γ m_X3_smallNotes [.ref a] h (fun v h' => v = some (iv (usum (fun j => smallOf (fg (fn j))) pl)) ∧ h' = h) (fun _ _ => False) := by
  refine Ct.intro hfl (by decide +kernel) rfl (Nat.le_of_ble_eq_true rfl) ?_
  intro G C R T
  show G 0 [some (.ref a), none, none] [] h 0 0
  refine gk_iconst C dX3_smallNotes_0 ?_
  refine gk_istore_n_1 C rfl (by decide) dX3_smallNotes_1 ?_
  refine gk_iconst C dX3_smallNotes_2 ?_
  refine gk_istore_n_2 C rfl (by decide) dX3_smallNotes_3 ?_
  have key : ∀ (n i : Nat), pl - i < n → i ≤ pl → G 4 [some (.ref a), some (iv (usum (fun j => smallOf (fg (fn j))) i)), some (iv (i : Int))] [] h 0 0 := by
    intro n
    induction n with
    | zero => intro i h1; omega
    | succ n ih =>
      intro i hn hi
      refine gk_iload_n C dX3_smallNotes_4 rfl ?_
      refine gk_aload_n C dX3_smallNotes_5 rfl ?_
      refine gk_getf C f_X3_66.r dX3_smallNotes_6 (by (try simp only [hset_set]); first | assumption | exact hset_eq | (refine (hset_ne (by first | assumption | exact Ne.symm (by assumption))).trans ?_; first | assumption | exact hset_eq | (refine (hset_ne (by first | assumption | exact Ne.symm (by assumption))).trans ?_; first | assumption | exact hset_eq | (refine (hset_ne (by first | assumption | exact Ne.symm (by assumption))).trans ?_; first | assumption | exact hset_eq)))) (by rfl) ?_
      refine gk_icmp_ge C (tgt := 29) (by omega) (by omega) dX3_smallNotes_9 (by decide) (fun c_9 => ?_) (fun c_9 => ?_)
      · refine gk_iload_n C dX3_smallNotes_29 rfl ?_
        refine (R _ _ _ _ _ (by decide) (by decide)).1 _ rfl dX3_smallNotes_30 ?_
        have e : i = pl := by omega
        rw [e]
        exact ⟨rfl, rfl⟩
      · refine gk_iload_n C dX3_smallNotes_12 rfl ?_
        refine gk_aload_n C dX3_smallNotes_13 rfl ?_
        refine gk_iload_n C dX3_smallNotes_14 rfl ?_
        refine gk_callV C o_X3_graceAt k_X3_80 dX3_smallNotes_15 (c_X3_graceAt hfl ha hN hpl hfn hG (z := (i : Int)) (by omega)) (by (try simp only [hset_set]); first | assumption | exact hset_eq | (refine (hset_ne (by first | assumption | exact Ne.symm (by assumption))).trans ?_; first | assumption | exact hset_eq | (refine (hset_ne (by first | assumption | exact Ne.symm (by assumption))).trans ?_; first | assumption | exact hset_eq | (refine (hset_ne (by first | assumption | exact Ne.symm (by assumption))).trans ?_; first | assumption | exact hset_eq)))) rfl rfl rfl (by decide) (by decide) (by exact Nat.le_of_ble_eq_true rfl) (fun _ _ z => z.elim) (fun v_15 h_15 p_15 => ?_)
        obtain ⟨rfl, rfl⟩ := p_15
        dsimp only [gk_push]
        refine gk_callS C o_X3_smallNotesOf k_X3_92 dX3_smallNotes_18 (c_X3_smallOf hfl (hgr (i : Int) (by omega) (by omega))) rfl rfl (by decide) (by decide) (by exact Nat.le_of_ble_eq_true rfl) (fun _ _ z => z.elim) (fun v_18 h_18 p_18 => ?_)
        obtain ⟨rfl, rfl⟩ := p_18
        dsimp only [gk_push]
        refine gk_iadd C dX3_smallNotes_21 ?_
        refine gk_istore_n_1 C rfl (by decide) dX3_smallNotes_22 ?_
        refine gk_iinc_2 C rfl (by decide) dX3_smallNotes_23 ?_
        refine gk_goto C (tgt := 4) dX3_smallNotes_26 (by decide) ?_
        exact ih (i + 1) (by omega) (by omega)
  exact key (pl + 1) 0 (by omega) (by omega)

set_option maxRecDepth 100000 in
set_option maxHeartbeats 4000000 in
theorem c_X3_tell {l : Launch} {Γ : GA} (hfl : l.stackTraces = false) {h : Hp} {a hA lA gA pA nA : Nat} {nb kd ou : Int} {wc fo pc pl : Nat} (ha : h a = some (oTu nb kd hA lA gA pA nA wc fo ou pc pl)) {fn : Int → Int} (hN : h nA = some (aI 128 fn)) (hpl : pl ≤ 128) (hfn : ∀ i : Int, 0 ≤ i → i < pl → 0 ≤ fn i ∧ fn i < 64) {fh : Int → Int} (hH : h hA = some (aI 64 fh)) {fl : Int → Int} (hL : h lA = some (aI 64 fl)) {fg : Int → Int} (hG : h gA = some (aI 64 fg)) {fp : Int → Int} (hP : h pA = some (aI 64 fp)) (hfo : fo ≤ wc) (hwc : wc ≤ 64) (hhr : ∀ i : Int, 0 ≤ i → i < pl → 0 ≤ fh (fn i) ∧ fh (fn i) ≤ 8) (hgr : ∀ i : Int, 0 ≤ i → i < pl → 0 ≤ fg (fn i) ∧ fg (fn i) ≤ 8) {what : Int} (hwh : 0 ≤ what ∧ what ≤ 6) : Ct l Γ m_X3_tell [.ref a, iv what] h (fun v h' => v = some (iv (if what = 0 then kd else if what = 1 then (pl : Int) else if what = 2 then usum (fun j => fl (fn j)) pl else if what = 3 then usum (clash1 (fun j => fg (fn j)) (fun j => fh (fn j))) pl else if what = 4 then usum (fun j => smallOf (fg (fn j))) pl else if what = 5 then (pc : Int) else (wc : Int) - fo)) ∧ h' = h) (fun _ _ => False) := by
  refine Ct.intro hfl (by decide +kernel) rfl (Nat.le_of_ble_eq_true rfl) ?_
  intro G C R T
  show G 0 [some (.ref a), some (iv what)] [] h 0 0
  refine gk_iload_n C dX3_tell_0 rfl ?_
  rcases (show (what < 0 ∨ 5 < what) ∨ what = 0 ∨ what = 1 ∨ what = 2 ∨ what = 3 ∨ what = 4 ∨ what = 5 from by omega) with c_1 | c_1 | c_1 | c_1 | c_1 | c_1 | c_1
  · refine gk_tableOut C (tgt := 70) (by omega) dX3_tell_1 c_1 (by decide) ?_
    refine gk_aload_n C dX3_tell_70 rfl ?_
    refine gk_getf C f_X3_41.r dX3_tell_71 (by (try simp only [hset_set]); first | assumption | exact hset_eq | (refine (hset_ne (by first | assumption | exact Ne.symm (by assumption))).trans ?_; first | assumption | exact hset_eq | (refine (hset_ne (by first | assumption | exact Ne.symm (by assumption))).trans ?_; first | assumption | exact hset_eq | (refine (hset_ne (by first | assumption | exact Ne.symm (by assumption))).trans ?_; first | assumption | exact hset_eq)))) (by rfl) ?_
    refine gk_aload_n C dX3_tell_74 rfl ?_
    refine gk_getf C f_X3_57.r dX3_tell_75 (by (try simp only [hset_set]); first | assumption | exact hset_eq | (refine (hset_ne (by first | assumption | exact Ne.symm (by assumption))).trans ?_; first | assumption | exact hset_eq | (refine (hset_ne (by first | assumption | exact Ne.symm (by assumption))).trans ?_; first | assumption | exact hset_eq | (refine (hset_ne (by first | assumption | exact Ne.symm (by assumption))).trans ?_; first | assumption | exact hset_eq)))) (by rfl) ?_
    refine gk_isub C dX3_tell_78 ?_
    refine (R _ _ _ _ _ (by decide) (by decide)).1 _ rfl dX3_tell_79 ?_
    refine ⟨congrArg (fun q => some (iv q)) ?_, rfl⟩
    (repeat' split) <;> first | rfl | omega
  · refine gk_tableIn C (tgt := 40) (by omega) dX3_tell_1 (by omega) (by omega) (by rw [c_1]; rfl) (by decide) ?_
    refine gk_aload_n C dX3_tell_40 rfl ?_
    refine gk_getf C f_X3_15.r dX3_tell_41 (by (try simp only [hset_set]); first | assumption | exact hset_eq | (refine (hset_ne (by first | assumption | exact Ne.symm (by assumption))).trans ?_; first | assumption | exact hset_eq | (refine (hset_ne (by first | assumption | exact Ne.symm (by assumption))).trans ?_; first | assumption | exact hset_eq | (refine (hset_ne (by first | assumption | exact Ne.symm (by assumption))).trans ?_; first | assumption | exact hset_eq)))) (by rfl) ?_
    refine (R _ _ _ _ _ (by decide) (by decide)).1 _ rfl dX3_tell_44 ?_
    refine ⟨congrArg (fun q => some (iv q)) ?_, rfl⟩
    (repeat' split) <;> first | rfl | omega
  · refine gk_tableIn C (tgt := 45) (by omega) dX3_tell_1 (by omega) (by omega) (by rw [c_1]; rfl) (by decide) ?_
    refine gk_aload_n C dX3_tell_45 rfl ?_
    refine gk_getf C f_X3_66.r dX3_tell_46 (by (try simp only [hset_set]); first | assumption | exact hset_eq | (refine (hset_ne (by first | assumption | exact Ne.symm (by assumption))).trans ?_; first | assumption | exact hset_eq | (refine (hset_ne (by first | assumption | exact Ne.symm (by assumption))).trans ?_; first | assumption | exact hset_eq | (refine (hset_ne (by first | assumption | exact Ne.symm (by assumption))).trans ?_; first | assumption | exact hset_eq)))) (by rfl) ?_
    refine (R _ _ _ _ _ (by decide) (by decide)).1 _ rfl dX3_tell_49 ?_
    refine ⟨congrArg (fun q => some (iv q)) ?_, rfl⟩
    (repeat' split) <;> first | rfl | omega
  · refine gk_tableIn C (tgt := 50) (by omega) dX3_tell_1 (by omega) (by omega) (by rw [c_1]; rfl) (by decide) ?_
    refine gk_aload_n C dX3_tell_50 rfl ?_
    refine gk_callV C o_X3_unitsPlayed k_X3_83 dX3_tell_51 (c_X3_unitsPlayed hfl ha hN hpl hfn hL) (by (try simp only [hset_set]); first | assumption | exact hset_eq | (refine (hset_ne (by first | assumption | exact Ne.symm (by assumption))).trans ?_; first | assumption | exact hset_eq | (refine (hset_ne (by first | assumption | exact Ne.symm (by assumption))).trans ?_; first | assumption | exact hset_eq | (refine (hset_ne (by first | assumption | exact Ne.symm (by assumption))).trans ?_; first | assumption | exact hset_eq)))) rfl rfl rfl (by decide) (by decide) (by exact Nat.le_of_ble_eq_true rfl) (fun _ _ z => z.elim) (fun v_51 h_51 p_51 => ?_)
    obtain ⟨rfl, rfl⟩ := p_51
    dsimp only [gk_push]
    refine (R _ _ _ _ _ (by decide) (by decide)).1 _ rfl dX3_tell_54 ?_
    refine ⟨congrArg (fun q => some (iv q)) ?_, rfl⟩
    (repeat' split) <;> first | rfl | omega
  · refine gk_tableIn C (tgt := 55) (by omega) dX3_tell_1 (by omega) (by omega) (by rw [c_1]; rfl) (by decide) ?_
    refine gk_aload_n C dX3_tell_55 rfl ?_
    refine gk_callV C o_X3_clashes k_X3_86 dX3_tell_56 (c_X3_clashes hfl ha hN hpl hfn hH hG hhr hgr) (by (try simp only [hset_set]); first | assumption | exact hset_eq | (refine (hset_ne (by first | assumption | exact Ne.symm (by assumption))).trans ?_; first | assumption | exact hset_eq | (refine (hset_ne (by first | assumption | exact Ne.symm (by assumption))).trans ?_; first | assumption | exact hset_eq | (refine (hset_ne (by first | assumption | exact Ne.symm (by assumption))).trans ?_; first | assumption | exact hset_eq)))) rfl rfl rfl (by decide) (by decide) (by exact Nat.le_of_ble_eq_true rfl) (fun _ _ z => z.elim) (fun v_56 h_56 p_56 => ?_)
    obtain ⟨rfl, rfl⟩ := p_56
    dsimp only [gk_push]
    refine (R _ _ _ _ _ (by decide) (by decide)).1 _ rfl dX3_tell_59 ?_
    refine ⟨congrArg (fun q => some (iv q)) ?_, rfl⟩
    (repeat' split) <;> first | rfl | omega
  · refine gk_tableIn C (tgt := 60) (by omega) dX3_tell_1 (by omega) (by omega) (by rw [c_1]; rfl) (by decide) ?_
    refine gk_aload_n C dX3_tell_60 rfl ?_
    refine gk_callV C o_X3_smallNotes k_X3_89 dX3_tell_61 (c_X3_small hfl ha hN hpl hfn hG hgr) (by (try simp only [hset_set]); first | assumption | exact hset_eq | (refine (hset_ne (by first | assumption | exact Ne.symm (by assumption))).trans ?_; first | assumption | exact hset_eq | (refine (hset_ne (by first | assumption | exact Ne.symm (by assumption))).trans ?_; first | assumption | exact hset_eq | (refine (hset_ne (by first | assumption | exact Ne.symm (by assumption))).trans ?_; first | assumption | exact hset_eq)))) rfl rfl rfl (by decide) (by decide) (by exact Nat.le_of_ble_eq_true rfl) (fun _ _ z => z.elim) (fun v_61 h_61 p_61 => ?_)
    obtain ⟨rfl, rfl⟩ := p_61
    dsimp only [gk_push]
    refine (R _ _ _ _ _ (by decide) (by decide)).1 _ rfl dX3_tell_64 ?_
    refine ⟨congrArg (fun q => some (iv q)) ?_, rfl⟩
    (repeat' split) <;> first | rfl | omega
  · refine gk_tableIn C (tgt := 65) (by omega) dX3_tell_1 (by omega) (by omega) (by rw [c_1]; rfl) (by decide) ?_
    refine gk_aload_n C dX3_tell_65 rfl ?_
    refine gk_getf C f_X3_54.r dX3_tell_66 (by (try simp only [hset_set]); first | assumption | exact hset_eq | (refine (hset_ne (by first | assumption | exact Ne.symm (by assumption))).trans ?_; first | assumption | exact hset_eq | (refine (hset_ne (by first | assumption | exact Ne.symm (by assumption))).trans ?_; first | assumption | exact hset_eq | (refine (hset_ne (by first | assumption | exact Ne.symm (by assumption))).trans ?_; first | assumption | exact hset_eq)))) (by rfl) ?_
    refine (R _ _ _ _ _ (by decide) (by decide)).1 _ rfl dX3_tell_69 ?_
    refine ⟨congrArg (fun q => some (iv q)) ?_, rfl⟩
    (repeat' split) <;> first | rfl | omega

set_option maxRecDepth 100000 in
set_option maxHeartbeats 4000000 in
theorem c_X3_runFrom {l : Launch} {Γ : GA} (hfl : l.stackTraces = false) {h : Hp} {a hA lA gA pA nA : Nat} {nb kd ou : Int} {wc fo pc pl : Nat} (ha : h a = some (oTu nb kd hA lA gA pA nA wc fo ou pc pl)) {fn : Int → Int} (hN : h nA = some (aI 128 fn)) (hpl : pl ≤ 128) (hfn : ∀ i : Int, 0 ≤ i → i < pl → 0 ≤ fn i ∧ fn i < 64) {fh : Int → Int} (hH : h hA = some (aI 64 fh)) (hhr : ∀ i : Int, 0 ≤ i → i < pl → 0 ≤ fh (fn i) ∧ fh (fn i) ≤ 8) {a2 hA2 lA2 gA2 pA2 nA2 : Nat} {nb2 kd2 ou2 : Int} {wc2 fo2 pc2 pl2 : Nat} (ha2 : h a2 = some (oTu nb2 kd2 hA2 lA2 gA2 pA2 nA2 wc2 fo2 ou2 pc2 pl2)) {fn2 : Int → Int} (hN2 : h nA2 = some (aI 128 fn2)) (hpl2 : pl2 ≤ 128) (hfn2 : ∀ i : Int, 0 ≤ i → i < pl2 → 0 ≤ fn2 i ∧ fn2 i < 64) {fh2 : Int → Int} (hH2 : h hA2 = some (aI 64 fh2)) (hhr2 : ∀ i : Int, 0 ≤ i → i < pl2 → 0 ≤ fh2 (fn2 i) ∧ fh2 (fn2 i) ≤ 8) {p q : Nat} (hp : p ≤ 200) (hq : q ≤ 200) : Ct l Γ m_X3_runFrom [.ref a, iv (p : Int), .ref a2, iv (q : Int)] h (fun v h' => ∃ r : Nat, v = some (iv (r : Int)) ∧ h' = h ∧ mtch (fun j => fh (fn j)) (fun j => fh2 (fn2 j)) p q r ∧ (r = 0 ∨ (p + r ≤ pl ∧ q + r ≤ pl2)) ∧ ¬ (p + r < pl ∧ q + r < pl2 ∧ fh (fn ((p : Int) + r)) = fh2 (fn2 ((q : Int) + r)))) (fun _ _ => False) := by
  refine Ct.intro hfl (by decide +kernel) rfl (Nat.le_of_ble_eq_true rfl) ?_
  intro G C R T
  show G 0 [some (.ref a), some (iv (p : Int)), some (.ref a2), some (iv (q : Int)), none] [] h 0 0
  refine gk_iconst C dX3_runFrom_0 ?_
  refine gk_istore_4 C rfl (by decide) dX3_runFrom_1 ?_
  have key : ∀ (n r : Nat), 128 - r < n → r ≤ 128 → mtch (fun j => fh (fn j)) (fun j => fh2 (fn2 j)) p q r → (r = 0 ∨ (p + r ≤ pl ∧ q + r ≤ pl2)) → G 3 [some (.ref a), some (iv (p : Int)), some (.ref a2), some (iv (q : Int)), some (iv (r : Int))] [] h 0 0 := by
    intro n
    induction n with
    | zero => intro r h1; omega
    | succ n ih =>
      intro r hn hr hm hr2
      refine gk_iload_n C dX3_runFrom_3 rfl ?_
      refine gk_iload C dX3_runFrom_4 rfl ?_
      refine gk_iadd C dX3_runFrom_6 ?_
      refine gk_aload_n C dX3_runFrom_7 rfl ?_
      refine gk_getf C f_X3_66.r dX3_runFrom_8 (by (try simp only [hset_set]); first | assumption | exact hset_eq | (refine (hset_ne (by first | assumption | exact Ne.symm (by assumption))).trans ?_; first | assumption | exact hset_eq | (refine (hset_ne (by first | assumption | exact Ne.symm (by assumption))).trans ?_; first | assumption | exact hset_eq | (refine (hset_ne (by first | assumption | exact Ne.symm (by assumption))).trans ?_; first | assumption | exact hset_eq)))) (by rfl) ?_
      refine gk_icmp_ge C (tgt := 50) (by omega) (by omega) dX3_runFrom_11 (by decide) (fun c_11 => ?_) (fun c_11 => ?_)
      · refine gk_iload C dX3_runFrom_50 rfl ?_
        refine (R _ _ _ _ _ (by decide) (by decide)).1 _ rfl dX3_runFrom_52 ?_
        refine ⟨r, rfl, rfl, hm, hr2, ?_⟩
        rintro ⟨z1, z2, z3⟩
        first | omega | exact c_41 z3
      · refine gk_iload_n C dX3_runFrom_14 rfl ?_
        refine gk_iload C dX3_runFrom_15 rfl ?_
        refine gk_iadd C dX3_runFrom_17 ?_
        refine gk_aload_n C dX3_runFrom_18 rfl ?_
        refine gk_getf C f_X3_66.r dX3_runFrom_19 (by (try simp only [hset_set]); first | assumption | exact hset_eq | (refine (hset_ne (by first | assumption | exact Ne.symm (by assumption))).trans ?_; first | assumption | exact hset_eq | (refine (hset_ne (by first | assumption | exact Ne.symm (by assumption))).trans ?_; first | assumption | exact hset_eq | (refine (hset_ne (by first | assumption | exact Ne.symm (by assumption))).trans ?_; first | assumption | exact hset_eq)))) (by rfl) ?_
        refine gk_icmp_ge C (tgt := 50) (by omega) (by omega) dX3_runFrom_22 (by decide) (fun c_22 => ?_) (fun c_22 => ?_)
        · refine gk_iload C dX3_runFrom_50 rfl ?_
          refine (R _ _ _ _ _ (by decide) (by decide)).1 _ rfl dX3_runFrom_52 ?_
          refine ⟨r, rfl, rfl, hm, hr2, ?_⟩
          rintro ⟨z1, z2, z3⟩
          first | omega | exact c_41 z3
        · have hh1 := hhr ((p : Int) + r) (by omega) (by omega)
          have hh2 := hhr2 ((q : Int) + r) (by omega) (by omega)
          refine gk_aload_n C dX3_runFrom_25 rfl ?_
          refine gk_iload_n C dX3_runFrom_26 rfl ?_
          refine gk_iload C dX3_runFrom_27 rfl ?_
          refine gk_iadd C dX3_runFrom_29 ?_
          refine gk_callV C o_X3_heightAt k_X3_77 dX3_runFrom_30 (c_X3_heightAt hfl ha hN hpl hfn hH (z := (p : Int) + r) (by omega)) (by (try simp only [hset_set]); first | assumption | exact hset_eq | (refine (hset_ne (by first | assumption | exact Ne.symm (by assumption))).trans ?_; first | assumption | exact hset_eq | (refine (hset_ne (by first | assumption | exact Ne.symm (by assumption))).trans ?_; first | assumption | exact hset_eq | (refine (hset_ne (by first | assumption | exact Ne.symm (by assumption))).trans ?_; first | assumption | exact hset_eq)))) rfl rfl rfl (by decide) (by decide) (by exact Nat.le_of_ble_eq_true rfl) (fun _ _ z => z.elim) (fun v_30 h_30 p_30 => ?_)
          obtain ⟨rfl, rfl⟩ := p_30
          dsimp only [gk_push]
          refine gk_aload_n C dX3_runFrom_33 rfl ?_
          refine gk_iload_n C dX3_runFrom_34 rfl ?_
          refine gk_iload C dX3_runFrom_35 rfl ?_
          refine gk_iadd C dX3_runFrom_37 ?_
          refine gk_callV C o_X3_heightAt k_X3_77 dX3_runFrom_38 (c_X3_heightAt hfl ha2 hN2 hpl2 hfn2 hH2 (z := (q : Int) + r) (by omega)) (by (try simp only [hset_set]); first | assumption | exact hset_eq | (refine (hset_ne (by first | assumption | exact Ne.symm (by assumption))).trans ?_; first | assumption | exact hset_eq | (refine (hset_ne (by first | assumption | exact Ne.symm (by assumption))).trans ?_; first | assumption | exact hset_eq | (refine (hset_ne (by first | assumption | exact Ne.symm (by assumption))).trans ?_; first | assumption | exact hset_eq)))) rfl rfl rfl (by decide) (by decide) (by exact Nat.le_of_ble_eq_true rfl) (fun _ _ z => z.elim) (fun v_38 h_38 p_38 => ?_)
          obtain ⟨rfl, rfl⟩ := p_38
          dsimp only [gk_push]
          refine gk_icmp_ne C (tgt := 50) (by omega) (by omega) dX3_runFrom_41 (by decide) (fun c_41 => ?_) (fun c_41 => ?_)
          · refine gk_iload C dX3_runFrom_50 rfl ?_
            refine (R _ _ _ _ _ (by decide) (by decide)).1 _ rfl dX3_runFrom_52 ?_
            refine ⟨r, rfl, rfl, hm, hr2, ?_⟩
            rintro ⟨z1, z2, z3⟩
            first | omega | exact c_41 z3
          · refine gk_iinc_4 C rfl (by decide) dX3_runFrom_44 ?_
            refine gk_goto C (tgt := 3) dX3_runFrom_47 (by decide) ?_
            refine ih (r + 1) (by omega) (by omega) (fun t ht => ?_) (Or.inr ⟨by omega, by omega⟩)
            by_cases e : t = r
            · subst e; exact c_41
            · exact hm t (by omega)
  exact key 129 0 (by omega) (by omega) (fun t ht => absurd ht (Nat.not_lt_zero t)) (Or.inl rfl)
