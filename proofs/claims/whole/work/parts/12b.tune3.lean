/-! the tunes: how alike two are -/
theorem suf_z1 (A B : Int → Int) (j : Nat) : suf A B 0 j = 0 := by cases j <;> rfl
theorem suf_z2 (A B : Int → Int) (k : Nat) : suf A B k 0 = 0 := by cases k <;> rfl
theorem suf_s (A B : Int → Int) (k j : Nat) : suf A B (k + 1) (j + 1) = if A (k : Int) = B (j : Int) then suf A B k j + 1 else 0 := rfl
/-- m is attained -/
def alAt (A : Int → Int) (na : Nat) (B : Int → Int) (nb : Nat) (m : Nat) : Prop := m = 0 ∨ ∃ k j : Nat, k ≤ na ∧ j ≤ nb ∧ suf A B k j = m
theorem alAt_le {A B : Int → Int} {na nb m : Nat} (h : alAt A na B nb m) : m ≤ na := by
  rcases h with e | ⟨k, j, h1, h2, e⟩
  · omega
  · have h3 := suf_le1 A B k j
    omega
theorem alAt_max {A B : Int → Int} {na nb m k j : Nat} (h : alAt A na B nb m) (hk : k ≤ na) (hj : j ≤ nb) : alAt A na B nb (max m (suf A B k j)) := by
  by_cases c : m ≤ suf A B k j
  · rw [Nat.max_eq_right c]
    exact Or.inr ⟨k, j, hk, hj, rfl⟩
  · rw [Nat.max_eq_left (by omega)]
    exact h

set_option maxRecDepth 100000 in
set_option maxHeartbeats 4000000 in
theorem c_X3_shifts {l : Launch} {Γ : GA} (hfl : l.stackTraces = false) {h : Hp} {a hA lA gA pA nA : Nat} {nb kd ou : Int} {wc fo pc pl : Nat} (ha : h a = some (oTu nb kd hA lA gA pA nA wc fo ou pc pl)) {fn : Int → Int} (hN : h nA = some (aI 128 fn)) (hpl : pl ≤ 128) (hfn : ∀ i : Int, 0 ≤ i → i < pl → 0 ≤ fn i ∧ fn i < 64) {fh : Int → Int} (hH : h hA = some (aI 64 fh)) (hhr : ∀ i : Int, 0 ≤ i → i < pl → 0 ≤ fh (fn i) ∧ fh (fn i) ≤ 8) {a2 hA2 lA2 gA2 pA2 nA2 : Nat} {nb2 kd2 ou2 : Int} {wc2 fo2 pc2 pl2 : Nat} (ha2 : h a2 = some (oTu nb2 kd2 hA2 lA2 gA2 pA2 nA2 wc2 fo2 ou2 pc2 pl2)) {fn2 : Int → Int} (hN2 : h nA2 = some (aI 128 fn2)) (hpl2 : pl2 ≤ 128) (hfn2 : ∀ i : Int, 0 ≤ i → i < pl2 → 0 ≤ fn2 i ∧ fn2 i < 64) {fh2 : Int → Int} (hH2 : h hA2 = some (aI 64 fh2)) (hhr2 : ∀ i : Int, 0 ≤ i → i < pl2 → 0 ≤ fh2 (fn2 i) ∧ fh2 (fn2 i) ≤ 8) : Ct l Γ m_X3_likenessByShifts [.ref a, .ref a2] h (fun v h' => ∃ m : Nat, v = some (iv (m : Int)) ∧ h' = h ∧ isAlike (fun j => fh (fn j)) pl (fun j => fh2 (fn2 j)) pl2 m) (fun _ _ => False) := by
  refine Ct.intro hfl (by decide +kernel) rfl (Nat.le_of_ble_eq_true rfl) ?_
  intro G C R T
  show G 0 [some (.ref a), some (.ref a2), none, none, none, none] [] h 0 0
  refine gk_iconst C dX3_likenessByShifts_0 ?_
  refine gk_istore_n_2 C rfl (by decide) dX3_likenessByShifts_1 ?_
  refine gk_iconst C dX3_likenessByShifts_2 ?_
  refine gk_aload_n C dX3_likenessByShifts_3 rfl ?_
  refine gk_getf C f_X3_66.r dX3_likenessByShifts_4 (by (try simp only [hset_set]); first | assumption | exact hset_eq | (refine (hset_ne (by first | assumption | exact Ne.symm (by assumption))).trans ?_; first | assumption | exact hset_eq | (refine (hset_ne (by first | assumption | exact Ne.symm (by assumption))).trans ?_; first | assumption | exact hset_eq | (refine (hset_ne (by first | assumption | exact Ne.symm (by assumption))).trans ?_; first | assumption | exact hset_eq)))) (by rfl) ?_
  refine gk_isub C dX3_likenessByShifts_7 ?_
  refine gk_istore_n_3 C rfl (by decide) dX3_likenessByShifts_8 ?_
  have key : ∀ (n : Nat) (d : Int) (m : Nat) X Y, pl + 1 - d < n → (1 - (pl2 : Int) ≤ d ∧ (d ≤ pl ∨ d = 1 - (pl2 : Int))) → m ≤ 128 → alAt (fun j => fh (fn j)) pl (fun j => fh2 (fn2 j)) pl2 m → (∀ k j : Nat, k ≤ pl → j ≤ pl2 → (k : Int) - j < d → suf (fun j => fh (fn j)) (fun j => fh2 (fn2 j)) k j ≤ m) → G 9 [some (.ref a), some (.ref a2), some (iv (m : Int)), some (iv d), X, Y] [] h 0 0 := by
    intro n
    induction n with
    | zero => intro d m X Y h1; omega
    | succ n ih =>
      intro d m X Y hn hd hm hat hle
      refine gk_iload_n C dX3_likenessByShifts_9 rfl ?_
      refine gk_aload_n C dX3_likenessByShifts_10 rfl ?_
      refine gk_getf C f_X3_66.r dX3_likenessByShifts_11 (by (try simp only [hset_set]); first | assumption | exact hset_eq | (refine (hset_ne (by first | assumption | exact Ne.symm (by assumption))).trans ?_; first | assumption | exact hset_eq | (refine (hset_ne (by first | assumption | exact Ne.symm (by assumption))).trans ?_; first | assumption | exact hset_eq | (refine (hset_ne (by first | assumption | exact Ne.symm (by assumption))).trans ?_; first | assumption | exact hset_eq)))) (by rfl) ?_
      refine gk_icmp_ge C (tgt := 93) (by omega) (by omega) dX3_likenessByShifts_14 (by decide) (fun c_14 => ?_) (fun c_14 => ?_)
      · refine gk_iload_n C dX3_likenessByShifts_93 rfl ?_
        refine (R _ _ _ _ _ (by decide) (by decide)).1 _ rfl dX3_likenessByShifts_94 ?_
        refine ⟨m, rfl, rfl, fun k j hk hj => ?_, hat⟩
        by_cases e : (k : Int) - j < d
        · exact hle k j hk hj e
        · have e2 : j = 0 := by omega
          rw [e2, suf_z2]
          exact Nat.zero_le _
      · refine gk_iconst C dX3_likenessByShifts_17 ?_
        refine gk_istore_4 C rfl (by decide) dX3_likenessByShifts_18 ?_
        refine gk_iconst C dX3_likenessByShifts_20 ?_
        refine gk_iload_n C dX3_likenessByShifts_21 rfl ?_
        refine gk_mmax C (by omega) (by omega) k_X3_95.1 dX3_likenessByShifts_22 (by decide) (by exact Nat.le_of_ble_eq_true rfl) (by decide) ?_
        refine gk_istore_5 C rfl (by decide) dX3_likenessByShifts_25 ?_
        have key2 : ∀ (n i j m : Nat), pl - i < n → i ≤ pl + pl2 → (i : Int) - j = d → m ≤ 128 → alAt (fun j => fh (fn j)) pl (fun j => fh2 (fn2 j)) pl2 m → (∀ k j : Nat, k ≤ pl → j ≤ pl2 → (k : Int) - j < d → suf (fun j => fh (fn j)) (fun j => fh2 (fn2 j)) k j ≤ m) → (∀ k j : Nat, k ≤ pl → j ≤ pl2 → (k : Int) - j = d → k ≤ i → suf (fun j => fh (fn j)) (fun j => fh2 (fn2 j)) k j ≤ m) → G 27 [some (.ref a), some (.ref a2), some (iv (m : Int)), some (iv d), some (iv (suf (fun j => fh (fn j)) (fun j => fh2 (fn2 j)) i j : Int)), some (iv (i : Int))] [] h 0 0 := by
          intro n2
          induction n2 with
          | zero => intro i j m h1; omega
          | succ n2 ih2 =>
            intro i j m hn2 hi hij hm hat hle hle2
            refine gk_iload C dX3_likenessByShifts_27 rfl ?_
            refine gk_aload_n C dX3_likenessByShifts_29 rfl ?_
            refine gk_getf C f_X3_66.r dX3_likenessByShifts_30 (by (try simp only [hset_set]); first | assumption | exact hset_eq | (refine (hset_ne (by first | assumption | exact Ne.symm (by assumption))).trans ?_; first | assumption | exact hset_eq | (refine (hset_ne (by first | assumption | exact Ne.symm (by assumption))).trans ?_; first | assumption | exact hset_eq | (refine (hset_ne (by first | assumption | exact Ne.symm (by assumption))).trans ?_; first | assumption | exact hset_eq)))) (by rfl) ?_
            refine gk_icmp_ge C (tgt := 87) (by omega) (by omega) dX3_likenessByShifts_33 (by decide) (fun c_33 => ?_) (fun c_33 => ?_)
            · refine gk_iinc_3 C rfl (by decide) dX3_likenessByShifts_87 ?_
              refine gk_goto C (tgt := 9) dX3_likenessByShifts_90 (by decide) ?_
              refine ih (d + 1) m _ _ (by omega) (by omega) hm hat (fun k j hk hj hkd => ?_)
              by_cases e : (k : Int) - j = d
              · exact hle2 k j hk hj e (by omega)
              · exact hle k j hk hj (by omega)
            · have key3 : ∀ x : Int, x = ((suf (fun j => fh (fn j)) (fun j => fh2 (fn2 j)) (i + 1) (j + 1) : Nat) : Int) → j < pl2 → G 27 [some (.ref a), some (.ref a2), some (iv (max (m : Int) x)), some (iv d), some (iv x), some (iv ((i : Int) + 1))] [] h 0 0 := by
                intro x ex hj3
                subst ex
                have hl3 := suf_le1 (fun j => fh (fn j)) (fun j => fh2 (fn2 j)) (i + 1) (j + 1)
                rw [show max (m : Int) ((suf (fun j => fh (fn j)) (fun j => fh2 (fn2 j)) (i + 1) (j + 1) : Nat) : Int) = ((max m (suf (fun j => fh (fn j)) (fun j => fh2 (fn2 j)) (i + 1) (j + 1)) : Nat) : Int) by omega]
                refine ih2 (i + 1) (j + 1) (max m (suf (fun j => fh (fn j)) (fun j => fh2 (fn2 j)) (i + 1) (j + 1))) (by omega) (by omega) (by omega) (by omega) (alAt_max hat (by omega) (by omega)) (fun k j hk hj hkd => Nat.le_trans (hle k j hk hj hkd) (Nat.le_max_left _ _)) (fun k j2 hk hj hkd hki => ?_)
                by_cases e : k = i + 1
                · rw [e, show j2 = j + 1 by omega]
                  exact Nat.le_max_right _ _
                · exact Nat.le_trans (hle2 k j2 hk hj hkd (by omega)) (Nat.le_max_left _ _)
              refine gk_iload C dX3_likenessByShifts_36 rfl ?_
              refine gk_iload_n C dX3_likenessByShifts_38 rfl ?_
              refine gk_isub C dX3_likenessByShifts_39 ?_
              refine gk_aload_n C dX3_likenessByShifts_40 rfl ?_
              refine gk_getf C f_X3_66.r dX3_likenessByShifts_41 (by (try simp only [hset_set]); first | assumption | exact hset_eq | (refine (hset_ne (by first | assumption | exact Ne.symm (by assumption))).trans ?_; first | assumption | exact hset_eq | (refine (hset_ne (by first | assumption | exact Ne.symm (by assumption))).trans ?_; first | assumption | exact hset_eq | (refine (hset_ne (by first | assumption | exact Ne.symm (by assumption))).trans ?_; first | assumption | exact hset_eq)))) (by rfl) ?_
              refine gk_icmp_ge C (tgt := 87) (by omega) (by omega) dX3_likenessByShifts_44 (by decide) (fun c_44 => ?_) (fun c_44 => ?_)
              · refine gk_iinc_3 C rfl (by decide) dX3_likenessByShifts_87 ?_
                refine gk_goto C (tgt := 9) dX3_likenessByShifts_90 (by decide) ?_
                refine ih (d + 1) m _ _ (by omega) (by omega) hm hat (fun k j hk hj hkd => ?_)
                by_cases e : (k : Int) - j = d
                · exact hle2 k j hk hj e (by omega)
                · exact hle k j hk hj (by omega)
              · refine gk_aload_n C dX3_likenessByShifts_47 rfl ?_
                refine gk_iload C dX3_likenessByShifts_48 rfl ?_
                refine gk_callV C o_X3_heightAt k_X3_77 dX3_likenessByShifts_50 (c_X3_heightAt hfl ha hN hpl hfn hH (z := (i : Int)) (by omega)) (by (try simp only [hset_set]); first | assumption | exact hset_eq | (refine (hset_ne (by first | assumption | exact Ne.symm (by assumption))).trans ?_; first | assumption | exact hset_eq | (refine (hset_ne (by first | assumption | exact Ne.symm (by assumption))).trans ?_; first | assumption | exact hset_eq | (refine (hset_ne (by first | assumption | exact Ne.symm (by assumption))).trans ?_; first | assumption | exact hset_eq)))) rfl rfl rfl (by decide) (by decide) (by exact Nat.le_of_ble_eq_true rfl) (fun _ _ z => z.elim) (fun v_50 h_50 p_50 => ?_)
                obtain ⟨rfl, rfl⟩ := p_50
                dsimp only [gk_push]
                refine gk_aload_n C dX3_likenessByShifts_53 rfl ?_
                refine gk_iload C dX3_likenessByShifts_54 rfl ?_
                refine gk_iload_n C dX3_likenessByShifts_56 rfl ?_
                refine gk_isub C dX3_likenessByShifts_57 ?_
                refine gk_callV C o_X3_heightAt k_X3_77 dX3_likenessByShifts_58 (c_X3_heightAt hfl ha2 hN2 hpl2 hfn2 hH2 (z := (i : Int) - d) (by omega)) (by (try simp only [hset_set]); first | assumption | exact hset_eq | (refine (hset_ne (by first | assumption | exact Ne.symm (by assumption))).trans ?_; first | assumption | exact hset_eq | (refine (hset_ne (by first | assumption | exact Ne.symm (by assumption))).trans ?_; first | assumption | exact hset_eq | (refine (hset_ne (by first | assumption | exact Ne.symm (by assumption))).trans ?_; first | assumption | exact hset_eq)))) rfl rfl rfl (by decide) (by decide) (by exact Nat.le_of_ble_eq_true rfl) (fun _ _ z => z.elim) (fun v_58 h_58 p_58 => ?_)
                obtain ⟨rfl, rfl⟩ := p_58
                dsimp only [gk_push]
                have hh1 := hhr (i : Int) (by omega) (by omega)
                have hh2 := hhr2 ((i : Int) - d) (by omega) (by omega)
                refine gk_icmp_ne C (tgt := 71) (by omega) (by omega) dX3_likenessByShifts_61 (by decide) (fun c_61 => ?_) (fun c_61 => ?_)
                · have es : suf (fun j => fh (fn j)) (fun j => fh2 (fn2 j)) (i + 1) (j + 1) = 0 := by
                    rw [suf_s, if_neg (by rw [show (j : Int) = (i : Int) - d by omega]; exact c_61)]
                  have er : (0 : Int) = ((suf (fun j => fh (fn j)) (fun j => fh2 (fn2 j)) (i + 1) (j + 1) : Nat) : Int) := by omega
                  refine gk_iconst C dX3_likenessByShifts_71 ?_
                  refine gk_istore_4 C rfl (by decide) dX3_likenessByShifts_72 ?_
                  refine gk_iload_n C dX3_likenessByShifts_74 rfl ?_
                  refine gk_iload C dX3_likenessByShifts_75 rfl ?_
                  refine gk_mmax C (by omega) (by omega) k_X3_95.1 dX3_likenessByShifts_77 (by decide) (by exact Nat.le_of_ble_eq_true rfl) (by decide) ?_
                  refine gk_istore_n_2 C rfl (by decide) dX3_likenessByShifts_80 ?_
                  refine gk_iinc_5 C rfl (by decide) dX3_likenessByShifts_81 ?_
                  refine gk_goto C (tgt := 27) dX3_likenessByShifts_84 (by decide) ?_
                  exact key3 _ er (by omega)
                · have es : suf (fun j => fh (fn j)) (fun j => fh2 (fn2 j)) (i + 1) (j + 1) = suf (fun j => fh (fn j)) (fun j => fh2 (fn2 j)) i j + 1 := by
                    rw [suf_s, if_pos (by rw [show (j : Int) = (i : Int) - d by omega]; exact c_61)]
                  have hl1 := suf_le1 (fun j => fh (fn j)) (fun j => fh2 (fn2 j)) i j
                  have er : ((suf (fun j => fh (fn j)) (fun j => fh2 (fn2 j)) i j : Int) + 1) = ((suf (fun j => fh (fn j)) (fun j => fh2 (fn2 j)) (i + 1) (j + 1) : Nat) : Int) := by omega
                  refine gk_iload C dX3_likenessByShifts_64 rfl ?_
                  refine gk_iconst C dX3_likenessByShifts_66 ?_
                  refine gk_iadd C dX3_likenessByShifts_67 ?_
                  refine gk_goto C (tgt := 72) dX3_likenessByShifts_68 (by decide) ?_
                  refine gk_istore_4 C rfl (by decide) dX3_likenessByShifts_72 ?_
                  refine gk_iload_n C dX3_likenessByShifts_74 rfl ?_
                  refine gk_iload C dX3_likenessByShifts_75 rfl ?_
                  refine gk_mmax C (by omega) (by omega) k_X3_95.1 dX3_likenessByShifts_77 (by decide) (by exact Nat.le_of_ble_eq_true rfl) (by decide) ?_
                  refine gk_istore_n_2 C rfl (by decide) dX3_likenessByShifts_80 ?_
                  refine gk_iinc_5 C rfl (by decide) dX3_likenessByShifts_81 ?_
                  refine gk_goto C (tgt := 27) dX3_likenessByShifts_84 (by decide) ?_
                  exact key3 _ er (by omega)
        by_cases q : 0 ≤ d
        · have h0 := key2 (pl + 1) d.toNat 0 m (by omega) (by omega) (by omega) hm hat hle (fun k j hk hj hkd hki => by rw [show j = 0 by omega, suf_z2]; exact Nat.zero_le _)
          rw [suf_z2] at h0
          rw [show max (0 : Int) d = ((d.toNat : Nat) : Int) by omega]
          exact h0
        · have h0 := key2 (pl + 1) 0 (-d).toNat m (by omega) (by omega) (by omega) hm hat hle (fun k j hk hj hkd hki => by rw [show k = 0 by omega, suf_z1]; exact Nat.zero_le _)
          rw [suf_z1] at h0
          rw [show max (0 : Int) d = ((0 : Nat) : Int) by omega]
          exact h0
  refine key (pl + pl2 + 3) (1 - (pl2 : Int)) 0 _ _ (by omega) (by omega) (by omega) (Or.inl rfl) (fun k j hk hj hkd => ?_)
  have e : k = 0 := by omega
  rw [e, suf_z1]
  exact Nat.le_refl _

def atn (A : Int → Int) (na : Nat) (B : Int → Int) (nb m : Nat) : Prop := m = 0 ∨ ∃ p q : Nat, p + m ≤ na ∧ q + m ≤ nb ∧ mtch A B p q m
theorem isAlike_of {A B : Int → Int} {na nb m : Nat} (h1 : ∀ p q r : Nat, p + r ≤ na → q + r ≤ nb → mtch A B p q r → r ≤ m) (h2 : atn A na B nb m) : isAlike A na B nb m := by
  have g1 : ∀ k j : Nat, k ≤ na → j ≤ nb → suf A B k j ≤ m := by
    intro k j hk hj
    have l1 := suf_le1 A B k j
    have l2 := suf_le2 A B k j
    have e := (suf_mtch A B (suf A B k j) (k - suf A B k j) (j - suf A B k j)).mp (by rw [show k - suf A B k j + suf A B k j = k by omega, show j - suf A B k j + suf A B k j = j by omega]; exact Nat.le_refl _)
    exact h1 _ _ _ (by omega) (by omega) e
  refine ⟨g1, ?_⟩
  rcases h2 with e | ⟨p, q, h3, h4, h5⟩
  · exact Or.inl e
  · refine Or.inr ⟨p + m, q + m, h3, h4, ?_⟩
    exact Nat.le_antisymm (g1 _ _ h3 h4) ((suf_mtch A B m p q).mpr h5)

set_option maxRecDepth 100000 in
set_option maxHeartbeats 4000000 in
theorem c_X3_begins {l : Launch} {Γ : GA} (hfl : l.stackTraces = false) {h : Hp} {a hA lA gA pA nA : Nat} {nb kd ou : Int} {wc fo pc pl : Nat} (ha : h a = some (oTu nb kd hA lA gA pA nA wc fo ou pc pl)) {fn : Int → Int} (hN : h nA = some (aI 128 fn)) (hpl : pl ≤ 128) (hfn : ∀ i : Int, 0 ≤ i → i < pl → 0 ≤ fn i ∧ fn i < 64) {fh : Int → Int} (hH : h hA = some (aI 64 fh)) (hhr : ∀ i : Int, 0 ≤ i → i < pl → 0 ≤ fh (fn i) ∧ fh (fn i) ≤ 8) {a2 hA2 lA2 gA2 pA2 nA2 : Nat} {nb2 kd2 ou2 : Int} {wc2 fo2 pc2 pl2 : Nat} (ha2 : h a2 = some (oTu nb2 kd2 hA2 lA2 gA2 pA2 nA2 wc2 fo2 ou2 pc2 pl2)) {fn2 : Int → Int} (hN2 : h nA2 = some (aI 128 fn2)) (hpl2 : pl2 ≤ 128) (hfn2 : ∀ i : Int, 0 ≤ i → i < pl2 → 0 ≤ fn2 i ∧ fn2 i < 64) {fh2 : Int → Int} (hH2 : h hA2 = some (aI 64 fh2)) (hhr2 : ∀ i : Int, 0 ≤ i → i < pl2 → 0 ≤ fh2 (fn2 i) ∧ fh2 (fn2 i) ≤ 8) : Ct l Γ m_X3_likenessByBeginnings [.ref a, .ref a2] h (fun v h' => ∃ m : Nat, v = some (iv (m : Int)) ∧ h' = h ∧ isAlike (fun j => fh (fn j)) pl (fun j => fh2 (fn2 j)) pl2 m) (fun _ _ => False) := by
  refine Ct.intro hfl (by decide +kernel) rfl (Nat.le_of_ble_eq_true rfl) ?_
  intro G C R T
  show G 0 [some (.ref a), some (.ref a2), none, none, none] [] h 0 0
  refine gk_iconst C dX3_likenessByBeginnings_0 ?_
  refine gk_istore_n_2 C rfl (by decide) dX3_likenessByBeginnings_1 ?_
  refine gk_iconst C dX3_likenessByBeginnings_2 ?_
  refine gk_istore_n_3 C rfl (by decide) dX3_likenessByBeginnings_3 ?_
  have key : ∀ (n i m : Nat) X, pl - i < n → i ≤ pl → m ≤ 128 → atn (fun j => fh (fn j)) pl (fun j => fh2 (fn2 j)) pl2 m → (∀ p q r : Nat, p < i → p + r ≤ pl → q + r ≤ pl2 → mtch (fun j => fh (fn j)) (fun j => fh2 (fn2 j)) p q r → r ≤ m) → G 4 [some (.ref a), some (.ref a2), some (iv (m : Int)), some (iv (i : Int)), X] [] h 0 0 := by
    intro n
    induction n with
    | zero => intro i m X h1; omega
    | succ n ih =>
      intro i m X hn hi hm hat hle
      refine gk_iload_n C dX3_likenessByBeginnings_4 rfl ?_
      refine gk_iload_n C dX3_likenessByBeginnings_5 rfl ?_
      refine gk_iadd C dX3_likenessByBeginnings_6 ?_
      refine gk_aload_n C dX3_likenessByBeginnings_7 rfl ?_
      refine gk_getf C f_X3_66.r dX3_likenessByBeginnings_8 (by (try simp only [hset_set]); first | assumption | exact hset_eq | (refine (hset_ne (by first | assumption | exact Ne.symm (by assumption))).trans ?_; first | assumption | exact hset_eq | (refine (hset_ne (by first | assumption | exact Ne.symm (by assumption))).trans ?_; first | assumption | exact hset_eq | (refine (hset_ne (by first | assumption | exact Ne.symm (by assumption))).trans ?_; first | assumption | exact hset_eq)))) (by rfl) ?_
      refine gk_icmp_ge C (tgt := 53) (by omega) (by omega) dX3_likenessByBeginnings_11 (by decide) (fun c_11 => ?_) (fun c_11 => ?_)
      · refine gk_iload_n C dX3_likenessByBeginnings_53 rfl ?_
        refine (R _ _ _ _ _ (by decide) (by decide)).1 _ rfl dX3_likenessByBeginnings_54 ?_
        refine ⟨m, rfl, rfl, isAlike_of (fun p q r hpr hqr hmt => ?_) hat⟩
        by_cases e : p < i
        · exact hle p q r e hpr hqr hmt
        · omega
      · refine gk_iconst C dX3_likenessByBeginnings_14 ?_
        refine gk_istore_4 C rfl (by decide) dX3_likenessByBeginnings_15 ?_
        have key2 : ∀ (n j m : Nat), pl2 - j < n → j ≤ pl2 → m ≤ 128 → atn (fun j => fh (fn j)) pl (fun j => fh2 (fn2 j)) pl2 m → (∀ p q r : Nat, p < i → p + r ≤ pl → q + r ≤ pl2 → mtch (fun j => fh (fn j)) (fun j => fh2 (fn2 j)) p q r → r ≤ m) → (∀ q r : Nat, q < j → i + r ≤ pl → q + r ≤ pl2 → mtch (fun j => fh (fn j)) (fun j => fh2 (fn2 j)) i q r → r ≤ m) → G 17 [some (.ref a), some (.ref a2), some (iv (m : Int)), some (iv (i : Int)), some (iv (j : Int))] [] h 0 0 := by
          intro n2
          induction n2 with
          | zero => intro j m h1; omega
          | succ n2 ih2 =>
            intro j m hn2 hj hm hat hle hle2
            refine gk_iload C dX3_likenessByBeginnings_17 rfl ?_
            refine gk_iload_n C dX3_likenessByBeginnings_19 rfl ?_
            refine gk_iadd C dX3_likenessByBeginnings_20 ?_
            refine gk_aload_n C dX3_likenessByBeginnings_21 rfl ?_
            refine gk_getf C f_X3_66.r dX3_likenessByBeginnings_22 (by (try simp only [hset_set]); first | assumption | exact hset_eq | (refine (hset_ne (by first | assumption | exact Ne.symm (by assumption))).trans ?_; first | assumption | exact hset_eq | (refine (hset_ne (by first | assumption | exact Ne.symm (by assumption))).trans ?_; first | assumption | exact hset_eq | (refine (hset_ne (by first | assumption | exact Ne.symm (by assumption))).trans ?_; first | assumption | exact hset_eq)))) (by rfl) ?_
            refine gk_icmp_ge C (tgt := 47) (by omega) (by omega) dX3_likenessByBeginnings_25 (by decide) (fun c_25 => ?_) (fun c_25 => ?_)
            · refine gk_iinc_3 C rfl (by decide) dX3_likenessByBeginnings_47 ?_
              refine gk_goto C (tgt := 4) dX3_likenessByBeginnings_50 (by decide) ?_
              refine ih (i + 1) m _ (by omega) (by omega) hm hat (fun p q r hp hpr hqr hmt => ?_)
              by_cases e : p = i
              · subst e
                by_cases e2 : q < j
                · exact hle2 q r e2 hpr hqr hmt
                · omega
              · exact hle p q r (by omega) hpr hqr hmt
            · refine gk_iload_n C dX3_likenessByBeginnings_28 rfl ?_
              refine gk_aload_n C dX3_likenessByBeginnings_29 rfl ?_
              refine gk_iload_n C dX3_likenessByBeginnings_30 rfl ?_
              refine gk_aload_n C dX3_likenessByBeginnings_31 rfl ?_
              refine gk_iload C dX3_likenessByBeginnings_32 rfl ?_
              refine gk_callV C o_X3_runFrom k_X3_101 dX3_likenessByBeginnings_34 (c_X3_runFrom hfl ha hN hpl hfn hH hhr ha2 hN2 hpl2 hfn2 hH2 hhr2 (p := i) (q := j) (by omega) (by omega)) (by (try simp only [hset_set]); first | assumption | exact hset_eq | (refine (hset_ne (by first | assumption | exact Ne.symm (by assumption))).trans ?_; first | assumption | exact hset_eq | (refine (hset_ne (by first | assumption | exact Ne.symm (by assumption))).trans ?_; first | assumption | exact hset_eq | (refine (hset_ne (by first | assumption | exact Ne.symm (by assumption))).trans ?_; first | assumption | exact hset_eq)))) rfl rfl rfl (by decide) (by decide) (by exact Nat.le_of_ble_eq_true rfl) (fun _ _ z => z.elim) (fun v_34 h_34 p_34 => ?_)
              obtain ⟨rn, rfl, rfl, hrm, hrr, hrx⟩ := p_34
              dsimp only [gk_push]
              have key3 : ∀ x : Int, x = max (m : Int) (rn : Int) → G 17 [some (.ref a), some (.ref a2), some (iv x), some (iv (i : Int)), some (iv ((j : Int) + 1))] [] h_34 0 0 := by
                intro x ex
                have ex2 : x = ((max m rn : Nat) : Int) := by omega
                rw [ex2]
                refine ih2 (j + 1) (max m rn) (by omega) (by omega) (by omega) ?_ (fun p q r hp h1 h2 h3 => Nat.le_trans (hle p q r hp h1 h2 h3) (Nat.le_max_left _ _)) (fun q r hq h1 h2 h3 => ?_)
                · by_cases c : m ≤ rn
                  · rw [Nat.max_eq_right c]
                    rcases hrr with e | e
                    · exact Or.inl e
                    · exact Or.inr ⟨i, j, e.1, e.2, hrm⟩
                  · rw [Nat.max_eq_left (by omega)]
                    exact hat
                · by_cases e : q = j
                  · subst e
                    by_cases c : r ≤ rn
                    · omega
                    · exact absurd ⟨by omega, by omega, h3 rn (by omega)⟩ hrx
                  · exact Nat.le_trans (hle2 q r (by omega) h1 h2 h3) (Nat.le_max_left _ _)
              refine gk_mmax C (by omega) (by omega) k_X3_95.1 dX3_likenessByBeginnings_37 (by decide) (by exact Nat.le_of_ble_eq_true rfl) (by decide) ?_
              refine gk_istore_n_2 C rfl (by decide) dX3_likenessByBeginnings_40 ?_
              refine gk_iinc_4 C rfl (by decide) dX3_likenessByBeginnings_41 ?_
              refine gk_goto C (tgt := 17) dX3_likenessByBeginnings_44 (by decide) ?_
              exact key3 _ rfl
        exact key2 (pl2 + 1) 0 m (by omega) (by omega) hm hat hle (fun q r hq => absurd hq (Nat.not_lt_zero _))
  exact key (pl + 1) 0 0 _ (by omega) (by omega) (by omega) (Or.inl rfl) (fun p q r hp => absurd hp (Nat.not_lt_zero _))

theorem hset_none {h : Hp} {a q : Nat} {e : AE} (z : hset h a e q = none) : q ≠ a ∧ h q = none := by
  by_cases c : q = a
  · rw [c, hset_eq] at z
    cases z
  · rw [hset_ne c] at z
    exact ⟨c, z⟩
theorem hset_pull {h : Hp} {a q : Nat} {x y z : AE} (c : q ≠ a) : hset (hset (hset h a x) q y) a z = hset (hset h q y) a z := by
  rw [hset_comm (h := h) (Ne.symm c), hset_set]

set_option maxRecDepth 100000 in
set_option maxHeartbeats 4000000 in
theorem c_X3_init {l : Launch} {Γ : GA} (hfl : l.stackTraces = false) {h : Hp} {a : Nat} {x0 x1 : Int} {x2 x3 x4 x5 x6 : Value} {nb kd : Int} (ha : h a = some (oO 4 [iv x0, iv x1, x2, x3, x4, x5, x6, iv 0, iv 0, iv 0, iv 0, iv 0])) : Ct l Γ m_X3_init [.ref a, iv nb, iv kd] h (fun v h' => v = none ∧ ∃ hA lA gA pA nA, (hA ≠ a ∧ h hA = none) ∧ (lA ≠ a ∧ lA ≠ hA ∧ h lA = none) ∧ (gA ≠ a ∧ gA ≠ lA ∧ gA ≠ hA ∧ h gA = none) ∧ (pA ≠ a ∧ pA ≠ gA ∧ pA ≠ lA ∧ pA ≠ hA ∧ h pA = none) ∧ (nA ≠ a ∧ nA ≠ pA ∧ nA ≠ gA ∧ nA ≠ lA ∧ nA ≠ hA ∧ h nA = none) ∧ h' = hset (hset (hset (hset (hset (hset h hA (aI 64 (fun _ => 0))) lA (aI 64 (fun _ => 0))) gA (aI 64 (fun _ => 0))) pA (aI 64 (fun _ => 0))) nA (aI 128 (fun _ => 0))) a (oTu nb kd hA lA gA pA nA 0 0 0 0 0)) (fun _ _ => False) := by
  refine Ct.intro hfl (by decide +kernel) rfl (Nat.le_of_ble_eq_true rfl) ?_
  intro G C R T
  show G 0 [some (.ref a), some (iv nb), some (iv kd)] [] h 0 0
  refine gk_aload_n C dX3_init_0 rfl ?_
  refine gk_objInit C oi_X3 oi_im oi_cd dX3_init_1 (by decide) (by exact Nat.le_of_ble_eq_true rfl) ?_
  refine gk_aload_n C dX3_init_4 rfl ?_
  refine gk_iload_n C dX3_init_5 rfl ?_
  refine gk_putfF C f_X3_9 rfl dX3_init_6 (by (try simp only [hset_set]); first | assumption | exact hset_eq | (refine (hset_ne (by first | assumption | exact Ne.symm (by assumption))).trans ?_; first | assumption | exact hset_eq | (refine (hset_ne (by first | assumption | exact Ne.symm (by assumption))).trans ?_; first | assumption | exact hset_eq | (refine (hset_ne (by first | assumption | exact Ne.symm (by assumption))).trans ?_; first | assumption | exact hset_eq)))) rfl rfl (by exact Nat.le_of_ble_eq_true rfl) ?_
  refine gk_aload_n C dX3_init_9 rfl ?_
  refine gk_iload_n C dX3_init_10 rfl ?_
  refine gk_putfF C f_X3_15 rfl dX3_init_11 (by (try simp only [hset_set]); first | assumption | exact hset_eq | (refine (hset_ne (by first | assumption | exact Ne.symm (by assumption))).trans ?_; first | assumption | exact hset_eq | (refine (hset_ne (by first | assumption | exact Ne.symm (by assumption))).trans ?_; first | assumption | exact hset_eq | (refine (hset_ne (by first | assumption | exact Ne.symm (by assumption))).trans ?_; first | assumption | exact hset_eq)))) rfl rfl (by exact Nat.le_of_ble_eq_true rfl) ?_
  rw [hset_set]
  refine gk_aload_n C dX3_init_14 rfl ?_
  refine gk_bipush C dX3_init_15 (by decide) ?_
  refine gk_newI C dX3_init_17 (by decide) (by decide) (fun q_17 e_17 => ?_)
  obtain ⟨na_17, z⟩ := hset_none e_17
  have m_17 := z
  refine gk_putfF C f_X3_18 rfl dX3_init_19 (by (try simp only [hset_set]); first | assumption | exact hset_eq | (refine (hset_ne (by first | assumption | exact Ne.symm (by assumption))).trans ?_; first | assumption | exact hset_eq | (refine (hset_ne (by first | assumption | exact Ne.symm (by assumption))).trans ?_; first | assumption | exact hset_eq | (refine (hset_ne (by first | assumption | exact Ne.symm (by assumption))).trans ?_; first | assumption | exact hset_eq)))) rfl rfl (by exact Nat.le_of_ble_eq_true rfl) ?_
  rw [hset_pull na_17]
  refine gk_aload_n C dX3_init_22 rfl ?_
  refine gk_bipush C dX3_init_23 (by decide) ?_
  refine gk_newI C dX3_init_25 (by decide) (by decide) (fun q_25 e_25 => ?_)
  obtain ⟨na_25, z⟩ := hset_none e_25
  obtain ⟨n_25_17, z⟩ := hset_none z
  have m_25 := z
  refine gk_putfF C f_X3_22 rfl dX3_init_27 (by (try simp only [hset_set]); first | assumption | exact hset_eq | (refine (hset_ne (by first | assumption | exact Ne.symm (by assumption))).trans ?_; first | assumption | exact hset_eq | (refine (hset_ne (by first | assumption | exact Ne.symm (by assumption))).trans ?_; first | assumption | exact hset_eq | (refine (hset_ne (by first | assumption | exact Ne.symm (by assumption))).trans ?_; first | assumption | exact hset_eq)))) rfl rfl (by exact Nat.le_of_ble_eq_true rfl) ?_
  rw [hset_pull na_25]
  refine gk_aload_n C dX3_init_30 rfl ?_
  refine gk_bipush C dX3_init_31 (by decide) ?_
  refine gk_newI C dX3_init_33 (by decide) (by decide) (fun q_33 e_33 => ?_)
  obtain ⟨na_33, z⟩ := hset_none e_33
  obtain ⟨n_33_25, z⟩ := hset_none z
  obtain ⟨n_33_17, z⟩ := hset_none z
  have m_33 := z
  refine gk_putfF C f_X3_25 rfl dX3_init_35 (by (try simp only [hset_set]); first | assumption | exact hset_eq | (refine (hset_ne (by first | assumption | exact Ne.symm (by assumption))).trans ?_; first | assumption | exact hset_eq | (refine (hset_ne (by first | assumption | exact Ne.symm (by assumption))).trans ?_; first | assumption | exact hset_eq | (refine (hset_ne (by first | assumption | exact Ne.symm (by assumption))).trans ?_; first | assumption | exact hset_eq)))) rfl rfl (by exact Nat.le_of_ble_eq_true rfl) ?_
  rw [hset_pull na_33]
  refine gk_aload_n C dX3_init_38 rfl ?_
  refine gk_bipush C dX3_init_39 (by decide) ?_
  refine gk_newI C dX3_init_41 (by decide) (by decide) (fun q_41 e_41 => ?_)
  obtain ⟨na_41, z⟩ := hset_none e_41
  obtain ⟨n_41_33, z⟩ := hset_none z
  obtain ⟨n_41_25, z⟩ := hset_none z
  obtain ⟨n_41_17, z⟩ := hset_none z
  have m_41 := z
  refine gk_putfF C f_X3_28 rfl dX3_init_43 (by (try simp only [hset_set]); first | assumption | exact hset_eq | (refine (hset_ne (by first | assumption | exact Ne.symm (by assumption))).trans ?_; first | assumption | exact hset_eq | (refine (hset_ne (by first | assumption | exact Ne.symm (by assumption))).trans ?_; first | assumption | exact hset_eq | (refine (hset_ne (by first | assumption | exact Ne.symm (by assumption))).trans ?_; first | assumption | exact hset_eq)))) rfl rfl (by exact Nat.le_of_ble_eq_true rfl) ?_
  rw [hset_pull na_41]
  refine gk_aload_n C dX3_init_46 rfl ?_
  refine gk_sipush C dX3_init_47 (by decide) ?_
  refine gk_newI C dX3_init_50 (by decide) (by decide) (fun q_50 e_50 => ?_)
  obtain ⟨na_50, z⟩ := hset_none e_50
  obtain ⟨n_50_41, z⟩ := hset_none z
  obtain ⟨n_50_33, z⟩ := hset_none z
  obtain ⟨n_50_25, z⟩ := hset_none z
  obtain ⟨n_50_17, z⟩ := hset_none z
  have m_50 := z
  refine gk_putfF C f_X3_31 rfl dX3_init_52 (by (try simp only [hset_set]); first | assumption | exact hset_eq | (refine (hset_ne (by first | assumption | exact Ne.symm (by assumption))).trans ?_; first | assumption | exact hset_eq | (refine (hset_ne (by first | assumption | exact Ne.symm (by assumption))).trans ?_; first | assumption | exact hset_eq | (refine (hset_ne (by first | assumption | exact Ne.symm (by assumption))).trans ?_; first | assumption | exact hset_eq)))) rfl rfl (by exact Nat.le_of_ble_eq_true rfl) ?_
  rw [hset_pull na_50]
  refine (R _ _ _ _ _ (by decide) (by decide)).2.2.1 rfl dX3_init_55 ?_
  exact ⟨rfl, q_17, q_25, q_33, q_41, q_50, ⟨na_17, m_17⟩, ⟨na_25, n_25_17, m_25⟩, ⟨na_33, n_33_25, n_33_17, m_33⟩, ⟨na_41, n_41_33, n_41_25, n_41_17, m_41⟩, ⟨na_50, n_50_41, n_50_33, n_50_25, n_50_17, m_50⟩, rfl⟩
