/-! the reference: how alike two tunes are -/
def plA (q q2 : Int × (Int → Int) × (Int → Int)) : Prop := q.1 = q2.1 ∧ ∀ j : Int, j < q.1 → 0 ≤ j → q.2.1 j = q2.2.1 j ∧ q.2.2 j = q2.2.2 j
theorem plA_pst {q q2 : Int × (Int → Int) × (Int → Int)} {b k n : Int} (h : plA q q2) : plA (pst q b k n) (pst q2 b k n) := by
  refine ⟨congrArg (fun y => y + n) h.1, fun j h1 h0 => ?_⟩
  have h2 : j < q.1 + n := h1
  show mapp q.2.1 q.1 b n j = mapp q2.2.1 q2.1 b n j ∧ mcon q.2.2 q.1 k n j = mcon q2.2.2 q2.1 k n j
  rw [← h.1]
  unfold mapp mcon
  by_cases c : q.1 ≤ j ∧ j < q.1 + n
  · rw [if_pos c, if_pos c, if_pos c, if_pos c]
    exact ⟨rfl, rfl⟩
  · rw [if_neg c, if_neg c, if_neg c, if_neg c]
    exact h.2 j (by omega) h0
theorem plA_prep {q q2 : Int × (Int → Int) × (Int → Int)} {b k n : Int} (h : plA q q2) : ∀ i : Nat, plA (prep q b k n i) (prep q2 b k n i)
  | 0 => h
  | i + 1 => plA_pst (plA_prep h i)
theorem mPl_agree {s s2 : MS} {t : Int} (h7 : s2 7 = s 7) (h8 : s2 8 = s 8) : ∀ n : Nat, plA (mPl s2 t n) (mPl s t n)
  | 0 => ⟨rfl, fun j h1 h0 => by
      have h2 : j < 0 := h1
      omega⟩
  | n + 1 => by
    show plA (prep (mPl s2 t n) (64 * t + mFk s2 t n) n (s2 7 (8 * t + n) - mFk s2 t n) (mTw s2 t n)) (prep (mPl s t n) (64 * t + mFk s t n) n (s 7 (8 * t + n) - mFk s t n) (mTw s t n))
    unfold mFk mTw
    rw [h7, h8]
    exact plA_prep (mPl_agree h7 h8 n) _
theorem mRow_agree {s s2 : MS} {t : Int} (h3 : s2 3 = s 3) (h7 : s2 7 = s 7) (h8 : s2 8 = s 8) : mMany s2 t = mMany s t ∧ ∀ j : Int, 0 ≤ j → j < mMany s t → mRow s2 t j = mRow s t j ∧ mPart s2 t j = mPart s t j := by
  have h := mPl_agree (s := s) (s2 := s2) (t := t) h7 h8 (s 3 t).toNat
  unfold mMany mRow mPart
  rw [h3]
  exact ⟨h.1, fun j h0 h1 => h.2 j (by rw [h.1]; exact h1) h0⟩
theorem VPt_congr {s s2 : MS} {t : Int} (h3 : s2 3 = s 3) (h7 : s2 7 = s 7) (h : VPt s t) : VPt s2 t := by
  intro k h0 h1
  have h2 := h k h0 (by rw [← h3]; exact h1)
  unfold mFk at *
  rw [h7]
  exact h2
theorem suf_congr {A A2 B B2 : Int → Int} : ∀ (k j : Nat), (∀ i : Nat, i < k → A i = A2 i) → (∀ i : Nat, i < j → B i = B2 i) → suf A B k j = suf A2 B2 k j
  | 0, j, _, _ => by rw [suf_z1, suf_z1]
  | k + 1, 0, _, _ => by rw [suf_z2, suf_z2]
  | k + 1, j + 1, ha, hb => by
    rw [suf_s, suf_s, suf_congr k j (fun i h => ha i (by omega)) (fun i h => hb i (by omega)), ha k (by omega), hb j (by omega)]
theorem moS_zz {s : MS} {a b : Nat} {f g f2 g2 : Int → Int} (c : b ≠ a) : moS (moS (moS (moS s a g) b f) a g2) b f2 = moS (moS s a g2) b f2 := by
  rw [moS_comm c, moS_moS, moS_moS]
def mA (s : MS) (t : Int) : Int → Int := fun j => s 4 (mRow s t j)
def MAlike (s : MS) (t t2 r c : Int) : Prop :=
  (¬ ((0 ≤ t ∧ t < s 0 0) ∧ (0 ≤ t2 ∧ t2 < s 0 0)) ∧ c = 1 ∧ r = 0) ∨ (((0 ≤ t ∧ t < s 0 0) ∧ (0 ≤ t2 ∧ t2 < s 0 0)) ∧ c = 0 ∧ ∃ m : Nat, r = m ∧ isAlike (mA s t) (mMany s t).toNat (mA s t2) (mMany s t2).toNat m)
theorem al_le {A B : Int → Int} {na nb m : Nat} (h : alAt A na B nb m) : m ≤ na := alAt_le h

set_option maxRecDepth 100000 in
set_option maxHeartbeats 4000000 in
theorem m_tellsAlike {l : Launch} {Γ : GA} (hfl : l.stackTraces = false) {ad : Nat → Nat} (I : IM ad) {s : MS} (V : VM s) (VP : ∀ t : Int, 0 ≤ t → t < s 0 0 → VPt s t) {t t2 : Int} (ht : -2147483648 ≤ t ∧ t ≤ 2147483647) (ht2 : -2147483648 ≤ t2 ∧ t2 ≤ 2147483647) : Ct l Γ m_X5_tellsAlike [.ref (ad 40), iv t, iv t2] (HM ad s) (fun v h' => ∃ (r c : Int) (s2 : MS), v = some (iv r) ∧ h' = HM ad s2 ∧ MAlike s t t2 r c ∧ mSame s s2 ∧ VM s2 ∧ s2 39 0 = c) (fun _ _ => False) := by
  have b0 := V.at 0 0 rfl
  have V0 := VM_th V 0 (by omega)
  refine Ct.intro hfl (by decide +kernel) rfl (Nat.le_of_ble_eq_true rfl) ?_
  intro G C R T
  show G 0 [some (.ref (ad 40)), some (iv t), some (iv t2), none, none, none, none] [] (HM ad s) 0 0
  refine gk_aload_n C dX5_tellsAlike_0 rfl ?_
  refine gk_aload_n C dX5_tellsAlike_1 rfl ?_
  refine gk_iload_n C dX5_tellsAlike_2 rfl ?_
  refine gk_callV C o_X5_isTune k_X5_125 dX5_tellsAlike_3 (m_isTune hfl I V ht) (mo_obj I) rfl rfl rfl (by decide) (by decide) (by exact Nat.le_of_ble_eq_true rfl) (fun _ _ z => z.elim) (fun v_3 h_3 p_3 => ?_)
  obtain ⟨r_3, rfl, rb_3, rc_3, rfl⟩ := p_3
  dsimp only [gk_push]
  refine gk_if_eq C (tgt := 21) (by omega) dX5_tellsAlike_6 (by decide) (fun c_6 => ?_) (fun c_6 => ?_)
  · refine gk_iconst C dX5_tellsAlike_21 ?_
    refine mo_putf C I f_X5_107 (by decide) dX5_tellsAlike_22 ?_
    refine gk_aload_n C dX5_tellsAlike_25 rfl ?_
    refine mo_getf C I f_X5_107.r dX5_tellsAlike_26 (by rfl) ?_
    try simp only [moS3_ap, moS_ap, Nat.reduceEqDiff, if_true, if_false, reduceIte]
    refine gk_if_le C (tgt := 34) (by omega) dX5_tellsAlike_29 (by decide) (fun c_29 => ?_) (fun c_29 => ?_)
    · exact absurd c_29 (by omega)
    · refine gk_iconst C dX5_tellsAlike_32 ?_
      refine (R _ _ _ _ _ (by decide) (by decide)).1 _ rfl dX5_tellsAlike_33 ?_
      exact ⟨_, _, _, rfl, rfl, Or.inl ⟨by omega, rfl, rfl⟩, (mSame.of.set (j := 39) rfl), (VM_th V 1 (by omega)), rfl⟩
  · refine gk_aload_n C dX5_tellsAlike_9 rfl ?_
    refine gk_iload_n C dX5_tellsAlike_10 rfl ?_
    refine gk_callV C o_X5_isTune k_X5_125 dX5_tellsAlike_11 (m_isTune hfl I V ht2) (mo_obj I) rfl rfl rfl (by decide) (by decide) (by exact Nat.le_of_ble_eq_true rfl) (fun _ _ z => z.elim) (fun v_11 h_11 p_11 => ?_)
    obtain ⟨r_11, rfl, rb_11, rc_11, rfl⟩ := p_11
    dsimp only [gk_push]
    refine gk_if_eq C (tgt := 21) (by omega) dX5_tellsAlike_14 (by decide) (fun c_14 => ?_) (fun c_14 => ?_)
    · refine gk_iconst C dX5_tellsAlike_21 ?_
      refine mo_putf C I f_X5_107 (by decide) dX5_tellsAlike_22 ?_
      refine gk_aload_n C dX5_tellsAlike_25 rfl ?_
      refine mo_getf C I f_X5_107.r dX5_tellsAlike_26 (by rfl) ?_
      try simp only [moS3_ap, moS_ap, Nat.reduceEqDiff, if_true, if_false, reduceIte]
      refine gk_if_le C (tgt := 34) (by omega) dX5_tellsAlike_29 (by decide) (fun c_29 => ?_) (fun c_29 => ?_)
      · exact absurd c_29 (by omega)
      · refine gk_iconst C dX5_tellsAlike_32 ?_
        refine (R _ _ _ _ _ (by decide) (by decide)).1 _ rfl dX5_tellsAlike_33 ?_
        exact ⟨_, _, _, rfl, rfl, Or.inl ⟨by omega, rfl, rfl⟩, (mSame.of.set (j := 39) rfl), (VM_th V 1 (by omega)), rfl⟩
    · refine gk_iconst C dX5_tellsAlike_17 ?_
      refine gk_goto C (tgt := 22) dX5_tellsAlike_18 (by decide) ?_
      refine mo_putf C I f_X5_107 (by decide) dX5_tellsAlike_22 ?_
      refine gk_aload_n C dX5_tellsAlike_25 rfl ?_
      refine mo_getf C I f_X5_107.r dX5_tellsAlike_26 (by rfl) ?_
      try simp only [moS3_ap, moS_ap, Nat.reduceEqDiff, if_true, if_false, reduceIte]
      refine gk_if_le C (tgt := 34) (by omega) dX5_tellsAlike_29 (by decide) (fun c_29 => ?_) (fun c_29 => ?_)
      · refine gk_aload_n C dX5_tellsAlike_34 rfl ?_
        refine gk_iload_n C dX5_tellsAlike_35 rfl ?_
        refine gk_callV C o_X5_plays k_X5_141 dX5_tellsAlike_36 (m_plays hfl I V0 (t := t2) (by omega) (VP t2 (by omega) (by omega))) (mo_obj I) rfl rfl rfl (by decide) (by decide) (by exact Nat.le_of_ble_eq_true rfl) (fun _ _ z => z.elim) (fun v_36 h_36 p_36 => ?_)
        obtain ⟨rfl, rfl⟩ := p_36
        dsimp only [gk_push]
        have VQ := VM_play V0 (VP t2 (by omega) (by omega)) (show 0 ≤ t2 ∧ t2 < 10 by omega)
        have bm := mMany_bd V (VP t2 (by omega) (by omega))
        have bm1 := mMany_bd V (VP t (by omega) (by omega))
        have hS : mSame s (mPlay (moS s 39 (fun _ => 0)) t2) := (mSame.of.set (j := 39) rfl).set3
        have e9 := mPlay_9 (s := s) (t := t2) (c := 0)
        have e10 := mPlay_10 (s := s) (t := t2) (c := 0)
        have e39 : mPlay (moS s 39 (fun _ => 0)) t2 39 0 = 0 := rfl
        generalize mPlay (moS s 39 (fun _ => 0)) t2 = s2 at *
        obtain ⟨nb, hnb⟩ : ∃ nb : Nat, mMany s t2 = (nb : Int) := ⟨(mMany s t2).toNat, by omega⟩
        obtain ⟨na, hna⟩ : ∃ na : Nat, mMany s t = (na : Int) := ⟨(mMany s t).toNat, by omega⟩
        refine gk_aload_n C dX5_tellsAlike_39 rfl ?_
        refine mo_getf C I f_X5_138.r dX5_tellsAlike_40 (by rfl) ?_
        try simp only [moS3_ap, moS_ap, Nat.reduceEqDiff, if_true, if_false, reduceIte]
        rw [e9, hnb]
        refine gk_istore_n_3 C rfl (by decide) dX5_tellsAlike_43 ?_
        refine gk_iconst C dX5_tellsAlike_44 ?_
        refine gk_istore_4 C rfl (by decide) dX5_tellsAlike_45 ?_
        have key : ∀ (n k : Nat) (g f : Int → Int) x5 x6, nb - k < n → k ≤ nb → (∀ i : Nat, i < k → g i = mA s t2 i) → (∀ i : Nat, i < k → f i = 0) → (∀ i, -1 ≤ g i ∧ g i ≤ 8) → (∀ i, 0 ≤ f i ∧ f i ≤ 128) → G 47 [some (.ref (ad 40)), some (iv t), some (iv t2), some (iv (nb : Int)), some (iv (k : Int)), x5, x6] [] (HM ad (moS (moS s2 12 g) 13 f)) 0 0 := by
          intro n
          induction n with
          | zero => intro k g f x5 x6 h1; omega
          | succ n ih =>
            intro k g f x5 x6 hn hk hg hf bg bf
            have b10 := VQ.at 10 (k : Int) rfl
            have b4 := VQ.at 4 (s2 10 k) rfl
            refine gk_iload C dX5_tellsAlike_47 rfl ?_
            refine gk_iload_n C dX5_tellsAlike_49 rfl ?_
            refine gk_icmp_ge C (tgt := 86) (by omega) (by omega) dX5_tellsAlike_50 (by decide) (fun c_50 => ?_) (fun c_50 => ?_)
            · refine gk_aload_n C dX5_tellsAlike_86 rfl ?_
              refine mo_getf C I f_X5_44.r dX5_tellsAlike_87 (by rfl) ?_
              try simp only [moS3_ap, moS_ap, Nat.reduceEqDiff, if_true, if_false, reduceIte]
              refine gk_iload_n C dX5_tellsAlike_90 rfl ?_
              refine gk_iconst C dX5_tellsAlike_91 ?_
              refine mo_iast C I (by rfl) dX5_tellsAlike_92 (by omega) (by omega) ?_
              rw [moS_moS]
              have ek : k = nb := by omega
              have V3 : VM (moS (moS s2 12 g) 13 (gupd f nb 0)) := (VQ.set (j := 12) rfl bg).set (j := 13) rfl (fun i => by
                by_cases e : i = (nb : Int)
                · rw [e, gupd_eq]; omega
                · rw [gupd_ne e]; exact bf i)
              have VP3 : VPt (moS (moS s2 12 g) 13 (gupd f nb 0)) t := VPt_congr (s := s) (hS 3 rfl) (hS 7 rfl) (VP t (by omega) (by omega))
              refine gk_aload_n C dX5_tellsAlike_93 rfl ?_
              refine gk_iload_n C dX5_tellsAlike_94 rfl ?_
              refine gk_callV C o_X5_plays k_X5_141 dX5_tellsAlike_95 (m_plays hfl I V3 (t := t) (by omega) VP3) (mo_obj I) rfl rfl rfl (by decide) (by decide) (by exact Nat.le_of_ble_eq_true rfl) (fun _ _ z => z.elim) (fun v_95 h_95 p_95 => ?_)
              obtain ⟨rfl, rfl⟩ := p_95
              dsimp only [gk_push]
              have VQ4 := VM_play V3 VP3 (show 0 ≤ t ∧ t < 10 by omega)
              have hag := mRow_agree (s := s) (s2 := moS (moS s2 12 g) 13 (gupd f nb 0)) (t := t) (hS 3 rfl) (hS 7 rfl) (hS 8 rfl)
              have hS4 : mSame s (mPlay (moS (moS s2 12 g) 13 (gupd f nb 0)) t) := ((hS.set (j := 12) rfl).set (j := 13) rfl).set3
              have f9 : mPlay (moS (moS s2 12 g) 13 (gupd f nb 0)) t 9 0 = na := hag.1.trans hna
              have f10 : ∀ j : Nat, j < na → mPlay (moS (moS s2 12 g) 13 (gupd f nb 0)) t 10 j = mRow s t j := fun j hj => (hag.2 j (by omega) (by omega)).1
              have f12 : mPlay (moS (moS s2 12 g) 13 (gupd f nb 0)) t 12 = g := rfl
              have f13 : mPlay (moS (moS s2 12 g) 13 (gupd f nb 0)) t 13 = gupd f nb 0 := rfl
              have f39 : mPlay (moS (moS s2 12 g) 13 (gupd f nb 0)) t 39 0 = 0 := e39
              generalize mPlay (moS (moS s2 12 g) 13 (gupd f nb 0)) t = s4 at *
              refine gk_iconst C dX5_tellsAlike_98 ?_
              refine gk_istore_4 C rfl (by decide) dX5_tellsAlike_99 ?_
              refine gk_iconst C dX5_tellsAlike_101 ?_
              refine gk_istore_5 C rfl (by decide) dX5_tellsAlike_102 ?_
              have key2 : ∀ (n k M : Nat) (f : Int → Int) x6, na - k < n → k ≤ na → (∀ i, 0 ≤ f i ∧ f i ≤ 128) → (∀ j : Nat, j ≤ nb → f j = (suf (mA s t) (mA s t2) k j : Int)) → alAt (mA s t) na (mA s t2) nb M → (∀ k2 j : Nat, k2 ≤ k → j ≤ nb → suf (mA s t) (mA s t2) k2 j ≤ M) → G 104 [some (.ref (ad 40)), some (iv t), some (iv t2), some (iv (nb : Int)), some (iv (M : Int)), some (iv (k : Int)), x6] [] (HM ad (moS s4 13 f)) 0 0 := by
                intro n
                induction n with
                | zero => intro k M f x6 h1; omega
                | succ n ih2 =>
                  intro k M f x6 hn hk bf hf hat hle
                  have hM := alAt_le hat
                  refine gk_iload C dX5_tellsAlike_104 rfl ?_
                  refine gk_aload_n C dX5_tellsAlike_106 rfl ?_
                  refine mo_getf C I f_X5_138.r dX5_tellsAlike_107 (by rfl) ?_
                  try simp only [moS3_ap, moS_ap, Nat.reduceEqDiff, if_true, if_false, reduceIte]
                  first | rw [f9] | skip
                  refine gk_icmp_ge C (tgt := 205) (by omega) (by omega) dX5_tellsAlike_110 (by decide) (fun c_110 => ?_) (fun c_110 => ?_)
                  · refine gk_iload C dX5_tellsAlike_205 rfl ?_
                    refine (R _ _ _ _ _ (by decide) (by decide)).1 _ rfl dX5_tellsAlike_207 ?_
                    refine ⟨_, _, _, rfl, rfl, Or.inr ⟨by omega, rfl, M, rfl, ?_⟩, hS4.set (j := 13) rfl, VQ4.set (j := 13) rfl bf, f39⟩
                    rw [hna, hnb]
                    exact ⟨fun k2 j h1 h2 => hle k2 j (by omega) h2, hat⟩
                  · refine gk_iload_n C dX5_tellsAlike_113 rfl ?_
                    refine gk_istore_6 C rfl (by decide) dX5_tellsAlike_114 ?_
                    have key3 : ∀ (n m M : Nat) (f : Int → Int), m < n → m ≤ nb → (∀ i, 0 ≤ f i ∧ f i ≤ 128) → (∀ j : Nat, j ≤ nb → f j = if m < j then (suf (mA s t) (mA s t2) (k + 1) j : Int) else (suf (mA s t) (mA s t2) k j : Int)) → alAt (mA s t) na (mA s t2) nb M → (∀ k2 j : Nat, k2 ≤ k → j ≤ nb → suf (mA s t) (mA s t2) k2 j ≤ M) → (∀ j : Nat, m < j → j ≤ nb → suf (mA s t) (mA s t2) (k + 1) j ≤ M) → G 116 [some (.ref (ad 40)), some (iv t), some (iv t2), some (iv (nb : Int)), some (iv (M : Int)), some (iv (k : Int)), some (iv (m : Int))] [] (HM ad (moS s4 13 f)) 0 0 := by
                      intro n
                      induction n with
                      | zero => intro m M f h1; omega
                      | succ n ih3 =>
                        intro m M f hn hm bf hf hat hle hle2
                        have hM := alAt_le hat
                        refine gk_iload C dX5_tellsAlike_116 rfl ?_
                        refine gk_if_le C (tgt := 199) (by omega) dX5_tellsAlike_118 (by decide) (fun c_118 => ?_) (fun c_118 => ?_)
                        · refine gk_iinc_5 C rfl (by decide) dX5_tellsAlike_199 ?_
                          refine gk_goto C (tgt := 104) dX5_tellsAlike_202 (by decide) ?_
                          refine ih2 (k + 1) M f _ (by omega) (by omega) bf (fun j hj => ?_) hat (fun k2 j h1 h2 => ?_)
                          · rw [hf j hj]
                            by_cases e : m < j
                            · rw [if_pos e]
                            · rw [if_neg e, show j = 0 by omega, suf_z2, suf_z2]
                          · by_cases e : k2 ≤ k
                            · exact hle k2 j e h2
                            · have e2 : k2 = k + 1 := by omega
                              subst e2
                              by_cases e3 : m < j
                              · exact hle2 j e3 h2
                              · rw [show j = 0 by omega, suf_z2]; exact Nat.zero_le _
                        · obtain ⟨m0, rfl⟩ : ∃ m0 : Nat, m = m0 + 1 := ⟨m - 1, by omega⟩
                          have b10 := VQ4.at 10 (k : Int) rfl
                          have b4 := VQ4.at 4 (s4 10 k) rfl
                          have b12 := VQ4.at 12 (((m0 + 1 : Nat) : Int) - 1) rfl
                          have es := suf_s (mA s t) (mA s t2) k m0
                          have hl := suf_le1 (mA s t) (mA s t2) (k + 1) (m0 + 1)
                          have ea : s4 4 (s4 10 k) = mA s t k := by rw [f10 k (by omega), hS4 4 rfl]; rfl
                          have eb : s4 12 (((m0 + 1 : Nat) : Int) - 1) = mA s t2 m0 := by rw [f12, show (((m0 + 1 : Nat) : Int) - 1) = (m0 : Int) by omega]; exact hg m0 (by omega)
                          have er : f (((m0 + 1 : Nat) : Int) - 1) = (suf (mA s t) (mA s t2) k m0 : Int) := by rw [show (((m0 + 1 : Nat) : Int) - 1) = (m0 : Int) by omega, hf m0 (by omega), if_neg (by omega)]
                          have fin : ∀ M2 : Nat, (M2 : Int) = max (M : Int) (suf (mA s t) (mA s t2) (k + 1) (m0 + 1) : Int) → G 116 [some (.ref (ad 40)), some (iv t), some (iv t2), some (iv (nb : Int)), some (iv (M2 : Int)), some (iv (k : Int)), some (iv (((m0 + 1 : Nat) : Int) + -1))] [] (HM ad (moS s4 13 (gupd f ((m0 + 1 : Nat) : Int) (suf (mA s t) (mA s t2) (k + 1) (m0 + 1) : Int)))) 0 0 := by
                            intro M2 hM2
                            have eM : M2 = max M (suf (mA s t) (mA s t2) (k + 1) (m0 + 1)) := by omega
                            rw [show (((m0 + 1 : Nat) : Int) + -1) = (m0 : Int) by omega]
                            refine ih3 m0 M2 _ (by omega) (by omega) (fun i => ?_) (fun j hj => ?_) (by rw [eM]; exact alAt_max hat (by omega) (by omega)) (fun k2 j h1 h2 => by have := hle k2 j h1 h2; omega) (fun j h1 h2 => ?_)
                            · by_cases e : i = ((m0 + 1 : Nat) : Int)
                              · rw [e, gupd_eq]; omega
                              · rw [gupd_ne e]; exact bf i
                            · by_cases e : j = m0 + 1
                              · rw [e, gupd_eq, if_pos (by omega)]
                              · rw [gupd_ne (by omega), hf j hj]
                                by_cases e2 : m0 + 1 < j
                                · rw [if_pos e2, if_pos (by omega)]
                                · rw [if_neg e2, if_neg (by omega)]
                            · by_cases e : j = m0 + 1
                              · rw [e]; omega
                              · have := hle2 j (by omega) h2
                                omega
                          have k166 : ∀ y : Int, y = (suf (mA s t) (mA s t2) (k + 1) (m0 + 1) : Int) → G 166 [some (.ref (ad 40)), some (iv t), some (iv t2), some (iv (nb : Int)), some (iv (M : Int)), some (iv (k : Int)), some (iv ((m0 + 1 : Nat) : Int))] [iv y, iv ((m0 + 1 : Nat) : Int), .ref (ad 13)] (HM ad (moS s4 13 f)) 0 0 := by
                            intro y hy
                            subst hy
                            refine mo_iast C I (by rfl) dX5_tellsAlike_166 (by omega) (by omega) ?_
                            rw [moS_moS]
                            refine gk_aload_n C dX5_tellsAlike_167 rfl ?_
                            refine mo_getf C I f_X5_44.r dX5_tellsAlike_168 (by rfl) ?_
                            try simp only [moS3_ap, moS_ap, Nat.reduceEqDiff, if_true, if_false, reduceIte]
                            refine gk_iload C dX5_tellsAlike_171 rfl ?_
                            refine mo_iald C I (by rfl) dX5_tellsAlike_173 (by omega) (by omega) ?_
                            try simp only [moS3_ap, moS_ap, Nat.reduceEqDiff, if_true, if_false, reduceIte]
                            rw [gupd_eq]
                            refine gk_iload C dX5_tellsAlike_174 rfl ?_
                            refine gk_icmp_le C (tgt := 189) (by omega) (by omega) dX5_tellsAlike_176 (by decide) (fun c_176 => ?_) (fun c_176 => ?_)
                            · refine gk_iload C dX5_tellsAlike_189 rfl ?_
                              refine gk_istore_4 C rfl (by decide) dX5_tellsAlike_191 ?_
                              refine gk_iinc_6 C rfl (by decide) dX5_tellsAlike_193 ?_
                              refine gk_goto C (tgt := 116) dX5_tellsAlike_196 (by decide) ?_
                              first | exact fin M (by omega) | exact fin _ (by omega)
                            · refine gk_aload_n C dX5_tellsAlike_179 rfl ?_
                              refine mo_getf C I f_X5_44.r dX5_tellsAlike_180 (by rfl) ?_
                              try simp only [moS3_ap, moS_ap, Nat.reduceEqDiff, if_true, if_false, reduceIte]
                              refine gk_iload C dX5_tellsAlike_183 rfl ?_
                              refine mo_iald C I (by rfl) dX5_tellsAlike_185 (by omega) (by omega) ?_
                              try simp only [moS3_ap, moS_ap, Nat.reduceEqDiff, if_true, if_false, reduceIte]
                              rw [gupd_eq]
                              refine gk_goto C (tgt := 191) dX5_tellsAlike_186 (by decide) ?_
                              refine gk_istore_4 C rfl (by decide) dX5_tellsAlike_191 ?_
                              refine gk_iinc_6 C rfl (by decide) dX5_tellsAlike_193 ?_
                              refine gk_goto C (tgt := 116) dX5_tellsAlike_196 (by decide) ?_
                              first | exact fin M (by omega) | exact fin _ (by omega)
                          refine gk_aload_n C dX5_tellsAlike_121 rfl ?_
                          refine mo_getf C I f_X5_44.r dX5_tellsAlike_122 (by rfl) ?_
                          try simp only [moS3_ap, moS_ap, Nat.reduceEqDiff, if_true, if_false, reduceIte]
                          refine gk_iload C dX5_tellsAlike_125 rfl ?_
                          refine gk_aload_n C dX5_tellsAlike_127 rfl ?_
                          refine mo_getf C I f_X5_19.r dX5_tellsAlike_128 (by rfl) ?_
                          try simp only [moS3_ap, moS_ap, Nat.reduceEqDiff, if_true, if_false, reduceIte]
                          refine gk_aload_n C dX5_tellsAlike_131 rfl ?_
                          refine mo_getf C I f_X5_35.r dX5_tellsAlike_132 (by rfl) ?_
                          try simp only [moS3_ap, moS_ap, Nat.reduceEqDiff, if_true, if_false, reduceIte]
                          refine gk_iload C dX5_tellsAlike_135 rfl ?_
                          refine mo_iald C I (by rfl) dX5_tellsAlike_137 (by omega) (by omega) ?_
                          try simp only [moS3_ap, moS_ap, Nat.reduceEqDiff, if_true, if_false, reduceIte]
                          refine mo_iald C I (by rfl) dX5_tellsAlike_138 (by omega) (by omega) ?_
                          try simp only [moS3_ap, moS_ap, Nat.reduceEqDiff, if_true, if_false, reduceIte]
                          refine gk_aload_n C dX5_tellsAlike_139 rfl ?_
                          refine mo_getf C I f_X5_41.r dX5_tellsAlike_140 (by rfl) ?_
                          try simp only [moS3_ap, moS_ap, Nat.reduceEqDiff, if_true, if_false, reduceIte]
                          refine gk_iload C dX5_tellsAlike_143 rfl ?_
                          refine gk_iconst C dX5_tellsAlike_145 ?_
                          refine gk_isub C dX5_tellsAlike_146 ?_
                          refine mo_iald C I (by rfl) dX5_tellsAlike_147 (by omega) (by omega) ?_
                          try simp only [moS3_ap, moS_ap, Nat.reduceEqDiff, if_true, if_false, reduceIte]
                          refine gk_icmp_ne C (tgt := 165) (by omega) (by omega) dX5_tellsAlike_148 (by decide) (fun c_148 => ?_) (fun c_148 => ?_)
                          · refine gk_iconst C dX5_tellsAlike_165 ?_
                            first | exact k166 _ (by rw [es, if_pos (by rw [← ea, ← eb]; exact c_148), er]; rfl) | exact k166 _ (by rw [es, if_neg (by rw [← ea, ← eb]; exact c_148)]; rfl)
                          · refine gk_aload_n C dX5_tellsAlike_151 rfl ?_
                            refine mo_getf C I f_X5_44.r dX5_tellsAlike_152 (by rfl) ?_
                            try simp only [moS3_ap, moS_ap, Nat.reduceEqDiff, if_true, if_false, reduceIte]
                            refine gk_iload C dX5_tellsAlike_155 rfl ?_
                            refine gk_iconst C dX5_tellsAlike_157 ?_
                            refine gk_isub C dX5_tellsAlike_158 ?_
                            refine mo_iald C I (by rfl) dX5_tellsAlike_159 (by omega) (by omega) ?_
                            try simp only [moS3_ap, moS_ap, Nat.reduceEqDiff, if_true, if_false, reduceIte]
                            refine gk_iconst C dX5_tellsAlike_160 ?_
                            refine gk_iadd C dX5_tellsAlike_161 ?_
                            refine gk_goto C (tgt := 166) dX5_tellsAlike_162 (by decide) ?_
                            first | exact k166 _ (by rw [es, if_pos (by rw [← ea, ← eb]; exact c_148), er]; rfl) | exact k166 _ (by rw [es, if_neg (by rw [← ea, ← eb]; exact c_148)]; rfl)
                    exact key3 (nb + 1) nb M f (by omega) (by omega) bf (fun j hj => by rw [if_neg (by omega)]; exact hf j hj) hat hle (fun j h1 h2 => by omega)
              have h9 := key2 (na + 1) 0 0 (s4 13) x6 (by omega) (by omega) (fun i => VQ4.at 13 i rfl) (fun j hj => ?_) (Or.inl rfl) (fun k2 j h1 h2 => by rw [show k2 = 0 by omega, suf_z1]; exact Nat.le_refl _)
              · rw [moS_self] at h9
                exact h9
              · rw [f13, suf_z1]
                by_cases e : j = nb
                · rw [e, gupd_eq]; rfl
                · rw [gupd_ne (by omega)]; exact hf j (by omega)
            · refine gk_aload_n C dX5_tellsAlike_53 rfl ?_
              refine mo_getf C I f_X5_41.r dX5_tellsAlike_54 (by rfl) ?_
              try simp only [moS3_ap, moS_ap, Nat.reduceEqDiff, if_true, if_false, reduceIte]
              refine gk_iload C dX5_tellsAlike_57 rfl ?_
              refine gk_aload_n C dX5_tellsAlike_59 rfl ?_
              refine mo_getf C I f_X5_19.r dX5_tellsAlike_60 (by rfl) ?_
              try simp only [moS3_ap, moS_ap, Nat.reduceEqDiff, if_true, if_false, reduceIte]
              refine gk_aload_n C dX5_tellsAlike_63 rfl ?_
              refine mo_getf C I f_X5_35.r dX5_tellsAlike_64 (by rfl) ?_
              try simp only [moS3_ap, moS_ap, Nat.reduceEqDiff, if_true, if_false, reduceIte]
              refine gk_iload C dX5_tellsAlike_67 rfl ?_
              refine mo_iald C I (by rfl) dX5_tellsAlike_69 (by omega) (by omega) ?_
              try simp only [moS3_ap, moS_ap, Nat.reduceEqDiff, if_true, if_false, reduceIte]
              refine mo_iald C I (by rfl) dX5_tellsAlike_70 (by omega) (by omega) ?_
              try simp only [moS3_ap, moS_ap, Nat.reduceEqDiff, if_true, if_false, reduceIte]
              refine mo_iast C I (by rfl) dX5_tellsAlike_71 (by omega) (by omega) ?_
              refine gk_aload_n C dX5_tellsAlike_72 rfl ?_
              refine mo_getf C I f_X5_44.r dX5_tellsAlike_73 (by rfl) ?_
              try simp only [moS3_ap, moS_ap, Nat.reduceEqDiff, if_true, if_false, reduceIte]
              refine gk_iload C dX5_tellsAlike_76 rfl ?_
              refine gk_iconst C dX5_tellsAlike_78 ?_
              refine mo_iast C I (by rfl) dX5_tellsAlike_79 (by omega) (by omega) ?_
              refine gk_iinc_4 C rfl (by decide) dX5_tellsAlike_80 ?_
              refine gk_goto C (tgt := 47) dX5_tellsAlike_83 (by decide) ?_
              rw [moS_zz (by decide)]
              refine ih (k + 1) _ _ _ _ (by omega) (by omega) (fun i hi => ?_) (fun i hi => ?_) (fun i => ?_) (fun i => ?_)
              · by_cases e : i = k
                · rw [e, gupd_eq, e10, hS 4 rfl]; rfl
                · rw [gupd_ne (by omega)]; exact hg i (by omega)
              · by_cases e : i = k
                · rw [e, gupd_eq]
                · rw [gupd_ne (by omega)]; exact hf i (by omega)
              · by_cases e : i = (k : Int)
                · rw [e, gupd_eq]; omega
                · rw [gupd_ne e]; exact bg i
              · by_cases e : i = (k : Int)
                · rw [e, gupd_eq]; omega
                · rw [gupd_ne e]; exact bf i
        have h9 := key (nb + 1) 0 (s2 12) (s2 13) none none (by omega) (by omega) (fun i hi => absurd hi (Nat.not_lt_zero i)) (fun i hi => absurd hi (Nat.not_lt_zero i)) (fun i => by have := VQ.at 12 i rfl; omega) (fun i => VQ.at 13 i rfl)
        rw [moS_self, moS_self] at h9
        exact h9
      · exact absurd c_29 (by omega)

set_option maxRecDepth 100000 in
set_option maxHeartbeats 4000000 in
theorem m_alike {l : Launch} {Γ : GA} (hfl : l.stackTraces = false) {ad : Nat → Nat} (I : IM ad) {s : MS} (V : VM s) (VP : ∀ t : Int, 0 ≤ t → t < s 0 0 → VPt s t) {t t2 : Int} (ht : -2147483648 ≤ t ∧ t ≤ 2147483647) (ht2 : -2147483648 ≤ t2 ∧ t2 ≤ 2147483647) : Ct l Γ m_X5_alike [.ref (ad 40), iv t, iv t2] (HM ad s) (fun v h' => ∃ (r c : Int) (s2 : MS), v = some (iv r) ∧ h' = HM ad s2 ∧ MAlike s t t2 r c ∧ mSame s s2 ∧ VM s2 ∧ s2 39 0 = c) (fun _ _ => False) := by
  refine Ct.intro hfl (by decide +kernel) rfl (Nat.le_of_ble_eq_true rfl) ?_
  intro G C R T
  show G 0 [some (.ref (ad 40)), some (iv t), some (iv t2)] [] (HM ad s) 0 0
  refine gk_aload_n C dX5_alike_0 rfl ?_
  refine gk_iload_n C dX5_alike_1 rfl ?_
  refine gk_iload_n C dX5_alike_2 rfl ?_
  refine gk_callV C o_X5_tellsAlike k_X5_155 dX5_alike_3 (m_tellsAlike hfl I V VP ht ht2) (mo_obj I) rfl rfl rfl (by decide) (by decide) (by exact Nat.le_of_ble_eq_true rfl) (fun _ _ z => z.elim) (fun v_3 h_3 p_3 => ?_)
  obtain ⟨r, c, s2, rfl, rfl, h1, h2, h3, h4⟩ := p_3
  dsimp only [gk_push]
  refine (R _ _ _ _ _ (by decide) (by decide)).1 _ rfl dX5_alike_6 ?_
  exact ⟨r, c, s2, rfl, rfl, h1, h2, h3, h4⟩

set_option maxRecDepth 100000 in
set_option maxHeartbeats 4000000 in
theorem m_alikeAnew {l : Launch} {Γ : GA} (hfl : l.stackTraces = false) {ad : Nat → Nat} (I : IM ad) {s : MS} (V : VM s) (VP : ∀ t : Int, 0 ≤ t → t < s 0 0 → VPt s t) {t t2 : Int} (ht : -2147483648 ≤ t ∧ t ≤ 2147483647) (ht2 : -2147483648 ≤ t2 ∧ t2 ≤ 2147483647) : Ct l Γ m_X5_alikeAnew [.ref (ad 40), iv t, iv t2] (HM ad s) (fun v h' => ∃ (r c : Int) (s2 : MS), v = some (iv r) ∧ h' = HM ad s2 ∧ MAlike s t t2 r c ∧ mSame s s2 ∧ VM s2 ∧ s2 39 0 = c) (fun _ _ => False) := by
  refine Ct.intro hfl (by decide +kernel) rfl (Nat.le_of_ble_eq_true rfl) ?_
  intro G C R T
  show G 0 [some (.ref (ad 40)), some (iv t), some (iv t2)] [] (HM ad s) 0 0
  refine gk_aload_n C dX5_alikeAnew_0 rfl ?_
  refine gk_iload_n C dX5_alikeAnew_1 rfl ?_
  refine gk_iload_n C dX5_alikeAnew_2 rfl ?_
  refine gk_callV C o_X5_tellsAlike k_X5_155 dX5_alikeAnew_3 (m_tellsAlike hfl I V VP ht ht2) (mo_obj I) rfl rfl rfl (by decide) (by decide) (by exact Nat.le_of_ble_eq_true rfl) (fun _ _ z => z.elim) (fun v_3 h_3 p_3 => ?_)
  obtain ⟨r, c, s2, rfl, rfl, h1, h2, h3, h4⟩ := p_3
  dsimp only [gk_push]
  refine (R _ _ _ _ _ (by decide) (by decide)).1 _ rfl dX5_alikeAnew_6 ?_
  exact ⟨r, c, s2, rfl, rfl, h1, h2, h3, h4⟩
