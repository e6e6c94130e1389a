/-! the reference: contest, close -/
theorem pow_le8 {k : Nat} (h : k ≤ 8) : 2 ^ k ≤ 256 := Nat.pow_le_pow_right (n := 2) (by omega) (show k ≤ 8 from h)
/-- ahead of a band in the contest: another one -/
noncomputable def mAh (s : MS) (k m : Int) : Int := @ite _ (¬ m = k ∧ mTb s m = 1 ∧ isBf (mSumO s m) (mSumO s k) (fun j => mPlc s j m) (fun j => mPlc s j k) m k) (Classical.propDecidable _) 1 0
theorem mAh_01 (s : MS) (k m : Int) : 0 ≤ mAh s k m ∧ mAh s k m ≤ 1 := by
  unfold mAh
  by_cases c : (¬ m = k ∧ mTb s m = 1 ∧ isBf (mSumO s m) (mSumO s k) (fun j => mPlc s j m) (fun j => mPlc s j k) m k)
  · rw [if_pos c]; omega
  · rw [if_neg c]; omega
noncomputable def mRk (s : MS) (k : Int) : Int := 1 + usum (mAh s k) (s 29 0).toNat
theorem mRk_bd {s : MS} (V : VM s) (k : Int) : 1 ≤ mRk s k ∧ mRk s k ≤ 9 := by
  have b29 := V.at 29 0 rfl
  have h := usum_01 (f := mAh s k) (mAh_01 s k) (s 29 0).toNat
  unfold mRk
  omega
def moS4 (s : MS) (R T P F : Int → Int) : MS := moS (moS (moS (moS s 32 R) 33 T) 31 P) 34 F
theorem moS4_ap {s : MS} {R T P F : Int → Int} {k : Nat} : moS4 s R T P F k = if k = 34 then F else if k = 31 then P else if k = 33 then T else if k = 32 then R else s k := rfl
theorem moS4_32 {s : MS} {R T P F f : Int → Int} : moS (moS4 s R T P F) 32 f = moS4 s f T P F := by
  unfold moS4
  rw [moS_comm (i := 34) (j := 32) (by decide), moS_comm (i := 31) (j := 32) (by decide), moS_comm (i := 33) (j := 32) (by decide), moS_moS]
theorem moS4_33 {s : MS} {R T P F f : Int → Int} : moS (moS4 s R T P F) 33 f = moS4 s R f P F := by
  unfold moS4
  rw [moS_comm (i := 34) (j := 33) (by decide), moS_comm (i := 31) (j := 33) (by decide), moS_moS]
theorem moS4_31 {s : MS} {R T P F f : Int → Int} : moS (moS4 s R T P F) 31 f = moS4 s R T f F := by
  unfold moS4
  rw [moS_comm (i := 34) (j := 31) (by decide), moS_moS]
theorem moS4_34 {s : MS} {R T P F f : Int → Int} : moS (moS4 s R T P F) 34 f = moS4 s R T P f := by
  unfold moS4
  rw [moS_moS]
theorem moS4_self {s : MS} : moS4 s (s 32) (s 33) (s 31) (s 34) = s := by
  unfold moS4
  rw [moS_self, moS_self, moS_self, moS_self]
/-- the rows as they stand when k bands are ranked -/
noncomputable def clR (s : MS) : Nat → Int → Int
  | 0 => s 32
  | k + 1 => gupd (clR s k) k (if mTb s k = 1 then mRk s k else -1)
def clT (s : MS) : Nat → Int → Int
  | 0 => s 33
  | k + 1 => gupd (clT s k) k (if mTb s k = 1 then mSumO s k else -1)
noncomputable def clP (s : MS) : Nat → Int → Int
  | 0 => s 31
  | k + 1 => if mTb s k = 1 then gupd (clP s k) k (clP s k k + ptOf (mRk s k)) else clP s k
noncomputable def clF (s : MS) : Nat → Int → Int
  | 0 => s 34
  | k + 1 => if mTb s k = 1 then gupd (clF s k) k (clF s k k + if mRk s k = 1 then 1 else 0) else clF s k
noncomputable def cl1 (s : MS) : Nat → Int
  | 0 => -1
  | k + 1 => if mTb s k = 1 ∧ mRk s k = 1 then (k : Int) else cl1 s k
def MClose (s : MS) (r : Int) (s2 : MS) : Prop :=
  (¬ (s 36 0 = 1 ∧ mMis s ≤ 0) ∧ r = 0 ∧ s2 = moS s 39 (fun _ => 1)) ∨
  ((s 36 0 = 1 ∧ mMis s ≤ 0) ∧ r = cl1 s (s 29 0).toNat ∧ s2 = moS (moS4 (moS s 39 (fun _ => 0)) (clR s (s 29 0).toNat) (clT s (s 29 0).toNat) (clP s (s 29 0).toNat) (clF s (s 29 0).toNat)) 36 (fun _ => 0))
theorem mMis_bd (s : MS) : 0 ≤ mMis s ∧ mMis s ≤ 32 := usum_01 (f := fun k => if mTb s (k % 8) = 1 ∧ s 38 k = -1 then 1 else 0) (fun k => by split <;> omega) 32
theorem ptOf_bd (r : Int) : 0 ≤ ptOf r ∧ ptOf r ≤ 6 := by
  unfold ptOf gk_pt
  (repeat' split) <;> omega

set_option maxRecDepth 100000 in
set_option maxHeartbeats 4000000 in
theorem m_contest {l : Launch} {Γ : GA} (hfl : l.stackTraces = false) {ad : Nat → Nat} (I : IM ad) {s : MS} (V : VM s) {g : Int} (hg : -2147483648 ≤ g ∧ g ≤ 2147483647) : Ct l Γ m_X5_contest [.ref (ad 40), iv g] (HM ad s) (fun v h' => ∃ (r : Int) (s2 : MS), v = some (iv r) ∧ h' = HM ad s2 ∧ MContest s g r s2) (fun _ _ => False) := by
  have b0 := V.at 29 0 rfl
  have b36 := V.at 36 0 rfl
  have bg := mOg_bd s g (s 29 0).toNat
  have V0 := VM_th V 0 (by omega)
  refine Ct.intro hfl (by decide +kernel) rfl (Nat.le_of_ble_eq_true rfl) ?_
  intro G C R T
  show G 0 [some (.ref (ad 40)), some (iv g), none] [] (HM ad s) 0 0
  refine gk_aload_n C dX5_contest_0 rfl ?_
  refine gk_iload_n C dX5_contest_1 rfl ?_
  refine gk_iconst C dX5_contest_2 ?_
  refine gk_iconst C dX5_contest_3 ?_
  refine gk_callS C o_X5_isIn k_X5_114 dX5_contest_4 (m_X5_isIn_c hfl hg (by omega) (by omega)) rfl rfl (by decide) (by decide) (by exact Nat.le_of_ble_eq_true rfl) (fun _ _ z => z.elim) (fun v_4 h_4 p_4 => ?_)
  obtain ⟨r_4, rfl, rb_4, rc_4, rfl⟩ := p_4
  dsimp only [gk_push]
  refine gk_if_ne C (tgt := 14) (by omega) dX5_contest_7 (by decide) (fun c_7 => ?_) (fun c_7 => ?_)
  · refine gk_aload_n C dX5_contest_14 rfl ?_
    refine mo_getf C I f_X5_203.r dX5_contest_15 (by rfl) ?_
    refine gk_if_ne C (tgt := 30) (by omega) dX5_contest_18 (by decide) (fun c_18 => ?_) (fun c_18 => ?_)
    · refine gk_iconst C dX5_contest_30 ?_
      refine gk_goto C (tgt := 35) dX5_contest_31 (by decide) ?_
      refine mo_putf C I f_X5_107 (by decide) dX5_contest_35 ?_
      refine gk_aload_n C dX5_contest_38 rfl ?_
      refine mo_getf C I f_X5_107.r dX5_contest_39 (by rfl) ?_
      try simp only [moS3_ap, moS_ap, Nat.reduceEqDiff, if_true, if_false, reduceIte]
      refine gk_if_le C (tgt := 47) (by omega) dX5_contest_42 (by decide) (fun c_42 => ?_) (fun c_42 => ?_)
      · exact absurd c_42 (by omega)
      · refine gk_iconst C dX5_contest_45 ?_
        refine (R _ _ _ _ _ (by decide) (by decide)).1 _ rfl dX5_contest_46 ?_
        first | exact ⟨_, _, rfl, rfl, Or.inl ⟨by omega, rfl, rfl⟩⟩ | exact ⟨_, _, rfl, rfl, Or.inr (Or.inl ⟨by omega, by omega, rfl, rfl⟩)⟩
    · refine gk_aload_n C dX5_contest_21 rfl ?_
      refine gk_iload_n C dX5_contest_22 rfl ?_
      refine gk_callV C o_X5_ofGrade k_X5_207 dX5_contest_23 (m_ofGrade hfl I V hg) (mo_obj I) rfl rfl rfl (by decide) (by decide) (by exact Nat.le_of_ble_eq_true rfl) (fun _ _ z => z.elim) (fun v_23 h_23 p_23 => ?_)
      obtain ⟨rfl, rfl⟩ := p_23
      dsimp only [gk_push]
      refine gk_iconst C dX5_contest_26 ?_
      refine gk_icmp_ge C (tgt := 34) (by omega) (by omega) dX5_contest_27 (by decide) (fun c_27 => ?_) (fun c_27 => ?_)
      · refine gk_iconst C dX5_contest_34 ?_
        refine mo_putf C I f_X5_107 (by decide) dX5_contest_35 ?_
        refine gk_aload_n C dX5_contest_38 rfl ?_
        refine mo_getf C I f_X5_107.r dX5_contest_39 (by rfl) ?_
        try simp only [moS3_ap, moS_ap, Nat.reduceEqDiff, if_true, if_false, reduceIte]
        refine gk_if_le C (tgt := 47) (by omega) dX5_contest_42 (by decide) (fun c_42 => ?_) (fun c_42 => ?_)
        · refine gk_aload_n C dX5_contest_47 rfl ?_
          refine gk_iconst C dX5_contest_48 ?_
          refine mo_putb C I (by omega) f_X5_203 (by decide) dX5_contest_49 ?_
          refine gk_aload_n C dX5_contest_52 rfl ?_
          refine gk_iconst C dX5_contest_53 ?_
          refine mo_putf C I f_X5_210 (by decide) dX5_contest_54 ?_
          refine gk_iconst C dX5_contest_57 ?_
          refine gk_istore_n_2 C rfl (by decide) dX5_contest_58 ?_
          have key : ∀ (n k : Nat), s 29 0 - k < n → k ≤ s 29 0 → G 59 [some (.ref (ad 40)), some (iv g), some (iv (k : Int))] [] (HM ad (moS (moS (moS s 39 (fun _ => 0)) 36 (fun _ => 1)) 37 (fun _ => (pkS s g k : Int)))) 0 0 := by
            intro n
            induction n with
            | zero => intro k h1; omega
            | succ n ih =>
              intro k hn hk
              have b30 := V.at 30 (k : Int) rfl
              have hp := pkS_lt s g k
              have hp2 := pow_le8 (k := k) (by omega)
              have fin : ∀ y : Int, k < s 29 0 → y = (pkS s g (k + 1) : Int) → G 59 [some (.ref (ad 40)), some (iv g), some (iv ((k : Int) + 1))] [] (HM ad (moS (moS (moS s 39 (fun _ => 0)) 36 (fun _ => 1)) 37 (fun _ => y))) 0 0 := by
                intro y hk1 hy
                rw [hy]
                exact ih (k + 1) (by omega) (by omega)
              refine gk_iload_n C dX5_contest_59 rfl ?_
              refine gk_aload_n C dX5_contest_60 rfl ?_
              refine mo_getf C I f_X5_200.r dX5_contest_61 (by rfl) ?_
              try simp only [moS3_ap, moS_ap, Nat.reduceEqDiff, if_true, if_false, reduceIte]
              refine gk_icmp_ge C (tgt := 99) (by omega) (by omega) dX5_contest_64 (by decide) (fun c_64 => ?_) (fun c_64 => ?_)
              · have ekn : k = (s 29 0).toNat := by omega
                rw [ekn] at hp hp2 ⊢
                obtain ⟨S, hS⟩ : ∃ S : MS, S = (moS (moS (moS s 39 (fun _ => 0)) 36 (fun _ => 1)) 37 (fun _ => (pkS s g (s 29 0).toNat : Int))) := ⟨_, rfl⟩
                rw [← hS]
                have VS : VM S := by rw [hS]; exact (V0.set (j := 36) rfl (fun _ => by omega)).set (j := 37) rfl (fun _ => by omega)
                have hS29 : S 29 0 = s 29 0 := by rw [hS]; rfl
                have hS30 : S 30 = s 30 := by rw [hS]; rfl
                refine gk_iconst C dX5_contest_99 ?_
                refine gk_istore_n_2 C rfl (by decide) dX5_contest_100 ?_
                have key2 : ∀ (n k : Nat) (f : Int → Int), 32 - k < n → k ≤ 32 → (∀ i : Int, 0 ≤ i → i < k → f i = -1) → (∀ i, -1 ≤ f i ∧ f i ≤ 100) → G 101 [some (.ref (ad 40)), some (iv g), some (iv (k : Int))] [] (HM ad (moS S 38 f)) 0 0 := by
                  intro n
                  induction n with
                  | zero => intro k f h1; omega
                  | succ n ih2 =>
                    intro k f hn hk hf bf
                    refine gk_iload_n C dX5_contest_101 rfl ?_
                    refine gk_bipush C dX5_contest_102 (by decide) ?_
                    refine gk_icmp_ge C (tgt := 120) (by omega) (by omega) dX5_contest_104 (by decide) (fun c_104 => ?_) (fun c_104 => ?_)
                    · have VZ : VM (moS S 38 f) := VS.set rfl bf
                      refine gk_aload_n C dX5_contest_120 rfl ?_
                      refine gk_iload_n C dX5_contest_121 rfl ?_
                      refine gk_callV C o_X5_ofGrade k_X5_207 dX5_contest_122 (m_ofGrade hfl I VZ hg) (mo_obj I) rfl rfl rfl (by decide) (by decide) (by exact Nat.le_of_ble_eq_true rfl) (fun _ _ z => z.elim) (fun v_122 h_122 p_122 => ?_)
                      obtain ⟨rfl, rfl⟩ := p_122
                      dsimp only [gk_push]
                      rw [show mOg (moS S 38 f) g (moS S 38 f 29 0).toNat = mOg s g (s 29 0).toNat from by rw [show moS S 38 f 29 0 = s 29 0 from hS29]; unfold mOg; rw [show moS S 38 f 30 = s 30 from hS30]]
                      refine (R _ _ _ _ _ (by decide) (by decide)).1 _ rfl dX5_contest_125 ?_
                      exact ⟨_, _, rfl, rfl, Or.inr (Or.inr ⟨by omega, by omega, rfl, f, fun i h0 h1 => hf i h0 (by omega), bf, by rw [hS]⟩)⟩
                    · refine gk_aload_n C dX5_contest_107 rfl ?_
                      refine mo_getf C I f_X5_104.r dX5_contest_108 (by rfl) ?_
                      try simp only [moS3_ap, moS_ap, Nat.reduceEqDiff, if_true, if_false, reduceIte]
                      refine gk_iload_n C dX5_contest_111 rfl ?_
                      refine gk_iconst C dX5_contest_112 ?_
                      refine mo_iast C I (by rfl) dX5_contest_113 (by omega) (by omega) ?_
                      refine gk_iinc_2 C rfl (by decide) dX5_contest_114 ?_
                      refine gk_goto C (tgt := 101) dX5_contest_117 (by decide) ?_
                      rw [moS_moS]
                      refine ih2 (k + 1) _ (by omega) (by omega) (fun i h0 h1 => ?_) (fun i => ?_)
                      · by_cases e : i = (k : Int)
                        · rw [e, gupd_eq]
                        · rw [gupd_ne e, moS_eq]; exact hf i h0 (by omega)
                      · by_cases e : i = (k : Int)
                        · rw [e, gupd_eq]; omega
                        · rw [gupd_ne e, moS_eq]; exact bf i
                have h9 := key2 33 0 (S 38) (by omega) (by omega) (fun i h0 h1 => by omega) (fun i => VS.at 38 i rfl)
                rw [moS_self] at h9
                exact h9
              · have e1 : Int32.ofInt 1 <<< (Int32.ofInt (k : Int) &&& 31) = Int32.ofInt ((2 ^ k : Nat) : Int) := bt_shl ⟨k, by omega⟩
                have e2 : Int32.ofInt (pkS s g k : Int) ||| Int32.ofInt ((2 ^ k : Nat) : Int) = Int32.ofInt ((pkS s g k + 2 ^ k : Nat) : Int) := bt_or ⟨k, by omega⟩ ⟨pkS s g k, by omega⟩ hp
                have e3 : Int32.ofInt (pkS s g k : Int) ||| Int32.ofInt 0 = Int32.ofInt (pkS s g k : Int) := bt_or0 ⟨pkS s g k, by omega⟩
                refine gk_aload_n C dX5_contest_67 rfl ?_
                refine gk_dup C rfl dX5_contest_68 ?_
                refine mo_getf C I f_X5_210.r dX5_contest_69 (by rfl) ?_
                try simp only [moS3_ap, moS_ap, Nat.reduceEqDiff, if_true, if_false, reduceIte]
                refine gk_aload_n C dX5_contest_72 rfl ?_
                refine mo_getf C I f_X5_86.r dX5_contest_73 (by rfl) ?_
                try simp only [moS3_ap, moS_ap, Nat.reduceEqDiff, if_true, if_false, reduceIte]
                refine gk_iload_n C dX5_contest_76 rfl ?_
                refine mo_iald C I (by rfl) dX5_contest_77 (by omega) (by omega) ?_
                try simp only [moS3_ap, moS_ap, Nat.reduceEqDiff, if_true, if_false, reduceIte]
                refine gk_iload_n C dX5_contest_78 rfl ?_
                refine gk_icmp_ne C (tgt := 88) (by omega) (by omega) dX5_contest_79 (by decide) (fun c_79 => ?_) (fun c_79 => ?_)
                · refine gk_iconst C dX5_contest_88 ?_
                  refine gk_ior C dX5_contest_89 (by first | exact e2 | exact e3) ?_
                  refine mo_putf C I f_X5_210 (by decide) dX5_contest_90 ?_
                  refine gk_iinc_2 C rfl (by decide) dX5_contest_93 ?_
                  refine gk_goto C (tgt := 59) dX5_contest_96 (by decide) ?_
                  rw [moS_moS]
                  first | exact fin _ (by omega) (by show _ = ((pkS s g k + (if s 30 (k : Int) = g then 2 ^ k else 0) : Nat) : Int); rw [if_pos c_79]) | exact fin _ (by omega) (by show _ = ((pkS s g k + (if s 30 (k : Int) = g then 2 ^ k else 0) : Nat) : Int); rw [if_neg c_79]; rfl)
                · refine gk_iconst C dX5_contest_82 ?_
                  refine gk_iload_n C dX5_contest_83 rfl ?_
                  refine gk_ishl C dX5_contest_84 e1 ?_
                  refine gk_goto C (tgt := 89) dX5_contest_85 (by decide) ?_
                  refine gk_ior C dX5_contest_89 (by first | exact e2 | exact e3) ?_
                  refine mo_putf C I f_X5_210 (by decide) dX5_contest_90 ?_
                  refine gk_iinc_2 C rfl (by decide) dX5_contest_93 ?_
                  refine gk_goto C (tgt := 59) dX5_contest_96 (by decide) ?_
                  rw [moS_moS]
                  first | exact fin _ (by omega) (by show _ = ((pkS s g k + (if s 30 (k : Int) = g then 2 ^ k else 0) : Nat) : Int); rw [if_pos c_79]) | exact fin _ (by omega) (by show _ = ((pkS s g k + (if s 30 (k : Int) = g then 2 ^ k else 0) : Nat) : Int); rw [if_neg c_79]; rfl)
          have h9 := key 9 0 (by omega) (by omega)
          exact h9
        · exact absurd c_42 (by omega)
      · refine gk_iconst C dX5_contest_30 ?_
        refine gk_goto C (tgt := 35) dX5_contest_31 (by decide) ?_
        refine mo_putf C I f_X5_107 (by decide) dX5_contest_35 ?_
        refine gk_aload_n C dX5_contest_38 rfl ?_
        refine mo_getf C I f_X5_107.r dX5_contest_39 (by rfl) ?_
        try simp only [moS3_ap, moS_ap, Nat.reduceEqDiff, if_true, if_false, reduceIte]
        refine gk_if_le C (tgt := 47) (by omega) dX5_contest_42 (by decide) (fun c_42 => ?_) (fun c_42 => ?_)
        · exact absurd c_42 (by omega)
        · refine gk_iconst C dX5_contest_45 ?_
          refine (R _ _ _ _ _ (by decide) (by decide)).1 _ rfl dX5_contest_46 ?_
          first | exact ⟨_, _, rfl, rfl, Or.inl ⟨by omega, rfl, rfl⟩⟩ | exact ⟨_, _, rfl, rfl, Or.inr (Or.inl ⟨by omega, by omega, rfl, rfl⟩)⟩
  · refine gk_iconst C dX5_contest_10 ?_
    refine gk_goto C (tgt := 35) dX5_contest_11 (by decide) ?_
    refine mo_putf C I f_X5_107 (by decide) dX5_contest_35 ?_
    refine gk_aload_n C dX5_contest_38 rfl ?_
    refine mo_getf C I f_X5_107.r dX5_contest_39 (by rfl) ?_
    try simp only [moS3_ap, moS_ap, Nat.reduceEqDiff, if_true, if_false, reduceIte]
    refine gk_if_le C (tgt := 47) (by omega) dX5_contest_42 (by decide) (fun c_42 => ?_) (fun c_42 => ?_)
    · exact absurd c_42 (by omega)
    · refine gk_iconst C dX5_contest_45 ?_
      refine (R _ _ _ _ _ (by decide) (by decide)).1 _ rfl dX5_contest_46 ?_
      first | exact ⟨_, _, rfl, rfl, Or.inl ⟨by omega, rfl, rfl⟩⟩ | exact ⟨_, _, rfl, rfl, Or.inr (Or.inl ⟨by omega, by omega, rfl, rfl⟩)⟩

set_option maxRecDepth 100000 in
set_option maxHeartbeats 4000000 in
theorem m_close {l : Launch} {Γ : GA} (hfl : l.stackTraces = false) {ad : Nat → Nat} (I : IM ad) {s : MS} (V : VM s) (hpts : ∀ i, 0 ≤ s 31 i ∧ s 31 i ≤ 10000) : Ct l Γ m_X5_close [.ref (ad 40)] (HM ad s) (fun v h' => ∃ (r : Int) (s2 : MS), v = some (iv r) ∧ h' = HM ad s2 ∧ MClose s r s2) (fun _ _ => False) := by
  have b0 := V.at 29 0 rfl
  have b36 := V.at 36 0 rfl
  have bm := mMis_bd s
  refine Ct.intro hfl (by decide +kernel) rfl (Nat.le_of_ble_eq_true rfl) ?_
  intro G C R T
  show G 0 [some (.ref (ad 40)), none, none, none] [] (HM ad s) 0 0
  refine gk_aload_n C dX5_close_0 rfl ?_
  refine gk_aload_n C dX5_close_1 rfl ?_
  refine mo_getf C I f_X5_203.r dX5_close_2 (by rfl) ?_
  refine gk_if_eq C (tgt := 15) (by omega) dX5_close_5 (by decide) (fun c_5 => ?_) (fun c_5 => ?_)
  · refine gk_iconst C dX5_close_15 ?_
    refine gk_goto C (tgt := 20) dX5_close_16 (by decide) ?_
    refine mo_putf C I f_X5_107 (by decide) dX5_close_20 ?_
    refine gk_aload_n C dX5_close_23 rfl ?_
    refine mo_getf C I f_X5_107.r dX5_close_24 (by rfl) ?_
    try simp only [moS4_ap, moS4_32, moS4_33, moS4_31, moS4_34, moS3_ap, moS_ap, Nat.reduceEqDiff, if_true, if_false, reduceIte]
    refine gk_if_le C (tgt := 32) (by omega) dX5_close_27 (by decide) (fun c_27 => ?_) (fun c_27 => ?_)
    · exact absurd c_27 (by omega)
    · refine gk_iconst C dX5_close_30 ?_
      refine (R _ _ _ _ _ (by decide) (by decide)).1 _ rfl dX5_close_31 ?_
      exact ⟨_, _, rfl, rfl, Or.inl ⟨by omega, rfl, rfl⟩⟩
  · refine gk_aload_n C dX5_close_8 rfl ?_
    refine gk_callV C o_X5_missing k_X5_219 dX5_close_9 (m_missing hfl I V) (mo_obj I) rfl rfl rfl (by decide) (by decide) (by exact Nat.le_of_ble_eq_true rfl) (fun _ _ z => z.elim) (fun v_9 h_9 p_9 => ?_)
    obtain ⟨rfl, rfl⟩ := p_9
    dsimp only [gk_push]
    refine gk_if_le C (tgt := 19) (by omega) dX5_close_12 (by decide) (fun c_12 => ?_) (fun c_12 => ?_)
    · refine gk_iconst C dX5_close_19 ?_
      refine mo_putf C I f_X5_107 (by decide) dX5_close_20 ?_
      refine gk_aload_n C dX5_close_23 rfl ?_
      refine mo_getf C I f_X5_107.r dX5_close_24 (by rfl) ?_
      try simp only [moS4_ap, moS4_32, moS4_33, moS4_31, moS4_34, moS3_ap, moS_ap, Nat.reduceEqDiff, if_true, if_false, reduceIte]
      refine gk_if_le C (tgt := 32) (by omega) dX5_close_27 (by decide) (fun c_27 => ?_) (fun c_27 => ?_)
      · sorry
      · exact absurd c_27 (by omega)
    · refine gk_iconst C dX5_close_15 ?_
      refine gk_goto C (tgt := 20) dX5_close_16 (by decide) ?_
      refine mo_putf C I f_X5_107 (by decide) dX5_close_20 ?_
      refine gk_aload_n C dX5_close_23 rfl ?_
      refine mo_getf C I f_X5_107.r dX5_close_24 (by rfl) ?_
      try simp only [moS4_ap, moS4_32, moS4_33, moS4_31, moS4_34, moS3_ap, moS_ap, Nat.reduceEqDiff, if_true, if_false, reduceIte]
      refine gk_if_le C (tgt := 32) (by omega) dX5_close_27 (by decide) (fun c_27 => ?_) (fun c_27 => ?_)
      · exact absurd c_27 (by omega)
      · refine gk_iconst C dX5_close_30 ?_
        refine (R _ _ _ _ _ (by decide) (by decide)).1 _ rfl dX5_close_31 ?_
        exact ⟨_, _, rfl, rfl, Or.inl ⟨by omega, rfl, rfl⟩⟩
