/-! the reference: contest, close -/
theorem pow_le8 {k : Nat} (h : k ≤ 8) : 2 ^ k ≤ 256 := Nat.pow_le_pow_right (n := 2) (by omega) (show k ≤ 8 from h)
/-- ahead of a band in the contest: another one -/
noncomputable def mAh (s : MS) (k m : Int) : Int := @ite _ (¬ m = k ∧ mTb s m = 1 ∧ isBf (mSumO s m) (mSumO s k) (fun j => mPlc s j m) (fun j => mPlc s j k) m k) (Classical.propDecidable _) 1 0
theorem mAh_01 (s : MS) (k m : Int) : 0 ≤ mAh s k m ∧ mAh s k m ≤ 1 := by
  unfold mAh
  by_cases c : (¬ m = k ∧ mTb s m = 1 ∧ isBf (mSumO s m) (mSumO s k) (fun j => mPlc s j m) (fun j => mPlc s j k) m k)
  · rw [if_pos c]; omega
  · rw [if_neg c]; omega
noncomputable def mRk (s : MS) (k : Int) : Int := 1 + usum (mAh s k) (s 29 0).toNat
theorem mRk_bd {s : MS} (V : VM s) (k : Int) : 1 ≤ mRk s k ∧ mRk s k ≤ 9 := by
  have b29 := V.at 29 0 rfl
  have h := usum_01 (f := mAh s k) (mAh_01 s k) (s 29 0).toNat
  unfold mRk
  omega
def moS4 (s : MS) (R T P F : Int → Int) : MS := moS (moS (moS (moS s 32 R) 33 T) 31 P) 34 F
theorem moS4_ap {s : MS} {R T P F : Int → Int} {k : Nat} : moS4 s R T P F k = if k = 34 then F else if k = 31 then P else if k = 33 then T else if k = 32 then R else s k := rfl
theorem moS4_32 {s : MS} {R T P F f : Int → Int} : moS (moS4 s R T P F) 32 f = moS4 s f T P F := by
  unfold moS4
  rw [moS_comm (i := 34) (j := 32) (by decide), moS_comm (i := 31) (j := 32) (by decide), moS_comm (i := 33) (j := 32) (by decide), moS_moS]
theorem moS4_33 {s : MS} {R T P F f : Int → Int} : moS (moS4 s R T P F) 33 f = moS4 s R f P F := by
  unfold moS4
  rw [moS_comm (i := 34) (j := 33) (by decide), moS_comm (i := 31) (j := 33) (by decide), moS_moS]
theorem moS4_31 {s : MS} {R T P F f : Int → Int} : moS (moS4 s R T P F) 31 f = moS4 s R T f F := by
  unfold moS4
  rw [moS_comm (i := 34) (j := 31) (by decide), moS_moS]
theorem moS4_34 {s : MS} {R T P F f : Int → Int} : moS (moS4 s R T P F) 34 f = moS4 s R T P f := by
  unfold moS4
  rw [moS_moS]
theorem moS4_self {s : MS} : moS4 s (s 32) (s 33) (s 31) (s 34) = s := by
  unfold moS4
  rw [moS_self, moS_self, moS_self, moS_self]
/-- the rows as they stand when k bands are ranked -/
noncomputable def clR (s : MS) : Nat → Int → Int
  | 0 => s 32
  | k + 1 => gupd (clR s k) k (if mTb s k = 1 then mRk s k else -1)
def clT (s : MS) : Nat → Int → Int
  | 0 => s 33
  | k + 1 => gupd (clT s k) k (if mTb s k = 1 then mSumO s k else -1)
noncomputable def clP (s : MS) : Nat → Int → Int
  | 0 => s 31
  | k + 1 => if mTb s k = 1 then gupd (clP s k) k (clP s k k + ptOf (mRk s k)) else clP s k
noncomputable def clF (s : MS) : Nat → Int → Int
  | 0 => s 34
  | k + 1 => if mTb s k = 1 then gupd (clF s k) k (clF s k k + if mRk s k = 1 then 1 else 0) else clF s k
noncomputable def cl1 (s : MS) : Nat → Int
  | 0 => -1
  | k + 1 => if mTb s k = 1 ∧ mRk s k = 1 then (k : Int) else cl1 s k
def MClose (s : MS) (r : Int) (s2 : MS) : Prop :=
  (¬ (s 36 0 = 1 ∧ mMis s ≤ 0) ∧ r = 0 ∧ s2 = moS s 39 (fun _ => 1)) ∨
  ((s 36 0 = 1 ∧ mMis s ≤ 0) ∧ ∃ s0 : MS, s0 = moS s 39 (fun _ => 0) ∧ r = cl1 s0 (s 29 0).toNat ∧ s2 = moS (moS4 s0 (clR s0 (s 29 0).toNat) (clT s0 (s 29 0).toNat) (clP s0 (s 29 0).toNat) (clF s0 (s 29 0).toNat)) 36 (fun _ => 0))
theorem VM4 {s : MS} (V : VM s) {R T P F : Int → Int} (hR : ∀ i, -1 ≤ R i ∧ R i ≤ 9) (hT : ∀ i, -1 ≤ T i ∧ T i ≤ 100) (hP : ∀ i, 0 ≤ P i ∧ P i ≤ 1000000) (hF : ∀ i, 0 ≤ F i ∧ F i ≤ 1000000) : VM (moS4 s R T P F) :=
  (((V.set (j := 32) rfl hR).set (j := 33) rfl hT).set (j := 31) rfl hP).set (j := 34) rfl hF
theorem gupd_bd {f : Int → Int} {i v lo hi : Int} (h : ∀ i, lo ≤ f i ∧ f i ≤ hi) (hv : lo ≤ v ∧ v ≤ hi) : ∀ j, lo ≤ gupd f i v j ∧ gupd f i v j ≤ hi := by
  intro j
  by_cases c : j = i
  · rw [c, gupd_eq]; exact hv
  · rw [gupd_ne c]; exact h j
theorem gupd_2 {f : Int → Int} {i a b : Int} : gupd (gupd f i a) i b = gupd f i b := by
  funext j
  by_cases c : j = i
  · rw [c, gupd_eq, gupd_eq]
  · rw [gupd_ne c, gupd_ne c, gupd_ne c]
theorem mSumO_bd {s : MS} (V : VM s) (i : Int) : 4 ≤ mSumO s i ∧ mSumO s i ≤ 36 := by
  have h0 := mPlc_bd V 0 i
  have h1 := mPlc_bd V 1 i
  have h2 := mPlc_bd V 2 i
  have h3 := mPlc_bd V 3 i
  unfold mSumO
  omega
theorem clR_bd {s : MS} (V : VM s) : ∀ (k : Nat) (i : Int), -1 ≤ clR s k i ∧ clR s k i ≤ 9
  | 0, i => V.at 32 i rfl
  | k + 1, i => by
    have h := mRk_bd V (k : Int)
    exact gupd_bd (clR_bd V k) (by split <;> omega) i
theorem clT_bd {s : MS} (V : VM s) : ∀ (k : Nat) (i : Int), -1 ≤ clT s k i ∧ clT s k i ≤ 100
  | 0, i => V.at 33 i rfl
  | k + 1, i => by
    have h := mSumO_bd V (k : Int)
    exact gupd_bd (clT_bd V k) (by split <;> omega) i
theorem mMis_bd (s : MS) : 0 ≤ mMis s ∧ mMis s ≤ 32 := usum_01 (f := fun k => if mTb s (k % 8) = 1 ∧ s 38 k = -1 then 1 else 0) (fun k => by split <;> omega) 32
theorem ptOf_bd (r : Int) : 0 ≤ ptOf r ∧ ptOf r ≤ 6 := by
  unfold ptOf gk_pt
  (repeat' split) <;> omega
theorem clP_bd {s : MS} (h : ∀ i, 0 ≤ s 31 i ∧ s 31 i ≤ 10000) : ∀ (k : Nat) (i : Int), 0 ≤ clP s k i ∧ clP s k i ≤ 10000 + 6 * k
  | 0, i => by
    have := h i
    show 0 ≤ s 31 i ∧ s 31 i ≤ _
    omega
  | k + 1, i => by
    have ih := clP_bd h k
    have hp := ptOf_bd (mRk s k)
    have ih2 := ih i
    have ih3 := ih k
    unfold clP
    split
    · exact gupd_bd (lo := 0) (hi := 10000 + 6 * ((k + 1 : Nat) : Int)) (fun j => by have := ih j; omega) (by omega) i
    · omega
theorem clF_bd {s : MS} (h : ∀ i, 0 ≤ s 34 i ∧ s 34 i ≤ 10000) : ∀ (k : Nat) (i : Int), 0 ≤ clF s k i ∧ clF s k i ≤ 10000 + k
  | 0, i => by
    have := h i
    show 0 ≤ s 34 i ∧ s 34 i ≤ _
    omega
  | k + 1, i => by
    have ih := clF_bd h k
    have ih2 := ih i
    have ih3 := ih k
    have h1 : 0 ≤ (if mRk s k = 1 then (1 : Int) else 0) ∧ (if mRk s k = 1 then (1 : Int) else 0) ≤ 1 := by split <;> omega
    unfold clF
    split
    · exact gupd_bd (lo := 0) (hi := 10000 + ((k + 1 : Nat) : Int)) (fun j => by have := ih j; omega) (by omega) i
    · omega

set_option maxRecDepth 100000 in
set_option maxHeartbeats 4000000 in
theorem m_contest {l : Launch} {Γ : GA} (hfl : l.stackTraces = false) {ad : Nat → Nat} (I : IM ad) {s : MS} (V : VM s) {g : Int} (hg : -2147483648 ≤ g ∧ g ≤ 2147483647) : Ct l Γ m_X5_contest [.ref (ad 40), iv g] (HM ad s) (fun v h' => ∃ (r : Int) (s2 : MS), v = some (iv r) ∧ h' = HM ad s2 ∧ MContest s g r s2) (fun _ _ => False) := by
  have b0 := V.at 29 0 rfl
  have b36 := V.at 36 0 rfl
  have bg := mOg_bd s g (s 29 0).toNat
  have V0 := VM_th V 0 (by omega)
  refine Ct.intro hfl (by decide +kernel) rfl (Nat.le_of_ble_eq_true rfl) ?_
  intro G C R T
  show G 0 [some (.ref (ad 40)), some (iv g), none] [] (HM ad s) 0 0
  refine gk_aload_n C dX5_contest_0 rfl ?_
  refine gk_iload_n C dX5_contest_1 rfl ?_
  refine gk_iconst C dX5_contest_2 ?_
  refine gk_iconst C dX5_contest_3 ?_
  refine gk_callS C o_X5_isIn k_X5_114 dX5_contest_4 (m_X5_isIn_c hfl hg (by omega) (by omega)) rfl rfl (by decide) (by decide) (by exact Nat.le_of_ble_eq_true rfl) (fun _ _ z => z.elim) (fun v_4 h_4 p_4 => ?_)
  obtain ⟨r_4, rfl, rb_4, rc_4, rfl⟩ := p_4
  dsimp only [gk_push]
  refine gk_if_ne C (tgt := 14) (by omega) dX5_contest_7 (by decide) (fun c_7 => ?_) (fun c_7 => ?_)
  · refine gk_aload_n C dX5_contest_14 rfl ?_
    refine mo_getf C I f_X5_203.r dX5_contest_15 (by rfl) ?_
    refine gk_if_ne C (tgt := 30) (by omega) dX5_contest_18 (by decide) (fun c_18 => ?_) (fun c_18 => ?_)
    · refine gk_iconst C dX5_contest_30 ?_
      refine gk_goto C (tgt := 35) dX5_contest_31 (by decide) ?_
      refine mo_putf C I f_X5_107 (by decide) dX5_contest_35 ?_
      refine gk_aload_n C dX5_contest_38 rfl ?_
      refine mo_getf C I f_X5_107.r dX5_contest_39 (by rfl) ?_
      try simp only [moS3_ap, moS_ap, Nat.reduceEqDiff, if_true, if_false, reduceIte]
      refine gk_if_le C (tgt := 47) (by omega) dX5_contest_42 (by decide) (fun c_42 => ?_) (fun c_42 => ?_)
      · exact absurd c_42 (by omega)
      · refine gk_iconst C dX5_contest_45 ?_
        refine (R _ _ _ _ _ (by decide) (by decide)).1 _ rfl dX5_contest_46 ?_
        first | exact ⟨_, _, rfl, rfl, Or.inl ⟨by omega, rfl, rfl⟩⟩ | exact ⟨_, _, rfl, rfl, Or.inr (Or.inl ⟨by omega, by omega, rfl, rfl⟩)⟩
    · refine gk_aload_n C dX5_contest_21 rfl ?_
      refine gk_iload_n C dX5_contest_22 rfl ?_
      refine gk_callV C o_X5_ofGrade k_X5_207 dX5_contest_23 (m_ofGrade hfl I V hg) (mo_obj I) rfl rfl rfl (by decide) (by decide) (by exact Nat.le_of_ble_eq_true rfl) (fun _ _ z => z.elim) (fun v_23 h_23 p_23 => ?_)
      obtain ⟨rfl, rfl⟩ := p_23
      dsimp only [gk_push]
      refine gk_iconst C dX5_contest_26 ?_
      refine gk_icmp_ge C (tgt := 34) (by omega) (by omega) dX5_contest_27 (by decide) (fun c_27 => ?_) (fun c_27 => ?_)
      · refine gk_iconst C dX5_contest_34 ?_
        refine mo_putf C I f_X5_107 (by decide) dX5_contest_35 ?_
        refine gk_aload_n C dX5_contest_38 rfl ?_
        refine mo_getf C I f_X5_107.r dX5_contest_39 (by rfl) ?_
        try simp only [moS3_ap, moS_ap, Nat.reduceEqDiff, if_true, if_false, reduceIte]
        refine gk_if_le C (tgt := 47) (by omega) dX5_contest_42 (by decide) (fun c_42 => ?_) (fun c_42 => ?_)
        · refine gk_aload_n C dX5_contest_47 rfl ?_
          refine gk_iconst C dX5_contest_48 ?_
          refine mo_putb C I (by omega) f_X5_203 (by decide) dX5_contest_49 ?_
          refine gk_aload_n C dX5_contest_52 rfl ?_
          refine gk_iconst C dX5_contest_53 ?_
          refine mo_putf C I f_X5_210 (by decide) dX5_contest_54 ?_
          refine gk_iconst C dX5_contest_57 ?_
          refine gk_istore_n_2 C rfl (by decide) dX5_contest_58 ?_
          have key : ∀ (n k : Nat), s 29 0 - k < n → k ≤ s 29 0 → G 59 [some (.ref (ad 40)), some (iv g), some (iv (k : Int))] [] (HM ad (moS (moS (moS s 39 (fun _ => 0)) 36 (fun _ => 1)) 37 (fun _ => (pkS s g k : Int)))) 0 0 := by
            intro n
            induction n with
            | zero => intro k h1; omega
            | succ n ih =>
              intro k hn hk
              have b30 := V.at 30 (k : Int) rfl
              have hp := pkS_lt s g k
              have hp2 := pow_le8 (k := k) (by omega)
              have fin : ∀ y : Int, k < s 29 0 → y = (pkS s g (k + 1) : Int) → G 59 [some (.ref (ad 40)), some (iv g), some (iv ((k : Int) + 1))] [] (HM ad (moS (moS (moS s 39 (fun _ => 0)) 36 (fun _ => 1)) 37 (fun _ => y))) 0 0 := by
                intro y hk1 hy
                rw [hy]
                exact ih (k + 1) (by omega) (by omega)
              refine gk_iload_n C dX5_contest_59 rfl ?_
              refine gk_aload_n C dX5_contest_60 rfl ?_
              refine mo_getf C I f_X5_200.r dX5_contest_61 (by rfl) ?_
              try simp only [moS3_ap, moS_ap, Nat.reduceEqDiff, if_true, if_false, reduceIte]
              refine gk_icmp_ge C (tgt := 99) (by omega) (by omega) dX5_contest_64 (by decide) (fun c_64 => ?_) (fun c_64 => ?_)
              · have ekn : k = (s 29 0).toNat := by omega
                rw [ekn] at hp hp2 ⊢
                obtain ⟨S, hS⟩ : ∃ S : MS, S = (moS (moS (moS s 39 (fun _ => 0)) 36 (fun _ => 1)) 37 (fun _ => (pkS s g (s 29 0).toNat : Int))) := ⟨_, rfl⟩
                rw [← hS]
                have VS : VM S := by rw [hS]; exact (V0.set (j := 36) rfl (fun _ => by omega)).set (j := 37) rfl (fun _ => by omega)
                have hS29 : S 29 0 = s 29 0 := by rw [hS]; rfl
                have hS30 : S 30 = s 30 := by rw [hS]; rfl
                refine gk_iconst C dX5_contest_99 ?_
                refine gk_istore_n_2 C rfl (by decide) dX5_contest_100 ?_
                have key2 : ∀ (n k : Nat) (f : Int → Int), 32 - k < n → k ≤ 32 → (∀ i : Int, 0 ≤ i → i < k → f i = -1) → (∀ i, -1 ≤ f i ∧ f i ≤ 100) → G 101 [some (.ref (ad 40)), some (iv g), some (iv (k : Int))] [] (HM ad (moS S 38 f)) 0 0 := by
                  intro n
                  induction n with
                  | zero => intro k f h1; omega
                  | succ n ih2 =>
                    intro k f hn hk hf bf
                    refine gk_iload_n C dX5_contest_101 rfl ?_
                    refine gk_bipush C dX5_contest_102 (by decide) ?_
                    refine gk_icmp_ge C (tgt := 120) (by omega) (by omega) dX5_contest_104 (by decide) (fun c_104 => ?_) (fun c_104 => ?_)
                    · have VZ : VM (moS S 38 f) := VS.set rfl bf
                      refine gk_aload_n C dX5_contest_120 rfl ?_
                      refine gk_iload_n C dX5_contest_121 rfl ?_
                      refine gk_callV C o_X5_ofGrade k_X5_207 dX5_contest_122 (m_ofGrade hfl I VZ hg) (mo_obj I) rfl rfl rfl (by decide) (by decide) (by exact Nat.le_of_ble_eq_true rfl) (fun _ _ z => z.elim) (fun v_122 h_122 p_122 => ?_)
                      obtain ⟨rfl, rfl⟩ := p_122
                      dsimp only [gk_push]
                      rw [show mOg (moS S 38 f) g (moS S 38 f 29 0).toNat = mOg s g (s 29 0).toNat from by rw [show moS S 38 f 29 0 = s 29 0 from hS29]; unfold mOg; rw [show moS S 38 f 30 = s 30 from hS30]]
                      refine (R _ _ _ _ _ (by decide) (by decide)).1 _ rfl dX5_contest_125 ?_
                      exact ⟨_, _, rfl, rfl, Or.inr (Or.inr ⟨by omega, by omega, rfl, f, fun i h0 h1 => hf i h0 (by omega), bf, by rw [hS]⟩)⟩
                    · refine gk_aload_n C dX5_contest_107 rfl ?_
                      refine mo_getf C I f_X5_104.r dX5_contest_108 (by rfl) ?_
                      try simp only [moS3_ap, moS_ap, Nat.reduceEqDiff, if_true, if_false, reduceIte]
                      refine gk_iload_n C dX5_contest_111 rfl ?_
                      refine gk_iconst C dX5_contest_112 ?_
                      refine mo_iast C I (by rfl) dX5_contest_113 (by omega) (by omega) ?_
                      refine gk_iinc_2 C rfl (by decide) dX5_contest_114 ?_
                      refine gk_goto C (tgt := 101) dX5_contest_117 (by decide) ?_
                      rw [moS_moS]
                      refine ih2 (k + 1) _ (by omega) (by omega) (fun i h0 h1 => ?_) (fun i => ?_)
                      · by_cases e : i = (k : Int)
                        · rw [e, gupd_eq]
                        · rw [gupd_ne e, moS_eq]; exact hf i h0 (by omega)
                      · by_cases e : i = (k : Int)
                        · rw [e, gupd_eq]; omega
                        · rw [gupd_ne e, moS_eq]; exact bf i
                have h9 := key2 33 0 (S 38) (by omega) (by omega) (fun i h0 h1 => by omega) (fun i => VS.at 38 i rfl)
                rw [moS_self] at h9
                exact h9
              · have e1 : Int32.ofInt 1 <<< (Int32.ofInt (k : Int) &&& 31) = Int32.ofInt ((2 ^ k : Nat) : Int) := bt_shl ⟨k, by omega⟩
                have e2 : Int32.ofInt (pkS s g k : Int) ||| Int32.ofInt ((2 ^ k : Nat) : Int) = Int32.ofInt ((pkS s g k + 2 ^ k : Nat) : Int) := bt_or ⟨k, by omega⟩ ⟨pkS s g k, by omega⟩ hp
                have e3 : Int32.ofInt (pkS s g k : Int) ||| Int32.ofInt 0 = Int32.ofInt (pkS s g k : Int) := bt_or0 ⟨pkS s g k, by omega⟩
                refine gk_aload_n C dX5_contest_67 rfl ?_
                refine gk_dup C rfl dX5_contest_68 ?_
                refine mo_getf C I f_X5_210.r dX5_contest_69 (by rfl) ?_
                try simp only [moS3_ap, moS_ap, Nat.reduceEqDiff, if_true, if_false, reduceIte]
                refine gk_aload_n C dX5_contest_72 rfl ?_
                refine mo_getf C I f_X5_86.r dX5_contest_73 (by rfl) ?_
                try simp only [moS3_ap, moS_ap, Nat.reduceEqDiff, if_true, if_false, reduceIte]
                refine gk_iload_n C dX5_contest_76 rfl ?_
                refine mo_iald C I (by rfl) dX5_contest_77 (by omega) (by omega) ?_
                try simp only [moS3_ap, moS_ap, Nat.reduceEqDiff, if_true, if_false, reduceIte]
                refine gk_iload_n C dX5_contest_78 rfl ?_
                refine gk_icmp_ne C (tgt := 88) (by omega) (by omega) dX5_contest_79 (by decide) (fun c_79 => ?_) (fun c_79 => ?_)
                · refine gk_iconst C dX5_contest_88 ?_
                  refine gk_ior C dX5_contest_89 (by first | exact e2 | exact e3) ?_
                  refine mo_putf C I f_X5_210 (by decide) dX5_contest_90 ?_
                  refine gk_iinc_2 C rfl (by decide) dX5_contest_93 ?_
                  refine gk_goto C (tgt := 59) dX5_contest_96 (by decide) ?_
                  rw [moS_moS]
                  first | exact fin _ (by omega) (by show _ = ((pkS s g k + (if s 30 (k : Int) = g then 2 ^ k else 0) : Nat) : Int); rw [if_pos c_79]) | exact fin _ (by omega) (by show _ = ((pkS s g k + (if s 30 (k : Int) = g then 2 ^ k else 0) : Nat) : Int); rw [if_neg c_79]; rfl)
                · refine gk_iconst C dX5_contest_82 ?_
                  refine gk_iload_n C dX5_contest_83 rfl ?_
                  refine gk_ishl C dX5_contest_84 e1 ?_
                  refine gk_goto C (tgt := 89) dX5_contest_85 (by decide) ?_
                  refine gk_ior C dX5_contest_89 (by first | exact e2 | exact e3) ?_
                  refine mo_putf C I f_X5_210 (by decide) dX5_contest_90 ?_
                  refine gk_iinc_2 C rfl (by decide) dX5_contest_93 ?_
                  refine gk_goto C (tgt := 59) dX5_contest_96 (by decide) ?_
                  rw [moS_moS]
                  first | exact fin _ (by omega) (by show _ = ((pkS s g k + (if s 30 (k : Int) = g then 2 ^ k else 0) : Nat) : Int); rw [if_pos c_79]) | exact fin _ (by omega) (by show _ = ((pkS s g k + (if s 30 (k : Int) = g then 2 ^ k else 0) : Nat) : Int); rw [if_neg c_79]; rfl)
          have h9 := key 9 0 (by omega) (by omega)
          exact h9
        · exact absurd c_42 (by omega)
      · refine gk_iconst C dX5_contest_30 ?_
        refine gk_goto C (tgt := 35) dX5_contest_31 (by decide) ?_
        refine mo_putf C I f_X5_107 (by decide) dX5_contest_35 ?_
        refine gk_aload_n C dX5_contest_38 rfl ?_
        refine mo_getf C I f_X5_107.r dX5_contest_39 (by rfl) ?_
        try simp only [moS3_ap, moS_ap, Nat.reduceEqDiff, if_true, if_false, reduceIte]
        refine gk_if_le C (tgt := 47) (by omega) dX5_contest_42 (by decide) (fun c_42 => ?_) (fun c_42 => ?_)
        · exact absurd c_42 (by omega)
        · refine gk_iconst C dX5_contest_45 ?_
          refine (R _ _ _ _ _ (by decide) (by decide)).1 _ rfl dX5_contest_46 ?_
          first | exact ⟨_, _, rfl, rfl, Or.inl ⟨by omega, rfl, rfl⟩⟩ | exact ⟨_, _, rfl, rfl, Or.inr (Or.inl ⟨by omega, by omega, rfl, rfl⟩)⟩
  · refine gk_iconst C dX5_contest_10 ?_
    refine gk_goto C (tgt := 35) dX5_contest_11 (by decide) ?_
    refine mo_putf C I f_X5_107 (by decide) dX5_contest_35 ?_
    refine gk_aload_n C dX5_contest_38 rfl ?_
    refine mo_getf C I f_X5_107.r dX5_contest_39 (by rfl) ?_
    try simp only [moS3_ap, moS_ap, Nat.reduceEqDiff, if_true, if_false, reduceIte]
    refine gk_if_le C (tgt := 47) (by omega) dX5_contest_42 (by decide) (fun c_42 => ?_) (fun c_42 => ?_)
    · exact absurd c_42 (by omega)
    · refine gk_iconst C dX5_contest_45 ?_
      refine (R _ _ _ _ _ (by decide) (by decide)).1 _ rfl dX5_contest_46 ?_
      first | exact ⟨_, _, rfl, rfl, Or.inl ⟨by omega, rfl, rfl⟩⟩ | exact ⟨_, _, rfl, rfl, Or.inr (Or.inl ⟨by omega, by omega, rfl, rfl⟩)⟩

set_option maxRecDepth 100000 in
set_option maxHeartbeats 4000000 in
theorem m_close {l : Launch} {Γ : GA} (hfl : l.stackTraces = false) {ad : Nat → Nat} (I : IM ad) {s : MS} (V : VM s) (hpts : ∀ i, 0 ≤ s 31 i ∧ s 31 i ≤ 10000) (hfst : ∀ i, 0 ≤ s 34 i ∧ s 34 i ≤ 10000) : Ct l Γ m_X5_close [.ref (ad 40)] (HM ad s) (fun v h' => ∃ (r : Int) (s2 : MS), v = some (iv r) ∧ h' = HM ad s2 ∧ MClose s r s2) (fun _ _ => False) := by
  have b0 := V.at 29 0 rfl
  have b36 := V.at 36 0 rfl
  have bm := mMis_bd s
  refine Ct.intro hfl (by decide +kernel) rfl (Nat.le_of_ble_eq_true rfl) ?_
  intro G C R T
  show G 0 [some (.ref (ad 40)), none, none, none] [] (HM ad s) 0 0
  refine gk_aload_n C dX5_close_0 rfl ?_
  refine gk_aload_n C dX5_close_1 rfl ?_
  refine mo_getf C I f_X5_203.r dX5_close_2 (by rfl) ?_
  refine gk_if_eq C (tgt := 15) (by omega) dX5_close_5 (by decide) (fun c_5 => ?_) (fun c_5 => ?_)
  · refine gk_iconst C dX5_close_15 ?_
    refine gk_goto C (tgt := 20) dX5_close_16 (by decide) ?_
    refine mo_putf C I f_X5_107 (by decide) dX5_close_20 ?_
    refine gk_aload_n C dX5_close_23 rfl ?_
    refine mo_getf C I f_X5_107.r dX5_close_24 (by rfl) ?_
    try simp only [moS4_ap, moS4_32, moS4_33, moS4_31, moS4_34, gupd_2, gupd_eq, moS3_ap, moS_ap, Nat.reduceEqDiff, if_true, if_false, reduceIte]
    refine gk_if_le C (tgt := 32) (by omega) dX5_close_27 (by decide) (fun c_27 => ?_) (fun c_27 => ?_)
    · exact absurd c_27 (by omega)
    · refine gk_iconst C dX5_close_30 ?_
      refine (R _ _ _ _ _ (by decide) (by decide)).1 _ rfl dX5_close_31 ?_
      exact ⟨_, _, rfl, rfl, Or.inl ⟨by omega, rfl, rfl⟩⟩
  · refine gk_aload_n C dX5_close_8 rfl ?_
    refine gk_callV C o_X5_missing k_X5_219 dX5_close_9 (m_missing hfl I V) (mo_obj I) rfl rfl rfl (by decide) (by decide) (by exact Nat.le_of_ble_eq_true rfl) (fun _ _ z => z.elim) (fun v_9 h_9 p_9 => ?_)
    obtain ⟨rfl, rfl⟩ := p_9
    dsimp only [gk_push]
    refine gk_if_le C (tgt := 19) (by omega) dX5_close_12 (by decide) (fun c_12 => ?_) (fun c_12 => ?_)
    · refine gk_iconst C dX5_close_19 ?_
      refine mo_putf C I f_X5_107 (by decide) dX5_close_20 ?_
      refine gk_aload_n C dX5_close_23 rfl ?_
      refine mo_getf C I f_X5_107.r dX5_close_24 (by rfl) ?_
      try simp only [moS4_ap, moS4_32, moS4_33, moS4_31, moS4_34, gupd_2, gupd_eq, moS3_ap, moS_ap, Nat.reduceEqDiff, if_true, if_false, reduceIte]
      refine gk_if_le C (tgt := 32) (by omega) dX5_close_27 (by decide) (fun c_27 => ?_) (fun c_27 => ?_)
      · obtain ⟨s0, es0⟩ : ∃ s0 : MS, s0 = moS s 39 (fun _ => 0) := ⟨_, rfl⟩
        rw [← es0]
        have V0 : VM s0 := by rw [es0]; exact VM_th V 0 (by omega)
        have e29 : s0 29 = s 29 := by rw [es0]; rfl
        have h31 : ∀ i, 0 ≤ s0 31 i ∧ s0 31 i ≤ 10000 := by rw [es0]; exact hpts
        have h34 : ∀ i, 0 ≤ s0 34 i ∧ s0 34 i ≤ 10000 := by rw [es0]; exact hfst
        have eT : ∀ R T P F i, mTb (moS4 s0 R T P F) i = mTb s0 i := fun _ _ _ _ _ => rfl
        have eS : ∀ R T P F i, mSumO (moS4 s0 R T P F) i = mSumO s0 i := fun _ _ _ _ _ => rfl
        refine gk_iconst C dX5_close_32 ?_
        refine gk_istore_n_1 C rfl (by decide) dX5_close_33 ?_
        refine gk_iconst C dX5_close_34 ?_
        refine gk_istore_n_2 C rfl (by decide) dX5_close_35 ?_
        have key : ∀ (n k : Nat) x3, s 29 0 - k < n → k ≤ s 29 0 → G 36 [some (.ref (ad 40)), some (iv (cl1 s0 k)), some (iv (k : Int)), x3] [] (HM ad (moS4 s0 (clR s0 k) (clT s0 k) (clP s0 k) (clF s0 k))) 0 0 := by
          intro n
          induction n with
          | zero => intro k x3 h1; omega
          | succ n ih =>
            intro k x3 hn hk
            have bt := mTb_01 s0 (k : Int)
            have bk := mRk_bd V0 (k : Int)
            have bs := mSumO_bd V0 (k : Int)
            have bP : ∀ i, 0 ≤ clP s0 k i ∧ clP s0 k i ≤ 1000000 := fun i => by have := clP_bd h31 k i; omega
            have bF : ∀ i, 0 ≤ clF s0 k i ∧ clF s0 k i ≤ 1000000 := fun i => by have := clF_bd h34 k i; omega
            have fin0 : k < s 29 0 → ¬ mTb s0 k = 1 → ∀ x3, G 36 [some (.ref (ad 40)), some (iv (cl1 s0 k)), some (iv ((k : Int) + 1)), x3] [] (HM ad (moS4 s0 (gupd (clR s0 k) k (-1)) (gupd (clT s0 k) k (-1)) (clP s0 k) (clF s0 k))) 0 0 := by
              intro h1 h2 x3
              have h9 := ih (k + 1) x3 (by omega) (by omega)
              rw [show clR s0 (k + 1) = gupd (clR s0 k) k (-1) from by show gupd _ _ (if _ then _ else _) = _; rw [if_neg h2], show clT s0 (k + 1) = gupd (clT s0 k) k (-1) from by show gupd _ _ (if _ then _ else _) = _; rw [if_neg h2], show clP s0 (k + 1) = clP s0 k from if_neg h2, show clF s0 (k + 1) = clF s0 k from if_neg h2, show cl1 s0 (k + 1) = cl1 s0 k from if_neg (fun z => h2 z.1)] at h9
              exact h9
            have fin1 : k < s 29 0 → mTb s0 k = 1 → ∀ x3 fi, fi = cl1 s0 (k + 1) → G 36 [some (.ref (ad 40)), some (iv fi), some (iv ((k : Int) + 1)), x3] [] (HM ad (moS4 s0 (gupd (clR s0 k) k (mRk s0 k)) (gupd (clT s0 k) k (mSumO s0 k)) (gupd (clP s0 k) k (clP s0 k k + ptOf (mRk s0 k))) (gupd (clF s0 k) k (clF s0 k k + if mRk s0 k = 1 then 1 else 0)))) 0 0 := by
              intro h1 h2 x3 fi hfi
              have h9 := ih (k + 1) x3 (by omega) (by omega)
              rw [show clR s0 (k + 1) = gupd (clR s0 k) k (mRk s0 k) from by show gupd _ _ (if _ then _ else _) = _; rw [if_pos h2], show clT s0 (k + 1) = gupd (clT s0 k) k (mSumO s0 k) from by show gupd _ _ (if _ then _ else _) = _; rw [if_pos h2], show clP s0 (k + 1) = gupd (clP s0 k) k (clP s0 k k + ptOf (mRk s0 k)) from if_pos h2, show clF s0 (k + 1) = gupd (clF s0 k) k (clF s0 k k + if mRk s0 k = 1 then 1 else 0) from if_pos h2, ← hfi] at h9
              exact h9
            refine gk_iload_n C dX5_close_36 rfl ?_
            refine gk_aload_n C dX5_close_37 rfl ?_
            refine mo_getf C I f_X5_200.r dX5_close_38 (by rfl) ?_
            try simp only [moS4_ap, moS4_32, moS4_33, moS4_31, moS4_34, gupd_2, gupd_eq, moS3_ap, moS_ap, Nat.reduceEqDiff, if_true, if_false, reduceIte]
            first | rw [e29] | skip
            refine gk_icmp_ge C (tgt := 236) (by omega) (by omega) dX5_close_41 (by decide) (fun c_41 => ?_) (fun c_41 => ?_)
            · refine gk_aload_n C dX5_close_236 rfl ?_
              refine gk_iconst C dX5_close_237 ?_
              refine mo_putb C I (by omega) f_X5_203 (by decide) dX5_close_238 ?_
              refine gk_iload_n C dX5_close_241 rfl ?_
              refine (R _ _ _ _ _ (by decide) (by decide)).1 _ rfl dX5_close_242 ?_
              rw [show k = (s 29 0).toNat by omega]
              exact ⟨_, _, rfl, rfl, Or.inr ⟨by omega, s0, es0, rfl, rfl⟩⟩
            · refine gk_aload_n C dX5_close_44 rfl ?_
              refine mo_getf C I f_X5_92.r dX5_close_45 (by rfl) ?_
              try simp only [moS4_ap, moS4_32, moS4_33, moS4_31, moS4_34, gupd_2, gupd_eq, moS3_ap, moS_ap, Nat.reduceEqDiff, if_true, if_false, reduceIte]
              refine gk_iload_n C dX5_close_48 rfl ?_
              refine gk_iconst C dX5_close_49 ?_
              refine mo_iast C I (by rfl) dX5_close_50 (by omega) (by omega) ?_
              try simp only [moS4_ap, moS4_32, moS4_33, moS4_31, moS4_34, gupd_2, gupd_eq, moS3_ap, moS_ap, Nat.reduceEqDiff, if_true, if_false, reduceIte]
              refine gk_aload_n C dX5_close_51 rfl ?_
              refine mo_getf C I f_X5_95.r dX5_close_52 (by rfl) ?_
              try simp only [moS4_ap, moS4_32, moS4_33, moS4_31, moS4_34, gupd_2, gupd_eq, moS3_ap, moS_ap, Nat.reduceEqDiff, if_true, if_false, reduceIte]
              refine gk_iload_n C dX5_close_55 rfl ?_
              refine gk_iconst C dX5_close_56 ?_
              refine mo_iast C I (by rfl) dX5_close_57 (by omega) (by omega) ?_
              try simp only [moS4_ap, moS4_32, moS4_33, moS4_31, moS4_34, gupd_2, gupd_eq, moS3_ap, moS_ap, Nat.reduceEqDiff, if_true, if_false, reduceIte]
              refine gk_aload_n C dX5_close_58 rfl ?_
              refine gk_iload_n C dX5_close_59 rfl ?_
              refine gk_callV C o_X5_takesPart k_X5_213 dX5_close_60 (m_takesPart hfl I (VM4 V0 (gupd_bd (clR_bd V0 k) (by omega)) (gupd_bd (clT_bd V0 k) (by omega)) bP bF) (i := (k : Int)) (by omega)) (mo_obj I) rfl rfl rfl (by decide) (by decide) (by exact Nat.le_of_ble_eq_true rfl) (fun _ _ z => z.elim) (fun v_60 h_60 p_60 => ?_)
              obtain ⟨rfl, rfl⟩ := p_60
              dsimp only [gk_push]
              rw [eT]
              refine gk_if_eq C (tgt := 230) (by omega) dX5_close_63 (by decide) (fun c_63 => ?_) (fun c_63 => ?_)
              · refine gk_iinc_2 C rfl (by decide) dX5_close_230 ?_
                refine gk_goto C (tgt := 36) dX5_close_233 (by decide) ?_
                first | exact fin0 (by omega) (by omega) _ | exact fin1 (by omega) (by omega) _ _ (by show _ = if _ then _ else _; first | rw [if_pos ⟨by omega, by omega⟩] | rw [if_neg (fun z => by omega)])
              · refine gk_aload_n C dX5_close_66 rfl ?_
                refine mo_getf C I f_X5_92.r dX5_close_67 (by rfl) ?_
                try simp only [moS4_ap, moS4_32, moS4_33, moS4_31, moS4_34, gupd_2, gupd_eq, moS3_ap, moS_ap, Nat.reduceEqDiff, if_true, if_false, reduceIte]
                refine gk_iload_n C dX5_close_70 rfl ?_
                refine gk_iconst C dX5_close_71 ?_
                refine mo_iast C I (by rfl) dX5_close_72 (by omega) (by omega) ?_
                try simp only [moS4_ap, moS4_32, moS4_33, moS4_31, moS4_34, gupd_2, gupd_eq, moS3_ap, moS_ap, Nat.reduceEqDiff, if_true, if_false, reduceIte]
                refine gk_aload_n C dX5_close_73 rfl ?_
                refine mo_getf C I f_X5_95.r dX5_close_74 (by rfl) ?_
                try simp only [moS4_ap, moS4_32, moS4_33, moS4_31, moS4_34, gupd_2, gupd_eq, moS3_ap, moS_ap, Nat.reduceEqDiff, if_true, if_false, reduceIte]
                refine gk_iload_n C dX5_close_77 rfl ?_
                refine gk_aload_n C dX5_close_78 rfl ?_
                refine gk_iload_n C dX5_close_79 rfl ?_
                refine gk_callV C o_X5_sumOf k_X5_225 dX5_close_80 (m_sumOf hfl I (VM4 V0 (gupd_bd (clR_bd V0 k) (by omega)) (gupd_bd (clT_bd V0 k) (by omega)) bP bF) (i := (k : Int)) (by omega)) (mo_obj I) rfl rfl rfl (by decide) (by decide) (by exact Nat.le_of_ble_eq_true rfl) (fun _ _ z => z.elim) (fun v_80 h_80 p_80 => ?_)
                obtain ⟨rfl, rfl⟩ := p_80
                dsimp only [gk_push]
                rw [eS]
                refine mo_iast C I (by rfl) dX5_close_83 (by omega) (by omega) ?_
                try simp only [moS4_ap, moS4_32, moS4_33, moS4_31, moS4_34, gupd_2, gupd_eq, moS3_ap, moS_ap, Nat.reduceEqDiff, if_true, if_false, reduceIte]
                refine gk_iconst C dX5_close_84 ?_
                refine gk_istore_n_3 C rfl (by decide) dX5_close_85 ?_
                have key2 : ∀ (n m : Nat), s 29 0 - m < n → m ≤ s 29 0 → G 86 [some (.ref (ad 40)), some (iv (cl1 s0 k)), some (iv (k : Int)), some (iv (m : Int))] [] (HM ad (moS4 s0 (gupd (clR s0 k) k (1 + usum (mAh s0 k) m)) (gupd (clT s0 k) k (mSumO s0 k)) (clP s0 k) (clF s0 k))) 0 0 := by
                  intro n
                  induction n with
                  | zero => intro m h1; omega
                  | succ n ih2 =>
                    intro m hn hm
                    have bu := usum_01 (f := mAh s0 k) (mAh_01 s0 k) m
                    have V2 : VM (moS4 s0 (gupd (clR s0 k) k (1 + usum (mAh s0 k) m)) (gupd (clT s0 k) k (mSumO s0 k)) (clP s0 k) (clF s0 k)) := (VM4 V0 (gupd_bd (clR_bd V0 k) (by omega)) (gupd_bd (clT_bd V0 k) (by omega)) bP bF)
                    have fin2 : ∀ y : Int, m < s 29 0 → y = mAh s0 k m → G 86 [some (.ref (ad 40)), some (iv (cl1 s0 k)), some (iv (k : Int)), some (iv ((m : Int) + 1))] [] (HM ad (moS4 s0 (gupd (clR s0 k) k (1 + usum (mAh s0 k) m + y)) (gupd (clT s0 k) k (mSumO s0 k)) (clP s0 k) (clF s0 k))) 0 0 := by
                      intro y h1 hy
                      rw [hy, Int.add_assoc]
                      exact ih2 (m + 1) (by omega) (by omega)
                    have ah0 : ¬ (¬ (m : Int) = k ∧ mTb s0 m = 1 ∧ isBf (mSumO s0 m) (mSumO s0 k) (fun j => mPlc s0 j m) (fun j => mPlc s0 j k) m k) → 0 = mAh s0 k m := fun z => by unfold mAh; rw [if_neg z]
                    have ah1 : (¬ (m : Int) = k ∧ mTb s0 m = 1 ∧ isBf (mSumO s0 m) (mSumO s0 k) (fun j => mPlc s0 j m) (fun j => mPlc s0 j k) m k) → 1 = mAh s0 k m := fun z => by unfold mAh; rw [if_pos z]
                    have bt2 := mTb_01 s0 (m : Int)
                    refine gk_iload_n C dX5_close_86 rfl ?_
                    refine gk_aload_n C dX5_close_87 rfl ?_
                    refine mo_getf C I f_X5_200.r dX5_close_88 (by rfl) ?_
                    try simp only [moS4_ap, moS4_32, moS4_33, moS4_31, moS4_34, gupd_2, gupd_eq, moS3_ap, moS_ap, Nat.reduceEqDiff, if_true, if_false, reduceIte]
                    first | rw [e29] | skip
                    refine gk_icmp_ge C (tgt := 136) (by omega) (by omega) dX5_close_91 (by decide) (fun c_91 => ?_) (fun c_91 => ?_)
                    · refine gk_aload_n C dX5_close_136 rfl ?_
                      refine mo_getf C I f_X5_92.r dX5_close_137 (by rfl) ?_
                      try simp only [moS4_ap, moS4_32, moS4_33, moS4_31, moS4_34, gupd_2, gupd_eq, moS3_ap, moS_ap, Nat.reduceEqDiff, if_true, if_false, reduceIte]
                      refine gk_iload_n C dX5_close_140 rfl ?_
                      refine mo_iald C I (by rfl) dX5_close_141 (by omega) (by omega) ?_
                      try simp only [moS4_ap, moS4_32, moS4_33, moS4_31, moS4_34, gupd_2, gupd_eq, moS3_ap, moS_ap, Nat.reduceEqDiff, if_true, if_false, reduceIte]
                      refine gk_istore_n_3 C rfl (by decide) dX5_close_142 ?_
                      have em : (1 + usum (mAh s0 k) m) = mRk s0 k := by unfold mRk; rw [show (s0 29 0).toNat = m by rw [e29]; omega]
                      rw [em]
                      have k217 : ∀ y : Int, y = (if mRk s0 k = 1 then 1 else 0) → G 217 [some (.ref (ad 40)), some (iv (cl1 s0 k)), some (iv (k : Int)), some (iv (mRk s0 k))] [iv y, iv (clF s0 k k), iv (k : Int), .ref (ad 34)] (HM ad (moS4 s0 (gupd (clR s0 k) k (mRk s0 k)) (gupd (clT s0 k) k (mSumO s0 k)) (gupd (clP s0 k) k (clP s0 k k + ptOf (mRk s0 k))) (clF s0 k))) 0 0 := by
                        intro y hy
                        subst hy
                        refine gk_iadd C dX5_close_217 ?_
                        refine mo_iast C I (by rfl) dX5_close_218 (by omega) (by omega) ?_
                        try simp only [moS4_ap, moS4_32, moS4_33, moS4_31, moS4_34, gupd_2, gupd_eq, moS3_ap, moS_ap, Nat.reduceEqDiff, if_true, if_false, reduceIte]
                        refine gk_iload_n C dX5_close_219 rfl ?_
                        refine gk_iconst C dX5_close_220 ?_
                        refine gk_icmp_ne C (tgt := 228) (by omega) (by omega) dX5_close_221 (by decide) (fun c_221 => ?_) (fun c_221 => ?_)
                        · refine gk_iload_n C dX5_close_228 rfl ?_
                          refine gk_istore_n_1 C rfl (by decide) dX5_close_229 ?_
                          refine gk_iinc_2 C rfl (by decide) dX5_close_230 ?_
                          refine gk_goto C (tgt := 36) dX5_close_233 (by decide) ?_
                          first | exact fin0 (by omega) (by omega) _ | exact fin1 (by omega) (by omega) _ _ (by show _ = if _ then _ else _; first | rw [if_pos ⟨by omega, by omega⟩] | rw [if_neg (fun z => by omega)])
                        · refine gk_iload_n C dX5_close_224 rfl ?_
                          refine gk_goto C (tgt := 229) dX5_close_225 (by decide) ?_
                          refine gk_istore_n_1 C rfl (by decide) dX5_close_229 ?_
                          refine gk_iinc_2 C rfl (by decide) dX5_close_230 ?_
                          refine gk_goto C (tgt := 36) dX5_close_233 (by decide) ?_
                          first | exact fin0 (by omega) (by omega) _ | exact fin1 (by omega) (by omega) _ _ (by show _ = if _ then _ else _; first | rw [if_pos ⟨by omega, by omega⟩] | rw [if_neg (fun z => by omega)])
                      have k198 : ∀ y : Int, y = ptOf (mRk s0 k) → G 198 [some (.ref (ad 40)), some (iv (cl1 s0 k)), some (iv (k : Int)), some (iv (mRk s0 k))] [iv y, iv (clP s0 k k), iv (k : Int), .ref (ad 31)] (HM ad (moS4 s0 (gupd (clR s0 k) k (mRk s0 k)) (gupd (clT s0 k) k (mSumO s0 k)) (clP s0 k) (clF s0 k))) 0 0 := by
                        intro y hy
                        subst hy
                        refine gk_iadd C dX5_close_198 ?_
                        refine mo_iast C I (by rfl) dX5_close_199 (by omega) (by omega) ?_
                        try simp only [moS4_ap, moS4_32, moS4_33, moS4_31, moS4_34, gupd_2, gupd_eq, moS3_ap, moS_ap, Nat.reduceEqDiff, if_true, if_false, reduceIte]
                        refine gk_aload_n C dX5_close_200 rfl ?_
                        refine mo_getf C I f_X5_98.r dX5_close_201 (by rfl) ?_
                        try simp only [moS4_ap, moS4_32, moS4_33, moS4_31, moS4_34, gupd_2, gupd_eq, moS3_ap, moS_ap, Nat.reduceEqDiff, if_true, if_false, reduceIte]
                        refine gk_iload_n C dX5_close_204 rfl ?_
                        refine gk_dup2 C rfl rfl dX5_close_205 ?_
                        refine mo_iald C I (by rfl) dX5_close_206 (by omega) (by omega) ?_
                        try simp only [moS4_ap, moS4_32, moS4_33, moS4_31, moS4_34, gupd_2, gupd_eq, moS3_ap, moS_ap, Nat.reduceEqDiff, if_true, if_false, reduceIte]
                        refine gk_iload_n C dX5_close_207 rfl ?_
                        refine gk_iconst C dX5_close_208 ?_
                        refine gk_icmp_ne C (tgt := 216) (by omega) (by omega) dX5_close_209 (by decide) (fun c_209 => ?_) (fun c_209 => ?_)
                        · refine gk_iconst C dX5_close_216 ?_
                          exact k217 _ (by split <;> omega)
                        · refine gk_iconst C dX5_close_212 ?_
                          refine gk_goto C (tgt := 217) dX5_close_213 (by decide) ?_
                          exact k217 _ (by split <;> omega)
                      refine gk_aload_n C dX5_close_143 rfl ?_
                      refine mo_getf C I f_X5_89.r dX5_close_144 (by rfl) ?_
                      try simp only [moS4_ap, moS4_32, moS4_33, moS4_31, moS4_34, gupd_2, gupd_eq, moS3_ap, moS_ap, Nat.reduceEqDiff, if_true, if_false, reduceIte]
                      refine gk_iload_n C dX5_close_147 rfl ?_
                      refine gk_dup2 C rfl rfl dX5_close_148 ?_
                      refine mo_iald C I (by rfl) dX5_close_149 (by omega) (by omega) ?_
                      try simp only [moS4_ap, moS4_32, moS4_33, moS4_31, moS4_34, gupd_2, gupd_eq, moS3_ap, moS_ap, Nat.reduceEqDiff, if_true, if_false, reduceIte]
                      refine gk_iload_n C dX5_close_150 rfl ?_
                      refine gk_iconst C dX5_close_151 ?_
                      refine gk_icmp_ne C (tgt := 160) (by omega) (by omega) dX5_close_152 (by decide) (fun c_152 => ?_) (fun c_152 => ?_)
                      · refine gk_iload_n C dX5_close_160 rfl ?_
                        refine gk_iconst C dX5_close_161 ?_
                        refine gk_icmp_ne C (tgt := 169) (by omega) (by omega) dX5_close_162 (by decide) (fun c_162 => ?_) (fun c_162 => ?_)
                        · refine gk_iload_n C dX5_close_169 rfl ?_
                          refine gk_iconst C dX5_close_170 ?_
                          refine gk_icmp_ne C (tgt := 178) (by omega) (by omega) dX5_close_171 (by decide) (fun c_171 => ?_) (fun c_171 => ?_)
                          · refine gk_iload_n C dX5_close_178 rfl ?_
                            refine gk_iconst C dX5_close_179 ?_
                            refine gk_icmp_ne C (tgt := 187) (by omega) (by omega) dX5_close_180 (by decide) (fun c_180 => ?_) (fun c_180 => ?_)
                            · refine gk_iload_n C dX5_close_187 rfl ?_
                              refine gk_bipush C dX5_close_188 (by decide) ?_
                              refine gk_icmp_ge C (tgt := 197) (by omega) (by omega) dX5_close_190 (by decide) (fun c_190 => ?_) (fun c_190 => ?_)
                              · refine gk_iconst C dX5_close_197 ?_
                                exact k198 _ (by unfold ptOf gk_pt; (repeat' split) <;> omega)
                              · refine gk_iconst C dX5_close_193 ?_
                                refine gk_goto C (tgt := 198) dX5_close_194 (by decide) ?_
                                exact k198 _ (by unfold ptOf gk_pt; (repeat' split) <;> omega)
                            · refine gk_iconst C dX5_close_183 ?_
                              refine gk_goto C (tgt := 198) dX5_close_184 (by decide) ?_
                              exact k198 _ (by unfold ptOf gk_pt; (repeat' split) <;> omega)
                          · refine gk_iconst C dX5_close_174 ?_
                            refine gk_goto C (tgt := 198) dX5_close_175 (by decide) ?_
                            exact k198 _ (by unfold ptOf gk_pt; (repeat' split) <;> omega)
                        · refine gk_iconst C dX5_close_165 ?_
                          refine gk_goto C (tgt := 198) dX5_close_166 (by decide) ?_
                          exact k198 _ (by unfold ptOf gk_pt; (repeat' split) <;> omega)
                      · refine gk_bipush C dX5_close_155 (by decide) ?_
                        refine gk_goto C (tgt := 198) dX5_close_157 (by decide) ?_
                        exact k198 _ (by unfold ptOf gk_pt; (repeat' split) <;> omega)
                    · refine gk_aload_n C dX5_close_94 rfl ?_
                      refine mo_getf C I f_X5_92.r dX5_close_95 (by rfl) ?_
                      try simp only [moS4_ap, moS4_32, moS4_33, moS4_31, moS4_34, gupd_2, gupd_eq, moS3_ap, moS_ap, Nat.reduceEqDiff, if_true, if_false, reduceIte]
                      refine gk_iload_n C dX5_close_98 rfl ?_
                      refine gk_dup2 C rfl rfl dX5_close_99 ?_
                      refine mo_iald C I (by rfl) dX5_close_100 (by omega) (by omega) ?_
                      try simp only [moS4_ap, moS4_32, moS4_33, moS4_31, moS4_34, gupd_2, gupd_eq, moS3_ap, moS_ap, Nat.reduceEqDiff, if_true, if_false, reduceIte]
                      refine gk_iload_n C dX5_close_101 rfl ?_
                      refine gk_iload_n C dX5_close_102 rfl ?_
                      refine gk_icmp_eq C (tgt := 127) (by omega) (by omega) dX5_close_103 (by decide) (fun c_103 => ?_) (fun c_103 => ?_)
                      · refine gk_iconst C dX5_close_127 ?_
                        refine gk_iadd C dX5_close_128 ?_
                        refine mo_iast C I (by rfl) dX5_close_129 (by omega) (by omega) ?_
                        refine gk_iinc_3 C rfl (by decide) dX5_close_130 ?_
                        refine gk_goto C (tgt := 86) dX5_close_133 (by decide) ?_
                        try simp only [moS4_ap, moS4_32, moS4_33, moS4_31, moS4_34, gupd_2, gupd_eq, moS3_ap, moS_ap, Nat.reduceEqDiff, if_true, if_false, reduceIte]
                        first | exact fin2 _ (by omega) (ah1 ⟨by omega, by omega, hrc.mp (by omega)⟩) | exact fin2 _ (by omega) (ah0 (fun z => absurd z.1 (by omega))) | exact fin2 _ (by omega) (ah0 (fun z => absurd z.2.1 (by omega))) | exact fin2 _ (by omega) (ah0 (fun z => by have := hrc.mpr z.2.2; omega))
                      · refine gk_aload_n C dX5_close_106 rfl ?_
                        refine gk_iload_n C dX5_close_107 rfl ?_
                        refine gk_callV C o_X5_takesPart k_X5_213 dX5_close_108 (m_takesPart hfl I V2 (i := (m : Int)) (by omega)) (mo_obj I) rfl rfl rfl (by decide) (by decide) (by exact Nat.le_of_ble_eq_true rfl) (fun _ _ z => z.elim) (fun v_108 h_108 p_108 => ?_)
                        obtain ⟨rfl, rfl⟩ := p_108
                        dsimp only [gk_push]
                        rw [eT]
                        refine gk_if_eq C (tgt := 127) (by omega) dX5_close_111 (by decide) (fun c_111 => ?_) (fun c_111 => ?_)
                        · refine gk_iconst C dX5_close_127 ?_
                          refine gk_iadd C dX5_close_128 ?_
                          refine mo_iast C I (by rfl) dX5_close_129 (by omega) (by omega) ?_
                          refine gk_iinc_3 C rfl (by decide) dX5_close_130 ?_
                          refine gk_goto C (tgt := 86) dX5_close_133 (by decide) ?_
                          try simp only [moS4_ap, moS4_32, moS4_33, moS4_31, moS4_34, gupd_2, gupd_eq, moS3_ap, moS_ap, Nat.reduceEqDiff, if_true, if_false, reduceIte]
                          first | exact fin2 _ (by omega) (ah1 ⟨by omega, by omega, hrc.mp (by omega)⟩) | exact fin2 _ (by omega) (ah0 (fun z => absurd z.1 (by omega))) | exact fin2 _ (by omega) (ah0 (fun z => absurd z.2.1 (by omega))) | exact fin2 _ (by omega) (ah0 (fun z => by have := hrc.mpr z.2.2; omega))
                        · refine gk_aload_n C dX5_close_114 rfl ?_
                          refine gk_iload_n C dX5_close_115 rfl ?_
                          refine gk_iload_n C dX5_close_116 rfl ?_
                          refine gk_callV C o_X5_isAhead k_X5_228 dX5_close_117 (m_isAhead hfl I V2 (x := (m : Int)) (y := (k : Int)) (by omega) (by omega)) (mo_obj I) rfl rfl rfl (by decide) (by decide) (by exact Nat.le_of_ble_eq_true rfl) (fun _ _ z => z.elim) (fun v_117 h_117 p_117 => ?_)
                          obtain ⟨ra, rfl, hra, hrb, rfl⟩ := p_117
                          dsimp only [gk_push]
                          have hrc : ra = 1 ↔ isBf (mSumO s0 m) (mSumO s0 k) (fun j => mPlc s0 j m) (fun j => mPlc s0 j k) m k := hrb
                          refine gk_if_eq C (tgt := 127) (by omega) dX5_close_120 (by decide) (fun c_120 => ?_) (fun c_120 => ?_)
                          · refine gk_iconst C dX5_close_127 ?_
                            refine gk_iadd C dX5_close_128 ?_
                            refine mo_iast C I (by rfl) dX5_close_129 (by omega) (by omega) ?_
                            refine gk_iinc_3 C rfl (by decide) dX5_close_130 ?_
                            refine gk_goto C (tgt := 86) dX5_close_133 (by decide) ?_
                            try simp only [moS4_ap, moS4_32, moS4_33, moS4_31, moS4_34, gupd_2, gupd_eq, moS3_ap, moS_ap, Nat.reduceEqDiff, if_true, if_false, reduceIte]
                            first | exact fin2 _ (by omega) (ah1 ⟨by omega, by omega, hrc.mp (by omega)⟩) | exact fin2 _ (by omega) (ah0 (fun z => absurd z.1 (by omega))) | exact fin2 _ (by omega) (ah0 (fun z => absurd z.2.1 (by omega))) | exact fin2 _ (by omega) (ah0 (fun z => by have := hrc.mpr z.2.2; omega))
                          · refine gk_iconst C dX5_close_123 ?_
                            refine gk_goto C (tgt := 128) dX5_close_124 (by decide) ?_
                            refine gk_iadd C dX5_close_128 ?_
                            refine mo_iast C I (by rfl) dX5_close_129 (by omega) (by omega) ?_
                            refine gk_iinc_3 C rfl (by decide) dX5_close_130 ?_
                            refine gk_goto C (tgt := 86) dX5_close_133 (by decide) ?_
                            try simp only [moS4_ap, moS4_32, moS4_33, moS4_31, moS4_34, gupd_2, gupd_eq, moS3_ap, moS_ap, Nat.reduceEqDiff, if_true, if_false, reduceIte]
                            first | exact fin2 _ (by omega) (ah1 ⟨by omega, by omega, hrc.mp (by omega)⟩) | exact fin2 _ (by omega) (ah0 (fun z => absurd z.1 (by omega))) | exact fin2 _ (by omega) (ah0 (fun z => absurd z.2.1 (by omega))) | exact fin2 _ (by omega) (ah0 (fun z => by have := hrc.mpr z.2.2; omega))
                exact key2 9 0 (by omega) (by omega)
        have h9 : G 36 [some (.ref (ad 40)), some (iv (-1)), some (iv (0 : Int)), none] [] (HM ad (moS4 s0 (s0 32) (s0 33) (s0 31) (s0 34))) 0 0 := key 9 0 none (by omega) (by omega)
        rw [moS4_self] at h9
        exact h9
      · exact absurd c_27 (by omega)
    · refine gk_iconst C dX5_close_15 ?_
      refine gk_goto C (tgt := 20) dX5_close_16 (by decide) ?_
      refine mo_putf C I f_X5_107 (by decide) dX5_close_20 ?_
      refine gk_aload_n C dX5_close_23 rfl ?_
      refine mo_getf C I f_X5_107.r dX5_close_24 (by rfl) ?_
      try simp only [moS4_ap, moS4_32, moS4_33, moS4_31, moS4_34, gupd_2, gupd_eq, moS3_ap, moS_ap, Nat.reduceEqDiff, if_true, if_false, reduceIte]
      refine gk_if_le C (tgt := 32) (by omega) dX5_close_27 (by decide) (fun c_27 => ?_) (fun c_27 => ?_)
      · exact absurd c_27 (by omega)
      · refine gk_iconst C dX5_close_30 ?_
        refine (R _ _ _ _ _ (by decide) (by decide)).1 _ rfl dX5_close_31 ?_
        exact ⟨_, _, rfl, rfl, Or.inl ⟨by omega, rfl, rfl⟩⟩
