/-! the tunes: contracts -/
abbrev oTu (nb kd : Int) (hA lA gA pA nA : Nat) (wc fo : Nat) (ou : Int) (pc pl : Nat) : AE := oO 4 [iv nb, iv kd, .ref hA, .ref lA, .ref gA, .ref pA, .ref nA, iv wc, iv fo, iv ou, iv pc, iv pl]
def barU (kd : Int) : Int := if kd = 1 then 16 else if kd = 3 then 6 else 8
theorem barU_r (kd : Int) : 6 ≤ barU kd ∧ barU kd ≤ 16 := by unfold barU; split <;> first | omega | (split <;> omega)
def lawf (prev ht g : Int) : Prop := (g = 0 ∧ prev ≠ ht) ∨ (g = 1 ∧ ht < 4) ∨ (g = 2 ∧ ht < 5) ∨ (g = 3 ∧ ht < 7) ∨ (g = 4 ∧ ht < 8) ∨ (g = 5 ∧ ht ≤ 6) ∨ (g = 6 ∧ 1 ≤ ht) ∨ (g = 7 ∧ ht = 4) ∨ (g = 8 ∧ ht = 1)
def lastH (fh : Int → Int) (wc : Nat) : Int := if wc = 0 then -1 else fh ((wc : Int) - 1)
def usum (f : Int → Int) : Nat → Int
  | 0 => 0
  | n + 1 => usum f n + f (n : Int)
theorem usum_congr {f g : Int → Int} : ∀ {n : Nat}, (∀ i : Int, 0 ≤ i → i < n → f i = g i) → usum f n = usum g n
  | 0, _ => rfl
  | n + 1, h => by
    have h1 := usum_congr (n := n) (fun i h0 h1 => h i h0 (by omega))
    show usum f n + f n = usum g n + g n
    rw [h1, h n (by omega) (by omega)]
theorem usum_bound {f : Int → Int} {b : Int} (hb : 0 ≤ b) : ∀ {n : Nat}, (∀ i : Int, 0 ≤ i → i < n → 0 ≤ f i ∧ f i ≤ b) → 0 ≤ usum f n ∧ usum f n ≤ n * b
  | 0, _ => by simp [usum]
  | n + 1, h => by
    have h1 := usum_bound hb (n := n) (fun i h0 h1 => h i h0 (by omega))
    have h2 := h n (by omega) (by omega)
    show 0 ≤ usum f n + f n ∧ usum f n + f n ≤ ((n + 1 : Nat) : Int) * b
    rw [show (((n + 1 : Nat) : Int)) * b = n * b + b by rw [Int.natCast_succ, Int.add_mul, Int.one_mul]]
    omega
/-- behind the first pl notes that are played, n open ones from fo on -/
def napp (fn : Int → Int) (pl fo n : Nat) : Int → Int := fun i => if (pl : Int) ≤ i ∧ i < pl + n then fo + (i - pl) else fn i
theorem napp_0 (fn : Int → Int) (pl fo : Nat) : napp fn pl fo 0 = fn := by
  funext i
  unfold napp
  rw [if_neg (by omega)]
theorem napp_s (fn : Int → Int) (pl fo n : Nat) : gupd (napp fn pl fo n) ((pl : Int) + n) ((fo : Int) + n) = napp fn pl fo (n + 1) := by
  funext i
  unfold napp gupd
  by_cases c : i = (pl : Int) + n
  · rw [if_pos c, if_pos (by omega)]; omega
  · rw [if_neg c]
    dsimp only
    by_cases d : (pl : Int) ≤ i ∧ i < pl + n
    · rw [if_pos d, if_pos (by omega)]
    · rw [if_neg d, if_neg (by omega)]
def pset (fp : Int → Int) (fo n pc : Nat) : Int → Int := fun i => if (fo : Int) ≤ i ∧ i < fo + n then (pc : Int) else fp i
theorem pset_0 (fp : Int → Int) (fo pc : Nat) : pset fp fo 0 pc = fp := by
  funext i
  unfold pset
  rw [if_neg (by omega)]
theorem pset_s (fp : Int → Int) (fo n pc : Nat) : gupd (pset fp fo n pc) ((fo : Int) + n) pc = pset fp fo (n + 1) pc := by
  funext i
  unfold pset gupd
  by_cases c : i = (fo : Int) + n
  · rw [if_pos c, if_pos (by omega)]
  · rw [if_neg c]
    dsimp only
    by_cases d : (fo : Int) ≤ i ∧ i < fo + n
    · rw [if_pos d, if_pos (by omega)]
    · rw [if_neg d, if_neg (by omega)]
def smallOf (g : Int) : Int := if g = 0 then 0 else if g = 5 ∨ g = 6 ∨ g = 7 then 3 else if g = 8 then 4 else 1

set_option maxRecDepth 100000 in
set_option maxHeartbeats 4000000 in
theorem c_X3_bar {l : Launch} {Γ : GA} (hfl : l.stackTraces = false) {h : Hp} {a hA lA gA pA nA : Nat} {nb kd ou : Int} {wc fo pc pl : Nat} (ha : h a = some (oTu nb kd hA lA gA pA nA wc fo ou pc pl)) (hkd : 0 ≤ kd ∧ kd ≤ 3) : Ct l Γ m_X3_barUnits [.ref a] h (fun v h' => v = some (iv (barU kd)) ∧ h' = h) (fun _ _ => False) := by
  refine Ct.intro hfl (by decide +kernel) rfl (Nat.le_of_ble_eq_true rfl) ?_
  intro G C R T
  show G 0 [some (.ref a)] [] h 0 0
  refine gk_aload_n C dX3_barUnits_0 rfl ?_
  refine gk_getf C f_X3_15.r dX3_barUnits_1 (by (try simp only [hset_set]); first | assumption | exact hset_eq | (refine (hset_ne (by first | assumption | exact Ne.symm (by assumption))).trans ?_; first | assumption | exact hset_eq | (refine (hset_ne (by first | assumption | exact Ne.symm (by assumption))).trans ?_; first | assumption | exact hset_eq | (refine (hset_ne (by first | assumption | exact Ne.symm (by assumption))).trans ?_; first | assumption | exact hset_eq)))) (by rfl) ?_
  rcases (show kd = 0 ∨ kd = 1 ∨ kd = 2 ∨ kd = 3 from by omega) with c_4 | c_4 | c_4 | c_4
  · refine gk_lookup C (tgt := 38) (by omega) dX3_barUnits_4 (by decide) (by first | (rw [c_4]; done) | (rw [c_4]; rfl)) (by decide) ?_
    refine gk_bipush C dX3_barUnits_38 (by decide) ?_
    refine (R _ _ _ _ _ (by decide) (by decide)).1 _ rfl dX3_barUnits_40 ?_
    rw [c_4]
    exact ⟨rfl, rfl⟩
  · refine gk_lookup C (tgt := 32) (by omega) dX3_barUnits_4 (by decide) (by first | (rw [c_4]; done) | (rw [c_4]; rfl)) (by decide) ?_
    refine gk_bipush C dX3_barUnits_32 (by decide) ?_
    refine (R _ _ _ _ _ (by decide) (by decide)).1 _ rfl dX3_barUnits_34 ?_
    rw [c_4]
    exact ⟨rfl, rfl⟩
  · refine gk_lookup C (tgt := 38) (by omega) dX3_barUnits_4 (by decide) (by first | (rw [c_4]; done) | (rw [c_4]; rfl)) (by decide) ?_
    refine gk_bipush C dX3_barUnits_38 (by decide) ?_
    refine (R _ _ _ _ _ (by decide) (by decide)).1 _ rfl dX3_barUnits_40 ?_
    rw [c_4]
    exact ⟨rfl, rfl⟩
  · refine gk_lookup C (tgt := 35) (by omega) dX3_barUnits_4 (by decide) (by first | (rw [c_4]; done) | (rw [c_4]; rfl)) (by decide) ?_
    refine gk_bipush C dX3_barUnits_35 (by decide) ?_
    refine (R _ _ _ _ _ (by decide) (by decide)).1 _ rfl dX3_barUnits_37 ?_
    rw [c_4]
    exact ⟨rfl, rfl⟩

set_option maxRecDepth 100000 in
set_option maxHeartbeats 4000000 in
theorem c_X3_last {l : Launch} {Γ : GA} (hfl : l.stackTraces = false) {h : Hp} {a hA lA gA pA nA : Nat} {nb kd ou : Int} {wc fo pc pl : Nat} (ha : h a = some (oTu nb kd hA lA gA pA nA wc fo ou pc pl)) {fh : Int → Int} (hH : h hA = some (aI 64 fh)) (hwc : wc ≤ 64) : Ct l Γ m_X3_lastWrittenHeight [.ref a] h (fun v h' => v = some (iv (lastH fh wc)) ∧ h' = h) (fun _ _ => False) := by
  refine Ct.intro hfl (by decide +kernel) rfl (Nat.le_of_ble_eq_true rfl) ?_
  intro G C R T
  show G 0 [some (.ref a), none] [] h 0 0
  refine gk_aload_n C dX3_lastWrittenHeight_0 rfl ?_
  refine gk_getf C f_X3_41.r dX3_lastWrittenHeight_1 (by (try simp only [hset_set]); first | assumption | exact hset_eq | (refine (hset_ne (by first | assumption | exact Ne.symm (by assumption))).trans ?_; first | assumption | exact hset_eq | (refine (hset_ne (by first | assumption | exact Ne.symm (by assumption))).trans ?_; first | assumption | exact hset_eq | (refine (hset_ne (by first | assumption | exact Ne.symm (by assumption))).trans ?_; first | assumption | exact hset_eq)))) (by rfl) ?_
  refine gk_iconst C dX3_lastWrittenHeight_4 ?_
  refine gk_isub C dX3_lastWrittenHeight_5 ?_
  refine gk_istore_n_1 C rfl (by decide) dX3_lastWrittenHeight_6 ?_
  refine gk_iload_n C dX3_lastWrittenHeight_7 rfl ?_
  refine gk_if_lt C (tgt := 29) (by omega) dX3_lastWrittenHeight_8 (by decide) (fun c_8 => ?_) (fun c_8 => ?_)
  · refine gk_iconst C dX3_lastWrittenHeight_29 ?_
    refine (R _ _ _ _ _ (by decide) (by decide)).1 _ rfl dX3_lastWrittenHeight_30 ?_
    refine ⟨congrArg (fun q => some (iv q)) ?_, rfl⟩
    unfold lastH
    first | rw [if_pos (by omega)] | rw [if_neg (by omega)]
  · refine gk_iload_n C dX3_lastWrittenHeight_11 rfl ?_
    refine gk_aload_n C dX3_lastWrittenHeight_12 rfl ?_
    refine gk_getf C f_X3_18.r dX3_lastWrittenHeight_13 (by (try simp only [hset_set]); first | assumption | exact hset_eq | (refine (hset_ne (by first | assumption | exact Ne.symm (by assumption))).trans ?_; first | assumption | exact hset_eq | (refine (hset_ne (by first | assumption | exact Ne.symm (by assumption))).trans ?_; first | assumption | exact hset_eq | (refine (hset_ne (by first | assumption | exact Ne.symm (by assumption))).trans ?_; first | assumption | exact hset_eq)))) (by rfl) ?_
    refine gk_alenI C dX3_lastWrittenHeight_16 (by (try simp only [hset_set]); first | assumption | exact hset_eq | (refine (hset_ne (by first | assumption | exact Ne.symm (by assumption))).trans ?_; first | assumption | exact hset_eq | (refine (hset_ne (by first | assumption | exact Ne.symm (by assumption))).trans ?_; first | assumption | exact hset_eq | (refine (hset_ne (by first | assumption | exact Ne.symm (by assumption))).trans ?_; first | assumption | exact hset_eq)))) (by omega) ?_
    refine gk_icmp_ge C (tgt := 29) (by omega) (by omega) dX3_lastWrittenHeight_17 (by decide) (fun c_17 => ?_) (fun c_17 => ?_)
    · omega
    · refine gk_aload_n C dX3_lastWrittenHeight_20 rfl ?_
      refine gk_getf C f_X3_18.r dX3_lastWrittenHeight_21 (by (try simp only [hset_set]); first | assumption | exact hset_eq | (refine (hset_ne (by first | assumption | exact Ne.symm (by assumption))).trans ?_; first | assumption | exact hset_eq | (refine (hset_ne (by first | assumption | exact Ne.symm (by assumption))).trans ?_; first | assumption | exact hset_eq | (refine (hset_ne (by first | assumption | exact Ne.symm (by assumption))).trans ?_; first | assumption | exact hset_eq)))) (by rfl) ?_
      refine gk_iload_n C dX3_lastWrittenHeight_24 rfl ?_
      refine gk_iald C dX3_lastWrittenHeight_25 (by (try simp only [hset_set]); first | assumption | exact hset_eq | (refine (hset_ne (by first | assumption | exact Ne.symm (by assumption))).trans ?_; first | assumption | exact hset_eq | (refine (hset_ne (by first | assumption | exact Ne.symm (by assumption))).trans ?_; first | assumption | exact hset_eq | (refine (hset_ne (by first | assumption | exact Ne.symm (by assumption))).trans ?_; first | assumption | exact hset_eq)))) (by omega) (by omega) ?_
      refine gk_goto C (tgt := 30) dX3_lastWrittenHeight_26 (by decide) ?_
      refine (R _ _ _ _ _ (by decide) (by decide)).1 _ rfl dX3_lastWrittenHeight_30 ?_
      refine ⟨congrArg (fun q => some (iv q)) ?_, rfl⟩
      unfold lastH
      first | rw [if_pos (by omega)] | rw [if_neg (by omega)]

set_option maxRecDepth 100000 in
set_option maxHeartbeats 4000000 in
theorem c_X3_lawful {l : Launch} {Γ : GA} (hfl : l.stackTraces = false) {h : Hp} {a hA lA gA pA nA : Nat} {nb kd ou : Int} {wc fo pc pl : Nat} (ha : h a = some (oTu nb kd hA lA gA pA nA wc fo ou pc pl)) {fh : Int → Int} (hH : h hA = some (aI 64 fh)) (hwc : wc ≤ 64) (hl : -1 ≤ lastH fh wc ∧ lastH fh wc ≤ 8) {ht g : Int} (hht : 0 ≤ ht ∧ ht ≤ 8) (hg : 0 ≤ g ∧ g ≤ 8) : Ct l Γ m_X3_isLawful [.ref a, iv ht, iv g] h (fun v h' => ∃ r : Int, v = some (iv r) ∧ (r = 0 ∨ r = 1) ∧ (r = 1 ↔ lawf (lastH fh wc) ht g) ∧ h' = h) (fun _ _ => False) := by
  refine Ct.intro hfl (by decide +kernel) rfl (Nat.le_of_ble_eq_true rfl) ?_
  intro G C R T
  show G 0 [some (.ref a), some (iv ht), some (iv g)] [] h 0 0
  refine gk_iload_n C dX3_isLawful_0 rfl ?_
  rcases (show (g < 0 ∨ 8 < g) ∨ g = 0 ∨ g = 1 ∨ g = 2 ∨ g = 3 ∨ g = 4 ∨ g = 5 ∨ g = 6 ∨ g = 7 ∨ g = 8 from by omega) with c_1 | c_1 | c_1 | c_1 | c_1 | c_1 | c_1 | c_1 | c_1 | c_1
  · refine gk_tableOut C (tgt := 157) (by omega) dX3_isLawful_1 c_1 (by decide) ?_
    omega
  · refine gk_tableIn C (tgt := 52) (by omega) dX3_isLawful_1 (by omega) (by omega) (by rw [c_1]; rfl) (by decide) ?_
    refine gk_aload_n C dX3_isLawful_52 rfl ?_
    refine gk_callV C o_X3_lastWrittenHeight k_X3_51 dX3_isLawful_53 (c_X3_last hfl ha hH hwc) (by (try simp only [hset_set]); first | assumption | exact hset_eq | (refine (hset_ne (by first | assumption | exact Ne.symm (by assumption))).trans ?_; first | assumption | exact hset_eq | (refine (hset_ne (by first | assumption | exact Ne.symm (by assumption))).trans ?_; first | assumption | exact hset_eq | (refine (hset_ne (by first | assumption | exact Ne.symm (by assumption))).trans ?_; first | assumption | exact hset_eq)))) rfl rfl rfl (by decide) (by decide) (by exact Nat.le_of_ble_eq_true rfl) (fun _ _ z => z.elim) (fun v_53 h_53 p_53 => ?_)
    obtain ⟨rfl, rfl⟩ := p_53
    dsimp only [gk_push]
    refine gk_iload_n C dX3_isLawful_56 rfl ?_
    refine gk_icmp_eq C (tgt := 64) (by omega) (by omega) dX3_isLawful_57 (by decide) (fun c_57 => ?_) (fun c_57 => ?_)
    · refine gk_iconst C dX3_isLawful_64 ?_
      refine (R _ _ _ _ _ (by decide) (by decide)).2.1 _ rfl (by omega) dX3_isLawful_65 ?_
      refine ⟨_, rfl, by omega, ?_, rfl⟩
      unfold lawf
      omega
    · refine gk_iconst C dX3_isLawful_60 ?_
      refine gk_goto C (tgt := 65) dX3_isLawful_61 (by decide) ?_
      refine (R _ _ _ _ _ (by decide) (by decide)).2.1 _ rfl (by omega) dX3_isLawful_65 ?_
      refine ⟨_, rfl, by omega, ?_, rfl⟩
      unfold lawf
      omega
  · refine gk_tableIn C (tgt := 66) (by omega) dX3_isLawful_1 (by omega) (by omega) (by rw [c_1]; rfl) (by decide) ?_
    refine gk_iload_n C dX3_isLawful_66 rfl ?_
    refine gk_iconst C dX3_isLawful_67 ?_
    refine gk_icmp_ge C (tgt := 75) (by omega) (by omega) dX3_isLawful_68 (by decide) (fun c_68 => ?_) (fun c_68 => ?_)
    · refine gk_iconst C dX3_isLawful_75 ?_
      refine (R _ _ _ _ _ (by decide) (by decide)).2.1 _ rfl (by omega) dX3_isLawful_76 ?_
      refine ⟨_, rfl, by omega, ?_, rfl⟩
      unfold lawf
      omega
    · refine gk_iconst C dX3_isLawful_71 ?_
      refine gk_goto C (tgt := 76) dX3_isLawful_72 (by decide) ?_
      refine (R _ _ _ _ _ (by decide) (by decide)).2.1 _ rfl (by omega) dX3_isLawful_76 ?_
      refine ⟨_, rfl, by omega, ?_, rfl⟩
      unfold lawf
      omega
  · refine gk_tableIn C (tgt := 77) (by omega) dX3_isLawful_1 (by omega) (by omega) (by rw [c_1]; rfl) (by decide) ?_
    refine gk_iload_n C dX3_isLawful_77 rfl ?_
    refine gk_iconst C dX3_isLawful_78 ?_
    refine gk_icmp_ge C (tgt := 86) (by omega) (by omega) dX3_isLawful_79 (by decide) (fun c_79 => ?_) (fun c_79 => ?_)
    · refine gk_iconst C dX3_isLawful_86 ?_
      refine (R _ _ _ _ _ (by decide) (by decide)).2.1 _ rfl (by omega) dX3_isLawful_87 ?_
      refine ⟨_, rfl, by omega, ?_, rfl⟩
      unfold lawf
      omega
    · refine gk_iconst C dX3_isLawful_82 ?_
      refine gk_goto C (tgt := 87) dX3_isLawful_83 (by decide) ?_
      refine (R _ _ _ _ _ (by decide) (by decide)).2.1 _ rfl (by omega) dX3_isLawful_87 ?_
      refine ⟨_, rfl, by omega, ?_, rfl⟩
      unfold lawf
      omega
  · refine gk_tableIn C (tgt := 88) (by omega) dX3_isLawful_1 (by omega) (by omega) (by rw [c_1]; rfl) (by decide) ?_
    refine gk_iload_n C dX3_isLawful_88 rfl ?_
    refine gk_bipush C dX3_isLawful_89 (by decide) ?_
    refine gk_icmp_ge C (tgt := 98) (by omega) (by omega) dX3_isLawful_91 (by decide) (fun c_91 => ?_) (fun c_91 => ?_)
    · refine gk_iconst C dX3_isLawful_98 ?_
      refine (R _ _ _ _ _ (by decide) (by decide)).2.1 _ rfl (by omega) dX3_isLawful_99 ?_
      refine ⟨_, rfl, by omega, ?_, rfl⟩
      unfold lawf
      omega
    · refine gk_iconst C dX3_isLawful_94 ?_
      refine gk_goto C (tgt := 99) dX3_isLawful_95 (by decide) ?_
      refine (R _ _ _ _ _ (by decide) (by decide)).2.1 _ rfl (by omega) dX3_isLawful_99 ?_
      refine ⟨_, rfl, by omega, ?_, rfl⟩
      unfold lawf
      omega
  · refine gk_tableIn C (tgt := 100) (by omega) dX3_isLawful_1 (by omega) (by omega) (by rw [c_1]; rfl) (by decide) ?_
    refine gk_iload_n C dX3_isLawful_100 rfl ?_
    refine gk_bipush C dX3_isLawful_101 (by decide) ?_
    refine gk_icmp_ge C (tgt := 110) (by omega) (by omega) dX3_isLawful_103 (by decide) (fun c_103 => ?_) (fun c_103 => ?_)
    · refine gk_iconst C dX3_isLawful_110 ?_
      refine (R _ _ _ _ _ (by decide) (by decide)).2.1 _ rfl (by omega) dX3_isLawful_111 ?_
      refine ⟨_, rfl, by omega, ?_, rfl⟩
      unfold lawf
      omega
    · refine gk_iconst C dX3_isLawful_106 ?_
      refine gk_goto C (tgt := 111) dX3_isLawful_107 (by decide) ?_
      refine (R _ _ _ _ _ (by decide) (by decide)).2.1 _ rfl (by omega) dX3_isLawful_111 ?_
      refine ⟨_, rfl, by omega, ?_, rfl⟩
      unfold lawf
      omega
  · refine gk_tableIn C (tgt := 112) (by omega) dX3_isLawful_1 (by omega) (by omega) (by rw [c_1]; rfl) (by decide) ?_
    refine gk_iload_n C dX3_isLawful_112 rfl ?_
    refine gk_bipush C dX3_isLawful_113 (by decide) ?_
    refine gk_icmp_gt C (tgt := 122) (by omega) (by omega) dX3_isLawful_115 (by decide) (fun c_115 => ?_) (fun c_115 => ?_)
    · refine gk_iconst C dX3_isLawful_122 ?_
      refine (R _ _ _ _ _ (by decide) (by decide)).2.1 _ rfl (by omega) dX3_isLawful_123 ?_
      refine ⟨_, rfl, by omega, ?_, rfl⟩
      unfold lawf
      omega
    · refine gk_iconst C dX3_isLawful_118 ?_
      refine gk_goto C (tgt := 123) dX3_isLawful_119 (by decide) ?_
      refine (R _ _ _ _ _ (by decide) (by decide)).2.1 _ rfl (by omega) dX3_isLawful_123 ?_
      refine ⟨_, rfl, by omega, ?_, rfl⟩
      unfold lawf
      omega
  · refine gk_tableIn C (tgt := 124) (by omega) dX3_isLawful_1 (by omega) (by omega) (by rw [c_1]; rfl) (by decide) ?_
    refine gk_iload_n C dX3_isLawful_124 rfl ?_
    refine gk_iconst C dX3_isLawful_125 ?_
    refine gk_icmp_lt C (tgt := 133) (by omega) (by omega) dX3_isLawful_126 (by decide) (fun c_126 => ?_) (fun c_126 => ?_)
    · refine gk_iconst C dX3_isLawful_133 ?_
      refine (R _ _ _ _ _ (by decide) (by decide)).2.1 _ rfl (by omega) dX3_isLawful_134 ?_
      refine ⟨_, rfl, by omega, ?_, rfl⟩
      unfold lawf
      omega
    · refine gk_iconst C dX3_isLawful_129 ?_
      refine gk_goto C (tgt := 134) dX3_isLawful_130 (by decide) ?_
      refine (R _ _ _ _ _ (by decide) (by decide)).2.1 _ rfl (by omega) dX3_isLawful_134 ?_
      refine ⟨_, rfl, by omega, ?_, rfl⟩
      unfold lawf
      omega
  · refine gk_tableIn C (tgt := 135) (by omega) dX3_isLawful_1 (by omega) (by omega) (by rw [c_1]; rfl) (by decide) ?_
    refine gk_iload_n C dX3_isLawful_135 rfl ?_
    refine gk_iconst C dX3_isLawful_136 ?_
    refine gk_icmp_ne C (tgt := 144) (by omega) (by omega) dX3_isLawful_137 (by decide) (fun c_137 => ?_) (fun c_137 => ?_)
    · refine gk_iconst C dX3_isLawful_144 ?_
      refine (R _ _ _ _ _ (by decide) (by decide)).2.1 _ rfl (by omega) dX3_isLawful_145 ?_
      refine ⟨_, rfl, by omega, ?_, rfl⟩
      unfold lawf
      omega
    · refine gk_iconst C dX3_isLawful_140 ?_
      refine gk_goto C (tgt := 145) dX3_isLawful_141 (by decide) ?_
      refine (R _ _ _ _ _ (by decide) (by decide)).2.1 _ rfl (by omega) dX3_isLawful_145 ?_
      refine ⟨_, rfl, by omega, ?_, rfl⟩
      unfold lawf
      omega
  · refine gk_tableIn C (tgt := 146) (by omega) dX3_isLawful_1 (by omega) (by omega) (by rw [c_1]; rfl) (by decide) ?_
    refine gk_iload_n C dX3_isLawful_146 rfl ?_
    refine gk_iconst C dX3_isLawful_147 ?_
    refine gk_icmp_ne C (tgt := 155) (by omega) (by omega) dX3_isLawful_148 (by decide) (fun c_148 => ?_) (fun c_148 => ?_)
    · refine gk_iconst C dX3_isLawful_155 ?_
      refine (R _ _ _ _ _ (by decide) (by decide)).2.1 _ rfl (by omega) dX3_isLawful_156 ?_
      refine ⟨_, rfl, by omega, ?_, rfl⟩
      unfold lawf
      omega
    · refine gk_iconst C dX3_isLawful_151 ?_
      refine gk_goto C (tgt := 156) dX3_isLawful_152 (by decide) ?_
      refine (R _ _ _ _ _ (by decide) (by decide)).2.1 _ rfl (by omega) dX3_isLawful_156 ?_
      refine ⟨_, rfl, by omega, ?_, rfl⟩
      unfold lawf
      omega

set_option maxRecDepth 100000 in
set_option maxHeartbeats 4000000 in
theorem c_X3_unitsOpen {l : Launch} {Γ : GA} (hfl : l.stackTraces = false) {h : Hp} {a hA lA gA pA nA : Nat} {nb kd ou : Int} {wc fo pc pl : Nat} (ha : h a = some (oTu nb kd hA lA gA pA nA wc fo ou pc pl)) (hkd : 0 ≤ kd ∧ kd ≤ 3) (hou : 0 ≤ ou ∧ ou ≤ 100000) : Ct l Γ m_X3_unitsInOpenBar [.ref a] h (fun v h' => v = some (iv (ou % barU kd)) ∧ h' = h) (fun _ _ => False) := by
  have hbr := barU_r kd
  refine Ct.intro hfl (by decide +kernel) rfl (Nat.le_of_ble_eq_true rfl) ?_
  intro G C R T
  show G 0 [some (.ref a), none] [] h 0 0
  refine gk_aload_n C dX3_unitsInOpenBar_0 rfl ?_
  refine gk_callV C o_X3_barUnits k_X3_34 dX3_unitsInOpenBar_1 (c_X3_bar hfl ha hkd) (by (try simp only [hset_set]); first | assumption | exact hset_eq | (refine (hset_ne (by first | assumption | exact Ne.symm (by assumption))).trans ?_; first | assumption | exact hset_eq | (refine (hset_ne (by first | assumption | exact Ne.symm (by assumption))).trans ?_; first | assumption | exact hset_eq | (refine (hset_ne (by first | assumption | exact Ne.symm (by assumption))).trans ?_; first | assumption | exact hset_eq)))) rfl rfl rfl (by decide) (by decide) (by exact Nat.le_of_ble_eq_true rfl) (fun _ _ z => z.elim) (fun v_1 h_1 p_1 => ?_)
  obtain ⟨rfl, rfl⟩ := p_1
  dsimp only [gk_push]
  refine gk_istore_n_1 C rfl (by decide) dX3_unitsInOpenBar_4 ?_
  refine gk_iload_n C dX3_unitsInOpenBar_5 rfl ?_
  refine gk_iconst C dX3_unitsInOpenBar_6 ?_
  refine gk_icmp_ge C (tgt := 14) (by omega) (by omega) dX3_unitsInOpenBar_7 (by decide) (fun c_7 => ?_) (fun c_7 => ?_)
  · refine gk_aload_n C dX3_unitsInOpenBar_14 rfl ?_
    refine gk_getf C f_X3_48.r dX3_unitsInOpenBar_15 (by (try simp only [hset_set]); first | assumption | exact hset_eq | (refine (hset_ne (by first | assumption | exact Ne.symm (by assumption))).trans ?_; first | assumption | exact hset_eq | (refine (hset_ne (by first | assumption | exact Ne.symm (by assumption))).trans ?_; first | assumption | exact hset_eq | (refine (hset_ne (by first | assumption | exact Ne.symm (by assumption))).trans ?_; first | assumption | exact hset_eq)))) (by rfl) ?_
    refine gk_iload_n C dX3_unitsInOpenBar_18 rfl ?_
    refine gk_irem C (by omega) (by omega) dX3_unitsInOpenBar_19 ?_
    refine (R _ _ _ _ _ (by decide) (by decide)).1 _ rfl dX3_unitsInOpenBar_20 ?_
    exact ⟨rfl, rfl⟩
  · omega

set_option maxRecDepth 100000 in
set_option maxHeartbeats 4000000 in
theorem c_X3_openBars {l : Launch} {Γ : GA} (hfl : l.stackTraces = false) {h : Hp} {a hA lA gA pA nA : Nat} {nb kd ou : Int} {wc fo pc pl : Nat} (ha : h a = some (oTu nb kd hA lA gA pA nA wc fo ou pc pl)) (hkd : 0 ≤ kd ∧ kd ≤ 3) (hou : 0 ≤ ou ∧ ou ≤ 100000) : Ct l Γ m_X3_openBars [.ref a] h (fun v h' => v = some (iv (ou / barU kd)) ∧ h' = h) (fun _ _ => False) := by
  have hbr := barU_r kd
  refine Ct.intro hfl (by decide +kernel) rfl (Nat.le_of_ble_eq_true rfl) ?_
  intro G C R T
  show G 0 [some (.ref a), none] [] h 0 0
  refine gk_aload_n C dX3_openBars_0 rfl ?_
  refine gk_callV C o_X3_barUnits k_X3_34 dX3_openBars_1 (c_X3_bar hfl ha hkd) (by (try simp only [hset_set]); first | assumption | exact hset_eq | (refine (hset_ne (by first | assumption | exact Ne.symm (by assumption))).trans ?_; first | assumption | exact hset_eq | (refine (hset_ne (by first | assumption | exact Ne.symm (by assumption))).trans ?_; first | assumption | exact hset_eq | (refine (hset_ne (by first | assumption | exact Ne.symm (by assumption))).trans ?_; first | assumption | exact hset_eq)))) rfl rfl rfl (by decide) (by decide) (by exact Nat.le_of_ble_eq_true rfl) (fun _ _ z => z.elim) (fun v_1 h_1 p_1 => ?_)
  obtain ⟨rfl, rfl⟩ := p_1
  dsimp only [gk_push]
  refine gk_istore_n_1 C rfl (by decide) dX3_openBars_4 ?_
  refine gk_iload_n C dX3_openBars_5 rfl ?_
  refine gk_iconst C dX3_openBars_6 ?_
  refine gk_icmp_ge C (tgt := 14) (by omega) (by omega) dX3_openBars_7 (by decide) (fun c_7 => ?_) (fun c_7 => ?_)
  · refine gk_aload_n C dX3_openBars_14 rfl ?_
    refine gk_getf C f_X3_48.r dX3_openBars_15 (by (try simp only [hset_set]); first | assumption | exact hset_eq | (refine (hset_ne (by first | assumption | exact Ne.symm (by assumption))).trans ?_; first | assumption | exact hset_eq | (refine (hset_ne (by first | assumption | exact Ne.symm (by assumption))).trans ?_; first | assumption | exact hset_eq | (refine (hset_ne (by first | assumption | exact Ne.symm (by assumption))).trans ?_; first | assumption | exact hset_eq)))) (by rfl) ?_
    refine gk_iload_n C dX3_openBars_18 rfl ?_
    refine gk_idiv C (by omega) (by omega) dX3_openBars_19 ?_
    refine (R _ _ _ _ _ (by decide) (by decide)).1 _ rfl dX3_openBars_20 ?_
    exact ⟨rfl, rfl⟩
  · omega

set_option maxRecDepth 100000 in
set_option maxHeartbeats 4000000 in
theorem c_X3_canTake {l : Launch} {Γ : GA} (hfl : l.stackTraces = false) {h : Hp} {a hA lA gA pA nA : Nat} {nb kd ou : Int} {wc fo pc pl : Nat} (ha : h a = some (oTu nb kd hA lA gA pA nA wc fo ou pc pl)) {fh : Int → Int} (hH : h hA = some (aI 64 fh)) (hkd : 0 ≤ kd ∧ kd ≤ 3) (hwc : wc ≤ 64) (hl : -1 ≤ lastH fh wc ∧ lastH fh wc ≤ 8) (hou : 0 ≤ ou ∧ ou ≤ 100000) {ht len g : Int} (hht : 0 ≤ ht ∧ ht ≤ 8) (hlen : 1 ≤ len ∧ len ≤ 16) (hg : 0 ≤ g ∧ g ≤ 8) : Ct l Γ m_X3_canTake [.ref a, iv ht, iv len, iv g] h (fun v h' => ∃ r : Int, v = some (iv r) ∧ (r = 0 ∨ r = 1) ∧ (r = 1 ↔ wc < 64 ∧ ou % barU kd + len ≤ barU kd ∧ lawf (lastH fh wc) ht g) ∧ h' = h) (fun _ _ => False) := by
  have hbr := barU_r kd
  have hmd := Int.emod_nonneg ou (show barU kd ≠ 0 by omega)
  have hmd2 := Int.emod_lt_of_pos ou (show 0 < barU kd by omega)
  refine Ct.intro hfl (by decide +kernel) rfl (Nat.le_of_ble_eq_true rfl) ?_
  intro G C R T
  show G 0 [some (.ref a), some (iv ht), some (iv len), some (iv g), none] [] h 0 0
  refine gk_aload_n C dX3_canTake_0 rfl ?_
  refine gk_callV C o_X3_barUnits k_X3_34 dX3_canTake_1 (c_X3_bar hfl ha hkd) (by (try simp only [hset_set]); first | assumption | exact hset_eq | (refine (hset_ne (by first | assumption | exact Ne.symm (by assumption))).trans ?_; first | assumption | exact hset_eq | (refine (hset_ne (by first | assumption | exact Ne.symm (by assumption))).trans ?_; first | assumption | exact hset_eq | (refine (hset_ne (by first | assumption | exact Ne.symm (by assumption))).trans ?_; first | assumption | exact hset_eq)))) rfl rfl rfl (by decide) (by decide) (by exact Nat.le_of_ble_eq_true rfl) (fun _ _ z => z.elim) (fun v_1 h_1 p_1 => ?_)
  obtain ⟨rfl, rfl⟩ := p_1
  dsimp only [gk_push]
  refine gk_aload_n C dX3_canTake_4 rfl ?_
  refine gk_callV C o_X3_unitsInOpenBar k_X3_38 dX3_canTake_5 (c_X3_unitsOpen hfl ha hkd hou) (by (try simp only [hset_set]); first | assumption | exact hset_eq | (refine (hset_ne (by first | assumption | exact Ne.symm (by assumption))).trans ?_; first | assumption | exact hset_eq | (refine (hset_ne (by first | assumption | exact Ne.symm (by assumption))).trans ?_; first | assumption | exact hset_eq | (refine (hset_ne (by first | assumption | exact Ne.symm (by assumption))).trans ?_; first | assumption | exact hset_eq)))) rfl rfl rfl (by decide) (by decide) (by exact Nat.le_of_ble_eq_true rfl) (fun _ _ z => z.elim) (fun v_5 h_5 p_5 => ?_)
  obtain ⟨rfl, rfl⟩ := p_5
  dsimp only [gk_push]
  refine gk_isub C dX3_canTake_8 ?_
  refine gk_istore_4 C rfl (by decide) dX3_canTake_9 ?_
  refine gk_aload_n C dX3_canTake_11 rfl ?_
  refine gk_getf C f_X3_41.r dX3_canTake_12 (by (try simp only [hset_set]); first | assumption | exact hset_eq | (refine (hset_ne (by first | assumption | exact Ne.symm (by assumption))).trans ?_; first | assumption | exact hset_eq | (refine (hset_ne (by first | assumption | exact Ne.symm (by assumption))).trans ?_; first | assumption | exact hset_eq | (refine (hset_ne (by first | assumption | exact Ne.symm (by assumption))).trans ?_; first | assumption | exact hset_eq)))) (by rfl) ?_
  refine gk_bipush C dX3_canTake_15 (by decide) ?_
  refine gk_icmp_ge C (tgt := 39) (by omega) (by omega) dX3_canTake_17 (by decide) (fun c_17 => ?_) (fun c_17 => ?_)
  · refine gk_iconst C dX3_canTake_39 ?_
    refine (R _ _ _ _ _ (by decide) (by decide)).2.1 _ rfl (by omega) dX3_canTake_40 ?_
    refine ⟨_, rfl, by omega, ?_, rfl⟩
    first
      | (have q : lawf (lastH fh wc) ht g := hr2.mp (by omega)
         exact ⟨fun _ => ⟨by omega, by omega, q⟩, fun _ => rfl⟩)
      | exact ⟨fun z => absurd z (by omega), fun z => absurd (hr2.mpr z.2.2) (by omega)⟩
      | exact ⟨fun z => absurd z (by omega), fun z => absurd z.1 (by omega)⟩
      | exact ⟨fun z => absurd z (by omega), fun z => absurd z.2.1 (by omega)⟩
  · refine gk_iload_n C dX3_canTake_20 rfl ?_
    refine gk_iload C dX3_canTake_21 rfl ?_
    refine gk_icmp_gt C (tgt := 39) (by omega) (by omega) dX3_canTake_23 (by decide) (fun c_23 => ?_) (fun c_23 => ?_)
    · refine gk_iconst C dX3_canTake_39 ?_
      refine (R _ _ _ _ _ (by decide) (by decide)).2.1 _ rfl (by omega) dX3_canTake_40 ?_
      refine ⟨_, rfl, by omega, ?_, rfl⟩
      first
        | (have q : lawf (lastH fh wc) ht g := hr2.mp (by omega)
           exact ⟨fun _ => ⟨by omega, by omega, q⟩, fun _ => rfl⟩)
        | exact ⟨fun z => absurd z (by omega), fun z => absurd (hr2.mpr z.2.2) (by omega)⟩
        | exact ⟨fun z => absurd z (by omega), fun z => absurd z.1 (by omega)⟩
        | exact ⟨fun z => absurd z (by omega), fun z => absurd z.2.1 (by omega)⟩
    · refine gk_aload_n C dX3_canTake_26 rfl ?_
      refine gk_iload_n C dX3_canTake_27 rfl ?_
      refine gk_iload_n C dX3_canTake_28 rfl ?_
      refine gk_callV C o_X3_isLawful k_X3_44 dX3_canTake_29 (c_X3_lawful hfl ha hH hwc hl hht hg) (by (try simp only [hset_set]); first | assumption | exact hset_eq | (refine (hset_ne (by first | assumption | exact Ne.symm (by assumption))).trans ?_; first | assumption | exact hset_eq | (refine (hset_ne (by first | assumption | exact Ne.symm (by assumption))).trans ?_; first | assumption | exact hset_eq | (refine (hset_ne (by first | assumption | exact Ne.symm (by assumption))).trans ?_; first | assumption | exact hset_eq)))) rfl rfl rfl (by decide) (by decide) (by exact Nat.le_of_ble_eq_true rfl) (fun _ _ z => z.elim) (fun v_29 h_29 p_29 => ?_)
      obtain ⟨r1, rfl, hr1, hr2, rfl⟩ := p_29
      dsimp only [gk_push]
      refine gk_if_eq C (tgt := 39) (by omega) dX3_canTake_32 (by decide) (fun c_32 => ?_) (fun c_32 => ?_)
      · refine gk_iconst C dX3_canTake_39 ?_
        refine (R _ _ _ _ _ (by decide) (by decide)).2.1 _ rfl (by omega) dX3_canTake_40 ?_
        refine ⟨_, rfl, by omega, ?_, rfl⟩
        first
          | (have q : lawf (lastH fh wc) ht g := hr2.mp (by omega)
             exact ⟨fun _ => ⟨by omega, by omega, q⟩, fun _ => rfl⟩)
          | exact ⟨fun z => absurd z (by omega), fun z => absurd (hr2.mpr z.2.2) (by omega)⟩
          | exact ⟨fun z => absurd z (by omega), fun z => absurd z.1 (by omega)⟩
          | exact ⟨fun z => absurd z (by omega), fun z => absurd z.2.1 (by omega)⟩
      · refine gk_iconst C dX3_canTake_35 ?_
        refine gk_goto C (tgt := 40) dX3_canTake_36 (by decide) ?_
        refine (R _ _ _ _ _ (by decide) (by decide)).2.1 _ rfl (by omega) dX3_canTake_40 ?_
        refine ⟨_, rfl, by omega, ?_, rfl⟩
        first
          | (have q : lawf (lastH fh wc) ht g := hr2.mp (by omega)
             exact ⟨fun _ => ⟨by omega, by omega, q⟩, fun _ => rfl⟩)
          | exact ⟨fun z => absurd z (by omega), fun z => absurd (hr2.mpr z.2.2) (by omega)⟩
          | exact ⟨fun z => absurd z (by omega), fun z => absurd z.1 (by omega)⟩
          | exact ⟨fun z => absurd z (by omega), fun z => absurd z.2.1 (by omega)⟩

set_option maxRecDepth 100000 in
set_option maxHeartbeats 4000000 in
theorem c_X3_write {l : Launch} {Γ : GA} (hfl : l.stackTraces = false) {h : Hp} {a hA lA gA pA nA : Nat} {nb kd ou : Int} {wc fo pc pl : Nat} (ha : h a = some (oTu nb kd hA lA gA pA nA wc fo ou pc pl)) {fh : Int → Int} (hH : h hA = some (aI 64 fh)) {fl : Int → Int} (hL : h lA = some (aI 64 fl)) {fg : Int → Int} (hG : h gA = some (aI 64 fg)) (d1 : hA ≠ lA) (d2 : hA ≠ gA) (d3 : lA ≠ gA) (hwc : wc < 64) {ht len g : Int} : Ct l Γ m_X3_write [.ref a, iv ht, iv len, iv g] h (fun v h' => v = some (iv ((wc : Int) + 1)) ∧ h' = hset (hset (hset (hset h hA (aI 64 (gupd fh wc ht))) lA (aI 64 (gupd fl wc len))) gA (aI 64 (gupd fg wc g))) a (oTu nb kd hA lA gA pA nA (wc + 1) fo (ou + len) pc pl)) (fun _ _ => False) := by
  have e1 : a ≠ hA := fun z => by rw [z, hH] at ha; cases ha
  have e2 : a ≠ lA := fun z => by rw [z, hL] at ha; cases ha
  have e3 : a ≠ gA := fun z => by rw [z, hG] at ha; cases ha
  refine Ct.intro hfl (by decide +kernel) rfl (Nat.le_of_ble_eq_true rfl) ?_
  intro G C R T
  show G 0 [some (.ref a), some (iv ht), some (iv len), some (iv g), none] [] h 0 0
  refine gk_aload_n C dX3_write_0 rfl ?_
  refine gk_getf C f_X3_41.r dX3_write_1 (by (try simp only [hset_set]); first | assumption | exact hset_eq | (refine (hset_ne (by first | assumption | exact Ne.symm (by assumption))).trans ?_; first | assumption | exact hset_eq | (refine (hset_ne (by first | assumption | exact Ne.symm (by assumption))).trans ?_; first | assumption | exact hset_eq | (refine (hset_ne (by first | assumption | exact Ne.symm (by assumption))).trans ?_; first | assumption | exact hset_eq)))) (by rfl) ?_
  refine gk_istore_4 C rfl (by decide) dX3_write_4 ?_
  refine gk_iload C dX3_write_6 rfl ?_
  refine gk_if_lt C (tgt := 62) (by omega) dX3_write_8 (by decide) (fun c_8 => ?_) (fun c_8 => ?_)
  · omega
  · refine gk_iload C dX3_write_11 rfl ?_
    refine gk_bipush C dX3_write_13 (by decide) ?_
    refine gk_icmp_ge C (tgt := 62) (by omega) (by omega) dX3_write_15 (by decide) (fun c_15 => ?_) (fun c_15 => ?_)
    · omega
    · refine gk_aload_n C dX3_write_18 rfl ?_
      refine gk_getf C f_X3_18.r dX3_write_19 (by (try simp only [hset_set]); first | assumption | exact hset_eq | (refine (hset_ne (by first | assumption | exact Ne.symm (by assumption))).trans ?_; first | assumption | exact hset_eq | (refine (hset_ne (by first | assumption | exact Ne.symm (by assumption))).trans ?_; first | assumption | exact hset_eq | (refine (hset_ne (by first | assumption | exact Ne.symm (by assumption))).trans ?_; first | assumption | exact hset_eq)))) (by rfl) ?_
      refine gk_iload C dX3_write_22 rfl ?_
      refine gk_iload_n C dX3_write_24 rfl ?_
      refine gk_iast C dX3_write_25 (by (try simp only [hset_set]); first | assumption | exact hset_eq | (refine (hset_ne (by first | assumption | exact Ne.symm (by assumption))).trans ?_; first | assumption | exact hset_eq | (refine (hset_ne (by first | assumption | exact Ne.symm (by assumption))).trans ?_; first | assumption | exact hset_eq | (refine (hset_ne (by first | assumption | exact Ne.symm (by assumption))).trans ?_; first | assumption | exact hset_eq)))) (by omega) (by omega) ?_
      refine gk_aload_n C dX3_write_26 rfl ?_
      refine gk_getf C f_X3_22.r dX3_write_27 (by (try simp only [hset_set]); first | assumption | exact hset_eq | (refine (hset_ne (by first | assumption | exact Ne.symm (by assumption))).trans ?_; first | assumption | exact hset_eq | (refine (hset_ne (by first | assumption | exact Ne.symm (by assumption))).trans ?_; first | assumption | exact hset_eq | (refine (hset_ne (by first | assumption | exact Ne.symm (by assumption))).trans ?_; first | assumption | exact hset_eq)))) (by rfl) ?_
      refine gk_iload C dX3_write_30 rfl ?_
      refine gk_iload_n C dX3_write_32 rfl ?_
      refine gk_iast C dX3_write_33 (by (try simp only [hset_set]); first | assumption | exact hset_eq | (refine (hset_ne (by first | assumption | exact Ne.symm (by assumption))).trans ?_; first | assumption | exact hset_eq | (refine (hset_ne (by first | assumption | exact Ne.symm (by assumption))).trans ?_; first | assumption | exact hset_eq | (refine (hset_ne (by first | assumption | exact Ne.symm (by assumption))).trans ?_; first | assumption | exact hset_eq)))) (by omega) (by omega) ?_
      refine gk_aload_n C dX3_write_34 rfl ?_
      refine gk_getf C f_X3_25.r dX3_write_35 (by (try simp only [hset_set]); first | assumption | exact hset_eq | (refine (hset_ne (by first | assumption | exact Ne.symm (by assumption))).trans ?_; first | assumption | exact hset_eq | (refine (hset_ne (by first | assumption | exact Ne.symm (by assumption))).trans ?_; first | assumption | exact hset_eq | (refine (hset_ne (by first | assumption | exact Ne.symm (by assumption))).trans ?_; first | assumption | exact hset_eq)))) (by rfl) ?_
      refine gk_iload C dX3_write_38 rfl ?_
      refine gk_iload_n C dX3_write_40 rfl ?_
      refine gk_iast C dX3_write_41 (by (try simp only [hset_set]); first | assumption | exact hset_eq | (refine (hset_ne (by first | assumption | exact Ne.symm (by assumption))).trans ?_; first | assumption | exact hset_eq | (refine (hset_ne (by first | assumption | exact Ne.symm (by assumption))).trans ?_; first | assumption | exact hset_eq | (refine (hset_ne (by first | assumption | exact Ne.symm (by assumption))).trans ?_; first | assumption | exact hset_eq)))) (by omega) (by omega) ?_
      refine gk_aload_n C dX3_write_42 rfl ?_
      refine gk_dup C rfl dX3_write_43 ?_
      refine gk_getf C f_X3_48.r dX3_write_44 (by (try simp only [hset_set]); first | assumption | exact hset_eq | (refine (hset_ne (by first | assumption | exact Ne.symm (by assumption))).trans ?_; first | assumption | exact hset_eq | (refine (hset_ne (by first | assumption | exact Ne.symm (by assumption))).trans ?_; first | assumption | exact hset_eq | (refine (hset_ne (by first | assumption | exact Ne.symm (by assumption))).trans ?_; first | assumption | exact hset_eq)))) (by rfl) ?_
      refine gk_iload_n C dX3_write_47 rfl ?_
      refine gk_iadd C dX3_write_48 ?_
      refine gk_putf C f_X3_48 dX3_write_49 (by (try simp only [hset_set]); first | assumption | exact hset_eq | (refine (hset_ne (by first | assumption | exact Ne.symm (by assumption))).trans ?_; first | assumption | exact hset_eq | (refine (hset_ne (by first | assumption | exact Ne.symm (by assumption))).trans ?_; first | assumption | exact hset_eq | (refine (hset_ne (by first | assumption | exact Ne.symm (by assumption))).trans ?_; first | assumption | exact hset_eq)))) rfl rfl (by exact Nat.le_of_ble_eq_true rfl) ?_
      refine gk_aload_n C dX3_write_52 rfl ?_
      refine gk_dup C rfl dX3_write_53 ?_
      refine gk_getf C f_X3_41.r dX3_write_54 (by (try simp only [hset_set]); first | assumption | exact hset_eq | (refine (hset_ne (by first | assumption | exact Ne.symm (by assumption))).trans ?_; first | assumption | exact hset_eq | (refine (hset_ne (by first | assumption | exact Ne.symm (by assumption))).trans ?_; first | assumption | exact hset_eq | (refine (hset_ne (by first | assumption | exact Ne.symm (by assumption))).trans ?_; first | assumption | exact hset_eq)))) (by rfl) ?_
      refine gk_iconst C dX3_write_57 ?_
      refine gk_iadd C dX3_write_58 ?_
      refine gk_putf C f_X3_41 dX3_write_59 (by (try simp only [hset_set]); first | assumption | exact hset_eq | (refine (hset_ne (by first | assumption | exact Ne.symm (by assumption))).trans ?_; first | assumption | exact hset_eq | (refine (hset_ne (by first | assumption | exact Ne.symm (by assumption))).trans ?_; first | assumption | exact hset_eq | (refine (hset_ne (by first | assumption | exact Ne.symm (by assumption))).trans ?_; first | assumption | exact hset_eq)))) rfl rfl (by exact Nat.le_of_ble_eq_true rfl) ?_
      refine gk_aload_n C dX3_write_62 rfl ?_
      refine gk_getf C f_X3_41.r dX3_write_63 (by (try simp only [hset_set]); first | assumption | exact hset_eq | (refine (hset_ne (by first | assumption | exact Ne.symm (by assumption))).trans ?_; first | assumption | exact hset_eq | (refine (hset_ne (by first | assumption | exact Ne.symm (by assumption))).trans ?_; first | assumption | exact hset_eq | (refine (hset_ne (by first | assumption | exact Ne.symm (by assumption))).trans ?_; first | assumption | exact hset_eq)))) (by rfl) ?_
      refine (R _ _ _ _ _ (by decide) (by decide)).1 _ rfl dX3_write_66 ?_
      refine ⟨rfl, ?_⟩
      try simp only [hset_set]
      rfl

set_option maxRecDepth 100000 in
set_option maxHeartbeats 4000000 in
theorem c_X3_canEnd {l : Launch} {Γ : GA} (hfl : l.stackTraces = false) {h : Hp} {a hA lA gA pA nA : Nat} {nb kd ou : Int} {wc fo pc pl : Nat} (ha : h a = some (oTu nb kd hA lA gA pA nA wc fo ou pc pl)) (hkd : 0 ≤ kd ∧ kd ≤ 3) (hwc : wc ≤ 64) (hfo : fo ≤ wc) (hpc : pc ≤ 8) (hou : 0 ≤ ou ∧ ou ≤ 100000) : Ct l Γ m_X3_canEndPart [.ref a] h (fun v h' => ∃ r : Int, v = some (iv r) ∧ (r = 0 ∨ r = 1) ∧ (r = 1 ↔ pc < 8 ∧ fo < wc ∧ ou % barU kd = 0) ∧ h' = h) (fun _ _ => False) := by
  have hbr := barU_r kd
  have hmd := Int.emod_nonneg ou (show barU kd ≠ 0 by omega)
  have hmd2 := Int.emod_lt_of_pos ou (show 0 < barU kd by omega)
  refine Ct.intro hfl (by decide +kernel) rfl (Nat.le_of_ble_eq_true rfl) ?_
  intro G C R T
  show G 0 [some (.ref a)] [] h 0 0
  refine gk_aload_n C dX3_canEndPart_0 rfl ?_
  refine gk_getf C f_X3_54.r dX3_canEndPart_1 (by (try simp only [hset_set]); first | assumption | exact hset_eq | (refine (hset_ne (by first | assumption | exact Ne.symm (by assumption))).trans ?_; first | assumption | exact hset_eq | (refine (hset_ne (by first | assumption | exact Ne.symm (by assumption))).trans ?_; first | assumption | exact hset_eq | (refine (hset_ne (by first | assumption | exact Ne.symm (by assumption))).trans ?_; first | assumption | exact hset_eq)))) (by rfl) ?_
  refine gk_bipush C dX3_canEndPart_4 (by decide) ?_
  refine gk_icmp_ge C (tgt := 31) (by omega) (by omega) dX3_canEndPart_6 (by decide) (fun c_6 => ?_) (fun c_6 => ?_)
  · refine gk_iconst C dX3_canEndPart_31 ?_
    refine (R _ _ _ _ _ (by decide) (by decide)).2.1 _ rfl (by omega) dX3_canEndPart_32 ?_
    refine ⟨_, rfl, by omega, by omega, rfl⟩
  · refine gk_aload_n C dX3_canEndPart_9 rfl ?_
    refine gk_getf C f_X3_57.r dX3_canEndPart_10 (by (try simp only [hset_set]); first | assumption | exact hset_eq | (refine (hset_ne (by first | assumption | exact Ne.symm (by assumption))).trans ?_; first | assumption | exact hset_eq | (refine (hset_ne (by first | assumption | exact Ne.symm (by assumption))).trans ?_; first | assumption | exact hset_eq | (refine (hset_ne (by first | assumption | exact Ne.symm (by assumption))).trans ?_; first | assumption | exact hset_eq)))) (by rfl) ?_
    refine gk_aload_n C dX3_canEndPart_13 rfl ?_
    refine gk_getf C f_X3_41.r dX3_canEndPart_14 (by (try simp only [hset_set]); first | assumption | exact hset_eq | (refine (hset_ne (by first | assumption | exact Ne.symm (by assumption))).trans ?_; first | assumption | exact hset_eq | (refine (hset_ne (by first | assumption | exact Ne.symm (by assumption))).trans ?_; first | assumption | exact hset_eq | (refine (hset_ne (by first | assumption | exact Ne.symm (by assumption))).trans ?_; first | assumption | exact hset_eq)))) (by rfl) ?_
    refine gk_icmp_ge C (tgt := 31) (by omega) (by omega) dX3_canEndPart_17 (by decide) (fun c_17 => ?_) (fun c_17 => ?_)
    · refine gk_iconst C dX3_canEndPart_31 ?_
      refine (R _ _ _ _ _ (by decide) (by decide)).2.1 _ rfl (by omega) dX3_canEndPart_32 ?_
      refine ⟨_, rfl, by omega, by omega, rfl⟩
    · refine gk_aload_n C dX3_canEndPart_20 rfl ?_
      refine gk_callV C o_X3_unitsInOpenBar k_X3_38 dX3_canEndPart_21 (c_X3_unitsOpen hfl ha hkd hou) (by (try simp only [hset_set]); first | assumption | exact hset_eq | (refine (hset_ne (by first | assumption | exact Ne.symm (by assumption))).trans ?_; first | assumption | exact hset_eq | (refine (hset_ne (by first | assumption | exact Ne.symm (by assumption))).trans ?_; first | assumption | exact hset_eq | (refine (hset_ne (by first | assumption | exact Ne.symm (by assumption))).trans ?_; first | assumption | exact hset_eq)))) rfl rfl rfl (by decide) (by decide) (by exact Nat.le_of_ble_eq_true rfl) (fun _ _ z => z.elim) (fun v_21 h_21 p_21 => ?_)
      obtain ⟨rfl, rfl⟩ := p_21
      dsimp only [gk_push]
      refine gk_if_ne C (tgt := 31) (by omega) dX3_canEndPart_24 (by decide) (fun c_24 => ?_) (fun c_24 => ?_)
      · refine gk_iconst C dX3_canEndPart_31 ?_
        refine (R _ _ _ _ _ (by decide) (by decide)).2.1 _ rfl (by omega) dX3_canEndPart_32 ?_
        refine ⟨_, rfl, by omega, by omega, rfl⟩
      · refine gk_iconst C dX3_canEndPart_27 ?_
        refine gk_goto C (tgt := 32) dX3_canEndPart_28 (by decide) ?_
        refine (R _ _ _ _ _ (by decide) (by decide)).2.1 _ rfl (by omega) dX3_canEndPart_32 ?_
        refine ⟨_, rfl, by omega, by omega, rfl⟩

set_option maxRecDepth 100000 in
set_option maxHeartbeats 4000000 in
theorem c_X3_playOpen {l : Launch} {Γ : GA} (hfl : l.stackTraces = false) {h : Hp} {a hA lA gA pA nA : Nat} {nb kd ou : Int} {wc fo pc pl : Nat} (ha : h a = some (oTu nb kd hA lA gA pA nA wc fo ou pc pl)) {fn : Int → Int} (hN : h nA = some (aI 128 fn)) (hfo : fo ≤ wc) (hwc : wc ≤ 64) (hpl : pl + (wc - fo) ≤ 128) : Ct l Γ m_X3_playOpenNotes [.ref a] h (fun v h' => v = none ∧ h' = hset (hset h nA (aI 128 (napp fn pl fo (wc - fo)))) a (oTu nb kd hA lA gA pA nA wc fo ou pc (pl + (wc - fo)))) (fun _ _ => False) := by
  have e1 : a ≠ nA := fun z => by rw [z, hN] at ha; cases ha
  refine Ct.intro hfl (by decide +kernel) rfl (Nat.le_of_ble_eq_true rfl) ?_
  intro G C R T
  show G 0 [some (.ref a), none] [] h 0 0
  refine gk_aload_n C dX3_playOpenNotes_0 rfl ?_
  refine gk_getf C f_X3_57.r dX3_playOpenNotes_1 (by (try simp only [hset_set]); first | assumption | exact hset_eq | (refine (hset_ne (by first | assumption | exact Ne.symm (by assumption))).trans ?_; first | assumption | exact hset_eq | (refine (hset_ne (by first | assumption | exact Ne.symm (by assumption))).trans ?_; first | assumption | exact hset_eq | (refine (hset_ne (by first | assumption | exact Ne.symm (by assumption))).trans ?_; first | assumption | exact hset_eq)))) (by rfl) ?_
  refine gk_istore_n_1 C rfl (by decide) dX3_playOpenNotes_4 ?_
  have key : ∀ (n t : Nat), (wc - fo) - t < n → fo + t ≤ wc → G 5 [some (.ref a), some (iv ((fo : Int) + t))] [] (hset (hset h nA (aI 128 (napp fn pl fo t))) a (oTu nb kd hA lA gA pA nA wc fo ou pc (pl + t))) 0 0 := by
    intro n
    induction n with
    | zero => intro t h1; omega
    | succ n ih =>
      intro t hn ht
      have hN2 : hset (hset h nA (aI 128 (napp fn pl fo t))) a (oTu nb kd hA lA gA pA nA wc fo ou pc (pl + t)) nA = some (aI 128 (napp fn pl fo t)) := (hset_ne (Ne.symm e1)).trans hset_eq
      refine gk_iload_n C dX3_playOpenNotes_5 rfl ?_
      refine gk_aload_n C dX3_playOpenNotes_6 rfl ?_
      refine gk_getf C f_X3_41.r dX3_playOpenNotes_7 (by (try simp only [hset_set]); first | assumption | exact hset_eq | (refine (hset_ne (by first | assumption | exact Ne.symm (by assumption))).trans ?_; first | assumption | exact hset_eq | (refine (hset_ne (by first | assumption | exact Ne.symm (by assumption))).trans ?_; first | assumption | exact hset_eq | (refine (hset_ne (by first | assumption | exact Ne.symm (by assumption))).trans ?_; first | assumption | exact hset_eq)))) (by rfl) ?_
      refine gk_icmp_ge C (tgt := 51) (by omega) (by omega) dX3_playOpenNotes_10 (by decide) (fun c_10 => ?_) (fun c_10 => ?_)
      · refine (R _ _ _ _ _ (by decide) (by decide)).2.2.1 rfl dX3_playOpenNotes_51 ?_
        have et : t = wc - fo := by omega
        rw [et]
        exact ⟨rfl, rfl⟩
      · refine gk_aload_n C dX3_playOpenNotes_13 rfl ?_
        refine gk_getf C f_X3_66.r dX3_playOpenNotes_14 (by (try simp only [hset_set]); first | assumption | exact hset_eq | (refine (hset_ne (by first | assumption | exact Ne.symm (by assumption))).trans ?_; first | assumption | exact hset_eq | (refine (hset_ne (by first | assumption | exact Ne.symm (by assumption))).trans ?_; first | assumption | exact hset_eq | (refine (hset_ne (by first | assumption | exact Ne.symm (by assumption))).trans ?_; first | assumption | exact hset_eq)))) (by rfl) ?_
        refine gk_aload_n C dX3_playOpenNotes_17 rfl ?_
        refine gk_getf C f_X3_31.r dX3_playOpenNotes_18 (by (try simp only [hset_set]); first | assumption | exact hset_eq | (refine (hset_ne (by first | assumption | exact Ne.symm (by assumption))).trans ?_; first | assumption | exact hset_eq | (refine (hset_ne (by first | assumption | exact Ne.symm (by assumption))).trans ?_; first | assumption | exact hset_eq | (refine (hset_ne (by first | assumption | exact Ne.symm (by assumption))).trans ?_; first | assumption | exact hset_eq)))) (by rfl) ?_
        refine gk_alenI C dX3_playOpenNotes_21 (by (try simp only [hset_set]); first | assumption | exact hset_eq | (refine (hset_ne (by first | assumption | exact Ne.symm (by assumption))).trans ?_; first | assumption | exact hset_eq | (refine (hset_ne (by first | assumption | exact Ne.symm (by assumption))).trans ?_; first | assumption | exact hset_eq | (refine (hset_ne (by first | assumption | exact Ne.symm (by assumption))).trans ?_; first | assumption | exact hset_eq)))) (by omega) ?_
        refine gk_icmp_ge C (tgt := 51) (by omega) (by omega) dX3_playOpenNotes_22 (by decide) (fun c_22 => ?_) (fun c_22 => ?_)
        · omega
        · refine gk_aload_n C dX3_playOpenNotes_25 rfl ?_
          refine gk_getf C f_X3_31.r dX3_playOpenNotes_26 (by (try simp only [hset_set]); first | assumption | exact hset_eq | (refine (hset_ne (by first | assumption | exact Ne.symm (by assumption))).trans ?_; first | assumption | exact hset_eq | (refine (hset_ne (by first | assumption | exact Ne.symm (by assumption))).trans ?_; first | assumption | exact hset_eq | (refine (hset_ne (by first | assumption | exact Ne.symm (by assumption))).trans ?_; first | assumption | exact hset_eq)))) (by rfl) ?_
          refine gk_aload_n C dX3_playOpenNotes_29 rfl ?_
          refine gk_getf C f_X3_66.r dX3_playOpenNotes_30 (by (try simp only [hset_set]); first | assumption | exact hset_eq | (refine (hset_ne (by first | assumption | exact Ne.symm (by assumption))).trans ?_; first | assumption | exact hset_eq | (refine (hset_ne (by first | assumption | exact Ne.symm (by assumption))).trans ?_; first | assumption | exact hset_eq | (refine (hset_ne (by first | assumption | exact Ne.symm (by assumption))).trans ?_; first | assumption | exact hset_eq)))) (by rfl) ?_
          refine gk_iload_n C dX3_playOpenNotes_33 rfl ?_
          refine gk_iast C dX3_playOpenNotes_34 (by (try simp only [hset_set]); first | assumption | exact hset_eq | (refine (hset_ne (by first | assumption | exact Ne.symm (by assumption))).trans ?_; first | assumption | exact hset_eq | (refine (hset_ne (by first | assumption | exact Ne.symm (by assumption))).trans ?_; first | assumption | exact hset_eq | (refine (hset_ne (by first | assumption | exact Ne.symm (by assumption))).trans ?_; first | assumption | exact hset_eq)))) (by omega) (by omega) ?_
          refine gk_aload_n C dX3_playOpenNotes_35 rfl ?_
          refine gk_dup C rfl dX3_playOpenNotes_36 ?_
          refine gk_getf C f_X3_66.r dX3_playOpenNotes_37 (by (try simp only [hset_set]); first | assumption | exact hset_eq | (refine (hset_ne (by first | assumption | exact Ne.symm (by assumption))).trans ?_; first | assumption | exact hset_eq | (refine (hset_ne (by first | assumption | exact Ne.symm (by assumption))).trans ?_; first | assumption | exact hset_eq | (refine (hset_ne (by first | assumption | exact Ne.symm (by assumption))).trans ?_; first | assumption | exact hset_eq)))) (by rfl) ?_
          refine gk_iconst C dX3_playOpenNotes_40 ?_
          refine gk_iadd C dX3_playOpenNotes_41 ?_
          refine gk_putf C f_X3_66 dX3_playOpenNotes_42 (by (try simp only [hset_set]); first | assumption | exact hset_eq | (refine (hset_ne (by first | assumption | exact Ne.symm (by assumption))).trans ?_; first | assumption | exact hset_eq | (refine (hset_ne (by first | assumption | exact Ne.symm (by assumption))).trans ?_; first | assumption | exact hset_eq | (refine (hset_ne (by first | assumption | exact Ne.symm (by assumption))).trans ?_; first | assumption | exact hset_eq)))) rfl rfl (by exact Nat.le_of_ble_eq_true rfl) ?_
          refine gk_iinc_1 C rfl (by decide) dX3_playOpenNotes_45 ?_
          refine gk_goto C (tgt := 5) dX3_playOpenNotes_48 (by decide) ?_
          have ih2 := ih (t + 1) (by omega) (by omega)
          rw [← napp_s] at ih2
          simp only [hset_comm e1, hset_set]
          exact ih2
  have h1 := key ((wc - fo) + 1) 0 (by omega) (by omega)
  rw [napp_0, hset_self hN] at h1
  have h2 : hset h a (oTu nb kd hA lA gA pA nA wc fo ou pc (pl + 0)) = h := hset_self ha
  rw [h2] at h1
  have e0 : ((fo : Int) + ((0 : Nat) : Int)) = fo := by omega
  rw [e0] at h1
  exact h1

set_option maxRecDepth 100000 in
set_option maxHeartbeats 4000000 in
theorem c_X3_endPart {l : Launch} {Γ : GA} (hfl : l.stackTraces = false) {h : Hp} {a hA lA gA pA nA : Nat} {nb kd ou : Int} {wc fo pc pl : Nat} (ha : h a = some (oTu nb kd hA lA gA pA nA wc fo ou pc pl)) {fp : Int → Int} (hP : h pA = some (aI 64 fp)) {fn : Int → Int} (hN : h nA = some (aI 128 fn)) (hkd : 0 ≤ kd ∧ kd ≤ 3) (dPN : pA ≠ nA) (hfo : fo < wc) (hwc : wc ≤ 64) (hpc : pc < 8) {rep : Int} (hrep : rep = 0 ∨ rep = 1) (hpl : pl + (if rep = 0 then (wc - fo) else 2 * (wc - fo)) ≤ 128) (hou : 0 ≤ ou ∧ ou ≤ 100000) : Ct l Γ m_X3_endPart [.ref a, iv rep] h (fun v h' => v = some (iv (ou / barU kd)) ∧ ∃ fn' : Int → Int, fn' = (if rep = 0 then napp fn pl fo (wc - fo) else napp (napp fn pl fo (wc - fo)) (pl + (wc - fo)) fo (wc - fo)) ∧ h' = hset (hset (hset h pA (aI 64 (pset fp fo (wc - fo) pc))) nA (aI 128 fn')) a (oTu nb kd hA lA gA pA nA wc wc 0 (pc + 1) (pl + (if rep = 0 then (wc - fo) else 2 * (wc - fo))))) (fun _ _ => False) := by
  have hbr := barU_r kd
  have e1 : a ≠ nA := fun z => by rw [z, hN] at ha; cases ha
  have e2 : a ≠ pA := fun z => by rw [z, hP] at ha; cases ha
  refine Ct.intro hfl (by decide +kernel) rfl (Nat.le_of_ble_eq_true rfl) ?_
  intro G C R T
  show G 0 [some (.ref a), some (iv rep), none] [] h 0 0
  refine gk_aload_n C dX3_endPart_0 rfl ?_
  refine gk_getf C f_X3_57.r dX3_endPart_1 (by (try simp only [hset_set]); first | assumption | exact hset_eq | (refine (hset_ne (by first | assumption | exact Ne.symm (by assumption))).trans ?_; first | assumption | exact hset_eq | (refine (hset_ne (by first | assumption | exact Ne.symm (by assumption))).trans ?_; first | assumption | exact hset_eq | (refine (hset_ne (by first | assumption | exact Ne.symm (by assumption))).trans ?_; first | assumption | exact hset_eq)))) (by rfl) ?_
  refine gk_istore_n_2 C rfl (by decide) dX3_endPart_4 ?_
  have key : ∀ (n t : Nat), (wc - fo) - t < n → fo + t ≤ wc → G 5 [some (.ref a), some (iv rep), some (iv ((fo : Int) + t))] [] (hset h pA (aI 64 (pset fp fo t pc))) 0 0 := by
    intro n
    induction n with
    | zero => intro t h1; omega
    | succ n ih =>
      intro t hn ht
      have ha2 : hset h pA (aI 64 (pset fp fo t pc)) a = some (oTu nb kd hA lA gA pA nA wc fo ou pc pl) := (hset_ne e2).trans ha
      have hP2 : hset h pA (aI 64 (pset fp fo t pc)) pA = some (aI 64 (pset fp fo t pc)) := hset_eq
      have hN2 : hset h pA (aI 64 (pset fp fo t pc)) nA = some (aI 128 fn) := (hset_ne (Ne.symm dPN)).trans hN
      refine gk_iload_n C dX3_endPart_5 rfl ?_
      refine gk_if_lt C (tgt := 42) (by omega) dX3_endPart_6 (by decide) (fun c_6 => ?_) (fun c_6 => ?_)
      · omega
      · refine gk_iload_n C dX3_endPart_9 rfl ?_
        refine gk_aload_n C dX3_endPart_10 rfl ?_
        refine gk_getf C f_X3_41.r dX3_endPart_11 (by (try simp only [hset_set]); first | assumption | exact hset_eq | (refine (hset_ne (by first | assumption | exact Ne.symm (by assumption))).trans ?_; first | assumption | exact hset_eq | (refine (hset_ne (by first | assumption | exact Ne.symm (by assumption))).trans ?_; first | assumption | exact hset_eq | (refine (hset_ne (by first | assumption | exact Ne.symm (by assumption))).trans ?_; first | assumption | exact hset_eq)))) (by rfl) ?_
        refine gk_icmp_ge C (tgt := 42) (by omega) (by omega) dX3_endPart_14 (by decide) (fun c_14 => ?_) (fun c_14 => ?_)
        · have et : t = wc - fo := by omega
          subst et
          refine gk_aload_n C dX3_endPart_42 rfl ?_
          refine gk_callV C o_X3_playOpenNotes k_X3_60 dX3_endPart_43 (c_X3_playOpen hfl ha2 hN2 (by omega) hwc (by rcases hrep with rfl | rfl <;> simp at hpl <;> omega)) (by (try simp only [hset_set]); first | assumption | exact hset_eq | (refine (hset_ne (by first | assumption | exact Ne.symm (by assumption))).trans ?_; first | assumption | exact hset_eq | (refine (hset_ne (by first | assumption | exact Ne.symm (by assumption))).trans ?_; first | assumption | exact hset_eq | (refine (hset_ne (by first | assumption | exact Ne.symm (by assumption))).trans ?_; first | assumption | exact hset_eq)))) rfl rfl rfl (by decide) (by decide) (by exact Nat.le_of_ble_eq_true rfl) (fun _ _ z => z.elim) (fun v_43 h_43 p_43 => ?_)
          obtain ⟨rfl, rfl⟩ := p_43
          dsimp only [gk_push]
          have ha3 : hset (hset (hset h pA (aI 64 (pset fp fo (wc - fo) pc))) nA (aI 128 (napp fn pl fo (wc - fo)))) a (oTu nb kd hA lA gA pA nA wc fo ou pc (pl + (wc - fo))) a = some (oTu nb kd hA lA gA pA nA wc fo ou pc (pl + (wc - fo))) := hset_eq
          have hN3 : hset (hset (hset h pA (aI 64 (pset fp fo (wc - fo) pc))) nA (aI 128 (napp fn pl fo (wc - fo)))) a (oTu nb kd hA lA gA pA nA wc fo ou pc (pl + (wc - fo))) nA = some (aI 128 (napp fn pl fo (wc - fo))) := (hset_ne (Ne.symm e1)).trans hset_eq
          refine gk_iload_n C dX3_endPart_46 rfl ?_
          refine gk_if_eq C (tgt := 54) (by omega) dX3_endPart_47 (by decide) (fun c_47 => ?_) (fun c_47 => ?_)
          · subst c_47
            refine gk_aload_n C dX3_endPart_54 rfl ?_
            refine gk_callV C o_X3_openBars k_X3_63 dX3_endPart_55 (c_X3_openBars hfl (by first | assumption | exact hset_eq) hkd hou) (by (try simp only [hset_set]); first | assumption | exact hset_eq | (refine (hset_ne (by first | assumption | exact Ne.symm (by assumption))).trans ?_; first | assumption | exact hset_eq | (refine (hset_ne (by first | assumption | exact Ne.symm (by assumption))).trans ?_; first | assumption | exact hset_eq | (refine (hset_ne (by first | assumption | exact Ne.symm (by assumption))).trans ?_; first | assumption | exact hset_eq)))) rfl rfl rfl (by decide) (by decide) (by exact Nat.le_of_ble_eq_true rfl) (fun _ _ z => z.elim) (fun v_55 h_55 p_55 => ?_)
            obtain ⟨rfl, rfl⟩ := p_55
            dsimp only [gk_push]
            refine gk_istore_n_2 C rfl (by decide) dX3_endPart_58 ?_
            refine gk_aload_n C dX3_endPart_59 rfl ?_
            refine gk_aload_n C dX3_endPart_60 rfl ?_
            refine gk_getf C f_X3_41.r dX3_endPart_61 (by (try simp only [hset_set]); first | assumption | exact hset_eq | (refine (hset_ne (by first | assumption | exact Ne.symm (by assumption))).trans ?_; first | assumption | exact hset_eq | (refine (hset_ne (by first | assumption | exact Ne.symm (by assumption))).trans ?_; first | assumption | exact hset_eq | (refine (hset_ne (by first | assumption | exact Ne.symm (by assumption))).trans ?_; first | assumption | exact hset_eq)))) (by rfl) ?_
            refine gk_putf C f_X3_57 dX3_endPart_64 (by (try simp only [hset_set]); first | assumption | exact hset_eq | (refine (hset_ne (by first | assumption | exact Ne.symm (by assumption))).trans ?_; first | assumption | exact hset_eq | (refine (hset_ne (by first | assumption | exact Ne.symm (by assumption))).trans ?_; first | assumption | exact hset_eq | (refine (hset_ne (by first | assumption | exact Ne.symm (by assumption))).trans ?_; first | assumption | exact hset_eq)))) rfl rfl (by exact Nat.le_of_ble_eq_true rfl) ?_
            refine gk_aload_n C dX3_endPart_67 rfl ?_
            refine gk_iconst C dX3_endPart_68 ?_
            refine gk_putf C f_X3_48 dX3_endPart_69 (by (try simp only [hset_set]); first | assumption | exact hset_eq | (refine (hset_ne (by first | assumption | exact Ne.symm (by assumption))).trans ?_; first | assumption | exact hset_eq | (refine (hset_ne (by first | assumption | exact Ne.symm (by assumption))).trans ?_; first | assumption | exact hset_eq | (refine (hset_ne (by first | assumption | exact Ne.symm (by assumption))).trans ?_; first | assumption | exact hset_eq)))) rfl rfl (by exact Nat.le_of_ble_eq_true rfl) ?_
            refine gk_aload_n C dX3_endPart_72 rfl ?_
            refine gk_dup C rfl dX3_endPart_73 ?_
            refine gk_getf C f_X3_54.r dX3_endPart_74 (by (try simp only [hset_set]); first | assumption | exact hset_eq | (refine (hset_ne (by first | assumption | exact Ne.symm (by assumption))).trans ?_; first | assumption | exact hset_eq | (refine (hset_ne (by first | assumption | exact Ne.symm (by assumption))).trans ?_; first | assumption | exact hset_eq | (refine (hset_ne (by first | assumption | exact Ne.symm (by assumption))).trans ?_; first | assumption | exact hset_eq)))) (by rfl) ?_
            refine gk_iconst C dX3_endPart_77 ?_
            refine gk_iadd C dX3_endPart_78 ?_
            refine gk_putf C f_X3_54 dX3_endPart_79 (by (try simp only [hset_set]); first | assumption | exact hset_eq | (refine (hset_ne (by first | assumption | exact Ne.symm (by assumption))).trans ?_; first | assumption | exact hset_eq | (refine (hset_ne (by first | assumption | exact Ne.symm (by assumption))).trans ?_; first | assumption | exact hset_eq | (refine (hset_ne (by first | assumption | exact Ne.symm (by assumption))).trans ?_; first | assumption | exact hset_eq)))) rfl rfl (by exact Nat.le_of_ble_eq_true rfl) ?_
            refine gk_iload_n C dX3_endPart_82 rfl ?_
            refine (R _ _ _ _ _ (by decide) (by decide)).1 _ rfl dX3_endPart_83 ?_
            refine ⟨rfl, _, rfl, ?_⟩
            simp only [hset_set, hset_comm e1]
            first
              | (simp only [if_true]; rfl)
              | (rw [if_neg (by decide), if_neg (by decide), show pl + 2 * (wc - fo) = pl + (wc - fo) + (wc - fo) by omega]; rfl)
          · have hr1 : rep = 1 := by omega
            subst hr1
            refine gk_aload_n C dX3_endPart_50 rfl ?_
            refine gk_callV C o_X3_playOpenNotes k_X3_60 dX3_endPart_51 (c_X3_playOpen hfl ha3 hN3 (by omega) hwc (by simp at hpl; omega)) (by (try simp only [hset_set]); first | assumption | exact hset_eq | (refine (hset_ne (by first | assumption | exact Ne.symm (by assumption))).trans ?_; first | assumption | exact hset_eq | (refine (hset_ne (by first | assumption | exact Ne.symm (by assumption))).trans ?_; first | assumption | exact hset_eq | (refine (hset_ne (by first | assumption | exact Ne.symm (by assumption))).trans ?_; first | assumption | exact hset_eq)))) rfl rfl rfl (by decide) (by decide) (by exact Nat.le_of_ble_eq_true rfl) (fun _ _ z => z.elim) (fun v_51 h_51 p_51 => ?_)
            obtain ⟨rfl, rfl⟩ := p_51
            dsimp only [gk_push]
            refine gk_aload_n C dX3_endPart_54 rfl ?_
            refine gk_callV C o_X3_openBars k_X3_63 dX3_endPart_55 (c_X3_openBars hfl (by first | assumption | exact hset_eq) hkd hou) (by (try simp only [hset_set]); first | assumption | exact hset_eq | (refine (hset_ne (by first | assumption | exact Ne.symm (by assumption))).trans ?_; first | assumption | exact hset_eq | (refine (hset_ne (by first | assumption | exact Ne.symm (by assumption))).trans ?_; first | assumption | exact hset_eq | (refine (hset_ne (by first | assumption | exact Ne.symm (by assumption))).trans ?_; first | assumption | exact hset_eq)))) rfl rfl rfl (by decide) (by decide) (by exact Nat.le_of_ble_eq_true rfl) (fun _ _ z => z.elim) (fun v_55 h_55 p_55 => ?_)
            obtain ⟨rfl, rfl⟩ := p_55
            dsimp only [gk_push]
            refine gk_istore_n_2 C rfl (by decide) dX3_endPart_58 ?_
            refine gk_aload_n C dX3_endPart_59 rfl ?_
            refine gk_aload_n C dX3_endPart_60 rfl ?_
            refine gk_getf C f_X3_41.r dX3_endPart_61 (by (try simp only [hset_set]); first | assumption | exact hset_eq | (refine (hset_ne (by first | assumption | exact Ne.symm (by assumption))).trans ?_; first | assumption | exact hset_eq | (refine (hset_ne (by first | assumption | exact Ne.symm (by assumption))).trans ?_; first | assumption | exact hset_eq | (refine (hset_ne (by first | assumption | exact Ne.symm (by assumption))).trans ?_; first | assumption | exact hset_eq)))) (by rfl) ?_
            refine gk_putf C f_X3_57 dX3_endPart_64 (by (try simp only [hset_set]); first | assumption | exact hset_eq | (refine (hset_ne (by first | assumption | exact Ne.symm (by assumption))).trans ?_; first | assumption | exact hset_eq | (refine (hset_ne (by first | assumption | exact Ne.symm (by assumption))).trans ?_; first | assumption | exact hset_eq | (refine (hset_ne (by first | assumption | exact Ne.symm (by assumption))).trans ?_; first | assumption | exact hset_eq)))) rfl rfl (by exact Nat.le_of_ble_eq_true rfl) ?_
            refine gk_aload_n C dX3_endPart_67 rfl ?_
            refine gk_iconst C dX3_endPart_68 ?_
            refine gk_putf C f_X3_48 dX3_endPart_69 (by (try simp only [hset_set]); first | assumption | exact hset_eq | (refine (hset_ne (by first | assumption | exact Ne.symm (by assumption))).trans ?_; first | assumption | exact hset_eq | (refine (hset_ne (by first | assumption | exact Ne.symm (by assumption))).trans ?_; first | assumption | exact hset_eq | (refine (hset_ne (by first | assumption | exact Ne.symm (by assumption))).trans ?_; first | assumption | exact hset_eq)))) rfl rfl (by exact Nat.le_of_ble_eq_true rfl) ?_
            refine gk_aload_n C dX3_endPart_72 rfl ?_
            refine gk_dup C rfl dX3_endPart_73 ?_
            refine gk_getf C f_X3_54.r dX3_endPart_74 (by (try simp only [hset_set]); first | assumption | exact hset_eq | (refine (hset_ne (by first | assumption | exact Ne.symm (by assumption))).trans ?_; first | assumption | exact hset_eq | (refine (hset_ne (by first | assumption | exact Ne.symm (by assumption))).trans ?_; first | assumption | exact hset_eq | (refine (hset_ne (by first | assumption | exact Ne.symm (by assumption))).trans ?_; first | assumption | exact hset_eq)))) (by rfl) ?_
            refine gk_iconst C dX3_endPart_77 ?_
            refine gk_iadd C dX3_endPart_78 ?_
            refine gk_putf C f_X3_54 dX3_endPart_79 (by (try simp only [hset_set]); first | assumption | exact hset_eq | (refine (hset_ne (by first | assumption | exact Ne.symm (by assumption))).trans ?_; first | assumption | exact hset_eq | (refine (hset_ne (by first | assumption | exact Ne.symm (by assumption))).trans ?_; first | assumption | exact hset_eq | (refine (hset_ne (by first | assumption | exact Ne.symm (by assumption))).trans ?_; first | assumption | exact hset_eq)))) rfl rfl (by exact Nat.le_of_ble_eq_true rfl) ?_
            refine gk_iload_n C dX3_endPart_82 rfl ?_
            refine (R _ _ _ _ _ (by decide) (by decide)).1 _ rfl dX3_endPart_83 ?_
            refine ⟨rfl, _, rfl, ?_⟩
            simp only [hset_set, hset_comm e1]
            first
              | (simp only [if_true]; rfl)
              | (rw [if_neg (by decide), if_neg (by decide), show pl + 2 * (wc - fo) = pl + (wc - fo) + (wc - fo) by omega]; rfl)
        · refine gk_iload_n C dX3_endPart_17 rfl ?_
          refine gk_aload_n C dX3_endPart_18 rfl ?_
          refine gk_getf C f_X3_28.r dX3_endPart_19 (by (try simp only [hset_set]); first | assumption | exact hset_eq | (refine (hset_ne (by first | assumption | exact Ne.symm (by assumption))).trans ?_; first | assumption | exact hset_eq | (refine (hset_ne (by first | assumption | exact Ne.symm (by assumption))).trans ?_; first | assumption | exact hset_eq | (refine (hset_ne (by first | assumption | exact Ne.symm (by assumption))).trans ?_; first | assumption | exact hset_eq)))) (by rfl) ?_
          refine gk_alenI C dX3_endPart_22 (by (try simp only [hset_set]); first | assumption | exact hset_eq | (refine (hset_ne (by first | assumption | exact Ne.symm (by assumption))).trans ?_; first | assumption | exact hset_eq | (refine (hset_ne (by first | assumption | exact Ne.symm (by assumption))).trans ?_; first | assumption | exact hset_eq | (refine (hset_ne (by first | assumption | exact Ne.symm (by assumption))).trans ?_; first | assumption | exact hset_eq)))) (by omega) ?_
          refine gk_icmp_ge C (tgt := 42) (by omega) (by omega) dX3_endPart_23 (by decide) (fun c_23 => ?_) (fun c_23 => ?_)
          · omega
          · refine gk_aload_n C dX3_endPart_26 rfl ?_
            refine gk_getf C f_X3_28.r dX3_endPart_27 (by (try simp only [hset_set]); first | assumption | exact hset_eq | (refine (hset_ne (by first | assumption | exact Ne.symm (by assumption))).trans ?_; first | assumption | exact hset_eq | (refine (hset_ne (by first | assumption | exact Ne.symm (by assumption))).trans ?_; first | assumption | exact hset_eq | (refine (hset_ne (by first | assumption | exact Ne.symm (by assumption))).trans ?_; first | assumption | exact hset_eq)))) (by rfl) ?_
            refine gk_iload_n C dX3_endPart_30 rfl ?_
            refine gk_aload_n C dX3_endPart_31 rfl ?_
            refine gk_getf C f_X3_54.r dX3_endPart_32 (by (try simp only [hset_set]); first | assumption | exact hset_eq | (refine (hset_ne (by first | assumption | exact Ne.symm (by assumption))).trans ?_; first | assumption | exact hset_eq | (refine (hset_ne (by first | assumption | exact Ne.symm (by assumption))).trans ?_; first | assumption | exact hset_eq | (refine (hset_ne (by first | assumption | exact Ne.symm (by assumption))).trans ?_; first | assumption | exact hset_eq)))) (by rfl) ?_
            refine gk_iast C dX3_endPart_35 (by (try simp only [hset_set]); first | assumption | exact hset_eq | (refine (hset_ne (by first | assumption | exact Ne.symm (by assumption))).trans ?_; first | assumption | exact hset_eq | (refine (hset_ne (by first | assumption | exact Ne.symm (by assumption))).trans ?_; first | assumption | exact hset_eq | (refine (hset_ne (by first | assumption | exact Ne.symm (by assumption))).trans ?_; first | assumption | exact hset_eq)))) (by omega) (by omega) ?_
            refine gk_iinc_2 C rfl (by decide) dX3_endPart_36 ?_
            refine gk_goto C (tgt := 5) dX3_endPart_39 (by decide) ?_
            have ih2 := ih (t + 1) (by omega) (by omega)
            rw [← pset_s] at ih2
            simp only [hset_set]
            exact ih2
  have h1 := key ((wc - fo) + 1) 0 (by omega) (by omega)
  rw [pset_0, hset_self hP] at h1
  have e0 : ((fo : Int) + ((0 : Nat) : Int)) = fo := by omega
  rw [e0] at h1
  exact h1
