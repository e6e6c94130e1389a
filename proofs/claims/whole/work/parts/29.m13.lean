/-! the reference: its start -/
def moPF (ad : Nat → Nat) (n : Nat) : List Value := (List.range 40).map (fun j => match moK j with | none => iv 0 | some _ => if j < n then Value.ref (ad j) else Value.null)
def moPM (ad : Nat → Nat) (n k : Nat) : Option AE := if k = 40 then some (oO 6 (moPF ad n)) else if k < n then (moK k).map (fun p => moAE p (fun _ => 0)) else none
theorem moPF_at {ad : Nat → Nat} {n i : Nat} (h : i < 40) : (moPF ad n)[i]? = some (match moK i with | none => iv 0 | some _ => if i < n then Value.ref (ad i) else Value.null) := by
  unfold moPF
  rw [List.getElem?_map, List.getElem?_range h]
  rfl
theorem moPF_len {ad : Nat → Nat} {n : Nat} : (moPF ad n).length = 40 := by
  unfold moPF
  rw [List.length_map, List.length_range]
theorem moPF_skip {ad : Nat → Nat} {n : Nat} (h : moK n = none) : moPF ad (n + 1) = moPF ad n := by
  unfold moPF
  refine List.map_congr_left (fun j hj => ?_)
  cases e : moK j with
  | none => rfl
  | some p =>
    dsimp only
    have c : j ≠ n := fun z => by rw [z, h] at e; cases e
    by_cases c2 : j < n
    · rw [if_pos c2, if_pos (by omega)]
    · rw [if_neg c2, if_neg (by omega)]
theorem moPM_skip {ad : Nat → Nat} {n : Nat} (h : moK n = none) : moPM ad (n + 1) = moPM ad n := by
  funext k
  unfold moPM
  rw [moPF_skip h]
  by_cases c : k = 40
  · rw [if_pos c, if_pos c]
  · rw [if_neg c, if_neg c]
    by_cases c2 : k < n
    · rw [if_pos c2, if_pos (by omega)]
    · rw [if_neg c2]
      by_cases c3 : k < n + 1
      · rw [if_pos c3, show k = n by omega, h]
        rfl
      · rw [if_neg c3]
theorem moPF_set {ad : Nat → Nat} {n q : Nat} {p : Bool × Int} (h : moK n = some p) (hn : n < 40) : (moPF ad n).set n (Value.ref q) = moPF (adset ad n q) (n + 1) := by
  refine List.ext_getElem? (fun i => ?_)
  by_cases c : i < 40
  · rw [moPF_at c]
    by_cases c2 : i = n
    · subst c2
      rw [List.getElem?_set_self (by rw [moPF_len]; exact hn), h]
      dsimp only
      rw [if_pos (by omega), adset_eq]
    · rw [List.getElem?_set_ne (Ne.symm c2), moPF_at c]
      cases moK i with
      | none => rfl
      | some p2 =>
        dsimp only
        by_cases c3 : i < n
        · rw [if_pos c3, if_pos (by omega), adset_ne c2]
        · rw [if_neg c3, if_neg (by omega)]
  · rw [List.getElem?_eq_none (by rw [List.length_set, moPF_len]; omega), List.getElem?_eq_none (by rw [moPF_len]; omega)]
theorem mi_step {ad : Nat → Nat} {n q : Nat} {p : Bool × Int} (I : embI ad (moPM ad n)) (h : moK n = some p) (hn : n < 40) (hq : emb ad (moPM ad n) q = none) :
    hset (hset (emb ad (moPM ad n)) q (moAE p (fun _ => 0))) (ad 40) (oO 6 ((moPF ad n).set n (Value.ref q))) = emb (adset ad n q) (moPM (adset ad n q) (n + 1)) ∧ embI (adset ad n q) (moPM (adset ad n q) (n + 1)) ∧ adset ad n q 40 = ad 40 := by
  have e40 : adset ad n q 40 = ad 40 := adset_ne (by omega)
  let m1 : Nat → Option AE := fun k => if k = n then some (moAE p (fun _ => 0)) else moPM ad n k
  have h1 := emb_new (m2 := m1) (k := n) (e := moAE p (fun _ => 0)) I (by unfold moPM; rw [if_neg (by omega), if_neg (by omega)]) hq (if_pos rfl) (fun k2 c => if_neg c)
  have h40 : m1 40 ≠ none := by
    show (if 40 = n then _ else moPM ad n 40) ≠ none
    rw [if_neg (by omega)]
    intro z
    cases z
  have hm2 : ∀ k2, k2 ≠ 40 → moPM (adset ad n q) (n + 1) k2 = m1 k2 := by
    intro k2 c
    show _ = if k2 = n then _ else moPM ad n k2
    unfold moPM
    rw [if_neg c]
    by_cases c2 : k2 = n
    · rw [if_pos c2, if_pos (by omega), c2, h]
      rfl
    · rw [if_neg c2, if_neg c]
      by_cases c3 : k2 < n
      · rw [if_pos c3, if_pos (by omega)]
      · rw [if_neg c3, if_neg (by omega)]
  have h2 := emb_set (m2 := moPM (adset ad n q) (n + 1)) (k := 40) (e := oO 6 (moPF (adset ad n q) (n + 1))) h1.2 h40 rfl hm2
  refine ⟨?_, ?_, e40⟩
  · rw [h1.1, moPF_set h hn, ← e40]
    exact h2
  · intro a b ha hb
    refine h1.2 a b ?_ ?_
    · by_cases c : a = 40
      · rw [c]; exact h40
      · rw [← hm2 a c]; exact ha
    · by_cases c : b = 40
      · rw [c]; exact h40
      · rw [← hm2 b c]; exact hb
theorem mi_end {ad : Nat → Nat} (I : embI ad (moPM ad 40)) : emb ad (moPM ad 40) = HM ad (fun _ _ => 0) ∧ IM ad := by
  have hf : moPF ad 40 = moF ad (fun _ _ => 0) := rfl
  have e : moPM ad 40 = moM ad (fun _ _ => 0) := by
    funext k
    unfold moPM moM
    rw [hf]
    by_cases c : k = 40
    · rw [if_pos c, if_pos c]
    · rw [if_neg c, if_neg c]
      by_cases c2 : k < 40
      · rw [if_pos c2]
      · rw [if_neg c2]
        have c3 : moK k = none := by
          unfold moK
          rw [List.getElem?_eq_none (by show 40 ≤ k; omega)]
          rfl
        rw [c3]
        rfl
  refine ⟨by unfold HM; rw [e], fun a b ha hb => I a b ?_ ?_⟩
  · rw [e]; exact moM_dom.mpr ha
  · rw [e]; exact moM_dom.mpr hb

theorem gi_cast {G : GP} {pc k n : Nat} {L : List (Option Value)} {st : List Value} {h h2 : Hp} (e : h = h2) (g : G pc L st h2 k n) : G pc L st h k n := by rw [e]; exact g

set_option maxRecDepth 100000 in
set_option maxHeartbeats 4000000 in
theorem m_init {l : Launch} {Γ : GA} (hfl : l.stackTraces = false) {ad : Nat → Nat} (I : embI ad (moPM ad 0)) : Ct l Γ m_X5_init [.ref (ad 40)] (emb ad (moPM ad 0)) (fun v h' => v = none ∧ ∃ ad2 : Nat → Nat, IM ad2 ∧ ad2 40 = ad 40 ∧ h' = HM ad2 (fun _ _ => 0)) (fun _ _ => False) := by
  obtain ⟨a40, ha40⟩ : ∃ x : Nat, x = ad 40 := ⟨_, rfl⟩
  refine Ct.intro hfl (by decide +kernel) rfl (Nat.le_of_ble_eq_true rfl) ?_
  intro G C R T
  show G 0 [some (.ref (ad 40))] [] (emb ad (moPM ad 0)) 0 0
  refine gk_aload_n C dX5_init_0 rfl ?_
  refine gk_objInit C oi_X5 oi_im oi_cd dX5_init_1 (by decide) (by exact Nat.le_of_ble_eq_true rfl) ?_
  rw [← moPM_skip (n := 0) rfl] at I
  rw [← moPM_skip (n := 0) rfl]
  refine gk_aload_n C dX5_init_4 rfl ?_
  refine gk_bipush C dX5_init_5 (by decide) ?_
  refine gk_newI C dX5_init_7 (by decide) (by decide) (fun q_7 e_7 => ?_)
  refine gk_putfF C f_X5_7 rfl dX5_init_9 ((hset_ne (emb_not I e_7 (k := 40) (fun z => by cases z))).trans (emb_at I (k := 40) rfl)) rfl rfl (by exact Nat.le_of_ble_eq_true rfl) ?_
  obtain ⟨x_1, I1, y_1⟩ := mi_step I (show moK 1 = some (false, 10) from rfl) (by omega) e_7
  have z_1 := x_1
  refine gi_cast z_1 ?_
  rw [← y_1]
  clear x_1 z_1
  generalize adset ad 1 q_7 = ad1 at *
  refine gk_aload_n C dX5_init_12 rfl ?_
  refine gk_bipush C dX5_init_13 (by decide) ?_
  refine gk_newI C dX5_init_15 (by decide) (by decide) (fun q_15 e_15 => ?_)
  refine gk_putfF C f_X5_13 rfl dX5_init_17 ((hset_ne (emb_not I1 e_15 (k := 40) (fun z => by cases z))).trans (emb_at I1 (k := 40) rfl)) rfl rfl (by exact Nat.le_of_ble_eq_true rfl) ?_
  obtain ⟨x_2, I2, y_2⟩ := mi_step I1 (show moK 2 = some (false, 10) from rfl) (by omega) e_15
  have z_2 := x_2
  refine gi_cast z_2 ?_
  rw [← y_2]
  clear x_2 z_2
  generalize adset ad1 2 q_15 = ad2 at *
  refine gk_aload_n C dX5_init_20 rfl ?_
  refine gk_bipush C dX5_init_21 (by decide) ?_
  refine gk_newI C dX5_init_23 (by decide) (by decide) (fun q_23 e_23 => ?_)
  refine gk_putfF C f_X5_16 rfl dX5_init_25 ((hset_ne (emb_not I2 e_23 (k := 40) (fun z => by cases z))).trans (emb_at I2 (k := 40) rfl)) rfl rfl (by exact Nat.le_of_ble_eq_true rfl) ?_
  obtain ⟨x_3, I3, y_3⟩ := mi_step I2 (show moK 3 = some (false, 10) from rfl) (by omega) e_23
  have z_3 := x_3
  refine gi_cast z_3 ?_
  rw [← y_3]
  clear x_3 z_3
  generalize adset ad2 3 q_23 = ad3 at *
  refine gk_aload_n C dX5_init_28 rfl ?_
  refine gk_sipush C dX5_init_29 (by decide) ?_
  refine gk_newI C dX5_init_32 (by decide) (by decide) (fun q_32 e_32 => ?_)
  refine gk_putfF C f_X5_19 rfl dX5_init_34 ((hset_ne (emb_not I3 e_32 (k := 40) (fun z => by cases z))).trans (emb_at I3 (k := 40) rfl)) rfl rfl (by exact Nat.le_of_ble_eq_true rfl) ?_
  obtain ⟨x_4, I4, y_4⟩ := mi_step I3 (show moK 4 = some (false, 640) from rfl) (by omega) e_32
  have z_4 := x_4
  refine gi_cast z_4 ?_
  rw [← y_4]
  clear x_4 z_4
  generalize adset ad3 4 q_32 = ad4 at *
  refine gk_aload_n C dX5_init_37 rfl ?_
  refine gk_sipush C dX5_init_38 (by decide) ?_
  refine gk_newI C dX5_init_41 (by decide) (by decide) (fun q_41 e_41 => ?_)
  refine gk_putfF C f_X5_22 rfl dX5_init_43 ((hset_ne (emb_not I4 e_41 (k := 40) (fun z => by cases z))).trans (emb_at I4 (k := 40) rfl)) rfl rfl (by exact Nat.le_of_ble_eq_true rfl) ?_
  obtain ⟨x_5, I5, y_5⟩ := mi_step I4 (show moK 5 = some (false, 640) from rfl) (by omega) e_41
  have z_5 := x_5
  refine gi_cast z_5 ?_
  rw [← y_5]
  clear x_5 z_5
  generalize adset ad4 5 q_41 = ad5 at *
  refine gk_aload_n C dX5_init_46 rfl ?_
  refine gk_sipush C dX5_init_47 (by decide) ?_
  refine gk_newI C dX5_init_50 (by decide) (by decide) (fun q_50 e_50 => ?_)
  refine gk_putfF C f_X5_25 rfl dX5_init_52 ((hset_ne (emb_not I5 e_50 (k := 40) (fun z => by cases z))).trans (emb_at I5 (k := 40) rfl)) rfl rfl (by exact Nat.le_of_ble_eq_true rfl) ?_
  obtain ⟨x_6, I6, y_6⟩ := mi_step I5 (show moK 6 = some (false, 640) from rfl) (by omega) e_50
  have z_6 := x_6
  refine gi_cast z_6 ?_
  rw [← y_6]
  clear x_6 z_6
  generalize adset ad5 6 q_50 = ad6 at *
  refine gk_aload_n C dX5_init_55 rfl ?_
  refine gk_bipush C dX5_init_56 (by decide) ?_
  refine gk_newI C dX5_init_58 (by decide) (by decide) (fun q_58 e_58 => ?_)
  refine gk_putfF C f_X5_28 rfl dX5_init_60 ((hset_ne (emb_not I6 e_58 (k := 40) (fun z => by cases z))).trans (emb_at I6 (k := 40) rfl)) rfl rfl (by exact Nat.le_of_ble_eq_true rfl) ?_
  obtain ⟨x_7, I7, y_7⟩ := mi_step I6 (show moK 7 = some (false, 80) from rfl) (by omega) e_58
  have z_7 := x_7
  refine gi_cast z_7 ?_
  rw [← y_7]
  clear x_7 z_7
  generalize adset ad6 7 q_58 = ad7 at *
  refine gk_aload_n C dX5_init_63 rfl ?_
  refine gk_bipush C dX5_init_64 (by decide) ?_
  refine gk_newZ C dX5_init_66 (by decide) (by decide) (fun q_66 e_66 => ?_)
  refine gk_putfF C f_X5_31 rfl dX5_init_68 ((hset_ne (emb_not I7 e_66 (k := 40) (fun z => by cases z))).trans (emb_at I7 (k := 40) rfl)) rfl rfl (by exact Nat.le_of_ble_eq_true rfl) ?_
  obtain ⟨x_8, I8, y_8⟩ := mi_step I7 (show moK 8 = some (true, 80) from rfl) (by omega) e_66
  have z_8 := x_8
  refine gi_cast z_8 ?_
  rw [← y_8]
  clear x_8 z_8
  generalize adset ad7 8 q_66 = ad8 at *
  rw [← moPM_skip (n := 9) rfl] at I8
  rw [← moPM_skip (n := 9) rfl]
  refine gk_aload_n C dX5_init_71 rfl ?_
  refine gk_sipush C dX5_init_72 (by decide) ?_
  refine gk_newI C dX5_init_75 (by decide) (by decide) (fun q_75 e_75 => ?_)
  refine gk_putfF C f_X5_35 rfl dX5_init_77 ((hset_ne (emb_not I8 e_75 (k := 40) (fun z => by cases z))).trans (emb_at I8 (k := 40) rfl)) rfl rfl (by exact Nat.le_of_ble_eq_true rfl) ?_
  obtain ⟨x_10, I10, y_10⟩ := mi_step I8 (show moK 10 = some (false, 128) from rfl) (by omega) e_75
  have z_10 := x_10
  refine gi_cast z_10 ?_
  rw [← y_10]
  clear x_10 z_10
  generalize adset ad8 10 q_75 = ad10 at *
  refine gk_aload_n C dX5_init_80 rfl ?_
  refine gk_sipush C dX5_init_81 (by decide) ?_
  refine gk_newI C dX5_init_84 (by decide) (by decide) (fun q_84 e_84 => ?_)
  refine gk_putfF C f_X5_38 rfl dX5_init_86 ((hset_ne (emb_not I10 e_84 (k := 40) (fun z => by cases z))).trans (emb_at I10 (k := 40) rfl)) rfl rfl (by exact Nat.le_of_ble_eq_true rfl) ?_
  obtain ⟨x_11, I11, y_11⟩ := mi_step I10 (show moK 11 = some (false, 128) from rfl) (by omega) e_84
  have z_11 := x_11
  refine gi_cast z_11 ?_
  rw [← y_11]
  clear x_11 z_11
  generalize adset ad10 11 q_84 = ad11 at *
  refine gk_aload_n C dX5_init_89 rfl ?_
  refine gk_sipush C dX5_init_90 (by decide) ?_
  refine gk_newI C dX5_init_93 (by decide) (by decide) (fun q_93 e_93 => ?_)
  refine gk_putfF C f_X5_41 rfl dX5_init_95 ((hset_ne (emb_not I11 e_93 (k := 40) (fun z => by cases z))).trans (emb_at I11 (k := 40) rfl)) rfl rfl (by exact Nat.le_of_ble_eq_true rfl) ?_
  obtain ⟨x_12, I12, y_12⟩ := mi_step I11 (show moK 12 = some (false, 128) from rfl) (by omega) e_93
  have z_12 := x_12
  refine gi_cast z_12 ?_
  rw [← y_12]
  clear x_12 z_12
  generalize adset ad11 12 q_93 = ad12 at *
  refine gk_aload_n C dX5_init_98 rfl ?_
  refine gk_sipush C dX5_init_99 (by decide) ?_
  refine gk_newI C dX5_init_102 (by decide) (by decide) (fun q_102 e_102 => ?_)
  refine gk_putfF C f_X5_44 rfl dX5_init_104 ((hset_ne (emb_not I12 e_102 (k := 40) (fun z => by cases z))).trans (emb_at I12 (k := 40) rfl)) rfl rfl (by exact Nat.le_of_ble_eq_true rfl) ?_
  obtain ⟨x_13, I13, y_13⟩ := mi_step I12 (show moK 13 = some (false, 129) from rfl) (by omega) e_102
  have z_13 := x_13
  refine gi_cast z_13 ?_
  rw [← y_13]
  clear x_13 z_13
  generalize adset ad12 13 q_102 = ad13 at *
  rw [← moPM_skip (n := 14) rfl] at I13
  rw [← moPM_skip (n := 14) rfl]
  refine gk_aload_n C dX5_init_107 rfl ?_
  refine gk_bipush C dX5_init_108 (by decide) ?_
  refine gk_newI C dX5_init_110 (by decide) (by decide) (fun q_110 e_110 => ?_)
  refine gk_putfF C f_X5_47 rfl dX5_init_112 ((hset_ne (emb_not I13 e_110 (k := 40) (fun z => by cases z))).trans (emb_at I13 (k := 40) rfl)) rfl rfl (by exact Nat.le_of_ble_eq_true rfl) ?_
  obtain ⟨x_15, I15, y_15⟩ := mi_step I13 (show moK 15 = some (false, 8) from rfl) (by omega) e_110
  have z_15 := x_15
  refine gi_cast z_15 ?_
  rw [← y_15]
  clear x_15 z_15
  generalize adset ad13 15 q_110 = ad15 at *
  refine gk_aload_n C dX5_init_115 rfl ?_
  refine gk_bipush C dX5_init_116 (by decide) ?_
  refine gk_newI C dX5_init_118 (by decide) (by decide) (fun q_118 e_118 => ?_)
  refine gk_putfF C f_X5_50 rfl dX5_init_120 ((hset_ne (emb_not I15 e_118 (k := 40) (fun z => by cases z))).trans (emb_at I15 (k := 40) rfl)) rfl rfl (by exact Nat.le_of_ble_eq_true rfl) ?_
  obtain ⟨x_16, I16, y_16⟩ := mi_step I15 (show moK 16 = some (false, 8) from rfl) (by omega) e_118
  have z_16 := x_16
  refine gi_cast z_16 ?_
  rw [← y_16]
  clear x_16 z_16
  generalize adset ad15 16 q_118 = ad16 at *
  rw [← moPM_skip (n := 17) rfl] at I16
  rw [← moPM_skip (n := 17) rfl]
  refine gk_aload_n C dX5_init_123 rfl ?_
  refine gk_bipush C dX5_init_124 (by decide) ?_
  refine gk_newI C dX5_init_126 (by decide) (by decide) (fun q_126 e_126 => ?_)
  refine gk_putfF C f_X5_53 rfl dX5_init_128 ((hset_ne (emb_not I16 e_126 (k := 40) (fun z => by cases z))).trans (emb_at I16 (k := 40) rfl)) rfl rfl (by exact Nat.le_of_ble_eq_true rfl) ?_
  obtain ⟨x_18, I18, y_18⟩ := mi_step I16 (show moK 18 = some (false, 8) from rfl) (by omega) e_126
  have z_18 := x_18
  refine gi_cast z_18 ?_
  rw [← y_18]
  clear x_18 z_18
  generalize adset ad16 18 q_126 = ad18 at *
  refine gk_aload_n C dX5_init_131 rfl ?_
  refine gk_bipush C dX5_init_132 (by decide) ?_
  refine gk_newI C dX5_init_134 (by decide) (by decide) (fun q_134 e_134 => ?_)
  refine gk_putfF C f_X5_56 rfl dX5_init_136 ((hset_ne (emb_not I18 e_134 (k := 40) (fun z => by cases z))).trans (emb_at I18 (k := 40) rfl)) rfl rfl (by exact Nat.le_of_ble_eq_true rfl) ?_
  obtain ⟨x_19, I19, y_19⟩ := mi_step I18 (show moK 19 = some (false, 8) from rfl) (by omega) e_134
  have z_19 := x_19
  refine gi_cast z_19 ?_
  rw [← y_19]
  clear x_19 z_19
  generalize adset ad18 19 q_134 = ad19 at *
  refine gk_aload_n C dX5_init_139 rfl ?_
  refine gk_bipush C dX5_init_140 (by decide) ?_
  refine gk_newI C dX5_init_142 (by decide) (by decide) (fun q_142 e_142 => ?_)
  refine gk_putfF C f_X5_59 rfl dX5_init_144 ((hset_ne (emb_not I19 e_142 (k := 40) (fun z => by cases z))).trans (emb_at I19 (k := 40) rfl)) rfl rfl (by exact Nat.le_of_ble_eq_true rfl) ?_
  obtain ⟨x_20, I20, y_20⟩ := mi_step I19 (show moK 20 = some (false, 8) from rfl) (by omega) e_142
  have z_20 := x_20
  refine gi_cast z_20 ?_
  rw [← y_20]
  clear x_20 z_20
  generalize adset ad19 20 q_142 = ad20 at *
  refine gk_aload_n C dX5_init_147 rfl ?_
  refine gk_bipush C dX5_init_148 (by decide) ?_
  refine gk_newI C dX5_init_150 (by decide) (by decide) (fun q_150 e_150 => ?_)
  refine gk_putfF C f_X5_62 rfl dX5_init_152 ((hset_ne (emb_not I20 e_150 (k := 40) (fun z => by cases z))).trans (emb_at I20 (k := 40) rfl)) rfl rfl (by exact Nat.le_of_ble_eq_true rfl) ?_
  obtain ⟨x_21, I21, y_21⟩ := mi_step I20 (show moK 21 = some (false, 8) from rfl) (by omega) e_150
  have z_21 := x_21
  refine gi_cast z_21 ?_
  rw [← y_21]
  clear x_21 z_21
  generalize adset ad20 21 q_150 = ad21 at *
  refine gk_aload_n C dX5_init_155 rfl ?_
  refine gk_bipush C dX5_init_156 (by decide) ?_
  refine gk_newI C dX5_init_158 (by decide) (by decide) (fun q_158 e_158 => ?_)
  refine gk_putfF C f_X5_65 rfl dX5_init_160 ((hset_ne (emb_not I21 e_158 (k := 40) (fun z => by cases z))).trans (emb_at I21 (k := 40) rfl)) rfl rfl (by exact Nat.le_of_ble_eq_true rfl) ?_
  obtain ⟨x_22, I22, y_22⟩ := mi_step I21 (show moK 22 = some (false, 8) from rfl) (by omega) e_158
  have z_22 := x_22
  refine gi_cast z_22 ?_
  rw [← y_22]
  clear x_22 z_22
  generalize adset ad21 22 q_158 = ad22 at *
  refine gk_aload_n C dX5_init_163 rfl ?_
  refine gk_bipush C dX5_init_164 (by decide) ?_
  refine gk_newI C dX5_init_166 (by decide) (by decide) (fun q_166 e_166 => ?_)
  refine gk_putfF C f_X5_68 rfl dX5_init_168 ((hset_ne (emb_not I22 e_166 (k := 40) (fun z => by cases z))).trans (emb_at I22 (k := 40) rfl)) rfl rfl (by exact Nat.le_of_ble_eq_true rfl) ?_
  obtain ⟨x_23, I23, y_23⟩ := mi_step I22 (show moK 23 = some (false, 8) from rfl) (by omega) e_166
  have z_23 := x_23
  refine gi_cast z_23 ?_
  rw [← y_23]
  clear x_23 z_23
  generalize adset ad22 23 q_166 = ad23 at *
  refine gk_aload_n C dX5_init_171 rfl ?_
  refine gk_bipush C dX5_init_172 (by decide) ?_
  refine gk_newZ C dX5_init_174 (by decide) (by decide) (fun q_174 e_174 => ?_)
  refine gk_putfF C f_X5_71 rfl dX5_init_176 ((hset_ne (emb_not I23 e_174 (k := 40) (fun z => by cases z))).trans (emb_at I23 (k := 40) rfl)) rfl rfl (by exact Nat.le_of_ble_eq_true rfl) ?_
  obtain ⟨x_24, I24, y_24⟩ := mi_step I23 (show moK 24 = some (true, 8) from rfl) (by omega) e_174
  have z_24 := x_24
  refine gi_cast z_24 ?_
  rw [← y_24]
  clear x_24 z_24
  generalize adset ad23 24 q_174 = ad24 at *
  refine gk_aload_n C dX5_init_179 rfl ?_
  refine gk_bipush C dX5_init_180 (by decide) ?_
  refine gk_newI C dX5_init_182 (by decide) (by decide) (fun q_182 e_182 => ?_)
  refine gk_putfF C f_X5_74 rfl dX5_init_184 ((hset_ne (emb_not I24 e_182 (k := 40) (fun z => by cases z))).trans (emb_at I24 (k := 40) rfl)) rfl rfl (by exact Nat.le_of_ble_eq_true rfl) ?_
  obtain ⟨x_25, I25, y_25⟩ := mi_step I24 (show moK 25 = some (false, 8) from rfl) (by omega) e_182
  have z_25 := x_25
  refine gi_cast z_25 ?_
  rw [← y_25]
  clear x_25 z_25
  generalize adset ad24 25 q_182 = ad25 at *
  refine gk_aload_n C dX5_init_187 rfl ?_
  refine gk_bipush C dX5_init_188 (by decide) ?_
  refine gk_newI C dX5_init_190 (by decide) (by decide) (fun q_190 e_190 => ?_)
  refine gk_putfF C f_X5_77 rfl dX5_init_192 ((hset_ne (emb_not I25 e_190 (k := 40) (fun z => by cases z))).trans (emb_at I25 (k := 40) rfl)) rfl rfl (by exact Nat.le_of_ble_eq_true rfl) ?_
  obtain ⟨x_26, I26, y_26⟩ := mi_step I25 (show moK 26 = some (false, 8) from rfl) (by omega) e_190
  have z_26 := x_26
  refine gi_cast z_26 ?_
  rw [← y_26]
  clear x_26 z_26
  generalize adset ad25 26 q_190 = ad26 at *
  refine gk_aload_n C dX5_init_195 rfl ?_
  refine gk_bipush C dX5_init_196 (by decide) ?_
  refine gk_newI C dX5_init_198 (by decide) (by decide) (fun q_198 e_198 => ?_)
  refine gk_putfF C f_X5_80 rfl dX5_init_200 ((hset_ne (emb_not I26 e_198 (k := 40) (fun z => by cases z))).trans (emb_at I26 (k := 40) rfl)) rfl rfl (by exact Nat.le_of_ble_eq_true rfl) ?_
  obtain ⟨x_27, I27, y_27⟩ := mi_step I26 (show moK 27 = some (false, 8) from rfl) (by omega) e_198
  have z_27 := x_27
  refine gi_cast z_27 ?_
  rw [← y_27]
  clear x_27 z_27
  generalize adset ad26 27 q_198 = ad27 at *
  refine gk_aload_n C dX5_init_203 rfl ?_
  refine gk_bipush C dX5_init_204 (by decide) ?_
  refine gk_newI C dX5_init_206 (by decide) (by decide) (fun q_206 e_206 => ?_)
  refine gk_putfF C f_X5_83 rfl dX5_init_208 ((hset_ne (emb_not I27 e_206 (k := 40) (fun z => by cases z))).trans (emb_at I27 (k := 40) rfl)) rfl rfl (by exact Nat.le_of_ble_eq_true rfl) ?_
  obtain ⟨x_28, I28, y_28⟩ := mi_step I27 (show moK 28 = some (false, 8) from rfl) (by omega) e_206
  have z_28 := x_28
  refine gi_cast z_28 ?_
  rw [← y_28]
  clear x_28 z_28
  generalize adset ad27 28 q_206 = ad28 at *
  rw [← moPM_skip (n := 29) rfl] at I28
  rw [← moPM_skip (n := 29) rfl]
  refine gk_aload_n C dX5_init_211 rfl ?_
  refine gk_bipush C dX5_init_212 (by decide) ?_
  refine gk_newI C dX5_init_214 (by decide) (by decide) (fun q_214 e_214 => ?_)
  refine gk_putfF C f_X5_86 rfl dX5_init_216 ((hset_ne (emb_not I28 e_214 (k := 40) (fun z => by cases z))).trans (emb_at I28 (k := 40) rfl)) rfl rfl (by exact Nat.le_of_ble_eq_true rfl) ?_
  obtain ⟨x_30, I30, y_30⟩ := mi_step I28 (show moK 30 = some (false, 8) from rfl) (by omega) e_214
  have z_30 := x_30
  refine gi_cast z_30 ?_
  rw [← y_30]
  clear x_30 z_30
  generalize adset ad28 30 q_214 = ad30 at *
  refine gk_aload_n C dX5_init_219 rfl ?_
  refine gk_bipush C dX5_init_220 (by decide) ?_
  refine gk_newI C dX5_init_222 (by decide) (by decide) (fun q_222 e_222 => ?_)
  refine gk_putfF C f_X5_89 rfl dX5_init_224 ((hset_ne (emb_not I30 e_222 (k := 40) (fun z => by cases z))).trans (emb_at I30 (k := 40) rfl)) rfl rfl (by exact Nat.le_of_ble_eq_true rfl) ?_
  obtain ⟨x_31, I31, y_31⟩ := mi_step I30 (show moK 31 = some (false, 8) from rfl) (by omega) e_222
  have z_31 := x_31
  refine gi_cast z_31 ?_
  rw [← y_31]
  clear x_31 z_31
  generalize adset ad30 31 q_222 = ad31 at *
  refine gk_aload_n C dX5_init_227 rfl ?_
  refine gk_bipush C dX5_init_228 (by decide) ?_
  refine gk_newI C dX5_init_230 (by decide) (by decide) (fun q_230 e_230 => ?_)
  refine gk_putfF C f_X5_92 rfl dX5_init_232 ((hset_ne (emb_not I31 e_230 (k := 40) (fun z => by cases z))).trans (emb_at I31 (k := 40) rfl)) rfl rfl (by exact Nat.le_of_ble_eq_true rfl) ?_
  obtain ⟨x_32, I32, y_32⟩ := mi_step I31 (show moK 32 = some (false, 8) from rfl) (by omega) e_230
  have z_32 := x_32
  refine gi_cast z_32 ?_
  rw [← y_32]
  clear x_32 z_32
  generalize adset ad31 32 q_230 = ad32 at *
  refine gk_aload_n C dX5_init_235 rfl ?_
  refine gk_bipush C dX5_init_236 (by decide) ?_
  refine gk_newI C dX5_init_238 (by decide) (by decide) (fun q_238 e_238 => ?_)
  refine gk_putfF C f_X5_95 rfl dX5_init_240 ((hset_ne (emb_not I32 e_238 (k := 40) (fun z => by cases z))).trans (emb_at I32 (k := 40) rfl)) rfl rfl (by exact Nat.le_of_ble_eq_true rfl) ?_
  obtain ⟨x_33, I33, y_33⟩ := mi_step I32 (show moK 33 = some (false, 8) from rfl) (by omega) e_238
  have z_33 := x_33
  refine gi_cast z_33 ?_
  rw [← y_33]
  clear x_33 z_33
  generalize adset ad32 33 q_238 = ad33 at *
  refine gk_aload_n C dX5_init_243 rfl ?_
  refine gk_bipush C dX5_init_244 (by decide) ?_
  refine gk_newI C dX5_init_246 (by decide) (by decide) (fun q_246 e_246 => ?_)
  refine gk_putfF C f_X5_98 rfl dX5_init_248 ((hset_ne (emb_not I33 e_246 (k := 40) (fun z => by cases z))).trans (emb_at I33 (k := 40) rfl)) rfl rfl (by exact Nat.le_of_ble_eq_true rfl) ?_
  obtain ⟨x_34, I34, y_34⟩ := mi_step I33 (show moK 34 = some (false, 8) from rfl) (by omega) e_246
  have z_34 := x_34
  refine gi_cast z_34 ?_
  rw [← y_34]
  clear x_34 z_34
  generalize adset ad33 34 q_246 = ad34 at *
  refine gk_aload_n C dX5_init_251 rfl ?_
  refine gk_bipush C dX5_init_252 (by decide) ?_
  refine gk_newI C dX5_init_254 (by decide) (by decide) (fun q_254 e_254 => ?_)
  refine gk_putfF C f_X5_101 rfl dX5_init_256 ((hset_ne (emb_not I34 e_254 (k := 40) (fun z => by cases z))).trans (emb_at I34 (k := 40) rfl)) rfl rfl (by exact Nat.le_of_ble_eq_true rfl) ?_
  obtain ⟨x_35, I35, y_35⟩ := mi_step I34 (show moK 35 = some (false, 8) from rfl) (by omega) e_254
  have z_35 := x_35
  refine gi_cast z_35 ?_
  rw [← y_35]
  clear x_35 z_35
  generalize adset ad34 35 q_254 = ad35 at *
  rw [← moPM_skip (n := 36) rfl] at I35
  rw [← moPM_skip (n := 36) rfl]
  rw [← moPM_skip (n := 37) rfl] at I35
  rw [← moPM_skip (n := 37) rfl]
  refine gk_aload_n C dX5_init_259 rfl ?_
  refine gk_bipush C dX5_init_260 (by decide) ?_
  refine gk_newI C dX5_init_262 (by decide) (by decide) (fun q_262 e_262 => ?_)
  refine gk_putfF C f_X5_104 rfl dX5_init_264 ((hset_ne (emb_not I35 e_262 (k := 40) (fun z => by cases z))).trans (emb_at I35 (k := 40) rfl)) rfl rfl (by exact Nat.le_of_ble_eq_true rfl) ?_
  obtain ⟨x_38, I38, y_38⟩ := mi_step I35 (show moK 38 = some (false, 32) from rfl) (by omega) e_262
  have z_38 := x_38
  refine gi_cast z_38 ?_
  rw [← y_38]
  clear x_38 z_38
  generalize adset ad35 38 q_262 = ad38 at *
  rw [← moPM_skip (n := 39) rfl] at I38
  rw [← moPM_skip (n := 39) rfl]
  refine (R _ _ _ _ _ (by decide) (by decide)).2.2.1 rfl dX5_init_267 ?_
  obtain ⟨e1, e2⟩ := mi_end I38
  exact ⟨rfl, _, e2, by omega, e1⟩
