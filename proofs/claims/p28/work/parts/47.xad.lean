/-! the class's memory under other addresses of keys that aren't used yet -/
theorem XM_ad {E : Nat} {ad ad2 : XK → Nat} {Q : XTs} {S : XSs} {P : XPs} {B : XBs} (hs : ∀ i, i < S.2.1 → S.2.2.2.1 i < Q.1) (h : ∀ k, XM E ad Q S P B k ≠ none → ad2 k = ad k) : XM E ad2 Q S P B = XM E ad Q S P B := by
  have h0 : ∀ r, r < 9 → ad2 (r, 0) = ad (r, 0) := fun r hr => h (r, 0) (by
    unfold XM
    dsimp only
    rw [if_pos (show r < 13 by omega), if_pos rfl]
    rcases r0_12 (show r < 13 by omega) with e | e | e | e | e | e | e | e | e | e | e | e | e <;> subst e <;> first | (intro z; cases z) | omega)
  have hT : ∀ r i, 13 ≤ r → r < 19 → i < Q.1 → ad2 (r, i) = ad (r, i) := fun r i h1 h2 h3 => h (r, i) (by rw [XM_tu ⟨h1, h2⟩ h3]; intro z; cases z)
  have hP : ∀ i, i < P.1 → ad2 (19, i) = ad (19, i) := fun i h3 => h (19, i) (by rw [XM_pi h3]; intro z; cases z)
  have hB : ∀ r i, 20 ≤ r → r < 23 → i < B.1 → ad2 (r, i) = ad (r, i) := fun r i h1 h2 h3 => h (r, i) (by rw [XM_ba ⟨h1, h2⟩ h3]; intro z; cases z)
  have h9 : has Q.1 = true → ad2 (9, 0) = ad (9, 0) := fun c => h (9, 0) (by show (if has Q.1 = true then _ else _) ≠ none; rw [if_pos c]; intro z; cases z)
  have h10 : S.1 = true → ad2 (10, 0) = ad (10, 0) := fun c => h (10, 0) (by show (if S.1 = true then _ else _) ≠ none; rw [if_pos c]; intro z; cases z)
  have h11 : has P.1 = true → ad2 (11, 0) = ad (11, 0) := fun c => h (11, 0) (by show (if has P.1 = true then _ else _) ≠ none; rw [if_pos c]; intro z; cases z)
  have h12 : has B.1 = true → ad2 (12, 0) = ad (12, 0) := fun c => h (12, 0) (by show (if has B.1 = true then _ else _) ≠ none; rw [if_pos c]; intro z; cases z)
  have hl : ∀ (al : Bool) (r : Nat) (mc : Int) (n : Nat), (al = true → ad2 (r, 0) = ad (r, 0)) → lsC E ad2 al r mc n = lsC E ad al r mc n := by
    intro al r mc n q
    unfold lsC
    cases al with
    | false => rfl
    | true => rw [q rfl]
  have hr : ∀ (n : Nat) (g g2 : Nat → Nat), (∀ i, i < n → g2 i = g i) → rwC n g2 = rwC n g := by
    intro n g g2 q
    unfold rwC
    refine congrArg (aR 10) (funext fun z => ?_)
    by_cases c : 0 ≤ z ∧ z < (n : Int)
    · rw [if_pos c, if_pos c, q _ (by omega)]
    · rw [if_neg c, if_neg c]
  funext k
  obtain ⟨r, j⟩ := k
  unfold XM
  dsimp only
  by_cases c1 : r < 13
  · rw [if_pos c1, if_pos c1]
    by_cases c2 : j = 0
    · rw [if_pos c2, if_pos c2]
      rcases r0_12 c1 with e | e | e | e | e | e | e | e | e | e | e | e | e <;> subst e
      · show some (oO 5 [.ref (ad2 (1, 0)), .ref (ad2 (2, 0)), .ref (ad2 (3, 0)), .ref (ad2 (4, 0)), .ref (ad2 (5, 0)), .ref (ad2 (6, 0)), .ref (ad2 (7, 0)), iv B.2.2.2.1, iv B.2.2.2.2]) = some (oO 5 [.ref (ad (1, 0)), .ref (ad (2, 0)), .ref (ad (3, 0)), .ref (ad (4, 0)), .ref (ad (5, 0)), .ref (ad (6, 0)), .ref (ad (7, 0)), iv B.2.2.2.1, iv B.2.2.2.2])
        rw [h0 1 (by omega), h0 2 (by omega), h0 3 (by omega), h0 4 (by omega), h0 5 (by omega), h0 6 (by omega), h0 7 (by omega)]
      · exact congrArg some (hl _ _ _ _ h9)
      · exact congrArg some (hl _ _ _ _ h10)
      · rfl
      · exact congrArg some (hl _ _ _ _ h11)
      · rfl
      · show some (oPt (ad2 (8, 0)) _) = some (oPt (ad (8, 0)) _)
        rw [h0 8 (by omega)]
      · exact congrArg some (hl _ _ _ _ h12)
      · rfl
      · show (if has Q.1 = true then some (rwC Q.1 (fun i => ad2 (13, i))) else none) = if has Q.1 = true then some (rwC Q.1 (fun i => ad (13, i))) else none
        rw [hr Q.1 (fun i => ad (13, i)) (fun i => ad2 (13, i)) (fun i hi => hT 13 i (by omega) (by omega) hi)]
      · show (if S.1 = true then some (rwC S.2.1 (fun i => ad2 (13, S.2.2.2.1 i))) else none) = if S.1 = true then some (rwC S.2.1 (fun i => ad (13, S.2.2.2.1 i))) else none
        rw [hr S.2.1 (fun i => ad (13, S.2.2.2.1 i)) (fun i => ad2 (13, S.2.2.2.1 i)) (fun i hi => hT 13 _ (by omega) (by omega) (hs i hi))]
      · show (if has P.1 = true then some (rwC P.1 (fun i => ad2 (19, i))) else none) = if has P.1 = true then some (rwC P.1 (fun i => ad (19, i))) else none
        rw [hr P.1 (fun i => ad (19, i)) (fun i => ad2 (19, i)) (fun i hi => hP i hi)]
      · show (if has B.1 = true then some (rwC B.1 (fun i => ad2 (20, i))) else none) = if has B.1 = true then some (rwC B.1 (fun i => ad (20, i))) else none
        rw [hr B.1 (fun i => ad (20, i)) (fun i => ad2 (20, i)) (fun i hi => hB 20 i (by omega) (by omega) hi)]
    · rw [if_neg c2, if_neg c2]
  · rw [if_neg c1, if_neg c1]
    by_cases c2 : r < 19
    · rw [if_pos c2, if_pos c2]
      by_cases c3 : j < Q.1
      · rw [if_pos c3, if_pos c3]
        unfold tuC
        rw [hT 14 j (by omega) (by omega) c3, hT 15 j (by omega) (by omega) c3, hT 16 j (by omega) (by omega) c3, hT 17 j (by omega) (by omega) c3, hT 18 j (by omega) (by omega) c3]
      · rw [if_neg c3, if_neg c3]
    · rw [if_neg c2, if_neg c2]
      by_cases c4 : r = 19
      · rw [if_pos c4, if_pos c4]
      · rw [if_neg c4, if_neg c4]
        by_cases c5 : r < 23
        · rw [if_pos c5, if_pos c5]
          by_cases c3 : j < B.1
          · rw [if_pos c3, if_pos c3]
            unfold baC
            rw [hB 21 j (by omega) (by omega) c3, hB 22 j (by omega) (by omega) c3]
          · rw [if_neg c3, if_neg c3]
        · rw [if_neg c5, if_neg c5]
