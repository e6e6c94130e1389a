/-! the class: one more in the set's row -/
section XS
variable {E : Nat} {ad : XK → Nat} {Q : XTs} {S : XSs} {P : XPs} {B : XBs}
theorem rw_add {n j : Nat} {G : Nat → Nat} {g : Nat → Nat} : aR 10 (gupd (fun z : Int => if 0 ≤ z ∧ z < (n : Int) then some (G (g z.toNat)) else none) (n : Int) (some (G j))) = rwC (n + 1) (fun i => G (tset g n j i)) := by
  unfold rwC
  refine congrArg (aR 10) (funext fun z => ?_)
  by_cases c : z = (n : Int)
  · rw [c, gupd_eq, if_pos (by omega)]
    show some (G j) = some (G (tset g n j n))
    rw [tset_eq]
  · rw [gupd_ne c]
    by_cases c2 : 0 ≤ z ∧ z < (n : Int)
    · rw [if_pos c2, if_pos (by omega)]
      show some (G (g z.toNat)) = some (G (tset g n j z.toNat))
      rw [tset_ne (show z.toNat ≠ n by omega)]
    · rw [if_neg c2, if_neg (by omega)]
theorem hx_sadd (I : IX E ad Q S P B) (hal : S.1 = true) {j : Nat} : hset (hset (HX E ad Q S P B) (ad (10, 0)) (aR 10 (gupd (fun z : Int => if 0 ≤ z ∧ z < (S.2.1 : Int) then some (ad (13, S.2.2.2.1 z.toNat)) else none) (S.2.1 : Int) (some (ad (13, j)))))) (ad (2, 0)) (oAL (S.2.2.1 + 1) (ad (10, 0)) ((S.2.1 : Int) + 1)) = HX E ad Q (S.1, S.2.1 + 1, S.2.2.1 + 1, tset S.2.2.2.1 S.2.1 j, S.2.2.2.2) P B := by
  let m1 : XK → Option AE := fun k => @ite _ (k = (10, 0)) (Classical.propDecidable _) (some (rwC (S.2.1 + 1) (fun i => ad (13, tset S.2.2.2.1 S.2.1 j i)))) (XM E ad Q S P B k)
  have e10 : XM E ad Q S P B (10, 0) = some (rwC S.2.1 (fun i => ad (13, S.2.2.2.1 i))) := if_pos hal
  have d10 : XM E ad Q S P B (10, 0) ≠ none := by rw [e10]; intro z; cases z
  have hm1 : m1 (10, 0) = some (rwC (S.2.1 + 1) (fun i => ad (13, tset S.2.2.2.1 S.2.1 j i))) := if_pos rfl
  have hm2 : ∀ k, k ≠ (10, 0) → m1 k = XM E ad Q S P B k := fun k c => if_neg c
  have s1 := emb_set (m2 := m1) (k := (10, 0)) I d10 hm1 hm2
  have I1 : embI ad m1 := by
    intro a b ha hb
    refine I a b ?_ ?_
    · by_cases c : a = (10, 0)
      · rw [c]; exact d10
      · rw [← hm2 a c]; exact ha
    · by_cases c : b = (10, 0)
      · rw [c]; exact d10
      · rw [← hm2 b c]; exact hb
  have e9 := rw_add (n := S.2.1) (j := j) (G := fun i => ad (13, i)) (g := S.2.2.2.1)
  try dsimp only at e9
  rw [e9]
  refine (congrArg (fun hh => hset hh (ad (2, 0)) (oAL (S.2.2.1 + 1) (ad (10, 0)) ((S.2.1 : Int) + 1))) s1).trans ?_
  refine emb_set (m := m1) (k := (2, 0)) I1 ?_ ?_ ?_
  · rw [hm2 (2, 0) (by intro z; cases z)]
    intro z
    cases z
  · show some (lsC E ad S.1 10 (S.2.2.1 + 1) (S.2.1 + 1)) = _
    unfold lsC
    rw [hal]
    rfl
  · rintro ⟨r2, j2⟩ hne
    by_cases c : ((r2, j2) : XK) = (10, 0)
    · rw [c, hm1]
      exact if_pos hal
    · rw [hm2 _ c]
      unfold XM
      dsimp only
      by_cases c1 : r2 < 13
      · rw [if_pos c1, if_pos c1]
        by_cases c2 : j2 = 0
        · rw [if_pos c2, if_pos c2]
          rcases r0_12 c1 with e | e | e | e | e | e | e | e | e | e | e | e | e <;> subst e <;> first | rfl | exact absurd (congrArg (fun q : Nat => ((10 : Nat), q)) c2) c | exact absurd (congrArg (fun q : Nat => ((2 : Nat), q)) c2) hne
        · rw [if_neg c2, if_neg c2]
      · rw [if_neg c1, if_neg c1]
end XS
