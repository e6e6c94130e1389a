/-! the class's state without its rows of scratch, and its calls as steps -/
/-- pipers: how many, count of changes, each -/
abbrev QPs : Type := Nat × Int × (Nat → PiS)
/-- tunes, set, pipers, bands, how many contests have been closed -/
abbrev ST : Type := XTs × XSs × QPs × XBs × Nat
abbrev eI : Int := -7000001
abbrev eA : Int := -7000002
abbrev eS : Int := -7000003
def tu0 (z : Int) : TuS := (z, 0, 0, 0, 0, 0, (fun _ => 0), (fun _ => 0), (fun _ => 0), (fun _ => 0), (fun _ => 0))
def ba0 (z : Int) : BaS := (z, z, 0, -1, -1, 0, 0, (fun _ => 0), (fun _ => 0))
abbrev inT (σ : ST) (t : Int) : Prop := 0 ≤ t ∧ t < σ.1.1
abbrev inP (σ : ST) (t : Int) : Prop := 0 ≤ t ∧ t < σ.2.2.1.1
abbrev inB (σ : ST) (t : Int) : Prop := 0 ≤ t ∧ t < σ.2.2.2.1.1
abbrev gT (σ : ST) (t : Int) : TuS := σ.1.2.2 t.toNat
abbrev gP (σ : ST) (t : Int) : PiS := σ.2.2.1.2.2 t.toNat
abbrev gB (σ : ST) (t : Int) : BaS := σ.2.2.2.1.2.2.1 t.toNat
/-- with another tune, piper, band at a place -/
def wT (σ : ST) (t : Int) (x : TuS) : ST := ((σ.1.1, σ.1.2.1, tset σ.1.2.2 t.toNat x), σ.2)
def wP (σ : ST) (t : Int) (x : PiS) : ST := (σ.1, σ.2.1, (σ.2.2.1.1, σ.2.2.1.2.1, tset σ.2.2.1.2.2 t.toNat x), σ.2.2.2)
def wB (σ : ST) (bf : Nat → BaS) (op mm : Int) : ST := (σ.1, σ.2.1, σ.2.2.1, (σ.2.2.2.1.1, σ.2.2.2.1.2.1, bf, op, mm), σ.2.2.2.2)
def sTune (σ : ST) (z : Int) : Int × ST :=
  if 0 ≤ z ∧ z ≤ 3 then (if σ.1.1 < 10 then ((σ.1.1 : Int), ((σ.1.1 + 1, σ.1.2.1 + 1, tset σ.1.2.2 σ.1.1 (tu0 z)), σ.2)) else (eS, σ)) else (eA, σ)
abbrev rgNote (h l g : Int) : Prop := (0 ≤ h ∧ h ≤ 8) ∧ (1 ≤ l ∧ l ≤ 16) ∧ (0 ≤ g ∧ g ≤ 8)
abbrev okNote (t : TuS) (h l g : Int) : Prop := tWc t < 64 ∧ tOu t % barU (tKd t) + l ≤ barU (tKd t) ∧ lawf (lastH (tH t) (tWc t)) h g
def lawfD (p h g : Int) : Decidable (lawf p h g) := inferInstanceAs (Decidable ((g = 0 ∧ p ≠ h) ∨ (g = 1 ∧ h < 4) ∨ (g = 2 ∧ h < 5) ∨ (g = 3 ∧ h < 7) ∨ (g = 4 ∧ h < 8) ∨ (g = 5 ∧ h ≤ 6) ∨ (g = 6 ∧ 1 ≤ h) ∨ (g = 7 ∧ h = 4) ∨ (g = 8 ∧ h = 1)))
def okNoteD (t : TuS) (h l g : Int) : Decidable (okNote t h l g) := @instDecidableAnd _ _ _ (@instDecidableAnd _ _ _ (lawfD _ h g))
def sNote (σ : ST) (t h l g : Int) : Int × ST :=
  if inT σ t then (if rgNote h l g then @ite _ (okNote (gT σ t) h l g) (okNoteD _ h l g) ((tWc (gT σ t) : Int) + 1, wT σ t (tNote (gT σ t) h l g)) (eS, σ) else (eA, σ)) else (eI, σ)
abbrev okPart (t : TuS) : Prop := tPc t < 8 ∧ tFo t < tWc t ∧ tOu t % barU (tKd t) = 0
def sPart (σ : ST) (t rep : Int) : Int × ST :=
  if inT σ t then (if okPart (gT σ t) then (tOu (gT σ t) / barU (tKd (gT σ t)), wT σ t (tPart (gT σ t) rep)) else (eS, σ)) else (eI, σ)
def vPlayed (t : TuS) (p w : Int) : Int := if w = 0 then tH t (tN t p) else if w = 1 then tL t (tN t p) else if w = 2 then tG t (tN t p) else if w = 3 then usum (fun j => tL t (tN t j)) p.toNat else tP t (tN t p)
def sPlayed (σ : ST) (t p w : Int) : Int × ST :=
  if inT σ t then (if 0 ≤ p ∧ p < tPl (gT σ t) then (if 0 ≤ w ∧ w ≤ 4 then (vPlayed (gT σ t) p w, σ) else (eA, σ)) else (eI, σ)) else (eI, σ)
def vOfTune (t : TuS) (w : Int) : Int := if w = 0 then tKd t else if w = 1 then (tPl t : Int) else if w = 2 then usum (fun j => tL t (tN t j)) (tPl t) else if w = 3 then usum (clash1 (fun j => tG t (tN t j)) (fun j => tH t (tN t j))) (tPl t) else if w = 4 then usum (fun j => smallOf (tG t (tN t j))) (tPl t) else if w = 5 then (tPc t : Int) else (tWc t : Int) - tFo t
def sOfTune (σ : ST) (t w : Int) : Int × ST := if inT σ t then (if 0 ≤ w ∧ w ≤ 6 then (vOfTune (gT σ t) w, σ) else (eA, σ)) else (eI, σ)
/-- how alike: the most over each two ends -/
def alM (A B : Int → Int) (k : Nat) : Nat → Nat
  | 0 => 0
  | j + 1 => max (alM A B k j) (suf A B k (j + 1))
def alN (A B : Int → Int) (nb : Nat) : Nat → Nat
  | 0 => 0
  | k + 1 => max (alN A B nb k) (alM A B (k + 1) nb)
theorem alM_ge {A B : Int → Int} {k : Nat} : ∀ n j : Nat, 1 ≤ j → j ≤ n → suf A B k j ≤ alM A B k n
  | 0, j, h1, h2 => by omega
  | n + 1, j, h1, h2 => by
    show suf A B k j ≤ max (alM A B k n) (suf A B k (n + 1))
    by_cases c : j = n + 1
    · rw [c]; exact Nat.le_max_right _ _
    · exact Nat.le_trans (alM_ge n j h1 (by omega)) (Nat.le_max_left _ _)
theorem alM_at {A B : Int → Int} {k : Nat} : ∀ n : Nat, alM A B k n = 0 ∨ ∃ j, j ≤ n ∧ suf A B k j = alM A B k n
  | 0 => Or.inl rfl
  | n + 1 => by
    show max (alM A B k n) (suf A B k (n + 1)) = 0 ∨ ∃ j, j ≤ n + 1 ∧ suf A B k j = max (alM A B k n) (suf A B k (n + 1))
    by_cases c : alM A B k n ≤ suf A B k (n + 1)
    · rw [Nat.max_eq_right c]
      exact Or.inr ⟨n + 1, Nat.le_refl _, rfl⟩
    · rw [Nat.max_eq_left (by omega)]
      rcases alM_at (A := A) (B := B) (k := k) n with e | ⟨j, h1, h2⟩
      · exact Or.inl e
      · exact Or.inr ⟨j, by omega, h2⟩
theorem alN_ge {A B : Int → Int} {nb : Nat} : ∀ n k : Nat, 1 ≤ k → k ≤ n → alM A B k nb ≤ alN A B nb n
  | 0, k, h1, h2 => by omega
  | n + 1, k, h1, h2 => by
    show alM A B k nb ≤ max (alN A B nb n) (alM A B (n + 1) nb)
    by_cases c : k = n + 1
    · rw [c]; exact Nat.le_max_right _ _
    · exact Nat.le_trans (alN_ge n k h1 (by omega)) (Nat.le_max_left _ _)
theorem alN_at {A B : Int → Int} {nb : Nat} : ∀ n : Nat, alN A B nb n = 0 ∨ ∃ k j, k ≤ n ∧ j ≤ nb ∧ suf A B k j = alN A B nb n
  | 0 => Or.inl rfl
  | n + 1 => by
    show max (alN A B nb n) (alM A B (n + 1) nb) = 0 ∨ ∃ k j, k ≤ n + 1 ∧ j ≤ nb ∧ suf A B k j = max (alN A B nb n) (alM A B (n + 1) nb)
    by_cases c : alN A B nb n ≤ alM A B (n + 1) nb
    · rw [Nat.max_eq_right c]
      rcases alM_at (A := A) (B := B) (k := n + 1) nb with e | ⟨j, h1, h2⟩
      · exact Or.inl e
      · exact Or.inr ⟨n + 1, j, Nat.le_refl _, h1, h2⟩
    · rw [Nat.max_eq_left (by omega)]
      rcases alN_at (A := A) (B := B) (nb := nb) n with e | ⟨k, j, h1, h2⟩
      · exact Or.inl e
      · exact Or.inr ⟨k, j, by omega, h2⟩
theorem alN_is (A B : Int → Int) (na nb : Nat) : isAlike A na B nb (alN A B nb na) := by
  refine ⟨fun k j hk hj => ?_, alN_at na⟩
  have l1 := suf_le1 A B k j
  have l2 := suf_le2 A B k j
  by_cases c : 1 ≤ k ∧ 1 ≤ j
  · exact Nat.le_trans (alM_ge nb j c.2 hj) (alN_ge na k c.1 hk)
  · omega
theorem suf_self (A : Int → Int) : ∀ k : Nat, suf A A k k = k
  | 0 => rfl
  | k + 1 => by
    show (if A (k : Int) = A (k : Int) then suf A A k k + 1 else 0) = k + 1
    rw [if_pos rfl, suf_self A k]
theorem isAlike_self (A : Int → Int) (n : Nat) : isAlike A n A n n :=
  ⟨fun k j hk _ => Nat.le_trans (suf_le1 A A k j) hk, Or.inr ⟨n, n, Nat.le_refl _, Nat.le_refl _, suf_self A n⟩⟩
theorem suf_sym (A B : Int → Int) : ∀ k j : Nat, suf A B k j = suf B A j k
  | 0, 0 => rfl
  | 0, _ + 1 => rfl
  | _ + 1, 0 => rfl
  | k + 1, j + 1 => by
    show (if A (k : Int) = B (j : Int) then suf A B k j + 1 else 0) = if B (j : Int) = A (k : Int) then suf B A j k + 1 else 0
    rw [suf_sym A B k j]
    by_cases c : A (k : Int) = B (j : Int)
    · rw [if_pos c, if_pos c.symm]
    · rw [if_neg c, if_neg (fun z => c z.symm)]
theorem isAlike_sym {A B : Int → Int} {na nb m : Nat} (h : isAlike A na B nb m) : isAlike B nb A na m := by
  obtain ⟨a1, a2⟩ := h
  refine ⟨fun k j hk hj => by rw [suf_sym]; exact a1 j k hj hk, ?_⟩
  rcases a2 with e | ⟨k, j, h1, h2, h3⟩
  · exact Or.inl e
  · exact Or.inr ⟨j, k, h2, h1, by rw [suf_sym]; exact h3⟩
abbrev hts (t : TuS) : Int → Int := fun j => tH t (tN t j)
def vAlike (σ : ST) (a b : Int) : Nat := if a = b then tPl (gT σ a) else alN (hts (gT σ a)) (hts (gT σ b)) (tPl (gT σ b)) (tPl (gT σ a))
theorem vAlike_is (σ : ST) (a b : Int) : isAlike (hts (gT σ a)) (tPl (gT σ a)) (hts (gT σ b)) (tPl (gT σ b)) (vAlike σ a b) := by
  unfold vAlike
  by_cases c : a = b
  · rw [if_pos c, ← c]; exact isAlike_self _ _
  · rw [if_neg c]; exact alN_is _ _ _ _
def sAlike (σ : ST) (a b : Int) : Int × ST := if inT σ a ∧ inT σ b then ((vAlike σ a b : Int), σ) else (eI, σ)
def xMayD (Q : XTs) (S : XSs) (t : TuS) (tp : Int) : Decidable (xMay Q S t tp) := inferInstanceAs (Decidable (1 ≤ tPl t ∧ (S.2.1 = 0 ∨ (¬ (tKd (Q.2.2 (S.2.2.2.1 (S.2.1 - 1))) = tKd t ∧ tp < S.2.2.2.2 ((S.2.1 : Int) - 1)) ∧ (¬ tG t (tN t 0) = 0 ∨ ¬ tH t (tN t 0) = tH (Q.2.2 (S.2.2.2.1 (S.2.1 - 1))) (tN (Q.2.2 (S.2.2.2.1 (S.2.1 - 1))) ((tPl (Q.2.2 (S.2.2.2.1 (S.2.1 - 1))) : Int) - 1)))))))
abbrev okFol (σ : ST) (t tp : Int) : Prop := σ.2.1.2.1 < 8 ∧ xMay σ.1 σ.2.1 (gT σ t) tp
def okFolD (σ : ST) (t tp : Int) : Decidable (okFol σ t tp) := @instDecidableAnd _ _ _ (xMayD _ _ _ tp)
def wS (σ : ST) (S : XSs) : ST := (σ.1, S, σ.2.2)
def sFollow (σ : ST) (t tp : Int) : Int × ST :=
  if inT σ t then (if 30 ≤ tp ∧ tp ≤ 600 then @ite _ (okFol σ t tp) (okFolD σ t tp) ((σ.2.1.2.1 : Int) + 1, wS σ (true, σ.2.1.2.1 + 1, σ.2.1.2.2.1 + 1, tset σ.2.1.2.2.2.1 σ.2.1.2.1 t.toNat, gupd σ.2.1.2.2.2.2 σ.2.1.2.1 tp)) (eS, σ) else (eA, σ)) else (eI, σ)
def sDrop (σ : ST) : Int × ST :=
  if 1 ≤ σ.2.1.2.1 then ((σ.2.1.2.2.2.1 (σ.2.1.2.1 - 1) : Int), wS σ (σ.2.1.1, σ.2.1.2.1 - 1, σ.2.1.2.2.1 + 1, σ.2.1.2.2.2.1, σ.2.1.2.2.2.2)) else (eS, σ)
def sTime (σ : ST) : Int × ST := (xTime σ.1 σ.2.1 σ.2.1.2.1, σ)
abbrev rgPip (a b c : Int) : Prop := (-100 ≤ a ∧ a ≤ 100) ∧ (10 ≤ b ∧ b ≤ 40) ∧ (0 ≤ c ∧ c ≤ 9)
def sPiper (σ : ST) (a b c : Int) : Int × ST :=
  if rgPip a b c then (if σ.2.2.1.1 < 8 then ((σ.2.2.1.1 : Int), (σ.1, σ.2.1, (σ.2.2.1.1 + 1, σ.2.2.1.2.1 + 1, tset σ.2.2.1.2.2 σ.2.2.1.1 (a, b, c, 0, 0, 0, 0)), σ.2.2.2)) else (eS, σ)) else (eA, σ)
abbrev rgSeat (p : PiS) (b : Int) : Prop := (-100 ≤ b ∧ b ≤ 100) ∧ (-100 ≤ pS p + b ∧ pS p + b ≤ 100)
def sSeat (σ : ST) (p b : Int) : Int × ST :=
  if inP σ p then (if rgSeat (gP σ p) b then (pS (gP σ p) + b, wP σ p (pR (gP σ p), pP (gP σ p), pB (gP σ p), pS (gP σ p) + b, pW (gP σ p), pT (gP σ p), pZ (gP σ p))) else (eA, σ)) else (eI, σ)
def sRest (σ : ST) (p b : Int) : Int × ST :=
  if inP σ p then (pZ (gP σ p), wP σ p (pR (gP σ p), pP (gP σ p), pB (gP σ p), pS (gP σ p), pW (gP σ p), pT (gP σ p), b)) else (eI, σ)
def isMinD (m r h : Int) : Decidable (isMin m r h) := inferInstanceAs (Decidable ((1 ≤ m ∧ m ≤ 120) ∧ (0 ≤ r ∧ r ≤ 9) ∧ (0 ≤ h ∧ h ≤ 40)))
def sPlay (σ : ST) (m r h : Int) : Int × ST :=
  @ite _ (isMin m r h) (isMinD m r h) (gSp (advK σ.2.2.1.2.2 m.toNat r h σ.2.2.1.1) σ.2.2.1.1 (-1), (σ.1, σ.2.1, (σ.2.2.1.1, σ.2.2.1.2.1, advK σ.2.2.1.2.2 m.toNat r h σ.2.2.1.1), σ.2.2.2)) (eA, σ)
def vOfPip (σ : ST) (p w : Int) : Int := if w = 5 then (if gCnt σ.2.2.1.2.2 σ.2.2.1.1 (-1) < 1 then 0 else gMd σ.2.2.1.2.2 σ.2.2.1.1 (-1) - pPit (gP σ p)) else if w = 0 then pPit (gP σ p) else if w = 1 then pR (gP σ p) else if w = 2 then pS (gP σ p) else if w = 3 then pW (gP σ p) else pT (gP σ p)
def sOfPip (σ : ST) (p w : Int) : Int × ST := if inP σ p then (if 0 ≤ w ∧ w ≤ 5 then (vOfPip σ p w, σ) else (eA, σ)) else (eI, σ)
def sSpread (σ : ST) : Int × ST := (gSp σ.2.2.1.2.2 σ.2.2.1.1 (-1), σ)
def sOdd (σ : ST) : Int × ST := (if gCnt σ.2.2.1.2.2 σ.2.2.1.1 (-1) < 2 then -1 else (oddK σ.2.2.1.2.2 σ.2.2.1.1 σ.2.2.1.1).1, σ)
/-- how far two pitches are apart -/
def sApart (σ : ST) (p q : Int) : Int × ST := if inP σ p ∧ inP σ q then (isAbs (pPit (gP σ p) - pPit (gP σ q)), σ) else (eI, σ)
/-- whether the beats are below 0: never -/
def sBelow (σ : ST) (p q : Int) : Int × ST := if inP σ p ∧ inP σ q then (0, σ) else (eI, σ)
def sAhead (σ : ST) (m r h : Int) : Int × ST := @ite _ (isMin m r h) (isMinD m r h) (gSp (advA σ.2.2.1.2.2 m.toNat r h) σ.2.2.1.1 (-1), σ) (eA, σ)
def sBand (σ : ST) (z : Int) : Int × ST :=
  if 1 ≤ z ∧ z ≤ 5 then (if σ.2.2.2.1.1 < 8 then ((σ.2.2.2.1.1 : Int), (σ.1, σ.2.1, σ.2.2.1, (σ.2.2.2.1.1 + 1, σ.2.2.2.1.2.1 + 1, tset σ.2.2.2.1.2.2.1 σ.2.2.2.1.1 (ba0 z), σ.2.2.2.1.2.2.2), σ.2.2.2.2)) else (eS, σ)) else (eA, σ)
abbrev nB (σ : ST) : Nat := σ.2.2.2.1.1
abbrev fB (σ : ST) : Nat → BaS := σ.2.2.2.1.2.2.1
abbrev opB (σ : ST) : Int := σ.2.2.2.1.2.2.2.1
abbrev miB (σ : ST) : Int := σ.2.2.2.1.2.2.2.2
def sContest (σ : ST) (g : Int) : Int × ST :=
  if 1 ≤ g ∧ g ≤ 5 then (if opB σ = 1 ∨ cOg (fB σ) g (nB σ) < 2 then (eS, σ) else (cOg (fB σ) g (nB σ), wB σ (ctK (fB σ) g (nB σ)) 1 (cOg (fB σ) g (nB σ) * 4))) else (eA, σ)
abbrev okMark (σ : ST) (j b : Int) : Prop := opB σ = 1 ∧ bTp (gB σ b) = 1 ∧ bM (gB σ b) j = -1
def bMk (b : BaS) (j m : Int) : BaS := (bGr b, bNg b, bPo b, bRk b, bSu b, bFi b, bTp b, gupd (bM b) j m, bP b)
def sMark (σ : ST) (j b m : Int) : Int × ST :=
  if (0 ≤ j ∧ j ≤ 3) ∧ inB σ b then (if 0 ≤ m ∧ m ≤ 100 then (if okMark σ j b then (miB σ - 1, wB σ (tset (fB σ) b.toNat (bMk (gB σ b) j m)) (opB σ) (miB σ - 1)) else (eS, σ)) else (eA, σ)) else (eI, σ)
/-- the class's ranks, as they may be counted out -/
def isBfD (s s2 : Int) (f f2 : Int → Int) (n n2 : Int) : Decidable (isBf s s2 f f2 n n2) := inferInstanceAs (Decidable (s < s2 ∨ (s = s2 ∧ (f 3 < f2 3 ∨ (f 3 = f2 3 ∧ (f 0 + f 1 < f2 0 + f2 1 ∨ (f 0 + f 1 = f2 0 + f2 1 ∧ n < n2)))))))
def yA1 (bf : Nat → BaS) (i k : Nat) : Int := @ite _ (bTp (bf k) = 1 ∧ isBf (bSu (bf k)) (bSu (bf i)) (bP (bf k)) (bP (bf i)) k i) (@instDecidableAnd _ _ _ (isBfD _ _ _ _ _ _)) 1 0
def yAh (bf : Nat → BaS) (i : Nat) : Nat → Int
  | 0 => 0
  | k + 1 => yAh bf i k + yA1 bf i k
def yrkK (bf : Nat → BaS) (n : Nat) : Nat → Nat → BaS
  | 0 => bf
  | k + 1 => if bTp (bf k) = 1 then tset (yrkK bf n k) k (bRank (bf k) (1 + yAh bf k n)) else yrkK bf n k
def yrk1 (bf : Nat → BaS) (n : Nat) : Nat → Int
  | 0 => -1
  | k + 1 => if bTp (bf k) = 1 ∧ 1 + yAh bf k n = 1 then (k : Int) else yrk1 bf n k
theorem yA1_is (bf : Nat → BaS) (i k : Nat) : yA1 bf i k = xA1 bf i k := by
  unfold yA1 xA1
  by_cases c : (bTp (bf k) = 1 ∧ isBf (bSu (bf k)) (bSu (bf i)) (bP (bf k)) (bP (bf i)) k i)
  · rw [if_pos c, if_pos c]
  · rw [if_neg c, if_neg c]
theorem yAh_is (bf : Nat → BaS) (i : Nat) : ∀ k : Nat, yAh bf i k = xAh bf i k
  | 0 => rfl
  | k + 1 => by
    show yAh bf i k + yA1 bf i k = xAh bf i k + xA1 bf i k
    rw [yAh_is bf i k, yA1_is]
theorem yrkK_is (bf : Nat → BaS) (n : Nat) : ∀ k : Nat, yrkK bf n k = rkK bf n k
  | 0 => rfl
  | k + 1 => by
    show (if bTp (bf k) = 1 then tset (yrkK bf n k) k (bRank (bf k) (1 + yAh bf k n)) else yrkK bf n k) = if bTp (bf k) = 1 then tset (rkK bf n k) k (bRank (bf k) (1 + xAh bf k n)) else rkK bf n k
    rw [yrkK_is bf n k, yAh_is]
theorem yrk1_is (bf : Nat → BaS) (n : Nat) : ∀ k : Nat, yrk1 bf n k = rk1 bf n k
  | 0 => rfl
  | k + 1 => by
    show (if bTp (bf k) = 1 ∧ 1 + yAh bf k n = 1 then (k : Int) else yrk1 bf n k) = if bTp (bf k) = 1 ∧ 1 + xAh bf k n = 1 then (k : Int) else rk1 bf n k
    rw [yrk1_is bf n k, yAh_is]
def wC (σ : ST) : ST := (σ.1, σ.2.1, σ.2.2.1, σ.2.2.2.1, σ.2.2.2.2 + 1)
def sClose (σ : ST) : Int × ST :=
  if opB σ = 1 ∧ miB σ ≤ 0 then (yrk1 (clK (fB σ) (nB σ) (nB σ)) (nB σ) (nB σ), wC (wB σ (yrkK (clK (fB σ) (nB σ) (nB σ)) (nB σ) (nB σ)) 0 (miB σ))) else (eS, σ)
def sSeason (σ : ST) : Int × ST :=
  if opB σ = 0 then (mvK (seaK (fB σ) (nB σ) 4) (nB σ), wB σ (begK (seaK (fB σ) (nB σ) 4) (nB σ)) (opB σ) (miB σ)) else (eS, σ)
def vOfBand (b : BaS) (w : Int) : Int := if w = 0 then bGr b else if w = 1 then bPo b else if w = 2 then bRk b else if w = 3 then bSu b else bFi b
def sOfBand (σ : ST) (b w : Int) : Int × ST := if inB σ b then (if 0 ≤ w ∧ w ≤ 4 then (vOfBand (gB σ b) w, σ) else (eA, σ)) else (eI, σ)
/-- a call by its number (22 spread, 23 odd, 24 time, 25 how far apart) -/
def stp (σ : ST) (w : Nat) (a b c d : Int) : Int × ST := match w with
  | 0 => sTune σ a
  | 1 => sNote σ a b c d
  | 2 => sPart σ a (if b = 1 then 1 else 0)
  | 3 => sPlayed σ a b c
  | 4 => sOfTune σ a b
  | 5 => sAlike σ a b
  | 6 => sAlike σ a b
  | 7 => sFollow σ a b
  | 8 => sDrop σ
  | 9 => sPiper σ a b c
  | 10 => sSeat σ a b
  | 11 => sRest σ a (if b = 1 then 1 else 0)
  | 12 => sPlay σ a b c
  | 13 => sOfPip σ a b
  | 14 => sBelow σ a b
  | 15 => sAhead σ a b c
  | 16 => sBand σ a
  | 17 => sContest σ a
  | 18 => sMark σ a b c
  | 19 => sClose σ
  | 20 => sSeason σ
  | 21 => sOfBand σ a b
  | 22 => sSpread σ
  | 23 => sOdd σ
  | 24 => sTime σ
  | 25 => sApart σ a b
  | 26 => (((σ.1.1 : Nat) : Int), σ)
  | 27 => (((σ.2.2.1.1 : Nat) : Int), σ)
  | _ => (((σ.2.2.2.1.1 : Nat) : Int), σ)
/-- calls and what they answer, one behind the other -/
abbrev CA : Type := Nat × Int × Int × Int × Int × Int
def chk (σ : ST) : List CA → Bool
  | [] => true
  | x :: r => match stp σ x.1 x.2.1 x.2.2.1 x.2.2.2.1 x.2.2.2.2.1 with
    | (v, σ2) => if v = x.2.2.2.2.2 ∧ σ2.2.2.2.2 ≤ 100 then chk σ2 r else false
def σ0 : ST := (xQ0, xS0, (xP0.1, xP0.2.1, xP0.2.2.1), xB0, 0)
theorem chk_c {σ : ST} {w : Nat} {a b c d r : Int} {rest : List CA} (h : chk σ ((w, a, b, c, d, r) :: rest) = true) : ∃ σ2 : ST, stp σ w a b c d = (r, σ2) ∧ σ2.2.2.2.2 ≤ 100 ∧ chk σ2 rest = true := by
  unfold chk at h
  cases e : stp σ w a b c d with
  | mk v σ2 =>
    dsimp only at h
    rw [e] at h
    dsimp only at h
    by_cases c : v = r ∧ σ2.2.2.2.2 ≤ 100
    · rw [if_pos c] at h
      exact ⟨σ2, by rw [c.1], c.2, h⟩
    · rw [if_neg c] at h
      cases h
theorem chk_n {σ : ST} {t p b : Int} {rest : List CA} (h : chk σ ((26, 0, 0, 0, 0, t) :: (27, 0, 0, 0, 0, p) :: (28, 0, 0, 0, 0, b) :: rest) = true) : (t = ((σ.1.1 : Nat) : Int) ∧ p = ((σ.2.2.1.1 : Nat) : Int) ∧ b = ((σ.2.2.2.1.1 : Nat) : Int)) ∧ σ.2.2.2.2 ≤ 100 ∧ chk σ rest = true := by
  obtain ⟨σ1, e1, b1, h1⟩ := chk_c h
  obtain ⟨σ2, e2, b2, h2⟩ := chk_c h1
  obtain ⟨σ3, e3, b3, h3⟩ := chk_c h2
  have f1 : σ = σ1 := congrArg Prod.snd e1
  have f2 : σ1 = σ2 := congrArg Prod.snd e2
  have f3 : σ2 = σ3 := congrArg Prod.snd e3
  have g1 : ((σ.1.1 : Nat) : Int) = t := congrArg Prod.fst e1
  have g2 : ((σ1.2.2.1.1 : Nat) : Int) = p := congrArg Prod.fst e2
  have g3 : ((σ2.2.2.2.1.1 : Nat) : Int) = b := congrArg Prod.fst e3
  subst f1 f2 f3
  exact ⟨⟨g1.symm, g2.symm, g3.symm⟩, b1, h3⟩
