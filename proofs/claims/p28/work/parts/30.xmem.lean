/-! the class's memory -/
abbrev TuS : Type := Int × Nat × Nat × Int × Nat × Nat × (Int → Int) × (Int → Int) × (Int → Int) × (Int → Int) × (Int → Int)
abbrev PiS : Type := Int × Int × Int × Int × Int × Int × Int
abbrev BaS : Type := Int × Int × Int × Int × Int × Int × Int × (Int → Int) × (Int → Int)
/-- tunes: how many, the list's count of changes, each -/
abbrev XTs : Type := Nat × Int × (Nat → TuS)
/-- the set: whether it has a row, how many, count of changes, numbers of tunes, tempi -/
abbrev XSs : Type := Bool × Nat × Int × (Nat → Nat) × (Int → Int)
/-- pipers: how many, count of changes, each, the trial one, the row of pitches -/
abbrev XPs : Type := Nat × Int × (Nat → PiS) × PiS × Nat × (Int → Int)
/-- bands: how many, count of changes, each, whether a contest is open, missing marks -/
abbrev XBs : Type := Nat × Int × (Nat → BaS) × Int × Int
abbrev XK : Type := Nat × Nat
def tset {α : Type} (f : Nat → α) (i : Nat) (x : α) : Nat → α := fun j => if j = i then x else f j
theorem tset_eq {α : Type} {f : Nat → α} {i : Nat} {x : α} : tset f i x i = x := if_pos rfl
theorem tset_ne {α : Type} {f : Nat → α} {i j : Nat} {x : α} (c : j ≠ i) : tset f i x j = f j := if_neg c
theorem tset_2 {α : Type} {f : Nat → α} {i : Nat} {x y : α} : tset (tset f i x) i y = tset f i y := by
  funext j
  by_cases c : j = i
  · rw [c, tset_eq, tset_eq]
  · rw [tset_ne c, tset_ne c, tset_ne c]
theorem tset_self {α : Type} {f : Nat → α} {i : Nat} : tset f i (f i) = f := by
  funext j
  by_cases c : j = i
  · rw [c, tset_eq]
  · rw [tset_ne c]
def tuC (ad : XK → Nat) (t : TuS) (r i : Nat) : AE :=
  if r = 13 then oTu i t.1 (ad (14, i)) (ad (15, i)) (ad (16, i)) (ad (17, i)) (ad (18, i)) t.2.1 t.2.2.1 t.2.2.2.1 t.2.2.2.2.1 t.2.2.2.2.2.1
  else if r = 14 then aI 64 t.2.2.2.2.2.2.1 else if r = 15 then aI 64 t.2.2.2.2.2.2.2.1 else if r = 16 then aI 64 t.2.2.2.2.2.2.2.2.1 else if r = 17 then aI 64 t.2.2.2.2.2.2.2.2.2.1 else aI 128 t.2.2.2.2.2.2.2.2.2.2
def piC (p : PiS) : AE := oPi p.1 p.2.1 p.2.2.1 p.2.2.2.1 p.2.2.2.2.1 p.2.2.2.2.2.1 p.2.2.2.2.2.2
def baC (ad : XK → Nat) (b : BaS) (r i : Nat) : AE :=
  if r = 20 then oBa i (ad (21, i)) (ad (22, i)) b.1 b.2.1 b.2.2.1 b.2.2.2.1 b.2.2.2.2.1 b.2.2.2.2.2.1 b.2.2.2.2.2.2.1
  else if r = 21 then aI 4 b.2.2.2.2.2.2.2.1 else aI 4 b.2.2.2.2.2.2.2.2
/-- a list's row: the first n are the addresses that g names -/
def rwC (n : Nat) (g : Nat → Nat) : AE := aR 10 (fun z => if 0 ≤ z ∧ z < n then some (g z.toNat) else none)
def lsC (E : Nat) (ad : XK → Nat) (al : Bool) (r : Nat) (mc : Int) (n : Nat) : AE := oAL mc (if al then ad (r, 0) else E) n
def has (n : Nat) : Bool := Nat.blt 0 n
/-- the class's cells of which there is one -/
def XM0 (E : Nat) (ad : XK → Nat) (T : XTs) (S : XSs) (P : XPs) (B : XBs) (r : Nat) : Option AE :=
  match r with
  | 0 => some (oO 5 [.ref (ad (1, 0)), .ref (ad (2, 0)), .ref (ad (3, 0)), .ref (ad (4, 0)), .ref (ad (5, 0)), .ref (ad (6, 0)), .ref (ad (7, 0)), iv B.2.2.2.1, iv B.2.2.2.2])
  | 1 => some (lsC E ad (has T.1) 9 T.2.1 T.1)
  | 2 => some (lsC E ad S.1 10 S.2.2.1 S.2.1)
  | 3 => some (aI 8 S.2.2.2.2)
  | 4 => some (lsC E ad (has P.1) 11 P.2.1 P.1)
  | 5 => some (piC P.2.2.2.1)
  | 6 => some (oPt (ad (8, 0)) P.2.2.2.2.1)
  | 7 => some (lsC E ad (has B.1) 12 B.2.1 B.1)
  | 8 => some (aI 8 P.2.2.2.2.2)
  | 9 => if has T.1 then some (rwC T.1 (fun i => ad (13, i))) else none
  | 10 => if S.1 then some (rwC S.2.1 (fun i => ad (13, S.2.2.2.1 i))) else none
  | 11 => if has P.1 then some (rwC P.1 (fun i => ad (19, i))) else none
  | 12 => if has B.1 then some (rwC B.1 (fun i => ad (20, i))) else none
  | _ => none
def XM (E : Nat) (ad : XK → Nat) (T : XTs) (S : XSs) (P : XPs) (B : XBs) (k : XK) : Option AE :=
  if k.1 < 13 then (if k.2 = 0 then XM0 E ad T S P B k.1 else none)
  else if k.1 < 19 then (if k.2 < T.1 then some (tuC ad (T.2.2 k.2) k.1 k.2) else none)
  else if k.1 = 19 then (if k.2 < P.1 then some (piC (P.2.2.1 k.2)) else none)
  else if k.1 < 23 then (if k.2 < B.1 then some (baC ad (B.2.2.1 k.2) k.1 k.2) else none) else none
noncomputable def HX (E : Nat) (ad : XK → Nat) (T : XTs) (S : XSs) (P : XPs) (B : XBs) : Hp := emb ad (XM E ad T S P B)
def IX (E : Nat) (ad : XK → Nat) (T : XTs) (S : XSs) (P : XPs) (B : XBs) : Prop := embI ad (XM E ad T S P B)
section XX
variable {E : Nat} {ad : XK → Nat} {T : XTs} {S : XSs} {P : XPs} {B : XBs}
theorem hx_0 (I : IX E ad T S P B) : HX E ad T S P B (ad (0, 0)) = some (oO 5 [.ref (ad (1, 0)), .ref (ad (2, 0)), .ref (ad (3, 0)), .ref (ad (4, 0)), .ref (ad (5, 0)), .ref (ad (6, 0)), .ref (ad (7, 0)), iv B.2.2.2.1, iv B.2.2.2.2]) := emb_at (k := (0, 0)) I rfl
theorem hx_1 (I : IX E ad T S P B) : HX E ad T S P B (ad (1, 0)) = some (lsC E ad (has T.1) 9 T.2.1 T.1) := emb_at (k := (1, 0)) I rfl
theorem hx_2 (I : IX E ad T S P B) : HX E ad T S P B (ad (2, 0)) = some (lsC E ad S.1 10 S.2.2.1 S.2.1) := emb_at (k := (2, 0)) I rfl
theorem hx_3 (I : IX E ad T S P B) : HX E ad T S P B (ad (3, 0)) = some (aI 8 S.2.2.2.2) := emb_at (k := (3, 0)) I rfl
theorem hx_4 (I : IX E ad T S P B) : HX E ad T S P B (ad (4, 0)) = some (lsC E ad (has P.1) 11 P.2.1 P.1) := emb_at (k := (4, 0)) I rfl
theorem hx_5 (I : IX E ad T S P B) : HX E ad T S P B (ad (5, 0)) = some (piC P.2.2.2.1) := emb_at (k := (5, 0)) I rfl
theorem hx_6 (I : IX E ad T S P B) : HX E ad T S P B (ad (6, 0)) = some (oPt (ad (8, 0)) P.2.2.2.2.1) := emb_at (k := (6, 0)) I rfl
theorem hx_7 (I : IX E ad T S P B) : HX E ad T S P B (ad (7, 0)) = some (lsC E ad (has B.1) 12 B.2.1 B.1) := emb_at (k := (7, 0)) I rfl
theorem hx_8 (I : IX E ad T S P B) : HX E ad T S P B (ad (8, 0)) = some (aI 8 P.2.2.2.2.2) := emb_at (k := (8, 0)) I rfl
theorem hx_9 (I : IX E ad T S P B) (h : has T.1 = true) : HX E ad T S P B (ad (9, 0)) = some (rwC T.1 (fun i => ad (13, i))) := emb_at (k := (9, 0)) I (if_pos h)
theorem hx_10 (I : IX E ad T S P B) (h : S.1 = true) : HX E ad T S P B (ad (10, 0)) = some (rwC S.2.1 (fun i => ad (13, S.2.2.2.1 i))) := emb_at (k := (10, 0)) I (if_pos h)
theorem hx_11 (I : IX E ad T S P B) (h : has P.1 = true) : HX E ad T S P B (ad (11, 0)) = some (rwC P.1 (fun i => ad (19, i))) := emb_at (k := (11, 0)) I (if_pos h)
theorem hx_12 (I : IX E ad T S P B) (h : has B.1 = true) : HX E ad T S P B (ad (12, 0)) = some (rwC B.1 (fun i => ad (20, i))) := emb_at (k := (12, 0)) I (if_pos h)
theorem XM_tu {i r : Nat} (hr : 13 ≤ r ∧ r < 19) (hi : i < T.1) : XM E ad T S P B (r, i) = some (tuC ad (T.2.2 i) r i) := by
  unfold XM
  rw [if_neg (show ¬ r < 13 by omega), if_pos (show r < 19 from hr.2), if_pos hi]
theorem XM_pi {i : Nat} (hi : i < P.1) : XM E ad T S P B (19, i) = some (piC (P.2.2.1 i)) := if_pos hi
theorem XM_ba {i r : Nat} (hr : 20 ≤ r ∧ r < 23) (hi : i < B.1) : XM E ad T S P B (r, i) = some (baC ad (B.2.2.1 i) r i) := by
  unfold XM
  rw [if_neg (show ¬ r < 13 by omega), if_neg (show ¬ r < 19 by omega), if_neg (show ¬ r = 19 by omega), if_pos (show r < 23 from hr.2), if_pos hi]
theorem hx_tu (I : IX E ad T S P B) {i r : Nat} (hr : 13 ≤ r ∧ r < 19) (hi : i < T.1) : HX E ad T S P B (ad (r, i)) = some (tuC ad (T.2.2 i) r i) := emb_at I (XM_tu hr hi)
theorem hx_pi (I : IX E ad T S P B) {i : Nat} (hi : i < P.1) : HX E ad T S P B (ad (19, i)) = some (piC (P.2.2.1 i)) := emb_at I (XM_pi hi)
theorem hx_ba (I : IX E ad T S P B) {i r : Nat} (hr : 20 ≤ r ∧ r < 23) (hi : i < B.1) : HX E ad T S P B (ad (r, i)) = some (baC ad (B.2.2.1 i) r i) := emb_at I (XM_ba hr hi)
/-- two memories over the same keys -/
theorem IX_of {T2 : XTs} {S2 : XSs} {P2 : XPs} {B2 : XBs} (I : IX E ad T S P B) (h : ∀ k, XM E ad T2 S2 P2 B2 k ≠ none → XM E ad T S P B k ≠ none) : IX E ad T2 S2 P2 B2 := fun a b ha hb => I a b (h a ha) (h b hb)
theorem hx_tuS (I : IX E ad T S P B) {i r : Nat} {t : TuS} (hr : 13 ≤ r ∧ r < 19) (hi : i < T.1) (hs : ∀ r2, r2 ≠ r → 13 ≤ r2 → r2 < 19 → tuC ad t r2 i = tuC ad (T.2.2 i) r2 i) :
    hset (HX E ad T S P B) (ad (r, i)) (tuC ad t r i) = HX E ad (T.1, T.2.1, tset T.2.2 i t) S P B := by
  refine emb_set I (by rw [XM_tu hr hi]; intro z; cases z) ?_ ?_
  · rw [XM_tu (T := (T.1, T.2.1, tset T.2.2 i t)) hr hi]
    show some (tuC ad (tset T.2.2 i t i) r i) = _
    rw [tset_eq]
  · rintro ⟨r2, j⟩ hne
    show (if r2 < 13 then (if j = 0 then XM0 E ad (T.1, T.2.1, tset T.2.2 i t) S P B r2 else none) else if r2 < 19 then (if j < T.1 then some (tuC ad (tset T.2.2 i t j) r2 j) else none) else _) = if r2 < 13 then (if j = 0 then XM0 E ad T S P B r2 else none) else if r2 < 19 then (if j < T.1 then some (tuC ad (T.2.2 j) r2 j) else none) else _
    by_cases c1 : r2 < 13
    · rw [if_pos c1, if_pos c1]
      rfl
    · rw [if_neg c1, if_neg c1]
      by_cases c2 : r2 < 19
      · rw [if_pos c2, if_pos c2]
        by_cases c3 : j = i
        · rw [c3, tset_eq, hs r2 (fun z => hne (by rw [z, c3])) (by omega) c2]
        · rw [tset_ne c3]
      · rw [if_neg c2, if_neg c2]
theorem IX_tuS (I : IX E ad T S P B) {i : Nat} {t : TuS} : IX E ad (T.1, T.2.1, tset T.2.2 i t) S P B := by
  refine IX_of I ?_
  rintro ⟨r2, j⟩
  show (if r2 < 13 then (if j = 0 then XM0 E ad (T.1, T.2.1, tset T.2.2 i t) S P B r2 else none) else if r2 < 19 then (if j < T.1 then some (tuC ad (tset T.2.2 i t j) r2 j) else none) else _) ≠ none → (if r2 < 13 then (if j = 0 then XM0 E ad T S P B r2 else none) else if r2 < 19 then (if j < T.1 then some (tuC ad (T.2.2 j) r2 j) else none) else _) ≠ none
  by_cases c1 : r2 < 13
  · rw [if_pos c1, if_pos c1]
    exact fun z => z
  · rw [if_neg c1, if_neg c1]
    by_cases c2 : r2 < 19
    · rw [if_pos c2, if_pos c2]
      by_cases c3 : j < T.1
      · rw [if_pos c3, if_pos c3]
        exact fun _ z => by cases z
      · rw [if_neg c3, if_neg c3]
        exact fun z => z
    · rw [if_neg c2, if_neg c2]
      exact fun z => z
theorem hx_piS (I : IX E ad T S P B) {i : Nat} {p : PiS} (hi : i < P.1) : hset (HX E ad T S P B) (ad (19, i)) (piC p) = HX E ad T S (P.1, P.2.1, tset P.2.2.1 i p, P.2.2.2) B := by
  refine emb_set I (by rw [XM_pi hi]; intro z; cases z) ?_ ?_
  · rw [XM_pi (P := (P.1, P.2.1, tset P.2.2.1 i p, P.2.2.2)) hi]
    show some (piC (tset P.2.2.1 i p i)) = _
    rw [tset_eq]
  · rintro ⟨r2, j⟩ hne
    unfold XM
    dsimp only
    by_cases c1 : r2 < 13
    · rw [if_pos c1, if_pos c1]
      rfl
    · rw [if_neg c1, if_neg c1]
      by_cases c2 : r2 < 19
      · rw [if_pos c2, if_pos c2]
      · rw [if_neg c2, if_neg c2]
        by_cases c3 : r2 = 19
        · rw [if_pos c3, if_pos c3, tset_ne (fun z => hne (by rw [c3, z]))]
        · rw [if_neg c3, if_neg c3]
theorem hx_baS (I : IX E ad T S P B) {i r : Nat} {t : BaS} (hr : 20 ≤ r ∧ r < 23) (hi : i < B.1) (hs : ∀ r2, r2 ≠ r → 20 ≤ r2 → r2 < 23 → baC ad t r2 i = baC ad (B.2.2.1 i) r2 i) :
    hset (HX E ad T S P B) (ad (r, i)) (baC ad t r i) = HX E ad T S P (B.1, B.2.1, tset B.2.2.1 i t, B.2.2.2) := by
  refine emb_set I (by rw [XM_ba hr hi]; intro z; cases z) ?_ ?_
  · rw [XM_ba (B := (B.1, B.2.1, tset B.2.2.1 i t, B.2.2.2)) hr hi]
    show some (baC ad (tset B.2.2.1 i t i) r i) = _
    rw [tset_eq]
  · rintro ⟨r2, j⟩ hne
    unfold XM
    dsimp only
    by_cases c1 : r2 < 13
    · rw [if_pos c1, if_pos c1]
      rfl
    · rw [if_neg c1, if_neg c1]
      by_cases c2 : r2 < 19
      · rw [if_pos c2, if_pos c2]
      · rw [if_neg c2, if_neg c2]
        by_cases c3 : r2 = 19
        · rw [if_pos c3, if_pos c3]
        · rw [if_neg c3, if_neg c3]
          by_cases c4 : r2 < 23
          · rw [if_pos c4, if_pos c4]
            by_cases c5 : j = i
            · rw [c5, tset_eq, hs r2 (fun z => hne (by rw [z, c5])) (by omega) c4]
            · rw [tset_ne c5]
          · rw [if_neg c4, if_neg c4]
end XX
