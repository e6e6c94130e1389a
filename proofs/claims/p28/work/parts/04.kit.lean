/-! THE WALK KIT: heaps as partial functions, ints as whole numbers, a judgement G that is closed under one lemma an instruction -/
abbrev AE : Type := (Nat × List Value) ⊕ ((Int × (Int → Int)) ⊕ ((Int × (Int → Int)) ⊕ ((Int × (Int → Option Nat)) ⊕ ((Int × (Int → Int)) ⊕ (Int × (Int → UInt64))))))
abbrev Hp : Type := Nat → Option AE
def oO (ci : Nat) (fs : List Value) : AE := .inl (ci, fs)
def aI (n : Int) (f : Int → Int) : AE := .inr (.inl (n, f))
def aZ (n : Int) (f : Int → Int) : AE := .inr (.inr (.inl (n, f)))
def aR (n : Int) (f : Int → Option Nat) : AE := .inr (.inr (.inr (.inl (n, f))))
def aL (n : Int) (f : Int → Int) : AE := .inr (.inr (.inr (.inr (.inl (n, f)))))
def aD (n : Int) (f : Int → UInt64) : AE := .inr (.inr (.inr (.inr (.inr (n, f)))))
def iv (z : Int) : Value := .int (Int32.ofInt z)
def jv (z : Int) : Value := .long (Int64.ofInt z)
/-- the places that the law's launch fixes: slots and classes, the ids of the array classes int, boolean, Object, long, double, the empty element row, the row of points -/
abbrev GA : Type := va_G × ClassId × ClassId × ClassId × ClassId × ClassId × Nat × Nat
def gk_tys (Γ : GA) : List (ClassId × FieldType) := [(Γ.2.1, .int), (Γ.2.2.2.1, .object "java/lang/Object")]
def gk_E (Γ : GA) (e : AE) : va_E := match e with
  | .inl o => .inr o
  | .inr (.inl (n, f)) => .inl (Γ.2.1, n.toNat, .inl (fun k => Int32.ofInt (f (k : Int))))
  | .inr (.inr (.inl (n, f))) => .inl (Γ.2.2.1, n.toNat, .inl (fun k => Int32.ofInt (f (k : Int))))
  | .inr (.inr (.inr (.inl (n, f)))) => .inl (Γ.2.2.2.1, n.toNat, .inr (.inr (.inr (.inr (fun k => f (k : Int))))))
  | .inr (.inr (.inr (.inr (.inl (n, f))))) => .inl (Γ.2.2.2.2.1, n.toNat, .inr (.inl (fun k => Int64.ofInt (f (k : Int)))))
  | .inr (.inr (.inr (.inr (.inr (n, f))))) => .inl (Γ.2.2.2.2.2.1, n.toNat, .inr (.inr (.inr (.inl (fun k => f (k : Int))))))
def gk_V (Γ : GA) (h : Hp) (H : Heap) : Prop := ∀ (a : Nat) (e : AE), h a = some e → va_at Γ.1 vwCl (a, gk_E Γ e) H
def hset (h : Hp) (a : Nat) (e : AE) : Hp := fun q => if q = a then some e else h q
theorem hset_eq {h : Hp} {a : Nat} {e : AE} : hset h a e a = some e := if_pos rfl
theorem hset_ne {h : Hp} {a b : Nat} {e : AE} (n : b ≠ a) : hset h a e b = h b := if_neg n
theorem hset_set {h : Hp} {a : Nat} {e e2 : AE} : hset (hset h a e) a e2 = hset h a e2 := by
  funext q
  unfold hset
  by_cases c : q = a
  · simp [c]
  · simp [c]
theorem hset_self {h : Hp} {a : Nat} {e : AE} (c : h a = some e) : hset h a e = h := by
  funext q
  unfold hset
  by_cases d : q = a
  · subst d; simp [c]
  · simp [d]
theorem hset_comm {h : Hp} {a b : Nat} {e e2 : AE} (n : a ≠ b) : hset (hset h a e) b e2 = hset (hset h b e2) a e := by
  funext q
  unfold hset
  by_cases c : q = a
  · subst c; simp [n]
  · by_cases d : q = b
    · subst d; simp [c]
    · simp [c, d]
theorem hset_is {h h' : Hp} {a : Nat} {e : AE} (c : h' a = some e) (d : ∀ b, b ≠ a → h' b = h b) : h' = hset h a e := by
  funext q
  by_cases k : q = a
  · subst k; rw [hset_eq]; exact c
  · rw [hset_ne k]; exact d q k
def gupd {α : Type} (f : Int → α) (i : Int) (x : α) : Int → α := fun j => if j = i then x else f j
theorem gupd_eq {α : Type} {f : Int → α} {i : Int} {x : α} : gupd f i x i = x := if_pos rfl
theorem gupd_ne {α : Type} {f : Int → α} {i j : Int} {x : α} (n : j ≠ i) : gupd f i x j = f j := if_neg n
/-- what an array of length n holds outside its places says nothing -/
def gk_nest (w : Cond) : Bool := match w with
  | .fieldLinkNest .. => true
  | .methodLinkNest .. => true
  | .castable .. => true
  | .declares _ => true
  | _ => false
def gk_WS : List Cond := lw_tbl.filter goodWord
def gk_NW : List Cond := lw_tbl.filter gk_nest
theorem gk_ws {w : Cond} (h : w ∈ lw_tbl) (g : goodWord w = true) : w ∈ gk_WS := List.mem_filter.mpr ⟨h, g⟩
theorem gk_nw {w : Cond} (h : w ∈ lw_tbl) (g : gk_nest w = true) : w ∈ gk_NW := List.mem_filter.mpr ⟨h, g⟩
theorem gk_nw_tab {w : Cond} (h : w ∈ gk_NW) : w.onTables = true := by
  have g := (List.mem_filter.mp h).2
  cases w <;> first | rfl | (cases g)
theorem gk_nw_warm {s U : State} (hW : s.WarmedH U.vm) (h : ∀ w ∈ gk_NW, va_Nw w s) : ∀ w ∈ gk_NW, va_Nw w U := by
  intro w hw
  have g := (List.mem_filter.mp hw).2
  have k := h w hw
  cases w <;> first | exact va_Nw.warmF hW k | exact va_Nw.warmM hW k | exact va_Nw.warmC hW k | exact va_Nw.warmD hW k | (cases g)
/-- the texts of the exceptions that the class throws: class, place, text -/
def gk_txt : List (String × Nat × String) := [("Dronegrade", 132, "no such tune"), ("Dronegrade", 115, "what is out of range"), ("Dronegrade", 146, "the set has no tunes"), ("Dronegrade", 229, "no such piper"), ("Dronegrade", 187, "minutes, rain or heat is out of range"), ("Dronegrade", 283, "a contest is open"), ("Dronegrade", 295, "no such band"), ("Dronegrade", 59, "kind is out of range"), ("Dronegrade", 70, "there are 10 tunes"), ("Dronegrade", 86, "height, length or grace is out of range"), ("Dronegrade", 91, "the note cannot be written here"), ("Dronegrade", 101, "the part cannot be ended"), ("Dronegrade", 112, "not so many notes are played"), ("Dronegrade", 138, "tempo is out of range"), ("Dronegrade", 144, "the tune may not follow"), ("Dronegrade", 168, "reed, pressure or breath is out of range"), ("Dronegrade", 170, "there are 8 pipers"), ("Dronegrade", 179, "by, or the seat by it, is out of range"), ("Dronegrade", 234, "grade is out of range"), ("Dronegrade", 236, "there are 8 bands"), ("Dronegrade", 244, "a contest is open, or too few bands have the grade"), ("Dronegrade", 255, "no such judge"), ("Dronegrade", 261, "mark is out of range"), ("Dronegrade", 266, "the mark cannot be handed in"), ("Dronegrade", 271, "no contest is open, or a mark is missing")]
def gk_ncs : List (String × String) := [("java/lang/IllegalArgumentException", "java/lang/IllegalStateException"), ("java/lang/IllegalArgumentException", "java/lang/IndexOutOfBoundsException"), ("java/lang/IllegalStateException", "java/lang/IllegalArgumentException"), ("java/lang/IllegalStateException", "java/lang/IndexOutOfBoundsException"), ("java/lang/IndexOutOfBoundsException", "java/lang/IllegalArgumentException"), ("java/lang/IndexOutOfBoundsException", "java/lang/IllegalStateException")]
def gk_pts : List Int32 := [6, 4, 3, 2, 1, 1]
/-- what lies still: classes and slots, links between nest mates, statics, texts -/
def gk_W (Γ : GA) (A : Nat → Prop) (U : State) (H : Heap) : Prop :=
  va_K Γ.1 vwCl (gk_tys Γ) U ∧ (∀ w ∈ gk_NW, va_Nw w U)
  ∧ vx_Zq Bundle.tN "UNASSIGNED_STACK" Bundle.steD A U H ∧ vx_Zq Bundle.tN "SUPPRESSED_SENTINEL" Bundle.listD A U H
  ∧ va_Z "java/util/ArrayList" "DEFAULTCAPACITY_EMPTY_ELEMENTDATA" "[Ljava/lang/Object;" (.ref Γ.2.2.2.2.2.2.1) A U H ∧ va_T (.object "java/lang/Object") Γ.2.2.2.2.2.2.1 0 (fun _ => .null) A U H
  ∧ va_Z "Dronegrade" "POINTS_BY_RANK" "[I" (.ref Γ.2.2.2.2.2.2.2) A U H ∧ va_T .int Γ.2.2.2.2.2.2.2 6 (fun j => .int (gk_pts.getD j 0)) A U H
  ∧ (∀ q ∈ gk_txt, ∃ a : Nat, vk_R q.1 q.2.1 q.2.2 a U) ∧ (∀ q ∈ gk_ncs, va_Nc q.1 q.2 U) ∧ va_AO "java/lang/Object" U
theorem gk_W.warm {Γ : GA} {A : Nat → Prop} {s U : State} {H : Heap} (hW : s.WarmedH U.vm) (h : gk_W Γ A s H) : gk_W Γ A U H := by
  obtain ⟨h1, h2, h3, h4, h5, h6, h7, h8, h9, h10, h11⟩ := h
  exact ⟨va_K.moved hW.alike h1, gk_nw_warm hW h2, vx_Zq.moved hW.alike h3, vx_Zq.moved hW.alike h4, va_Z.moved hW.alike h5, va_T.moved hW.alike h6, va_Z.moved hW.alike h7, va_T.moved hW.alike h8, fun q hq => (h9 q hq).imp fun a k => vk_R.warm hW k, fun q hq => va_Nc.moved hW.alike (h10 q hq), va_AO.moved hW.alike h11⟩
theorem gk_W.same {Γ : GA} {A : Nat → Prop} {s U : State} {H : Heap} (hv : s.vm = U.vm) (h : gk_W Γ A s H) : gk_W Γ A U H := by
  obtain ⟨h1, h2, h3, h4, h5, h6, h7, h8, h9, h10, h11⟩ := h
  have hal : s.vm.Alike U.vm := by rw [hv]; exact Vm.Alike.refl _
  exact ⟨va_K.moved hal h1, fun w hw => va_Nw.same (gk_nw_tab hw) hv (h2 w hw), vx_Zq.moved hal h3, vx_Zq.moved hal h4, va_Z.moved hal h5, va_T.moved hal h6, va_Z.moved hal h7, va_T.moved hal h8, fun q hq => (h9 q hq).imp fun a k => vk_R.same hv.symm k, fun q hq => va_Nc.moved hal (h10 q hq), va_AO.moved hal h11⟩
theorem gk_W.kept {Γ : GA} {A : Nat → Prop} {U : State} {H H1 : Heap} (hq : ∀ a : Nat, a < H.size → ¬ A a → H1[a]? = H[a]?) (h : gk_W Γ A U H) : gk_W Γ A U H1 := by
  obtain ⟨h1, h2, h3, h4, h5, h6, h7, h8, h9, h10, h11⟩ := h
  exact ⟨h1, h2, vx_Zq.kept h3 hq, vx_Zq.kept h4 hq, va_Z.kept h5 hq, va_T.kept h6 hq, va_Z.kept h7 hq, va_T.kept h8 hq, h9, h10, h11⟩
theorem gk_W.narrow {Γ : GA} {A B : Nat → Prop} {U : State} {H : Heap} (hAB : ∀ q, B q → A q) (h : gk_W Γ A U H) : gk_W Γ B U H := by
  obtain ⟨h1, h2, h3, h4, h5, h6, h7, h8, h9, h10, h11⟩ := h
  exact ⟨h1, h2, vx_Zq.narrow h3 hAB, vx_Zq.narrow h4 hAB, va_Z.narrow h5 hAB, va_T.narrow h6 hAB, va_Z.narrow h7 hAB, va_T.narrow h8 hAB, h9, h10, h11⟩
/-- a method: name, code, words of locals, kind of its answer, frames and words of locals below it, cells and slots that it may make -/
abbrev MD : Type := MethodName × ByteArray × Nat × Option FieldType × Nat × Nat × Nat × Nat
def gk_room (M : MD) : Room := { frames := M.2.2.2.2.1, cells := M.2.2.2.2.2.2.1, slots := M.2.2.2.2.2.2.2, locals := M.2.2.2.2.2.1 }
def gk_A (h : Hp) (sz : Nat) : Nat → Prop := fun q => h q ≠ none ∨ sz ≤ q
def gk_Pc (Γ : GA) (As : List Value) (h : Hp) (sz : Nat) : Array Value → State → Prop := va_Pc As (fun U => U.heap.size = sz ∧ gk_V Γ h U.heap ∧ gk_W Γ (gk_A h sz) U U.heap)
def gk_Qc (Γ : GA) (h : Hp) (sz : Nat) (post : Option Value → Hp → Prop) : Array Value → State → Outcome → State → Prop := fun _ st o t =>
  (∃ (v : Option Value) (h' : Hp), o = .returned v ∧ post v h' ∧ gk_V Γ h' t.heap ∧ ∀ q, h' q ≠ none → gk_A h sz q) ∧ va_F (gk_A h sz) st t
def gk_XC (Γ : GA) (h : Hp) (sz : Nat) (px : String → Hp → Prop) : String → State → State → Prop := fun E st t =>
  (∃ h' : Hp, px E h' ∧ gk_V Γ h' t.heap ∧ ∀ q, h' q ≠ none → gk_A h sz q) ∧ va_F (gk_A h sz) st t
/-- THE CONTRACT: called with these arguments over a heap that holds h, M comes back with an answer and a heap as post says, or throws as px says; nothing else changes -/
def Ct (l : Launch) (Γ : GA) (M : MD) (As : List Value) (h : Hp) (post : Option Value → Hp → Prop) (px : String → Hp → Prop) : Prop :=
  ∀ sz : Nat, vx_Met l M.1 (.code M.1 M.2.1 M.2.2.1 M.2.2.2.1 :: gk_WS) (gk_room M) (gk_Pc Γ As h sz) (gk_Qc Γ h sz post) (gk_XC Γ h sz px) M.2.2.2.2.2.2.1 M.2.2.2.2.2.2.2 (gk_A h sz)
abbrev GP : Type := Nat → List (Option Value) → List Value → Hp → Nat → Nat → Prop
def gk_get : List (Option Value) → Nat → Option Value
  | [], _ => none
  | x :: _, 0 => x
  | _ :: r, i + 1 => gk_get r i
theorem gk_get_is : ∀ (L : List (Option Value)) (i : Nat) (v : Value), gk_get L i = some v → L[i]? = some (some v)
  | [], _, _, h => by cases h
  | x :: _, 0, v, h => by
    have e : x = some v := h
    rw [e]; rfl
  | _ :: r, i + 1, v, h => by
    rw [List.getElem?_cons_succ]
    exact gk_get_is r i v h
def gk_L (ls : Array Slot) (nL : Nat) (L : List (Option Value)) : Prop := ls.size = nL ∧ lv_wf ls ∧ ∀ (i : Nat) (v : Value), L[i]? = some (some v) → ls[i]? = some (.val v)
theorem gk_L.at {ls : Array Slot} {nL : Nat} {L : List (Option Value)} (h : gk_L ls nL L) {i : Nat} {v : Value} (hi : gk_get L i = some v) : ls[i]? = some (.val v) := h.2.2 i v (gk_get_is L i v hi)
def gk_pairs (L : List (Option Value)) : List (Nat × Value) := (List.range L.length).filterMap (fun i => (gk_get L i).map (fun v => (i, v)))
theorem gk_get_of : ∀ (L : List (Option Value)) (i : Nat) (v : Value), L[i]? = some (some v) → gk_get L i = some v
  | [], i, v, h => by simp at h
  | x :: r, 0, v, h => by
    rw [List.getElem?_cons_zero] at h
    exact Option.some.inj h
  | x :: r, i + 1, v, h => by
    rw [List.getElem?_cons_succ] at h
    exact gk_get_of r i v h
theorem gk_pairs_in {L : List (Option Value)} {i : Nat} {v : Value} : (i, v) ∈ gk_pairs L ↔ L[i]? = some (some v) := by
  unfold gk_pairs
  constructor
  · intro h
    obtain ⟨j, -, hj⟩ := List.mem_filterMap.mp h
    cases hg : gk_get L j with
    | none => rw [hg] at hj; cases hj
    | some w =>
      rw [hg] at hj
      cases hj
      exact gk_get_is L _ _ hg
  · intro h
    have hl : i < L.length := (List.getElem?_eq_some_iff.mp h).1
    exact List.mem_filterMap.mpr ⟨i, List.mem_range.mpr hl, by rw [gk_get_of L i v h]; rfl⟩
theorem gk_L.has {ls : Array Slot} {nL : Nat} {L : List (Option Value)} (h : gk_L ls nL L) : lv_has ls nL (gk_pairs L) := ⟨h.1, h.2.1, fun q hq => h.2.2 q.1 q.2 (gk_pairs_in.mp hq)⟩
theorem gk_L.put {ls' : Array Slot} {nL i : Nat} {L : List (Option Value)} {v : Value} (h : lv_has ls' nL ((i, v) :: (gk_pairs L).filter (fun q => !(q.1 == i) && !(q.1 + 1 == i && q.2.category == 2))))
    (hc : ∀ w : Value, ∀ j : Nat, j + 1 = i → L[j]? = some (some w) → w.category = 1) : gk_L ls' nL (L.set i (some v)) := by
  refine ⟨h.1, h.2.1, fun j w hj => ?_⟩
  by_cases e : j = i
  · subst e
    have hl : j < (L.set j (some v)).length := (List.getElem?_eq_some_iff.mp hj).1
    rw [List.length_set] at hl
    rw [List.getElem?_set_self hl] at hj
    have e2 : v = w := Option.some.inj (Option.some.inj hj)
    subst e2
    exact h.2.2 (j, v) List.mem_cons_self
  · rw [List.getElem?_set_ne (Ne.symm e)] at hj
    refine h.2.2 (j, w) (List.mem_cons_of_mem _ (List.mem_filter.mpr ⟨gk_pairs_in.mpr hj, ?_⟩))
    by_cases e2 : j + 1 = i
    · have k := hc w j e2 hj
      simp [e, k]
    · simp [e, e2]
theorem gk_L.put2 {ls' : Array Slot} {nL i : Nat} {L : List (Option Value)} {v : Value} (h : lv_has ls' nL ((i, v) :: (gk_pairs L).filter (fun q => !(q.1 == i) && (!(q.1 == i + 1) && !(q.1 + 1 == i && q.2.category == 2)))))
    (hc : ∀ w : Value, ∀ j : Nat, j + 1 = i → L[j]? = some (some w) → w.category = 1) : gk_L ls' nL ((L.set i (some v)).set (i + 1) none) := by
  refine ⟨h.1, h.2.1, fun j w hj => ?_⟩
  by_cases e1 : j = i + 1
  · subst e1
    have hl : i + 1 < ((L.set i (some v)).set (i + 1) none).length := (List.getElem?_eq_some_iff.mp hj).1
    rw [List.length_set] at hl
    rw [List.getElem?_set_self hl] at hj
    cases hj
  · rw [List.getElem?_set_ne (Ne.symm e1)] at hj
    by_cases e : j = i
    · subst e
      have hl : j < (L.set j (some v)).length := (List.getElem?_eq_some_iff.mp hj).1
      rw [List.length_set] at hl
      rw [List.getElem?_set_self hl] at hj
      have e2 : v = w := Option.some.inj (Option.some.inj hj)
      subst e2
      exact h.2.2 (j, v) List.mem_cons_self
    · rw [List.getElem?_set_ne (Ne.symm e)] at hj
      refine h.2.2 (j, w) (List.mem_cons_of_mem _ (List.mem_filter.mpr ⟨gk_pairs_in.mpr hj, ?_⟩))
      by_cases e2 : j + 1 = i
      · have k := hc w j e2 hj
        simp [e, e1, k]
      · simp [e, e1, e2]
def gk_c1 (x : Option Value) : Bool := match x with
  | none => true
  | some v => v.category == 1
theorem gk_prev {L : List (Option Value)} {i : Nat} {x : Option Value} (hx : L[i]? = some x) (hc : gk_c1 x = true) : ∀ (w : Value) (j : Nat), j + 1 = i + 1 → L[j]? = some (some w) → w.category = 1 := by
  intro w j hj hw
  have e : j = i := by omega
  subst e
  have e2 : x = some w := Option.some.inj (hx.symm.trans hw)
  subst e2
  exact eq_of_beq hc
def gk_Gd (p : Program) (l : Launch) (e : Env) (R : Room) (s : State) (m : MethodId) (args : Array Value) (below : List Frame) (meth : Method) (c : Code) (Γ : GA) (A : Nat → Prop) (nL : Nat) (Q : State → Prop) : GP := fun pc L st h k n =>
  ∀ (H : Heap) (locs : List Loc) (ls : Array Slot), gk_V Γ h H → (∀ q, h q ≠ none → A q) → va_S A s.heap H locs → gk_L ls nL L → W p l e R s m args below meth c H locs k n Q (F0 m pc ls st)
def gk_Gx (p : Program) (l : Launch) (e : Env) (R : Room) (s : State) (m : MethodId) (args : Array Value) (below : List Frame) (meth : Method) (c : Code) (Γ : GA) (A : Nat → Prop) (Q : State → Prop) (X : String → Hp → Nat → Nat → Prop) : Prop :=
  ∀ (E : String) (h : Hp) (k n : Nat), X E h k n → ∀ (pc : Nat) (ls : Array Slot) (st : List Value) (H : Heap) (locs : List Loc) (q : Nat) (ce : Cell), gk_V Γ h H → (∀ q, h q ≠ none → A q) → va_S A s.heap H locs → H[q]? = some ce → ce.vm = .none → s.vm.findClass E = some ce.cls → vx_W p l e R s m args below meth c H locs k n Q (F0 m pc ls st) q
/-- the frame of a walk: G is the judgement of a body of M; X says which throws it may pass on -/
def Cx (l : Launch) (Γ : GA) (M : MD) (G : GP) (X : String → Hp → Nat → Nat → Prop) : Prop :=
  ∃ (p : Program) (e : Env) (s : State) (m : MethodId) (args : Array Value) (below : List Frame) (meth : Method) (c : Code) (A : Nat → Prop) (Q : State → Prop),
    (p.tables.exec = Jvm.exec ∧ c.code = M.2.1 ∧ c.maxLocals = M.2.2.1 ∧ s.vm.findClass M.1.cls = some m.cls ∧ (∀ w ∈ gk_WS, w.before args s = true) ∧ meth.name = M.1.name ∧ meth.locks = false ∧ gk_W Γ A s s.heap ∧ (∀ q, s.heap.size ≤ q → A q))
    ∧ gk_Gx p l e (gk_room M) s m args below meth c Γ A Q X
    ∧ G = gk_Gd p l e (gk_room M) s m args below meth c Γ A M.2.2.1 Q
theorem gk_add (a b : Int) : Int32.ofInt (a + b) = Int32.ofInt a + Int32.ofInt b := Int32.ofInt_add a b
theorem gk_toInt {z : Int} (h : -2147483648 ≤ z ∧ z ≤ 2147483647) : (Int32.ofInt z).toInt = z := Int32.toInt_ofInt_of_le (by omega) (by omega)
theorem gk_lt {a b : Int} (ha : -2147483648 ≤ a ∧ a ≤ 2147483647) (hb : -2147483648 ≤ b ∧ b ≤ 2147483647) : Int32.ofInt a < Int32.ofInt b ↔ a < b := by
  rw [Int32.lt_iff_toInt_lt, gk_toInt ha, gk_toInt hb]
theorem gk_le {a b : Int} (ha : -2147483648 ≤ a ∧ a ≤ 2147483647) (hb : -2147483648 ≤ b ∧ b ≤ 2147483647) : Int32.ofInt a ≤ Int32.ofInt b ↔ a ≤ b := by
  rw [Int32.le_iff_toInt_le, gk_toInt ha, gk_toInt hb]
theorem gk_eq {a b : Int} (ha : -2147483648 ≤ a ∧ a ≤ 2147483647) (hb : -2147483648 ≤ b ∧ b ≤ 2147483647) : Int32.ofInt a = Int32.ofInt b ↔ a = b := by
  rw [← Int32.toInt_inj, gk_toInt ha, gk_toInt hb]
theorem gk_0 : (0 : Int32) = Int32.ofInt 0 := by decide
theorem gk_nat {z : Int} (h : 0 ≤ z ∧ z ≤ 2147483647) : (Int32.ofInt z).toNatClampNeg = z.toNat := Int32.toNatClampNeg_ofInt_of_le (by omega) (by omega)
theorem gk_in {z n : Int} (h : 0 ≤ z) (h2 : z < n) (h3 : n ≤ 2147483647) : vp_in (Int32.ofInt z) n.toNat := by
  rw [vp_in_iff, gk_toInt (by omega)]
  omega
theorem gk_cat {z : Int} : (iv z).category = 1 := rfl
section GK
variable {l : Launch} {Γ : GA} {M : MD} {G : GP} {X : String → Hp → Nat → Nat → Prop} {pc : Nat} {L : List (Option Value)} {st : List Value} {h : Hp} {k n : Nat}

theorem gk_iconst (C : Cx l Γ M G X) {z : Int} (d : decode M.2.1 pc = .ok (.iconst z, 1)) (kk : G (pc + 1) L (iv z :: st) h k n) : G pc L st h k n := by
  obtain ⟨p, e, s, m, args, below, meth, c, A, Q, ⟨hx, hb, hml, hown, hts, hnm, hlk, hW, hA0⟩, hX, rfl⟩ := C
  intro H locs ls hV hA hS hL
  exact lv_iconst hx hb d rfl (kk H locs ls hV hA hS hL)
theorem gk_bipush (C : Cx l Γ M G X) {z : Int} (d : decode M.2.1 pc = .ok (.bipush z, 2)) (hz : (Int8.ofInt z).toInt32 = Int32.ofInt z) (kk : G (pc + 2) L (iv z :: st) h k n) : G pc L st h k n := by
  obtain ⟨p, e, s, m, args, below, meth, c, A, Q, ⟨hx, hb, hml, hown, hts, hnm, hlk, hW, hA0⟩, hX, rfl⟩ := C
  intro H locs ls hV hA hS hL
  exact lv_bipush hx hb d hz (kk H locs ls hV hA hS hL)
theorem gk_sipush (C : Cx l Γ M G X) {z : Int} (d : decode M.2.1 pc = .ok (.sipush z, 3)) (hz : (Int16.ofInt z).toInt32 = Int32.ofInt z) (kk : G (pc + 3) L (iv z :: st) h k n) : G pc L st h k n := by
  obtain ⟨p, e, s, m, args, below, meth, c, A, Q, ⟨hx, hb, hml, hown, hts, hnm, hlk, hW, hA0⟩, hX, rfl⟩ := C
  intro H locs ls hV hA hS hL
  exact lv_sipush hx hb d hz (kk H locs ls hV hA hS hL)
theorem gk_lconst (C : Cx l Γ M G X) {z : Int} {j : Fin 2} (d : decode M.2.1 pc = .ok (.lconst j, 1)) (hz : Int64.ofNat (j : Nat) = Int64.ofInt z) (kk : G (pc + 1) L (jv z :: st) h k n) : G pc L st h k n := by
  obtain ⟨p, e, s, m, args, below, meth, c, A, Q, ⟨hx, hb, hml, hown, hts, hnm, hlk, hW, hA0⟩, hX, rfl⟩ := C
  intro H locs ls hV hA hS hL
  exact lv_lconst hx hb d hz (kk H locs ls hV hA hS hL)
theorem gk_iload (C : Cx l Γ M G X) {i : Nat} {z : Int} (d : decode M.2.1 pc = .ok (.iload i, 2)) (hl : gk_get L i = some (iv z)) (kk : G (pc + 2) L (iv z :: st) h k n) : G pc L st h k n := by
  obtain ⟨p, e, s, m, args, below, meth, c, A, Q, ⟨hx, hb, hml, hown, hts, hnm, hlk, hW, hA0⟩, hX, rfl⟩ := C
  intro H locs ls hV hA hS hL
  exact lv_iload hx hb d (hL.at hl) (kk H locs ls hV hA hS hL)
theorem gk_iload_n (C : Cx l Γ M G X) {i : Fin 4} {z : Int} (d : decode M.2.1 pc = .ok (.iload_n i, 1)) (hl : gk_get L (i : Nat) = some (iv z)) (kk : G (pc + 1) L (iv z :: st) h k n) : G pc L st h k n := by
  obtain ⟨p, e, s, m, args, below, meth, c, A, Q, ⟨hx, hb, hml, hown, hts, hnm, hlk, hW, hA0⟩, hX, rfl⟩ := C
  intro H locs ls hV hA hS hL
  exact lv_iload_n hx hb d rfl (hL.at hl) (kk H locs ls hV hA hS hL)
theorem gk_aload (C : Cx l Γ M G X) {i : Nat} {z : Nat} (d : decode M.2.1 pc = .ok (.aload i, 2)) (hl : gk_get L i = some (.ref z)) (kk : G (pc + 2) L (.ref z :: st) h k n) : G pc L st h k n := by
  obtain ⟨p, e, s, m, args, below, meth, c, A, Q, ⟨hx, hb, hml, hown, hts, hnm, hlk, hW, hA0⟩, hX, rfl⟩ := C
  intro H locs ls hV hA hS hL
  exact lv_aload hx hb d (hL.at hl) (kk H locs ls hV hA hS hL)
theorem gk_aload_n (C : Cx l Γ M G X) {i : Fin 4} {z : Nat} (d : decode M.2.1 pc = .ok (.aload_n i, 1)) (hl : gk_get L (i : Nat) = some (.ref z)) (kk : G (pc + 1) L (.ref z :: st) h k n) : G pc L st h k n := by
  obtain ⟨p, e, s, m, args, below, meth, c, A, Q, ⟨hx, hb, hml, hown, hts, hnm, hlk, hW, hA0⟩, hX, rfl⟩ := C
  intro H locs ls hV hA hS hL
  exact lv_aload_n hx hb d rfl (hL.at hl) (kk H locs ls hV hA hS hL)
theorem gk_lload_n (C : Cx l Γ M G X) {i : Fin 4} {z : Int} (d : decode M.2.1 pc = .ok (.lload_n i, 1)) (hl : gk_get L (i : Nat) = some (jv z)) (kk : G (pc + 1) L (jv z :: st) h k n) : G pc L st h k n := by
  obtain ⟨p, e, s, m, args, below, meth, c, A, Q, ⟨hx, hb, hml, hown, hts, hnm, hlk, hW, hA0⟩, hX, rfl⟩ := C
  intro H locs ls hV hA hS hL
  exact lv_lload_n hx hb d rfl (hL.at hl) (kk H locs ls hV hA hS hL)
theorem gk_fload (C : Cx l Γ M G X) {i : Nat} {z : UInt32} (d : decode M.2.1 pc = .ok (.fload i, 2)) (hl : gk_get L i = some (.float z)) (kk : G (pc + 2) L (.float z :: st) h k n) : G pc L st h k n := by
  obtain ⟨p, e, s, m, args, below, meth, c, A, Q, ⟨hx, hb, hml, hown, hts, hnm, hlk, hW, hA0⟩, hX, rfl⟩ := C
  intro H locs ls hV hA hS hL
  exact lv_fload hx hb d (hL.at hl) (kk H locs ls hV hA hS hL)
theorem gk_istore_0 (C : Cx l Γ M G X) {x : Option Value} {r : List (Option Value)} {z : Int} (hn : 0 < M.2.2.1) (d : decode M.2.1 pc = .ok (.istore 0, 2)) (kk : G (pc + 2) (some (iv z) :: r) st h k n) : G pc (x :: r) (iv z :: st) h k n := by
  obtain ⟨p, e, s, m, args, below, meth, c, A, Q, ⟨hx, hb, hml, hown, hts, hnm, hlk, hW, hA0⟩, hX, rfl⟩ := C
  intro H locs ls hV hA hS hL
  exact lv_istore hx hb d hL.has hn rfl (fun ls2 h2 => kk H locs ls2 hV hA hS (gk_L.put (L := x :: r) h2 (fun w j hj _ => absurd hj (Nat.succ_ne_zero j))))
theorem gk_istore_n_0 (C : Cx l Γ M G X) {x : Option Value} {r : List (Option Value)} {z : Int} (hn : 0 < M.2.2.1) (d : decode M.2.1 pc = .ok (.istore_n 0, 1)) (kk : G (pc + 1) (some (iv z) :: r) st h k n) : G pc (x :: r) (iv z :: st) h k n := by
  obtain ⟨p, e, s, m, args, below, meth, c, A, Q, ⟨hx, hb, hml, hown, hts, hnm, hlk, hW, hA0⟩, hX, rfl⟩ := C
  intro H locs ls hV hA hS hL
  exact lv_istore_n hx hb d rfl hL.has hn rfl (fun ls2 h2 => kk H locs ls2 hV hA hS (gk_L.put (L := x :: r) h2 (fun w j hj _ => absurd hj (Nat.succ_ne_zero j))))
theorem gk_astore_0 (C : Cx l Γ M G X) {x : Option Value} {r : List (Option Value)} {z : Nat} (hn : 0 < M.2.2.1) (d : decode M.2.1 pc = .ok (.astore 0, 2)) (kk : G (pc + 2) (some (.ref z) :: r) st h k n) : G pc (x :: r) (.ref z :: st) h k n := by
  obtain ⟨p, e, s, m, args, below, meth, c, A, Q, ⟨hx, hb, hml, hown, hts, hnm, hlk, hW, hA0⟩, hX, rfl⟩ := C
  intro H locs ls hV hA hS hL
  exact lv_astore hx hb d hL.has hn rfl (fun ls2 h2 => kk H locs ls2 hV hA hS (gk_L.put (L := x :: r) h2 (fun w j hj _ => absurd hj (Nat.succ_ne_zero j))))
theorem gk_astore_n_0 (C : Cx l Γ M G X) {x : Option Value} {r : List (Option Value)} {z : Nat} (hn : 0 < M.2.2.1) (d : decode M.2.1 pc = .ok (.astore_n 0, 1)) (kk : G (pc + 1) (some (.ref z) :: r) st h k n) : G pc (x :: r) (.ref z :: st) h k n := by
  obtain ⟨p, e, s, m, args, below, meth, c, A, Q, ⟨hx, hb, hml, hown, hts, hnm, hlk, hW, hA0⟩, hX, rfl⟩ := C
  intro H locs ls hV hA hS hL
  exact lv_astore_n hx hb d rfl hL.has hn rfl (fun ls2 h2 => kk H locs ls2 hV hA hS (gk_L.put (L := x :: r) h2 (fun w j hj _ => absurd hj (Nat.succ_ne_zero j))))
theorem gk_iinc_0 (C : Cx l Γ M G X) {r : List (Option Value)} {z y : Int} (hn : 0 < M.2.2.1) (d : decode M.2.1 pc = .ok (.iinc 0 y, 3)) (kk : G (pc + 3) (some (iv (z + y)) :: r) st h k n) : G pc (some (iv z) :: r) st h k n := by
  obtain ⟨p, e, s, m, args, below, meth, c, A, Q, ⟨hx, hb, hml, hown, hts, hnm, hlk, hW, hA0⟩, hX, rfl⟩ := C
  intro H locs ls hV hA hS hL
  have hm : (0, iv z) ∈ gk_pairs (some (iv z) :: r) := gk_pairs_in.mpr rfl
  obtain ⟨j, hj⟩ := List.getElem?_of_mem hm
  exact lv_iinc hx hb d hL.has (k := j) hj (v := Int32.ofInt (z + y)) (gk_add z y).symm hn rfl (fun ls2 h2 => kk H locs ls2 hV hA hS (gk_L.put (L := some (iv z) :: r) h2 (fun w j hj _ => absurd hj (Nat.succ_ne_zero j))))
theorem gk_istore_1 (C : Cx l Γ M G X) {a0 : Option Value} {x : Option Value} {r : List (Option Value)} {z : Int} (hc : gk_c1 a0 = true) (hn : 1 < M.2.2.1) (d : decode M.2.1 pc = .ok (.istore 1, 2)) (kk : G (pc + 2) (a0 :: some (iv z) :: r) st h k n) : G pc (a0 :: x :: r) (iv z :: st) h k n := by
  obtain ⟨p, e, s, m, args, below, meth, c, A, Q, ⟨hx, hb, hml, hown, hts, hnm, hlk, hW, hA0⟩, hX, rfl⟩ := C
  intro H locs ls hV hA hS hL
  exact lv_istore hx hb d hL.has hn rfl (fun ls2 h2 => kk H locs ls2 hV hA hS (gk_L.put (L := a0 :: x :: r) h2 (gk_prev (i := 0) rfl hc)))
theorem gk_istore_n_1 (C : Cx l Γ M G X) {a0 : Option Value} {x : Option Value} {r : List (Option Value)} {z : Int} (hc : gk_c1 a0 = true) (hn : 1 < M.2.2.1) (d : decode M.2.1 pc = .ok (.istore_n 1, 1)) (kk : G (pc + 1) (a0 :: some (iv z) :: r) st h k n) : G pc (a0 :: x :: r) (iv z :: st) h k n := by
  obtain ⟨p, e, s, m, args, below, meth, c, A, Q, ⟨hx, hb, hml, hown, hts, hnm, hlk, hW, hA0⟩, hX, rfl⟩ := C
  intro H locs ls hV hA hS hL
  exact lv_istore_n hx hb d rfl hL.has hn rfl (fun ls2 h2 => kk H locs ls2 hV hA hS (gk_L.put (L := a0 :: x :: r) h2 (gk_prev (i := 0) rfl hc)))
theorem gk_astore_1 (C : Cx l Γ M G X) {a0 : Option Value} {x : Option Value} {r : List (Option Value)} {z : Nat} (hc : gk_c1 a0 = true) (hn : 1 < M.2.2.1) (d : decode M.2.1 pc = .ok (.astore 1, 2)) (kk : G (pc + 2) (a0 :: some (.ref z) :: r) st h k n) : G pc (a0 :: x :: r) (.ref z :: st) h k n := by
  obtain ⟨p, e, s, m, args, below, meth, c, A, Q, ⟨hx, hb, hml, hown, hts, hnm, hlk, hW, hA0⟩, hX, rfl⟩ := C
  intro H locs ls hV hA hS hL
  exact lv_astore hx hb d hL.has hn rfl (fun ls2 h2 => kk H locs ls2 hV hA hS (gk_L.put (L := a0 :: x :: r) h2 (gk_prev (i := 0) rfl hc)))
theorem gk_astore_n_1 (C : Cx l Γ M G X) {a0 : Option Value} {x : Option Value} {r : List (Option Value)} {z : Nat} (hc : gk_c1 a0 = true) (hn : 1 < M.2.2.1) (d : decode M.2.1 pc = .ok (.astore_n 1, 1)) (kk : G (pc + 1) (a0 :: some (.ref z) :: r) st h k n) : G pc (a0 :: x :: r) (.ref z :: st) h k n := by
  obtain ⟨p, e, s, m, args, below, meth, c, A, Q, ⟨hx, hb, hml, hown, hts, hnm, hlk, hW, hA0⟩, hX, rfl⟩ := C
  intro H locs ls hV hA hS hL
  exact lv_astore_n hx hb d rfl hL.has hn rfl (fun ls2 h2 => kk H locs ls2 hV hA hS (gk_L.put (L := a0 :: x :: r) h2 (gk_prev (i := 0) rfl hc)))
theorem gk_iinc_1 (C : Cx l Γ M G X) {a0 : Option Value} {r : List (Option Value)} {z y : Int} (hc : gk_c1 a0 = true) (hn : 1 < M.2.2.1) (d : decode M.2.1 pc = .ok (.iinc 1 y, 3)) (kk : G (pc + 3) (a0 :: some (iv (z + y)) :: r) st h k n) : G pc (a0 :: some (iv z) :: r) st h k n := by
  obtain ⟨p, e, s, m, args, below, meth, c, A, Q, ⟨hx, hb, hml, hown, hts, hnm, hlk, hW, hA0⟩, hX, rfl⟩ := C
  intro H locs ls hV hA hS hL
  have hm : (1, iv z) ∈ gk_pairs (a0 :: some (iv z) :: r) := gk_pairs_in.mpr rfl
  obtain ⟨j, hj⟩ := List.getElem?_of_mem hm
  exact lv_iinc hx hb d hL.has (k := j) hj (v := Int32.ofInt (z + y)) (gk_add z y).symm hn rfl (fun ls2 h2 => kk H locs ls2 hV hA hS (gk_L.put (L := a0 :: some (iv z) :: r) h2 (gk_prev (i := 0) rfl hc)))
theorem gk_istore_2 (C : Cx l Γ M G X) {a0 a1 : Option Value} {x : Option Value} {r : List (Option Value)} {z : Int} (hc : gk_c1 a1 = true) (hn : 2 < M.2.2.1) (d : decode M.2.1 pc = .ok (.istore 2, 2)) (kk : G (pc + 2) (a0 :: a1 :: some (iv z) :: r) st h k n) : G pc (a0 :: a1 :: x :: r) (iv z :: st) h k n := by
  obtain ⟨p, e, s, m, args, below, meth, c, A, Q, ⟨hx, hb, hml, hown, hts, hnm, hlk, hW, hA0⟩, hX, rfl⟩ := C
  intro H locs ls hV hA hS hL
  exact lv_istore hx hb d hL.has hn rfl (fun ls2 h2 => kk H locs ls2 hV hA hS (gk_L.put (L := a0 :: a1 :: x :: r) h2 (gk_prev (i := 1) rfl hc)))
theorem gk_istore_n_2 (C : Cx l Γ M G X) {a0 a1 : Option Value} {x : Option Value} {r : List (Option Value)} {z : Int} (hc : gk_c1 a1 = true) (hn : 2 < M.2.2.1) (d : decode M.2.1 pc = .ok (.istore_n 2, 1)) (kk : G (pc + 1) (a0 :: a1 :: some (iv z) :: r) st h k n) : G pc (a0 :: a1 :: x :: r) (iv z :: st) h k n := by
  obtain ⟨p, e, s, m, args, below, meth, c, A, Q, ⟨hx, hb, hml, hown, hts, hnm, hlk, hW, hA0⟩, hX, rfl⟩ := C
  intro H locs ls hV hA hS hL
  exact lv_istore_n hx hb d rfl hL.has hn rfl (fun ls2 h2 => kk H locs ls2 hV hA hS (gk_L.put (L := a0 :: a1 :: x :: r) h2 (gk_prev (i := 1) rfl hc)))
theorem gk_astore_2 (C : Cx l Γ M G X) {a0 a1 : Option Value} {x : Option Value} {r : List (Option Value)} {z : Nat} (hc : gk_c1 a1 = true) (hn : 2 < M.2.2.1) (d : decode M.2.1 pc = .ok (.astore 2, 2)) (kk : G (pc + 2) (a0 :: a1 :: some (.ref z) :: r) st h k n) : G pc (a0 :: a1 :: x :: r) (.ref z :: st) h k n := by
  obtain ⟨p, e, s, m, args, below, meth, c, A, Q, ⟨hx, hb, hml, hown, hts, hnm, hlk, hW, hA0⟩, hX, rfl⟩ := C
  intro H locs ls hV hA hS hL
  exact lv_astore hx hb d hL.has hn rfl (fun ls2 h2 => kk H locs ls2 hV hA hS (gk_L.put (L := a0 :: a1 :: x :: r) h2 (gk_prev (i := 1) rfl hc)))
theorem gk_astore_n_2 (C : Cx l Γ M G X) {a0 a1 : Option Value} {x : Option Value} {r : List (Option Value)} {z : Nat} (hc : gk_c1 a1 = true) (hn : 2 < M.2.2.1) (d : decode M.2.1 pc = .ok (.astore_n 2, 1)) (kk : G (pc + 1) (a0 :: a1 :: some (.ref z) :: r) st h k n) : G pc (a0 :: a1 :: x :: r) (.ref z :: st) h k n := by
  obtain ⟨p, e, s, m, args, below, meth, c, A, Q, ⟨hx, hb, hml, hown, hts, hnm, hlk, hW, hA0⟩, hX, rfl⟩ := C
  intro H locs ls hV hA hS hL
  exact lv_astore_n hx hb d rfl hL.has hn rfl (fun ls2 h2 => kk H locs ls2 hV hA hS (gk_L.put (L := a0 :: a1 :: x :: r) h2 (gk_prev (i := 1) rfl hc)))
theorem gk_iinc_2 (C : Cx l Γ M G X) {a0 a1 : Option Value} {r : List (Option Value)} {z y : Int} (hc : gk_c1 a1 = true) (hn : 2 < M.2.2.1) (d : decode M.2.1 pc = .ok (.iinc 2 y, 3)) (kk : G (pc + 3) (a0 :: a1 :: some (iv (z + y)) :: r) st h k n) : G pc (a0 :: a1 :: some (iv z) :: r) st h k n := by
  obtain ⟨p, e, s, m, args, below, meth, c, A, Q, ⟨hx, hb, hml, hown, hts, hnm, hlk, hW, hA0⟩, hX, rfl⟩ := C
  intro H locs ls hV hA hS hL
  have hm : (2, iv z) ∈ gk_pairs (a0 :: a1 :: some (iv z) :: r) := gk_pairs_in.mpr rfl
  obtain ⟨j, hj⟩ := List.getElem?_of_mem hm
  exact lv_iinc hx hb d hL.has (k := j) hj (v := Int32.ofInt (z + y)) (gk_add z y).symm hn rfl (fun ls2 h2 => kk H locs ls2 hV hA hS (gk_L.put (L := a0 :: a1 :: some (iv z) :: r) h2 (gk_prev (i := 1) rfl hc)))
theorem gk_istore_3 (C : Cx l Γ M G X) {a0 a1 a2 : Option Value} {x : Option Value} {r : List (Option Value)} {z : Int} (hc : gk_c1 a2 = true) (hn : 3 < M.2.2.1) (d : decode M.2.1 pc = .ok (.istore 3, 2)) (kk : G (pc + 2) (a0 :: a1 :: a2 :: some (iv z) :: r) st h k n) : G pc (a0 :: a1 :: a2 :: x :: r) (iv z :: st) h k n := by
  obtain ⟨p, e, s, m, args, below, meth, c, A, Q, ⟨hx, hb, hml, hown, hts, hnm, hlk, hW, hA0⟩, hX, rfl⟩ := C
  intro H locs ls hV hA hS hL
  exact lv_istore hx hb d hL.has hn rfl (fun ls2 h2 => kk H locs ls2 hV hA hS (gk_L.put (L := a0 :: a1 :: a2 :: x :: r) h2 (gk_prev (i := 2) rfl hc)))
theorem gk_istore_n_3 (C : Cx l Γ M G X) {a0 a1 a2 : Option Value} {x : Option Value} {r : List (Option Value)} {z : Int} (hc : gk_c1 a2 = true) (hn : 3 < M.2.2.1) (d : decode M.2.1 pc = .ok (.istore_n 3, 1)) (kk : G (pc + 1) (a0 :: a1 :: a2 :: some (iv z) :: r) st h k n) : G pc (a0 :: a1 :: a2 :: x :: r) (iv z :: st) h k n := by
  obtain ⟨p, e, s, m, args, below, meth, c, A, Q, ⟨hx, hb, hml, hown, hts, hnm, hlk, hW, hA0⟩, hX, rfl⟩ := C
  intro H locs ls hV hA hS hL
  exact lv_istore_n hx hb d rfl hL.has hn rfl (fun ls2 h2 => kk H locs ls2 hV hA hS (gk_L.put (L := a0 :: a1 :: a2 :: x :: r) h2 (gk_prev (i := 2) rfl hc)))
theorem gk_astore_3 (C : Cx l Γ M G X) {a0 a1 a2 : Option Value} {x : Option Value} {r : List (Option Value)} {z : Nat} (hc : gk_c1 a2 = true) (hn : 3 < M.2.2.1) (d : decode M.2.1 pc = .ok (.astore 3, 2)) (kk : G (pc + 2) (a0 :: a1 :: a2 :: some (.ref z) :: r) st h k n) : G pc (a0 :: a1 :: a2 :: x :: r) (.ref z :: st) h k n := by
  obtain ⟨p, e, s, m, args, below, meth, c, A, Q, ⟨hx, hb, hml, hown, hts, hnm, hlk, hW, hA0⟩, hX, rfl⟩ := C
  intro H locs ls hV hA hS hL
  exact lv_astore hx hb d hL.has hn rfl (fun ls2 h2 => kk H locs ls2 hV hA hS (gk_L.put (L := a0 :: a1 :: a2 :: x :: r) h2 (gk_prev (i := 2) rfl hc)))
theorem gk_astore_n_3 (C : Cx l Γ M G X) {a0 a1 a2 : Option Value} {x : Option Value} {r : List (Option Value)} {z : Nat} (hc : gk_c1 a2 = true) (hn : 3 < M.2.2.1) (d : decode M.2.1 pc = .ok (.astore_n 3, 1)) (kk : G (pc + 1) (a0 :: a1 :: a2 :: some (.ref z) :: r) st h k n) : G pc (a0 :: a1 :: a2 :: x :: r) (.ref z :: st) h k n := by
  obtain ⟨p, e, s, m, args, below, meth, c, A, Q, ⟨hx, hb, hml, hown, hts, hnm, hlk, hW, hA0⟩, hX, rfl⟩ := C
  intro H locs ls hV hA hS hL
  exact lv_astore_n hx hb d rfl hL.has hn rfl (fun ls2 h2 => kk H locs ls2 hV hA hS (gk_L.put (L := a0 :: a1 :: a2 :: x :: r) h2 (gk_prev (i := 2) rfl hc)))
theorem gk_iinc_3 (C : Cx l Γ M G X) {a0 a1 a2 : Option Value} {r : List (Option Value)} {z y : Int} (hc : gk_c1 a2 = true) (hn : 3 < M.2.2.1) (d : decode M.2.1 pc = .ok (.iinc 3 y, 3)) (kk : G (pc + 3) (a0 :: a1 :: a2 :: some (iv (z + y)) :: r) st h k n) : G pc (a0 :: a1 :: a2 :: some (iv z) :: r) st h k n := by
  obtain ⟨p, e, s, m, args, below, meth, c, A, Q, ⟨hx, hb, hml, hown, hts, hnm, hlk, hW, hA0⟩, hX, rfl⟩ := C
  intro H locs ls hV hA hS hL
  have hm : (3, iv z) ∈ gk_pairs (a0 :: a1 :: a2 :: some (iv z) :: r) := gk_pairs_in.mpr rfl
  obtain ⟨j, hj⟩ := List.getElem?_of_mem hm
  exact lv_iinc hx hb d hL.has (k := j) hj (v := Int32.ofInt (z + y)) (gk_add z y).symm hn rfl (fun ls2 h2 => kk H locs ls2 hV hA hS (gk_L.put (L := a0 :: a1 :: a2 :: some (iv z) :: r) h2 (gk_prev (i := 2) rfl hc)))
theorem gk_istore_4 (C : Cx l Γ M G X) {a0 a1 a2 a3 : Option Value} {x : Option Value} {r : List (Option Value)} {z : Int} (hc : gk_c1 a3 = true) (hn : 4 < M.2.2.1) (d : decode M.2.1 pc = .ok (.istore 4, 2)) (kk : G (pc + 2) (a0 :: a1 :: a2 :: a3 :: some (iv z) :: r) st h k n) : G pc (a0 :: a1 :: a2 :: a3 :: x :: r) (iv z :: st) h k n := by
  obtain ⟨p, e, s, m, args, below, meth, c, A, Q, ⟨hx, hb, hml, hown, hts, hnm, hlk, hW, hA0⟩, hX, rfl⟩ := C
  intro H locs ls hV hA hS hL
  exact lv_istore hx hb d hL.has hn rfl (fun ls2 h2 => kk H locs ls2 hV hA hS (gk_L.put (L := a0 :: a1 :: a2 :: a3 :: x :: r) h2 (gk_prev (i := 3) rfl hc)))
theorem gk_astore_4 (C : Cx l Γ M G X) {a0 a1 a2 a3 : Option Value} {x : Option Value} {r : List (Option Value)} {z : Nat} (hc : gk_c1 a3 = true) (hn : 4 < M.2.2.1) (d : decode M.2.1 pc = .ok (.astore 4, 2)) (kk : G (pc + 2) (a0 :: a1 :: a2 :: a3 :: some (.ref z) :: r) st h k n) : G pc (a0 :: a1 :: a2 :: a3 :: x :: r) (.ref z :: st) h k n := by
  obtain ⟨p, e, s, m, args, below, meth, c, A, Q, ⟨hx, hb, hml, hown, hts, hnm, hlk, hW, hA0⟩, hX, rfl⟩ := C
  intro H locs ls hV hA hS hL
  exact lv_astore hx hb d hL.has hn rfl (fun ls2 h2 => kk H locs ls2 hV hA hS (gk_L.put (L := a0 :: a1 :: a2 :: a3 :: x :: r) h2 (gk_prev (i := 3) rfl hc)))
theorem gk_fstore_4 (C : Cx l Γ M G X) {a0 a1 a2 a3 : Option Value} {x : Option Value} {r : List (Option Value)} {z : UInt32} (hc : gk_c1 a3 = true) (hn : 4 < M.2.2.1) (d : decode M.2.1 pc = .ok (.fstore 4, 2)) (kk : G (pc + 2) (a0 :: a1 :: a2 :: a3 :: some (.float z) :: r) st h k n) : G pc (a0 :: a1 :: a2 :: a3 :: x :: r) (.float z :: st) h k n := by
  obtain ⟨p, e, s, m, args, below, meth, c, A, Q, ⟨hx, hb, hml, hown, hts, hnm, hlk, hW, hA0⟩, hX, rfl⟩ := C
  intro H locs ls hV hA hS hL
  exact lv_fstore hx hb d hL.has hn rfl (fun ls2 h2 => kk H locs ls2 hV hA hS (gk_L.put (L := a0 :: a1 :: a2 :: a3 :: x :: r) h2 (gk_prev (i := 3) rfl hc)))
theorem gk_iinc_4 (C : Cx l Γ M G X) {a0 a1 a2 a3 : Option Value} {r : List (Option Value)} {z y : Int} (hc : gk_c1 a3 = true) (hn : 4 < M.2.2.1) (d : decode M.2.1 pc = .ok (.iinc 4 y, 3)) (kk : G (pc + 3) (a0 :: a1 :: a2 :: a3 :: some (iv (z + y)) :: r) st h k n) : G pc (a0 :: a1 :: a2 :: a3 :: some (iv z) :: r) st h k n := by
  obtain ⟨p, e, s, m, args, below, meth, c, A, Q, ⟨hx, hb, hml, hown, hts, hnm, hlk, hW, hA0⟩, hX, rfl⟩ := C
  intro H locs ls hV hA hS hL
  have hm : (4, iv z) ∈ gk_pairs (a0 :: a1 :: a2 :: a3 :: some (iv z) :: r) := gk_pairs_in.mpr rfl
  obtain ⟨j, hj⟩ := List.getElem?_of_mem hm
  exact lv_iinc hx hb d hL.has (k := j) hj (v := Int32.ofInt (z + y)) (gk_add z y).symm hn rfl (fun ls2 h2 => kk H locs ls2 hV hA hS (gk_L.put (L := a0 :: a1 :: a2 :: a3 :: some (iv z) :: r) h2 (gk_prev (i := 3) rfl hc)))
theorem gk_istore_5 (C : Cx l Γ M G X) {a0 a1 a2 a3 a4 : Option Value} {x : Option Value} {r : List (Option Value)} {z : Int} (hc : gk_c1 a4 = true) (hn : 5 < M.2.2.1) (d : decode M.2.1 pc = .ok (.istore 5, 2)) (kk : G (pc + 2) (a0 :: a1 :: a2 :: a3 :: a4 :: some (iv z) :: r) st h k n) : G pc (a0 :: a1 :: a2 :: a3 :: a4 :: x :: r) (iv z :: st) h k n := by
  obtain ⟨p, e, s, m, args, below, meth, c, A, Q, ⟨hx, hb, hml, hown, hts, hnm, hlk, hW, hA0⟩, hX, rfl⟩ := C
  intro H locs ls hV hA hS hL
  exact lv_istore hx hb d hL.has hn rfl (fun ls2 h2 => kk H locs ls2 hV hA hS (gk_L.put (L := a0 :: a1 :: a2 :: a3 :: a4 :: x :: r) h2 (gk_prev (i := 4) rfl hc)))
theorem gk_astore_5 (C : Cx l Γ M G X) {a0 a1 a2 a3 a4 : Option Value} {x : Option Value} {r : List (Option Value)} {z : Nat} (hc : gk_c1 a4 = true) (hn : 5 < M.2.2.1) (d : decode M.2.1 pc = .ok (.astore 5, 2)) (kk : G (pc + 2) (a0 :: a1 :: a2 :: a3 :: a4 :: some (.ref z) :: r) st h k n) : G pc (a0 :: a1 :: a2 :: a3 :: a4 :: x :: r) (.ref z :: st) h k n := by
  obtain ⟨p, e, s, m, args, below, meth, c, A, Q, ⟨hx, hb, hml, hown, hts, hnm, hlk, hW, hA0⟩, hX, rfl⟩ := C
  intro H locs ls hV hA hS hL
  exact lv_astore hx hb d hL.has hn rfl (fun ls2 h2 => kk H locs ls2 hV hA hS (gk_L.put (L := a0 :: a1 :: a2 :: a3 :: a4 :: x :: r) h2 (gk_prev (i := 4) rfl hc)))
theorem gk_fstore_5 (C : Cx l Γ M G X) {a0 a1 a2 a3 a4 : Option Value} {x : Option Value} {r : List (Option Value)} {z : UInt32} (hc : gk_c1 a4 = true) (hn : 5 < M.2.2.1) (d : decode M.2.1 pc = .ok (.fstore 5, 2)) (kk : G (pc + 2) (a0 :: a1 :: a2 :: a3 :: a4 :: some (.float z) :: r) st h k n) : G pc (a0 :: a1 :: a2 :: a3 :: a4 :: x :: r) (.float z :: st) h k n := by
  obtain ⟨p, e, s, m, args, below, meth, c, A, Q, ⟨hx, hb, hml, hown, hts, hnm, hlk, hW, hA0⟩, hX, rfl⟩ := C
  intro H locs ls hV hA hS hL
  exact lv_fstore hx hb d hL.has hn rfl (fun ls2 h2 => kk H locs ls2 hV hA hS (gk_L.put (L := a0 :: a1 :: a2 :: a3 :: a4 :: x :: r) h2 (gk_prev (i := 4) rfl hc)))
theorem gk_iinc_5 (C : Cx l Γ M G X) {a0 a1 a2 a3 a4 : Option Value} {r : List (Option Value)} {z y : Int} (hc : gk_c1 a4 = true) (hn : 5 < M.2.2.1) (d : decode M.2.1 pc = .ok (.iinc 5 y, 3)) (kk : G (pc + 3) (a0 :: a1 :: a2 :: a3 :: a4 :: some (iv (z + y)) :: r) st h k n) : G pc (a0 :: a1 :: a2 :: a3 :: a4 :: some (iv z) :: r) st h k n := by
  obtain ⟨p, e, s, m, args, below, meth, c, A, Q, ⟨hx, hb, hml, hown, hts, hnm, hlk, hW, hA0⟩, hX, rfl⟩ := C
  intro H locs ls hV hA hS hL
  have hm : (5, iv z) ∈ gk_pairs (a0 :: a1 :: a2 :: a3 :: a4 :: some (iv z) :: r) := gk_pairs_in.mpr rfl
  obtain ⟨j, hj⟩ := List.getElem?_of_mem hm
  exact lv_iinc hx hb d hL.has (k := j) hj (v := Int32.ofInt (z + y)) (gk_add z y).symm hn rfl (fun ls2 h2 => kk H locs ls2 hV hA hS (gk_L.put (L := a0 :: a1 :: a2 :: a3 :: a4 :: some (iv z) :: r) h2 (gk_prev (i := 4) rfl hc)))
theorem gk_istore_6 (C : Cx l Γ M G X) {a0 a1 a2 a3 a4 a5 : Option Value} {x : Option Value} {r : List (Option Value)} {z : Int} (hc : gk_c1 a5 = true) (hn : 6 < M.2.2.1) (d : decode M.2.1 pc = .ok (.istore 6, 2)) (kk : G (pc + 2) (a0 :: a1 :: a2 :: a3 :: a4 :: a5 :: some (iv z) :: r) st h k n) : G pc (a0 :: a1 :: a2 :: a3 :: a4 :: a5 :: x :: r) (iv z :: st) h k n := by
  obtain ⟨p, e, s, m, args, below, meth, c, A, Q, ⟨hx, hb, hml, hown, hts, hnm, hlk, hW, hA0⟩, hX, rfl⟩ := C
  intro H locs ls hV hA hS hL
  exact lv_istore hx hb d hL.has hn rfl (fun ls2 h2 => kk H locs ls2 hV hA hS (gk_L.put (L := a0 :: a1 :: a2 :: a3 :: a4 :: a5 :: x :: r) h2 (gk_prev (i := 5) rfl hc)))
theorem gk_astore_6 (C : Cx l Γ M G X) {a0 a1 a2 a3 a4 a5 : Option Value} {x : Option Value} {r : List (Option Value)} {z : Nat} (hc : gk_c1 a5 = true) (hn : 6 < M.2.2.1) (d : decode M.2.1 pc = .ok (.astore 6, 2)) (kk : G (pc + 2) (a0 :: a1 :: a2 :: a3 :: a4 :: a5 :: some (.ref z) :: r) st h k n) : G pc (a0 :: a1 :: a2 :: a3 :: a4 :: a5 :: x :: r) (.ref z :: st) h k n := by
  obtain ⟨p, e, s, m, args, below, meth, c, A, Q, ⟨hx, hb, hml, hown, hts, hnm, hlk, hW, hA0⟩, hX, rfl⟩ := C
  intro H locs ls hV hA hS hL
  exact lv_astore hx hb d hL.has hn rfl (fun ls2 h2 => kk H locs ls2 hV hA hS (gk_L.put (L := a0 :: a1 :: a2 :: a3 :: a4 :: a5 :: x :: r) h2 (gk_prev (i := 5) rfl hc)))
theorem gk_fstore_6 (C : Cx l Γ M G X) {a0 a1 a2 a3 a4 a5 : Option Value} {x : Option Value} {r : List (Option Value)} {z : UInt32} (hc : gk_c1 a5 = true) (hn : 6 < M.2.2.1) (d : decode M.2.1 pc = .ok (.fstore 6, 2)) (kk : G (pc + 2) (a0 :: a1 :: a2 :: a3 :: a4 :: a5 :: some (.float z) :: r) st h k n) : G pc (a0 :: a1 :: a2 :: a3 :: a4 :: a5 :: x :: r) (.float z :: st) h k n := by
  obtain ⟨p, e, s, m, args, below, meth, c, A, Q, ⟨hx, hb, hml, hown, hts, hnm, hlk, hW, hA0⟩, hX, rfl⟩ := C
  intro H locs ls hV hA hS hL
  exact lv_fstore hx hb d hL.has hn rfl (fun ls2 h2 => kk H locs ls2 hV hA hS (gk_L.put (L := a0 :: a1 :: a2 :: a3 :: a4 :: a5 :: x :: r) h2 (gk_prev (i := 5) rfl hc)))
theorem gk_iinc_6 (C : Cx l Γ M G X) {a0 a1 a2 a3 a4 a5 : Option Value} {r : List (Option Value)} {z y : Int} (hc : gk_c1 a5 = true) (hn : 6 < M.2.2.1) (d : decode M.2.1 pc = .ok (.iinc 6 y, 3)) (kk : G (pc + 3) (a0 :: a1 :: a2 :: a3 :: a4 :: a5 :: some (iv (z + y)) :: r) st h k n) : G pc (a0 :: a1 :: a2 :: a3 :: a4 :: a5 :: some (iv z) :: r) st h k n := by
  obtain ⟨p, e, s, m, args, below, meth, c, A, Q, ⟨hx, hb, hml, hown, hts, hnm, hlk, hW, hA0⟩, hX, rfl⟩ := C
  intro H locs ls hV hA hS hL
  have hm : (6, iv z) ∈ gk_pairs (a0 :: a1 :: a2 :: a3 :: a4 :: a5 :: some (iv z) :: r) := gk_pairs_in.mpr rfl
  obtain ⟨j, hj⟩ := List.getElem?_of_mem hm
  exact lv_iinc hx hb d hL.has (k := j) hj (v := Int32.ofInt (z + y)) (gk_add z y).symm hn rfl (fun ls2 h2 => kk H locs ls2 hV hA hS (gk_L.put (L := a0 :: a1 :: a2 :: a3 :: a4 :: a5 :: some (iv z) :: r) h2 (gk_prev (i := 5) rfl hc)))
theorem gk_istore_7 (C : Cx l Γ M G X) {a0 a1 a2 a3 a4 a5 a6 : Option Value} {x : Option Value} {r : List (Option Value)} {z : Int} (hc : gk_c1 a6 = true) (hn : 7 < M.2.2.1) (d : decode M.2.1 pc = .ok (.istore 7, 2)) (kk : G (pc + 2) (a0 :: a1 :: a2 :: a3 :: a4 :: a5 :: a6 :: some (iv z) :: r) st h k n) : G pc (a0 :: a1 :: a2 :: a3 :: a4 :: a5 :: a6 :: x :: r) (iv z :: st) h k n := by
  obtain ⟨p, e, s, m, args, below, meth, c, A, Q, ⟨hx, hb, hml, hown, hts, hnm, hlk, hW, hA0⟩, hX, rfl⟩ := C
  intro H locs ls hV hA hS hL
  exact lv_istore hx hb d hL.has hn rfl (fun ls2 h2 => kk H locs ls2 hV hA hS (gk_L.put (L := a0 :: a1 :: a2 :: a3 :: a4 :: a5 :: a6 :: x :: r) h2 (gk_prev (i := 6) rfl hc)))
theorem gk_astore_7 (C : Cx l Γ M G X) {a0 a1 a2 a3 a4 a5 a6 : Option Value} {x : Option Value} {r : List (Option Value)} {z : Nat} (hc : gk_c1 a6 = true) (hn : 7 < M.2.2.1) (d : decode M.2.1 pc = .ok (.astore 7, 2)) (kk : G (pc + 2) (a0 :: a1 :: a2 :: a3 :: a4 :: a5 :: a6 :: some (.ref z) :: r) st h k n) : G pc (a0 :: a1 :: a2 :: a3 :: a4 :: a5 :: a6 :: x :: r) (.ref z :: st) h k n := by
  obtain ⟨p, e, s, m, args, below, meth, c, A, Q, ⟨hx, hb, hml, hown, hts, hnm, hlk, hW, hA0⟩, hX, rfl⟩ := C
  intro H locs ls hV hA hS hL
  exact lv_astore hx hb d hL.has hn rfl (fun ls2 h2 => kk H locs ls2 hV hA hS (gk_L.put (L := a0 :: a1 :: a2 :: a3 :: a4 :: a5 :: a6 :: x :: r) h2 (gk_prev (i := 6) rfl hc)))
theorem gk_fstore_7 (C : Cx l Γ M G X) {a0 a1 a2 a3 a4 a5 a6 : Option Value} {x : Option Value} {r : List (Option Value)} {z : UInt32} (hc : gk_c1 a6 = true) (hn : 7 < M.2.2.1) (d : decode M.2.1 pc = .ok (.fstore 7, 2)) (kk : G (pc + 2) (a0 :: a1 :: a2 :: a3 :: a4 :: a5 :: a6 :: some (.float z) :: r) st h k n) : G pc (a0 :: a1 :: a2 :: a3 :: a4 :: a5 :: a6 :: x :: r) (.float z :: st) h k n := by
  obtain ⟨p, e, s, m, args, below, meth, c, A, Q, ⟨hx, hb, hml, hown, hts, hnm, hlk, hW, hA0⟩, hX, rfl⟩ := C
  intro H locs ls hV hA hS hL
  exact lv_fstore hx hb d hL.has hn rfl (fun ls2 h2 => kk H locs ls2 hV hA hS (gk_L.put (L := a0 :: a1 :: a2 :: a3 :: a4 :: a5 :: a6 :: x :: r) h2 (gk_prev (i := 6) rfl hc)))
theorem gk_iinc_7 (C : Cx l Γ M G X) {a0 a1 a2 a3 a4 a5 a6 : Option Value} {r : List (Option Value)} {z y : Int} (hc : gk_c1 a6 = true) (hn : 7 < M.2.2.1) (d : decode M.2.1 pc = .ok (.iinc 7 y, 3)) (kk : G (pc + 3) (a0 :: a1 :: a2 :: a3 :: a4 :: a5 :: a6 :: some (iv (z + y)) :: r) st h k n) : G pc (a0 :: a1 :: a2 :: a3 :: a4 :: a5 :: a6 :: some (iv z) :: r) st h k n := by
  obtain ⟨p, e, s, m, args, below, meth, c, A, Q, ⟨hx, hb, hml, hown, hts, hnm, hlk, hW, hA0⟩, hX, rfl⟩ := C
  intro H locs ls hV hA hS hL
  have hm : (7, iv z) ∈ gk_pairs (a0 :: a1 :: a2 :: a3 :: a4 :: a5 :: a6 :: some (iv z) :: r) := gk_pairs_in.mpr rfl
  obtain ⟨j, hj⟩ := List.getElem?_of_mem hm
  exact lv_iinc hx hb d hL.has (k := j) hj (v := Int32.ofInt (z + y)) (gk_add z y).symm hn rfl (fun ls2 h2 => kk H locs ls2 hV hA hS (gk_L.put (L := a0 :: a1 :: a2 :: a3 :: a4 :: a5 :: a6 :: some (iv z) :: r) h2 (gk_prev (i := 6) rfl hc)))
theorem gk_istore_8 (C : Cx l Γ M G X) {a0 a1 a2 a3 a4 a5 a6 a7 : Option Value} {x : Option Value} {r : List (Option Value)} {z : Int} (hc : gk_c1 a7 = true) (hn : 8 < M.2.2.1) (d : decode M.2.1 pc = .ok (.istore 8, 2)) (kk : G (pc + 2) (a0 :: a1 :: a2 :: a3 :: a4 :: a5 :: a6 :: a7 :: some (iv z) :: r) st h k n) : G pc (a0 :: a1 :: a2 :: a3 :: a4 :: a5 :: a6 :: a7 :: x :: r) (iv z :: st) h k n := by
  obtain ⟨p, e, s, m, args, below, meth, c, A, Q, ⟨hx, hb, hml, hown, hts, hnm, hlk, hW, hA0⟩, hX, rfl⟩ := C
  intro H locs ls hV hA hS hL
  exact lv_istore hx hb d hL.has hn rfl (fun ls2 h2 => kk H locs ls2 hV hA hS (gk_L.put (L := a0 :: a1 :: a2 :: a3 :: a4 :: a5 :: a6 :: a7 :: x :: r) h2 (gk_prev (i := 7) rfl hc)))
theorem gk_astore_8 (C : Cx l Γ M G X) {a0 a1 a2 a3 a4 a5 a6 a7 : Option Value} {x : Option Value} {r : List (Option Value)} {z : Nat} (hc : gk_c1 a7 = true) (hn : 8 < M.2.2.1) (d : decode M.2.1 pc = .ok (.astore 8, 2)) (kk : G (pc + 2) (a0 :: a1 :: a2 :: a3 :: a4 :: a5 :: a6 :: a7 :: some (.ref z) :: r) st h k n) : G pc (a0 :: a1 :: a2 :: a3 :: a4 :: a5 :: a6 :: a7 :: x :: r) (.ref z :: st) h k n := by
  obtain ⟨p, e, s, m, args, below, meth, c, A, Q, ⟨hx, hb, hml, hown, hts, hnm, hlk, hW, hA0⟩, hX, rfl⟩ := C
  intro H locs ls hV hA hS hL
  exact lv_astore hx hb d hL.has hn rfl (fun ls2 h2 => kk H locs ls2 hV hA hS (gk_L.put (L := a0 :: a1 :: a2 :: a3 :: a4 :: a5 :: a6 :: a7 :: x :: r) h2 (gk_prev (i := 7) rfl hc)))
theorem gk_fstore_8 (C : Cx l Γ M G X) {a0 a1 a2 a3 a4 a5 a6 a7 : Option Value} {x : Option Value} {r : List (Option Value)} {z : UInt32} (hc : gk_c1 a7 = true) (hn : 8 < M.2.2.1) (d : decode M.2.1 pc = .ok (.fstore 8, 2)) (kk : G (pc + 2) (a0 :: a1 :: a2 :: a3 :: a4 :: a5 :: a6 :: a7 :: some (.float z) :: r) st h k n) : G pc (a0 :: a1 :: a2 :: a3 :: a4 :: a5 :: a6 :: a7 :: x :: r) (.float z :: st) h k n := by
  obtain ⟨p, e, s, m, args, below, meth, c, A, Q, ⟨hx, hb, hml, hown, hts, hnm, hlk, hW, hA0⟩, hX, rfl⟩ := C
  intro H locs ls hV hA hS hL
  exact lv_fstore hx hb d hL.has hn rfl (fun ls2 h2 => kk H locs ls2 hV hA hS (gk_L.put (L := a0 :: a1 :: a2 :: a3 :: a4 :: a5 :: a6 :: a7 :: x :: r) h2 (gk_prev (i := 7) rfl hc)))
theorem gk_iinc_8 (C : Cx l Γ M G X) {a0 a1 a2 a3 a4 a5 a6 a7 : Option Value} {r : List (Option Value)} {z y : Int} (hc : gk_c1 a7 = true) (hn : 8 < M.2.2.1) (d : decode M.2.1 pc = .ok (.iinc 8 y, 3)) (kk : G (pc + 3) (a0 :: a1 :: a2 :: a3 :: a4 :: a5 :: a6 :: a7 :: some (iv (z + y)) :: r) st h k n) : G pc (a0 :: a1 :: a2 :: a3 :: a4 :: a5 :: a6 :: a7 :: some (iv z) :: r) st h k n := by
  obtain ⟨p, e, s, m, args, below, meth, c, A, Q, ⟨hx, hb, hml, hown, hts, hnm, hlk, hW, hA0⟩, hX, rfl⟩ := C
  intro H locs ls hV hA hS hL
  have hm : (8, iv z) ∈ gk_pairs (a0 :: a1 :: a2 :: a3 :: a4 :: a5 :: a6 :: a7 :: some (iv z) :: r) := gk_pairs_in.mpr rfl
  obtain ⟨j, hj⟩ := List.getElem?_of_mem hm
  exact lv_iinc hx hb d hL.has (k := j) hj (v := Int32.ofInt (z + y)) (gk_add z y).symm hn rfl (fun ls2 h2 => kk H locs ls2 hV hA hS (gk_L.put (L := a0 :: a1 :: a2 :: a3 :: a4 :: a5 :: a6 :: a7 :: some (iv z) :: r) h2 (gk_prev (i := 7) rfl hc)))
theorem gk_lstore_n_1 (C : Cx l Γ M G X) {a0 x y : Option Value} {r : List (Option Value)} {z : Int} (hc : gk_c1 a0 = true) (hn : 1 + 1 < M.2.2.1) (d : decode M.2.1 pc = .ok (.lstore_n 1, 1)) (kk : G (pc + 1) (a0 :: some (jv z) :: none :: r) st h k n) : G pc (a0 :: x :: y :: r) (jv z :: st) h k n := by
  obtain ⟨p, e, s, m, args, below, meth, c, A, Q, ⟨hx, hb, hml, hown, hts, hnm, hlk, hW, hA0⟩, hX, rfl⟩ := C
  intro H locs ls hV hA hS hL
  exact lv_lstore_n hx hb d rfl hL.has hn rfl (fun ls2 h2 => kk H locs ls2 hV hA hS (gk_L.put2 (L := a0 :: x :: y :: r) h2 (gk_prev (i := 0) rfl hc)))
theorem gk_iadd (C : Cx l Γ M G X) {a b : Int} (d : decode M.2.1 pc = .ok (.iadd, 1)) (kk : G (pc + 1) L (iv (a + b) :: st) h k n) : G pc L (iv b :: iv a :: st) h k n := by
  obtain ⟨p, e, s, m, args, below, meth, c, A, Q, ⟨hx, hb, hml, hown, hts, hnm, hlk, hW, hA0⟩, hX, rfl⟩ := C
  intro H locs ls hV hA hS hL
  refine lv_iadd hx hb d ?_
  have e : Value.int (Int32.ofInt a + Int32.ofInt b) = iv (a + b) := congrArg Value.int (Int32.ofInt_add a b).symm
  rw [e]
  exact kk H locs ls hV hA hS hL
theorem gk_isub (C : Cx l Γ M G X) {a b : Int} (d : decode M.2.1 pc = .ok (.isub, 1)) (kk : G (pc + 1) L (iv (a - b) :: st) h k n) : G pc L (iv b :: iv a :: st) h k n := by
  obtain ⟨p, e, s, m, args, below, meth, c, A, Q, ⟨hx, hb, hml, hown, hts, hnm, hlk, hW, hA0⟩, hX, rfl⟩ := C
  intro H locs ls hV hA hS hL
  refine lv_isub hx hb d ?_
  have e : Value.int (Int32.ofInt a - Int32.ofInt b) = iv (a - b) := congrArg Value.int (Int32.ofInt_sub a b).symm
  rw [e]
  exact kk H locs ls hV hA hS hL
theorem gk_imul (C : Cx l Γ M G X) {a b : Int} (d : decode M.2.1 pc = .ok (.imul, 1)) (kk : G (pc + 1) L (iv (a * b) :: st) h k n) : G pc L (iv b :: iv a :: st) h k n := by
  obtain ⟨p, e, s, m, args, below, meth, c, A, Q, ⟨hx, hb, hml, hown, hts, hnm, hlk, hW, hA0⟩, hX, rfl⟩ := C
  intro H locs ls hV hA hS hL
  refine lv_imul hx hb d ?_
  have e : Value.int (Int32.ofInt a * Int32.ofInt b) = iv (a * b) := congrArg Value.int (Int32.ofInt_mul a b).symm
  rw [e]
  exact kk H locs ls hV hA hS hL
theorem gk_ladd (C : Cx l Γ M G X) {a b : Int} (d : decode M.2.1 pc = .ok (.ladd, 1)) (kk : G (pc + 1) L (jv (a + b) :: st) h k n) : G pc L (jv b :: jv a :: st) h k n := by
  obtain ⟨p, e, s, m, args, below, meth, c, A, Q, ⟨hx, hb, hml, hown, hts, hnm, hlk, hW, hA0⟩, hX, rfl⟩ := C
  intro H locs ls hV hA hS hL
  refine lv_ladd hx hb d ?_
  have e : Value.long (Int64.ofInt a + Int64.ofInt b) = jv (a + b) := congrArg Value.long (Int64.ofInt_add a b).symm
  rw [e]
  exact kk H locs ls hV hA hS hL
theorem gk_lmul (C : Cx l Γ M G X) {a b : Int} (d : decode M.2.1 pc = .ok (.lmul, 1)) (kk : G (pc + 1) L (jv (a * b) :: st) h k n) : G pc L (jv b :: jv a :: st) h k n := by
  obtain ⟨p, e, s, m, args, below, meth, c, A, Q, ⟨hx, hb, hml, hown, hts, hnm, hlk, hW, hA0⟩, hX, rfl⟩ := C
  intro H locs ls hV hA hS hL
  refine lv_lmul hx hb d ?_
  have e : Value.long (Int64.ofInt a * Int64.ofInt b) = jv (a * b) := congrArg Value.long (Int64.ofInt_mul a b).symm
  rw [e]
  exact kk H locs ls hV hA hS hL
theorem gk_ineg (C : Cx l Γ M G X) {a : Int} (d : decode M.2.1 pc = .ok (.ineg, 1)) (kk : G (pc + 1) L (iv (-a) :: st) h k n) : G pc L (iv a :: st) h k n := by
  obtain ⟨p, e, s, m, args, below, meth, c, A, Q, ⟨hx, hb, hml, hown, hts, hnm, hlk, hW, hA0⟩, hX, rfl⟩ := C
  intro H locs ls hV hA hS hL
  refine lv_ineg hx hb d ?_
  have e : Value.int (-Int32.ofInt a) = iv (-a) := congrArg Value.int (Int32.ofInt_neg a).symm
  rw [e]
  exact kk H locs ls hV hA hS hL
theorem gk_div {a b : Int} (ha : 0 ≤ a ∧ a ≤ 2147483647) (hb : 0 < b ∧ b ≤ 2147483647) : Int32.ofInt a / Int32.ofInt b = Int32.ofInt (a / b) := by
  have h1 := Int32.ofInt_tdiv (a := a) (b := b) (by rw [show Int32.minValue.toInt = -2147483648 from rfl]; omega) (by rw [show Int32.maxValue.toInt = 2147483647 from rfl]; omega) (by rw [show Int32.minValue.toInt = -2147483648 from rfl]; omega) (by rw [show Int32.maxValue.toInt = 2147483647 from rfl]; omega)
  rw [← h1, Int.tdiv_eq_ediv_of_nonneg ha.1]
theorem gk_divL {a b : Int} (ha : 0 ≤ a ∧ a ≤ 9223372036854775807) (hb : 0 < b ∧ b ≤ 9223372036854775807) : Int64.ofInt a / Int64.ofInt b = Int64.ofInt (a / b) := by
  have h1 := Int64.ofInt_tdiv (a := a) (b := b) (by rw [show Int64.minValue.toInt = -9223372036854775808 from rfl]; omega) (by rw [show Int64.maxValue.toInt = 9223372036854775807 from rfl]; omega) (by rw [show Int64.minValue.toInt = -9223372036854775808 from rfl]; omega) (by rw [show Int64.maxValue.toInt = 9223372036854775807 from rfl]; omega)
  rw [← h1, Int.tdiv_eq_ediv_of_nonneg ha.1]
theorem gk_idiv (C : Cx l Γ M G X) {a b : Int} (ha : 0 ≤ a ∧ a ≤ 2147483647) (hb0 : 0 < b ∧ b ≤ 2147483647) (d : decode M.2.1 pc = .ok (.idiv, 1)) (kk : G (pc + 1) L (iv (a / b) :: st) h k n) : G pc L (iv b :: iv a :: st) h k n := by
  obtain ⟨p, e, s, m, args, below, meth, c, A, Q, ⟨hx, hb, hml, hown, hts, hnm, hlk, hW, hA0⟩, hX, rfl⟩ := C
  intro H locs ls hV hA hS hL
  refine lv_idiv hx hb d (fun z => ?_) ?_
  · rw [gk_0, gk_eq (by omega) (by omega)] at z
    omega
  have e : Value.int (Int32.ofInt a / Int32.ofInt b) = iv (a / b) := congrArg Value.int (gk_div ha hb0)
  rw [e]
  exact kk H locs ls hV hA hS hL
theorem gk_irem (C : Cx l Γ M G X) {a b : Int} (ha : 0 ≤ a ∧ a ≤ 2147483647) (hb0 : 0 < b ∧ b ≤ 2147483647) (d : decode M.2.1 pc = .ok (.irem, 1)) (kk : G (pc + 1) L (iv (a % b) :: st) h k n) : G pc L (iv b :: iv a :: st) h k n := by
  obtain ⟨p, e, s, m, args, below, meth, c, A, Q, ⟨hx, hb, hml, hown, hts, hnm, hlk, hW, hA0⟩, hX, rfl⟩ := C
  intro H locs ls hV hA hS hL
  refine lv_irem hx hb d (fun z => ?_) ?_
  · rw [gk_0, gk_eq (by omega) (by omega)] at z
    omega
  have e : Value.int (Int32.ofInt a - Int32.ofInt a / Int32.ofInt b * Int32.ofInt b) = iv (a % b) := by
    refine congrArg Value.int ?_
    rw [gk_div ha hb0, ← Int32.ofInt_mul, ← Int32.ofInt_sub]
    refine congrArg Int32.ofInt ?_
    have e1 := Int.emod_def a b
    have e2 : b * (a / b) = a / b * b := Int.mul_comm _ _
    omega
  rw [e]
  exact kk H locs ls hV hA hS hL
theorem gk_ldiv (C : Cx l Γ M G X) {a b : Int} (ha : 0 ≤ a ∧ a ≤ 9223372036854775807) (hb0 : 0 < b ∧ b ≤ 9223372036854775807) (d : decode M.2.1 pc = .ok (.ldiv, 1)) (kk : G (pc + 1) L (jv (a / b) :: st) h k n) : G pc L (jv b :: jv a :: st) h k n := by
  obtain ⟨p, e, s, m, args, below, meth, c, A, Q, ⟨hx, hb, hml, hown, hts, hnm, hlk, hW, hA0⟩, hX, rfl⟩ := C
  intro H locs ls hV hA hS hL
  refine lv_ldiv hx hb d (fun z => ?_) ?_
  · have z2 := congrArg Int64.toInt z
    rw [Int64.toInt_ofInt_of_le (by omega) (by omega)] at z2
    have z3 : (0 : Int64).toInt = 0 := rfl
    omega
  have e : Value.long (Int64.ofInt a / Int64.ofInt b) = jv (a / b) := congrArg Value.long (gk_divL ha hb0)
  rw [e]
  exact kk H locs ls hV hA hS hL
theorem gk_i2l (C : Cx l Γ M G X) {a : Int} (ha : -2147483648 ≤ a ∧ a ≤ 2147483647) (d : decode M.2.1 pc = .ok (.i2l, 1)) (kk : G (pc + 1) L (jv a :: st) h k n) : G pc L (iv a :: st) h k n := by
  obtain ⟨p, e, s, m, args, below, meth, c, A, Q, ⟨hx, hb, hml, hown, hts, hnm, hlk, hW, hA0⟩, hX, rfl⟩ := C
  intro H locs ls hV hA hS hL
  exact lv_i2l hx hb d (by rw [← Int64.ofInt_int32ToInt, gk_toInt ha]) (kk H locs ls hV hA hS hL)
theorem gk_dup (C : Cx l Γ M G X) {v : Value} (hv : v.category = 1) (d : decode M.2.1 pc = .ok (.dup, 1)) (kk : G (pc + 1) L (v :: v :: st) h k n) : G pc L (v :: st) h k n := by
  obtain ⟨p, e, s, m, args, below, meth, c, A, Q, ⟨hx, hb, hml, hown, hts, hnm, hlk, hW, hA0⟩, hX, rfl⟩ := C
  intro H locs ls hV hA hS hL
  exact lv_dup hx hb d hv (kk H locs ls hV hA hS hL)
theorem gk_pop (C : Cx l Γ M G X) {v : Value} (hv : v.category = 1) (d : decode M.2.1 pc = .ok (.pop, 1)) (kk : G (pc + 1) L st h k n) : G pc L (v :: st) h k n := by
  obtain ⟨p, e, s, m, args, below, meth, c, A, Q, ⟨hx, hb, hml, hown, hts, hnm, hlk, hW, hA0⟩, hX, rfl⟩ := C
  intro H locs ls hV hA hS hL
  exact lv_pop hx hb d hv (kk H locs ls hV hA hS hL)
theorem gk_dup_x1 (C : Cx l Γ M G X) {v u : Value} (hv : v.category = 1) (hu : u.category = 1) (d : decode M.2.1 pc = .ok (.dup_x1, 1)) (kk : G (pc + 1) L (v :: u :: v :: st) h k n) : G pc L (v :: u :: st) h k n := by
  obtain ⟨p, e, s, m, args, below, meth, c, A, Q, ⟨hx, hb, hml, hown, hts, hnm, hlk, hW, hA0⟩, hX, rfl⟩ := C
  intro H locs ls hV hA hS hL
  exact lv_dup_x1 hx hb d hv hu (kk H locs ls hV hA hS hL)
theorem gk_dup2 (C : Cx l Γ M G X) {v u : Value} (hv : v.category = 1) (hu : u.category = 1) (d : decode M.2.1 pc = .ok (.dup2, 1)) (kk : G (pc + 1) L (v :: u :: v :: u :: st) h k n) : G pc L (v :: u :: st) h k n := by
  obtain ⟨p, e, s, m, args, below, meth, c, A, Q, ⟨hx, hb, hml, hown, hts, hnm, hlk, hW, hA0⟩, hX, rfl⟩ := C
  intro H locs ls hV hA hS hL
  exact lv_dup2_11 hx hb d hv hu (kk H locs ls hV hA hS hL)
theorem gk_null (C : Cx l Γ M G X) (d : decode M.2.1 pc = .ok (.aconst_null, 1)) (kk : G (pc + 1) L (.null :: st) h k n) : G pc L st h k n := by
  obtain ⟨p, e, s, m, args, below, meth, c, A, Q, ⟨hx, hb, hml, hown, hts, hnm, hlk, hW, hA0⟩, hX, rfl⟩ := C
  intro H locs ls hV hA hS hL
  exact lv_null hx hb d (kk H locs ls hV hA hS hL)
theorem gk_icmp_eq (C : Cx l Γ M G X) {a b : Int} {off : Int} {tgt : Nat} (ra : -2147483648 ≤ a ∧ a ≤ 2147483647) (rb : -2147483648 ≤ b ∧ b ≤ 2147483647) (d : decode M.2.1 pc = .ok (.if_icmp .eq off, 3)) (ht : (pc : Int) + off = (tgt : Int)) (kt : a = b → G tgt L st h k n) (kf : ¬ a = b → G (pc + 3) L st h k n) : G pc L (iv b :: iv a :: st) h k n := by
  obtain ⟨p, e, s, m, args, below, meth, c, A, Q, ⟨hx, hb, hml, hown, hts, hnm, hlk, hW, hA0⟩, hX, rfl⟩ := C
  intro H locs ls hV hA hS hL
  refine lv_icmp_eq hx hb d ht (fun c => kt ?_ H locs ls hV hA hS hL) (fun c => kf ?_ H locs ls hV hA hS hL)
  · rw [gk_eq ra rb] at c; omega
  · rw [gk_eq ra rb] at c; omega
theorem gk_if_eq (C : Cx l Γ M G X) {a : Int} {off : Int} {tgt : Nat} (ra : -2147483648 ≤ a ∧ a ≤ 2147483647) (d : decode M.2.1 pc = .ok (.ifCond .eq off, 3)) (ht : (pc : Int) + off = (tgt : Int)) (kt : a = 0 → G tgt L st h k n) (kf : ¬ a = 0 → G (pc + 3) L st h k n) : G pc L (iv a :: st) h k n := by
  obtain ⟨p, e, s, m, args, below, meth, c, A, Q, ⟨hx, hb, hml, hown, hts, hnm, hlk, hW, hA0⟩, hX, rfl⟩ := C
  intro H locs ls hV hA hS hL
  have rb : -2147483648 ≤ (0 : Int) ∧ (0 : Int) ≤ 2147483647 := by decide
  refine lv_if_eq hx hb d ht (fun c => kt ?_ H locs ls hV hA hS hL) (fun c => kf ?_ H locs ls hV hA hS hL)
  · rw [gk_0] at c; rw [gk_eq ra rb] at c; omega
  · rw [gk_0] at c; rw [gk_eq ra rb] at c; omega
theorem gk_icmp_ne (C : Cx l Γ M G X) {a b : Int} {off : Int} {tgt : Nat} (ra : -2147483648 ≤ a ∧ a ≤ 2147483647) (rb : -2147483648 ≤ b ∧ b ≤ 2147483647) (d : decode M.2.1 pc = .ok (.if_icmp .ne off, 3)) (ht : (pc : Int) + off = (tgt : Int)) (kt : ¬ a = b → G tgt L st h k n) (kf : a = b → G (pc + 3) L st h k n) : G pc L (iv b :: iv a :: st) h k n := by
  obtain ⟨p, e, s, m, args, below, meth, c, A, Q, ⟨hx, hb, hml, hown, hts, hnm, hlk, hW, hA0⟩, hX, rfl⟩ := C
  intro H locs ls hV hA hS hL
  refine lv_icmp_ne hx hb d ht (fun c => kt ?_ H locs ls hV hA hS hL) (fun c => kf ?_ H locs ls hV hA hS hL)
  · rw [gk_eq ra rb] at c; omega
  · rw [gk_eq ra rb] at c; omega
theorem gk_if_ne (C : Cx l Γ M G X) {a : Int} {off : Int} {tgt : Nat} (ra : -2147483648 ≤ a ∧ a ≤ 2147483647) (d : decode M.2.1 pc = .ok (.ifCond .ne off, 3)) (ht : (pc : Int) + off = (tgt : Int)) (kt : ¬ a = 0 → G tgt L st h k n) (kf : a = 0 → G (pc + 3) L st h k n) : G pc L (iv a :: st) h k n := by
  obtain ⟨p, e, s, m, args, below, meth, c, A, Q, ⟨hx, hb, hml, hown, hts, hnm, hlk, hW, hA0⟩, hX, rfl⟩ := C
  intro H locs ls hV hA hS hL
  have rb : -2147483648 ≤ (0 : Int) ∧ (0 : Int) ≤ 2147483647 := by decide
  refine lv_if_ne hx hb d ht (fun c => kt ?_ H locs ls hV hA hS hL) (fun c => kf ?_ H locs ls hV hA hS hL)
  · rw [gk_0] at c; rw [gk_eq ra rb] at c; omega
  · rw [gk_0] at c; rw [gk_eq ra rb] at c; omega
theorem gk_icmp_lt (C : Cx l Γ M G X) {a b : Int} {off : Int} {tgt : Nat} (ra : -2147483648 ≤ a ∧ a ≤ 2147483647) (rb : -2147483648 ≤ b ∧ b ≤ 2147483647) (d : decode M.2.1 pc = .ok (.if_icmp .lt off, 3)) (ht : (pc : Int) + off = (tgt : Int)) (kt : a < b → G tgt L st h k n) (kf : b ≤ a → G (pc + 3) L st h k n) : G pc L (iv b :: iv a :: st) h k n := by
  obtain ⟨p, e, s, m, args, below, meth, c, A, Q, ⟨hx, hb, hml, hown, hts, hnm, hlk, hW, hA0⟩, hX, rfl⟩ := C
  intro H locs ls hV hA hS hL
  refine lv_icmp_lt hx hb d ht (fun c => kt ?_ H locs ls hV hA hS hL) (fun c => kf ?_ H locs ls hV hA hS hL)
  · rw [gk_lt ra rb] at c; omega
  · rw [gk_lt ra rb] at c; omega
theorem gk_if_lt (C : Cx l Γ M G X) {a : Int} {off : Int} {tgt : Nat} (ra : -2147483648 ≤ a ∧ a ≤ 2147483647) (d : decode M.2.1 pc = .ok (.ifCond .lt off, 3)) (ht : (pc : Int) + off = (tgt : Int)) (kt : a < 0 → G tgt L st h k n) (kf : 0 ≤ a → G (pc + 3) L st h k n) : G pc L (iv a :: st) h k n := by
  obtain ⟨p, e, s, m, args, below, meth, c, A, Q, ⟨hx, hb, hml, hown, hts, hnm, hlk, hW, hA0⟩, hX, rfl⟩ := C
  intro H locs ls hV hA hS hL
  have rb : -2147483648 ≤ (0 : Int) ∧ (0 : Int) ≤ 2147483647 := by decide
  refine lv_if_lt hx hb d ht (fun c => kt ?_ H locs ls hV hA hS hL) (fun c => kf ?_ H locs ls hV hA hS hL)
  · rw [gk_0] at c; rw [gk_lt ra rb] at c; omega
  · rw [gk_0] at c; rw [gk_lt ra rb] at c; omega
theorem gk_icmp_ge (C : Cx l Γ M G X) {a b : Int} {off : Int} {tgt : Nat} (ra : -2147483648 ≤ a ∧ a ≤ 2147483647) (rb : -2147483648 ≤ b ∧ b ≤ 2147483647) (d : decode M.2.1 pc = .ok (.if_icmp .ge off, 3)) (ht : (pc : Int) + off = (tgt : Int)) (kt : b ≤ a → G tgt L st h k n) (kf : a < b → G (pc + 3) L st h k n) : G pc L (iv b :: iv a :: st) h k n := by
  obtain ⟨p, e, s, m, args, below, meth, c, A, Q, ⟨hx, hb, hml, hown, hts, hnm, hlk, hW, hA0⟩, hX, rfl⟩ := C
  intro H locs ls hV hA hS hL
  refine lv_icmp_ge hx hb d ht (fun c => kt ?_ H locs ls hV hA hS hL) (fun c => kf ?_ H locs ls hV hA hS hL)
  · rw [gk_le rb ra] at c; omega
  · rw [gk_le rb ra] at c; omega
theorem gk_if_ge (C : Cx l Γ M G X) {a : Int} {off : Int} {tgt : Nat} (ra : -2147483648 ≤ a ∧ a ≤ 2147483647) (d : decode M.2.1 pc = .ok (.ifCond .ge off, 3)) (ht : (pc : Int) + off = (tgt : Int)) (kt : 0 ≤ a → G tgt L st h k n) (kf : a < 0 → G (pc + 3) L st h k n) : G pc L (iv a :: st) h k n := by
  obtain ⟨p, e, s, m, args, below, meth, c, A, Q, ⟨hx, hb, hml, hown, hts, hnm, hlk, hW, hA0⟩, hX, rfl⟩ := C
  intro H locs ls hV hA hS hL
  have rb : -2147483648 ≤ (0 : Int) ∧ (0 : Int) ≤ 2147483647 := by decide
  refine lv_if_ge hx hb d ht (fun c => kt ?_ H locs ls hV hA hS hL) (fun c => kf ?_ H locs ls hV hA hS hL)
  · rw [gk_0] at c; rw [gk_le rb ra] at c; omega
  · rw [gk_0] at c; rw [gk_le rb ra] at c; omega
theorem gk_icmp_gt (C : Cx l Γ M G X) {a b : Int} {off : Int} {tgt : Nat} (ra : -2147483648 ≤ a ∧ a ≤ 2147483647) (rb : -2147483648 ≤ b ∧ b ≤ 2147483647) (d : decode M.2.1 pc = .ok (.if_icmp .gt off, 3)) (ht : (pc : Int) + off = (tgt : Int)) (kt : b < a → G tgt L st h k n) (kf : a ≤ b → G (pc + 3) L st h k n) : G pc L (iv b :: iv a :: st) h k n := by
  obtain ⟨p, e, s, m, args, below, meth, c, A, Q, ⟨hx, hb, hml, hown, hts, hnm, hlk, hW, hA0⟩, hX, rfl⟩ := C
  intro H locs ls hV hA hS hL
  refine lv_icmp_gt hx hb d ht (fun c => kt ?_ H locs ls hV hA hS hL) (fun c => kf ?_ H locs ls hV hA hS hL)
  · rw [gk_lt rb ra] at c; omega
  · rw [gk_lt rb ra] at c; omega
theorem gk_if_gt (C : Cx l Γ M G X) {a : Int} {off : Int} {tgt : Nat} (ra : -2147483648 ≤ a ∧ a ≤ 2147483647) (d : decode M.2.1 pc = .ok (.ifCond .gt off, 3)) (ht : (pc : Int) + off = (tgt : Int)) (kt : 0 < a → G tgt L st h k n) (kf : a ≤ 0 → G (pc + 3) L st h k n) : G pc L (iv a :: st) h k n := by
  obtain ⟨p, e, s, m, args, below, meth, c, A, Q, ⟨hx, hb, hml, hown, hts, hnm, hlk, hW, hA0⟩, hX, rfl⟩ := C
  intro H locs ls hV hA hS hL
  have rb : -2147483648 ≤ (0 : Int) ∧ (0 : Int) ≤ 2147483647 := by decide
  refine lv_if_gt hx hb d ht (fun c => kt ?_ H locs ls hV hA hS hL) (fun c => kf ?_ H locs ls hV hA hS hL)
  · rw [gk_0] at c; rw [gk_lt rb ra] at c; omega
  · rw [gk_0] at c; rw [gk_lt rb ra] at c; omega
theorem gk_icmp_le (C : Cx l Γ M G X) {a b : Int} {off : Int} {tgt : Nat} (ra : -2147483648 ≤ a ∧ a ≤ 2147483647) (rb : -2147483648 ≤ b ∧ b ≤ 2147483647) (d : decode M.2.1 pc = .ok (.if_icmp .le off, 3)) (ht : (pc : Int) + off = (tgt : Int)) (kt : a ≤ b → G tgt L st h k n) (kf : b < a → G (pc + 3) L st h k n) : G pc L (iv b :: iv a :: st) h k n := by
  obtain ⟨p, e, s, m, args, below, meth, c, A, Q, ⟨hx, hb, hml, hown, hts, hnm, hlk, hW, hA0⟩, hX, rfl⟩ := C
  intro H locs ls hV hA hS hL
  refine lv_icmp_le hx hb d ht (fun c => kt ?_ H locs ls hV hA hS hL) (fun c => kf ?_ H locs ls hV hA hS hL)
  · rw [gk_le ra rb] at c; omega
  · rw [gk_le ra rb] at c; omega
theorem gk_if_le (C : Cx l Γ M G X) {a : Int} {off : Int} {tgt : Nat} (ra : -2147483648 ≤ a ∧ a ≤ 2147483647) (d : decode M.2.1 pc = .ok (.ifCond .le off, 3)) (ht : (pc : Int) + off = (tgt : Int)) (kt : a ≤ 0 → G tgt L st h k n) (kf : 0 < a → G (pc + 3) L st h k n) : G pc L (iv a :: st) h k n := by
  obtain ⟨p, e, s, m, args, below, meth, c, A, Q, ⟨hx, hb, hml, hown, hts, hnm, hlk, hW, hA0⟩, hX, rfl⟩ := C
  intro H locs ls hV hA hS hL
  have rb : -2147483648 ≤ (0 : Int) ∧ (0 : Int) ≤ 2147483647 := by decide
  refine lv_if_le hx hb d ht (fun c => kt ?_ H locs ls hV hA hS hL) (fun c => kf ?_ H locs ls hV hA hS hL)
  · rw [gk_0] at c; rw [gk_le ra rb] at c; omega
  · rw [gk_0] at c; rw [gk_le ra rb] at c; omega
theorem gk_goto (C : Cx l Γ M G X) {off : Int} {tgt : Nat} (d : decode M.2.1 pc = .ok (.goto off, 3)) (ht : (pc : Int) + off = (tgt : Int)) (kk : G tgt L st h k n) : G pc L st h k n := by
  obtain ⟨p, e, s, m, args, below, meth, c, A, Q, ⟨hx, hb, hml, hown, hts, hnm, hlk, hW, hA0⟩, hX, rfl⟩ := C
  intro H locs ls hV hA hS hL
  exact lv_goto hx hb d ht (kk H locs ls hV hA hS hL)
theorem gk_acmp_eq (C : Cx l Γ M G X) {x y : Nat} {off : Int} {tgt : Nat} (d : decode M.2.1 pc = .ok (.if_acmp .eq off, 3)) (ht : (pc : Int) + off = (tgt : Int)) (kt : x = y → G tgt L st h k n) (kf : ¬ x = y → G (pc + 3) L st h k n) : G pc L (.ref y :: .ref x :: st) h k n := by
  obtain ⟨p, e, s, m, args, below, meth, c, A, Q, ⟨hx, hb, hml, hown, hts, hnm, hlk, hW, hA0⟩, hX, rfl⟩ := C
  intro H locs ls hV hA hS hL
  exact lv_acmp_eq (rx := some x) (ry := some y) hx hb d ht (fun c => kt (Option.some.inj c) H locs ls hV hA hS hL) (fun c => kf (fun z => c (congrArg some z)) H locs ls hV hA hS hL)
theorem gk_tableOut (C : Cx l Γ M G X) {a : Int} {dflt lo hi : Int} {offs : Array Int} {len tgt : Nat} (ra : -2147483648 ≤ a ∧ a ≤ 2147483647) (d : decode M.2.1 pc = .ok (.tableswitch dflt lo hi offs, len)) (hh : a < lo ∨ hi < a) (ht : (pc : Int) + dflt = (tgt : Int)) (kk : G tgt L st h k n) : G pc L (iv a :: st) h k n := by
  obtain ⟨p, e, s, m, args, below, meth, c, A, Q, ⟨hx, hb, hml, hown, hts, hnm, hlk, hW, hA0⟩, hX, rfl⟩ := C
  intro H locs ls hV hA hS hL
  exact lv_tableOut hx hb d (by rw [gk_toInt ra]; exact hh) ht (kk H locs ls hV hA hS hL)
theorem gk_tableIn (C : Cx l Γ M G X) {a : Int} {dflt lo hi off : Int} {offs : Array Int} {len tgt : Nat} (ra : -2147483648 ≤ a ∧ a ≤ 2147483647) (d : decode M.2.1 pc = .ok (.tableswitch dflt lo hi offs, len)) (h1 : lo ≤ a) (h2 : a ≤ hi) (ho : offs[(a - lo).toNat]? = some off) (ht : (pc : Int) + off = (tgt : Int)) (kk : G tgt L st h k n) : G pc L (iv a :: st) h k n := by
  obtain ⟨p, e, s, m, args, below, meth, c, A, Q, ⟨hx, hb, hml, hown, hts, hnm, hlk, hW, hA0⟩, hX, rfl⟩ := C
  intro H locs ls hV hA hS hL
  exact lv_tableIn hx hb d (by rw [gk_toInt ra]; omega) (by rw [gk_toInt ra]; omega) (by rw [gk_toInt ra]; exact ho) ht (kk H locs ls hV hA hS hL)
theorem gk_lookup (C : Cx l Γ M G X) {a : Int} {dflt off : Int} {ps : Array (Int × Int)} {len tgt : Nat} (ra : -2147483648 ≤ a ∧ a ≤ 2147483647) (d : decode M.2.1 pc = .ok (.lookupswitch dflt ps, len)) (hp : (ps.toList.zip (ps.toList.drop 1)).all (fun (a, next) => a.1 < next.1) = true) (ho : Op.lookupswitch.offset ps.toList dflt a = off) (ht : (pc : Int) + off = (tgt : Int)) (kk : G tgt L st h k n) : G pc L (iv a :: st) h k n := by
  obtain ⟨p, e, s, m, args, below, meth, c, A, Q, ⟨hx, hb, hml, hown, hts, hnm, hlk, hW, hA0⟩, hX, rfl⟩ := C
  intro H locs ls hV hA hS hL
  exact lv_lookup hx hb d hp (by rw [gk_toInt ra]; exact ho) ht (kk H locs ls hV hA hS hL)
end GK
