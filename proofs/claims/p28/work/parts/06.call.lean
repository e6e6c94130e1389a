/-! calls, the start and the end of a body -/
def gk_push (v : Option Value) (st : List Value) : List Value := match v with
  | none => st
  | some x => x :: st
theorem gk_push_is (v : Option Value) (st : List Value) : gk_push v st = v.toList ++ st := by cases v <;> rfl
/-- what the tables say of a callee -/
def gk_M (M : MD) (na : Nat) : Prop := Cond.code M.1 M.2.1 M.2.2.1 M.2.2.2.1 ∈ gk_WS ∧ Cond.initialized M.1.cls ∈ gk_WS ∧ M.1.cls ≠ "java/lang/invoke/MethodHandle" ∧ M.1.cls ≠ "java/lang/invoke/VarHandle" ∧ (parseMethodDescriptor M.1.desc).map (fun d => d.parameters.length) = some na
/-- the links of a call: of an instance method, of a static one, of a constructor -/
def gk_KV (own : String) (idx : Nat) (y : MethodName) : Prop := (Cond.methodLink own idx y ∈ gk_WS ∨ ∃ host, Cond.methodLinkNest own idx y host ∈ gk_NW) ∧ Cond.instanceMethod y ∈ gk_WS ∧ Cond.selects y.cls y y ∈ gk_WS
def gk_KS (own : String) (idx : Nat) (y : MethodName) : Prop := Cond.methodLink own idx y ∈ gk_WS ∧ Cond.static y ∈ gk_WS
def gk_KI (own : String) (idx : Nat) (y : MethodName) : Prop := (Cond.methodLink own idx y ∈ gk_WS ∨ ∃ host, Cond.methodLinkNest own idx y host ∈ gk_NW) ∧ Cond.instanceMethod y ∈ gk_WS ∧ y.name = "<init>"
theorem gk_pay {s : State} {args : Array Value} (hts : ∀ w ∈ gk_WS, w.before args s = true) {w0 : Cond} (h0 : w0 ∈ gk_WS) : ∀ w ∈ w0 :: gk_WS, ∀ (a' : Array Value) (U : State), s.WarmedH U.vm → w.before a' U = true := by
  intro w hw a' U hW
  have h1 : w ∈ gk_WS := by
    rcases List.mem_cons.mp hw with rfl | h1
    · exact h0
    · exact h1
  exact word_at hW (good_of_word (List.mem_filter.mp h1).2) (hts w h1)
theorem gk_blind {Γ : GA} {As : List Value} {h : Hp} {sz : Nat} : FrameBlind (gk_Pc Γ As h sz) := by
  intro a U g mk q
  obtain ⟨q0, q1, q2, q3⟩ := q
  exact ⟨q0, q1, q2, gk_W.same (s := U) (U := U.calling g mk a) rfl q3⟩
section GC
variable {l : Launch} {Γ : GA} {M : MD} {G : GP} {X : String → Hp → Nat → Nat → Prop} {pc : Nat} {L : List (Option Value)} {st S : List Value} {h : Hp} {k n : Nat}
/-- behind a call -/
theorem gk_back {p : Program} {e : Env} {s : State} {m : MethodId} {args : Array Value} {below : List Frame} {meth : Method} {c : Code} {A : Nat → Prop} {Q : State → Prop} {M' : MD} {post : Option Value → Hp → Prop} {px : String → Hp → Prop} {H : Heap} {locs : List Loc} {ls : Array Slot} {av : Array Value}
    (hA0 : ∀ q, s.heap.size ≤ q → A q) (hX : gk_Gx p l e (gk_room M) s m args below meth c Γ A Q X) (hA : ∀ q, h q ≠ none → A q) (hS : va_S A s.heap H locs) (hL : gk_L ls M.2.2.1 L)
    (run : vx_Run p l e (gk_room M) s m args below meth c H locs k n M'.2.2.2.2.2.2.1 M'.2.2.2.2.2.2.2 (F0 m pc ls S) st (gk_Qc Γ h H.size post av) (gk_XC Γ h H.size px) (gk_A h H.size))
    (kx : ∀ E h', px E h' → X E h' (k + M'.2.2.2.2.2.2.1) (n + M'.2.2.2.2.2.2.2))
    (kk : ∀ v h', post v h' → gk_Gd p l e (gk_room M) s m args below meth c Γ A M.2.2.1 Q (pc + 3) L (gk_push v st) h' (k + M'.2.2.2.2.2.2.1) (n + M'.2.2.2.2.2.2.2)) :
    W p l e (gk_room M) s m args below meth c H locs k n Q (F0 m pc ls S) := by
  have hsub : ∀ q, gk_A h H.size q → A q := by
    rintro q (h1 | h1)
    · exact hA q h1
    · exact hA0 q (Nat.le_trans hS.1 h1)
  intro T hT Y
  rcases run T hT Y with ⟨v, st₀, t, T', L', h0, X', hL', e1, e2, ⟨⟨v', h', hv, hp, hV', hA'⟩, hF⟩, goes⟩ | ⟨q, st₀, t, T', L', E, ce, h0, X', hL', e1, e2, ⟨⟨h', hp, hV', hA'⟩, hF⟩, hce, hcv, hcl, steps⟩
  · cases hv
    obtain ⟨k1, k2, k3⟩ := vx_keep h0 e1 hS (fun q _ h => hsub q h) hsub hL' hF
    obtain ⟨t2, a1, b1⟩ := kk v h' hp T'.heap (locs ++ L') ls (by rw [e1]; exact hV') (fun q hq => hsub q (hA' q hq)) k3 hL T' rfl X'
    rw [gk_push_is] at a1
    exact ⟨t2, goes t2 a1, b1⟩
  · obtain ⟨k1, k2, k3⟩ := vx_keep h0 e1 hS (fun q _ h => hsub q h) hsub hL' hF
    obtain ⟨t2, a1, b1⟩ := hX E h' _ _ (kx E h' hp) pc ls st T'.heap (locs ++ L') q ce (by rw [e1]; exact hV') (fun q hq => hsub q (hA' q hq)) k3 (by rw [e1]; exact hce) hcv hcl T' rfl X'
    exact ⟨t2, steps.trans a1, b1⟩
theorem gk_pre {s : State} {A : Nat → Prop} {H : Heap} {locs : List Loc} {As : List Value} (hA0 : ∀ q, s.heap.size ≤ q → A q) (hW : gk_W Γ A s s.heap) (hV : gk_V Γ h H) (hA : ∀ q, h q ≠ none → A q) (hS : va_S A s.heap H locs) :
    ∀ U : State, U.heap = H → s.WarmedH U.vm → gk_Pc Γ As h H.size As.toArray U := by
  intro U hU hWU
  have hsub : ∀ q, gk_A h H.size q → A q := by
    rintro q (h1 | h1)
    · exact hA q h1
    · exact hA0 q (Nat.le_trans hS.1 h1)
  exact ⟨rfl, by rw [hU], by rw [hU]; exact hV, by rw [hU]; exact gk_W.narrow hsub (gk_W.warm hWU (gk_W.kept (fun a h1 h2 => hS.2.1 a h1 h2) hW))⟩
theorem gk_callV (C : Cx l Γ M G X) {idx na ci b : Nat} {M' : MD} {As : List Value} {fs : List Value} {T : u_T} {N : Nat} {post : Option Value → Hp → Prop} {px : String → Hp → Prop}
    (hM : gk_M M' na) (hk : gk_KV M.1.cls idx M'.1) (d : decode M.2.1 pc = .ok (.invokevirtual idx, 3)) (hc : Ct l Γ M' (.ref b :: As) h post px) (hb : h b = some (oO ci fs)) (hci : vwCl[ci]? = some (M'.1.cls, T, N)) (hn : As.length = na) (hS : S = As.reverse ++ .ref b :: st)
    (hfit : M'.2.2.2.2.1 + 1 ≤ M.2.2.2.2.1 ∧ 8 + (M'.2.2.1 + 11) + M'.2.2.2.2.2.1 ≤ M.2.2.2.2.2.1) (hbud : k + M'.2.2.2.2.2.2.1 ≤ M.2.2.2.2.2.2.1 ∧ n + M'.2.2.2.2.2.2.2 ≤ M.2.2.2.2.2.2.2) (hst : (st.map fun v => v.category).sum ≤ 8)
    (kx : ∀ E h', px E h' → X E h' (k + M'.2.2.2.2.2.2.1) (n + M'.2.2.2.2.2.2.2)) (kk : ∀ v h', post v h' → G (pc + 3) L (gk_push v st) h' (k + M'.2.2.2.2.2.2.1) (n + M'.2.2.2.2.2.2.2)) : G pc L S h k n := by
  obtain ⟨p, e, s, m, args, below, meth, c, A, Q, ⟨hx, hcb, hml, hown, hts, hnm, hlk, hW, hA0⟩, hX, rfl⟩ := C
  intro H locs ls hV hA hS2 hL
  obtain ⟨hl, hin, hse⟩ := hk
  obtain ⟨m1, m2, m3, m4, m5⟩ := hM
  have hlen : ∀ sig, parseMethodDescriptor M'.1.desc = some sig → na = sig.parameters.length := by
    intro sig hs
    rw [hs] at m5
    exact (Option.some.inj m5).symm
  have hrecv : ∃ cellB : Cell, H[b]? = some cellB ∧ cellB.vm.isStatics = false ∧ s.vm.findClass M'.1.cls = some cellB.cls := va_recv (D := Γ.1) (q0 := 0) hW.1 (gk_one hV hb) hci rfl
  have hpre := gk_pre (As := .ref b :: As) hA0 hW hV hA hS2
  rcases hl with hl | ⟨host, hl⟩
  · exact gk_back hA0 hX hA hS2 hL (vx_runV (g := F0 m pc ls S) (As := As) (rest := st) ⟨hx, hcb, hml, hown, hts⟩ (hc H.size) ⟨⟨rfl, rfl, hfit.1, hfit.2, gk_pay hts m1, List.mem_cons_self, hts _ m1, hts _ m2, ⟨m3, m4⟩, hlen, hts _ hl⟩, hts _ hin, hts _ hse⟩ ⟨gk_blind, hrecv, hpre⟩ rfl hn hL.1 hS (lv_room hst) d hbud) kx kk
  · exact gk_back hA0 hX hA hS2 hL (vx_runVN (g := F0 m pc ls S) (As := As) (rest := st) ⟨hx, hcb, hml, hown, hts⟩ (hc H.size) ⟨⟨⟨rfl, rfl, hfit.1, hfit.2, gk_pay hts m1, List.mem_cons_self⟩, hts _ m1, hts _ m2, ⟨m3, m4⟩, hlen, va_Nw.use (gk_nw_tab hl) (hW.2.1 _ hl)⟩, hts _ hin, hts _ hse⟩ ⟨gk_blind, hrecv, hpre⟩ rfl hn hL.1 hS (lv_room hst) d hbud) kx kk
theorem gk_callS (C : Cx l Γ M G X) {idx na : Nat} {M' : MD} {As : List Value} {post : Option Value → Hp → Prop} {px : String → Hp → Prop}
    (hM : gk_M M' na) (hk : gk_KS M.1.cls idx M'.1) (d : decode M.2.1 pc = .ok (.invokestatic idx, 3)) (hc : Ct l Γ M' As h post px) (hn : As.length = na) (hS : S = As.reverse ++ st)
    (hfit : M'.2.2.2.2.1 + 1 ≤ M.2.2.2.2.1 ∧ 8 + (M'.2.2.1 + 11) + M'.2.2.2.2.2.1 ≤ M.2.2.2.2.2.1) (hbud : k + M'.2.2.2.2.2.2.1 ≤ M.2.2.2.2.2.2.1 ∧ n + M'.2.2.2.2.2.2.2 ≤ M.2.2.2.2.2.2.2) (hst : (st.map fun v => v.category).sum ≤ 8)
    (kx : ∀ E h', px E h' → X E h' (k + M'.2.2.2.2.2.2.1) (n + M'.2.2.2.2.2.2.2)) (kk : ∀ v h', post v h' → G (pc + 3) L (gk_push v st) h' (k + M'.2.2.2.2.2.2.1) (n + M'.2.2.2.2.2.2.2)) : G pc L S h k n := by
  obtain ⟨p, e, s, m, args, below, meth, c, A, Q, ⟨hx, hcb, hml, hown, hts, hnm, hlk, hW, hA0⟩, hX, rfl⟩ := C
  intro H locs ls hV hA hS2 hL
  obtain ⟨hl, hin⟩ := hk
  obtain ⟨m1, m2, m3, m4, m5⟩ := hM
  have hlen : ∀ sig, parseMethodDescriptor M'.1.desc = some sig → na = sig.parameters.length := by
    intro sig hs
    rw [hs] at m5
    exact (Option.some.inj m5).symm
  exact gk_back hA0 hX hA hS2 hL (vx_runS (g := F0 m pc ls S) (As := As) (rest := st) ⟨hx, hcb, hml, hown, hts⟩ (hc H.size) ⟨⟨rfl, rfl, hfit.1, hfit.2, gk_pay hts m1, List.mem_cons_self, hts _ m1, hts _ m2, ⟨m3, m4⟩, hlen, hts _ hl⟩, hts _ hin⟩ ⟨gk_blind, gk_pre hA0 hW hV hA hS2⟩ rfl hn hL.1 hS (lv_room hst) d hbud) kx kk
theorem gk_callI (C : Cx l Γ M G X) {idx na b : Nat} {M' : MD} {As : List Value} {post : Option Value → Hp → Prop} {px : String → Hp → Prop}
    (hM : gk_M M' na) (hr : M'.2.2.2.1 = none) (hk : gk_KI M.1.cls idx M'.1) (d : decode M.2.1 pc = .ok (.invokespecial idx, 3)) (hc : Ct l Γ M' (.ref b :: As) h post px) (hn : As.length = na) (hS : S = As.reverse ++ .ref b :: st)
    (hfit : M'.2.2.2.2.1 + 1 ≤ M.2.2.2.2.1 ∧ 8 + (M'.2.2.1 + 11) + M'.2.2.2.2.2.1 ≤ M.2.2.2.2.2.1) (hbud : k + M'.2.2.2.2.2.2.1 ≤ M.2.2.2.2.2.2.1 ∧ n + M'.2.2.2.2.2.2.2 ≤ M.2.2.2.2.2.2.2) (hst : (st.map fun v => v.category).sum ≤ 8)
    (kx : ∀ E h', px E h' → X E h' (k + M'.2.2.2.2.2.2.1) (n + M'.2.2.2.2.2.2.2)) (kk : ∀ v h', post v h' → G (pc + 3) L (gk_push v st) h' (k + M'.2.2.2.2.2.2.1) (n + M'.2.2.2.2.2.2.2)) : G pc L S h k n := by
  obtain ⟨p, e, s, m, args, below, meth, c, A, Q, ⟨hx, hcb, hml, hown, hts, hnm, hlk, hW, hA0⟩, hX, rfl⟩ := C
  intro H locs ls hV hA hS2 hL
  obtain ⟨hl, hin, hy1⟩ := hk
  obtain ⟨m1, m2, m3, m4, m5⟩ := hM
  have hlen : ∀ sig, parseMethodDescriptor M'.1.desc = some sig → na = sig.parameters.length := by
    intro sig hs
    rw [hs] at m5
    exact (Option.some.inj m5).symm
  have hpre := gk_pre (As := .ref b :: As) hA0 hW hV hA hS2
  have hc2 := hc H.size
  rw [hr] at m1 hc2
  rcases hl with hl | ⟨host, hl⟩
  · exact gk_back hA0 hX hA hS2 hL (vx_runI (g := F0 m pc ls S) (As := As) (rest := st) ⟨hx, hcb, hml, hown, hts⟩ hc2 ⟨⟨rfl, rfl, hfit.1, hfit.2, gk_pay hts m1, List.mem_cons_self, hts _ m1, hts _ m2, ⟨m3, m4⟩, hlen, hts _ hl⟩, hy1, hts _ hin⟩ ⟨gk_blind, hpre⟩ rfl hn hL.1 hS (lv_room hst) d hbud) kx kk
  · exact gk_back hA0 hX hA hS2 hL (vx_runIN (g := F0 m pc ls S) (As := As) (rest := st) ⟨hx, hcb, hml, hown, hts⟩ hc2 ⟨⟨⟨rfl, rfl, hfit.1, hfit.2, gk_pay hts m1, List.mem_cons_self⟩, hts _ m1, hts _ m2, ⟨m3, m4⟩, hlen, va_Nw.use (gk_nw_tab hl) (hW.2.1 _ hl)⟩, hy1, hts _ hin⟩ ⟨gk_blind, hpre⟩ rfl hn hL.1 hS (lv_room hst) d hbud) kx kk
end GC
/-- the ends of a body of M, with an answer or a throw -/
def gk_Rt (M : MD) (G : GP) (post : Option Value → Hp → Prop) : Prop := ∀ (pc : Nat) (L : List (Option Value)) (h : Hp) (k n : Nat), k ≤ M.2.2.2.2.2.2.1 → n ≤ M.2.2.2.2.2.2.2 →
  (∀ z : Int, M.2.2.2.1 = some .int → decode M.2.1 pc = .ok (.ireturn, 1) → post (some (iv z)) h → G pc L [iv z] h k n)
  ∧ (∀ z : Int, M.2.2.2.1 = some .boolean → (z = 0 ∨ z = 1) → decode M.2.1 pc = .ok (.ireturn, 1) → post (some (iv z)) h → G pc L [iv z] h k n)
  ∧ (M.2.2.2.1 = none → decode M.2.1 pc = .ok (.return_, 1) → post none h → G pc L [] h k n)
  ∧ (∀ (a : Nat) (rt : FieldType), M.2.2.2.1 = some rt → ((∃ n, rt = .object n) ∨ ∃ t, rt = .array t) → decode M.2.1 pc = .ok (.areturn, 1) → post (some (.ref a)) h → G pc L [.ref a] h k n)
  ∧ (∀ z : Int, M.2.2.2.1 = some .long → decode M.2.1 pc = .ok (.lreturn, 1) → post (some (jv z)) h → G pc L [jv z] h k n)
  ∧ (∀ z : UInt32, M.2.2.2.1 = some .float → decode M.2.1 pc = .ok (.freturn, 1) → post (some (.float z)) h → G pc L [.float z] h k n)
def gk_names : List String := ["java/lang/RuntimeException", "java/lang/Exception"]
/-- 'throw new E(text)' at pc -/
def gk_Th (own : String) (E : String) (ik is ic : Nat) (tx : String) : Prop := Bundle.fit E = true ∧ Cond.classLink own ik E ∈ gk_WS ∧ Cond.initialized E ∈ gk_WS ∧ (own, is, tx) ∈ gk_txt ∧ (∀ w ∈ vx_atS own ic E gk_names, w ∈ gk_WS ∨ w ∈ gk_NW)
def gk_td (cc : ByteArray) (pc ik is ic : Nat) : Prop := decode cc pc = .ok (.new ik, 3) ∧ decode cc (pc + 3) = .ok (.dup, 1) ∧
  ((decode cc (pc + 4) = .ok (.ldc is, 2) ∧ decode cc (pc + 6) = .ok (.invokespecial ic, 3) ∧ decode cc (pc + 9) = .ok (.athrow, 1)) ∨ (decode cc (pc + 4) = .ok (.ldc_w is, 3) ∧ decode cc (pc + 7) = .ok (.invokespecial ic, 3) ∧ decode cc (pc + 10) = .ok (.athrow, 1)))
def gk_Tw (M : MD) (G : GP) (px : String → Hp → Prop) : Prop := ∀ (pc : Nat) (L : List (Option Value)) (st : List Value) (h : Hp) (k n : Nat) (E tx : String) (ik is ic : Nat), gk_Th M.1.cls E ik is ic tx → px E h →
  5 < M.2.2.2.2.1 → (st.map fun v => v.category).sum + 82 ≤ M.2.2.2.2.2.1 → k + 1 ≤ M.2.2.2.2.2.2.1 → n + 6 ≤ M.2.2.2.2.2.2.2 → gk_td M.2.1 pc ik is ic → G pc L st h k n
def gk_px (M : MD) (px : String → Hp → Prop) : String → Hp → Nat → Nat → Prop := fun E h k n => px E h ∧ k ≤ M.2.2.2.2.2.2.1 ∧ n ≤ M.2.2.2.2.2.2.2
theorem gk_ents : ∀ (As : List Value) (i0 : Nat), (∀ v ∈ As, v.category = 1) → ∀ (i : Nat) (v : Value), As[i]? = some v → (i0 + i, v) ∈ lv_args i0 As
  | [], i0, _, i, v, h => by simp at h
  | a :: r, i0, hc, i, v, h => by
    have ha : a.category = 1 := hc a List.mem_cons_self
    cases i with
    | zero =>
      rw [List.getElem?_cons_zero] at h
      cases h
      simp [lv_args]
    | succ i =>
      rw [List.getElem?_cons_succ] at h
      have ih := gk_ents r (i0 + 1) (fun v hv => hc v (List.mem_cons_of_mem _ hv)) i v h
      have e : i0 + (i + 1) = i0 + 1 + i := by omega
      rw [e]
      simp only [lv_args, ha]
      exact List.mem_cons_of_mem _ ih
theorem gk_entL {As : List Value} {nL : Nat} {ls : Array Slot} (hc : ∀ v ∈ As, v.category = 1) (hl : lv_has ls nL (lv_args 0 As)) : gk_L ls nL (As.map some ++ List.replicate (nL - As.length) none) := by
  refine ⟨hl.1, hl.2.1, fun i v hi => ?_⟩
  by_cases q : i < As.length
  · rw [List.getElem?_append_left (by rw [List.length_map]; exact q), List.getElem?_map] at hi
    have h2 : As[i]? = some v := by
      cases hA : As[i]? with
      | none => rw [hA] at hi; cases hi
      | some w => rw [hA] at hi; cases hi; rfl
    have h3 := gk_ents As 0 hc i v h2
    rw [Nat.zero_add] at h3
    exact hl.2.2 (i, v) h3
  · rw [List.getElem?_append_right (by rw [List.length_map]; omega)] at hi
    have h4 := List.mem_of_getElem? hi
    have h5 := (List.mem_replicate.mp h4).2
    cases h5
/-- THE START: whoever walks the body of M from its entry, with the frame C, the ends R and the throws T, has the contract -/
theorem Ct.intro {l : Launch} {Γ : GA} {M : MD} {As : List Value} {h : Hp} {post : Option Value → Hp → Prop} {px : String → Hp → Prop} (hfl : l.stackTraces = false) (hy : plainName M.1.cls = true) (hcatb : As.all (fun v => v.category == 1) = true) (hfit : (lg_sl As).length ≤ M.2.2.1)
    (body : ∀ G : GP, Cx l Γ M G (gk_px M px) → gk_Rt M G post → gk_Tw M G px → G 0 (As.map some ++ List.replicate (M.2.2.1 - As.length) none) [] h 0 0) : Ct l Γ M As h post px := by
  have hcat : ∀ v ∈ As, v.category = 1 := fun v hv => eq_of_beq (List.all_eq_true.mp hcatb v hv)
  intro sz
  refine vx_ofW hy rfl ?_
  intro p e s m args below meth c s₁ B hml htab hv
  obtain ⟨rfl, hsz, hV, hW⟩ := hv
  have hx := B.exec
  have hb := B.bytes
  have hr := B.returns
  have hts0 := atoms_spec (ws := .code M.1 M.2.1 M.2.2.1 M.2.2.2.1 :: gk_WS) B.pre
  have hts : ∀ w ∈ gk_WS, w.before As.toArray s = true := fun w hw => hts0 w (List.mem_cons_of_mem _ hw)
  have hown : s.vm.findClass M.1.cls = some m.cls := findClass_of_methodNamed B.named
  have hlocks := B.notSynchronized
  have hin : meth.name = M.1.name := (name_of_methodNamed B.named B.method).1
  have hA0 : ∀ q : Nat, s.heap.size ≤ q → gk_A h sz q := fun q hq => Or.inr (by rw [← hsz]; exact hq)
  have hS : va_S (gk_A h sz) s.heap s.heap [] := va_S.rf
  have hl := lv_entry As (n := M.2.2.1) hfit
  rw [lg_entry_eq]
  generalize (lg_sl As ++ List.replicate (M.2.2.1 - (lg_sl As).length) Slot.unset).toArray = ls at hl ⊢
  have hL := gk_entL hcat hl
  have hfree : ∀ {locs : List Loc} {H : Heap}, va_S (gk_A h sz) s.heap H locs → ∀ q ∈ locs, gk_A h sz q.base := fun hS2 => hS2.2.2
  have hQ : ∀ (v : Option Value) (h2 : Hp) (H : Heap) (locs : List Loc), post v h2 → gk_V Γ h2 H → (∀ q, h2 q ≠ none → gk_A h sz q) → va_S (gk_A h sz) s.heap H locs → ∀ t : State, t.heap = H → s.WarmedH t.vm → gk_Qc Γ h sz post As.toArray s (.returned v) t := by
    intro v h2 H locs hp hV2 hA2 hS2 t ht hWt
    exact ⟨⟨v, h2, rfl, hp, by rw [ht]; exact hV2, hA2⟩, hS2.F ht⟩
  refine body (gk_Gd p l e (gk_room M) s m As.toArray below meth c Γ (gk_A h sz) M.2.2.1 (vx_MQ below (gk_Qc Γ h sz post) (gk_XC Γ h sz px) As.toArray s M.2.2.2.2.2.2.1 M.2.2.2.2.2.2.2 (gk_A h sz))) ?_ ?_ ?_ s.heap [] ls hV (fun q hq => Or.inl hq) hS hL
  · refine ⟨p, e, s, m, As.toArray, below, meth, c, gk_A h sz, _, ⟨hx, hb, hml, hown, hts, hin, hlocks, hW, hA0⟩, ?_, rfl⟩
    intro E h2 k2 n2 ⟨hp, hk2, hn2⟩ pc ls2 st2 H locs q ce hV2 hA2 hS2 hce hcv hcl
    exact vx_out (fun x hx2 => (htab x hx2).elim) hlocks hce hcv hcl (fun t ht hal => ⟨⟨h2, hp, by rw [ht]; exact hV2, hA2⟩, hS2.F ht⟩) (hfree hS2) hk2 hn2
  · intro pc L h2 k2 n2 hk2 hn2
    refine ⟨fun z hret d hp => ?_, fun z hret hz d hp => ?_, fun hret d hp => ?_, fun a rt hret hrt d hp => ?_, fun z hret d hp => ?_, fun z hret d hp => ?_⟩
    · intro H locs ls2 hV2 hA2 hS2 hL2
      exact W.widen hk2 hn2 (vx_ret (W.iret hx hb (hr.trans hret) (hQ _ _ _ _ hp hV2 hA2 hS2) (hfree hS2) d hlocks))
    · intro H locs ls2 hV2 hA2 hS2 hL2
      exact W.widen hk2 hn2 (vx_ret (W.zret hx hb (hr.trans hret) (by rcases hz with rfl | rfl <;> rfl) (hQ _ _ _ _ hp hV2 hA2 hS2) (hfree hS2) d hlocks))
    · intro H locs ls2 hV2 hA2 hS2 hL2
      exact W.widen hk2 hn2 (vx_ret (W.vret hx hb (hr.trans hret) (hQ _ _ _ _ hp hV2 hA2 hS2) (hfree hS2) d hlocks))
    · intro H locs ls2 hV2 hA2 hS2 hL2
      exact W.widen hk2 hn2 (vx_ret (W.aret hx hb (hr.trans hret) hrt (Or.inr ⟨a, rfl⟩) (hQ _ _ _ _ hp hV2 hA2 hS2) (hfree hS2) d hlocks))
    · intro H locs ls2 hV2 hA2 hS2 hL2
      exact W.widen hk2 hn2 (vx_ret (W.lret hx hb (hr.trans hret) (hQ _ _ _ _ hp hV2 hA2 hS2) (hfree hS2) d hlocks))
    · intro H locs ls2 hV2 hA2 hS2 hL2
      exact W.widen hk2 hn2 (vx_ret (W.fret hx hb (hr.trans hret) (hQ _ _ _ _ hp hV2 hA2 hS2) (hfree hS2) d hlocks))
  · intro pc L st2 h2 k2 n2 E tx ik is ic ⟨t1, t2, t3, t4, t5⟩ hp hfr hlo hk2 hn2 hd
    intro H locs ls2 hV2 hA2 hS2 hL2
    obtain ⟨-, hNW, hU, hN, -, -, -, -, htx, -⟩ := id hW
    obtain ⟨sa, hsa⟩ := htx _ t4
    have hat : ∀ w ∈ vx_atS M.1.cls ic E gk_names, w.before As.toArray s = true := by
      intro w hw
      rcases t5 w hw with q | q
      · exact hts w q
      · exact va_Nw.use (gk_nw_tab q) (hNW w q)
    have hgood : ∀ w ∈ Cond.classLink M.1.cls ik E :: Cond.initialized E :: vx_atS M.1.cls ic E gk_names, vx_ot w = true := by
      have g1 : ∀ w, w ∈ gk_WS → vx_ot w = true := fun w hw => by
        unfold vx_ot
        rw [(List.mem_filter.mp hw).2, Bool.or_true]
      intro w hw
      rcases List.mem_cons.mp hw with rfl | hw
      · exact g1 _ t2
      · rcases List.mem_cons.mp hw with rfl | hw
        · exact g1 _ t3
        · rcases t5 w hw with q | q
          · exact g1 _ q
          · unfold vx_ot
            rw [gk_nw_tab q, Bool.true_or]
    have hxc : ∀ t : State, s.vm.Alike t.vm → H.size ≤ t.heap.size → (∀ q : Nat, q < H.size → t.heap[q]? = H[q]?) → gk_XC Γ h sz px E s t := by
      intro t hal hz hk
      exact ⟨⟨h2, hp, hV2.kept hk, hA2⟩, Nat.le_trans hS2.1 hz, fun q h1 h3 => (hk q (Nat.lt_of_lt_of_le h1 hS2.1)).trans (hS2.2.1 q h1 h3)⟩
    have hnm : ∀ n ∈ gk_names, Bundle.fit n = true := by decide +kernel
    obtain ⟨d0, d3, ⟨d4, d6, d9⟩ | ⟨d4, d6, d9⟩⟩ := hd
    · exact vx_throwS (names := gk_names) hx hb hfl hown t1 hnm (hts _ t2) (hts _ t3) hsa hat hgood hU hN hS2 (hL2.1.trans hml.symm) d0 d3 d4 d6 d9 (fun x hx2 => (htab x hx2).elim) hfr hlo hk2 hn2 hlocks hxc (hfree hS2) hk2 hn2
    · exact vx_throwSW (names := gk_names) hx hb hfl hown t1 hnm (hts _ t2) (hts _ t3) hsa hat hgood hU hN hS2 (hL2.1.trans hml.symm) d0 d3 d4 d6 d9 (fun x hx2 => (htab x hx2).elim) hfr hlo hk2 hn2 hlocks hxc (hfree hS2) hk2 hn2
