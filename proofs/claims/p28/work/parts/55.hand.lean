/-! contracts of methods with an exception table; heaps side by side; the script -/
/-- the contract of a method with handlers: it comes back, and throws nothing -/
def CtH (l : Launch) (Γ : GA) (M : MD) (hh : List (Nat × Nat × Nat × Nat)) (As : List Value) (h : Hp) (post : Option Value → Hp → Prop) : Prop :=
  ∀ sz : Nat, vx_Met l M.1 (.codeWith M.1 M.2.1 M.2.2.1 M.2.2.2.1 hh :: gk_WS) (gk_room M) (gk_Pc Γ As h sz) (gk_Qc Γ h sz post) (gk_XC Γ h sz (fun _ _ => False)) M.2.2.2.2.2.2.1 M.2.2.2.2.2.2.2 (gk_A h sz)
/-- the frame of a walk of such a body -/
def CxT (l : Launch) (Γ : GA) (M : MD) (hh : List (Nat × Nat × Nat × Nat)) (G : GP) : Prop :=
  ∃ (p : Program) (e : Env) (s : State) (m : MethodId) (args : Array Value) (below : List Frame) (meth : Method) (c : Code) (A : Nat → Prop) (Q : State → Prop),
    (p.tables.exec = Jvm.exec ∧ c.code = M.2.1 ∧ c.maxLocals = M.2.2.1 ∧ s.vm.findClass M.1.cls = some m.cls ∧ (∀ w ∈ gk_WS, w.before args s = true) ∧ meth.name = M.1.name ∧ meth.locks = false ∧ gk_W Γ A s s.heap ∧ (∀ q, s.heap.size ≤ q → A q))
    ∧ c.exceptionTable.toList = tableOf hh
    ∧ G = gk_Gd p l e (gk_room M) s m args below meth c Γ A M.2.2.1 Q
theorem CxT.cx {l : Launch} {Γ : GA} {M : MD} {hh : List (Nat × Nat × Nat × Nat)} {G : GP} (C : CxT l Γ M hh G) : Cx l Γ M G (fun _ _ _ _ => False) := by
  obtain ⟨p, e, s, m, args, below, meth, c, A, Q, hf, ht, hG⟩ := C
  exact ⟨p, e, s, m, args, below, meth, c, A, Q, hf, fun E h k n z => z.elim, hG⟩
/-- E thrown at pc is taken at tgt -/
def gk_hd (own : String) (hh : List (Nat × Nat × Nat × Nat)) (pc : Nat) (E : String) (tgt : Nat) : Prop :=
  ∃ (pre : List ExceptionTableEntry) (x : ExceptionTableEntry) (suf : List ExceptionTableEntry), tableOf hh = pre ++ x :: suf ∧ (∀ z ∈ pre, covers z pc = false ∨ (z.catchType ≠ 0 ∧ ∃ nm : String, Cond.classLink own z.catchType nm ∈ gk_WS ∧ (E, nm) ∈ gk_ncs)) ∧ covers x pc = true ∧ x.catchType ≠ 0 ∧ Cond.classLink own x.catchType E ∈ gk_WS ∧ Cond.castable E E ∈ gk_NW ∧ x.handlerPc = tgt
section GH
variable {l : Launch} {Γ : GA} {M : MD} {G : GP} {X : String → Hp → Nat → Nat → Prop} {pc : Nat} {L : List (Option Value)} {st S : List Value} {h : Hp} {k n : Nat}
theorem gk_backH {p : Program} {e : Env} {s : State} {m : MethodId} {args : Array Value} {below : List Frame} {meth : Method} {c : Code} {A : Nat → Prop} {Q : State → Prop} {M' : MD} {post : Option Value → Hp → Prop} {px : String → Hp → Prop} {H : Heap} {locs : List Loc} {ls : Array Slot} {av : Array Value}
    (hA0 : ∀ q, s.heap.size ≤ q → A q) (hA : ∀ q, h q ≠ none → A q) (hS : va_S A s.heap H locs) (hL : gk_L ls M.2.2.1 L)
    (run : vx_Run p l e (gk_room M) s m args below meth c H locs k n M'.2.2.2.2.2.2.1 M'.2.2.2.2.2.2.2 (F0 m pc ls S) st (gk_Qc Γ h H.size post av) (gk_XC Γ h H.size px) (gk_A h H.size))
    (kx : ∀ E h', px E h' → ∀ (H' : Heap) (locs' : List Loc) (q : Nat) (ce : Cell), gk_V Γ h' H' → (∀ q, h' q ≠ none → A q) → va_S A s.heap H' locs' → H'[q]? = some ce → ce.vm = .none → s.vm.findClass E = some ce.cls → vx_W p l e (gk_room M) s m args below meth c H' locs' (k + M'.2.2.2.2.2.2.1) (n + M'.2.2.2.2.2.2.2) Q (F0 m pc ls st) q)
    (kk : ∀ v h', post v h' → gk_Gd p l e (gk_room M) s m args below meth c Γ A M.2.2.1 Q (pc + 3) L (gk_push v st) h' (k + M'.2.2.2.2.2.2.1) (n + M'.2.2.2.2.2.2.2)) :
    W p l e (gk_room M) s m args below meth c H locs k n Q (F0 m pc ls S) := by
  have hsub : ∀ q, gk_A h H.size q → A q := by
    rintro q (h1 | h1)
    · exact hA q h1
    · exact hA0 q (Nat.le_trans hS.1 h1)
  intro T hT Y
  rcases run T hT Y with ⟨v, st₀, t, T', L', h0, X', hL', e1, e2, ⟨⟨v', h', hv, hp, hV', hA'⟩, hF⟩, goes⟩ | ⟨q, st₀, t, T', L', E, ce, h0, X', hL', e1, e2, ⟨⟨h', hp, hV', hA'⟩, hF⟩, hce, hcv, hcl, steps⟩
  · cases hv
    obtain ⟨k1, k2, k3⟩ := vx_keep h0 e1 hS (fun q _ h => hsub q h) hsub hL' hF
    obtain ⟨t2, a1, b1⟩ := kk v h' hp T'.heap (locs ++ L') ls (by rw [e1]; exact hV') (fun q hq => hsub q (hA' q hq)) k3 hL T' rfl X'
    rw [gk_push_is] at a1
    exact ⟨t2, goes t2 a1, b1⟩
  · obtain ⟨k1, k2, k3⟩ := vx_keep h0 e1 hS (fun q _ h => hsub q h) hsub hL' hF
    obtain ⟨t2, a1, b1⟩ := kx E h' hp T'.heap (locs ++ L') q ce (by rw [e1]; exact hV') (fun q hq => hsub q (hA' q hq)) k3 (by rw [e1]; exact hce) hcv hcl T' rfl X'
    exact ⟨t2, steps.trans a1, b1⟩
/-- an instance call in a body with handlers: what is thrown is taken -/
theorem gk_callVH {hh : List (Nat × Nat × Nat × Nat)} (C : CxT l Γ M hh G) {idx na ci b : Nat} {M' : MD} {As : List Value} {fs : List Value} {T : u_T} {N : Nat} {post : Option Value → Hp → Prop} {px : String → Hp → Prop}
    (hM : gk_M M' na) (hk : gk_KV M.1.cls idx M'.1) (d : decode M.2.1 pc = .ok (.invokevirtual idx, 3)) (hc : Ct l Γ M' (.ref b :: As) h post px) (hb : h b = some (oO ci fs)) (hci : vwCl[ci]? = some (M'.1.cls, T, N)) (hn : As.length = na) (hS : S = As.reverse ++ .ref b :: st)
    (hfit : M'.2.2.2.2.1 + 1 ≤ M.2.2.2.2.1 ∧ 8 + (M'.2.2.1 + 11) + M'.2.2.2.2.2.1 ≤ M.2.2.2.2.2.1) (hbud : k + M'.2.2.2.2.2.2.1 ≤ M.2.2.2.2.2.2.1 ∧ n + M'.2.2.2.2.2.2.2 ≤ M.2.2.2.2.2.2.2) (hst : (st.map fun v => v.category).sum ≤ 8)
    (kx : ∀ E h', px E h' → ∃ tgt : Nat, gk_hd M.1.cls hh pc E tgt ∧ ∀ q : Nat, G tgt L [.ref q] h' (k + M'.2.2.2.2.2.2.1) (n + M'.2.2.2.2.2.2.2)) (kk : ∀ v h', post v h' → G (pc + 3) L (gk_push v st) h' (k + M'.2.2.2.2.2.2.1) (n + M'.2.2.2.2.2.2.2)) : G pc L S h k n := by
  obtain ⟨p, e, s, m, args, below, meth, c, A, Q, ⟨hx, hcb, hml, hown, hts, hnm, hlk, hW, hA0⟩, htb, rfl⟩ := C
  intro H locs ls hV hA hS2 hL
  obtain ⟨hl, hin, hse⟩ := hk
  obtain ⟨m1, m2, m3, m4, m5⟩ := hM
  have hlen : ∀ sig, parseMethodDescriptor M'.1.desc = some sig → na = sig.parameters.length := by
    intro sig hs
    rw [hs] at m5
    exact (Option.some.inj m5).symm
  have hrecv : ∃ cellB : Cell, H[b]? = some cellB ∧ cellB.vm.isStatics = false ∧ s.vm.findClass M'.1.cls = some cellB.cls := va_recv (D := Γ.1) (q0 := 0) hW.1 (gk_one hV hb) hci rfl
  have hpre := gk_pre (As := .ref b :: As) hA0 hW hV hA hS2
  have kx2 : ∀ E h', px E h' → ∀ (H' : Heap) (locs' : List Loc) (q : Nat) (ce : Cell), gk_V Γ h' H' → (∀ q, h' q ≠ none → A q) → va_S A s.heap H' locs' → H'[q]? = some ce → ce.vm = .none → s.vm.findClass E = some ce.cls → vx_W p l e (gk_room M) s m args below meth c H' locs' (k + M'.2.2.2.2.2.2.1) (n + M'.2.2.2.2.2.2.2) Q (F0 m pc ls st) q := by
    intro E h' hp H' locs' q ce hV' hA' hS' hce hcv hcl
    obtain ⟨tgt, ⟨pre, x, suf, hsp, hpass, hcov, h0, hcl2, hca, rfl⟩, kh⟩ := kx E h' hp
    refine vx_catch hown pre x suf (htb.trans hsp) (fun z hz => ?_) hcov h0 (hts _ hcl2) (va_Nw.use (gk_nw_tab hca) (hW.2.1 _ hca)) hce hcv hcl (kh q H' locs' ls hV' hA' hS' hL)
    rcases hpass z hz with y | ⟨y1, nm, y2, y3⟩
    · exact Or.inl y
    · exact Or.inr ⟨y1, nm, hts _ y2, hW.2.2.2.2.2.2.2.2.2.1 _ y3⟩
  rcases hl with hl | ⟨host, hl⟩
  · exact gk_backH hA0 hA hS2 hL (vx_runV (g := F0 m pc ls S) (As := As) (rest := st) ⟨hx, hcb, hml, hown, hts⟩ (hc H.size) ⟨⟨rfl, rfl, hfit.1, hfit.2, gk_pay hts m1, List.mem_cons_self, hts _ m1, hts _ m2, ⟨m3, m4⟩, hlen, hts _ hl⟩, hts _ hin, hts _ hse⟩ ⟨gk_blind, hrecv, hpre⟩ rfl hn hL.1 hS (lv_room hst) d hbud) kx2 kk
  · exact gk_backH hA0 hA hS2 hL (vx_runVN (g := F0 m pc ls S) (As := As) (rest := st) ⟨hx, hcb, hml, hown, hts⟩ (hc H.size) ⟨⟨⟨rfl, rfl, hfit.1, hfit.2, gk_pay hts m1, List.mem_cons_self⟩, hts _ m1, hts _ m2, ⟨m3, m4⟩, hlen, va_Nw.use (gk_nw_tab hl) (hW.2.1 _ hl)⟩, hts _ hin, hts _ hse⟩ ⟨gk_blind, hrecv, hpre⟩ rfl hn hL.1 hS (lv_room hst) d hbud) kx2 kk
/-- what the tables say of a callee with handlers -/
def gk_MH (M : MD) (hh : List (Nat × Nat × Nat × Nat)) (na : Nat) : Prop := Cond.codeWith M.1 M.2.1 M.2.2.1 M.2.2.2.1 hh ∈ gk_WS ∧ Cond.initialized M.1.cls ∈ gk_WS ∧ M.1.cls ≠ "java/lang/invoke/MethodHandle" ∧ M.1.cls ≠ "java/lang/invoke/VarHandle" ∧ (parseMethodDescriptor M.1.desc).map (fun d => d.parameters.length) = some na
theorem gk_callSH (C : Cx l Γ M G X) {idx na : Nat} {M' : MD} {hh : List (Nat × Nat × Nat × Nat)} {As : List Value} {post : Option Value → Hp → Prop}
    (hM : gk_MH M' hh na) (hk : gk_KS M.1.cls idx M'.1) (d : decode M.2.1 pc = .ok (.invokestatic idx, 3)) (hc : CtH l Γ M' hh As h post) (hn : As.length = na) (hS : S = As.reverse ++ st)
    (hfit : M'.2.2.2.2.1 + 1 ≤ M.2.2.2.2.1 ∧ 8 + (M'.2.2.1 + 11) + M'.2.2.2.2.2.1 ≤ M.2.2.2.2.2.1) (hbud : k + M'.2.2.2.2.2.2.1 ≤ M.2.2.2.2.2.2.1 ∧ n + M'.2.2.2.2.2.2.2 ≤ M.2.2.2.2.2.2.2) (hst : (st.map fun v => v.category).sum ≤ 8)
    (kk : ∀ v h', post v h' → G (pc + 3) L (gk_push v st) h' (k + M'.2.2.2.2.2.2.1) (n + M'.2.2.2.2.2.2.2)) : G pc L S h k n := by
  obtain ⟨p, e, s, m, args, below, meth, c, A, Q, ⟨hx, hcb, hml, hown, hts, hnm, hlk, hW, hA0⟩, hX, rfl⟩ := C
  intro H locs ls hV hA hS2 hL
  obtain ⟨hl, hin⟩ := hk
  obtain ⟨m1, m2, m3, m4, m5⟩ := hM
  have hlen : ∀ sig, parseMethodDescriptor M'.1.desc = some sig → na = sig.parameters.length := by
    intro sig hs
    rw [hs] at m5
    exact (Option.some.inj m5).symm
  exact gk_backH hA0 hA hS2 hL (vx_runSX (g := F0 m pc ls S) (As := As) (rest := st) ⟨hx, hcb, hml, hown, hts⟩ (hc H.size) ⟨⟨rfl, rfl, hfit.1, hfit.2, gk_pay hts m1, List.mem_cons_self⟩, hts _ m1, hts _ m2, ⟨m3, m4⟩, hlen, hts _ hl, hts _ hin⟩ ⟨gk_blind, gk_pre hA0 hW hV hA hS2⟩ rfl hn hL.1 hS (lv_room hst) d hbud) (fun E h' z => z.elim) kk
theorem gk_f2d (C : Cx l Γ M G X) {x : UInt32} (d : decode M.2.1 pc = .ok (.f2d, 1)) (hne : vf_n64 (FP.f2d x)) (kk : G (pc + 1) L (.double (FP.f2d x) :: st) h k n) : G pc L (.float x :: st) h k n := by
  obtain ⟨p, e, s, m, args, below, meth, c, A, Q, ⟨hx, hb, hml, hown, hts, hnm, hlk, hW, hA0⟩, hX, rfl⟩ := C
  intro H locs ls hV hA hS hL
  exact lv_f2d hx hb d hne (kk H locs ls hV hA hS hL)
theorem gk_dcmp (C : Cx l Γ M G X) {x y : UInt64} {op : CmpOp} {z : Int} (d : decode M.2.1 pc = .ok (.dcmp op, 1)) (hz : Op.cmpValue (FP.dcmp x y) op = Int32.ofInt z) (kk : G (pc + 1) L (iv z :: st) h k n) : G pc L (.double y :: .double x :: st) h k n := by
  obtain ⟨p, e, s, m, args, below, meth, c, A, Q, ⟨hx, hb, hml, hown, hts, hnm, hlk, hW, hA0⟩, hX, rfl⟩ := C
  intro H locs ls hV hA hS hL
  refine lv_dcmp hx hb d ?_
  rw [hz]
  exact kk H locs ls hV hA hS hL
end GH
/-- THE START of a body with handlers -/
theorem CtH.intro {l : Launch} {Γ : GA} {M : MD} {hh : List (Nat × Nat × Nat × Nat)} {As : List Value} {h : Hp} {post : Option Value → Hp → Prop} (hy : plainName M.1.cls = true) (hcatb : As.all (fun v => v.category == 1) = true) (hfit : (lg_sl As).length ≤ M.2.2.1)
    (body : ∀ G : GP, CxT l Γ M hh G → gk_Rt M G post → G 0 (As.map some ++ List.replicate (M.2.2.1 - As.length) none) [] h 0 0) : CtH l Γ M hh As h post := by
  have hcat : ∀ v ∈ As, v.category = 1 := fun v hv => eq_of_beq (List.all_eq_true.mp hcatb v hv)
  intro sz
  refine vx_ofWH hy rfl ?_
  intro p e s m args below meth c s₁ B hml hv
  obtain ⟨rfl, hsz, hV, hW⟩ := hv
  have hx := B.exec
  have hb := B.bytes
  have hr := B.returns
  have hts0 := atoms_spec (ws := .codeWith M.1 M.2.1 M.2.2.1 M.2.2.2.1 hh :: gk_WS) B.pre
  have hts : ∀ w ∈ gk_WS, w.before As.toArray s = true := fun w hw => hts0 w (List.mem_cons_of_mem _ hw)
  have htab : c.exceptionTable.toList = tableOf hh := vx_table (x := M.1) B (hts0 _ List.mem_cons_self)
  have hown : s.vm.findClass M.1.cls = some m.cls := findClass_of_methodNamed B.named
  have hlocks := B.notSynchronized
  have hin : meth.name = M.1.name := (name_of_methodNamed B.named B.method).1
  have hA0 : ∀ q : Nat, s.heap.size ≤ q → gk_A h sz q := fun q hq => Or.inr (by rw [← hsz]; exact hq)
  have hS : va_S (gk_A h sz) s.heap s.heap [] := va_S.rf
  have hl := lv_entry As (n := M.2.2.1) hfit
  rw [lg_entry_eq]
  generalize (lg_sl As ++ List.replicate (M.2.2.1 - (lg_sl As).length) Slot.unset).toArray = ls at hl ⊢
  have hL := gk_entL hcat hl
  have hfree : ∀ {locs : List Loc} {H : Heap}, va_S (gk_A h sz) s.heap H locs → ∀ q ∈ locs, gk_A h sz q.base := fun hS2 => hS2.2.2
  have hQ : ∀ (v : Option Value) (h2 : Hp) (H : Heap) (locs : List Loc), post v h2 → gk_V Γ h2 H → (∀ q, h2 q ≠ none → gk_A h sz q) → va_S (gk_A h sz) s.heap H locs → ∀ t : State, t.heap = H → s.WarmedH t.vm → gk_Qc Γ h sz post As.toArray s (.returned v) t := by
    intro v h2 H locs hp hV2 hA2 hS2 t ht hWt
    exact ⟨⟨v, h2, rfl, hp, by rw [ht]; exact hV2, hA2⟩, hS2.F ht⟩
  refine body (gk_Gd p l e (gk_room M) s m As.toArray below meth c Γ (gk_A h sz) M.2.2.1 (vx_MQ below (gk_Qc Γ h sz post) (gk_XC Γ h sz (fun _ _ => False)) As.toArray s M.2.2.2.2.2.2.1 M.2.2.2.2.2.2.2 (gk_A h sz))) ?_ ?_ s.heap [] ls hV (fun q hq => Or.inl hq) hS hL
  · exact ⟨p, e, s, m, As.toArray, below, meth, c, gk_A h sz, _, ⟨hx, hb, hml, hown, hts, hin, hlocks, hW, hA0⟩, htab, rfl⟩
  · intro pc L h2 k2 n2 hk2 hn2
    refine ⟨fun z hret d hp => ?_, fun z hret hz d hp => ?_, fun hret d hp => ?_, fun a rt hret hrt d hp => ?_, fun z hret d hp => ?_, fun z hret d hp => ?_⟩
    · intro H locs ls2 hV2 hA2 hS2 hL2
      exact W.widen hk2 hn2 (vx_ret (W.iret hx hb (hr.trans hret) (hQ _ _ _ _ hp hV2 hA2 hS2) (hfree hS2) d hlocks))
    · intro H locs ls2 hV2 hA2 hS2 hL2
      exact W.widen hk2 hn2 (vx_ret (W.zret hx hb (hr.trans hret) (by rcases hz with rfl | rfl <;> rfl) (hQ _ _ _ _ hp hV2 hA2 hS2) (hfree hS2) d hlocks))
    · intro H locs ls2 hV2 hA2 hS2 hL2
      exact W.widen hk2 hn2 (vx_ret (W.vret hx hb (hr.trans hret) (hQ _ _ _ _ hp hV2 hA2 hS2) (hfree hS2) d hlocks))
    · intro H locs ls2 hV2 hA2 hS2 hL2
      exact W.widen hk2 hn2 (vx_ret (W.aret hx hb (hr.trans hret) hrt (Or.inr ⟨a, rfl⟩) (hQ _ _ _ _ hp hV2 hA2 hS2) (hfree hS2) d hlocks))
    · intro H locs ls2 hV2 hA2 hS2 hL2
      exact W.widen hk2 hn2 (vx_ret (W.lret hx hb (hr.trans hret) (hQ _ _ _ _ hp hV2 hA2 hS2) (hfree hS2) d hlocks))
    · intro H locs ls2 hV2 hA2 hS2 hL2
      exact W.widen hk2 hn2 (vx_ret (W.fret hx hb (hr.trans hret) (hQ _ _ _ _ hp hV2 hA2 hS2) (hfree hS2) d hlocks))
/-- two heaps side by side -/
def hU (h1 h2 : Hp) : Hp := fun q => match h1 q with
  | some e => some e
  | none => h2 q
def hdj (h1 h2 : Hp) : Prop := ∀ q, h1 q ≠ none → h2 q = none
theorem hU_l {h1 h2 : Hp} {q : Nat} {e : AE} (c : h1 q = some e) : hU h1 h2 q = some e := by
  unfold hU
  rw [c]
theorem hU_n {h1 h2 : Hp} {q : Nat} (c : h1 q = none) : hU h1 h2 q = h2 q := by
  unfold hU
  rw [c]
theorem hdj.no {h1 h2 : Hp} (d : hdj h1 h2) {q : Nat} {e : AE} (c : h2 q = some e) : h1 q = none := by
  cases z : h1 q with
  | none => rfl
  | some w =>
    have := d q (by rw [z]; intro y; cases y)
    rw [c] at this
    cases this
theorem hU_r {h1 h2 : Hp} {q : Nat} {e : AE} (d : hdj h1 h2) (c : h2 q = some e) : hU h1 h2 q = some e := by
  rw [hU_n (d.no c)]
  exact c
theorem hdj.symm {h1 h2 : Hp} (d : hdj h1 h2) : hdj h2 h1 := by
  intro q hq
  cases z : h2 q with
  | none => exact absurd z hq
  | some w => exact d.no z
theorem hU_comm {h1 h2 : Hp} (d : hdj h1 h2) : hU h1 h2 = hU h2 h1 := by
  funext q
  cases z : h1 q with
  | none =>
    rw [hU_n z]
    cases y : h2 q with
    | none => rw [hU_n y]; exact z.symm
    | some w => rw [hU_l y]
  | some w =>
    rw [hU_l z, hU_n (d q (by rw [z]; intro y; cases y))]
    exact z.symm
theorem hU_assoc {h1 h2 h3 : Hp} : hU (hU h1 h2) h3 = hU h1 (hU h2 h3) := by
  funext q
  cases z : h1 q with
  | none => rw [hU_n z]; unfold hU; rw [z]
  | some w => rw [hU_l z, hU_l (hU_l z)]
theorem hU_setR {h1 h2 : Hp} {q : Nat} {e : AE} (c : h1 q = none) : hset (hU h1 h2) q e = hU h1 (hset h2 q e) := by
  funext x
  by_cases y : x = q
  · subst y
    rw [hset_eq, hU_n c, hset_eq]
  · rw [hset_ne y]
    cases z : h1 x with
    | none => rw [hU_n z, hU_n z, hset_ne y]
    | some w => rw [hU_l z, hU_l z]
theorem hdj_set {h1 h2 : Hp} {q : Nat} {e e0 : AE} (d : hdj h1 h2) (c : h2 q = some e0) : hdj h1 (hset h2 q e) := by
  intro x hx
  have hne : x ≠ q := by
    intro y
    subst y
    exact hx (d.no c)
  rw [hset_ne hne]
  exact d x hx
theorem hdj_U {h1 h2 h3 : Hp} : hdj h1 (hU h2 h3) ↔ hdj h1 h2 ∧ hdj h1 h3 := by
  constructor
  · intro d
    refine ⟨fun q hq => ?_, fun q hq => ?_⟩
    · have := d q hq
      cases z : h2 q with
      | none => rfl
      | some w => rw [hU_l z] at this; cases this
    · have := d q hq
      cases z : h2 q with
      | none => rw [hU_n z] at this; exact this
      | some w => rw [hU_l z] at this; cases this
  · rintro ⟨a, b⟩ q hq
    rw [hU_n (a q hq)]
    exact b q hq
theorem Ct.fr {l : Launch} {Γ : GA} {M : MD} {As : List Value} {h1 h2 : Hp} {post : Option Value → Hp → Prop} {px : String → Hp → Prop} (d : hdj h1 h2) (hc : Ct l Γ M As h1 post px) :
    Ct l Γ M As (hU h1 h2) (fun v h' => ∃ h3, post v h3 ∧ hdj h3 h2 ∧ h' = hU h3 h2) (fun E h' => ∃ h3, px E h3 ∧ hdj h3 h2 ∧ h' = hU h3 h2) := by
  have key : ∀ h3 : Hp, (∀ q, h3 q ≠ none → h1 q ≠ none ∨ hU h1 h2 q = none) → hdj h3 h2 ∧ gk_ov (hU h1 h2) h1 h3 = hU h3 h2 := by
    intro h3 hd
    have dj : hdj h3 h2 := by
      intro q hq
      rcases hd q hq with x | x
      · exact d q x
      · cases z : h1 q with
        | none => rw [hU_n z] at x; exact x
        | some w => rw [hU_l z] at x; cases x
    refine ⟨dj, ?_⟩
    funext q
    cases z : h1 q with
    | some w =>
      rw [gk_ov_in (by rw [z]; intro y; cases y)]
      have h2n := d q (by rw [z]; intro y; cases y)
      cases y : h3 q with
      | none => rw [hU_n y]; exact h2n.symm
      | some v => rw [hU_l y]
    | none =>
      cases y : h2 q with
      | none =>
        rw [gk_ov_new (by rw [hU_n z]; exact y)]
        cases x : h3 q with
        | none => rw [hU_n x]; exact y.symm
        | some v => rw [hU_l x]
      | some v =>
        rw [gk_ov_out (e := v) z (by rw [hU_n z]; exact y), hU_n (dj.no y)]
        exact y.symm
  refine Ct.mono (Ct.frame (h := hU h1 h2) (fun q e c => hU_l c) hc) ?_ ?_
  · rintro v h' ⟨h3, p1, p2, p3⟩
    obtain ⟨k1, k2⟩ := key h3 p3
    exact ⟨h3, p1, k1, p2.trans k2⟩
  · rintro v h' ⟨h3, p1, p2, p3⟩
    obtain ⟨k1, k2⟩ := key h3 p3
    exact ⟨h3, p1, k1, p2.trans k2⟩
theorem Ct.frR {l : Launch} {Γ : GA} {M : MD} {As : List Value} {h1 h2 : Hp} {post : Option Value → Hp → Prop} {px : String → Hp → Prop} (d : hdj h1 h2) (hc : Ct l Γ M As h2 post px) :
    Ct l Γ M As (hU h1 h2) (fun v h' => ∃ h3, post v h3 ∧ hdj h1 h3 ∧ h' = hU h1 h3) (fun E h' => ∃ h3, px E h3 ∧ hdj h1 h3 ∧ h' = hU h1 h3) := by
  rw [hU_comm d]
  refine Ct.mono (Ct.fr d.symm hc) ?_ ?_
  · rintro v h' ⟨h3, p1, p2, p3⟩
    exact ⟨h3, p1, p2.symm, by rw [p3, hU_comm p2]⟩
  · rintro v h' ⟨h3, p1, p2, p3⟩
    exact ⟨h3, p1, p2.symm, by rw [p3, hU_comm p2]⟩
/-- the middle one of three -/
theorem Ct.frM {l : Launch} {Γ : GA} {M : MD} {As : List Value} {h1 h2 h3 : Hp} {post : Option Value → Hp → Prop} {px : String → Hp → Prop} (d : hdj h1 (hU h2 h3)) (d2 : hdj h2 h3) (hc : Ct l Γ M As h2 post px) :
    Ct l Γ M As (hU h1 (hU h2 h3)) (fun v h' => ∃ h4, post v h4 ∧ hdj h1 (hU h4 h3) ∧ hdj h4 h3 ∧ h' = hU h1 (hU h4 h3)) (fun E h' => ∃ h4, px E h4 ∧ hdj h1 (hU h4 h3) ∧ hdj h4 h3 ∧ h' = hU h1 (hU h4 h3)) := by
  refine Ct.mono (Ct.frR d (Ct.fr d2 hc)) ?_ ?_
  · rintro v h' ⟨h5, ⟨h4, p1, p2, rfl⟩, p3, p4⟩
    exact ⟨h4, p1, p3, p2, p4⟩
  · rintro v h' ⟨h5, ⟨h4, p1, p2, rfl⟩, p3, p4⟩
    exact ⟨h4, p1, p3, p2, p4⟩
