/-! what lies still at the law's entry: out of the tables' words and what is given of the start -/
theorem law_fl {args : Array Value} {s : State} (hgv : (Jvm.Cond.and given_1 narrow_1).before args s = true) {w : Cond} (h : w ∈ flatC (Jvm.Cond.and given_1 narrow_1)) : w.before args s = true := flat_of_before _ hgv w h
theorem law_ar {args : Array Value} {s : State} {ty : FieldType} (h : (Cond.arrayClass ty).before args s = true) : ∃ cA : ClassId, ArrOfT s cA ty ∧ s.vm.findClass ("[" ++ ty.toString) = some cA := by
  obtain ⟨cA, kA, comp, h1, h2, h3⟩ := Cond.arrayClass_spec (args := args) (first := s) (o := none) (s := s) (idx := []) h
  exact ⟨cA, fun n z => ⟨fun k h => (by cases h), kA, h2, comp, h3⟩, h1⟩
theorem law_ao {args : Array Value} {s : State} {C : String} (h : (Cond.arrayOver (.object C)).before args s = true) : ∃ cA : ClassId, ArrOfT s cA (.object C) ∧ va_RA s cA (.object C) := by
  obtain ⟨comp, cA, kA, h1, -, h3, h4, h5⟩ := Cond.arrayOver_spec (args := args) (first := s) (o := none) (s := s) (idx := []) h
  exact ⟨cA, fun n z => ⟨fun k h => (by cases h), kA, h3, comp, h4⟩, kA, comp, h3, h4, h1, h5⟩
set_option maxRecDepth 100000 in
theorem law_tx : ∀ q ∈ gk_txt, Cond.stringRef q.1 q.2.1 q.2.2 ∈ lw_tbl ∧ Cond.exactly (Term.string q.1 q.2.1) "java/lang/String" ∈ flatC (Jvm.Cond.and given_1 narrow_1) := by decide +kernel
set_option maxRecDepth 100000 in
theorem law_nc : ∀ q ∈ gk_ncs, Cond.not (.castable q.1 q.2) ∈ flatC (Jvm.Cond.and given_1 narrow_1) := by decide +kernel
set_option maxRecDepth 100000 in
set_option maxHeartbeats 4000000 in
theorem law_W {b : Nat} {s : State} (hts : ∀ w ∈ lw_tbl, w.before #[Value.ref b] s = true) (hgv : (Jvm.Cond.and given_1 narrow_1).before #[Value.ref b] s = true) : ∃ Γ : GA, gk_W Γ (fun q : Nat => s.heap.size ≤ q) s s.heap := by
  have hnA : ∀ a : Nat, a < s.heap.size → ¬ (fun q : Nat => s.heap.size ≤ q) a := fun a h => Nat.not_le.mpr h
  obtain ⟨c0, i0, k0⟩ := u_known (n := 3) hts il_Jx4a65c (hts _ (by decide +kernel))
  obtain ⟨c1, i1, k1⟩ := u_known (n := 10) hts il_X0 (hts _ (by decide +kernel))
  obtain ⟨c2, i2, k2⟩ := u_known (n := 7) hts il_X1 (hts _ (by decide +kernel))
  obtain ⟨c3, i3, k3⟩ := u_known (n := 2) hts il_X2 (hts _ (by decide +kernel))
  obtain ⟨c4, i4, k4⟩ := u_known (n := 12) hts il_X3 (hts _ (by decide +kernel))
  obtain ⟨c5, i5, k5⟩ := u_known (n := 9) hts il_X4 (hts _ (by decide +kernel))
  obtain ⟨aI0, hI1, hI2⟩ := law_ar (ty := .int) (hts _ (List.mem_filter.mp gk_acI).1)
  have hao : (Cond.arrayOver (.object "java/lang/Object")).before #[Value.ref b] s = true := hts _ (by decide +kernel)
  obtain ⟨aO0, hO1, hO2⟩ := law_ao hao
  obtain ⟨tE, vE, hE⟩ := va_Tof (tm := .static "java/util/ArrayList" "DEFAULTCAPACITY_EMPTY_ELEMENTDATA" "[Ljava/lang/Object;") (ty := .object "java/lang/Object") (N := 0) (f := fun _ => .null) (A := fun q : Nat => s.heap.size ≤ q) (by decide) (law_fl hgv (by decide +kernel)) (va_eqt (law_fl hgv (by decide +kernel))) (fun j hj => absurd hj (Nat.not_lt_zero j)) hnA
  obtain ⟨tP, vP, hP⟩ := va_Tof (tm := .static "Dronegrade" "POINTS_BY_RANK" "[I") (ty := .int) (N := 6) (f := fun j => .int (gk_pts.getD j 0)) (A := fun q : Nat => s.heap.size ≤ q) (by decide) (law_fl hgv (by decide +kernel)) (va_eqt (law_fl hgv (by decide +kernel))) (fun j hj => by
    rcases (show j = 0 ∨ j = 1 ∨ j = 2 ∨ j = 3 ∨ j = 4 ∨ j = 5 by omega) with rfl | rfl | rfl | rfl | rfl | rfl
    · exact va_eqt (law_fl hgv (by decide +kernel))
    · exact va_eqt (law_fl hgv (by decide +kernel))
    · exact va_eqt (law_fl hgv (by decide +kernel))
    · exact va_eqt (law_fl hgv (by decide +kernel))
    · exact va_eqt (law_fl hgv (by decide +kernel))
    · exact va_eqt (law_fl hgv (by decide +kernel))) hnA
  refine ⟨((fun k => match k with | 0 => c0 | 1 => c1 | 2 => c2 | 3 => c3 | 4 => c4 | _ => c5, fun k => match k with | 0 => i0 | 1 => i1 | 2 => i2 | 3 => i3 | 4 => i4 | _ => i5), aI0, aI0, aO0, aI0, aI0, tE, tP), ⟨?_, ?_⟩, ?_, ?_, ?_, ?_, hE, ?_, hP, ?_, ?_, ?_⟩
  · intro c q hq
    match c, hq with
    | 0, hq => cases hq; exact k0
    | 1, hq => cases hq; exact k1
    | 2, hq => cases hq; exact k2
    | 3, hq => cases hq; exact k3
    | 4, hq => cases hq; exact k4
    | 5, hq => cases hq; exact k5
    | c + 6, hq => simp [vwCl] at hq
  · intro c q hq
    match c, hq with
    | 0, hq => cases hq; exact ⟨hI1, hI2⟩
    | 1, hq => cases hq; exact ⟨hO1, hO2⟩
    | c + 2, hq => simp [gk_tys] at hq
  · exact fun w hw => va_Nw.of (gk_nw_tab hw) (hts w (List.mem_filter.mp hw).1)
  · exact vx_Zqof (hts _ (by decide +kernel)) (hts _ (by decide +kernel)) (law_fl hgv (by decide +kernel)) hnA
  · exact vx_Zqof (hts _ (by decide +kernel)) (hts _ (by decide +kernel)) (law_fl hgv (by decide +kernel)) hnA
  · exact va_Zref (hts _ (by decide +kernel)) (hts _ (by decide +kernel)) vE hnA
  · exact va_Zref (hts _ (by decide +kernel)) (hts _ (by decide +kernel)) vP hnA
  · intro q hq
    obtain ⟨h1, h2⟩ := law_tx q hq
    obtain ⟨a, c, cA, kA, q1, -⟩ := Cond.exactly_spec (args := #[Value.ref b]) (first := s) (o := none) (s := s) (idx := []) (t := Term.string q.1 q.2.1) (cls := "java/lang/String") (law_fl hgv h2)
    exact ⟨a, vk_R.of (hts _ h1) q1⟩
  · exact fun q hq => va_Nc.of (law_fl hgv (law_nc q hq))
  · exact va_AO.of hao
