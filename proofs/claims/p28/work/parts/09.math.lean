/-! Math.max, min, abs: their own rows of the kit, over the walk kit; small facts -/
theorem mw_max_c : Cond.code Lib.Math.max.name Lib.Math.max.code 2 (some .int) ∈ gk_WS := gk_ws (List.mem_append_right _ (List.mem_of_getElem? (i := 288) (by decide +kernel))) rfl
theorem mw_max_s : Cond.static Lib.Math.max.name ∈ gk_WS := gk_ws (List.mem_append_right _ (List.mem_of_getElem? (i := 287) (by decide +kernel))) rfl
theorem mw_min_c : Cond.code Lib.Math.min.name Lib.Math.min.code 2 (some .int) ∈ gk_WS := gk_ws (List.mem_append_right _ (List.mem_of_getElem? (i := 370) (by decide +kernel))) rfl
theorem mw_min_s : Cond.static Lib.Math.min.name ∈ gk_WS := gk_ws (List.mem_append_right _ (List.mem_of_getElem? (i := 369) (by decide +kernel))) rfl
theorem mw_abs_c : Cond.code Lib.Math.abs.name Lib.Math.abs.code 1 (some .int) ∈ gk_WS := gk_ws (List.mem_append_right _ (List.mem_of_getElem? (i := 659) (by decide +kernel))) rfl
theorem mw_abs_s : Cond.static Lib.Math.abs.name ∈ gk_WS := gk_ws (List.mem_append_right _ (List.mem_of_getElem? (i := 658) (by decide +kernel))) rfl
theorem mw_i : Cond.initialized "java/lang/Math" ∈ gk_WS := gk_ws (List.mem_append_right _ (List.mem_of_getElem? (i := 16) (by decide +kernel))) rfl
section GQ
variable {l : Launch} {Γ : GA} {M : MD} {G : GP} {X : String → Hp → Nat → Nat → Prop} {pc : Nat} {L : List (Option Value)} {st : List Value} {h : Hp} {k n : Nat}
theorem gk_mmax (C : Cx l Γ M G X) {idx : Nat} {a b : Int} (ha : -2147483648 ≤ a ∧ a ≤ 2147483647) (hb0 : -2147483648 ≤ b ∧ b ≤ 2147483647) (hk : Cond.methodLink M.1.cls idx Lib.Math.max.name ∈ gk_WS) (d : decode M.2.1 pc = .ok (.invokestatic idx, 3)) (hfr : 1 ≤ M.2.2.2.2.1) (hlo : (st.map fun v => v.category).sum + 13 ≤ M.2.2.2.2.2.1) (hbud : k ≤ M.2.2.2.2.2.2.1 ∧ n ≤ M.2.2.2.2.2.2.2) (kk : G (pc + 3) L (iv (max a b) :: st) h k n) : G pc L (iv b :: iv a :: st) h k n := by
  obtain ⟨p, e, s, m, args, below, meth, c, A, Q, ⟨hx, hb, hml, hown, hts, hnm, hlk, hW, hA0⟩, hX, rfl⟩ := C
  intro H locs ls hV hA hS hL
  refine va_mmax hx hb (hml.trans hL.1.symm) hown (hts _ hk) (hts _ mw_max_s) (hts _ mw_i) (hts _ mw_max_c) hfr hlo hbud.1 hbud.2 d ?_
  have e1 : Value.int (if Int32.ofInt a < Int32.ofInt b then Int32.ofInt b else Int32.ofInt a) = iv (max a b) := by
    refine congrArg Value.int ?_
    by_cases q : a < b
    · rw [if_pos ((gk_lt ha hb0).mpr q)]
      exact congrArg Int32.ofInt (by omega)
    · rw [if_neg (fun z => q ((gk_lt ha hb0).mp z))]
      exact congrArg Int32.ofInt (by omega)
  rw [e1]
  exact kk H locs ls hV hA hS hL
theorem gk_mmin (C : Cx l Γ M G X) {idx : Nat} {a b : Int} (ha : -2147483648 ≤ a ∧ a ≤ 2147483647) (hb0 : -2147483648 ≤ b ∧ b ≤ 2147483647) (hk : Cond.methodLink M.1.cls idx Lib.Math.min.name ∈ gk_WS) (d : decode M.2.1 pc = .ok (.invokestatic idx, 3)) (hfr : 1 ≤ M.2.2.2.2.1) (hlo : (st.map fun v => v.category).sum + 13 ≤ M.2.2.2.2.2.1) (hbud : k ≤ M.2.2.2.2.2.2.1 ∧ n ≤ M.2.2.2.2.2.2.2) (kk : G (pc + 3) L (iv (min a b) :: st) h k n) : G pc L (iv b :: iv a :: st) h k n := by
  obtain ⟨p, e, s, m, args, below, meth, c, A, Q, ⟨hx, hb, hml, hown, hts, hnm, hlk, hW, hA0⟩, hX, rfl⟩ := C
  intro H locs ls hV hA hS hL
  refine va_mmin hx hb (hml.trans hL.1.symm) hown (hts _ hk) (hts _ mw_min_s) (hts _ mw_i) (hts _ mw_min_c) hfr hlo hbud.1 hbud.2 d ?_
  have e1 : Value.int (if Int32.ofInt b < Int32.ofInt a then Int32.ofInt b else Int32.ofInt a) = iv (min a b) := by
    refine congrArg Value.int ?_
    by_cases q : b < a
    · rw [if_pos ((gk_lt hb0 ha).mpr q)]
      exact congrArg Int32.ofInt (by omega)
    · rw [if_neg (fun z => q ((gk_lt hb0 ha).mp z))]
      exact congrArg Int32.ofInt (by omega)
  rw [e1]
  exact kk H locs ls hV hA hS hL
theorem gk_mabs (C : Cx l Γ M G X) {idx : Nat} {a : Int} (ha : -2147483648 ≤ a ∧ a ≤ 2147483647) (hk : Cond.methodLink M.1.cls idx Lib.Math.abs.name ∈ gk_WS) (d : decode M.2.1 pc = .ok (.invokestatic idx, 3)) (hfr : 1 ≤ M.2.2.2.2.1) (hlo : (st.map fun v => v.category).sum + 13 ≤ M.2.2.2.2.2.1) (hbud : k ≤ M.2.2.2.2.2.2.1 ∧ n ≤ M.2.2.2.2.2.2.2) (kk : G (pc + 3) L (iv (if a < 0 then -a else a) :: st) h k n) : G pc L (iv a :: st) h k n := by
  obtain ⟨p, e, s, m, args, below, meth, c, A, Q, ⟨hx, hb, hml, hown, hts, hnm, hlk, hW, hA0⟩, hX, rfl⟩ := C
  intro H locs ls hV hA hS hL
  refine va_mabs hx hb (hml.trans hL.1.symm) hown (hts _ hk) (hts _ mw_abs_s) (hts _ mw_i) (hts _ mw_abs_c) hfr hlo hbud.1 hbud.2 d ?_
  have e1 : Value.int (if 0 ≤ Int32.ofInt a then Int32.ofInt a else 0 - Int32.ofInt a) = iv (if a < 0 then -a else a) := by
    refine congrArg Value.int ?_
    rw [gk_0]
    by_cases q : a < 0
    · rw [if_neg (fun z => by rw [gk_le (by omega) (by omega)] at z; omega), ← Int32.ofInt_sub, if_pos q]
      exact congrArg Int32.ofInt (by omega)
    · rw [if_pos ((gk_le (by omega) (by omega)).mpr (by omega)), if_neg q]
  rw [e1]
  exact kk H locs ls hV hA hS hL
end GQ
theorem gk_nb {z : Int} (h : z = 0 ∨ z = 1) : narrow .boolean (iv z) = iv z ∧ fits .boolean (iv z) = true := by rcases h with rfl | rfl <;> exact ⟨rfl, rfl⟩
