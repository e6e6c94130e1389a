/-! bits and floats: steps -/
section GB
variable {l : Launch} {Γ : GA} {M : MD} {G : GP} {X : String → Hp → Nat → Nat → Prop} {pc : Nat} {L : List (Option Value)} {st : List Value} {h : Hp} {k n : Nat}
theorem gk_ishl (C : Cx l Γ M G X) {a b r : Int} (d : decode M.2.1 pc = .ok (.ishl, 1)) (hv : Int32.ofInt a <<< (Int32.ofInt b &&& 31) = Int32.ofInt r) (kk : G (pc + 1) L (iv r :: st) h k n) : G pc L (iv b :: iv a :: st) h k n := by
  obtain ⟨p, e, s, m, args, below, meth, c, A, Q, ⟨hx, hb, hml, hown, hts, hnm, hlk, hW, hA0⟩, hX, rfl⟩ := C
  intro H locs ls hV hA hS hL
  refine lv_ishl hx hb d ?_
  have e : Value.int (Int32.ofInt a <<< (Int32.ofInt b &&& 31)) = iv r := congrArg Value.int hv
  rw [e]
  exact kk H locs ls hV hA hS hL
theorem gk_ishr (C : Cx l Γ M G X) {a b r : Int} (d : decode M.2.1 pc = .ok (.ishr, 1)) (hv : Int32.ofInt a >>> (Int32.ofInt b &&& 31) = Int32.ofInt r) (kk : G (pc + 1) L (iv r :: st) h k n) : G pc L (iv b :: iv a :: st) h k n := by
  obtain ⟨p, e, s, m, args, below, meth, c, A, Q, ⟨hx, hb, hml, hown, hts, hnm, hlk, hW, hA0⟩, hX, rfl⟩ := C
  intro H locs ls hV hA hS hL
  refine lv_ishr hx hb d ?_
  have e : Value.int (Int32.ofInt a >>> (Int32.ofInt b &&& 31)) = iv r := congrArg Value.int hv
  rw [e]
  exact kk H locs ls hV hA hS hL
theorem gk_iand (C : Cx l Γ M G X) {a b r : Int} (d : decode M.2.1 pc = .ok (.iand, 1)) (hv : Int32.ofInt a &&& Int32.ofInt b = Int32.ofInt r) (kk : G (pc + 1) L (iv r :: st) h k n) : G pc L (iv b :: iv a :: st) h k n := by
  obtain ⟨p, e, s, m, args, below, meth, c, A, Q, ⟨hx, hb, hml, hown, hts, hnm, hlk, hW, hA0⟩, hX, rfl⟩ := C
  intro H locs ls hV hA hS hL
  refine lv_iand hx hb d ?_
  have e : Value.int (Int32.ofInt a &&& Int32.ofInt b) = iv r := congrArg Value.int hv
  rw [e]
  exact kk H locs ls hV hA hS hL
theorem gk_ior (C : Cx l Γ M G X) {a b r : Int} (d : decode M.2.1 pc = .ok (.ior, 1)) (hv : Int32.ofInt a ||| Int32.ofInt b = Int32.ofInt r) (kk : G (pc + 1) L (iv r :: st) h k n) : G pc L (iv b :: iv a :: st) h k n := by
  obtain ⟨p, e, s, m, args, below, meth, c, A, Q, ⟨hx, hb, hml, hown, hts, hnm, hlk, hW, hA0⟩, hX, rfl⟩ := C
  intro H locs ls hV hA hS hL
  refine lv_ior hx hb d ?_
  have e : Value.int (Int32.ofInt a ||| Int32.ofInt b) = iv r := congrArg Value.int hv
  rw [e]
  exact kk H locs ls hV hA hS hL
theorem gk_i2f (C : Cx l Γ M G X) {a : Int} (d : decode M.2.1 pc = .ok (.i2f, 1)) (kk : G (pc + 1) L (.float (FP.i2f (Int32.ofInt a)) :: st) h k n) : G pc L (iv a :: st) h k n := by
  obtain ⟨p, e, s, m, args, below, meth, c, A, Q, ⟨hx, hb, hml, hown, hts, hnm, hlk, hW, hA0⟩, hX, rfl⟩ := C
  intro H locs ls hV hA hS hL
  exact lv_i2f hx hb d (kk H locs ls hV hA hS hL)
theorem gk_fconst0 (C : Cx l Γ M G X) (d : decode M.2.1 pc = .ok (.fconst 0, 1)) (kk : G (pc + 1) L (.float FP.fconst0 :: st) h k n) : G pc L st h k n := by
  obtain ⟨p, e, s, m, args, below, meth, c, A, Q, ⟨hx, hb, hml, hown, hts, hnm, hlk, hW, hA0⟩, hX, rfl⟩ := C
  intro H locs ls hV hA hS hL
  exact lv_fconst0 hx hb d (kk H locs ls hV hA hS hL)
theorem gk_fdiv (C : Cx l Γ M G X) {x y : UInt32} (d : decode M.2.1 pc = .ok (.fdiv, 1)) (hne : vf_n32 (FP.fdiv x y)) (kk : G (pc + 1) L (.float (FP.fdiv x y) :: st) h k n) : G pc L (.float y :: .float x :: st) h k n := by
  obtain ⟨p, e, s, m, args, below, meth, c, A, Q, ⟨hx, hb, hml, hown, hts, hnm, hlk, hW, hA0⟩, hX, rfl⟩ := C
  intro H locs ls hV hA hS hL
  exact lv_fdiv hx hb d hne (kk H locs ls hV hA hS hL)
end GB
theorem bt_shr : ∀ (P : Fin 256) (i : Fin 8), Int32.ofInt (P.val : Int) >>> (Int32.ofInt (i.val : Int) &&& 31) = Int32.ofInt ((P.val / 2 ^ i.val : Nat) : Int) := by decide +kernel
theorem bt_and : ∀ (P : Fin 256), Int32.ofInt (P.val : Int) &&& Int32.ofInt 1 = Int32.ofInt ((P.val % 2 : Nat) : Int) := by decide +kernel
theorem bt_shl : ∀ (i : Fin 8), Int32.ofInt 1 <<< (Int32.ofInt (i.val : Int) &&& 31) = Int32.ofInt ((2 ^ i.val : Nat) : Int) := by decide +kernel
theorem bt_or0 : ∀ (P : Fin 256), Int32.ofInt (P.val : Int) ||| Int32.ofInt 0 = Int32.ofInt (P.val : Int) := by decide +kernel
theorem bt_or : ∀ (i : Fin 8) (P : Fin 256), P.val < 2 ^ i.val → Int32.ofInt (P.val : Int) ||| Int32.ofInt ((2 ^ i.val : Nat) : Int) = Int32.ofInt ((P.val + 2 ^ i.val : Nat) : Int) := by decide +kernel
