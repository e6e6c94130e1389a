/-! more of the walk kit: locals far up, longs, floats, a heap that holds less -/
section K2
variable {l : Launch} {Γ : GA} {M : MD} {G : GP} {X : String → Hp → Nat → Nat → Prop} {pc : Nat} {L : List (Option Value)} {st : List Value} {h : Hp} {k n : Nat}
theorem gk_less (C : Cx l Γ M G X) {h0 : Hp} (hs : ∀ q e, h0 q = some e → h q = some e) (kk : G pc L st h0 k n) : G pc L st h k n := by
  obtain ⟨p, e, s, m, args, below, meth, c, A, Q, ⟨hx, hb, hml, hown, hts, hnm, hlk, hW, hA0⟩, hX, rfl⟩ := C
  intro H locs ls hV hA hS hL
  refine kk H locs ls (fun a e c => hV a e (hs a e c)) (fun q hq => hA q ?_) hS hL
  cases c : h0 q with
  | none => exact absurd c hq
  | some e => rw [hs q e c]; intro z; cases z
theorem gk_none (C : Cx l Γ M G X) (kk : G pc L st (fun _ => none) k n) : G pc L st h k n := gk_less C (fun q e z => by cases z) kk
theorem gk_lload (C : Cx l Γ M G X) {i : Nat} {z : Int} (d : decode M.2.1 pc = .ok (.lload i, 2)) (hl : gk_get L i = some (jv z)) (kk : G (pc + 2) L (jv z :: st) h k n) : G pc L st h k n := by
  obtain ⟨p, e, s, m, args, below, meth, c, A, Q, ⟨hx, hb, hml, hown, hts, hnm, hlk, hW, hA0⟩, hX, rfl⟩ := C
  intro H locs ls hV hA hS hL
  exact lv_lload hx hb d (hL.at hl) (kk H locs ls hV hA hS hL)
theorem gk_fconst0 (C : Cx l Γ M G X) (d : decode M.2.1 pc = .ok (.fconst 0, 1)) (kk : G (pc + 1) L (.float FP.fconst0 :: st) h k n) : G pc L st h k n := by
  obtain ⟨p, e, s, m, args, below, meth, c, A, Q, ⟨hx, hb, hml, hown, hts, hnm, hlk, hW, hA0⟩, hX, rfl⟩ := C
  intro H locs ls hV hA hS hL
  exact lv_fconst0 hx hb d (kk H locs ls hV hA hS hL)
theorem gk_fcmp (C : Cx l Γ M G X) {x y : UInt32} {op : CmpOp} {z : Int} (d : decode M.2.1 pc = .ok (.fcmp op, 1)) (hz : Op.cmpValue (FP.fcmp x y) op = Int32.ofInt z) (kk : G (pc + 1) L (iv z :: st) h k n) : G pc L (.float y :: .float x :: st) h k n := by
  obtain ⟨p, e, s, m, args, below, meth, c, A, Q, ⟨hx, hb, hml, hown, hts, hnm, hlk, hW, hA0⟩, hX, rfl⟩ := C
  intro H locs ls hV hA hS hL
  refine lv_fcmp hx hb d ?_
  rw [hz]
  exact kk H locs ls hV hA hS hL
theorem ushr8 (z : Int) : ∃ r : Int, ((Int32.ofInt z).toUInt32 >>> ((Int32.ofInt 8).toUInt32 &&& Int32.toUInt32 31)).toInt32 = Int32.ofInt r ∧ 0 ≤ r ∧ r ≤ 16777215 := by
  have e8 : (Int32.ofInt 8).toUInt32 &&& Int32.toUInt32 31 = 8 := by decide
  rw [e8]
  have hlt : ((Int32.ofInt z).toUInt32 >>> 8).toNat ≤ 16777215 := by
    rw [UInt32.toNat_shiftRight]
    have h1 := (Int32.ofInt z).toUInt32.toNat_lt
    have e : (8 : UInt32).toNat % 32 = 8 := by decide
    rw [e, Nat.shiftRight_eq_div_pow]
    omega
  refine ⟨((((Int32.ofInt z).toUInt32 >>> 8).toNat : Nat) : Int), ?_, by omega, by omega⟩
  apply Int32.toBitVec_inj.mp
  apply BitVec.eq_of_toNat_eq
  rw [Int32.ofInt_eq_ofNat (n := ((Int32.ofInt z).toUInt32 >>> 8).toNat)]
  show ((Int32.ofInt z).toUInt32 >>> 8).toNat = (BitVec.ofNat 32 _).toNat
  rw [BitVec.toNat_ofNat, Nat.mod_eq_of_lt (by omega)]
theorem gk_iushr8 (C : Cx l Γ M G X) {z : Int} (d : decode M.2.1 pc = .ok (.iushr, 1)) (kk : ∀ r : Int, 0 ≤ r ∧ r ≤ 16777215 → G (pc + 1) L (iv r :: st) h k n) : G pc L (iv 8 :: iv z :: st) h k n := by
  obtain ⟨p, e, s, m, args, below, meth, c, A, Q, ⟨hx, hb, hml, hown, hts, hnm, hlk, hW, hA0⟩, hX, rfl⟩ := C
  intro H locs ls hV hA hS hL
  obtain ⟨r, e1, h0, h1⟩ := ushr8 z
  exact lv_iushr hx hb d e1 (kk r ⟨h0, h1⟩ H locs ls hV hA hS hL)

theorem gk_istore_9 (C : Cx l Γ M G X) {a0 a1 a2 a3 a4 a5 a6 a7 a8 : Option Value} {x : Option Value} {r : List (Option Value)} {z : Int} (hc : gk_c1 a8 = true) (hn : 9 < M.2.2.1) (d : decode M.2.1 pc = .ok (.istore 9, 2)) (kk : G (pc + 2) (a0 :: a1 :: a2 :: a3 :: a4 :: a5 :: a6 :: a7 :: a8 :: some (iv z) :: r) st h k n) : G pc (a0 :: a1 :: a2 :: a3 :: a4 :: a5 :: a6 :: a7 :: a8 :: x :: r) (iv z :: st) h k n := by
  obtain ⟨p, e, s, m, args, below, meth, c, A, Q, ⟨hx, hb, hml, hown, hts, hnm, hlk, hW, hA0⟩, hX, rfl⟩ := C
  intro H locs ls hV hA hS hL
  exact lv_istore hx hb d hL.has hn rfl (fun ls2 h2 => kk H locs ls2 hV hA hS (gk_L.put (L := a0 :: a1 :: a2 :: a3 :: a4 :: a5 :: a6 :: a7 :: a8 :: x :: r) h2 (gk_prev (i := 8) rfl hc)))
theorem gk_iinc_9 (C : Cx l Γ M G X) {a0 a1 a2 a3 a4 a5 a6 a7 a8 : Option Value} {r : List (Option Value)} {z y : Int} (hc : gk_c1 a8 = true) (hn : 9 < M.2.2.1) (d : decode M.2.1 pc = .ok (.iinc 9 y, 3)) (kk : G (pc + 3) (a0 :: a1 :: a2 :: a3 :: a4 :: a5 :: a6 :: a7 :: a8 :: some (iv (z + y)) :: r) st h k n) : G pc (a0 :: a1 :: a2 :: a3 :: a4 :: a5 :: a6 :: a7 :: a8 :: some (iv z) :: r) st h k n := by
  obtain ⟨p, e, s, m, args, below, meth, c, A, Q, ⟨hx, hb, hml, hown, hts, hnm, hlk, hW, hA0⟩, hX, rfl⟩ := C
  intro H locs ls hV hA hS hL
  have hm : (9, iv z) ∈ gk_pairs (a0 :: a1 :: a2 :: a3 :: a4 :: a5 :: a6 :: a7 :: a8 :: some (iv z) :: r) := gk_pairs_in.mpr rfl
  obtain ⟨j, hj⟩ := List.getElem?_of_mem hm
  exact lv_iinc hx hb d hL.has (k := j) hj (v := Int32.ofInt (z + y)) (gk_add z y).symm hn rfl (fun ls2 h2 => kk H locs ls2 hV hA hS (gk_L.put (L := a0 :: a1 :: a2 :: a3 :: a4 :: a5 :: a6 :: a7 :: a8 :: some (iv z) :: r) h2 (gk_prev (i := 8) rfl hc)))
theorem gk_istore_10 (C : Cx l Γ M G X) {a0 a1 a2 a3 a4 a5 a6 a7 a8 a9 : Option Value} {x : Option Value} {r : List (Option Value)} {z : Int} (hc : gk_c1 a9 = true) (hn : 10 < M.2.2.1) (d : decode M.2.1 pc = .ok (.istore 10, 2)) (kk : G (pc + 2) (a0 :: a1 :: a2 :: a3 :: a4 :: a5 :: a6 :: a7 :: a8 :: a9 :: some (iv z) :: r) st h k n) : G pc (a0 :: a1 :: a2 :: a3 :: a4 :: a5 :: a6 :: a7 :: a8 :: a9 :: x :: r) (iv z :: st) h k n := by
  obtain ⟨p, e, s, m, args, below, meth, c, A, Q, ⟨hx, hb, hml, hown, hts, hnm, hlk, hW, hA0⟩, hX, rfl⟩ := C
  intro H locs ls hV hA hS hL
  exact lv_istore hx hb d hL.has hn rfl (fun ls2 h2 => kk H locs ls2 hV hA hS (gk_L.put (L := a0 :: a1 :: a2 :: a3 :: a4 :: a5 :: a6 :: a7 :: a8 :: a9 :: x :: r) h2 (gk_prev (i := 9) rfl hc)))
theorem gk_iinc_10 (C : Cx l Γ M G X) {a0 a1 a2 a3 a4 a5 a6 a7 a8 a9 : Option Value} {r : List (Option Value)} {z y : Int} (hc : gk_c1 a9 = true) (hn : 10 < M.2.2.1) (d : decode M.2.1 pc = .ok (.iinc 10 y, 3)) (kk : G (pc + 3) (a0 :: a1 :: a2 :: a3 :: a4 :: a5 :: a6 :: a7 :: a8 :: a9 :: some (iv (z + y)) :: r) st h k n) : G pc (a0 :: a1 :: a2 :: a3 :: a4 :: a5 :: a6 :: a7 :: a8 :: a9 :: some (iv z) :: r) st h k n := by
  obtain ⟨p, e, s, m, args, below, meth, c, A, Q, ⟨hx, hb, hml, hown, hts, hnm, hlk, hW, hA0⟩, hX, rfl⟩ := C
  intro H locs ls hV hA hS hL
  have hm : (10, iv z) ∈ gk_pairs (a0 :: a1 :: a2 :: a3 :: a4 :: a5 :: a6 :: a7 :: a8 :: a9 :: some (iv z) :: r) := gk_pairs_in.mpr rfl
  obtain ⟨j, hj⟩ := List.getElem?_of_mem hm
  exact lv_iinc hx hb d hL.has (k := j) hj (v := Int32.ofInt (z + y)) (gk_add z y).symm hn rfl (fun ls2 h2 => kk H locs ls2 hV hA hS (gk_L.put (L := a0 :: a1 :: a2 :: a3 :: a4 :: a5 :: a6 :: a7 :: a8 :: a9 :: some (iv z) :: r) h2 (gk_prev (i := 9) rfl hc)))
theorem gk_istore_11 (C : Cx l Γ M G X) {a0 a1 a2 a3 a4 a5 a6 a7 a8 a9 a10 : Option Value} {x : Option Value} {r : List (Option Value)} {z : Int} (hc : gk_c1 a10 = true) (hn : 11 < M.2.2.1) (d : decode M.2.1 pc = .ok (.istore 11, 2)) (kk : G (pc + 2) (a0 :: a1 :: a2 :: a3 :: a4 :: a5 :: a6 :: a7 :: a8 :: a9 :: a10 :: some (iv z) :: r) st h k n) : G pc (a0 :: a1 :: a2 :: a3 :: a4 :: a5 :: a6 :: a7 :: a8 :: a9 :: a10 :: x :: r) (iv z :: st) h k n := by
  obtain ⟨p, e, s, m, args, below, meth, c, A, Q, ⟨hx, hb, hml, hown, hts, hnm, hlk, hW, hA0⟩, hX, rfl⟩ := C
  intro H locs ls hV hA hS hL
  exact lv_istore hx hb d hL.has hn rfl (fun ls2 h2 => kk H locs ls2 hV hA hS (gk_L.put (L := a0 :: a1 :: a2 :: a3 :: a4 :: a5 :: a6 :: a7 :: a8 :: a9 :: a10 :: x :: r) h2 (gk_prev (i := 10) rfl hc)))
theorem gk_iinc_11 (C : Cx l Γ M G X) {a0 a1 a2 a3 a4 a5 a6 a7 a8 a9 a10 : Option Value} {r : List (Option Value)} {z y : Int} (hc : gk_c1 a10 = true) (hn : 11 < M.2.2.1) (d : decode M.2.1 pc = .ok (.iinc 11 y, 3)) (kk : G (pc + 3) (a0 :: a1 :: a2 :: a3 :: a4 :: a5 :: a6 :: a7 :: a8 :: a9 :: a10 :: some (iv (z + y)) :: r) st h k n) : G pc (a0 :: a1 :: a2 :: a3 :: a4 :: a5 :: a6 :: a7 :: a8 :: a9 :: a10 :: some (iv z) :: r) st h k n := by
  obtain ⟨p, e, s, m, args, below, meth, c, A, Q, ⟨hx, hb, hml, hown, hts, hnm, hlk, hW, hA0⟩, hX, rfl⟩ := C
  intro H locs ls hV hA hS hL
  have hm : (11, iv z) ∈ gk_pairs (a0 :: a1 :: a2 :: a3 :: a4 :: a5 :: a6 :: a7 :: a8 :: a9 :: a10 :: some (iv z) :: r) := gk_pairs_in.mpr rfl
  obtain ⟨j, hj⟩ := List.getElem?_of_mem hm
  exact lv_iinc hx hb d hL.has (k := j) hj (v := Int32.ofInt (z + y)) (gk_add z y).symm hn rfl (fun ls2 h2 => kk H locs ls2 hV hA hS (gk_L.put (L := a0 :: a1 :: a2 :: a3 :: a4 :: a5 :: a6 :: a7 :: a8 :: a9 :: a10 :: some (iv z) :: r) h2 (gk_prev (i := 10) rfl hc)))
theorem gk_istore_12 (C : Cx l Γ M G X) {a0 a1 a2 a3 a4 a5 a6 a7 a8 a9 a10 a11 : Option Value} {x : Option Value} {r : List (Option Value)} {z : Int} (hc : gk_c1 a11 = true) (hn : 12 < M.2.2.1) (d : decode M.2.1 pc = .ok (.istore 12, 2)) (kk : G (pc + 2) (a0 :: a1 :: a2 :: a3 :: a4 :: a5 :: a6 :: a7 :: a8 :: a9 :: a10 :: a11 :: some (iv z) :: r) st h k n) : G pc (a0 :: a1 :: a2 :: a3 :: a4 :: a5 :: a6 :: a7 :: a8 :: a9 :: a10 :: a11 :: x :: r) (iv z :: st) h k n := by
  obtain ⟨p, e, s, m, args, below, meth, c, A, Q, ⟨hx, hb, hml, hown, hts, hnm, hlk, hW, hA0⟩, hX, rfl⟩ := C
  intro H locs ls hV hA hS hL
  exact lv_istore hx hb d hL.has hn rfl (fun ls2 h2 => kk H locs ls2 hV hA hS (gk_L.put (L := a0 :: a1 :: a2 :: a3 :: a4 :: a5 :: a6 :: a7 :: a8 :: a9 :: a10 :: a11 :: x :: r) h2 (gk_prev (i := 11) rfl hc)))
theorem gk_iinc_12 (C : Cx l Γ M G X) {a0 a1 a2 a3 a4 a5 a6 a7 a8 a9 a10 a11 : Option Value} {r : List (Option Value)} {z y : Int} (hc : gk_c1 a11 = true) (hn : 12 < M.2.2.1) (d : decode M.2.1 pc = .ok (.iinc 12 y, 3)) (kk : G (pc + 3) (a0 :: a1 :: a2 :: a3 :: a4 :: a5 :: a6 :: a7 :: a8 :: a9 :: a10 :: a11 :: some (iv (z + y)) :: r) st h k n) : G pc (a0 :: a1 :: a2 :: a3 :: a4 :: a5 :: a6 :: a7 :: a8 :: a9 :: a10 :: a11 :: some (iv z) :: r) st h k n := by
  obtain ⟨p, e, s, m, args, below, meth, c, A, Q, ⟨hx, hb, hml, hown, hts, hnm, hlk, hW, hA0⟩, hX, rfl⟩ := C
  intro H locs ls hV hA hS hL
  have hm : (12, iv z) ∈ gk_pairs (a0 :: a1 :: a2 :: a3 :: a4 :: a5 :: a6 :: a7 :: a8 :: a9 :: a10 :: a11 :: some (iv z) :: r) := gk_pairs_in.mpr rfl
  obtain ⟨j, hj⟩ := List.getElem?_of_mem hm
  exact lv_iinc hx hb d hL.has (k := j) hj (v := Int32.ofInt (z + y)) (gk_add z y).symm hn rfl (fun ls2 h2 => kk H locs ls2 hV hA hS (gk_L.put (L := a0 :: a1 :: a2 :: a3 :: a4 :: a5 :: a6 :: a7 :: a8 :: a9 :: a10 :: a11 :: some (iv z) :: r) h2 (gk_prev (i := 11) rfl hc)))
theorem gk_istore_13 (C : Cx l Γ M G X) {a0 a1 a2 a3 a4 a5 a6 a7 a8 a9 a10 a11 a12 : Option Value} {x : Option Value} {r : List (Option Value)} {z : Int} (hc : gk_c1 a12 = true) (hn : 13 < M.2.2.1) (d : decode M.2.1 pc = .ok (.istore 13, 2)) (kk : G (pc + 2) (a0 :: a1 :: a2 :: a3 :: a4 :: a5 :: a6 :: a7 :: a8 :: a9 :: a10 :: a11 :: a12 :: some (iv z) :: r) st h k n) : G pc (a0 :: a1 :: a2 :: a3 :: a4 :: a5 :: a6 :: a7 :: a8 :: a9 :: a10 :: a11 :: a12 :: x :: r) (iv z :: st) h k n := by
  obtain ⟨p, e, s, m, args, below, meth, c, A, Q, ⟨hx, hb, hml, hown, hts, hnm, hlk, hW, hA0⟩, hX, rfl⟩ := C
  intro H locs ls hV hA hS hL
  exact lv_istore hx hb d hL.has hn rfl (fun ls2 h2 => kk H locs ls2 hV hA hS (gk_L.put (L := a0 :: a1 :: a2 :: a3 :: a4 :: a5 :: a6 :: a7 :: a8 :: a9 :: a10 :: a11 :: a12 :: x :: r) h2 (gk_prev (i := 12) rfl hc)))
theorem gk_iinc_13 (C : Cx l Γ M G X) {a0 a1 a2 a3 a4 a5 a6 a7 a8 a9 a10 a11 a12 : Option Value} {r : List (Option Value)} {z y : Int} (hc : gk_c1 a12 = true) (hn : 13 < M.2.2.1) (d : decode M.2.1 pc = .ok (.iinc 13 y, 3)) (kk : G (pc + 3) (a0 :: a1 :: a2 :: a3 :: a4 :: a5 :: a6 :: a7 :: a8 :: a9 :: a10 :: a11 :: a12 :: some (iv (z + y)) :: r) st h k n) : G pc (a0 :: a1 :: a2 :: a3 :: a4 :: a5 :: a6 :: a7 :: a8 :: a9 :: a10 :: a11 :: a12 :: some (iv z) :: r) st h k n := by
  obtain ⟨p, e, s, m, args, below, meth, c, A, Q, ⟨hx, hb, hml, hown, hts, hnm, hlk, hW, hA0⟩, hX, rfl⟩ := C
  intro H locs ls hV hA hS hL
  have hm : (13, iv z) ∈ gk_pairs (a0 :: a1 :: a2 :: a3 :: a4 :: a5 :: a6 :: a7 :: a8 :: a9 :: a10 :: a11 :: a12 :: some (iv z) :: r) := gk_pairs_in.mpr rfl
  obtain ⟨j, hj⟩ := List.getElem?_of_mem hm
  exact lv_iinc hx hb d hL.has (k := j) hj (v := Int32.ofInt (z + y)) (gk_add z y).symm hn rfl (fun ls2 h2 => kk H locs ls2 hV hA hS (gk_L.put (L := a0 :: a1 :: a2 :: a3 :: a4 :: a5 :: a6 :: a7 :: a8 :: a9 :: a10 :: a11 :: a12 :: some (iv z) :: r) h2 (gk_prev (i := 12) rfl hc)))
theorem gk_istore_14 (C : Cx l Γ M G X) {a0 a1 a2 a3 a4 a5 a6 a7 a8 a9 a10 a11 a12 a13 : Option Value} {x : Option Value} {r : List (Option Value)} {z : Int} (hc : gk_c1 a13 = true) (hn : 14 < M.2.2.1) (d : decode M.2.1 pc = .ok (.istore 14, 2)) (kk : G (pc + 2) (a0 :: a1 :: a2 :: a3 :: a4 :: a5 :: a6 :: a7 :: a8 :: a9 :: a10 :: a11 :: a12 :: a13 :: some (iv z) :: r) st h k n) : G pc (a0 :: a1 :: a2 :: a3 :: a4 :: a5 :: a6 :: a7 :: a8 :: a9 :: a10 :: a11 :: a12 :: a13 :: x :: r) (iv z :: st) h k n := by
  obtain ⟨p, e, s, m, args, below, meth, c, A, Q, ⟨hx, hb, hml, hown, hts, hnm, hlk, hW, hA0⟩, hX, rfl⟩ := C
  intro H locs ls hV hA hS hL
  exact lv_istore hx hb d hL.has hn rfl (fun ls2 h2 => kk H locs ls2 hV hA hS (gk_L.put (L := a0 :: a1 :: a2 :: a3 :: a4 :: a5 :: a6 :: a7 :: a8 :: a9 :: a10 :: a11 :: a12 :: a13 :: x :: r) h2 (gk_prev (i := 13) rfl hc)))
theorem gk_iinc_14 (C : Cx l Γ M G X) {a0 a1 a2 a3 a4 a5 a6 a7 a8 a9 a10 a11 a12 a13 : Option Value} {r : List (Option Value)} {z y : Int} (hc : gk_c1 a13 = true) (hn : 14 < M.2.2.1) (d : decode M.2.1 pc = .ok (.iinc 14 y, 3)) (kk : G (pc + 3) (a0 :: a1 :: a2 :: a3 :: a4 :: a5 :: a6 :: a7 :: a8 :: a9 :: a10 :: a11 :: a12 :: a13 :: some (iv (z + y)) :: r) st h k n) : G pc (a0 :: a1 :: a2 :: a3 :: a4 :: a5 :: a6 :: a7 :: a8 :: a9 :: a10 :: a11 :: a12 :: a13 :: some (iv z) :: r) st h k n := by
  obtain ⟨p, e, s, m, args, below, meth, c, A, Q, ⟨hx, hb, hml, hown, hts, hnm, hlk, hW, hA0⟩, hX, rfl⟩ := C
  intro H locs ls hV hA hS hL
  have hm : (14, iv z) ∈ gk_pairs (a0 :: a1 :: a2 :: a3 :: a4 :: a5 :: a6 :: a7 :: a8 :: a9 :: a10 :: a11 :: a12 :: a13 :: some (iv z) :: r) := gk_pairs_in.mpr rfl
  obtain ⟨j, hj⟩ := List.getElem?_of_mem hm
  exact lv_iinc hx hb d hL.has (k := j) hj (v := Int32.ofInt (z + y)) (gk_add z y).symm hn rfl (fun ls2 h2 => kk H locs ls2 hV hA hS (gk_L.put (L := a0 :: a1 :: a2 :: a3 :: a4 :: a5 :: a6 :: a7 :: a8 :: a9 :: a10 :: a11 :: a12 :: a13 :: some (iv z) :: r) h2 (gk_prev (i := 13) rfl hc)))
theorem gk_istore_15 (C : Cx l Γ M G X) {a0 a1 a2 a3 a4 a5 a6 a7 a8 a9 a10 a11 a12 a13 a14 : Option Value} {x : Option Value} {r : List (Option Value)} {z : Int} (hc : gk_c1 a14 = true) (hn : 15 < M.2.2.1) (d : decode M.2.1 pc = .ok (.istore 15, 2)) (kk : G (pc + 2) (a0 :: a1 :: a2 :: a3 :: a4 :: a5 :: a6 :: a7 :: a8 :: a9 :: a10 :: a11 :: a12 :: a13 :: a14 :: some (iv z) :: r) st h k n) : G pc (a0 :: a1 :: a2 :: a3 :: a4 :: a5 :: a6 :: a7 :: a8 :: a9 :: a10 :: a11 :: a12 :: a13 :: a14 :: x :: r) (iv z :: st) h k n := by
  obtain ⟨p, e, s, m, args, below, meth, c, A, Q, ⟨hx, hb, hml, hown, hts, hnm, hlk, hW, hA0⟩, hX, rfl⟩ := C
  intro H locs ls hV hA hS hL
  exact lv_istore hx hb d hL.has hn rfl (fun ls2 h2 => kk H locs ls2 hV hA hS (gk_L.put (L := a0 :: a1 :: a2 :: a3 :: a4 :: a5 :: a6 :: a7 :: a8 :: a9 :: a10 :: a11 :: a12 :: a13 :: a14 :: x :: r) h2 (gk_prev (i := 14) rfl hc)))
theorem gk_iinc_15 (C : Cx l Γ M G X) {a0 a1 a2 a3 a4 a5 a6 a7 a8 a9 a10 a11 a12 a13 a14 : Option Value} {r : List (Option Value)} {z y : Int} (hc : gk_c1 a14 = true) (hn : 15 < M.2.2.1) (d : decode M.2.1 pc = .ok (.iinc 15 y, 3)) (kk : G (pc + 3) (a0 :: a1 :: a2 :: a3 :: a4 :: a5 :: a6 :: a7 :: a8 :: a9 :: a10 :: a11 :: a12 :: a13 :: a14 :: some (iv (z + y)) :: r) st h k n) : G pc (a0 :: a1 :: a2 :: a3 :: a4 :: a5 :: a6 :: a7 :: a8 :: a9 :: a10 :: a11 :: a12 :: a13 :: a14 :: some (iv z) :: r) st h k n := by
  obtain ⟨p, e, s, m, args, below, meth, c, A, Q, ⟨hx, hb, hml, hown, hts, hnm, hlk, hW, hA0⟩, hX, rfl⟩ := C
  intro H locs ls hV hA hS hL
  have hm : (15, iv z) ∈ gk_pairs (a0 :: a1 :: a2 :: a3 :: a4 :: a5 :: a6 :: a7 :: a8 :: a9 :: a10 :: a11 :: a12 :: a13 :: a14 :: some (iv z) :: r) := gk_pairs_in.mpr rfl
  obtain ⟨j, hj⟩ := List.getElem?_of_mem hm
  exact lv_iinc hx hb d hL.has (k := j) hj (v := Int32.ofInt (z + y)) (gk_add z y).symm hn rfl (fun ls2 h2 => kk H locs ls2 hV hA hS (gk_L.put (L := a0 :: a1 :: a2 :: a3 :: a4 :: a5 :: a6 :: a7 :: a8 :: a9 :: a10 :: a11 :: a12 :: a13 :: a14 :: some (iv z) :: r) h2 (gk_prev (i := 14) rfl hc)))
theorem gk_istore_16 (C : Cx l Γ M G X) {a0 a1 a2 a3 a4 a5 a6 a7 a8 a9 a10 a11 a12 a13 a14 a15 : Option Value} {x : Option Value} {r : List (Option Value)} {z : Int} (hc : gk_c1 a15 = true) (hn : 16 < M.2.2.1) (d : decode M.2.1 pc = .ok (.istore 16, 2)) (kk : G (pc + 2) (a0 :: a1 :: a2 :: a3 :: a4 :: a5 :: a6 :: a7 :: a8 :: a9 :: a10 :: a11 :: a12 :: a13 :: a14 :: a15 :: some (iv z) :: r) st h k n) : G pc (a0 :: a1 :: a2 :: a3 :: a4 :: a5 :: a6 :: a7 :: a8 :: a9 :: a10 :: a11 :: a12 :: a13 :: a14 :: a15 :: x :: r) (iv z :: st) h k n := by
  obtain ⟨p, e, s, m, args, below, meth, c, A, Q, ⟨hx, hb, hml, hown, hts, hnm, hlk, hW, hA0⟩, hX, rfl⟩ := C
  intro H locs ls hV hA hS hL
  exact lv_istore hx hb d hL.has hn rfl (fun ls2 h2 => kk H locs ls2 hV hA hS (gk_L.put (L := a0 :: a1 :: a2 :: a3 :: a4 :: a5 :: a6 :: a7 :: a8 :: a9 :: a10 :: a11 :: a12 :: a13 :: a14 :: a15 :: x :: r) h2 (gk_prev (i := 15) rfl hc)))
theorem gk_iinc_16 (C : Cx l Γ M G X) {a0 a1 a2 a3 a4 a5 a6 a7 a8 a9 a10 a11 a12 a13 a14 a15 : Option Value} {r : List (Option Value)} {z y : Int} (hc : gk_c1 a15 = true) (hn : 16 < M.2.2.1) (d : decode M.2.1 pc = .ok (.iinc 16 y, 3)) (kk : G (pc + 3) (a0 :: a1 :: a2 :: a3 :: a4 :: a5 :: a6 :: a7 :: a8 :: a9 :: a10 :: a11 :: a12 :: a13 :: a14 :: a15 :: some (iv (z + y)) :: r) st h k n) : G pc (a0 :: a1 :: a2 :: a3 :: a4 :: a5 :: a6 :: a7 :: a8 :: a9 :: a10 :: a11 :: a12 :: a13 :: a14 :: a15 :: some (iv z) :: r) st h k n := by
  obtain ⟨p, e, s, m, args, below, meth, c, A, Q, ⟨hx, hb, hml, hown, hts, hnm, hlk, hW, hA0⟩, hX, rfl⟩ := C
  intro H locs ls hV hA hS hL
  have hm : (16, iv z) ∈ gk_pairs (a0 :: a1 :: a2 :: a3 :: a4 :: a5 :: a6 :: a7 :: a8 :: a9 :: a10 :: a11 :: a12 :: a13 :: a14 :: a15 :: some (iv z) :: r) := gk_pairs_in.mpr rfl
  obtain ⟨j, hj⟩ := List.getElem?_of_mem hm
  exact lv_iinc hx hb d hL.has (k := j) hj (v := Int32.ofInt (z + y)) (gk_add z y).symm hn rfl (fun ls2 h2 => kk H locs ls2 hV hA hS (gk_L.put (L := a0 :: a1 :: a2 :: a3 :: a4 :: a5 :: a6 :: a7 :: a8 :: a9 :: a10 :: a11 :: a12 :: a13 :: a14 :: a15 :: some (iv z) :: r) h2 (gk_prev (i := 15) rfl hc)))
theorem gk_istore_17 (C : Cx l Γ M G X) {a0 a1 a2 a3 a4 a5 a6 a7 a8 a9 a10 a11 a12 a13 a14 a15 a16 : Option Value} {x : Option Value} {r : List (Option Value)} {z : Int} (hc : gk_c1 a16 = true) (hn : 17 < M.2.2.1) (d : decode M.2.1 pc = .ok (.istore 17, 2)) (kk : G (pc + 2) (a0 :: a1 :: a2 :: a3 :: a4 :: a5 :: a6 :: a7 :: a8 :: a9 :: a10 :: a11 :: a12 :: a13 :: a14 :: a15 :: a16 :: some (iv z) :: r) st h k n) : G pc (a0 :: a1 :: a2 :: a3 :: a4 :: a5 :: a6 :: a7 :: a8 :: a9 :: a10 :: a11 :: a12 :: a13 :: a14 :: a15 :: a16 :: x :: r) (iv z :: st) h k n := by
  obtain ⟨p, e, s, m, args, below, meth, c, A, Q, ⟨hx, hb, hml, hown, hts, hnm, hlk, hW, hA0⟩, hX, rfl⟩ := C
  intro H locs ls hV hA hS hL
  exact lv_istore hx hb d hL.has hn rfl (fun ls2 h2 => kk H locs ls2 hV hA hS (gk_L.put (L := a0 :: a1 :: a2 :: a3 :: a4 :: a5 :: a6 :: a7 :: a8 :: a9 :: a10 :: a11 :: a12 :: a13 :: a14 :: a15 :: a16 :: x :: r) h2 (gk_prev (i := 16) rfl hc)))
theorem gk_iinc_17 (C : Cx l Γ M G X) {a0 a1 a2 a3 a4 a5 a6 a7 a8 a9 a10 a11 a12 a13 a14 a15 a16 : Option Value} {r : List (Option Value)} {z y : Int} (hc : gk_c1 a16 = true) (hn : 17 < M.2.2.1) (d : decode M.2.1 pc = .ok (.iinc 17 y, 3)) (kk : G (pc + 3) (a0 :: a1 :: a2 :: a3 :: a4 :: a5 :: a6 :: a7 :: a8 :: a9 :: a10 :: a11 :: a12 :: a13 :: a14 :: a15 :: a16 :: some (iv (z + y)) :: r) st h k n) : G pc (a0 :: a1 :: a2 :: a3 :: a4 :: a5 :: a6 :: a7 :: a8 :: a9 :: a10 :: a11 :: a12 :: a13 :: a14 :: a15 :: a16 :: some (iv z) :: r) st h k n := by
  obtain ⟨p, e, s, m, args, below, meth, c, A, Q, ⟨hx, hb, hml, hown, hts, hnm, hlk, hW, hA0⟩, hX, rfl⟩ := C
  intro H locs ls hV hA hS hL
  have hm : (17, iv z) ∈ gk_pairs (a0 :: a1 :: a2 :: a3 :: a4 :: a5 :: a6 :: a7 :: a8 :: a9 :: a10 :: a11 :: a12 :: a13 :: a14 :: a15 :: a16 :: some (iv z) :: r) := gk_pairs_in.mpr rfl
  obtain ⟨j, hj⟩ := List.getElem?_of_mem hm
  exact lv_iinc hx hb d hL.has (k := j) hj (v := Int32.ofInt (z + y)) (gk_add z y).symm hn rfl (fun ls2 h2 => kk H locs ls2 hV hA hS (gk_L.put (L := a0 :: a1 :: a2 :: a3 :: a4 :: a5 :: a6 :: a7 :: a8 :: a9 :: a10 :: a11 :: a12 :: a13 :: a14 :: a15 :: a16 :: some (iv z) :: r) h2 (gk_prev (i := 16) rfl hc)))
theorem gk_lstore_6 (C : Cx l Γ M G X) {a0 a1 a2 a3 a4 a5 x y : Option Value} {r : List (Option Value)} {z : Int} (hc : gk_c1 a5 = true) (hn : 6 + 1 < M.2.2.1) (d : decode M.2.1 pc = .ok (.lstore 6, 2)) (kk : G (pc + 2) (a0 :: a1 :: a2 :: a3 :: a4 :: a5 :: some (jv z) :: none :: r) st h k n) : G pc (a0 :: a1 :: a2 :: a3 :: a4 :: a5 :: x :: y :: r) (jv z :: st) h k n := by
  obtain ⟨p, e, s, m, args, below, meth, c, A, Q, ⟨hx, hb, hml, hown, hts, hnm, hlk, hW, hA0⟩, hX, rfl⟩ := C
  intro H locs ls hV hA hS hL
  exact lv_lstore hx hb d hL.has hn rfl (fun ls2 h2 => kk H locs ls2 hV hA hS (gk_L.put2 (L := a0 :: a1 :: a2 :: a3 :: a4 :: a5 :: x :: y :: r) h2 (gk_prev (i := 5) rfl hc)))
end K2
/-- beats are never below 0; three beats of the runs by hand -/
theorem btF_ge0 : ∀ i : Fin 1001, Op.cmpValue (FP.fcmp (btF (i.val : Int)) FP.fconst0) .g = Int32.ofInt 0 ∨ Op.cmpValue (FP.fcmp (btF (i.val : Int)) FP.fconst0) .g = Int32.ofInt 1 := by decide +kernel
theorem btF_ge {z : Int} (h : 0 ≤ z ∧ z ≤ 1000) : ∃ r : Int, Op.cmpValue (FP.fcmp (btF z) FP.fconst0) .g = Int32.ofInt r ∧ (r = 0 ∨ r = 1) := by
  have e := btF_ge0 ⟨z.toNat, by omega⟩
  have e2 : ((z.toNat : Nat) : Int) = z := by omega
  dsimp only at e
  rw [e2] at e
  rcases e with e | e
  · exact ⟨0, e, Or.inl rfl⟩
  · exact ⟨1, e, Or.inr rfl⟩
