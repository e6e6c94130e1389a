/-! the law: its wrappers' words -/
theorem ce_IllegalArgumentException : Cond.castable "java/lang/IllegalArgumentException" "java/lang/IllegalArgumentException" ∈ gk_NW := gk_nw (List.mem_append_right _ (List.mem_of_getElem? (i := 212) (by decide +kernel))) rfl
theorem ce_IllegalStateException : Cond.castable "java/lang/IllegalStateException" "java/lang/IllegalStateException" ∈ gk_NW := gk_nw (List.mem_append_right _ (List.mem_of_getElem? (i := 280) (by decide +kernel))) rfl
theorem ce_IndexOutOfBoundsException : Cond.castable "java/lang/IndexOutOfBoundsException" "java/lang/IndexOutOfBoundsException" ∈ gk_NW := gk_nw (List.mem_append_right _ (List.mem_of_getElem? (i := 409) (by decide +kernel))) rfl
abbrev m_L_tune : MD := (yL_tune, cL_tune, 4, (some .int), 7, 130, 9, 418)
def hh_L_tune : List (Nat × Nat × Nat × Nat) := [(0, 9, 12, 13), (0, 9, 15, 15)]
theorem o_L_tune : gk_MH m_L_tune hh_L_tune 3 := ⟨gk_ws (List.mem_append_right _ (List.mem_of_getElem? (i := 200) (by decide +kernel))) rfl, gk_ws (List.mem_append_right _ (List.mem_of_getElem? (i := 0) (by decide +kernel))) rfl, by decide +kernel, by decide +kernel, by decide +kernel⟩
theorem k_L_7 : gk_KV RL 7 yX4_tune := ⟨Or.inl (gk_ws (List.mem_append_right _ (List.mem_of_getElem? (i := 203) (by decide +kernel))) rfl), gk_ws (List.mem_append_right _ (List.mem_of_getElem? (i := 204) (by decide +kernel))) rfl, gk_ws (List.mem_append_right _ (List.mem_of_getElem? (i := 205) (by decide +kernel))) rfl⟩
theorem hd_L_tune_0 : gk_hd RL hh_L_tune 4 "java/lang/IllegalArgumentException" 12 := ⟨[], ⟨0, 9, 12, 13⟩, [⟨0, 9, 15, 15⟩], rfl, (fun z hz => by cases hz), by decide, by decide, cw_L_13, ce_IllegalArgumentException, rfl⟩
theorem hd_L_tune_1 : gk_hd RL hh_L_tune 4 "java/lang/IllegalStateException" 15 := ⟨[⟨0, 9, 12, 13⟩], ⟨0, 9, 15, 15⟩, [], rfl, (fun z hz => by
  rcases (by simpa using hz : z = ⟨0, 9, 12, 13⟩) with rfl
  · exact Or.inr ⟨by decide, "java/lang/IllegalArgumentException", cw_L_13, by decide +kernel⟩), by decide, by decide, cw_L_15, ce_IllegalStateException, rfl⟩
abbrev m_L_note : MD := (yL_note, cL_note, 7, (some .int), 8, 136, 3, 18)
def hh_L_note : List (Nat × Nat × Nat × Nat) := [(0, 14, 17, 21), (0, 14, 21, 13), (0, 14, 25, 15)]
theorem o_L_note : gk_MH m_L_note hh_L_note 6 := ⟨gk_ws (List.mem_append_right _ (List.mem_of_getElem? (i := 397) (by decide +kernel))) rfl, gk_ws (List.mem_append_right _ (List.mem_of_getElem? (i := 0) (by decide +kernel))) rfl, by decide +kernel, by decide +kernel, by decide +kernel⟩
theorem k_L_17 : gk_KV RL 17 yX4_note := ⟨Or.inl (gk_ws (List.mem_append_right _ (List.mem_of_getElem? (i := 399) (by decide +kernel))) rfl), gk_ws (List.mem_append_right _ (List.mem_of_getElem? (i := 400) (by decide +kernel))) rfl, gk_ws (List.mem_append_right _ (List.mem_of_getElem? (i := 401) (by decide +kernel))) rfl⟩
theorem hd_L_note_0 : gk_hd RL hh_L_note 9 "java/lang/IndexOutOfBoundsException" 17 := ⟨[], ⟨0, 14, 17, 21⟩, [⟨0, 14, 21, 13⟩, ⟨0, 14, 25, 15⟩], rfl, (fun z hz => by cases hz), by decide, by decide, cw_L_21, ce_IndexOutOfBoundsException, rfl⟩
theorem hd_L_note_1 : gk_hd RL hh_L_note 9 "java/lang/IllegalArgumentException" 21 := ⟨[⟨0, 14, 17, 21⟩], ⟨0, 14, 21, 13⟩, [⟨0, 14, 25, 15⟩], rfl, (fun z hz => by
  rcases (by simpa using hz : z = ⟨0, 14, 17, 21⟩) with rfl
  · exact Or.inr ⟨by decide, "java/lang/IndexOutOfBoundsException", cw_L_21, by decide +kernel⟩), by decide, by decide, cw_L_13, ce_IllegalArgumentException, rfl⟩
theorem hd_L_note_2 : gk_hd RL hh_L_note 9 "java/lang/IllegalStateException" 25 := ⟨[⟨0, 14, 17, 21⟩, ⟨0, 14, 21, 13⟩], ⟨0, 14, 25, 15⟩, [], rfl, (fun z hz => by
  rcases (by simpa using hz : z = ⟨0, 14, 17, 21⟩ ∨ z = ⟨0, 14, 21, 13⟩) with rfl | rfl
  · exact Or.inr ⟨by decide, "java/lang/IndexOutOfBoundsException", cw_L_21, by decide +kernel⟩
  · exact Or.inr ⟨by decide, "java/lang/IllegalArgumentException", cw_L_13, by decide +kernel⟩), by decide, by decide, cw_L_15, ce_IllegalStateException, rfl⟩
abbrev m_L_part : MD := (yL_part, cL_part, 5, (some .int), 8, 134, 2, 12)
def hh_L_part : List (Nat × Nat × Nat × Nat) := [(0, 10, 13, 21), (0, 10, 17, 15)]
theorem o_L_part : gk_MH m_L_part hh_L_part 4 := ⟨gk_ws (List.mem_append_right _ (List.mem_of_getElem? (i := 451) (by decide +kernel))) rfl, gk_ws (List.mem_append_right _ (List.mem_of_getElem? (i := 0) (by decide +kernel))) rfl, by decide +kernel, by decide +kernel, by decide +kernel⟩
theorem k_L_23 : gk_KV RL 23 yX4_part := ⟨Or.inl (gk_ws (List.mem_append_right _ (List.mem_of_getElem? (i := 452) (by decide +kernel))) rfl), gk_ws (List.mem_append_right _ (List.mem_of_getElem? (i := 453) (by decide +kernel))) rfl, gk_ws (List.mem_append_right _ (List.mem_of_getElem? (i := 454) (by decide +kernel))) rfl⟩
theorem hd_L_part_0 : gk_hd RL hh_L_part 5 "java/lang/IndexOutOfBoundsException" 13 := ⟨[], ⟨0, 10, 13, 21⟩, [⟨0, 10, 17, 15⟩], rfl, (fun z hz => by cases hz), by decide, by decide, cw_L_21, ce_IndexOutOfBoundsException, rfl⟩
theorem hd_L_part_1 : gk_hd RL hh_L_part 5 "java/lang/IllegalStateException" 17 := ⟨[⟨0, 10, 13, 21⟩], ⟨0, 10, 17, 15⟩, [], rfl, (fun z hz => by
  rcases (by simpa using hz : z = ⟨0, 10, 13, 21⟩) with rfl
  · exact Or.inr ⟨by decide, "java/lang/IndexOutOfBoundsException", cw_L_21, by decide +kernel⟩), by decide, by decide, cw_L_15, ce_IllegalStateException, rfl⟩
abbrev m_L_played : MD := (yL_played, cL_played, 6, (some .int), 8, 135, 3, 18)
def hh_L_played : List (Nat × Nat × Nat × Nat) := [(0, 12, 15, 21), (0, 12, 19, 13)]
theorem o_L_played : gk_MH m_L_played hh_L_played 5 := ⟨gk_ws (List.mem_append_right _ (List.mem_of_getElem? (i := 475) (by decide +kernel))) rfl, gk_ws (List.mem_append_right _ (List.mem_of_getElem? (i := 0) (by decide +kernel))) rfl, by decide +kernel, by decide +kernel, by decide +kernel⟩
theorem k_L_27 : gk_KV RL 27 yX4_played := ⟨Or.inl (gk_ws (List.mem_append_right _ (List.mem_of_getElem? (i := 476) (by decide +kernel))) rfl), gk_ws (List.mem_append_right _ (List.mem_of_getElem? (i := 477) (by decide +kernel))) rfl, gk_ws (List.mem_append_right _ (List.mem_of_getElem? (i := 478) (by decide +kernel))) rfl⟩
theorem hd_L_played_0 : gk_hd RL hh_L_played 7 "java/lang/IndexOutOfBoundsException" 15 := ⟨[], ⟨0, 12, 15, 21⟩, [⟨0, 12, 19, 13⟩], rfl, (fun z hz => by cases hz), by decide, by decide, cw_L_21, ce_IndexOutOfBoundsException, rfl⟩
theorem hd_L_played_1 : gk_hd RL hh_L_played 7 "java/lang/IllegalArgumentException" 19 := ⟨[⟨0, 12, 15, 21⟩], ⟨0, 12, 19, 13⟩, [], rfl, (fun z hz => by
  rcases (by simpa using hz : z = ⟨0, 12, 15, 21⟩) with rfl
  · exact Or.inr ⟨by decide, "java/lang/IndexOutOfBoundsException", cw_L_21, by decide +kernel⟩), by decide, by decide, cw_L_13, ce_IllegalArgumentException, rfl⟩
abbrev m_L_ofTune : MD := (yL_ofTune, cL_ofTune, 5, (some .int), 8, 134, 2, 12)
def hh_L_ofTune : List (Nat × Nat × Nat × Nat) := [(0, 10, 13, 21), (0, 10, 17, 13)]
theorem o_L_ofTune : gk_MH m_L_ofTune hh_L_ofTune 4 := ⟨gk_ws (List.mem_append_right _ (List.mem_of_getElem? (i := 496) (by decide +kernel))) rfl, gk_ws (List.mem_append_right _ (List.mem_of_getElem? (i := 0) (by decide +kernel))) rfl, by decide +kernel, by decide +kernel, by decide +kernel⟩
theorem k_L_31 : gk_KV RL 31 yX4_ofTune := ⟨Or.inl (gk_ws (List.mem_append_right _ (List.mem_of_getElem? (i := 497) (by decide +kernel))) rfl), gk_ws (List.mem_append_right _ (List.mem_of_getElem? (i := 498) (by decide +kernel))) rfl, gk_ws (List.mem_append_right _ (List.mem_of_getElem? (i := 499) (by decide +kernel))) rfl⟩
theorem hd_L_ofTune_0 : gk_hd RL hh_L_ofTune 5 "java/lang/IndexOutOfBoundsException" 13 := ⟨[], ⟨0, 10, 13, 21⟩, [⟨0, 10, 17, 13⟩], rfl, (fun z hz => by cases hz), by decide, by decide, cw_L_21, ce_IndexOutOfBoundsException, rfl⟩
theorem hd_L_ofTune_1 : gk_hd RL hh_L_ofTune 5 "java/lang/IllegalArgumentException" 17 := ⟨[⟨0, 10, 13, 21⟩], ⟨0, 10, 17, 13⟩, [], rfl, (fun z hz => by
  rcases (by simpa using hz : z = ⟨0, 10, 13, 21⟩) with rfl
  · exact Or.inr ⟨by decide, "java/lang/IndexOutOfBoundsException", cw_L_21, by decide +kernel⟩), by decide, by decide, cw_L_13, ce_IllegalArgumentException, rfl⟩
abbrev m_L_alike : MD := (yL_alike, cL_alike, 5, (some .int), 8, 134, 2, 12)
def hh_L_alike : List (Nat × Nat × Nat × Nat) := [(0, 10, 13, 21)]
theorem o_L_alike : gk_MH m_L_alike hh_L_alike 4 := ⟨gk_ws (List.mem_append_right _ (List.mem_of_getElem? (i := 519) (by decide +kernel))) rfl, gk_ws (List.mem_append_right _ (List.mem_of_getElem? (i := 0) (by decide +kernel))) rfl, by decide +kernel, by decide +kernel, by decide +kernel⟩
theorem k_L_35 : gk_KV RL 35 yX4_alike := ⟨Or.inl (gk_ws (List.mem_append_right _ (List.mem_of_getElem? (i := 520) (by decide +kernel))) rfl), gk_ws (List.mem_append_right _ (List.mem_of_getElem? (i := 521) (by decide +kernel))) rfl, gk_ws (List.mem_append_right _ (List.mem_of_getElem? (i := 522) (by decide +kernel))) rfl⟩
theorem hd_L_alike_0 : gk_hd RL hh_L_alike 5 "java/lang/IndexOutOfBoundsException" 13 := ⟨[], ⟨0, 10, 13, 21⟩, [], rfl, (fun z hz => by cases hz), by decide, by decide, cw_L_21, ce_IndexOutOfBoundsException, rfl⟩
abbrev m_L_alikeAnew : MD := (yL_alikeAnew, cL_alikeAnew, 5, (some .int), 8, 134, 2, 12)
def hh_L_alikeAnew : List (Nat × Nat × Nat × Nat) := [(0, 10, 13, 21)]
theorem o_L_alikeAnew : gk_MH m_L_alikeAnew hh_L_alikeAnew 4 := ⟨gk_ws (List.mem_append_right _ (List.mem_of_getElem? (i := 531) (by decide +kernel))) rfl, gk_ws (List.mem_append_right _ (List.mem_of_getElem? (i := 0) (by decide +kernel))) rfl, by decide +kernel, by decide +kernel, by decide +kernel⟩
theorem k_L_38 : gk_KV RL 38 yX4_alikeAnew := ⟨Or.inl (gk_ws (List.mem_append_right _ (List.mem_of_getElem? (i := 532) (by decide +kernel))) rfl), gk_ws (List.mem_append_right _ (List.mem_of_getElem? (i := 533) (by decide +kernel))) rfl, gk_ws (List.mem_append_right _ (List.mem_of_getElem? (i := 534) (by decide +kernel))) rfl⟩
theorem hd_L_alikeAnew_0 : gk_hd RL hh_L_alikeAnew 5 "java/lang/IndexOutOfBoundsException" 13 := ⟨[], ⟨0, 10, 13, 21⟩, [], rfl, (fun z hz => by cases hz), by decide, by decide, cw_L_21, ce_IndexOutOfBoundsException, rfl⟩
abbrev m_L_follow : MD := (yL_follow, cL_follow, 5, (some .int), 8, 135, 4, 28)
def hh_L_follow : List (Nat × Nat × Nat × Nat) := [(0, 10, 13, 21), (0, 10, 17, 13), (0, 10, 21, 15)]
theorem o_L_follow : gk_MH m_L_follow hh_L_follow 4 := ⟨gk_ws (List.mem_append_right _ (List.mem_of_getElem? (i := 546) (by decide +kernel))) rfl, gk_ws (List.mem_append_right _ (List.mem_of_getElem? (i := 0) (by decide +kernel))) rfl, by decide +kernel, by decide +kernel, by decide +kernel⟩
theorem k_L_41 : gk_KV RL 41 yX4_follow := ⟨Or.inl (gk_ws (List.mem_append_right _ (List.mem_of_getElem? (i := 547) (by decide +kernel))) rfl), gk_ws (List.mem_append_right _ (List.mem_of_getElem? (i := 548) (by decide +kernel))) rfl, gk_ws (List.mem_append_right _ (List.mem_of_getElem? (i := 549) (by decide +kernel))) rfl⟩
theorem hd_L_follow_0 : gk_hd RL hh_L_follow 5 "java/lang/IndexOutOfBoundsException" 13 := ⟨[], ⟨0, 10, 13, 21⟩, [⟨0, 10, 17, 13⟩, ⟨0, 10, 21, 15⟩], rfl, (fun z hz => by cases hz), by decide, by decide, cw_L_21, ce_IndexOutOfBoundsException, rfl⟩
theorem hd_L_follow_1 : gk_hd RL hh_L_follow 5 "java/lang/IllegalArgumentException" 17 := ⟨[⟨0, 10, 13, 21⟩], ⟨0, 10, 17, 13⟩, [⟨0, 10, 21, 15⟩], rfl, (fun z hz => by
  rcases (by simpa using hz : z = ⟨0, 10, 13, 21⟩) with rfl
  · exact Or.inr ⟨by decide, "java/lang/IndexOutOfBoundsException", cw_L_21, by decide +kernel⟩), by decide, by decide, cw_L_13, ce_IllegalArgumentException, rfl⟩
theorem hd_L_follow_2 : gk_hd RL hh_L_follow 5 "java/lang/IllegalStateException" 21 := ⟨[⟨0, 10, 13, 21⟩, ⟨0, 10, 17, 13⟩], ⟨0, 10, 21, 15⟩, [], rfl, (fun z hz => by
  rcases (by simpa using hz : z = ⟨0, 10, 13, 21⟩ ∨ z = ⟨0, 10, 17, 13⟩) with rfl | rfl
  · exact Or.inr ⟨by decide, "java/lang/IndexOutOfBoundsException", cw_L_21, by decide +kernel⟩
  · exact Or.inr ⟨by decide, "java/lang/IllegalArgumentException", cw_L_13, by decide +kernel⟩), by decide, by decide, cw_L_15, ce_IllegalStateException, rfl⟩
abbrev m_L_drop : MD := (yL_drop, cL_drop, 3, (some .int), 7, 111, 1, 6)
def hh_L_drop : List (Nat × Nat × Nat × Nat) := [(0, 8, 11, 15)]
theorem o_L_drop : gk_MH m_L_drop hh_L_drop 2 := ⟨gk_ws (List.mem_append_right _ (List.mem_of_getElem? (i := 561) (by decide +kernel))) rfl, gk_ws (List.mem_append_right _ (List.mem_of_getElem? (i := 0) (by decide +kernel))) rfl, by decide +kernel, by decide +kernel, by decide +kernel⟩
theorem k_L_44 : gk_KV RL 44 yX4_drop := ⟨Or.inl (gk_ws (List.mem_append_right _ (List.mem_of_getElem? (i := 562) (by decide +kernel))) rfl), gk_ws (List.mem_append_right _ (List.mem_of_getElem? (i := 563) (by decide +kernel))) rfl, gk_ws (List.mem_append_right _ (List.mem_of_getElem? (i := 564) (by decide +kernel))) rfl⟩
theorem hd_L_drop_0 : gk_hd RL hh_L_drop 3 "java/lang/IllegalStateException" 11 := ⟨[], ⟨0, 8, 11, 15⟩, [], rfl, (fun z hz => by cases hz), by decide, by decide, cw_L_15, ce_IllegalStateException, rfl⟩
abbrev m_L_piper : MD := (yL_piper, cL_piper, 6, (some .int), 7, 131, 4, 29)
def hh_L_piper : List (Nat × Nat × Nat × Nat) := [(0, 12, 15, 13), (0, 12, 19, 15)]
theorem o_L_piper : gk_MH m_L_piper hh_L_piper 5 := ⟨gk_ws (List.mem_append_right _ (List.mem_of_getElem? (i := 578) (by decide +kernel))) rfl, gk_ws (List.mem_append_right _ (List.mem_of_getElem? (i := 0) (by decide +kernel))) rfl, by decide +kernel, by decide +kernel, by decide +kernel⟩
theorem k_L_48 : gk_KV RL 48 yX4_piper := ⟨Or.inl (gk_ws (List.mem_append_right _ (List.mem_of_getElem? (i := 579) (by decide +kernel))) rfl), gk_ws (List.mem_append_right _ (List.mem_of_getElem? (i := 580) (by decide +kernel))) rfl, gk_ws (List.mem_append_right _ (List.mem_of_getElem? (i := 581) (by decide +kernel))) rfl⟩
theorem hd_L_piper_0 : gk_hd RL hh_L_piper 7 "java/lang/IllegalArgumentException" 15 := ⟨[], ⟨0, 12, 15, 13⟩, [⟨0, 12, 19, 15⟩], rfl, (fun z hz => by cases hz), by decide, by decide, cw_L_13, ce_IllegalArgumentException, rfl⟩
theorem hd_L_piper_1 : gk_hd RL hh_L_piper 7 "java/lang/IllegalStateException" 19 := ⟨[⟨0, 12, 15, 13⟩], ⟨0, 12, 19, 15⟩, [], rfl, (fun z hz => by
  rcases (by simpa using hz : z = ⟨0, 12, 15, 13⟩) with rfl
  · exact Or.inr ⟨by decide, "java/lang/IllegalArgumentException", cw_L_13, by decide +kernel⟩), by decide, by decide, cw_L_15, ce_IllegalStateException, rfl⟩
abbrev m_L_seat : MD := (yL_seat, cL_seat, 5, (some .int), 8, 134, 2, 12)
def hh_L_seat : List (Nat × Nat × Nat × Nat) := [(0, 10, 13, 21), (0, 10, 17, 13)]
theorem o_L_seat : gk_MH m_L_seat hh_L_seat 4 := ⟨gk_ws (List.mem_append_right _ (List.mem_of_getElem? (i := 587) (by decide +kernel))) rfl, gk_ws (List.mem_append_right _ (List.mem_of_getElem? (i := 0) (by decide +kernel))) rfl, by decide +kernel, by decide +kernel, by decide +kernel⟩
theorem k_L_51 : gk_KV RL 51 yX4_seat := ⟨Or.inl (gk_ws (List.mem_append_right _ (List.mem_of_getElem? (i := 588) (by decide +kernel))) rfl), gk_ws (List.mem_append_right _ (List.mem_of_getElem? (i := 589) (by decide +kernel))) rfl, gk_ws (List.mem_append_right _ (List.mem_of_getElem? (i := 590) (by decide +kernel))) rfl⟩
theorem hd_L_seat_0 : gk_hd RL hh_L_seat 5 "java/lang/IndexOutOfBoundsException" 13 := ⟨[], ⟨0, 10, 13, 21⟩, [⟨0, 10, 17, 13⟩], rfl, (fun z hz => by cases hz), by decide, by decide, cw_L_21, ce_IndexOutOfBoundsException, rfl⟩
theorem hd_L_seat_1 : gk_hd RL hh_L_seat 5 "java/lang/IllegalArgumentException" 17 := ⟨[⟨0, 10, 13, 21⟩], ⟨0, 10, 17, 13⟩, [], rfl, (fun z hz => by
  rcases (by simpa using hz : z = ⟨0, 10, 13, 21⟩) with rfl
  · exact Or.inr ⟨by decide, "java/lang/IndexOutOfBoundsException", cw_L_21, by decide +kernel⟩), by decide, by decide, cw_L_13, ce_IllegalArgumentException, rfl⟩
abbrev m_L_rest : MD := (yL_rest, cL_rest, 5, (some .int), 8, 135, 1, 6)
def hh_L_rest : List (Nat × Nat × Nat × Nat) := [(0, 17, 20, 21)]
theorem o_L_rest : gk_MH m_L_rest hh_L_rest 4 := ⟨gk_ws (List.mem_append_right _ (List.mem_of_getElem? (i := 600) (by decide +kernel))) rfl, gk_ws (List.mem_append_right _ (List.mem_of_getElem? (i := 0) (by decide +kernel))) rfl, by decide +kernel, by decide +kernel, by decide +kernel⟩
theorem k_L_54 : gk_KV RL 54 yX4_rest := ⟨Or.inl (gk_ws (List.mem_append_right _ (List.mem_of_getElem? (i := 601) (by decide +kernel))) rfl), gk_ws (List.mem_append_right _ (List.mem_of_getElem? (i := 602) (by decide +kernel))) rfl, gk_ws (List.mem_append_right _ (List.mem_of_getElem? (i := 603) (by decide +kernel))) rfl⟩
theorem hd_L_rest_0 : gk_hd RL hh_L_rest 5 "java/lang/IndexOutOfBoundsException" 20 := ⟨[], ⟨0, 17, 20, 21⟩, [], rfl, (fun z hz => by cases hz), by decide, by decide, cw_L_21, ce_IndexOutOfBoundsException, rfl⟩
abbrev m_L_play : MD := (yL_play, cL_play, 6, (some .int), 7, 132, 1, 6)
def hh_L_play : List (Nat × Nat × Nat × Nat) := [(0, 12, 15, 13)]
theorem o_L_play : gk_MH m_L_play hh_L_play 5 := ⟨gk_ws (List.mem_append_right _ (List.mem_of_getElem? (i := 607) (by decide +kernel))) rfl, gk_ws (List.mem_append_right _ (List.mem_of_getElem? (i := 0) (by decide +kernel))) rfl, by decide +kernel, by decide +kernel, by decide +kernel⟩
theorem k_L_58 : gk_KV RL 58 yX4_play := ⟨Or.inl (gk_ws (List.mem_append_right _ (List.mem_of_getElem? (i := 608) (by decide +kernel))) rfl), gk_ws (List.mem_append_right _ (List.mem_of_getElem? (i := 609) (by decide +kernel))) rfl, gk_ws (List.mem_append_right _ (List.mem_of_getElem? (i := 610) (by decide +kernel))) rfl⟩
theorem hd_L_play_0 : gk_hd RL hh_L_play 7 "java/lang/IllegalArgumentException" 15 := ⟨[], ⟨0, 12, 15, 13⟩, [], rfl, (fun z hz => by cases hz), by decide, by decide, cw_L_13, ce_IllegalArgumentException, rfl⟩
abbrev m_L_ofPiper : MD := (yL_ofPiper, cL_ofPiper, 5, (some .int), 8, 134, 2, 12)
def hh_L_ofPiper : List (Nat × Nat × Nat × Nat) := [(0, 10, 13, 21), (0, 10, 17, 13)]
theorem o_L_ofPiper : gk_MH m_L_ofPiper hh_L_ofPiper 4 := ⟨gk_ws (List.mem_append_right _ (List.mem_of_getElem? (i := 632) (by decide +kernel))) rfl, gk_ws (List.mem_append_right _ (List.mem_of_getElem? (i := 0) (by decide +kernel))) rfl, by decide +kernel, by decide +kernel, by decide +kernel⟩
theorem k_L_61 : gk_KV RL 61 yX4_ofPiper := ⟨Or.inl (gk_ws (List.mem_append_right _ (List.mem_of_getElem? (i := 633) (by decide +kernel))) rfl), gk_ws (List.mem_append_right _ (List.mem_of_getElem? (i := 634) (by decide +kernel))) rfl, gk_ws (List.mem_append_right _ (List.mem_of_getElem? (i := 635) (by decide +kernel))) rfl⟩
theorem hd_L_ofPiper_0 : gk_hd RL hh_L_ofPiper 5 "java/lang/IndexOutOfBoundsException" 13 := ⟨[], ⟨0, 10, 13, 21⟩, [⟨0, 10, 17, 13⟩], rfl, (fun z hz => by cases hz), by decide, by decide, cw_L_21, ce_IndexOutOfBoundsException, rfl⟩
theorem hd_L_ofPiper_1 : gk_hd RL hh_L_ofPiper 5 "java/lang/IllegalArgumentException" 17 := ⟨[⟨0, 10, 13, 21⟩], ⟨0, 10, 17, 13⟩, [], rfl, (fun z hz => by
  rcases (by simpa using hz : z = ⟨0, 10, 13, 21⟩) with rfl
  · exact Or.inr ⟨by decide, "java/lang/IndexOutOfBoundsException", cw_L_21, by decide +kernel⟩), by decide, by decide, cw_L_13, ce_IllegalArgumentException, rfl⟩
abbrev m_L_beats : MD := (yL_beats, cL_beats, 5, (some .int), 8, 134, 2, 12)
def hh_L_beats : List (Nat × Nat × Nat × Nat) := [(0, 10, 13, 21)]
theorem o_L_beats : gk_MH m_L_beats hh_L_beats 4 := ⟨gk_ws (List.mem_append_right _ (List.mem_of_getElem? (i := 652) (by decide +kernel))) rfl, gk_ws (List.mem_append_right _ (List.mem_of_getElem? (i := 0) (by decide +kernel))) rfl, by decide +kernel, by decide +kernel, by decide +kernel⟩
theorem k_L_64 : gk_KV RL 64 yX4_beats := ⟨Or.inl (gk_ws (List.mem_append_right _ (List.mem_of_getElem? (i := 653) (by decide +kernel))) rfl), gk_ws (List.mem_append_right _ (List.mem_of_getElem? (i := 654) (by decide +kernel))) rfl, gk_ws (List.mem_append_right _ (List.mem_of_getElem? (i := 655) (by decide +kernel))) rfl⟩
theorem hd_L_beats_0 : gk_hd RL hh_L_beats 5 "java/lang/IndexOutOfBoundsException" 13 := ⟨[], ⟨0, 10, 13, 21⟩, [], rfl, (fun z hz => by cases hz), by decide, by decide, cw_L_21, ce_IndexOutOfBoundsException, rfl⟩
abbrev m_L_ahead : MD := (yL_ahead, cL_ahead, 6, (some .int), 7, 115, 1, 6)
def hh_L_ahead : List (Nat × Nat × Nat × Nat) := [(0, 12, 15, 13)]
theorem o_L_ahead : gk_MH m_L_ahead hh_L_ahead 5 := ⟨gk_ws (List.mem_append_right _ (List.mem_of_getElem? (i := 663) (by decide +kernel))) rfl, gk_ws (List.mem_append_right _ (List.mem_of_getElem? (i := 0) (by decide +kernel))) rfl, by decide +kernel, by decide +kernel, by decide +kernel⟩
theorem k_L_68 : gk_KV RL 68 yX4_ahead := ⟨Or.inl (gk_ws (List.mem_append_right _ (List.mem_of_getElem? (i := 664) (by decide +kernel))) rfl), gk_ws (List.mem_append_right _ (List.mem_of_getElem? (i := 665) (by decide +kernel))) rfl, gk_ws (List.mem_append_right _ (List.mem_of_getElem? (i := 666) (by decide +kernel))) rfl⟩
theorem hd_L_ahead_0 : gk_hd RL hh_L_ahead 7 "java/lang/IllegalArgumentException" 15 := ⟨[], ⟨0, 12, 15, 13⟩, [], rfl, (fun z hz => by cases hz), by decide, by decide, cw_L_13, ce_IllegalArgumentException, rfl⟩
abbrev m_L_band : MD := (yL_band, cL_band, 4, (some .int), 7, 130, 6, 40)
def hh_L_band : List (Nat × Nat × Nat × Nat) := [(0, 9, 12, 13), (0, 9, 15, 15)]
theorem o_L_band : gk_MH m_L_band hh_L_band 3 := ⟨gk_ws (List.mem_append_right _ (List.mem_of_getElem? (i := 674) (by decide +kernel))) rfl, gk_ws (List.mem_append_right _ (List.mem_of_getElem? (i := 0) (by decide +kernel))) rfl, by decide +kernel, by decide +kernel, by decide +kernel⟩
theorem k_L_71 : gk_KV RL 71 yX4_band := ⟨Or.inl (gk_ws (List.mem_append_right _ (List.mem_of_getElem? (i := 675) (by decide +kernel))) rfl), gk_ws (List.mem_append_right _ (List.mem_of_getElem? (i := 676) (by decide +kernel))) rfl, gk_ws (List.mem_append_right _ (List.mem_of_getElem? (i := 677) (by decide +kernel))) rfl⟩
theorem hd_L_band_0 : gk_hd RL hh_L_band 4 "java/lang/IllegalArgumentException" 12 := ⟨[], ⟨0, 9, 12, 13⟩, [⟨0, 9, 15, 15⟩], rfl, (fun z hz => by cases hz), by decide, by decide, cw_L_13, ce_IllegalArgumentException, rfl⟩
theorem hd_L_band_1 : gk_hd RL hh_L_band 4 "java/lang/IllegalStateException" 15 := ⟨[⟨0, 9, 12, 13⟩], ⟨0, 9, 15, 15⟩, [], rfl, (fun z hz => by
  rcases (by simpa using hz : z = ⟨0, 9, 12, 13⟩) with rfl
  · exact Or.inr ⟨by decide, "java/lang/IllegalArgumentException", cw_L_13, by decide +kernel⟩), by decide, by decide, cw_L_15, ce_IllegalStateException, rfl⟩
abbrev m_L_contest : MD := (yL_contest, cL_contest, 4, (some .int), 7, 114, 2, 12)
def hh_L_contest : List (Nat × Nat × Nat × Nat) := [(0, 9, 12, 13), (0, 9, 15, 15)]
theorem o_L_contest : gk_MH m_L_contest hh_L_contest 3 := ⟨gk_ws (List.mem_append_right _ (List.mem_of_getElem? (i := 724) (by decide +kernel))) rfl, gk_ws (List.mem_append_right _ (List.mem_of_getElem? (i := 0) (by decide +kernel))) rfl, by decide +kernel, by decide +kernel, by decide +kernel⟩
theorem k_L_74 : gk_KV RL 74 yX4_contest := ⟨Or.inl (gk_ws (List.mem_append_right _ (List.mem_of_getElem? (i := 725) (by decide +kernel))) rfl), gk_ws (List.mem_append_right _ (List.mem_of_getElem? (i := 726) (by decide +kernel))) rfl, gk_ws (List.mem_append_right _ (List.mem_of_getElem? (i := 727) (by decide +kernel))) rfl⟩
theorem hd_L_contest_0 : gk_hd RL hh_L_contest 4 "java/lang/IllegalArgumentException" 12 := ⟨[], ⟨0, 9, 12, 13⟩, [⟨0, 9, 15, 15⟩], rfl, (fun z hz => by cases hz), by decide, by decide, cw_L_13, ce_IllegalArgumentException, rfl⟩
theorem hd_L_contest_1 : gk_hd RL hh_L_contest 4 "java/lang/IllegalStateException" 15 := ⟨[⟨0, 9, 12, 13⟩], ⟨0, 9, 15, 15⟩, [], rfl, (fun z hz => by
  rcases (by simpa using hz : z = ⟨0, 9, 12, 13⟩) with rfl
  · exact Or.inr ⟨by decide, "java/lang/IllegalArgumentException", cw_L_13, by decide +kernel⟩), by decide, by decide, cw_L_15, ce_IllegalStateException, rfl⟩
abbrev m_L_mark : MD := (yL_mark, cL_mark, 6, (some .int), 8, 135, 4, 24)
def hh_L_mark : List (Nat × Nat × Nat × Nat) := [(0, 12, 15, 21), (0, 12, 19, 13), (0, 12, 23, 15)]
theorem o_L_mark : gk_MH m_L_mark hh_L_mark 5 := ⟨gk_ws (List.mem_append_right _ (List.mem_of_getElem? (i := 740) (by decide +kernel))) rfl, gk_ws (List.mem_append_right _ (List.mem_of_getElem? (i := 0) (by decide +kernel))) rfl, by decide +kernel, by decide +kernel, by decide +kernel⟩
theorem k_L_77 : gk_KV RL 77 yX4_mark := ⟨Or.inl (gk_ws (List.mem_append_right _ (List.mem_of_getElem? (i := 741) (by decide +kernel))) rfl), gk_ws (List.mem_append_right _ (List.mem_of_getElem? (i := 742) (by decide +kernel))) rfl, gk_ws (List.mem_append_right _ (List.mem_of_getElem? (i := 743) (by decide +kernel))) rfl⟩
theorem hd_L_mark_0 : gk_hd RL hh_L_mark 7 "java/lang/IndexOutOfBoundsException" 15 := ⟨[], ⟨0, 12, 15, 21⟩, [⟨0, 12, 19, 13⟩, ⟨0, 12, 23, 15⟩], rfl, (fun z hz => by cases hz), by decide, by decide, cw_L_21, ce_IndexOutOfBoundsException, rfl⟩
theorem hd_L_mark_1 : gk_hd RL hh_L_mark 7 "java/lang/IllegalArgumentException" 19 := ⟨[⟨0, 12, 15, 21⟩], ⟨0, 12, 19, 13⟩, [⟨0, 12, 23, 15⟩], rfl, (fun z hz => by
  rcases (by simpa using hz : z = ⟨0, 12, 15, 21⟩) with rfl
  · exact Or.inr ⟨by decide, "java/lang/IndexOutOfBoundsException", cw_L_21, by decide +kernel⟩), by decide, by decide, cw_L_13, ce_IllegalArgumentException, rfl⟩
theorem hd_L_mark_2 : gk_hd RL hh_L_mark 7 "java/lang/IllegalStateException" 23 := ⟨[⟨0, 12, 15, 21⟩, ⟨0, 12, 19, 13⟩], ⟨0, 12, 23, 15⟩, [], rfl, (fun z hz => by
  rcases (by simpa using hz : z = ⟨0, 12, 15, 21⟩ ∨ z = ⟨0, 12, 19, 13⟩) with rfl | rfl
  · exact Or.inr ⟨by decide, "java/lang/IndexOutOfBoundsException", cw_L_21, by decide +kernel⟩
  · exact Or.inr ⟨by decide, "java/lang/IllegalArgumentException", cw_L_13, by decide +kernel⟩), by decide, by decide, cw_L_15, ce_IllegalStateException, rfl⟩
abbrev m_L_close : MD := (yL_close, cL_close, 3, (some .int), 7, 134, 1, 6)
def hh_L_close : List (Nat × Nat × Nat × Nat) := [(0, 8, 11, 15)]
theorem o_L_close : gk_MH m_L_close hh_L_close 2 := ⟨gk_ws (List.mem_append_right _ (List.mem_of_getElem? (i := 763) (by decide +kernel))) rfl, gk_ws (List.mem_append_right _ (List.mem_of_getElem? (i := 0) (by decide +kernel))) rfl, by decide +kernel, by decide +kernel, by decide +kernel⟩
theorem k_L_80 : gk_KV RL 80 yX4_close := ⟨Or.inl (gk_ws (List.mem_append_right _ (List.mem_of_getElem? (i := 764) (by decide +kernel))) rfl), gk_ws (List.mem_append_right _ (List.mem_of_getElem? (i := 765) (by decide +kernel))) rfl, gk_ws (List.mem_append_right _ (List.mem_of_getElem? (i := 766) (by decide +kernel))) rfl⟩
theorem hd_L_close_0 : gk_hd RL hh_L_close 3 "java/lang/IllegalStateException" 11 := ⟨[], ⟨0, 8, 11, 15⟩, [], rfl, (fun z hz => by cases hz), by decide, by decide, cw_L_15, ce_IllegalStateException, rfl⟩
abbrev m_L_season : MD := (yL_season, cL_season, 3, (some .int), 7, 134, 1, 6)
def hh_L_season : List (Nat × Nat × Nat × Nat) := [(0, 8, 11, 15)]
theorem o_L_season : gk_MH m_L_season hh_L_season 2 := ⟨gk_ws (List.mem_append_right _ (List.mem_of_getElem? (i := 805) (by decide +kernel))) rfl, gk_ws (List.mem_append_right _ (List.mem_of_getElem? (i := 0) (by decide +kernel))) rfl, by decide +kernel, by decide +kernel, by decide +kernel⟩
theorem k_L_83 : gk_KV RL 83 yX4_season := ⟨Or.inl (gk_ws (List.mem_append_right _ (List.mem_of_getElem? (i := 806) (by decide +kernel))) rfl), gk_ws (List.mem_append_right _ (List.mem_of_getElem? (i := 807) (by decide +kernel))) rfl, gk_ws (List.mem_append_right _ (List.mem_of_getElem? (i := 808) (by decide +kernel))) rfl⟩
theorem hd_L_season_0 : gk_hd RL hh_L_season 3 "java/lang/IllegalStateException" 11 := ⟨[], ⟨0, 8, 11, 15⟩, [], rfl, (fun z hz => by cases hz), by decide, by decide, cw_L_15, ce_IllegalStateException, rfl⟩
abbrev m_L_ofBand : MD := (yL_ofBand, cL_ofBand, 5, (some .int), 8, 134, 2, 12)
def hh_L_ofBand : List (Nat × Nat × Nat × Nat) := [(0, 10, 13, 21), (0, 10, 17, 13)]
theorem o_L_ofBand : gk_MH m_L_ofBand hh_L_ofBand 4 := ⟨gk_ws (List.mem_append_right _ (List.mem_of_getElem? (i := 825) (by decide +kernel))) rfl, gk_ws (List.mem_append_right _ (List.mem_of_getElem? (i := 0) (by decide +kernel))) rfl, by decide +kernel, by decide +kernel, by decide +kernel⟩
theorem k_L_86 : gk_KV RL 86 yX4_ofBand := ⟨Or.inl (gk_ws (List.mem_append_right _ (List.mem_of_getElem? (i := 826) (by decide +kernel))) rfl), gk_ws (List.mem_append_right _ (List.mem_of_getElem? (i := 827) (by decide +kernel))) rfl, gk_ws (List.mem_append_right _ (List.mem_of_getElem? (i := 828) (by decide +kernel))) rfl⟩
theorem hd_L_ofBand_0 : gk_hd RL hh_L_ofBand 5 "java/lang/IndexOutOfBoundsException" 13 := ⟨[], ⟨0, 10, 13, 21⟩, [⟨0, 10, 17, 13⟩], rfl, (fun z hz => by cases hz), by decide, by decide, cw_L_21, ce_IndexOutOfBoundsException, rfl⟩
theorem hd_L_ofBand_1 : gk_hd RL hh_L_ofBand 5 "java/lang/IllegalArgumentException" 17 := ⟨[⟨0, 10, 13, 21⟩], ⟨0, 10, 17, 13⟩, [], rfl, (fun z hz => by
  rcases (by simpa using hz : z = ⟨0, 10, 13, 21⟩) with rfl
  · exact Or.inr ⟨by decide, "java/lang/IndexOutOfBoundsException", cw_L_21, by decide +kernel⟩), by decide, by decide, cw_L_13, ce_IllegalArgumentException, rfl⟩
theorem k_L_93 : gk_KS RL 93 yL_tune := ⟨gk_ws (List.mem_append_right _ (List.mem_of_getElem? (i := 198) (by decide +kernel))) rfl, gk_ws (List.mem_append_right _ (List.mem_of_getElem? (i := 199) (by decide +kernel))) rfl⟩
theorem k_L_102 : gk_KS RL 102 yL_note := ⟨gk_ws (List.mem_append_right _ (List.mem_of_getElem? (i := 395) (by decide +kernel))) rfl, gk_ws (List.mem_append_right _ (List.mem_of_getElem? (i := 396) (by decide +kernel))) rfl⟩
theorem k_L_106 : gk_KS RL 106 yL_part := ⟨gk_ws (List.mem_append_right _ (List.mem_of_getElem? (i := 449) (by decide +kernel))) rfl, gk_ws (List.mem_append_right _ (List.mem_of_getElem? (i := 450) (by decide +kernel))) rfl⟩
theorem k_L_110 : gk_KS RL 110 yL_played := ⟨gk_ws (List.mem_append_right _ (List.mem_of_getElem? (i := 473) (by decide +kernel))) rfl, gk_ws (List.mem_append_right _ (List.mem_of_getElem? (i := 474) (by decide +kernel))) rfl⟩
theorem k_L_114 : gk_KS RL 114 yL_ofTune := ⟨gk_ws (List.mem_append_right _ (List.mem_of_getElem? (i := 494) (by decide +kernel))) rfl, gk_ws (List.mem_append_right _ (List.mem_of_getElem? (i := 495) (by decide +kernel))) rfl⟩
theorem k_L_118 : gk_KS RL 118 yL_alike := ⟨gk_ws (List.mem_append_right _ (List.mem_of_getElem? (i := 517) (by decide +kernel))) rfl, gk_ws (List.mem_append_right _ (List.mem_of_getElem? (i := 518) (by decide +kernel))) rfl⟩
theorem k_L_121 : gk_KS RL 121 yL_alikeAnew := ⟨gk_ws (List.mem_append_right _ (List.mem_of_getElem? (i := 529) (by decide +kernel))) rfl, gk_ws (List.mem_append_right _ (List.mem_of_getElem? (i := 530) (by decide +kernel))) rfl⟩
theorem k_L_124 : gk_KS RL 124 yL_follow := ⟨gk_ws (List.mem_append_right _ (List.mem_of_getElem? (i := 544) (by decide +kernel))) rfl, gk_ws (List.mem_append_right _ (List.mem_of_getElem? (i := 545) (by decide +kernel))) rfl⟩
theorem k_L_127 : gk_KS RL 127 yL_drop := ⟨gk_ws (List.mem_append_right _ (List.mem_of_getElem? (i := 559) (by decide +kernel))) rfl, gk_ws (List.mem_append_right _ (List.mem_of_getElem? (i := 560) (by decide +kernel))) rfl⟩
theorem k_L_136 : gk_KS RL 136 yL_piper := ⟨gk_ws (List.mem_append_right _ (List.mem_of_getElem? (i := 576) (by decide +kernel))) rfl, gk_ws (List.mem_append_right _ (List.mem_of_getElem? (i := 577) (by decide +kernel))) rfl⟩
theorem k_L_139 : gk_KS RL 139 yL_seat := ⟨gk_ws (List.mem_append_right _ (List.mem_of_getElem? (i := 585) (by decide +kernel))) rfl, gk_ws (List.mem_append_right _ (List.mem_of_getElem? (i := 586) (by decide +kernel))) rfl⟩
theorem k_L_142 : gk_KS RL 142 yL_rest := ⟨gk_ws (List.mem_append_right _ (List.mem_of_getElem? (i := 598) (by decide +kernel))) rfl, gk_ws (List.mem_append_right _ (List.mem_of_getElem? (i := 599) (by decide +kernel))) rfl⟩
theorem k_L_145 : gk_KS RL 145 yL_play := ⟨gk_ws (List.mem_append_right _ (List.mem_of_getElem? (i := 605) (by decide +kernel))) rfl, gk_ws (List.mem_append_right _ (List.mem_of_getElem? (i := 606) (by decide +kernel))) rfl⟩
theorem k_L_148 : gk_KS RL 148 yL_ofPiper := ⟨gk_ws (List.mem_append_right _ (List.mem_of_getElem? (i := 630) (by decide +kernel))) rfl, gk_ws (List.mem_append_right _ (List.mem_of_getElem? (i := 631) (by decide +kernel))) rfl⟩
theorem k_L_159 : gk_KS RL 159 yL_beats := ⟨gk_ws (List.mem_append_right _ (List.mem_of_getElem? (i := 650) (by decide +kernel))) rfl, gk_ws (List.mem_append_right _ (List.mem_of_getElem? (i := 651) (by decide +kernel))) rfl⟩
theorem k_L_163 : gk_KS RL 163 yL_ahead := ⟨gk_ws (List.mem_append_right _ (List.mem_of_getElem? (i := 661) (by decide +kernel))) rfl, gk_ws (List.mem_append_right _ (List.mem_of_getElem? (i := 662) (by decide +kernel))) rfl⟩
theorem k_L_166 : gk_KS RL 166 yL_band := ⟨gk_ws (List.mem_append_right _ (List.mem_of_getElem? (i := 672) (by decide +kernel))) rfl, gk_ws (List.mem_append_right _ (List.mem_of_getElem? (i := 673) (by decide +kernel))) rfl⟩
theorem k_L_169 : gk_KS RL 169 yL_contest := ⟨gk_ws (List.mem_append_right _ (List.mem_of_getElem? (i := 722) (by decide +kernel))) rfl, gk_ws (List.mem_append_right _ (List.mem_of_getElem? (i := 723) (by decide +kernel))) rfl⟩
theorem k_L_172 : gk_KS RL 172 yL_mark := ⟨gk_ws (List.mem_append_right _ (List.mem_of_getElem? (i := 738) (by decide +kernel))) rfl, gk_ws (List.mem_append_right _ (List.mem_of_getElem? (i := 739) (by decide +kernel))) rfl⟩
theorem k_L_175 : gk_KS RL 175 yL_close := ⟨gk_ws (List.mem_append_right _ (List.mem_of_getElem? (i := 761) (by decide +kernel))) rfl, gk_ws (List.mem_append_right _ (List.mem_of_getElem? (i := 762) (by decide +kernel))) rfl⟩
theorem k_L_178 : gk_KS RL 178 yL_season := ⟨gk_ws (List.mem_append_right _ (List.mem_of_getElem? (i := 803) (by decide +kernel))) rfl, gk_ws (List.mem_append_right _ (List.mem_of_getElem? (i := 804) (by decide +kernel))) rfl⟩
theorem k_L_181 : gk_KS RL 181 yL_ofBand := ⟨gk_ws (List.mem_append_right _ (List.mem_of_getElem? (i := 823) (by decide +kernel))) rfl, gk_ws (List.mem_append_right _ (List.mem_of_getElem? (i := 824) (by decide +kernel))) rfl⟩
