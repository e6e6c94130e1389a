/-! the law's own methods: records, links, handlers -/
theorem ce_IndexOutOfBoundsException : Cond.castable "java/lang/IndexOutOfBoundsException" "java/lang/IndexOutOfBoundsException" ∈ gk_NW := gk_nw (List.mem_append_right _ (List.mem_of_getElem? (i := 142) (by decide +kernel))) rfl
theorem ce_IllegalArgumentException : Cond.castable "java/lang/IllegalArgumentException" "java/lang/IllegalArgumentException" ∈ gk_NW := gk_nw (List.mem_append_right _ (List.mem_of_getElem? (i := 228) (by decide +kernel))) rfl
theorem ce_IllegalStateException : Cond.castable "java/lang/IllegalStateException" "java/lang/IllegalStateException" ∈ gk_NW := gk_nw (List.mem_append_right _ (List.mem_of_getElem? (i := 307) (by decide +kernel))) rfl
abbrev m_L_act : MD := (yL_act, cL_act, 7, (some .int), 8, 136, 9, 418)
def hh_L_act : List (Nat × Nat × Nat × Nat) := [(0, 355, 356, 83), (0, 355, 361, 86), (0, 355, 366, 89)]
theorem o_L_act : gk_MH m_L_act hh_L_act 6 := ⟨gk_ws (List.mem_append_right _ (List.mem_of_getElem? (i := 466) (by decide +kernel))) rfl, gk_ws (List.mem_append_right _ (List.mem_of_getElem? (i := 0) (by decide +kernel))) rfl, by decide +kernel, by decide +kernel, by decide +kernel⟩
theorem hd_L_act_0 {pc : Nat} (hp : pc < 355) : gk_hd RL hh_L_act pc "java/lang/IndexOutOfBoundsException" 356 := ⟨[], ⟨0, 355, 356, 83⟩, [⟨0, 355, 361, 86⟩, ⟨0, 355, 366, 89⟩], rfl, (fun z hz => by cases hz), (by unfold covers; simp; exact hp), by decide, cw_L_83, ce_IndexOutOfBoundsException, rfl⟩
theorem hd_L_act_1 {pc : Nat} (hp : pc < 355) : gk_hd RL hh_L_act pc "java/lang/IllegalArgumentException" 361 := ⟨[⟨0, 355, 356, 83⟩], ⟨0, 355, 361, 86⟩, [⟨0, 355, 366, 89⟩], rfl, (fun z hz => by
  rcases (by simpa using hz : z = ⟨0, 355, 356, 83⟩) with rfl
  · exact Or.inr ⟨by decide, "java/lang/IndexOutOfBoundsException", cw_L_83, by decide +kernel⟩), (by unfold covers; simp; exact hp), by decide, cw_L_86, ce_IllegalArgumentException, rfl⟩
theorem hd_L_act_2 {pc : Nat} (hp : pc < 355) : gk_hd RL hh_L_act pc "java/lang/IllegalStateException" 366 := ⟨[⟨0, 355, 356, 83⟩, ⟨0, 355, 361, 86⟩], ⟨0, 355, 366, 89⟩, [], rfl, (fun z hz => by
  rcases (by simpa using hz : z = ⟨0, 355, 356, 83⟩ ∨ z = ⟨0, 355, 361, 86⟩) with rfl | rfl
  · exact Or.inr ⟨by decide, "java/lang/IndexOutOfBoundsException", cw_L_83, by decide +kernel⟩
  · exact Or.inr ⟨by decide, "java/lang/IllegalArgumentException", cw_L_86, by decide +kernel⟩), (by unfold covers; simp; exact hp), by decide, cw_L_89, ce_IllegalStateException, rfl⟩
abbrev m_L_played : MD := (yL_played, cL_played, 8, (some .boolean), 8, 135, 15, 90)
set_option maxRecDepth 100000 in
theorem o_L_played : gk_M m_L_played 8 := ⟨gk_ws (List.mem_append_right _ (List.mem_of_getElem? (i := 784) rfl)) rfl, gk_ws (List.mem_append_right _ (List.mem_of_getElem? (i := 0) (by decide +kernel))) rfl, by decide +kernel, by decide +kernel, by decide +kernel⟩
abbrev m_L_tune : MD := (yL_tune, cL_tune, 9, (some .boolean), 8, 134, 14, 84)
set_option maxRecDepth 100000 in
theorem o_L_tune : gk_M m_L_tune 9 := ⟨gk_ws (List.mem_append_right _ (List.mem_of_getElem? (i := 781) rfl)) rfl, gk_ws (List.mem_append_right _ (List.mem_of_getElem? (i := 0) (by decide +kernel))) rfl, by decide +kernel, by decide +kernel, by decide +kernel⟩
abbrev m_L_piper : MD := (yL_piper, cL_piper, 8, (some .boolean), 8, 134, 12, 72)
set_option maxRecDepth 100000 in
theorem o_L_piper : gk_M m_L_piper 8 := ⟨gk_ws (List.mem_append_right _ (List.mem_of_getElem? (i := 797) rfl)) rfl, gk_ws (List.mem_append_right _ (List.mem_of_getElem? (i := 0) (by decide +kernel))) rfl, by decide +kernel, by decide +kernel, by decide +kernel⟩
abbrev m_L_band : MD := (yL_band, cL_band, 7, (some .boolean), 8, 134, 10, 60)
set_option maxRecDepth 100000 in
theorem o_L_band : gk_M m_L_band 7 := ⟨gk_ws (List.mem_append_right _ (List.mem_of_getElem? (i := 807) rfl)) rfl, gk_ws (List.mem_append_right _ (List.mem_of_getElem? (i := 0) (by decide +kernel))) rfl, by decide +kernel, by decide +kernel, by decide +kernel⟩
abbrev m_L_marks : MD := (yL_marks, cL_marks, 5, (some .int), 8, 135, 12, 72)
set_option maxRecDepth 100000 in
theorem o_L_marks : gk_M m_L_marks 5 := ⟨gk_ws (List.mem_append_right _ (List.mem_of_getElem? (i := 810) rfl)) rfl, gk_ws (List.mem_append_right _ (List.mem_of_getElem? (i := 0) (by decide +kernel))) rfl, by decide +kernel, by decide +kernel, by decide +kernel⟩
abbrev m_L_refuses : MD := (yL_refuses, cL_refuses, 18, (some .boolean), 9, 162, 1600, 70000)
set_option maxRecDepth 100000 in
theorem o_L_refuses : gk_M m_L_refuses 4 := ⟨gk_ws (List.mem_append_right _ (List.mem_of_getElem? (i := 774) rfl)) rfl, gk_ws (List.mem_append_right _ (List.mem_of_getElem? (i := 0) (by decide +kernel))) rfl, by decide +kernel, by decide +kernel, by decide +kernel⟩
abbrev m_L_full : MD := (yL_full, cL_full, 2, (some .boolean), 10, 199, 1800, 80000)
set_option maxRecDepth 100000 in
theorem o_L_full : gk_M m_L_full 1 := ⟨gk_ws (List.mem_append_right _ (List.mem_of_getElem? (i := 801) rfl)) rfl, gk_ws (List.mem_append_right _ (List.mem_of_getElem? (i := 0) (by decide +kernel))) rfl, by decide +kernel, by decide +kernel, by decide +kernel⟩
abbrev m_L_most : MD := (yL_most, cL_most, 2, (some .boolean), 10, 199, 3000, 130000)
set_option maxRecDepth 100000 in
theorem o_L_most : gk_M m_L_most 0 := ⟨gk_ws (List.mem_append_right _ (List.mem_of_getElem? (i := 791) rfl)) rfl, gk_ws (List.mem_append_right _ (List.mem_of_getElem? (i := 0) (by decide +kernel))) rfl, by decide +kernel, by decide +kernel, by decide +kernel⟩
abbrev m_L_pipers : MD := (yL_pipers, cL_pipers, 2, (some .boolean), 11, 220, 5000, 200000)
set_option maxRecDepth 100000 in
theorem o_L_pipers : gk_M m_L_pipers 0 := ⟨gk_ws (List.mem_append_right _ (List.mem_of_getElem? (i := 794) rfl)) rfl, gk_ws (List.mem_append_right _ (List.mem_of_getElem? (i := 0) (by decide +kernel))) rfl, by decide +kernel, by decide +kernel, by decide +kernel⟩
abbrev m_L_bands : MD := (yL_bands, cL_bands, 1, (some .boolean), 10, 199, 3500, 150000)
set_option maxRecDepth 100000 in
theorem o_L_bands : gk_M m_L_bands 0 := ⟨gk_ws (List.mem_append_right _ (List.mem_of_getElem? (i := 804) rfl)) rfl, gk_ws (List.mem_append_right _ (List.mem_of_getElem? (i := 0) (by decide +kernel))) rfl, by decide +kernel, by decide +kernel, by decide +kernel⟩
abbrev m_L_eight : MD := (yL_eight, cL_eight, 2, (some .boolean), 10, 199, 2500, 110000)
set_option maxRecDepth 100000 in
theorem o_L_eight : gk_M m_L_eight 0 := ⟨gk_ws (List.mem_append_right _ (List.mem_of_getElem? (i := 813) rfl)) rfl, gk_ws (List.mem_append_right _ (List.mem_of_getElem? (i := 0) (by decide +kernel))) rfl, by decide +kernel, by decide +kernel, by decide +kernel⟩
abbrev m_L_tunes : MD := (yL_tunes, cL_tunes, 1, (some .boolean), 12, 241, 20000, 900000)
set_option maxRecDepth 100000 in
theorem o_L_tunes : gk_M m_L_tunes 0 := ⟨gk_ws (List.mem_append_right _ (List.mem_of_getElem? (i := 778) rfl)) rfl, gk_ws (List.mem_append_right _ (List.mem_of_getElem? (i := 0) (by decide +kernel))) rfl, by decide +kernel, by decide +kernel, by decide +kernel⟩
theorem k_L_7 : gk_KV RL 7 yX4_tune := ⟨Or.inl (gk_ws (List.mem_append_right _ (List.mem_of_getElem? (i := 470) (by decide +kernel))) rfl), gk_ws (List.mem_append_right _ (List.mem_of_getElem? (i := 471) (by decide +kernel))) rfl, gk_ws (List.mem_append_right _ (List.mem_of_getElem? (i := 472) (by decide +kernel))) rfl⟩
theorem k_L_13 : gk_KV RL 13 yX4_note := ⟨Or.inl (gk_ws (List.mem_append_right _ (List.mem_of_getElem? (i := 570) (by decide +kernel))) rfl), gk_ws (List.mem_append_right _ (List.mem_of_getElem? (i := 571) (by decide +kernel))) rfl, gk_ws (List.mem_append_right _ (List.mem_of_getElem? (i := 572) (by decide +kernel))) rfl⟩
theorem k_L_17 : gk_KV RL 17 yX4_part := ⟨Or.inl (gk_ws (List.mem_append_right _ (List.mem_of_getElem? (i := 600) (by decide +kernel))) rfl), gk_ws (List.mem_append_right _ (List.mem_of_getElem? (i := 601) (by decide +kernel))) rfl, gk_ws (List.mem_append_right _ (List.mem_of_getElem? (i := 602) (by decide +kernel))) rfl⟩
theorem k_L_21 : gk_KV RL 21 yX4_played := ⟨Or.inl (gk_ws (List.mem_append_right _ (List.mem_of_getElem? (i := 621) (by decide +kernel))) rfl), gk_ws (List.mem_append_right _ (List.mem_of_getElem? (i := 622) (by decide +kernel))) rfl, gk_ws (List.mem_append_right _ (List.mem_of_getElem? (i := 623) (by decide +kernel))) rfl⟩
theorem k_L_35 : gk_KV RL 35 yX4_follow := ⟨Or.inl (gk_ws (List.mem_append_right _ (List.mem_of_getElem? (i := 630) (by decide +kernel))) rfl), gk_ws (List.mem_append_right _ (List.mem_of_getElem? (i := 631) (by decide +kernel))) rfl, gk_ws (List.mem_append_right _ (List.mem_of_getElem? (i := 632) (by decide +kernel))) rfl⟩
theorem k_L_42 : gk_KV RL 42 yX4_piper := ⟨Or.inl (gk_ws (List.mem_append_right _ (List.mem_of_getElem? (i := 642) (by decide +kernel))) rfl), gk_ws (List.mem_append_right _ (List.mem_of_getElem? (i := 643) (by decide +kernel))) rfl, gk_ws (List.mem_append_right _ (List.mem_of_getElem? (i := 644) (by decide +kernel))) rfl⟩
theorem k_L_45 : gk_KV RL 45 yX4_seat := ⟨Or.inl (gk_ws (List.mem_append_right _ (List.mem_of_getElem? (i := 648) (by decide +kernel))) rfl), gk_ws (List.mem_append_right _ (List.mem_of_getElem? (i := 649) (by decide +kernel))) rfl, gk_ws (List.mem_append_right _ (List.mem_of_getElem? (i := 650) (by decide +kernel))) rfl⟩
theorem k_L_58 : gk_KV RL 58 yX4_beats := ⟨Or.inl (gk_ws (List.mem_append_right _ (List.mem_of_getElem? (i := 653) (by decide +kernel))) rfl), gk_ws (List.mem_append_right _ (List.mem_of_getElem? (i := 654) (by decide +kernel))) rfl, gk_ws (List.mem_append_right _ (List.mem_of_getElem? (i := 655) (by decide +kernel))) rfl⟩
theorem k_L_65 : gk_KV RL 65 yX4_band := ⟨Or.inl (gk_ws (List.mem_append_right _ (List.mem_of_getElem? (i := 661) (by decide +kernel))) rfl), gk_ws (List.mem_append_right _ (List.mem_of_getElem? (i := 662) (by decide +kernel))) rfl, gk_ws (List.mem_append_right _ (List.mem_of_getElem? (i := 663) (by decide +kernel))) rfl⟩
theorem k_L_68 : gk_KV RL 68 yX4_contest := ⟨Or.inl (gk_ws (List.mem_append_right _ (List.mem_of_getElem? (i := 706) (by decide +kernel))) rfl), gk_ws (List.mem_append_right _ (List.mem_of_getElem? (i := 707) (by decide +kernel))) rfl, gk_ws (List.mem_append_right _ (List.mem_of_getElem? (i := 708) (by decide +kernel))) rfl⟩
theorem k_L_71 : gk_KV RL 71 yX4_mark := ⟨Or.inl (gk_ws (List.mem_append_right _ (List.mem_of_getElem? (i := 715) (by decide +kernel))) rfl), gk_ws (List.mem_append_right _ (List.mem_of_getElem? (i := 716) (by decide +kernel))) rfl, gk_ws (List.mem_append_right _ (List.mem_of_getElem? (i := 717) (by decide +kernel))) rfl⟩
theorem k_L_74 : gk_KV RL 74 yX4_close := ⟨Or.inl (gk_ws (List.mem_append_right _ (List.mem_of_getElem? (i := 730) (by decide +kernel))) rfl), gk_ws (List.mem_append_right _ (List.mem_of_getElem? (i := 731) (by decide +kernel))) rfl, gk_ws (List.mem_append_right _ (List.mem_of_getElem? (i := 732) (by decide +kernel))) rfl⟩
theorem k_L_100 : gk_KS RL 100 yL_act := ⟨gk_ws (List.mem_append_right _ (List.mem_of_getElem? (i := 464) (by decide +kernel))) rfl, gk_ws (List.mem_append_right _ (List.mem_of_getElem? (i := 465) (by decide +kernel))) rfl⟩
theorem k_L_107 : gk_KS RL 107 yL_refuses := ⟨gk_ws (List.mem_append_right _ (List.mem_of_getElem? (i := 772) (by decide +kernel))) rfl, gk_ws (List.mem_append_right _ (List.mem_of_getElem? (i := 773) (by decide +kernel))) rfl⟩
theorem k_L_111 : gk_KS RL 111 yL_tune := ⟨gk_ws (List.mem_append_right _ (List.mem_of_getElem? (i := 779) (by decide +kernel))) rfl, gk_ws (List.mem_append_right _ (List.mem_of_getElem? (i := 780) (by decide +kernel))) rfl⟩
theorem k_L_141 : gk_KS RL 141 yL_piper := ⟨gk_ws (List.mem_append_right _ (List.mem_of_getElem? (i := 795) (by decide +kernel))) rfl, gk_ws (List.mem_append_right _ (List.mem_of_getElem? (i := 796) (by decide +kernel))) rfl⟩
theorem k_L_144 : gk_KS RL 144 yL_full := ⟨gk_ws (List.mem_append_right _ (List.mem_of_getElem? (i := 799) (by decide +kernel))) rfl, gk_ws (List.mem_append_right _ (List.mem_of_getElem? (i := 800) (by decide +kernel))) rfl⟩
theorem k_L_148 : gk_KS RL 148 yL_band := ⟨gk_ws (List.mem_append_right _ (List.mem_of_getElem? (i := 805) (by decide +kernel))) rfl, gk_ws (List.mem_append_right _ (List.mem_of_getElem? (i := 806) (by decide +kernel))) rfl⟩
theorem k_L_151 : gk_KS RL 151 yL_marks := ⟨gk_ws (List.mem_append_right _ (List.mem_of_getElem? (i := 808) (by decide +kernel))) rfl, gk_ws (List.mem_append_right _ (List.mem_of_getElem? (i := 809) (by decide +kernel))) rfl⟩
theorem k_L_114 : gk_KS RL 114 yL_played := ⟨gk_ws (List.mem_append_right _ (List.mem_of_getElem? (i := 782) (by decide +kernel))) rfl, gk_ws (List.mem_append_right _ (List.mem_of_getElem? (i := 783) (by decide +kernel))) rfl⟩
theorem k_L_125 : gk_KS RL 125 yL_most := ⟨gk_ws (List.mem_append_right _ (List.mem_of_getElem? (i := 789) (by decide +kernel))) rfl, gk_ws (List.mem_append_right _ (List.mem_of_getElem? (i := 790) (by decide +kernel))) rfl⟩
theorem k_L_129 : gk_KS RL 129 yL_pipers := ⟨gk_ws (List.mem_append_right _ (List.mem_of_getElem? (i := 792) (by decide +kernel))) rfl, gk_ws (List.mem_append_right _ (List.mem_of_getElem? (i := 793) (by decide +kernel))) rfl⟩
theorem k_L_132 : gk_KS RL 132 yL_bands := ⟨gk_ws (List.mem_append_right _ (List.mem_of_getElem? (i := 802) (by decide +kernel))) rfl, gk_ws (List.mem_append_right _ (List.mem_of_getElem? (i := 803) (by decide +kernel))) rfl⟩
theorem k_L_135 : gk_KS RL 135 yL_eight := ⟨gk_ws (List.mem_append_right _ (List.mem_of_getElem? (i := 811) (by decide +kernel))) rfl, gk_ws (List.mem_append_right _ (List.mem_of_getElem? (i := 812) (by decide +kernel))) rfl⟩
theorem k_L_155 : gk_KS RL 155 yL_tunes := ⟨gk_ws (List.mem_append_right _ (List.mem_of_getElem? (i := 776) (by decide +kernel))) rfl, gk_ws (List.mem_append_right _ (List.mem_of_getElem? (i := 777) (by decide +kernel))) rfl⟩
