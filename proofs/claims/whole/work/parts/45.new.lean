/-! new objects: what they hold at first -/

theorem n_L_8 : gk_N RL 8 5 [Value.null, Value.null, Value.null, Value.null, Value.null, Value.null, Value.null, iv 0, iv 0] 9 := ⟨RX4, TX4, tyX4, cl_X4, cw_L_8, gk_ws (List.mem_append_right _ (List.mem_of_getElem? (i := 23) (by decide +kernel))) rfl, gk_ws (List.mem_append_right _ (List.mem_of_getElem? (i := 1) (by decide +kernel))) rfl, by
  intro j hj
  rcases (show j = 0 ∨ j = 1 ∨ j = 2 ∨ j = 3 ∨ j = 4 ∨ j = 5 ∨ j = 6 ∨ j = 7 ∨ j = 8 from by omega) with rfl | rfl | rfl | rfl | rfl | rfl | rfl | rfl | rfl <;> rfl⟩

theorem n_X4_7 : gk_N RX4 7 0 [iv 0, Value.null, iv 0] 3 := ⟨RJx4a65c, TJx4a65c, tyJx4a65c, cl_Jx4a65c, cw_X4_7, gk_ws (List.mem_append_right _ (List.mem_of_getElem? (i := 31) (by decide +kernel))) rfl, gk_ws (List.mem_append_right _ (List.mem_of_getElem? (i := 4) (by decide +kernel))) rfl, by
  intro j hj
  rcases (show j = 0 ∨ j = 1 ∨ j = 2 from by omega) with rfl | rfl | rfl <;> rfl⟩

theorem n_X4_26 : gk_N RX4 26 2 [iv 0, iv 0, iv 0, iv 0, iv 0, iv 0, iv 0] 7 := ⟨RX1, TX1, tyX1, cl_X1, cw_X4_26, gk_ws (List.mem_append_right _ (List.mem_of_getElem? (i := 57) (by decide +kernel))) rfl, gk_ws (List.mem_append_right _ (List.mem_of_getElem? (i := 5) (by decide +kernel))) rfl, by
  intro j hj
  rcases (show j = 0 ∨ j = 1 ∨ j = 2 ∨ j = 3 ∨ j = 4 ∨ j = 5 ∨ j = 6 from by omega) with rfl | rfl | rfl | rfl | rfl | rfl | rfl <;> rfl⟩

theorem n_X4_35 : gk_N RX4 35 3 [Value.null, iv 0] 2 := ⟨RX2, TX2, tyX2, cl_X2, cw_X4_35, gk_ws (List.mem_append_right _ (List.mem_of_getElem? (i := 88) (by decide +kernel))) rfl, gk_ws (List.mem_append_right _ (List.mem_of_getElem? (i := 6) (by decide +kernel))) rfl, by
  intro j hj
  rcases (show j = 0 ∨ j = 1 from by omega) with rfl | rfl <;> rfl⟩

theorem n_X4_73 : gk_N RX4 73 4 [iv 0, iv 0, Value.null, Value.null, Value.null, Value.null, Value.null, iv 0, iv 0, iv 0, iv 0, iv 0] 12 := ⟨RX3, TX3, tyX3, cl_X3, cw_X4_73, gk_ws (List.mem_append_right _ (List.mem_of_getElem? (i := 156) (by decide +kernel))) rfl, gk_ws (List.mem_append_right _ (List.mem_of_getElem? (i := 13) (by decide +kernel))) rfl, by
  intro j hj
  rcases (show j = 0 ∨ j = 1 ∨ j = 2 ∨ j = 3 ∨ j = 4 ∨ j = 5 ∨ j = 6 ∨ j = 7 ∨ j = 8 ∨ j = 9 ∨ j = 10 ∨ j = 11 from by omega) with rfl | rfl | rfl | rfl | rfl | rfl | rfl | rfl | rfl | rfl | rfl | rfl <;> rfl⟩

theorem n_X4_238 : gk_N RX4 238 1 [iv 0, Value.null, Value.null, iv 0, iv 0, iv 0, iv 0, iv 0, iv 0, iv 0] 10 := ⟨RX0, TX0, tyX0, cl_X0, cw_X4_238, gk_ws (List.mem_append_right _ (List.mem_of_getElem? (i := 682) (by decide +kernel))) rfl, gk_ws (List.mem_append_right _ (List.mem_of_getElem? (i := 21) (by decide +kernel))) rfl, by
  intro j hj
  rcases (show j = 0 ∨ j = 1 ∨ j = 2 ∨ j = 3 ∨ j = 4 ∨ j = 5 ∨ j = 6 ∨ j = 7 ∨ j = 8 ∨ j = 9 from by omega) with rfl | rfl | rfl | rfl | rfl | rfl | rfl | rfl | rfl | rfl <;> rfl⟩

theorem n_L_90 : gk_N RL 90 6 [iv 0, Value.null, Value.null, Value.null, Value.null, Value.null, Value.null, Value.null, Value.null, iv 0, Value.null, Value.null, Value.null, Value.null, iv 0, Value.null, Value.null, iv 0, Value.null, Value.null, Value.null, Value.null, Value.null, Value.null, Value.null, Value.null, Value.null, Value.null, Value.null, iv 0, Value.null, Value.null, Value.null, Value.null, Value.null, Value.null, iv 0, iv 0, Value.null, iv 0] 40 := ⟨RX5, TX5, tyX5, cl_X5, cw_L_90, gk_ws (List.mem_append_right _ (List.mem_of_getElem? (i := 835) (by decide +kernel))) rfl, gk_ws (List.mem_append_right _ (List.mem_of_getElem? (i := 7) (by decide +kernel))) rfl, by
  intro j hj
  rcases (show j = 0 ∨ j = 1 ∨ j = 2 ∨ j = 3 ∨ j = 4 ∨ j = 5 ∨ j = 6 ∨ j = 7 ∨ j = 8 ∨ j = 9 ∨ j = 10 ∨ j = 11 ∨ j = 12 ∨ j = 13 ∨ j = 14 ∨ j = 15 ∨ j = 16 ∨ j = 17 ∨ j = 18 ∨ j = 19 ∨ j = 20 ∨ j = 21 ∨ j = 22 ∨ j = 23 ∨ j = 24 ∨ j = 25 ∨ j = 26 ∨ j = 27 ∨ j = 28 ∨ j = 29 ∨ j = 30 ∨ j = 31 ∨ j = 32 ∨ j = 33 ∨ j = 34 ∨ j = 35 ∨ j = 36 ∨ j = 37 ∨ j = 38 ∨ j = 39 from by omega) with rfl | rfl | rfl | rfl | rfl | rfl | rfl | rfl | rfl | rfl | rfl | rfl | rfl | rfl | rfl | rfl | rfl | rfl | rfl | rfl | rfl | rfl | rfl | rfl | rfl | rfl | rfl | rfl | rfl | rfl | rfl | rfl | rfl | rfl | rfl | rfl | rfl | rfl | rfl | rfl <;> rfl⟩
