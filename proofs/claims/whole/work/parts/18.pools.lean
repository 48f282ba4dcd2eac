theorem ix_0 : ∀ w ∈ u_ws RX0 TX0 6, w ∈ mz_ws := fun w hw => by
  simp only [u_ws, List.range, List.range.loop, List.map_cons, List.map_nil, List.mem_cons, List.not_mem_nil, or_false] at hw
  rcases hw with rfl | rfl | rfl | rfl | rfl | rfl
  · exact ly_RX0_era
  · exact ly_RX0_nextName
  · exact ly_RX0_mark
  · exact ly_RX0_horizon
  · exact ly_RX0_messages
  · exact ly_RX0_lost
theorem ix_1 : ∀ w ∈ u_ws RX1 TX1 3, w ∈ mz_ws := fun w hw => by
  simp only [u_ws, List.range, List.range.loop, List.map_cons, List.map_nil, List.mem_cons, List.not_mem_nil, or_false] at hw
  rcases hw with rfl | rfl | rfl
  · exact ly_RX1_era
  · exact ly_RX1_mark
  · exact ly_RX1_messages
theorem ix_2 : ∀ w ∈ u_ws RX2 TX2 3, w ∈ mz_ws := fun w hw => by
  simp only [u_ws, List.range, List.range.loop, List.map_cons, List.map_nil, List.mem_cons, List.not_mem_nil, or_false] at hw
  rcases hw with rfl | rfl | rfl
  · exact ly_RX2_policy
  · exact ly_RX2_copies
  · exact ly_RX2_deeds
theorem ix_3 : ∀ w ∈ u_ws RX3 TX3 5, w ∈ mz_ws := fun w hw => by
  simp only [u_ws, List.range, List.range.loop, List.map_cons, List.map_nil, List.mem_cons, List.not_mem_nil, or_false] at hw
  rcases hw with rfl | rfl | rfl | rfl | rfl
  · exact ly_RX3_boxes
  · exact ly_RX3_machines
  · exact ly_RX3_noted
  · exact ly_RX3_counts
  · exact ly_RX3_nextDeed
theorem ix_4 : ∀ w ∈ u_ws RX4 TX4 4, w ∈ mz_ws := fun w hw => by
  simp only [u_ws, List.range, List.range.loop, List.map_cons, List.map_nil, List.mem_cons, List.not_mem_nil, or_false] at hw
  rcases hw with rfl | rfl | rfl | rfl
  · exact ly_RX4_width
  · exact ly_RX4_limit
  · exact ly_RX4_size
  · exact ly_RX4_cells
theorem ix_5 : ∀ w ∈ u_ws RX5 TX5 5, w ∈ mz_ws := fun w hw => by
  simp only [u_ws, List.range, List.range.loop, List.map_cons, List.map_nil, List.mem_cons, List.not_mem_nil, or_false] at hw
  rcases hw with rfl | rfl | rfl | rfl | rfl
  · exact ly_RX5_now
  · exact ly_RX5_records
  · exact ly_RX5_recordCount
  · exact ly_RX5_viewRows
  · exact ly_RX5_otherViewRows
theorem ix_6 : ∀ w ∈ u_ws RX6 TX6 8, w ∈ mz_ws := fun w hw => by
  simp only [u_ws, List.range, List.range.loop, List.map_cons, List.map_nil, List.mem_cons, List.not_mem_nil, or_false] at hw
  rcases hw with rfl | rfl | rfl | rfl | rfl | rfl | rfl | rfl
  · exact ly_RX6_now
  · exact ly_RX6_past
  · exact ly_RX6_saved
  · exact ly_RX6_refusal
  · exact ly_RX6_viewMany
  · exact ly_RX6_viewRow
  · exact ly_RX6_before
  · exact ly_RX6_hash
theorem fo_RX0_9 : mz_fok RX0 9 0 0 := ⟨RX0, TX0, 6, tyX0, 0, rfl, by decide, by decide, rfl, rfl, ix_0, tyX0_ok, nmX0, rfl, rfl, Or.inl fk_RX0_9⟩
theorem fo_RX0_15 : mz_fok RX0 15 0 1 := ⟨RX0, TX0, 6, tyX0, 0, rfl, by decide, by decide, rfl, rfl, ix_0, tyX0_ok, nmX0, rfl, rfl, Or.inl fk_RX0_15⟩
theorem fo_RX0_18 : mz_fok RX0 18 0 2 := ⟨RX0, TX0, 6, tyX0, 0, rfl, by decide, by decide, rfl, rfl, ix_0, tyX0_ok, nmX0, rfl, rfl, Or.inl fk_RX0_18⟩
theorem fo_RX0_21 : mz_fok RX0 21 0 3 := ⟨RX0, TX0, 6, tyX0, 0, rfl, by decide, by decide, rfl, rfl, ix_0, tyX0_ok, nmX0, rfl, rfl, Or.inl fk_RX0_21⟩
theorem fo_RX0_29 : mz_fok RX0 29 0 4 := ⟨RX0, TX0, 6, tyX0, 1, rfl, by decide, by decide, rfl, rfl, ix_0, tyX0_ok, nmX0, Or.inl ⟨_, rfl⟩, rfl, Or.inl fk_RX0_29⟩
theorem fo_RX0_33 : mz_fok RX0 33 0 5 := ⟨RX0, TX0, 6, tyX0, 1, rfl, by decide, by decide, rfl, rfl, ix_0, tyX0_ok, nmX0, Or.inl ⟨_, rfl⟩, rfl, Or.inl fk_RX0_33⟩
theorem fo_RX0_36 : mz_fok RX0 36 4 2 := ⟨RX4, TX4, 4, tyX4, 0, rfl, by decide, by decide, rfl, rfl, ix_4, tyX4_ok, nmX4, rfl, rfl, Or.inr (List.mem_of_getElem? (i := 0) rfl)⟩
def po_RX0 : mz_P := ([(9, 0, 0), (15, 0, 1), (18, 0, 2), (21, 0, 3), (29, 0, 4), (33, 0, 5), (36, 4, 2)], [], [(67, lN 31)])
theorem pk_RX0 : mz_Pok RX0 po_RX0 := ⟨List.forall_mem_cons.mpr ⟨fo_RX0_9, List.forall_mem_cons.mpr ⟨fo_RX0_15, List.forall_mem_cons.mpr ⟨fo_RX0_18, List.forall_mem_cons.mpr ⟨fo_RX0_21, List.forall_mem_cons.mpr ⟨fo_RX0_29, List.forall_mem_cons.mpr ⟨fo_RX0_33, List.forall_mem_cons.mpr ⟨fo_RX0_36, fun _ h => absurd h List.not_mem_nil⟩⟩⟩⟩⟩⟩⟩, fun _ h => absurd h List.not_mem_nil, List.forall_mem_cons.mpr ⟨kl_RX0_67, fun _ h => absurd h List.not_mem_nil⟩⟩
theorem fo_RX1_9 : mz_fok RX1 9 1 0 := ⟨RX1, TX1, 3, tyX1, 0, rfl, by decide, by decide, rfl, rfl, ix_1, tyX1_ok, nmX1, rfl, rfl, Or.inl fk_RX1_9⟩
theorem fo_RX1_15 : mz_fok RX1 15 1 1 := ⟨RX1, TX1, 3, tyX1, 0, rfl, by decide, by decide, rfl, rfl, ix_1, tyX1_ok, nmX1, rfl, rfl, Or.inl fk_RX1_15⟩
theorem fo_RX1_23 : mz_fok RX1 23 1 2 := ⟨RX1, TX1, 3, tyX1, 1, rfl, by decide, by decide, rfl, rfl, ix_1, tyX1_ok, nmX1, Or.inl ⟨_, rfl⟩, rfl, Or.inl fk_RX1_23⟩
theorem fo_RX1_27 : mz_fok RX1 27 0 0 := ⟨RX0, TX0, 6, tyX0, 0, rfl, by decide, by decide, rfl, rfl, ix_0, tyX0_ok, nmX0, rfl, rfl, Or.inr (List.mem_of_getElem? (i := 5) rfl)⟩
theorem fo_RX1_30 : mz_fok RX1 30 0 3 := ⟨RX0, TX0, 6, tyX0, 0, rfl, by decide, by decide, rfl, rfl, ix_0, tyX0_ok, nmX0, rfl, rfl, Or.inr (List.mem_of_getElem? (i := 11) rfl)⟩
theorem fo_RX1_33 : mz_fok RX1 33 0 4 := ⟨RX0, TX0, 6, tyX0, 1, rfl, by decide, by decide, rfl, rfl, ix_0, tyX0_ok, nmX0, Or.inl ⟨_, rfl⟩, rfl, Or.inr (List.mem_of_getElem? (i := 12) rfl)⟩
theorem fo_RX1_38 : mz_fok RX1 38 4 2 := ⟨RX4, TX4, 4, tyX4, 0, rfl, by decide, by decide, rfl, rfl, ix_4, tyX4_ok, nmX4, rfl, rfl, Or.inr (List.mem_of_getElem? (i := 3) rfl)⟩
theorem fo_RX1_52 : mz_fok RX1 52 0 5 := ⟨RX0, TX0, 6, tyX0, 1, rfl, by decide, by decide, rfl, rfl, ix_0, tyX0_ok, nmX0, Or.inl ⟨_, rfl⟩, rfl, Or.inr (List.mem_of_getElem? (i := 15) rfl)⟩
theorem fo_RX1_69 : mz_fok RX1 69 0 2 := ⟨RX0, TX0, 6, tyX0, 0, rfl, by decide, by decide, rfl, rfl, ix_0, tyX0_ok, nmX0, rfl, rfl, Or.inr (List.mem_of_getElem? (i := 9) rfl)⟩
def po_RX1 : mz_P := ([(9, 1, 0), (15, 1, 1), (23, 1, 2), (27, 0, 0), (30, 0, 3), (33, 0, 4), (38, 4, 2), (52, 0, 5), (69, 0, 2)], [], [])
theorem pk_RX1 : mz_Pok RX1 po_RX1 := ⟨List.forall_mem_cons.mpr ⟨fo_RX1_9, List.forall_mem_cons.mpr ⟨fo_RX1_15, List.forall_mem_cons.mpr ⟨fo_RX1_23, List.forall_mem_cons.mpr ⟨fo_RX1_27, List.forall_mem_cons.mpr ⟨fo_RX1_30, List.forall_mem_cons.mpr ⟨fo_RX1_33, List.forall_mem_cons.mpr ⟨fo_RX1_38, List.forall_mem_cons.mpr ⟨fo_RX1_52, List.forall_mem_cons.mpr ⟨fo_RX1_69, fun _ h => absurd h List.not_mem_nil⟩⟩⟩⟩⟩⟩⟩⟩⟩, fun _ h => absurd h List.not_mem_nil, fun _ h => absurd h List.not_mem_nil⟩
theorem fo_RX2_9 : mz_fok RX2 9 2 0 := ⟨RX2, TX2, 3, tyX2, 0, rfl, by decide, by decide, rfl, rfl, ix_2, tyX2_ok, nmX2, rfl, rfl, Or.inl fk_RX2_9⟩
theorem fo_RX2_17 : mz_fok RX2 17 2 1 := ⟨RX2, TX2, 3, tyX2, 1, rfl, by decide, by decide, rfl, rfl, ix_2, tyX2_ok, nmX2, Or.inr ⟨_, rfl⟩, rfl, Or.inl fk_RX2_17⟩
theorem fo_RX2_26 : mz_fok RX2 26 2 2 := ⟨RX2, TX2, 3, tyX2, 1, rfl, by decide, by decide, rfl, rfl, ix_2, tyX2_ok, nmX2, Or.inl ⟨_, rfl⟩, rfl, Or.inl fk_RX2_26⟩
theorem fo_RX2_31 : mz_fok RX2 31 4 2 := ⟨RX4, TX4, 4, tyX4, 0, rfl, by decide, by decide, rfl, rfl, ix_4, tyX4_ok, nmX4, rfl, rfl, Or.inr (List.mem_of_getElem? (i := 2) rfl)⟩
theorem fo_RX2_38 : mz_fok RX2 38 1 2 := ⟨RX1, TX1, 3, tyX1, 1, rfl, by decide, by decide, rfl, rfl, ix_1, tyX1_ok, nmX1, Or.inl ⟨_, rfl⟩, rfl, Or.inr (List.mem_of_getElem? (i := 21) rfl)⟩
def po_RX2 : mz_P := ([(9, 2, 0), (17, 2, 1), (26, 2, 2), (31, 4, 2), (38, 1, 2)], [], [])
theorem pk_RX2 : mz_Pok RX2 po_RX2 := ⟨List.forall_mem_cons.mpr ⟨fo_RX2_9, List.forall_mem_cons.mpr ⟨fo_RX2_17, List.forall_mem_cons.mpr ⟨fo_RX2_26, List.forall_mem_cons.mpr ⟨fo_RX2_31, List.forall_mem_cons.mpr ⟨fo_RX2_38, fun _ h => absurd h List.not_mem_nil⟩⟩⟩⟩⟩, fun _ h => absurd h List.not_mem_nil, fun _ h => absurd h List.not_mem_nil⟩
theorem fo_RX3_11 : mz_fok RX3 11 3 0 := ⟨RX3, TX3, 5, tyX3, 1, rfl, by decide, by decide, rfl, rfl, ix_3, tyX3_ok, nmX3, Or.inr ⟨_, rfl⟩, rfl, Or.inl fk_RX3_11⟩
theorem fo_RX3_19 : mz_fok RX3 19 3 1 := ⟨RX3, TX3, 5, tyX3, 1, rfl, by decide, by decide, rfl, rfl, ix_3, tyX3_ok, nmX3, Or.inr ⟨_, rfl⟩, rfl, Or.inl fk_RX3_19⟩
theorem fo_RX3_28 : mz_fok RX3 28 3 2 := ⟨RX3, TX3, 5, tyX3, 1, rfl, by decide, by decide, rfl, rfl, ix_3, tyX3_ok, nmX3, Or.inl ⟨_, rfl⟩, rfl, Or.inl fk_RX3_28⟩
theorem fo_RX3_32 : mz_fok RX3 32 3 3 := ⟨RX3, TX3, 5, tyX3, 1, rfl, by decide, by decide, rfl, rfl, ix_3, tyX3_ok, nmX3, Or.inr ⟨_, rfl⟩, rfl, Or.inl fk_RX3_32⟩
theorem fo_RX3_36 : mz_fok RX3 36 3 4 := ⟨RX3, TX3, 5, tyX3, 0, rfl, by decide, by decide, rfl, rfl, ix_3, tyX3_ok, nmX3, rfl, rfl, Or.inl fk_RX3_36⟩
theorem fo_RX3_42 : mz_fok RX3 42 2 2 := ⟨RX2, TX2, 3, tyX2, 1, rfl, by decide, by decide, rfl, rfl, ix_2, tyX2_ok, nmX2, Or.inl ⟨_, rfl⟩, rfl, Or.inr (List.mem_of_getElem? (i := 28) rfl)⟩
theorem fo_RX3_45 : mz_fok RX3 45 4 2 := ⟨RX4, TX4, 4, tyX4, 0, rfl, by decide, by decide, rfl, rfl, ix_4, tyX4_ok, nmX4, rfl, rfl, Or.inr (List.mem_of_getElem? (i := 1) rfl)⟩
theorem fo_RX3_59 : mz_fok RX3 59 2 1 := ⟨RX2, TX2, 3, tyX2, 1, rfl, by decide, by decide, rfl, rfl, ix_2, tyX2_ok, nmX2, Or.inr ⟨_, rfl⟩, rfl, Or.inr (List.mem_of_getElem? (i := 26) rfl)⟩
theorem fo_RX3_111 : mz_fok RX3 111 1 0 := ⟨RX1, TX1, 3, tyX1, 0, rfl, by decide, by decide, rfl, rfl, ix_1, tyX1_ok, nmX1, rfl, rfl, Or.inr (List.mem_of_getElem? (i := 17) rfl)⟩
theorem fo_RX3_114 : mz_fok RX3 114 0 0 := ⟨RX0, TX0, 6, tyX0, 0, rfl, by decide, by decide, rfl, rfl, ix_0, tyX0_ok, nmX0, rfl, rfl, Or.inr (List.mem_of_getElem? (i := 7) rfl)⟩
theorem fo_RX3_115 : mz_fok RX3 115 1 1 := ⟨RX1, TX1, 3, tyX1, 0, rfl, by decide, by decide, rfl, rfl, ix_1, tyX1_ok, nmX1, rfl, rfl, Or.inr (List.mem_of_getElem? (i := 19) rfl)⟩
theorem fo_RX3_118 : mz_fok RX3 118 0 2 := ⟨RX0, TX0, 6, tyX0, 0, rfl, by decide, by decide, rfl, rfl, ix_0, tyX0_ok, nmX0, rfl, rfl, Or.inr (List.mem_of_getElem? (i := 10) rfl)⟩
theorem fo_RX3_119 : mz_fok RX3 119 0 1 := ⟨RX0, TX0, 6, tyX0, 0, rfl, by decide, by decide, rfl, rfl, ix_0, tyX0_ok, nmX0, rfl, rfl, Or.inr (List.mem_of_getElem? (i := 8) rfl)⟩
theorem fo_RX3_137 : mz_fok RX3 137 1 2 := ⟨RX1, TX1, 3, tyX1, 1, rfl, by decide, by decide, rfl, rfl, ix_1, tyX1_ok, nmX1, Or.inl ⟨_, rfl⟩, rfl, Or.inr (List.mem_of_getElem? (i := 22) rfl)⟩
theorem fo_RX3_144 : mz_fok RX3 144 0 4 := ⟨RX0, TX0, 6, tyX0, 1, rfl, by decide, by decide, rfl, rfl, ix_0, tyX0_ok, nmX0, Or.inl ⟨_, rfl⟩, rfl, Or.inr (List.mem_of_getElem? (i := 14) rfl)⟩
theorem fo_RX3_151 : mz_fok RX3 151 2 0 := ⟨RX2, TX2, 3, tyX2, 0, rfl, by decide, by decide, rfl, rfl, ix_2, tyX2_ok, nmX2, rfl, rfl, Or.inr (List.mem_of_getElem? (i := 24) rfl)⟩
def po_RX3 : mz_P := ([(11, 3, 0), (19, 3, 1), (28, 3, 2), (32, 3, 3), (36, 3, 4), (42, 2, 2), (45, 4, 2), (59, 2, 1), (111, 1, 0), (114, 0, 0), (115, 1, 1), (118, 0, 2), (119, 0, 1), (137, 1, 2), (144, 0, 4), (151, 2, 0)], [], [])
theorem pk_RX3 : mz_Pok RX3 po_RX3 := ⟨List.forall_mem_cons.mpr ⟨fo_RX3_11, List.forall_mem_cons.mpr ⟨fo_RX3_19, List.forall_mem_cons.mpr ⟨fo_RX3_28, List.forall_mem_cons.mpr ⟨fo_RX3_32, List.forall_mem_cons.mpr ⟨fo_RX3_36, List.forall_mem_cons.mpr ⟨fo_RX3_42, List.forall_mem_cons.mpr ⟨fo_RX3_45, List.forall_mem_cons.mpr ⟨fo_RX3_59, List.forall_mem_cons.mpr ⟨fo_RX3_111, List.forall_mem_cons.mpr ⟨fo_RX3_114, List.forall_mem_cons.mpr ⟨fo_RX3_115, List.forall_mem_cons.mpr ⟨fo_RX3_118, List.forall_mem_cons.mpr ⟨fo_RX3_119, List.forall_mem_cons.mpr ⟨fo_RX3_137, List.forall_mem_cons.mpr ⟨fo_RX3_144, List.forall_mem_cons.mpr ⟨fo_RX3_151, fun _ h => absurd h List.not_mem_nil⟩⟩⟩⟩⟩⟩⟩⟩⟩⟩⟩⟩⟩⟩⟩⟩, fun _ h => absurd h List.not_mem_nil, fun _ h => absurd h List.not_mem_nil⟩
theorem fo_RX4_9 : mz_fok RX4 9 4 2 := ⟨RX4, TX4, 4, tyX4, 0, rfl, by decide, by decide, rfl, rfl, ix_4, tyX4_ok, nmX4, rfl, rfl, Or.inl fk_RX4_9⟩
theorem fo_RX4_15 : mz_fok RX4 15 4 0 := ⟨RX4, TX4, 4, tyX4, 0, rfl, by decide, by decide, rfl, rfl, ix_4, tyX4_ok, nmX4, rfl, rfl, Or.inl fk_RX4_15⟩
theorem fo_RX4_18 : mz_fok RX4 18 4 1 := ⟨RX4, TX4, 4, tyX4, 0, rfl, by decide, by decide, rfl, rfl, ix_4, tyX4_ok, nmX4, rfl, rfl, Or.inl fk_RX4_18⟩
theorem fo_RX4_27 : mz_fok RX4 27 4 3 := ⟨RX4, TX4, 4, tyX4, 1, rfl, by decide, by decide, rfl, rfl, ix_4, tyX4_ok, nmX4, Or.inr ⟨_, rfl⟩, rfl, Or.inl fk_RX4_27⟩
def po_RX4 : mz_P := ([(9, 4, 2), (15, 4, 0), (18, 4, 1), (27, 4, 3)], [], [(49, lN 31)])
theorem pk_RX4 : mz_Pok RX4 po_RX4 := ⟨List.forall_mem_cons.mpr ⟨fo_RX4_9, List.forall_mem_cons.mpr ⟨fo_RX4_15, List.forall_mem_cons.mpr ⟨fo_RX4_18, List.forall_mem_cons.mpr ⟨fo_RX4_27, fun _ h => absurd h List.not_mem_nil⟩⟩⟩⟩, fun _ h => absurd h List.not_mem_nil, List.forall_mem_cons.mpr ⟨kl_RX4_49, fun _ h => absurd h List.not_mem_nil⟩⟩
theorem fo_RX5_12 : mz_fok RX5 12 5 0 := ⟨RX5, TX5, 5, tyX5, 1, rfl, by decide, by decide, rfl, rfl, ix_5, tyX5_ok, nmX5, Or.inl ⟨_, rfl⟩, rfl, Or.inl fk_RX5_12⟩
theorem fo_RX5_16 : mz_fok RX5 16 5 1 := ⟨RX5, TX5, 5, tyX5, 1, rfl, by decide, by decide, rfl, rfl, ix_5, tyX5_ok, nmX5, Or.inr ⟨_, rfl⟩, rfl, Or.inl fk_RX5_16⟩
theorem fo_RX5_20 : mz_fok RX5 20 5 2 := ⟨RX5, TX5, 5, tyX5, 0, rfl, by decide, by decide, rfl, rfl, ix_5, tyX5_ok, nmX5, rfl, rfl, Or.inl fk_RX5_20⟩
theorem fo_RX5_29 : mz_fok RX5 29 5 3 := ⟨RX5, TX5, 5, tyX5, 1, rfl, by decide, by decide, rfl, rfl, ix_5, tyX5_ok, nmX5, Or.inl ⟨_, rfl⟩, rfl, Or.inl fk_RX5_29⟩
theorem fo_RX5_33 : mz_fok RX5 33 5 4 := ⟨RX5, TX5, 5, tyX5, 1, rfl, by decide, by decide, rfl, rfl, ix_5, tyX5_ok, nmX5, Or.inl ⟨_, rfl⟩, rfl, Or.inl fk_RX5_33⟩
theorem fo_RX5_52 : mz_fok RX5 52 3 0 := ⟨RX3, TX3, 5, tyX3, 1, rfl, by decide, by decide, rfl, rfl, ix_3, tyX3_ok, nmX3, Or.inr ⟨_, rfl⟩, rfl, Or.inr (List.mem_of_getElem? (i := 30) rfl)⟩
theorem fo_RX5_75 : mz_fok RX5 75 0 4 := ⟨RX0, TX0, 6, tyX0, 1, rfl, by decide, by decide, rfl, rfl, ix_0, tyX0_ok, nmX0, Or.inl ⟨_, rfl⟩, rfl, Or.inr (List.mem_of_getElem? (i := 13) rfl)⟩
theorem fo_RX5_109 : mz_fok RX5 109 4 2 := ⟨RX4, TX4, 4, tyX4, 0, rfl, by decide, by decide, rfl, rfl, ix_4, tyX4_ok, nmX4, rfl, rfl, Or.inr (List.mem_of_getElem? (i := 4) rfl)⟩
theorem fo_RX5_119 : mz_fok RX5 119 0 0 := ⟨RX0, TX0, 6, tyX0, 0, rfl, by decide, by decide, rfl, rfl, ix_0, tyX0_ok, nmX0, rfl, rfl, Or.inr (List.mem_of_getElem? (i := 6) rfl)⟩
theorem fo_RX5_129 : mz_fok RX5 129 0 5 := ⟨RX0, TX0, 6, tyX0, 1, rfl, by decide, by decide, rfl, rfl, ix_0, tyX0_ok, nmX0, Or.inl ⟨_, rfl⟩, rfl, Or.inr (List.mem_of_getElem? (i := 16) rfl)⟩
theorem fo_RX5_143 : mz_fok RX5 143 3 1 := ⟨RX3, TX3, 5, tyX3, 1, rfl, by decide, by decide, rfl, rfl, ix_3, tyX3_ok, nmX3, Or.inr ⟨_, rfl⟩, rfl, Or.inr (List.mem_of_getElem? (i := 31) rfl)⟩
theorem fo_RX5_147 : mz_fok RX5 147 2 0 := ⟨RX2, TX2, 3, tyX2, 0, rfl, by decide, by decide, rfl, rfl, ix_2, tyX2_ok, nmX2, rfl, rfl, Or.inr (List.mem_of_getElem? (i := 25) rfl)⟩
theorem fo_RX5_156 : mz_fok RX5 156 2 1 := ⟨RX2, TX2, 3, tyX2, 1, rfl, by decide, by decide, rfl, rfl, ix_2, tyX2_ok, nmX2, Or.inr ⟨_, rfl⟩, rfl, Or.inr (List.mem_of_getElem? (i := 27) rfl)⟩
theorem fo_RX5_169 : mz_fok RX5 169 1 0 := ⟨RX1, TX1, 3, tyX1, 0, rfl, by decide, by decide, rfl, rfl, ix_1, tyX1_ok, nmX1, rfl, rfl, Or.inr (List.mem_of_getElem? (i := 18) rfl)⟩
theorem fo_RX5_170 : mz_fok RX5 170 1 1 := ⟨RX1, TX1, 3, tyX1, 0, rfl, by decide, by decide, rfl, rfl, ix_1, tyX1_ok, nmX1, rfl, rfl, Or.inr (List.mem_of_getElem? (i := 20) rfl)⟩
theorem fo_RX5_173 : mz_fok RX5 173 1 2 := ⟨RX1, TX1, 3, tyX1, 1, rfl, by decide, by decide, rfl, rfl, ix_1, tyX1_ok, nmX1, Or.inl ⟨_, rfl⟩, rfl, Or.inr (List.mem_of_getElem? (i := 23) rfl)⟩
theorem fo_RX5_201 : mz_fok RX5 201 2 2 := ⟨RX2, TX2, 3, tyX2, 1, rfl, by decide, by decide, rfl, rfl, ix_2, tyX2_ok, nmX2, Or.inl ⟨_, rfl⟩, rfl, Or.inr (List.mem_of_getElem? (i := 29) rfl)⟩
theorem fo_RX5_216 : mz_fok RX5 216 3 2 := ⟨RX3, TX3, 5, tyX3, 1, rfl, by decide, by decide, rfl, rfl, ix_3, tyX3_ok, nmX3, Or.inl ⟨_, rfl⟩, rfl, Or.inr (List.mem_of_getElem? (i := 32) rfl)⟩
theorem fo_RX5_219 : mz_fok RX5 219 3 3 := ⟨RX3, TX3, 5, tyX3, 1, rfl, by decide, by decide, rfl, rfl, ix_3, tyX3_ok, nmX3, Or.inr ⟨_, rfl⟩, rfl, Or.inr (List.mem_of_getElem? (i := 33) rfl)⟩
def po_RX5 : mz_P := ([(12, 5, 0), (16, 5, 1), (20, 5, 2), (29, 5, 3), (33, 5, 4), (52, 3, 0), (75, 0, 4), (109, 4, 2), (119, 0, 0), (129, 0, 5), (143, 3, 1), (147, 2, 0), (156, 2, 1), (169, 1, 0), (170, 1, 1), (173, 1, 2), (201, 2, 2), (216, 3, 2), (219, 3, 3)], [], [(225, lN 12861), (235, lN 31)])
theorem pk_RX5 : mz_Pok RX5 po_RX5 := ⟨List.forall_mem_cons.mpr ⟨fo_RX5_12, List.forall_mem_cons.mpr ⟨fo_RX5_16, List.forall_mem_cons.mpr ⟨fo_RX5_20, List.forall_mem_cons.mpr ⟨fo_RX5_29, List.forall_mem_cons.mpr ⟨fo_RX5_33, List.forall_mem_cons.mpr ⟨fo_RX5_52, List.forall_mem_cons.mpr ⟨fo_RX5_75, List.forall_mem_cons.mpr ⟨fo_RX5_109, List.forall_mem_cons.mpr ⟨fo_RX5_119, List.forall_mem_cons.mpr ⟨fo_RX5_129, List.forall_mem_cons.mpr ⟨fo_RX5_143, List.forall_mem_cons.mpr ⟨fo_RX5_147, List.forall_mem_cons.mpr ⟨fo_RX5_156, List.forall_mem_cons.mpr ⟨fo_RX5_169, List.forall_mem_cons.mpr ⟨fo_RX5_170, List.forall_mem_cons.mpr ⟨fo_RX5_173, List.forall_mem_cons.mpr ⟨fo_RX5_201, List.forall_mem_cons.mpr ⟨fo_RX5_216, List.forall_mem_cons.mpr ⟨fo_RX5_219, fun _ h => absurd h List.not_mem_nil⟩⟩⟩⟩⟩⟩⟩⟩⟩⟩⟩⟩⟩⟩⟩⟩⟩⟩⟩, fun _ h => absurd h List.not_mem_nil, List.forall_mem_cons.mpr ⟨kl_RX5_225, List.forall_mem_cons.mpr ⟨kl_RX5_235, fun _ h => absurd h List.not_mem_nil⟩⟩⟩
theorem fo_RX6_7 : mz_fok RX6 7 6 0 := ⟨RX6, TX6, 8, tyX6, 1, rfl, by decide, by decide, rfl, rfl, ix_6, tyX6_ok, nmX6, Or.inr ⟨_, rfl⟩, rfl, Or.inl fk_RX6_7⟩
theorem fo_RX6_14 : mz_fok RX6 14 6 1 := ⟨RX6, TX6, 8, tyX6, 1, rfl, by decide, by decide, rfl, rfl, ix_6, tyX6_ok, nmX6, Or.inr ⟨_, rfl⟩, rfl, Or.inl fk_RX6_14⟩
theorem fo_RX6_17 : mz_fok RX6 17 6 5 := ⟨RX6, TX6, 8, tyX6, 1, rfl, by decide, by decide, rfl, rfl, ix_6, tyX6_ok, nmX6, Or.inr ⟨_, rfl⟩, rfl, Or.inl fk_RX6_17⟩
theorem fo_RX6_20 : mz_fok RX6 20 6 6 := ⟨RX6, TX6, 8, tyX6, 1, rfl, by decide, by decide, rfl, rfl, ix_6, tyX6_ok, nmX6, Or.inr ⟨_, rfl⟩, rfl, Or.inl fk_RX6_20⟩
theorem fo_RX6_23 : mz_fok RX6 23 6 3 := ⟨RX6, TX6, 8, tyX6, 0, rfl, by decide, by decide, rfl, rfl, ix_6, tyX6_ok, nmX6, rfl, rfl, Or.inl fk_RX6_23⟩
theorem fo_RX6_27 : mz_fok RX6 27 6 2 := ⟨RX6, TX6, 8, tyX6, 0, rfl, by decide, by decide, rfl, rfl, ix_6, tyX6_ok, nmX6, rfl, rfl, Or.inl fk_RX6_27⟩
theorem fo_RX6_136 : mz_fok RX6 136 6 4 := ⟨RX6, TX6, 8, tyX6, 0, rfl, by decide, by decide, rfl, rfl, ix_6, tyX6_ok, nmX6, rfl, rfl, Or.inl fk_RX6_136⟩
theorem fo_RX6_182 : mz_fok RX6 182 6 7 := ⟨RX6, TX6, 8, tyX6, 2, rfl, by decide, by decide, rfl, rfl, ix_6, tyX6_ok, nmX6, rfl, rfl, Or.inl fk_RX6_182⟩
def po_RX6 : mz_P := ([(7, 6, 0), (14, 6, 1), (17, 6, 5), (20, 6, 6), (23, 6, 3), (27, 6, 2), (136, 6, 4), (182, 6, 7)], [(13, nI 117604), (30, nI 88203)], [(194, lN 12861), (180, lN 31)])
theorem pk_RX6 : mz_Pok RX6 po_RX6 := ⟨List.forall_mem_cons.mpr ⟨fo_RX6_7, List.forall_mem_cons.mpr ⟨fo_RX6_14, List.forall_mem_cons.mpr ⟨fo_RX6_17, List.forall_mem_cons.mpr ⟨fo_RX6_20, List.forall_mem_cons.mpr ⟨fo_RX6_23, List.forall_mem_cons.mpr ⟨fo_RX6_27, List.forall_mem_cons.mpr ⟨fo_RX6_136, List.forall_mem_cons.mpr ⟨fo_RX6_182, fun _ h => absurd h List.not_mem_nil⟩⟩⟩⟩⟩⟩⟩⟩, List.forall_mem_cons.mpr ⟨kc_RX6_13, List.forall_mem_cons.mpr ⟨kc_RX6_30, fun _ h => absurd h List.not_mem_nil⟩⟩, List.forall_mem_cons.mpr ⟨kl_RX6_194, List.forall_mem_cons.mpr ⟨kl_RX6_180, fun _ h => absurd h List.not_mem_nil⟩⟩⟩
def po_RL : mz_P := ([], [], [])
theorem pk_RL : mz_Pok RL po_RL := ⟨fun _ h => absurd h List.not_mem_nil, fun _ h => absurd h List.not_mem_nil, fun _ h => absurd h List.not_mem_nil⟩
