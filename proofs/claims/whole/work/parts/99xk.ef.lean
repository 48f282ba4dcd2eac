/-! ===== the machine at the law's start ===== -/
theorem lt_in1 {w : Cond} (h : w ∈ tables_1_1) : w ∈ lw_tbl := List.mem_append_right _ (show w ∈ tables_1 from List.mem_append_left _ h)
theorem lt_in2 {w : Cond} (h : w ∈ tables_1_2) : w ∈ lw_tbl := List.mem_append_right _ (show w ∈ tables_1 from List.mem_append_right _ (List.mem_append_left _ h))
theorem lt_in3 {w : Cond} (h : w ∈ tables_1_3) : w ∈ lw_tbl := List.mem_append_right _ (show w ∈ tables_1 from List.mem_append_right _ (List.mem_append_right _ (List.mem_append_left _ h)))
theorem lt_in4 {w : Cond} (h : w ∈ tables_1_4) : w ∈ lw_tbl := List.mem_append_right _ (show w ∈ tables_1 from List.mem_append_right _ (List.mem_append_right _ (List.mem_append_right _ (List.mem_append_left _ h))))
theorem lt_in5 {w : Cond} (h : w ∈ tables_1_5) : w ∈ lw_tbl := List.mem_append_right _ (show w ∈ tables_1 from List.mem_append_right _ (List.mem_append_right _ (List.mem_append_right _ (List.mem_append_right _ h))))
theorem lw_arr {s : State} {args : Array Value} {ty : FieldType} (h : (Cond.arrayClass ty).before args s = true) : ∃ c, ArrOfT s c ty ∧ s.vm.findClass ("[" ++ ty.toString) = some c := by
  obtain ⟨c, kA, comp, h1, h2, h3⟩ := Cond.arrayClass_spec h
  exact ⟨c, fun n z => ⟨fun k h => (by cases h), kA, h2, comp, h3⟩, h1⟩
theorem lw_arO {s : State} {args : Array Value} {C : String} (h : (Cond.arrayOver (.object C)).before args s = true) : ∃ c, ArrOfT s c (.object C) ∧ va_RA s c (.object C) := by
  obtain ⟨comp, c, k, h1, h2, h3, h4, h5⟩ := Cond.arrayOver_spec h
  exact ⟨c, fun n z => ⟨fun k h => (by cases h), k, h3, comp, h4⟩, k, comp, h3, h4, h1, h5⟩
theorem lw_str {s : State} {args : Array Value} {k : Nat} {tx : String} {c5 : ClassId} (h5 : s.vm.findClass RX5 = some c5) (h : (Cond.stringRef RX5 k tx).before args s = true) : ∃ sa, vk_R RX5 k tx sa s := by
  have h' : (Cond.stringRef RX5 k tx).before #[] s = true := h
  obtain ⟨_, _, _, a, _, _, _, _, _, h6⟩ := Cond.stringRef_spec h5 h'
  exact ⟨a, h', h6⟩
set_option maxHeartbeats 4000000 in
theorem lw_EF {s : State} {args : Array Value} (hts : ∀ w ∈ lw_tbl, w.before args s = true) (hgv : (Jvm.Cond.and given_1 narrow_1).before args s = true) : ∃ E : mz_E, E.2.2 = s.heap.size ∧ mz_EF E s := by
  have hm : ∀ w ∈ mz_ws, w.before args s = true := fun w hw => hts w (List.mem_filter.1 hw).1
  have hs := flat_of_before _ hgv
  obtain ⟨c0, i0, k0⟩ := u_known (C := RX0) (T := TX0) (N := 6) (n := 6) hm ix_0 (hm _ it_RX0)
  obtain ⟨c1, i1, k1⟩ := u_known (C := RX1) (T := TX1) (N := 3) (n := 3) hm ix_1 (hm _ it_RX1)
  obtain ⟨c2, i2, k2⟩ := u_known (C := RX2) (T := TX2) (N := 3) (n := 3) hm ix_2 (hm _ it_RX2)
  obtain ⟨c3, i3, k3⟩ := u_known (C := RX3) (T := TX3) (N := 5) (n := 5) hm ix_3 (hm _ it_RX3)
  obtain ⟨c4, i4, k4⟩ := u_known (C := RX4) (T := TX4) (N := 4) (n := 4) hm ix_4 (hm _ it_RX4)
  obtain ⟨c5, i5, k5⟩ := u_known (C := RX5) (T := TX5) (N := 5) (n := 5) hm ix_5 (hm _ it_RX5)
  obtain ⟨c6, i6, k6⟩ := u_known (C := RX6) (T := TX6) (N := 8) (n := 8) hm ix_6 (hm _ it_RX6)
  obtain ⟨a7, A7, B7⟩ := lw_arr (hm _ ac_int)
  obtain ⟨a12, A12, B12⟩ := lw_arr (hm _ ac_long)
  have w8 := hts _ (lt_in1 (List.mem_of_getElem? (i := 32) rfl))
  obtain ⟨a8, A8, B8⟩ := lw_arO w8
  have w9 := hts _ (lt_in1 (List.mem_of_getElem? (i := 107) rfl))
  obtain ⟨a9, A9, B9⟩ := lw_arO w9
  have w10 := hts _ (lt_in1 (List.mem_of_getElem? (i := 34) rfl))
  obtain ⟨a10, A10, B10⟩ := lw_arO w10
  have w11 := hts _ (lt_in1 (List.mem_of_getElem? (i := 170) rfl))
  obtain ⟨a11, A11, B11⟩ := lw_arO w11
  obtain ⟨m1, meth1, q1, -⟩ := Cond.instanceMethod_spec (hm _ im_X5_add)
  have h5 : s.vm.findClass RX5 = some m1.cls := findClass_of_methodNamed q1
  refine ⟨((fun k => if k = 0 then c0 else if k = 1 then c1 else if k = 2 then c2 else if k = 3 then c3 else if k = 4 then c4 else if k = 5 then c5 else c6, fun k => if k = 0 then i0 else if k = 1 then i1 else if k = 2 then i2 else if k = 3 then i3 else if k = 4 then i4 else if k = 5 then i5 else i6), fun k => if k = 7 then a7 else if k = 8 then a8 else if k = 9 then a9 else if k = 10 then a10 else if k = 11 then a11 else a12, s.heap.size), rfl, ⟨?_, ?_⟩, ?_, ?_, ?_, Nat.le_refl _, ?_, ?_, ?_, ?_, ?_⟩
  · intro k q hq
    match k, hq with
    | 0, hq => cases hq; exact k0
    | 1, hq => cases hq; exact k1
    | 2, hq => cases hq; exact k2
    | 3, hq => cases hq; exact k3
    | 4, hq => cases hq; exact k4
    | 5, hq => cases hq; exact k5
    | 6, hq => cases hq; exact k6
    | k + 7, hq => simp [vwCl] at hq
  · intro k q hq
    match k, hq with
    | 0, hq => cases hq; exact ⟨A7, B7⟩
    | 1, hq => cases hq; exact ⟨A8, B8⟩
    | 2, hq => cases hq; exact ⟨A9, B9⟩
    | 3, hq => cases hq; exact ⟨A10, B10⟩
    | 4, hq => cases hq; exact ⟨A11, B11⟩
    | 5, hq => cases hq; exact ⟨A12, B12⟩
    | k + 6, hq => simp [mz_tys] at hq
  · exact List.forall_mem_cons.mpr ⟨lw_str h5 (hts _ (lt_in2 (List.mem_of_getElem? (i := 231) rfl))), List.forall_mem_cons.mpr ⟨lw_str h5 (hts _ (lt_in3 (List.mem_of_getElem? (i := 21) rfl))), List.forall_mem_cons.mpr ⟨lw_str h5 (hts _ (lt_in3 (List.mem_of_getElem? (i := 34) rfl))), List.forall_mem_cons.mpr ⟨lw_str h5 (hts _ (lt_in3 (List.mem_of_getElem? (i := 74) rfl))), List.forall_mem_cons.mpr ⟨lw_str h5 (hts _ (lt_in3 (List.mem_of_getElem? (i := 78) rfl))), List.forall_mem_cons.mpr ⟨lw_str h5 (hts _ (lt_in3 (List.mem_of_getElem? (i := 93) rfl))), List.forall_mem_cons.mpr ⟨lw_str h5 (hts _ (lt_in3 (List.mem_of_getElem? (i := 112) rfl))), List.forall_mem_cons.mpr ⟨lw_str h5 (hts _ (lt_in3 (List.mem_of_getElem? (i := 116) rfl))), List.forall_mem_cons.mpr ⟨lw_str h5 (hts _ (lt_in3 (List.mem_of_getElem? (i := 117) rfl))), List.forall_mem_cons.mpr ⟨lw_str h5 (hts _ (lt_in3 (List.mem_of_getElem? (i := 118) rfl))), List.forall_mem_cons.mpr ⟨lw_str h5 (hts _ (lt_in3 (List.mem_of_getElem? (i := 138) rfl))), List.forall_mem_cons.mpr ⟨lw_str h5 (hts _ (lt_in3 (List.mem_of_getElem? (i := 223) rfl))), List.forall_mem_cons.mpr ⟨lw_str h5 (hts _ (lt_in4 (List.mem_of_getElem? (i := 46) rfl))), List.forall_mem_cons.mpr ⟨lw_str h5 (hts _ (lt_in4 (List.mem_of_getElem? (i := 48) rfl))), List.forall_mem_cons.mpr ⟨lw_str h5 (hts _ (lt_in4 (List.mem_of_getElem? (i := 53) rfl))), List.forall_mem_cons.mpr ⟨lw_str h5 (hts _ (lt_in4 (List.mem_of_getElem? (i := 84) rfl))), List.forall_mem_cons.mpr ⟨lw_str h5 (hts _ (lt_in4 (List.mem_of_getElem? (i := 114) rfl))), fun _ h => absurd h List.not_mem_nil⟩⟩⟩⟩⟩⟩⟩⟩⟩⟩⟩⟩⟩⟩⟩⟩⟩
  · exact vx_Zqof (hts _ (lt_in2 (List.mem_of_getElem? (i := 217) rfl))) (hts _ (lt_in1 (List.mem_of_getElem? (i := 9) rfl))) (hs _ (by decide +kernel)) (fun a ha z => by have : s.heap.size ≤ a := z; omega)
  · exact vx_Zqof (hts _ (lt_in2 (List.mem_of_getElem? (i := 219) rfl))) (hts _ (lt_in1 (List.mem_of_getElem? (i := 9) rfl))) (hs _ (by decide +kernel)) (fun a ha z => by have : s.heap.size ≤ a := z; omega)
  · exact List.forall_mem_cons.mpr ⟨va_Nw.of rfl (hts _ (lt_in1 (List.mem_of_getElem? (i := 47) rfl))), List.forall_mem_cons.mpr ⟨va_Nw.of rfl (hts _ (lt_in1 (List.mem_of_getElem? (i := 48) rfl))), List.forall_mem_cons.mpr ⟨va_Nw.of rfl (hts _ (lt_in1 (List.mem_of_getElem? (i := 49) rfl))), List.forall_mem_cons.mpr ⟨va_Nw.of rfl (hts _ (lt_in1 (List.mem_of_getElem? (i := 50) rfl))), List.forall_mem_cons.mpr ⟨va_Nw.of rfl (hts _ (lt_in1 (List.mem_of_getElem? (i := 51) rfl))), List.forall_mem_cons.mpr ⟨va_Nw.of rfl (hts _ (lt_in1 (List.mem_of_getElem? (i := 71) rfl))), List.forall_mem_cons.mpr ⟨va_Nw.of rfl (hts _ (lt_in1 (List.mem_of_getElem? (i := 72) rfl))), List.forall_mem_cons.mpr ⟨va_Nw.of rfl (hts _ (lt_in1 (List.mem_of_getElem? (i := 73) rfl))), List.forall_mem_cons.mpr ⟨va_Nw.of rfl (hts _ (lt_in1 (List.mem_of_getElem? (i := 75) rfl))), List.forall_mem_cons.mpr ⟨va_Nw.of rfl (hts _ (lt_in1 (List.mem_of_getElem? (i := 77) rfl))), List.forall_mem_cons.mpr ⟨va_Nw.of rfl (hts _ (lt_in1 (List.mem_of_getElem? (i := 78) rfl))), List.forall_mem_cons.mpr ⟨va_Nw.of rfl (hts _ (lt_in1 (List.mem_of_getElem? (i := 80) rfl))), List.forall_mem_cons.mpr ⟨va_Nw.of rfl (hts _ (lt_in1 (List.mem_of_getElem? (i := 82) rfl))), List.forall_mem_cons.mpr ⟨va_Nw.of rfl (hts _ (lt_in1 (List.mem_of_getElem? (i := 83) rfl))), List.forall_mem_cons.mpr ⟨va_Nw.of rfl (hts _ (lt_in1 (List.mem_of_getElem? (i := 84) rfl))), List.forall_mem_cons.mpr ⟨va_Nw.of rfl (hts _ (lt_in1 (List.mem_of_getElem? (i := 86) rfl))), List.forall_mem_cons.mpr ⟨va_Nw.of rfl (hts _ (lt_in1 (List.mem_of_getElem? (i := 87) rfl))), List.forall_mem_cons.mpr ⟨va_Nw.of rfl (hts _ (lt_in1 (List.mem_of_getElem? (i := 118) rfl))), List.forall_mem_cons.mpr ⟨va_Nw.of rfl (hts _ (lt_in1 (List.mem_of_getElem? (i := 119) rfl))), List.forall_mem_cons.mpr ⟨va_Nw.of rfl (hts _ (lt_in1 (List.mem_of_getElem? (i := 121) rfl))), List.forall_mem_cons.mpr ⟨va_Nw.of rfl (hts _ (lt_in1 (List.mem_of_getElem? (i := 122) rfl))), List.forall_mem_cons.mpr ⟨va_Nw.of rfl (hts _ (lt_in1 (List.mem_of_getElem? (i := 124) rfl))), List.forall_mem_cons.mpr ⟨va_Nw.of rfl (hts _ (lt_in1 (List.mem_of_getElem? (i := 125) rfl))), List.forall_mem_cons.mpr ⟨va_Nw.of rfl (hts _ (lt_in1 (List.mem_of_getElem? (i := 126) rfl))), List.forall_mem_cons.mpr ⟨va_Nw.of rfl (hts _ (lt_in1 (List.mem_of_getElem? (i := 135) rfl))), List.forall_mem_cons.mpr ⟨va_Nw.of rfl (hts _ (lt_in1 (List.mem_of_getElem? (i := 136) rfl))), List.forall_mem_cons.mpr ⟨va_Nw.of rfl (hts _ (lt_in1 (List.mem_of_getElem? (i := 138) rfl))), List.forall_mem_cons.mpr ⟨va_Nw.of rfl (hts _ (lt_in1 (List.mem_of_getElem? (i := 139) rfl))), List.forall_mem_cons.mpr ⟨va_Nw.of rfl (hts _ (lt_in1 (List.mem_of_getElem? (i := 141) rfl))), List.forall_mem_cons.mpr ⟨va_Nw.of rfl (hts _ (lt_in1 (List.mem_of_getElem? (i := 142) rfl))), List.forall_mem_cons.mpr ⟨va_Nw.of rfl (hts _ (lt_in1 (List.mem_of_getElem? (i := 151) rfl))), List.forall_mem_cons.mpr ⟨va_Nw.of rfl (hts _ (lt_in1 (List.mem_of_getElem? (i := 153) rfl))), List.forall_mem_cons.mpr ⟨va_Nw.of rfl (hts _ (lt_in1 (List.mem_of_getElem? (i := 155) rfl))), List.forall_mem_cons.mpr ⟨va_Nw.of rfl (hts _ (lt_in1 (List.mem_of_getElem? (i := 157) rfl))), fun _ h => absurd h List.not_mem_nil⟩⟩⟩⟩⟩⟩⟩⟩⟩⟩⟩⟩⟩⟩⟩⟩⟩⟩⟩⟩⟩⟩⟩⟩⟩⟩⟩⟩⟩⟩⟩⟩⟩⟩
  · exact List.forall_mem_cons.mpr ⟨va_Nw.of rfl (hts _ (lt_in1 (List.mem_of_getElem? (i := 64) rfl))), List.forall_mem_cons.mpr ⟨va_Nw.of rfl (hts _ (lt_in1 (List.mem_of_getElem? (i := 111) rfl))), List.forall_mem_cons.mpr ⟨va_Nw.of rfl (hts _ (lt_in2 (List.mem_of_getElem? (i := 74) rfl))), List.forall_mem_cons.mpr ⟨va_Nw.of rfl (hts _ (lt_in3 (List.mem_of_getElem? (i := 54) rfl))), fun _ h => absurd h List.not_mem_nil⟩⟩⟩⟩
  · exact List.forall_mem_cons.mpr ⟨va_AO.of w8, List.forall_mem_cons.mpr ⟨va_AO.of w9, List.forall_mem_cons.mpr ⟨va_AO.of w10, List.forall_mem_cons.mpr ⟨va_AO.of w11, fun _ h => absurd h List.not_mem_nil⟩⟩⟩⟩
  · exact List.forall_mem_cons.mpr ⟨va_Nw.of rfl (hts _ (lt_in2 (List.mem_of_getElem? (i := 192) rfl))), List.forall_mem_cons.mpr ⟨va_Nw.of rfl (hts _ (lt_in3 (List.mem_of_getElem? (i := 27) rfl))), List.forall_mem_cons.mpr ⟨va_Nw.of rfl (hts _ (lt_in3 (List.mem_of_getElem? (i := 86) rfl))), fun _ h => absurd h List.not_mem_nil⟩⟩⟩
  · exact List.forall_mem_cons.mpr ⟨va_Nc.of (hs _ (by decide +kernel)), List.forall_mem_cons.mpr ⟨va_Nc.of (hs _ (by decide +kernel)), List.forall_mem_cons.mpr ⟨va_Nc.of (hs _ (by decide +kernel)), fun _ h => absurd h List.not_mem_nil⟩⟩⟩
