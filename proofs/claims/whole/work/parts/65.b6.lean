/-! ===== the class: a box, what it tells ===== -/
section MRB
variable (l : Launch) (E : mz_E) {G : mz_G} {O : Nat → Nat} {sz β μ ν : Nat} {f : Nat → Int32} {b cnt g : Nat}
theorem cb_number (hB : mr_B G O sz β μ ν f b cnt g) (w : Nat) (hw : w < 6) : mz_M l E yX0_number cX0_number 2 (some .int) 1 0 0 [.ref β, .int (nI w)] G sz (fun v' G' sz' => v' = some (.int (mx_bt f b w)) ∧ G' = G ∧ sz = sz') := by
  obtain ⟨⟨⟨⟨hK, hO, hs⟩, i0, i1, i2, i3⟩, r4, r5, hne⟩, ⟨t1, t2⟩, c1, c2⟩ := hB
  have k1 := t1.K
  have s1 := t1.s
  have k2 := t2.K
  have s2 := t2.s
  refine mz_start (by decide) (Nat.le_of_ble_eq_true rfl) ?_
  intro p e s m args below meth c hC hret hnm
  refine mz_sn_ok hC tk_X0_number pk_RX0 1 [] rfl (by (repeat' apply And.intro) <;> first | exact True.intro | assumption | (simp only [mz_cm1, mz_c0, mz_c1, mz_c2, mz_c3, mz_c4, mz_c5, mz_c6, mz_c7, mz_c8, mz_c10, mz_c17, mz_c20, mz_c28, mz_c58, mz_c63, mz_c98, mz_c294, mz_c526, mz_c532, mz_c540, mz_c999, mz_c1900, mz_c2403, mz_c29362, mz_c29363, mz_c29364, mz_c29390, mz_c29393, mz_c29394, mz_c29398, mz_c29399, mz_c29400, mz_c29401, nI_add, pk_mul, pk_m1, mz_pp, mz_pq]; done) | omega | (simp only [mz_cm1, mz_c0, mz_c1, mz_c2, mz_c3, mz_c4, mz_c5, mz_c6, mz_c7, mz_c8, mz_c10, mz_c17, mz_c20, mz_c28, mz_c58, mz_c63, mz_c98, mz_c294, mz_c526, mz_c532, mz_c540, mz_c999, mz_c1900, mz_c2403, mz_c29362, mz_c29363, mz_c29364, mz_c29390, mz_c29393, mz_c29394, mz_c29398, mz_c29399, mz_c29400, mz_c29401, nI_add, pk_mul, pk_m1, mz_pp, mz_pq]; congr 1; omega)) ?_
  try simp only [mz_c0, mz_cm1]
  rcases (show w = 0 ∨ w = 1 ∨ w = 2 ∨ w = 3 ∨ w = 4 ∨ w = 5 by omega) with rfl | rfl | rfl | rfl | rfl | rfl
  · refine mz_Vtab (tgt := 36) hC tk_X0_number 0 rfl rfl (by omega) (by decide) rfl (by decide) ?_
    refine mz_sn_ok hC tk_X0_number pk_RX0 2 [] rfl (by (repeat' apply And.intro) <;> first | exact True.intro | assumption | (simp only [mz_cm1, mz_c0, mz_c1, mz_c2, mz_c3, mz_c4, mz_c5, mz_c6, mz_c7, mz_c8, mz_c10, mz_c17, mz_c20, mz_c28, mz_c58, mz_c63, mz_c98, mz_c294, mz_c526, mz_c532, mz_c540, mz_c999, mz_c1900, mz_c2403, mz_c29362, mz_c29363, mz_c29364, mz_c29390, mz_c29393, mz_c29394, mz_c29398, mz_c29399, mz_c29400, mz_c29401, nI_add, pk_mul, pk_m1, mz_pp, mz_pq, i0]; done) | omega | (simp only [mz_cm1, mz_c0, mz_c1, mz_c2, mz_c3, mz_c4, mz_c5, mz_c6, mz_c7, mz_c8, mz_c10, mz_c17, mz_c20, mz_c28, mz_c58, mz_c63, mz_c98, mz_c294, mz_c526, mz_c532, mz_c540, mz_c999, mz_c1900, mz_c2403, mz_c29362, mz_c29363, mz_c29364, mz_c29390, mz_c29393, mz_c29394, mz_c29398, mz_c29399, mz_c29400, mz_c29401, nI_add, pk_mul, pk_m1, mz_pp, mz_pq, i0]; congr 1; omega)) ?_
    try simp only [mz_c0, mz_cm1, i0]
    refine mz_Vireturn hC tk_X0_number rfl hret rfl (Nat.le_of_ble_eq_true rfl) (Nat.le_of_ble_eq_true rfl) ?_
    exact ⟨rfl, rfl, rfl⟩
  · refine mz_Vtab (tgt := 41) hC tk_X0_number 1 rfl rfl (by omega) (by decide) rfl (by decide) ?_
    refine mz_sn_ok hC tk_X0_number pk_RX0 2 [] rfl (by (repeat' apply And.intro) <;> first | exact True.intro | assumption | (simp only [mz_cm1, mz_c0, mz_c1, mz_c2, mz_c3, mz_c4, mz_c5, mz_c6, mz_c7, mz_c8, mz_c10, mz_c17, mz_c20, mz_c28, mz_c58, mz_c63, mz_c98, mz_c294, mz_c526, mz_c532, mz_c540, mz_c999, mz_c1900, mz_c2403, mz_c29362, mz_c29363, mz_c29364, mz_c29390, mz_c29393, mz_c29394, mz_c29398, mz_c29399, mz_c29400, mz_c29401, nI_add, pk_mul, pk_m1, mz_pp, mz_pq, i1]; done) | omega | (simp only [mz_cm1, mz_c0, mz_c1, mz_c2, mz_c3, mz_c4, mz_c5, mz_c6, mz_c7, mz_c8, mz_c10, mz_c17, mz_c20, mz_c28, mz_c58, mz_c63, mz_c98, mz_c294, mz_c526, mz_c532, mz_c540, mz_c999, mz_c1900, mz_c2403, mz_c29362, mz_c29363, mz_c29364, mz_c29390, mz_c29393, mz_c29394, mz_c29398, mz_c29399, mz_c29400, mz_c29401, nI_add, pk_mul, pk_m1, mz_pp, mz_pq, i1]; congr 1; omega)) ?_
    try simp only [mz_c0, mz_cm1, i1]
    refine mz_Vireturn hC tk_X0_number rfl hret rfl (Nat.le_of_ble_eq_true rfl) (Nat.le_of_ble_eq_true rfl) ?_
    exact ⟨rfl, rfl, rfl⟩
  · refine mz_Vtab (tgt := 46) hC tk_X0_number 2 rfl rfl (by omega) (by decide) rfl (by decide) ?_
    refine mz_sn_ok hC tk_X0_number pk_RX0 2 [] rfl (by (repeat' apply And.intro) <;> first | exact True.intro | assumption | (simp only [mz_cm1, mz_c0, mz_c1, mz_c2, mz_c3, mz_c4, mz_c5, mz_c6, mz_c7, mz_c8, mz_c10, mz_c17, mz_c20, mz_c28, mz_c58, mz_c63, mz_c98, mz_c294, mz_c526, mz_c532, mz_c540, mz_c999, mz_c1900, mz_c2403, mz_c29362, mz_c29363, mz_c29364, mz_c29390, mz_c29393, mz_c29394, mz_c29398, mz_c29399, mz_c29400, mz_c29401, nI_add, pk_mul, pk_m1, mz_pp, mz_pq, i2]; done) | omega | (simp only [mz_cm1, mz_c0, mz_c1, mz_c2, mz_c3, mz_c4, mz_c5, mz_c6, mz_c7, mz_c8, mz_c10, mz_c17, mz_c20, mz_c28, mz_c58, mz_c63, mz_c98, mz_c294, mz_c526, mz_c532, mz_c540, mz_c999, mz_c1900, mz_c2403, mz_c29362, mz_c29363, mz_c29364, mz_c29390, mz_c29393, mz_c29394, mz_c29398, mz_c29399, mz_c29400, mz_c29401, nI_add, pk_mul, pk_m1, mz_pp, mz_pq, i2]; congr 1; omega)) ?_
    try simp only [mz_c0, mz_cm1, i2]
    refine mz_Vireturn hC tk_X0_number rfl hret rfl (Nat.le_of_ble_eq_true rfl) (Nat.le_of_ble_eq_true rfl) ?_
    exact ⟨rfl, rfl, rfl⟩
  · refine mz_Vtab (tgt := 51) hC tk_X0_number 3 rfl rfl (by omega) (by decide) rfl (by decide) ?_
    refine mz_sn_ok hC tk_X0_number pk_RX0 3 [μ] rfl (by (repeat' apply And.intro) <;> first | exact True.intro | assumption | (simp only [mz_cm1, mz_c0, mz_c1, mz_c2, mz_c3, mz_c4, mz_c5, mz_c6, mz_c7, mz_c8, mz_c10, mz_c17, mz_c20, mz_c28, mz_c58, mz_c63, mz_c98, mz_c294, mz_c526, mz_c532, mz_c540, mz_c999, mz_c1900, mz_c2403, mz_c29362, mz_c29363, mz_c29364, mz_c29390, mz_c29393, mz_c29394, mz_c29398, mz_c29399, mz_c29400, mz_c29401, nI_add, pk_mul, pk_m1, mz_pp, mz_pq, s1]; done) | omega | (simp only [mz_cm1, mz_c0, mz_c1, mz_c2, mz_c3, mz_c4, mz_c5, mz_c6, mz_c7, mz_c8, mz_c10, mz_c17, mz_c20, mz_c28, mz_c58, mz_c63, mz_c98, mz_c294, mz_c526, mz_c532, mz_c540, mz_c999, mz_c1900, mz_c2403, mz_c29362, mz_c29363, mz_c29364, mz_c29390, mz_c29393, mz_c29394, mz_c29398, mz_c29399, mz_c29400, mz_c29401, nI_add, pk_mul, pk_m1, mz_pp, mz_pq, s1]; congr 1; omega)) ?_
    try simp only [mz_c0, mz_cm1, s1]
    refine mz_Vireturn hC tk_X0_number rfl hret rfl (Nat.le_of_ble_eq_true rfl) (Nat.le_of_ble_eq_true rfl) ?_
    exact ⟨by show _ = some (Value.int (f (98 * b + 17))); rw [c1], rfl, rfl⟩
  · refine mz_Vtab (tgt := 59) hC tk_X0_number 4 rfl rfl (by omega) (by decide) rfl (by decide) ?_
    refine mz_sn_ok hC tk_X0_number pk_RX0 2 [] rfl (by (repeat' apply And.intro) <;> first | exact True.intro | assumption | (simp only [mz_cm1, mz_c0, mz_c1, mz_c2, mz_c3, mz_c4, mz_c5, mz_c6, mz_c7, mz_c8, mz_c10, mz_c17, mz_c20, mz_c28, mz_c58, mz_c63, mz_c98, mz_c294, mz_c526, mz_c532, mz_c540, mz_c999, mz_c1900, mz_c2403, mz_c29362, mz_c29363, mz_c29364, mz_c29390, mz_c29393, mz_c29394, mz_c29398, mz_c29399, mz_c29400, mz_c29401, nI_add, pk_mul, pk_m1, mz_pp, mz_pq, i3]; done) | omega | (simp only [mz_cm1, mz_c0, mz_c1, mz_c2, mz_c3, mz_c4, mz_c5, mz_c6, mz_c7, mz_c8, mz_c10, mz_c17, mz_c20, mz_c28, mz_c58, mz_c63, mz_c98, mz_c294, mz_c526, mz_c532, mz_c540, mz_c999, mz_c1900, mz_c2403, mz_c29362, mz_c29363, mz_c29364, mz_c29390, mz_c29393, mz_c29394, mz_c29398, mz_c29399, mz_c29400, mz_c29401, nI_add, pk_mul, pk_m1, mz_pp, mz_pq, i3]; congr 1; omega)) ?_
    try simp only [mz_c0, mz_cm1, i3]
    refine mz_Vireturn hC tk_X0_number rfl hret rfl (Nat.le_of_ble_eq_true rfl) (Nat.le_of_ble_eq_true rfl) ?_
    exact ⟨rfl, rfl, rfl⟩
  · refine mz_Vtabd (tgt := 64) hC tk_X0_number 5 rfl rfl (by omega) (by decide) (by decide) ?_
    refine mz_sn_ok hC tk_X0_number pk_RX0 3 [ν] rfl (by (repeat' apply And.intro) <;> first | exact True.intro | assumption | (simp only [mz_cm1, mz_c0, mz_c1, mz_c2, mz_c3, mz_c4, mz_c5, mz_c6, mz_c7, mz_c8, mz_c10, mz_c17, mz_c20, mz_c28, mz_c58, mz_c63, mz_c98, mz_c294, mz_c526, mz_c532, mz_c540, mz_c999, mz_c1900, mz_c2403, mz_c29362, mz_c29363, mz_c29364, mz_c29390, mz_c29393, mz_c29394, mz_c29398, mz_c29399, mz_c29400, mz_c29401, nI_add, pk_mul, pk_m1, mz_pp, mz_pq, s2]; done) | omega | (simp only [mz_cm1, mz_c0, mz_c1, mz_c2, mz_c3, mz_c4, mz_c5, mz_c6, mz_c7, mz_c8, mz_c10, mz_c17, mz_c20, mz_c28, mz_c58, mz_c63, mz_c98, mz_c294, mz_c526, mz_c532, mz_c540, mz_c999, mz_c1900, mz_c2403, mz_c29362, mz_c29363, mz_c29364, mz_c29390, mz_c29393, mz_c29394, mz_c29398, mz_c29399, mz_c29400, mz_c29401, nI_add, pk_mul, pk_m1, mz_pp, mz_pq, s2]; congr 1; omega)) ?_
    try simp only [mz_c0, mz_cm1, s2]
    refine mz_Vireturn hC tk_X0_number rfl hret rfl (Nat.le_of_ble_eq_true rfl) (Nat.le_of_ble_eq_true rfl) ?_
    exact ⟨by show _ = some (Value.int (f (98 * b + 4))); rw [c2], rfl, rfl⟩
theorem cb_nameAtMost (hB : mr_B G O sz β μ ν f b cnt g) (v : Int32) : mz_M l E yX0_nameAtMost cX0_nameAtMost 4 (some .int) 2 0 0 [.ref β, .int v] G sz (fun v' G' sz' => v' = some (.int (mx_am (mx_nm f (98 * b + 17)) v cnt)) ∧ G' = G ∧ sz = sz') := by
  obtain ⟨⟨⟨⟨hK, hO, hs⟩, i0, i1, i2, i3⟩, r4, r5, hne⟩, ⟨t1, t2⟩, c1, c2⟩ := hB
  have k1 := t1.K
  have s1 := t1.s
  obtain ⟨c20, -, -⟩ := t1.b
  refine mz_start (by decide) (Nat.le_of_ble_eq_true rfl) ?_
  intro p e s m args below meth c hC hret hnm
  have loop : ∀ (d k : Nat), k + d = cnt → mz_V E p l e (mz_rm 2 0 0) s m args below meth c 4 (0) (0) (mz_Z E below args s 0 0 (fun v' G' sz' => v' = some (.int (mx_am (mx_nm f (98 * b + 17)) v cnt)) ∧ G' = G ∧ sz = sz')) (G) (sz) (4) [some (.ref β), some (.int v), some (.int (mx_am (mx_nm f (98 * b + 17)) v k)), some (.int (nI k))] [] := by
    intro d
    induction d with
    | zero =>
      intro k hk
      rw [show k = cnt by omega]
      refine mz_sn_ok hC tk_X0_nameAtMost pk_RX0 4 [μ] rfl (by (repeat' apply And.intro) <;> first | exact True.intro | assumption | (simp only [mz_cm1, mz_c0, mz_c1, mz_c2, mz_c3, mz_c4, mz_c5, mz_c6, mz_c7, mz_c8, mz_c10, mz_c17, mz_c20, mz_c28, mz_c58, mz_c63, mz_c98, mz_c294, mz_c526, mz_c532, mz_c540, mz_c999, mz_c1900, mz_c2403, mz_c29362, mz_c29363, mz_c29364, mz_c29390, mz_c29393, mz_c29394, mz_c29398, mz_c29399, mz_c29400, mz_c29401, nI_add, pk_mul, pk_m1, mz_pp, mz_pq, s1]; done) | omega | (simp only [mz_cm1, mz_c0, mz_c1, mz_c2, mz_c3, mz_c4, mz_c5, mz_c6, mz_c7, mz_c8, mz_c10, mz_c17, mz_c20, mz_c28, mz_c58, mz_c63, mz_c98, mz_c294, mz_c526, mz_c532, mz_c540, mz_c999, mz_c1900, mz_c2403, mz_c29362, mz_c29363, mz_c29364, mz_c29390, mz_c29393, mz_c29394, mz_c29398, mz_c29399, mz_c29400, mz_c29401, nI_add, pk_mul, pk_m1, mz_pp, mz_pq, s1]; congr 1; omega)) ?_
      try simp only [mz_c0, mz_cm1, s1]
      refine mz_br_t hC tk_X0_nameAtMost rfl ((by show nI cnt ≤ nI cnt; exact nI_le (by omega) (by omega))) ?_
      refine mz_sn_ok hC tk_X0_nameAtMost pk_RX0 1 [] rfl (by (repeat' apply And.intro) <;> first | exact True.intro | assumption | (simp only [mz_cm1, mz_c0, mz_c1, mz_c2, mz_c3, mz_c4, mz_c5, mz_c6, mz_c7, mz_c8, mz_c10, mz_c17, mz_c20, mz_c28, mz_c58, mz_c63, mz_c98, mz_c294, mz_c526, mz_c532, mz_c540, mz_c999, mz_c1900, mz_c2403, mz_c29362, mz_c29363, mz_c29364, mz_c29390, mz_c29393, mz_c29394, mz_c29398, mz_c29399, mz_c29400, mz_c29401, nI_add, pk_mul, pk_m1, mz_pp, mz_pq]; done) | omega | (simp only [mz_cm1, mz_c0, mz_c1, mz_c2, mz_c3, mz_c4, mz_c5, mz_c6, mz_c7, mz_c8, mz_c10, mz_c17, mz_c20, mz_c28, mz_c58, mz_c63, mz_c98, mz_c294, mz_c526, mz_c532, mz_c540, mz_c999, mz_c1900, mz_c2403, mz_c29362, mz_c29363, mz_c29364, mz_c29390, mz_c29393, mz_c29394, mz_c29398, mz_c29399, mz_c29400, mz_c29401, nI_add, pk_mul, pk_m1, mz_pp, mz_pq]; congr 1; omega)) ?_
      try simp only [mz_c0, mz_cm1]
      refine mz_Vireturn hC tk_X0_nameAtMost rfl hret rfl (Nat.le_of_ble_eq_true rfl) (Nat.le_of_ble_eq_true rfl) ?_
      exact ⟨rfl, rfl, rfl⟩
    | succ d ih =>
      intro k hk
      refine mz_sn_ok hC tk_X0_nameAtMost pk_RX0 4 [μ] rfl (by (repeat' apply And.intro) <;> first | exact True.intro | assumption | (simp only [mz_cm1, mz_c0, mz_c1, mz_c2, mz_c3, mz_c4, mz_c5, mz_c6, mz_c7, mz_c8, mz_c10, mz_c17, mz_c20, mz_c28, mz_c58, mz_c63, mz_c98, mz_c294, mz_c526, mz_c532, mz_c540, mz_c999, mz_c1900, mz_c2403, mz_c29362, mz_c29363, mz_c29364, mz_c29390, mz_c29393, mz_c29394, mz_c29398, mz_c29399, mz_c29400, mz_c29401, nI_add, pk_mul, pk_m1, mz_pp, mz_pq, s1]; done) | omega | (simp only [mz_cm1, mz_c0, mz_c1, mz_c2, mz_c3, mz_c4, mz_c5, mz_c6, mz_c7, mz_c8, mz_c10, mz_c17, mz_c20, mz_c28, mz_c58, mz_c63, mz_c98, mz_c294, mz_c526, mz_c532, mz_c540, mz_c999, mz_c1900, mz_c2403, mz_c29362, mz_c29363, mz_c29364, mz_c29390, mz_c29393, mz_c29394, mz_c29398, mz_c29399, mz_c29400, mz_c29401, nI_add, pk_mul, pk_m1, mz_pp, mz_pq, s1]; congr 1; omega)) ?_
      try simp only [mz_c0, mz_cm1, s1]
      refine mz_br_f hC tk_X0_nameAtMost rfl ((by show ¬ nI cnt ≤ nI k; exact nI_ge (by omega) (by omega))) ?_
      refine mz_sn_ok hC tk_X0_nameAtMost pk_RX0 4 [μ] rfl (by (repeat' apply And.intro) <;> first | exact True.intro | assumption | (simp only [mz_cm1, mz_c0, mz_c1, mz_c2, mz_c3, mz_c4, mz_c5, mz_c6, mz_c7, mz_c8, mz_c10, mz_c17, mz_c20, mz_c28, mz_c58, mz_c63, mz_c98, mz_c294, mz_c526, mz_c532, mz_c540, mz_c999, mz_c1900, mz_c2403, mz_c29362, mz_c29363, mz_c29364, mz_c29390, mz_c29393, mz_c29394, mz_c29398, mz_c29399, mz_c29400, mz_c29401, nI_add, pk_mul, pk_m1, mz_pp, mz_pq]; done) | omega | (simp only [mz_cm1, mz_c0, mz_c1, mz_c2, mz_c3, mz_c4, mz_c5, mz_c6, mz_c7, mz_c8, mz_c10, mz_c17, mz_c20, mz_c28, mz_c58, mz_c63, mz_c98, mz_c294, mz_c526, mz_c532, mz_c540, mz_c999, mz_c1900, mz_c2403, mz_c29362, mz_c29363, mz_c29364, mz_c29390, mz_c29393, mz_c29394, mz_c29398, mz_c29399, mz_c29400, mz_c29401, nI_add, pk_mul, pk_m1, mz_pp, mz_pq]; congr 1; omega)) ?_
      try simp only [mz_c0, mz_cm1]
      refine mz_Vcv hC tk_X0_nameAtMost rfl md_X4_cell lk_RX0_39 rfl (ct_cell l E t1 (nI k) (nI 0)) (by show (vwCl[mz_K _ _]?).map _ = _; rw [k1]; rfl) ⟨Nat.le_of_ble_eq_true rfl, Nat.le_of_ble_eq_true rfl⟩ ⟨Nat.le_of_ble_eq_true rfl, Nat.le_of_ble_eq_true rfl⟩ (Nat.le_of_ble_eq_true rfl) (fun v9 G9 sz9 hp9 => ?_)
      obtain ⟨rfl, hG9, hs9⟩ := hp9
      rw [hG9, ← hs9, mt_c_in (show k < cnt by omega) (by omega) (by omega) (by omega)]
      refine mz_sn_ok hC tk_X0_nameAtMost pk_RX0 1 [] rfl (by (repeat' apply And.intro) <;> first | exact True.intro | assumption | (simp only [mz_cm1, mz_c0, mz_c1, mz_c2, mz_c3, mz_c4, mz_c5, mz_c6, mz_c7, mz_c8, mz_c10, mz_c17, mz_c20, mz_c28, mz_c58, mz_c63, mz_c98, mz_c294, mz_c526, mz_c532, mz_c540, mz_c999, mz_c1900, mz_c2403, mz_c29362, mz_c29363, mz_c29364, mz_c29390, mz_c29393, mz_c29394, mz_c29398, mz_c29399, mz_c29400, mz_c29401, nI_add, pk_mul, pk_m1, mz_pp, mz_pq]; done) | omega | (simp only [mz_cm1, mz_c0, mz_c1, mz_c2, mz_c3, mz_c4, mz_c5, mz_c6, mz_c7, mz_c8, mz_c10, mz_c17, mz_c20, mz_c28, mz_c58, mz_c63, mz_c98, mz_c294, mz_c526, mz_c532, mz_c540, mz_c999, mz_c1900, mz_c2403, mz_c29362, mz_c29363, mz_c29364, mz_c29390, mz_c29393, mz_c29394, mz_c29398, mz_c29399, mz_c29400, mz_c29401, nI_add, pk_mul, pk_m1, mz_pp, mz_pq]; congr 1; omega)) ?_
      try simp only [mz_c0, mz_cm1]
      by_cases hle : mx_nm f (98 * b + 17) k ≤ v
      · refine mz_br_f hC tk_X0_nameAtMost rfl ((by show ¬ v < mx_nm f (98 * b + 17) k; exact mz_n_lt hle)) ?_
        refine mz_sn_ok hC tk_X0_nameAtMost pk_RX0 4 [μ] rfl (by (repeat' apply And.intro) <;> first | exact True.intro | assumption | (simp only [mz_cm1, mz_c0, mz_c1, mz_c2, mz_c3, mz_c4, mz_c5, mz_c6, mz_c7, mz_c8, mz_c10, mz_c17, mz_c20, mz_c28, mz_c58, mz_c63, mz_c98, mz_c294, mz_c526, mz_c532, mz_c540, mz_c999, mz_c1900, mz_c2403, mz_c29362, mz_c29363, mz_c29364, mz_c29390, mz_c29393, mz_c29394, mz_c29398, mz_c29399, mz_c29400, mz_c29401, nI_add, pk_mul, pk_m1, mz_pp, mz_pq]; done) | omega | (simp only [mz_cm1, mz_c0, mz_c1, mz_c2, mz_c3, mz_c4, mz_c5, mz_c6, mz_c7, mz_c8, mz_c10, mz_c17, mz_c20, mz_c28, mz_c58, mz_c63, mz_c98, mz_c294, mz_c526, mz_c532, mz_c540, mz_c999, mz_c1900, mz_c2403, mz_c29362, mz_c29363, mz_c29364, mz_c29390, mz_c29393, mz_c29394, mz_c29398, mz_c29399, mz_c29400, mz_c29401, nI_add, pk_mul, pk_m1, mz_pp, mz_pq]; congr 1; omega)) ?_
        try simp only [mz_c0, mz_cm1]
        refine mz_Vcv hC tk_X0_nameAtMost rfl md_X4_cell lk_RX0_39 rfl (ct_cell l E t1 (nI k) (nI 0)) (by show (vwCl[mz_K _ _]?).map _ = _; rw [k1]; rfl) ⟨Nat.le_of_ble_eq_true rfl, Nat.le_of_ble_eq_true rfl⟩ ⟨Nat.le_of_ble_eq_true rfl, Nat.le_of_ble_eq_true rfl⟩ (Nat.le_of_ble_eq_true rfl) (fun v9 G9 sz9 hp9 => ?_)
        obtain ⟨rfl, hG10, hs10⟩ := hp9
        rw [hG10, ← hs10, mt_c_in (show k < cnt by omega) (by omega) (by omega) (by omega)]
        refine mz_sn_ok hC tk_X0_nameAtMost pk_RX0 3 [] rfl (by (repeat' apply And.intro) <;> first | exact True.intro | assumption | (simp only [mz_cm1, mz_c0, mz_c1, mz_c2, mz_c3, mz_c4, mz_c5, mz_c6, mz_c7, mz_c8, mz_c10, mz_c17, mz_c20, mz_c28, mz_c58, mz_c63, mz_c98, mz_c294, mz_c526, mz_c532, mz_c540, mz_c999, mz_c1900, mz_c2403, mz_c29362, mz_c29363, mz_c29364, mz_c29390, mz_c29393, mz_c29394, mz_c29398, mz_c29399, mz_c29400, mz_c29401, nI_add, pk_mul, pk_m1, mz_pp, mz_pq]; done) | omega | (simp only [mz_cm1, mz_c0, mz_c1, mz_c2, mz_c3, mz_c4, mz_c5, mz_c6, mz_c7, mz_c8, mz_c10, mz_c17, mz_c20, mz_c28, mz_c58, mz_c63, mz_c98, mz_c294, mz_c526, mz_c532, mz_c540, mz_c999, mz_c1900, mz_c2403, mz_c29362, mz_c29363, mz_c29364, mz_c29390, mz_c29393, mz_c29394, mz_c29398, mz_c29399, mz_c29400, mz_c29401, nI_add, pk_mul, pk_m1, mz_pp, mz_pq]; congr 1; omega)) ?_
        try simp only [mz_c0, mz_cm1]
        have e1 : mx_am (mx_nm f (98 * b + 17)) v (k + 1) = mx_nm f (98 * b + 17) k := by unfold mx_am; rw [if_pos hle]
        have := ih (k + 1) (by omega)
        rw [e1] at this
        refine mz_V.sub (lv' := [some (.ref β), some (.int v), some (.int (mx_nm f (98 * b + 17) k)), some (.int (nI (k + 1)))]) (by (repeat' apply And.intro) <;> first | with_reducible rfl | exact True.intro | (simp only [mz_cm1, mz_c0, mz_c1, mz_c2, mz_c3, mz_c4, mz_c5, mz_c6, mz_c7, mz_c8, mz_c10, mz_c17, mz_c20, mz_c28, mz_c58, mz_c63, mz_c98, mz_c294, mz_c526, mz_c532, mz_c540, mz_c999, mz_c1900, mz_c2403, mz_c29362, mz_c29363, mz_c29364, mz_c29390, mz_c29393, mz_c29394, mz_c29398, mz_c29399, mz_c29400, mz_c29401, nI_add, pk_mul, pk_m1, mz_pp, mz_pq]; done) | rfl) ?_
        exact this
      · refine mz_br_t hC tk_X0_nameAtMost rfl ((by show v < mx_nm f (98 * b + 17) k; exact mz_lt_n hle)) ?_
        refine mz_sn_ok hC tk_X0_nameAtMost pk_RX0 2 [] rfl (by (repeat' apply And.intro) <;> first | exact True.intro | assumption | (simp only [mz_cm1, mz_c0, mz_c1, mz_c2, mz_c3, mz_c4, mz_c5, mz_c6, mz_c7, mz_c8, mz_c10, mz_c17, mz_c20, mz_c28, mz_c58, mz_c63, mz_c98, mz_c294, mz_c526, mz_c532, mz_c540, mz_c999, mz_c1900, mz_c2403, mz_c29362, mz_c29363, mz_c29364, mz_c29390, mz_c29393, mz_c29394, mz_c29398, mz_c29399, mz_c29400, mz_c29401, nI_add, pk_mul, pk_m1, mz_pp, mz_pq]; done) | omega | (simp only [mz_cm1, mz_c0, mz_c1, mz_c2, mz_c3, mz_c4, mz_c5, mz_c6, mz_c7, mz_c8, mz_c10, mz_c17, mz_c20, mz_c28, mz_c58, mz_c63, mz_c98, mz_c294, mz_c526, mz_c532, mz_c540, mz_c999, mz_c1900, mz_c2403, mz_c29362, mz_c29363, mz_c29364, mz_c29390, mz_c29393, mz_c29394, mz_c29398, mz_c29399, mz_c29400, mz_c29401, nI_add, pk_mul, pk_m1, mz_pp, mz_pq]; congr 1; omega)) ?_
        try simp only [mz_c0, mz_cm1]
        have e1 : mx_am (mx_nm f (98 * b + 17)) v (k + 1) = mx_am (mx_nm f (98 * b + 17)) v k := by conv => lhs; unfold mx_am; rw [if_neg hle]
        have := ih (k + 1) (by omega)
        rw [e1] at this
        refine mz_V.sub (lv' := [some (.ref β), some (.int v), some (.int (mx_am (mx_nm f (98 * b + 17)) v k)), some (.int (nI (k + 1)))]) (by (repeat' apply And.intro) <;> first | with_reducible rfl | exact True.intro | (simp only [mz_cm1, mz_c0, mz_c1, mz_c2, mz_c3, mz_c4, mz_c5, mz_c6, mz_c7, mz_c8, mz_c10, mz_c17, mz_c20, mz_c28, mz_c58, mz_c63, mz_c98, mz_c294, mz_c526, mz_c532, mz_c540, mz_c999, mz_c1900, mz_c2403, mz_c29362, mz_c29363, mz_c29364, mz_c29390, mz_c29393, mz_c29394, mz_c29398, mz_c29399, mz_c29400, mz_c29401, nI_add, pk_mul, pk_m1, mz_pp, mz_pq]; done) | rfl) ?_
        exact this
  refine mz_sn_ok hC tk_X0_nameAtMost pk_RX0 4 [] rfl (by (repeat' apply And.intro) <;> first | exact True.intro | assumption | (simp only [mz_cm1, mz_c0, mz_c1, mz_c2, mz_c3, mz_c4, mz_c5, mz_c6, mz_c7, mz_c8, mz_c10, mz_c17, mz_c20, mz_c28, mz_c58, mz_c63, mz_c98, mz_c294, mz_c526, mz_c532, mz_c540, mz_c999, mz_c1900, mz_c2403, mz_c29362, mz_c29363, mz_c29364, mz_c29390, mz_c29393, mz_c29394, mz_c29398, mz_c29399, mz_c29400, mz_c29401, nI_add, pk_mul, pk_m1, mz_pp, mz_pq]; done) | omega | (simp only [mz_cm1, mz_c0, mz_c1, mz_c2, mz_c3, mz_c4, mz_c5, mz_c6, mz_c7, mz_c8, mz_c10, mz_c17, mz_c20, mz_c28, mz_c58, mz_c63, mz_c98, mz_c294, mz_c526, mz_c532, mz_c540, mz_c999, mz_c1900, mz_c2403, mz_c29362, mz_c29363, mz_c29364, mz_c29390, mz_c29393, mz_c29394, mz_c29398, mz_c29399, mz_c29400, mz_c29401, nI_add, pk_mul, pk_m1, mz_pp, mz_pq]; congr 1; omega)) ?_
  try simp only [mz_c0, mz_cm1]
  refine mz_V.sub (lv' := [some (.ref β), some (.int v), some (.int (-1)), some (.int (nI 0))]) (by (repeat' apply And.intro) <;> first | with_reducible rfl | exact True.intro | (simp only [mz_cm1, mz_c0, mz_c1, mz_c2, mz_c3, mz_c4, mz_c5, mz_c6, mz_c7, mz_c8, mz_c10, mz_c17, mz_c20, mz_c28, mz_c58, mz_c63, mz_c98, mz_c294, mz_c526, mz_c532, mz_c540, mz_c999, mz_c1900, mz_c2403, mz_c29362, mz_c29363, mz_c29364, mz_c29390, mz_c29393, mz_c29394, mz_c29398, mz_c29399, mz_c29400, mz_c29401, nI_add, pk_mul, pk_m1, mz_pp, mz_pq]; done) | rfl) ?_
  exact loop cnt 0 (by omega)
theorem cb_changedAfter (hB : mr_B G O sz β μ ν f b cnt g) (v : Int32) : mz_M l E yX0_nameChangedAfter cX0_nameChangedAfter 5 (some .int) 2 0 0 [.ref β, .int v] G sz (fun v' G' sz' => v' = some (.int (mx_cr f (98 * b + 17) (mx_ca (mx_mk f (98 * b + 17)) v cnt))) ∧ G' = G ∧ sz = sz') := by
  obtain ⟨⟨⟨⟨hK, hO, hs⟩, i0, i1, i2, i3⟩, r4, r5, hne⟩, ⟨t1, t2⟩, c1, c2⟩ := hB
  have k1 := t1.K
  have s1 := t1.s
  obtain ⟨c20, -, -⟩ := t1.b
  have lt : ∀ (k j : Nat), mx_ca (mx_mk f (98 * b + 17)) v k = some j → j < k := by
    intro k
    induction k with
    | zero => intro j h; simp [mx_ca] at h
    | succ k ih =>
      intro j h
      unfold mx_ca at h
      cases hc : mx_ca (mx_mk f (98 * b + 17)) v k with
      | none =>
        rw [hc] at h
        dsimp only at h
        split at h
        · cases h; omega
        · cases h
      | some i =>
        rw [hc] at h
        have := ih i hc
        dsimp only at h
        split at h
        · cases h; omega
        · cases h; omega
  refine mz_start (by decide) (Nat.le_of_ble_eq_true rfl) ?_
  intro p e s m args below meth c hC hret hnm
  have loop : ∀ (d k : Nat) (l4 : Option Value), k + d = cnt → mz_V E p l e (mz_rm 2 0 0) s m args below meth c 5 (0) (0) (mz_Z E below args s 0 0 (fun v' G' sz' => v' = some (.int (mx_cr f (98 * b + 17) (mx_ca (mx_mk f (98 * b + 17)) v cnt))) ∧ G' = G ∧ sz = sz')) (G) (sz) (4) [some (.ref β), some (.int v), some (.int (mx_ci (mx_ca (mx_mk f (98 * b + 17)) v k))), some (.int (nI k)), l4] [] := by
    intro d
    induction d with
    | zero =>
      intro k l4 hk
      rw [show k = cnt by omega]
      refine mz_sn_ok hC tk_X0_nameChangedAfter pk_RX0 4 [μ] rfl (by (repeat' apply And.intro) <;> first | exact True.intro | assumption | (simp only [mz_cm1, mz_c0, mz_c1, mz_c2, mz_c3, mz_c4, mz_c5, mz_c6, mz_c7, mz_c8, mz_c10, mz_c17, mz_c20, mz_c28, mz_c58, mz_c63, mz_c98, mz_c294, mz_c526, mz_c532, mz_c540, mz_c999, mz_c1900, mz_c2403, mz_c29362, mz_c29363, mz_c29364, mz_c29390, mz_c29393, mz_c29394, mz_c29398, mz_c29399, mz_c29400, mz_c29401, nI_add, pk_mul, pk_m1, mz_pp, mz_pq, s1]; done) | omega | (simp only [mz_cm1, mz_c0, mz_c1, mz_c2, mz_c3, mz_c4, mz_c5, mz_c6, mz_c7, mz_c8, mz_c10, mz_c17, mz_c20, mz_c28, mz_c58, mz_c63, mz_c98, mz_c294, mz_c526, mz_c532, mz_c540, mz_c999, mz_c1900, mz_c2403, mz_c29362, mz_c29363, mz_c29364, mz_c29390, mz_c29393, mz_c29394, mz_c29398, mz_c29399, mz_c29400, mz_c29401, nI_add, pk_mul, pk_m1, mz_pp, mz_pq, s1]; congr 1; omega)) ?_
      try simp only [mz_c0, mz_cm1, s1]
      refine mz_br_t hC tk_X0_nameChangedAfter rfl ((by show nI cnt ≤ nI cnt; exact nI_le (by omega) (by omega))) ?_
      refine mz_sn_ok hC tk_X0_nameChangedAfter pk_RX0 4 [μ] rfl (by (repeat' apply And.intro) <;> first | exact True.intro | assumption | (simp only [mz_cm1, mz_c0, mz_c1, mz_c2, mz_c3, mz_c4, mz_c5, mz_c6, mz_c7, mz_c8, mz_c10, mz_c17, mz_c20, mz_c28, mz_c58, mz_c63, mz_c98, mz_c294, mz_c526, mz_c532, mz_c540, mz_c999, mz_c1900, mz_c2403, mz_c29362, mz_c29363, mz_c29364, mz_c29390, mz_c29393, mz_c29394, mz_c29398, mz_c29399, mz_c29400, mz_c29401, nI_add, pk_mul, pk_m1, mz_pp, mz_pq]; done) | omega | (simp only [mz_cm1, mz_c0, mz_c1, mz_c2, mz_c3, mz_c4, mz_c5, mz_c6, mz_c7, mz_c8, mz_c10, mz_c17, mz_c20, mz_c28, mz_c58, mz_c63, mz_c98, mz_c294, mz_c526, mz_c532, mz_c540, mz_c999, mz_c1900, mz_c2403, mz_c29362, mz_c29363, mz_c29364, mz_c29390, mz_c29393, mz_c29394, mz_c29398, mz_c29399, mz_c29400, mz_c29401, nI_add, pk_mul, pk_m1, mz_pp, mz_pq]; congr 1; omega)) ?_
      try simp only [mz_c0, mz_cm1]
      refine mz_Vcv hC tk_X0_nameChangedAfter rfl md_X4_cell lk_RX0_39 rfl (ct_cell l E t1 (mx_ci (mx_ca (mx_mk f (98 * b + 17)) v cnt)) (nI 0)) (by show (vwCl[mz_K _ _]?).map _ = _; rw [k1]; rfl) ⟨Nat.le_of_ble_eq_true rfl, Nat.le_of_ble_eq_true rfl⟩ ⟨Nat.le_of_ble_eq_true rfl, Nat.le_of_ble_eq_true rfl⟩ (Nat.le_of_ble_eq_true rfl) (fun v9 G9 sz9 hp9 => ?_)
      obtain ⟨rfl, hG9, hs9⟩ := hp9
      rw [hG9, ← hs9]
      refine mz_Vireturn hC tk_X0_nameChangedAfter rfl hret rfl (Nat.le_of_ble_eq_true rfl) (Nat.le_of_ble_eq_true rfl) ?_
      refine ⟨?_, rfl, rfl⟩
      cases hc : mx_ca (mx_mk f (98 * b + 17)) v cnt with
      | none => rw [show mx_ci none = -1 from rfl, mt_c_no]; rfl
      | some j => rw [show mx_ci (some j) = nI j from rfl, mt_c_in (lt _ _ hc) (by omega) (by omega) (by omega)]; rfl
    | succ d ih =>
      intro k l4 hk
      refine mz_sn_ok hC tk_X0_nameChangedAfter pk_RX0 4 [μ] rfl (by (repeat' apply And.intro) <;> first | exact True.intro | assumption | (simp only [mz_cm1, mz_c0, mz_c1, mz_c2, mz_c3, mz_c4, mz_c5, mz_c6, mz_c7, mz_c8, mz_c10, mz_c17, mz_c20, mz_c28, mz_c58, mz_c63, mz_c98, mz_c294, mz_c526, mz_c532, mz_c540, mz_c999, mz_c1900, mz_c2403, mz_c29362, mz_c29363, mz_c29364, mz_c29390, mz_c29393, mz_c29394, mz_c29398, mz_c29399, mz_c29400, mz_c29401, nI_add, pk_mul, pk_m1, mz_pp, mz_pq, s1]; done) | omega | (simp only [mz_cm1, mz_c0, mz_c1, mz_c2, mz_c3, mz_c4, mz_c5, mz_c6, mz_c7, mz_c8, mz_c10, mz_c17, mz_c20, mz_c28, mz_c58, mz_c63, mz_c98, mz_c294, mz_c526, mz_c532, mz_c540, mz_c999, mz_c1900, mz_c2403, mz_c29362, mz_c29363, mz_c29364, mz_c29390, mz_c29393, mz_c29394, mz_c29398, mz_c29399, mz_c29400, mz_c29401, nI_add, pk_mul, pk_m1, mz_pp, mz_pq, s1]; congr 1; omega)) ?_
      try simp only [mz_c0, mz_cm1, s1]
      refine mz_br_f hC tk_X0_nameChangedAfter rfl ((by show ¬ nI cnt ≤ nI k; exact nI_ge (by omega) (by omega))) ?_
      refine mz_sn_ok hC tk_X0_nameChangedAfter pk_RX0 4 [μ] rfl (by (repeat' apply And.intro) <;> first | exact True.intro | assumption | (simp only [mz_cm1, mz_c0, mz_c1, mz_c2, mz_c3, mz_c4, mz_c5, mz_c6, mz_c7, mz_c8, mz_c10, mz_c17, mz_c20, mz_c28, mz_c58, mz_c63, mz_c98, mz_c294, mz_c526, mz_c532, mz_c540, mz_c999, mz_c1900, mz_c2403, mz_c29362, mz_c29363, mz_c29364, mz_c29390, mz_c29393, mz_c29394, mz_c29398, mz_c29399, mz_c29400, mz_c29401, nI_add, pk_mul, pk_m1, mz_pp, mz_pq]; done) | omega | (simp only [mz_cm1, mz_c0, mz_c1, mz_c2, mz_c3, mz_c4, mz_c5, mz_c6, mz_c7, mz_c8, mz_c10, mz_c17, mz_c20, mz_c28, mz_c58, mz_c63, mz_c98, mz_c294, mz_c526, mz_c532, mz_c540, mz_c999, mz_c1900, mz_c2403, mz_c29362, mz_c29363, mz_c29364, mz_c29390, mz_c29393, mz_c29394, mz_c29398, mz_c29399, mz_c29400, mz_c29401, nI_add, pk_mul, pk_m1, mz_pp, mz_pq]; congr 1; omega)) ?_
      try simp only [mz_c0, mz_cm1]
      refine mz_Vcv hC tk_X0_nameChangedAfter rfl md_X4_cell lk_RX0_39 rfl (ct_cell l E t1 (nI k) (nI 3)) (by show (vwCl[mz_K _ _]?).map _ = _; rw [k1]; rfl) ⟨Nat.le_of_ble_eq_true rfl, Nat.le_of_ble_eq_true rfl⟩ ⟨Nat.le_of_ble_eq_true rfl, Nat.le_of_ble_eq_true rfl⟩ (Nat.le_of_ble_eq_true rfl) (fun v9 G9 sz9 hp9 => ?_)
      obtain ⟨rfl, hG9, hs9⟩ := hp9
      rw [hG9, ← hs9, mt_c_in (show k < cnt by omega) (by omega) (by omega) (by omega)]
      refine mz_sn_ok hC tk_X0_nameChangedAfter pk_RX0 3 [] rfl (by (repeat' apply And.intro) <;> first | exact True.intro | assumption | (simp only [mz_cm1, mz_c0, mz_c1, mz_c2, mz_c3, mz_c4, mz_c5, mz_c6, mz_c7, mz_c8, mz_c10, mz_c17, mz_c20, mz_c28, mz_c58, mz_c63, mz_c98, mz_c294, mz_c526, mz_c532, mz_c540, mz_c999, mz_c1900, mz_c2403, mz_c29362, mz_c29363, mz_c29364, mz_c29390, mz_c29393, mz_c29394, mz_c29398, mz_c29399, mz_c29400, mz_c29401, nI_add, pk_mul, pk_m1, mz_pp, mz_pq]; done) | omega | (simp only [mz_cm1, mz_c0, mz_c1, mz_c2, mz_c3, mz_c4, mz_c5, mz_c6, mz_c7, mz_c8, mz_c10, mz_c17, mz_c20, mz_c28, mz_c58, mz_c63, mz_c98, mz_c294, mz_c526, mz_c532, mz_c540, mz_c999, mz_c1900, mz_c2403, mz_c29362, mz_c29363, mz_c29364, mz_c29390, mz_c29393, mz_c29394, mz_c29398, mz_c29399, mz_c29400, mz_c29401, nI_add, pk_mul, pk_m1, mz_pp, mz_pq]; congr 1; omega)) ?_
      try simp only [mz_c0, mz_cm1]
      have keep : mx_ca (mx_mk f (98 * b + 17)) v (k + 1) = mx_ca (mx_mk f (98 * b + 17)) v k → mz_V E p l e (mz_rm 2 0 0) s m args below meth c 5 (0) (0) (mz_Z E below args s 0 0 (fun v' G' sz' => v' = some (.int (mx_cr f (98 * b + 17) (mx_ca (mx_mk f (98 * b + 17)) v cnt))) ∧ G' = G ∧ sz = sz')) (G) (sz) (53) [some (.ref β), some (.int v), some (.int (mx_ci (mx_ca (mx_mk f (98 * b + 17)) v k))), some (.int (nI k)), some (.int (mx_mk f (98 * b + 17) k))] [] := by
        intro e1
        refine mz_sn_ok hC tk_X0_nameChangedAfter pk_RX0 2 [] rfl (by (repeat' apply And.intro) <;> first | exact True.intro | assumption | (simp only [mz_cm1, mz_c0, mz_c1, mz_c2, mz_c3, mz_c4, mz_c5, mz_c6, mz_c7, mz_c8, mz_c10, mz_c17, mz_c20, mz_c28, mz_c58, mz_c63, mz_c98, mz_c294, mz_c526, mz_c532, mz_c540, mz_c999, mz_c1900, mz_c2403, mz_c29362, mz_c29363, mz_c29364, mz_c29390, mz_c29393, mz_c29394, mz_c29398, mz_c29399, mz_c29400, mz_c29401, nI_add, pk_mul, pk_m1, mz_pp, mz_pq]; done) | omega | (simp only [mz_cm1, mz_c0, mz_c1, mz_c2, mz_c3, mz_c4, mz_c5, mz_c6, mz_c7, mz_c8, mz_c10, mz_c17, mz_c20, mz_c28, mz_c58, mz_c63, mz_c98, mz_c294, mz_c526, mz_c532, mz_c540, mz_c999, mz_c1900, mz_c2403, mz_c29362, mz_c29363, mz_c29364, mz_c29390, mz_c29393, mz_c29394, mz_c29398, mz_c29399, mz_c29400, mz_c29401, nI_add, pk_mul, pk_m1, mz_pp, mz_pq]; congr 1; omega)) ?_
        try simp only [mz_c0, mz_cm1]
        have := ih (k + 1) none (by omega)
        rw [e1] at this
        refine mz_V.sub (lv' := [some (.ref β), some (.int v), some (.int (mx_ci (mx_ca (mx_mk f (98 * b + 17)) v k))), some (.int (nI (k + 1))), none]) (by (repeat' apply And.intro) <;> first | with_reducible rfl | exact True.intro | (simp only [mz_cm1, mz_c0, mz_c1, mz_c2, mz_c3, mz_c4, mz_c5, mz_c6, mz_c7, mz_c8, mz_c10, mz_c17, mz_c20, mz_c28, mz_c58, mz_c63, mz_c98, mz_c294, mz_c526, mz_c532, mz_c540, mz_c999, mz_c1900, mz_c2403, mz_c29362, mz_c29363, mz_c29364, mz_c29390, mz_c29393, mz_c29394, mz_c29398, mz_c29399, mz_c29400, mz_c29401, nI_add, pk_mul, pk_m1, mz_pp, mz_pq]; done) | rfl) ?_
        exact this
      have take : mx_ca (mx_mk f (98 * b + 17)) v (k + 1) = some k → mz_V E p l e (mz_rm 2 0 0) s m args below meth c 5 (0) (0) (mz_Z E below args s 0 0 (fun v' G' sz' => v' = some (.int (mx_cr f (98 * b + 17) (mx_ca (mx_mk f (98 * b + 17)) v cnt))) ∧ G' = G ∧ sz = sz')) (G) (sz) (51) [some (.ref β), some (.int v), some (.int (mx_ci (mx_ca (mx_mk f (98 * b + 17)) v k))), some (.int (nI k)), some (.int (mx_mk f (98 * b + 17) k))] [] := by
        intro e1
        refine mz_sn_ok hC tk_X0_nameChangedAfter pk_RX0 4 [] rfl (by (repeat' apply And.intro) <;> first | exact True.intro | assumption | (simp only [mz_cm1, mz_c0, mz_c1, mz_c2, mz_c3, mz_c4, mz_c5, mz_c6, mz_c7, mz_c8, mz_c10, mz_c17, mz_c20, mz_c28, mz_c58, mz_c63, mz_c98, mz_c294, mz_c526, mz_c532, mz_c540, mz_c999, mz_c1900, mz_c2403, mz_c29362, mz_c29363, mz_c29364, mz_c29390, mz_c29393, mz_c29394, mz_c29398, mz_c29399, mz_c29400, mz_c29401, nI_add, pk_mul, pk_m1, mz_pp, mz_pq]; done) | omega | (simp only [mz_cm1, mz_c0, mz_c1, mz_c2, mz_c3, mz_c4, mz_c5, mz_c6, mz_c7, mz_c8, mz_c10, mz_c17, mz_c20, mz_c28, mz_c58, mz_c63, mz_c98, mz_c294, mz_c526, mz_c532, mz_c540, mz_c999, mz_c1900, mz_c2403, mz_c29362, mz_c29363, mz_c29364, mz_c29390, mz_c29393, mz_c29394, mz_c29398, mz_c29399, mz_c29400, mz_c29401, nI_add, pk_mul, pk_m1, mz_pp, mz_pq]; congr 1; omega)) ?_
        try simp only [mz_c0, mz_cm1]
        have := ih (k + 1) none (by omega)
        rw [e1] at this
        refine mz_V.sub (lv' := [some (.ref β), some (.int v), some (.int (nI k)), some (.int (nI (k + 1))), none]) (by (repeat' apply And.intro) <;> first | with_reducible rfl | exact True.intro | (simp only [mz_cm1, mz_c0, mz_c1, mz_c2, mz_c3, mz_c4, mz_c5, mz_c6, mz_c7, mz_c8, mz_c10, mz_c17, mz_c20, mz_c28, mz_c58, mz_c63, mz_c98, mz_c294, mz_c526, mz_c532, mz_c540, mz_c999, mz_c1900, mz_c2403, mz_c29362, mz_c29363, mz_c29364, mz_c29390, mz_c29393, mz_c29394, mz_c29398, mz_c29399, mz_c29400, mz_c29401, nI_add, pk_mul, pk_m1, mz_pp, mz_pq]; done) | rfl) ?_
        exact this
      by_cases hle : mx_mk f (98 * b + 17) k ≤ v
      · refine mz_br_t hC tk_X0_nameChangedAfter rfl ((by show mx_mk f (98 * b + 17) k ≤ v; exact hle)) ?_
        refine keep ?_
        conv => lhs; unfold mx_ca
        cases mx_ca (mx_mk f (98 * b + 17)) v k with
        | none => dsimp only; rw [if_neg (mz_n_lt hle)]
        | some j => dsimp only; rw [if_neg (fun z => mz_n_lt hle z.1)]
      · refine mz_br_f hC tk_X0_nameChangedAfter rfl ((by show ¬ mx_mk f (98 * b + 17) k ≤ v; exact hle)) ?_
        refine mz_sn_ok hC tk_X0_nameChangedAfter pk_RX0 2 [] rfl (by (repeat' apply And.intro) <;> first | exact True.intro | assumption | (simp only [mz_cm1, mz_c0, mz_c1, mz_c2, mz_c3, mz_c4, mz_c5, mz_c6, mz_c7, mz_c8, mz_c10, mz_c17, mz_c20, mz_c28, mz_c58, mz_c63, mz_c98, mz_c294, mz_c526, mz_c532, mz_c540, mz_c999, mz_c1900, mz_c2403, mz_c29362, mz_c29363, mz_c29364, mz_c29390, mz_c29393, mz_c29394, mz_c29398, mz_c29399, mz_c29400, mz_c29401, nI_add, pk_mul, pk_m1, mz_pp, mz_pq]; done) | omega | (simp only [mz_cm1, mz_c0, mz_c1, mz_c2, mz_c3, mz_c4, mz_c5, mz_c6, mz_c7, mz_c8, mz_c10, mz_c17, mz_c20, mz_c28, mz_c58, mz_c63, mz_c98, mz_c294, mz_c526, mz_c532, mz_c540, mz_c999, mz_c1900, mz_c2403, mz_c29362, mz_c29363, mz_c29364, mz_c29390, mz_c29393, mz_c29394, mz_c29398, mz_c29399, mz_c29400, mz_c29401, nI_add, pk_mul, pk_m1, mz_pp, mz_pq]; congr 1; omega)) ?_
        try simp only [mz_c0, mz_cm1]
        cases hc : mx_ca (mx_mk f (98 * b + 17)) v k with
        | none =>
          rw [hc] at take
          refine mz_br_t hC tk_X0_nameChangedAfter rfl ((by show (-1 : Int32) = mz_c (-1); exact mz_cm1.symm)) ?_
          refine take ?_
          unfold mx_ca
          rw [hc]
          dsimp only
          rw [if_pos (mz_lt_n hle)]
        | some j =>
          rw [hc] at take keep
          have hj := lt _ _ hc
          refine mz_br_f hC tk_X0_nameChangedAfter rfl ((by show ¬ nI j = mz_c (-1); rw [mz_cm1]; exact fun z => by have h0 := mz_nn j (by omega); rw [z] at h0; exact absurd h0 (by decide))) ?_
          refine mz_sn_ok hC tk_X0_nameChangedAfter pk_RX0 5 [μ] rfl (by (repeat' apply And.intro) <;> first | exact True.intro | assumption | (simp only [mz_cm1, mz_c0, mz_c1, mz_c2, mz_c3, mz_c4, mz_c5, mz_c6, mz_c7, mz_c8, mz_c10, mz_c17, mz_c20, mz_c28, mz_c58, mz_c63, mz_c98, mz_c294, mz_c526, mz_c532, mz_c540, mz_c999, mz_c1900, mz_c2403, mz_c29362, mz_c29363, mz_c29364, mz_c29390, mz_c29393, mz_c29394, mz_c29398, mz_c29399, mz_c29400, mz_c29401, nI_add, pk_mul, pk_m1, mz_pp, mz_pq]; done) | omega | (simp only [mz_cm1, mz_c0, mz_c1, mz_c2, mz_c3, mz_c4, mz_c5, mz_c6, mz_c7, mz_c8, mz_c10, mz_c17, mz_c20, mz_c28, mz_c58, mz_c63, mz_c98, mz_c294, mz_c526, mz_c532, mz_c540, mz_c999, mz_c1900, mz_c2403, mz_c29362, mz_c29363, mz_c29364, mz_c29390, mz_c29393, mz_c29394, mz_c29398, mz_c29399, mz_c29400, mz_c29401, nI_add, pk_mul, pk_m1, mz_pp, mz_pq]; congr 1; omega)) ?_
          try simp only [mz_c0, mz_cm1]
          refine mz_Vcv hC tk_X0_nameChangedAfter rfl md_X4_cell lk_RX0_39 rfl (ct_cell l E t1 (nI j) (nI 3)) (by show (vwCl[mz_K _ _]?).map _ = _; rw [k1]; rfl) ⟨Nat.le_of_ble_eq_true rfl, Nat.le_of_ble_eq_true rfl⟩ ⟨Nat.le_of_ble_eq_true rfl, Nat.le_of_ble_eq_true rfl⟩ (Nat.le_of_ble_eq_true rfl) (fun v9 G9 sz9 hp9 => ?_)
          obtain ⟨rfl, hG10, hs10⟩ := hp9
          rw [hG10, ← hs10, mt_c_in (show j < cnt by omega) (by omega) (by omega) (by omega)]
          by_cases hlt : mx_mk f (98 * b + 17) k < mx_mk f (98 * b + 17) j
          · refine mz_br_f hC tk_X0_nameChangedAfter rfl ((by show ¬ mx_mk f (98 * b + 17) j ≤ mx_mk f (98 * b + 17) k; exact mz_lt_nle hlt)) ?_
            refine take ?_
            unfold mx_ca
            rw [hc]
            dsimp only
            rw [if_pos ⟨mz_lt_n hle, hlt⟩]
          · refine mz_br_t hC tk_X0_nameChangedAfter rfl ((by show mx_mk f (98 * b + 17) j ≤ mx_mk f (98 * b + 17) k; rw [mz_ltI] at hlt; rw [mz_leI]; omega)) ?_
            refine keep ?_
            unfold mx_ca
            rw [hc]
            dsimp only
            rw [if_neg (fun z => hlt z.2)]
  refine mz_sn_ok hC tk_X0_nameChangedAfter pk_RX0 4 [] rfl (by (repeat' apply And.intro) <;> first | exact True.intro | assumption | (simp only [mz_cm1, mz_c0, mz_c1, mz_c2, mz_c3, mz_c4, mz_c5, mz_c6, mz_c7, mz_c8, mz_c10, mz_c17, mz_c20, mz_c28, mz_c58, mz_c63, mz_c98, mz_c294, mz_c526, mz_c532, mz_c540, mz_c999, mz_c1900, mz_c2403, mz_c29362, mz_c29363, mz_c29364, mz_c29390, mz_c29393, mz_c29394, mz_c29398, mz_c29399, mz_c29400, mz_c29401, nI_add, pk_mul, pk_m1, mz_pp, mz_pq]; done) | omega | (simp only [mz_cm1, mz_c0, mz_c1, mz_c2, mz_c3, mz_c4, mz_c5, mz_c6, mz_c7, mz_c8, mz_c10, mz_c17, mz_c20, mz_c28, mz_c58, mz_c63, mz_c98, mz_c294, mz_c526, mz_c532, mz_c540, mz_c999, mz_c1900, mz_c2403, mz_c29362, mz_c29363, mz_c29364, mz_c29390, mz_c29393, mz_c29394, mz_c29398, mz_c29399, mz_c29400, mz_c29401, nI_add, pk_mul, pk_m1, mz_pp, mz_pq]; congr 1; omega)) ?_
  try simp only [mz_c0, mz_cm1]
  refine mz_V.sub (lv' := [some (.ref β), some (.int v), some (.int (-1)), some (.int (nI 0)), none]) (by (repeat' apply And.intro) <;> first | with_reducible rfl | exact True.intro | (simp only [mz_cm1, mz_c0, mz_c1, mz_c2, mz_c3, mz_c4, mz_c5, mz_c6, mz_c7, mz_c8, mz_c10, mz_c17, mz_c20, mz_c28, mz_c58, mz_c63, mz_c98, mz_c294, mz_c526, mz_c532, mz_c540, mz_c999, mz_c1900, mz_c2403, mz_c29362, mz_c29363, mz_c29364, mz_c29390, mz_c29393, mz_c29394, mz_c29398, mz_c29399, mz_c29400, mz_c29401, nI_add, pk_mul, pk_m1, mz_pp, mz_pq]; done) | rfl) ?_
  exact loop cnt 0 none (by omega)
theorem cb_mixInto (hB : mr_B G O sz β μ ν f b cnt g) (h : Int64) : mz_M l E yX0_mixInto cX0_mixInto 6 (some .long) 3 0 0 [.ref β, .long h] G sz (fun v' G' sz' => v' = some (.long (mx_hB f b cnt g h)) ∧ G' = G ∧ sz = sz') := by
  have hB0 := hB
  obtain ⟨⟨⟨⟨hK, hO, hs⟩, i0, i1, i2, i3⟩, r4, r5, hne⟩, ⟨t1, t2⟩, c1, c2⟩ := hB
  have k1 := t1.K
  have k2 := t2.K
  refine mz_start (by decide) (Nat.le_of_ble_eq_true rfl) ?_
  intro p e s m args below meth c hC hret hnm
  have loop : ∀ (d w : Nat), w + d = 6 → mz_V E p l e (mz_rm 3 0 0) s m args below meth c 6 (0) (0) (mz_Z E below args s 0 0 (fun v' G' sz' => v' = some (.long (mx_hB f b cnt g h)) ∧ G' = G ∧ sz = sz')) (G) (sz) (5) [some (.ref β), some (.long h), none, some (.long (mx_h6 f b h w)), none, some (.int (nI w))] [] := by
    intro d
    induction d with
    | zero =>
      intro w hw
      rw [show w = 6 by omega]
      refine mz_sn_ok hC tk_X0_mixInto pk_RX0 2 [] rfl (by (repeat' apply And.intro) <;> first | exact True.intro | assumption | (simp only [mz_cm1, mz_c0, mz_c1, mz_c2, mz_c3, mz_c4, mz_c5, mz_c6, mz_c7, mz_c8, mz_c10, mz_c17, mz_c20, mz_c28, mz_c58, mz_c63, mz_c98, mz_c294, mz_c526, mz_c532, mz_c540, mz_c999, mz_c1900, mz_c2403, mz_c29362, mz_c29363, mz_c29364, mz_c29390, mz_c29393, mz_c29394, mz_c29398, mz_c29399, mz_c29400, mz_c29401, nI_add, pk_mul, pk_m1, mz_pp, mz_pq]; done) | omega | (simp only [mz_cm1, mz_c0, mz_c1, mz_c2, mz_c3, mz_c4, mz_c5, mz_c6, mz_c7, mz_c8, mz_c10, mz_c17, mz_c20, mz_c28, mz_c58, mz_c63, mz_c98, mz_c294, mz_c526, mz_c532, mz_c540, mz_c999, mz_c1900, mz_c2403, mz_c29362, mz_c29363, mz_c29364, mz_c29390, mz_c29393, mz_c29394, mz_c29398, mz_c29399, mz_c29400, mz_c29401, nI_add, pk_mul, pk_m1, mz_pp, mz_pq]; congr 1; omega)) ?_
      try simp only [mz_c0, mz_cm1]
      refine mz_br_t hC tk_X0_mixInto rfl ((by show nI 5 < nI 6; exact nI_lt (by omega) (by omega))) ?_
      refine mz_sn_ok hC tk_X0_mixInto pk_RX0 5 [ν, μ] rfl (by (repeat' apply And.intro) <;> first | exact True.intro | assumption | (simp only [mz_cm1, mz_c0, mz_c1, mz_c2, mz_c3, mz_c4, mz_c5, mz_c6, mz_c7, mz_c8, mz_c10, mz_c17, mz_c20, mz_c28, mz_c58, mz_c63, mz_c98, mz_c294, mz_c526, mz_c532, mz_c540, mz_c999, mz_c1900, mz_c2403, mz_c29362, mz_c29363, mz_c29364, mz_c29390, mz_c29393, mz_c29394, mz_c29398, mz_c29399, mz_c29400, mz_c29401, nI_add, pk_mul, pk_m1, mz_pp, mz_pq]; done) | omega | (simp only [mz_cm1, mz_c0, mz_c1, mz_c2, mz_c3, mz_c4, mz_c5, mz_c6, mz_c7, mz_c8, mz_c10, mz_c17, mz_c20, mz_c28, mz_c58, mz_c63, mz_c98, mz_c294, mz_c526, mz_c532, mz_c540, mz_c999, mz_c1900, mz_c2403, mz_c29362, mz_c29363, mz_c29364, mz_c29390, mz_c29393, mz_c29394, mz_c29398, mz_c29399, mz_c29400, mz_c29401, nI_add, pk_mul, pk_m1, mz_pp, mz_pq]; congr 1; omega)) ?_
      try simp only [mz_c0, mz_cm1]
      refine mz_Vcv hC tk_X0_mixInto rfl md_X4_mixInto lk_RX0_73 rfl (ct_mixInto l E t1 (mx_h6 f b h 6) f (98 * b + 17) (fun k j _ _ => by show f _ = f _; congr 1; omega)) (by show (vwCl[mz_K _ _]?).map _ = _; rw [k1]; rfl) ⟨Nat.le_of_ble_eq_true rfl, Nat.le_of_ble_eq_true rfl⟩ ⟨Nat.le_of_ble_eq_true rfl, Nat.le_of_ble_eq_true rfl⟩ (Nat.le_of_ble_eq_true rfl) (fun v9 G9 sz9 hp9 => ?_)
      obtain ⟨rfl, hG9, hs9⟩ := hp9
      rw [hG9, ← hs9]
      refine mz_Vcv hC tk_X0_mixInto rfl md_X4_mixInto lk_RX0_73 rfl (ct_mixInto l E t2 (mx_ml f (98 * b + 17) (mx_h6 f b h 6) (cnt * 4)) f (98 * b + 4) (fun k j _ _ => by show f _ = f _; congr 1; omega)) (by show (vwCl[mz_K _ _]?).map _ = _; rw [k2]; rfl) ⟨Nat.le_of_ble_eq_true rfl, Nat.le_of_ble_eq_true rfl⟩ ⟨Nat.le_of_ble_eq_true rfl, Nat.le_of_ble_eq_true rfl⟩ (Nat.le_of_ble_eq_true rfl) (fun v9 G9 sz9 hp9 => ?_)
      obtain ⟨rfl, hG10, hs10⟩ := hp9
      rw [hG10, ← hs10]
      refine mz_Vlreturn hC tk_X0_mixInto rfl hret (Nat.le_of_ble_eq_true rfl) (Nat.le_of_ble_eq_true rfl) ?_
      exact ⟨by unfold mx_hB; rw [Nat.mul_comm cnt 4, Nat.mul_comm g 2], rfl, rfl⟩
    | succ d ih =>
      intro w hw
      refine mz_sn_ok hC tk_X0_mixInto pk_RX0 2 [] rfl (by (repeat' apply And.intro) <;> first | exact True.intro | assumption | (simp only [mz_cm1, mz_c0, mz_c1, mz_c2, mz_c3, mz_c4, mz_c5, mz_c6, mz_c7, mz_c8, mz_c10, mz_c17, mz_c20, mz_c28, mz_c58, mz_c63, mz_c98, mz_c294, mz_c526, mz_c532, mz_c540, mz_c999, mz_c1900, mz_c2403, mz_c29362, mz_c29363, mz_c29364, mz_c29390, mz_c29393, mz_c29394, mz_c29398, mz_c29399, mz_c29400, mz_c29401, nI_add, pk_mul, pk_m1, mz_pp, mz_pq]; done) | omega | (simp only [mz_cm1, mz_c0, mz_c1, mz_c2, mz_c3, mz_c4, mz_c5, mz_c6, mz_c7, mz_c8, mz_c10, mz_c17, mz_c20, mz_c28, mz_c58, mz_c63, mz_c98, mz_c294, mz_c526, mz_c532, mz_c540, mz_c999, mz_c1900, mz_c2403, mz_c29362, mz_c29363, mz_c29364, mz_c29390, mz_c29393, mz_c29394, mz_c29398, mz_c29399, mz_c29400, mz_c29401, nI_add, pk_mul, pk_m1, mz_pp, mz_pq]; congr 1; omega)) ?_
      try simp only [mz_c0, mz_cm1]
      refine mz_br_f hC tk_X0_mixInto rfl ((by show ¬ nI 5 < nI w; exact nI_nlt (by omega) (by omega))) ?_
      refine mz_sn_ok hC tk_X0_mixInto pk_RX0 5 [] rfl (by (repeat' apply And.intro) <;> first | exact True.intro | assumption | (simp only [mz_cm1, mz_c0, mz_c1, mz_c2, mz_c3, mz_c4, mz_c5, mz_c6, mz_c7, mz_c8, mz_c10, mz_c17, mz_c20, mz_c28, mz_c58, mz_c63, mz_c98, mz_c294, mz_c526, mz_c532, mz_c540, mz_c999, mz_c1900, mz_c2403, mz_c29362, mz_c29363, mz_c29364, mz_c29390, mz_c29393, mz_c29394, mz_c29398, mz_c29399, mz_c29400, mz_c29401, nI_add, pk_mul, pk_m1, mz_pp, mz_pq]; done) | omega | (simp only [mz_cm1, mz_c0, mz_c1, mz_c2, mz_c3, mz_c4, mz_c5, mz_c6, mz_c7, mz_c8, mz_c10, mz_c17, mz_c20, mz_c28, mz_c58, mz_c63, mz_c98, mz_c294, mz_c526, mz_c532, mz_c540, mz_c999, mz_c1900, mz_c2403, mz_c29362, mz_c29363, mz_c29364, mz_c29390, mz_c29393, mz_c29394, mz_c29398, mz_c29399, mz_c29400, mz_c29401, nI_add, pk_mul, pk_m1, mz_pp, mz_pq]; congr 1; omega)) ?_
      try simp only [mz_c0, mz_cm1]
      refine mz_Vcv hC tk_X0_mixInto rfl md_X0_number lk_RX0_69 rfl (cb_number l E hB0 w (by omega)) (by show (vwCl[mz_K _ _]?).map _ = _; rw [hK]; rfl) ⟨Nat.le_of_ble_eq_true rfl, Nat.le_of_ble_eq_true rfl⟩ ⟨Nat.le_of_ble_eq_true rfl, Nat.le_of_ble_eq_true rfl⟩ (Nat.le_of_ble_eq_true rfl) (fun v9 G9 sz9 hp9 => ?_)
      obtain ⟨rfl, hG9, hs9⟩ := hp9
      rw [hG9, ← hs9]
      refine mz_sn_ok hC tk_X0_mixInto pk_RX0 5 [] rfl (by (repeat' apply And.intro) <;> first | exact True.intro | assumption | (simp only [mz_cm1, mz_c0, mz_c1, mz_c2, mz_c3, mz_c4, mz_c5, mz_c6, mz_c7, mz_c8, mz_c10, mz_c17, mz_c20, mz_c28, mz_c58, mz_c63, mz_c98, mz_c294, mz_c526, mz_c532, mz_c540, mz_c999, mz_c1900, mz_c2403, mz_c29362, mz_c29363, mz_c29364, mz_c29390, mz_c29393, mz_c29394, mz_c29398, mz_c29399, mz_c29400, mz_c29401, nI_add, pk_mul, pk_m1, mz_pp, mz_pq]; done) | omega | (simp only [mz_cm1, mz_c0, mz_c1, mz_c2, mz_c3, mz_c4, mz_c5, mz_c6, mz_c7, mz_c8, mz_c10, mz_c17, mz_c20, mz_c28, mz_c58, mz_c63, mz_c98, mz_c294, mz_c526, mz_c532, mz_c540, mz_c999, mz_c1900, mz_c2403, mz_c29362, mz_c29363, mz_c29364, mz_c29390, mz_c29393, mz_c29394, mz_c29398, mz_c29399, mz_c29400, mz_c29401, nI_add, pk_mul, pk_m1, mz_pp, mz_pq]; congr 1; omega)) ?_
      try simp only [mz_c0, mz_cm1]
      refine mz_V.sub (lv' := [some (.ref β), some (.long h), none, some (.long (mx_h6 f b h (w + 1))), none, some (.int (nI (w + 1)))]) (by (repeat' apply And.intro) <;> first | with_reducible rfl | exact True.intro | (simp only [mz_cm1, mz_c0, mz_c1, mz_c2, mz_c3, mz_c4, mz_c5, mz_c6, mz_c7, mz_c8, mz_c10, mz_c17, mz_c20, mz_c28, mz_c58, mz_c63, mz_c98, mz_c294, mz_c526, mz_c532, mz_c540, mz_c999, mz_c1900, mz_c2403, mz_c29362, mz_c29363, mz_c29364, mz_c29390, mz_c29393, mz_c29394, mz_c29398, mz_c29399, mz_c29400, mz_c29401, nI_add, pk_mul, pk_m1, mz_pp, mz_pq]; done) | rfl) ?_
      exact ih (w + 1) (by omega)
  refine mz_sn_ok hC tk_X0_mixInto pk_RX0 4 [] rfl (by (repeat' apply And.intro) <;> first | exact True.intro | assumption | (simp only [mz_cm1, mz_c0, mz_c1, mz_c2, mz_c3, mz_c4, mz_c5, mz_c6, mz_c7, mz_c8, mz_c10, mz_c17, mz_c20, mz_c28, mz_c58, mz_c63, mz_c98, mz_c294, mz_c526, mz_c532, mz_c540, mz_c999, mz_c1900, mz_c2403, mz_c29362, mz_c29363, mz_c29364, mz_c29390, mz_c29393, mz_c29394, mz_c29398, mz_c29399, mz_c29400, mz_c29401, nI_add, pk_mul, pk_m1, mz_pp, mz_pq]; done) | omega | (simp only [mz_cm1, mz_c0, mz_c1, mz_c2, mz_c3, mz_c4, mz_c5, mz_c6, mz_c7, mz_c8, mz_c10, mz_c17, mz_c20, mz_c28, mz_c58, mz_c63, mz_c98, mz_c294, mz_c526, mz_c532, mz_c540, mz_c999, mz_c1900, mz_c2403, mz_c29362, mz_c29363, mz_c29364, mz_c29390, mz_c29393, mz_c29394, mz_c29398, mz_c29399, mz_c29400, mz_c29401, nI_add, pk_mul, pk_m1, mz_pp, mz_pq]; congr 1; omega)) ?_
  try simp only [mz_c0, mz_cm1]
  refine mz_V.sub (lv' := [some (.ref β), some (.long h), none, some (.long (mx_h6 f b h 0)), none, some (.int (nI 0))]) (by (repeat' apply And.intro) <;> first | with_reducible rfl | exact True.intro | (simp only [mz_cm1, mz_c0, mz_c1, mz_c2, mz_c3, mz_c4, mz_c5, mz_c6, mz_c7, mz_c8, mz_c10, mz_c17, mz_c20, mz_c28, mz_c58, mz_c63, mz_c98, mz_c294, mz_c526, mz_c532, mz_c540, mz_c999, mz_c1900, mz_c2403, mz_c29362, mz_c29363, mz_c29364, mz_c29390, mz_c29393, mz_c29394, mz_c29398, mz_c29399, mz_c29400, mz_c29401, nI_add, pk_mul, pk_m1, mz_pp, mz_pq]; done) | rfl) ?_
  exact loop 6 0 (by omega)
theorem cb_takeFrom (hB : mr_B G O sz β μ ν f b cnt g) {β' μ' ν' cnt' g' : Nat} {f' : Nat → Int32} (hB' : mr_B G O sz β' μ' ν' f' b cnt' g') (h1 : β ≠ β') (h2 : μ ≠ μ' ∧ μ ≠ ν') (h3 : ν ≠ μ' ∧ ν ≠ ν') : mz_M l E yX0_takeFrom cX0_takeFrom 2 none 4 0 0 [.ref β, .ref β'] G sz (fun v' G' sz' => v' = none ∧ sz = sz' ∧ ∃ O', mr_B G' O' sz β μ ν f' b cnt' g' ∧ mt_F (mr_X β μ ν) G G' O O' sz sz) := by
  obtain ⟨n1, n2, n3⟩ := hB.ne
  obtain ⟨n1', n2', n3'⟩ := hB'.ne
  obtain ⟨⟨⟨⟨hK, hO, hs⟩, i0, i1, i2, i3⟩, r4, r5, hne⟩, ⟨t1, t2⟩, c1, c2⟩ := hB
  have hB0' := hB'
  obtain ⟨⟨⟨⟨hK', hO', hs'⟩, i0', i1', i2', i3'⟩, r4', r5', hne'⟩, ⟨t1', t2'⟩, c1', c2'⟩ := hB'
  obtain ⟨bc, -, -⟩ := t1'.b
  obtain ⟨bg, -, -⟩ := t2'.b
  have e1 : ∀ u, mz_i (mz_si G β 0 u) β' 1 = f' (98 * b + 1) := fun u => by show mz_u2 (mz_i G) β 0 u β' 1 = _; rw [mz_u2_a _ _ _ _ (Ne.symm h1), i1']
  have e2 : ∀ u w, mz_i (mz_si (mz_si G β 0 u) β 1 w) β' 2 = f' (98 * b + 2) := fun u w => by show mz_u2 (mz_u2 (mz_i G) β 0 u) β 1 w β' 2 = _; rw [mz_u2_a _ _ _ _ (Ne.symm h1), mz_u2_a _ _ _ _ (Ne.symm h1), i2']
  have e3 : ∀ u w x, mz_i (mz_si (mz_si (mz_si G β 0 u) β 1 w) β 2 x) β' 3 = f' (98 * b + 3) := fun u w x => by show mz_u2 (mz_u2 (mz_u2 (mz_i G) β 0 u) β 1 w) β 2 x β' 3 = _; rw [mz_u2_a _ _ _ _ (Ne.symm h1), mz_u2_a _ _ _ _ (Ne.symm h1), mz_u2_a _ _ _ _ (Ne.symm h1), i3']
  refine mz_start (by decide) (Nat.le_of_ble_eq_true rfl) ?_
  intro p e s m args below meth c hC hret hnm
  refine mz_sn_ok hC tk_X0_takeFrom pk_RX0 16 [] rfl (by (repeat' apply And.intro) <;> first | exact True.intro | assumption | (simp only [mz_cm1, mz_c0, mz_c1, mz_c2, mz_c3, mz_c4, mz_c5, mz_c6, mz_c7, mz_c8, mz_c10, mz_c17, mz_c20, mz_c28, mz_c58, mz_c63, mz_c98, mz_c294, mz_c526, mz_c532, mz_c540, mz_c999, mz_c1900, mz_c2403, mz_c29362, mz_c29363, mz_c29364, mz_c29390, mz_c29393, mz_c29394, mz_c29398, mz_c29399, mz_c29400, mz_c29401, nI_add, pk_mul, pk_m1, mz_pp, mz_pq, i0', e1, e2, e3]; done) | omega | (simp only [mz_cm1, mz_c0, mz_c1, mz_c2, mz_c3, mz_c4, mz_c5, mz_c6, mz_c7, mz_c8, mz_c10, mz_c17, mz_c20, mz_c28, mz_c58, mz_c63, mz_c98, mz_c294, mz_c526, mz_c532, mz_c540, mz_c999, mz_c1900, mz_c2403, mz_c29362, mz_c29363, mz_c29364, mz_c29390, mz_c29393, mz_c29394, mz_c29398, mz_c29399, mz_c29400, mz_c29401, nI_add, pk_mul, pk_m1, mz_pp, mz_pq, i0', e1, e2, e3]; congr 1; omega)) ?_
  try simp only [mz_c0, mz_cm1, i0', e1, e2, e3]
  obtain ⟨G1, hG1⟩ : ∃ G1, G1 = mz_si (mz_si (mz_si (mz_si G β 0 (f' (98 * b + 0))) β 1 (f' (98 * b + 1))) β 2 (f' (98 * b + 2))) β 3 (f' (98 * b + 3)) := ⟨_, rfl⟩
  have hF1 : mt_F (fun q => q = β) G G1 O O sz sz := by rw [hG1]; exact (mt_F_si hO).tr ((mt_F_si hO).tr ((mt_F_si hO).tr (mt_F_si hO)))
  have hn1 : mr_Bn G1 O sz β μ ν (f' (98 * b + 0)) (f' (98 * b + 1)) (f' (98 * b + 2)) (f' (98 * b + 3)) cnt g (mr_h f (98 * b + 17) 4) (mr_h f (98 * b + 4) 2) := by
    refine ⟨⟨⟨⟨by rw [hG1]; exact hK, hO, hs⟩, ?_, ?_, ?_, ?_⟩, by rw [hG1]; exact r4, by rw [hG1]; exact r5, hne⟩, t1.fr hF1 (Ne.symm n1), t2.fr hF1 (Ne.symm n2)⟩
    · rw [hG1]; show mz_u2 (mz_u2 (mz_u2 (mz_u2 (mz_i G) β 0 _) β 1 _) β 2 _) β 3 _ β 0 = _; rw [mz_u2_j _ _ _ _ (by omega), mz_u2_j _ _ _ _ (by omega), mz_u2_j _ _ _ _ (by omega), mz_u2_s]
    · rw [hG1]; show mz_u2 (mz_u2 (mz_u2 (mz_u2 (mz_i G) β 0 _) β 1 _) β 2 _) β 3 _ β 1 = _; rw [mz_u2_j _ _ _ _ (by omega), mz_u2_j _ _ _ _ (by omega), mz_u2_s]
    · rw [hG1]; show mz_u2 (mz_u2 (mz_u2 (mz_u2 (mz_i G) β 0 _) β 1 _) β 2 _) β 3 _ β 2 = _; rw [mz_u2_j _ _ _ _ (by omega), mz_u2_s]
    · rw [hG1]; show mz_u2 (mz_u2 (mz_u2 (mz_u2 (mz_i G) β 0 _) β 1 _) β 2 _) β 3 _ β 3 = _; rw [mz_u2_s]
  have hm1 : ¬ (μ' = β) := fun z => by have q1 := t1'.K; rw [z] at q1; omega
  have hm2 : ¬ (ν' = β) := fun z => by have q1 := t2'.K; rw [z] at q1; omega
  have hB1' := hB0'.fr hF1 (Ne.symm h1) hm1 hm2
  rw [← hG1]
  have hn1c := hn1
  obtain ⟨⟨⟨⟨hK1, -⟩, -⟩, r41, r51, -⟩, t11, t21⟩ := hn1c
  have hB1c := hB1'
  obtain ⟨⟨⟨⟨hK1', -⟩, -⟩, r41', r51', -⟩, ⟨t11', t21'⟩, -⟩ := hB1c
  have k11 := t11.K
  have u1 : mt_tc 4 cnt' 80 = 0 ∧ mt_ts 4 cnt' 80 80 = 0 ∧ mt_tl 4 cnt' 80 80 = 80 := by unfold mt_tc mt_ts mt_tl; rw [if_pos (by omega), if_pos (by omega), if_pos (by omega)]; exact ⟨rfl, rfl, rfl⟩
  have u2 : mt_tc 2 g' 12 = 0 ∧ mt_ts 2 g' 12 12 = 0 ∧ mt_tl 2 g' 12 12 = 12 := by unfold mt_tc mt_ts mt_tl; rw [if_pos (by omega), if_pos (by omega), if_pos (by omega)]; exact ⟨rfl, rfl, rfl⟩
  obtain ⟨p1, p2, p3⟩ := u1
  obtain ⟨q1, q2, q3⟩ := u2
  refine mz_sn_ok hC tk_X0_takeFrom pk_RX0 4 [μ, μ'] rfl (by (repeat' apply And.intro) <;> first | exact True.intro | assumption | (simp only [mz_cm1, mz_c0, mz_c1, mz_c2, mz_c3, mz_c4, mz_c5, mz_c6, mz_c7, mz_c8, mz_c10, mz_c17, mz_c20, mz_c28, mz_c58, mz_c63, mz_c98, mz_c294, mz_c526, mz_c532, mz_c540, mz_c999, mz_c1900, mz_c2403, mz_c29362, mz_c29363, mz_c29364, mz_c29390, mz_c29393, mz_c29394, mz_c29398, mz_c29399, mz_c29400, mz_c29401, nI_add, pk_mul, pk_m1, mz_pp, mz_pq]; done) | omega | (simp only [mz_cm1, mz_c0, mz_c1, mz_c2, mz_c3, mz_c4, mz_c5, mz_c6, mz_c7, mz_c8, mz_c10, mz_c17, mz_c20, mz_c28, mz_c58, mz_c63, mz_c98, mz_c294, mz_c526, mz_c532, mz_c540, mz_c999, mz_c1900, mz_c2403, mz_c29362, mz_c29363, mz_c29364, mz_c29390, mz_c29393, mz_c29394, mz_c29398, mz_c29399, mz_c29400, mz_c29401, nI_add, pk_mul, pk_m1, mz_pp, mz_pq]; congr 1; omega)) ?_
  try simp only [mz_c0, mz_cm1]
  refine mz_Vcv hC tk_X0_takeFrom rfl md_X4_takeFrom lk_RX0_77 rfl (ct_takeFrom l E t11 t11' h2.1) (by show (vwCl[mz_K _ _]?).map _ = _; rw [k11]; rfl) ⟨Nat.le_of_ble_eq_true rfl, Nat.le_of_ble_eq_true rfl⟩ ⟨by simp only [mz_rm]; omega, by simp only [mz_rm]; omega⟩ (Nat.le_of_ble_eq_true rfl) (fun v9 G9 sz9 hp9 => ?_)
  obtain ⟨rfl, hs2, O2, t12, hF2⟩ := hp9
  have hsz : sz9 = sz := by omega
  rw [hsz] at t12 hF2 ⊢
  rw [p3] at t12
  have hn2 := hn1.msg hF2 t12
  have hm3 : ¬ (β' = μ) := fun z => by have q1 := t1.K; rw [← z] at q1; omega
  have hB2' := hB1'.fr hF2 hm3 (Ne.symm h2.1) (Ne.symm h2.2)
  have hn2c := hn2
  obtain ⟨⟨⟨⟨hK2, -⟩, -⟩, -, r52, -⟩, -, t22⟩ := hn2c
  obtain ⟨⟨⟨⟨hK2', -⟩, -⟩, -, r52', -⟩, ⟨-, t22'⟩, -⟩ := hB2'
  have k22 := t22.K
  refine mz_sn_ok hC tk_X0_takeFrom pk_RX0 4 [ν, ν'] rfl (by (repeat' apply And.intro) <;> first | exact True.intro | assumption | (simp only [mz_cm1, mz_c0, mz_c1, mz_c2, mz_c3, mz_c4, mz_c5, mz_c6, mz_c7, mz_c8, mz_c10, mz_c17, mz_c20, mz_c28, mz_c58, mz_c63, mz_c98, mz_c294, mz_c526, mz_c532, mz_c540, mz_c999, mz_c1900, mz_c2403, mz_c29362, mz_c29363, mz_c29364, mz_c29390, mz_c29393, mz_c29394, mz_c29398, mz_c29399, mz_c29400, mz_c29401, nI_add, pk_mul, pk_m1, mz_pp, mz_pq]; done) | omega | (simp only [mz_cm1, mz_c0, mz_c1, mz_c2, mz_c3, mz_c4, mz_c5, mz_c6, mz_c7, mz_c8, mz_c10, mz_c17, mz_c20, mz_c28, mz_c58, mz_c63, mz_c98, mz_c294, mz_c526, mz_c532, mz_c540, mz_c999, mz_c1900, mz_c2403, mz_c29362, mz_c29363, mz_c29364, mz_c29390, mz_c29393, mz_c29394, mz_c29398, mz_c29399, mz_c29400, mz_c29401, nI_add, pk_mul, pk_m1, mz_pp, mz_pq]; congr 1; omega)) ?_
  try simp only [mz_c0, mz_cm1]
  refine mz_Vcv hC tk_X0_takeFrom rfl md_X4_takeFrom lk_RX0_77 rfl (ct_takeFrom l E t22 t22' h3.2) (by show (vwCl[mz_K _ _]?).map _ = _; rw [k22]; rfl) ⟨Nat.le_of_ble_eq_true rfl, Nat.le_of_ble_eq_true rfl⟩ ⟨by simp only [mz_rm]; omega, by simp only [mz_rm]; omega⟩ (Nat.le_of_ble_eq_true rfl) (fun v10 G10 sz10 hp10 => ?_)
  obtain ⟨rfl, hs3, O3, t23, hF3⟩ := hp10
  have hsz3 : sz10 = sz := by omega
  rw [hsz3] at t23 hF3 ⊢
  rw [q3] at t23
  have hn3 := hn2.lost hF3 t23
  refine mz_Vreturn hC tk_X0_takeFrom rfl hret (by omega) (by omega) ?_
  exact ⟨rfl, rfl, O3, ⟨hn3.1, hn3.2, c1', c2'⟩, (hF1.mono (fun q hq => Or.inl hq)).tr ((hF2.mono (fun q hq => Or.inr (Or.inl hq))).tr (hF3.mono (fun q hq => Or.inr (Or.inr hq))))⟩
end MRB

