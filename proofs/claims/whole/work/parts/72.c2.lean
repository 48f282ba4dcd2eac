/-! ===== the class: a copy, what it tells; what it drops ===== -/
theorem mr_cs1 {f : Nat → Int32} {m b : Nat} : mx_cs f m b = 1 ↔ ¬ f (mx_CA m b) = f (98 * b + 0) := by
  unfold mx_cs
  constructor
  · intro h z
    rw [if_pos z] at h
    split at h <;> omega
  · intro h
    rw [if_neg h]
section MRC
variable (l : Launch) (E : mz_E) {G : mz_G} {O : Nat → Nat} {sz γ τ β μ ν : Nat} {f : Nat → Int32} {m0 b cnt g cc len : Nat}
theorem cc_case (hY : mr_C G O sz γ τ f m0 b cc len) (hB : mr_B G O sz β μ ν f b cnt g) : mz_M l E yX1_caseOfSync cX1_caseOfSync 2 (some .int) 1 0 0 [.ref γ, .ref β] G sz (fun v' G' sz' => v' = some (.int (nI (mx_cs f m0 b))) ∧ G' = G ∧ sz = sz') := by
  obtain ⟨⟨⟨⟨⟨hK, hO, hs⟩, i0, i1⟩, r2⟩, tc⟩, hcc⟩ := hY
  obtain ⟨⟨⟨⟨hKb, hOb, hsb⟩, j0, j1, j2, j3⟩, r4, r5, hne⟩, ⟨t1, t2⟩, hc1, hc2⟩ := hB
  have k1 := t1.K
  have k2 := t2.K
  have kc := tc.K
  have s1 := t1.s
  have s2 := t2.s
  have sc := tc.s
  obtain ⟨c20, -, -⟩ := t1.b
  obtain ⟨g6, -, -⟩ := t2.b
  obtain ⟨c532, -, -⟩ := tc.b
  refine mz_start (by decide) (Nat.le_of_ble_eq_true rfl) ?_
  intro p e s m args below meth c hC hret hnm
  refine mz_sn_ok hC tk_X1_caseOfSync pk_RX1 4 [] rfl (by (repeat' apply And.intro) <;> first | exact True.intro | assumption | (simp only [mz_cm1, mz_c0, mz_c1, mz_c2, mz_c3, mz_c4, mz_c5, mz_c6, mz_c7, mz_c8, mz_c10, mz_c17, mz_c20, mz_c28, mz_c58, mz_c63, mz_c98, mz_c294, mz_c526, mz_c532, mz_c540, mz_c999, mz_c1900, mz_c2403, mz_c29362, mz_c29363, mz_c29364, mz_c29390, mz_c29393, mz_c29394, mz_c29398, mz_c29399, mz_c29400, mz_c29401, nI_add, pk_mul, pk_m1, mz_pp, mz_pq, i0, j0]; done) | omega | (simp only [mz_cm1, mz_c0, mz_c1, mz_c2, mz_c3, mz_c4, mz_c5, mz_c6, mz_c7, mz_c8, mz_c10, mz_c17, mz_c20, mz_c28, mz_c58, mz_c63, mz_c98, mz_c294, mz_c526, mz_c532, mz_c540, mz_c999, mz_c1900, mz_c2403, mz_c29362, mz_c29363, mz_c29364, mz_c29390, mz_c29393, mz_c29394, mz_c29398, mz_c29399, mz_c29400, mz_c29401, nI_add, pk_mul, pk_m1, mz_pp, mz_pq, i0, j0]; congr 1; omega)) ?_
  try simp only [mz_c0, mz_cm1, i0, j0]
  by_cases he : f (mx_CA m0 b) = f (98 * b + 0)
  · refine mz_br_t hC tk_X1_caseOfSync rfl ((by show f (mx_CA m0 b) = f (98 * b + 0); exact he)) ?_
    refine mz_sn_ok hC tk_X1_caseOfSync pk_RX1 4 [] rfl (by (repeat' apply And.intro) <;> first | exact True.intro | assumption | (simp only [mz_cm1, mz_c0, mz_c1, mz_c2, mz_c3, mz_c4, mz_c5, mz_c6, mz_c7, mz_c8, mz_c10, mz_c17, mz_c20, mz_c28, mz_c58, mz_c63, mz_c98, mz_c294, mz_c526, mz_c532, mz_c540, mz_c999, mz_c1900, mz_c2403, mz_c29362, mz_c29363, mz_c29364, mz_c29390, mz_c29393, mz_c29394, mz_c29398, mz_c29399, mz_c29400, mz_c29401, nI_add, pk_mul, pk_m1, mz_pp, mz_pq, i1, j3]; done) | omega | (simp only [mz_cm1, mz_c0, mz_c1, mz_c2, mz_c3, mz_c4, mz_c5, mz_c6, mz_c7, mz_c8, mz_c10, mz_c17, mz_c20, mz_c28, mz_c58, mz_c63, mz_c98, mz_c294, mz_c526, mz_c532, mz_c540, mz_c999, mz_c1900, mz_c2403, mz_c29362, mz_c29363, mz_c29364, mz_c29390, mz_c29393, mz_c29394, mz_c29398, mz_c29399, mz_c29400, mz_c29401, nI_add, pk_mul, pk_m1, mz_pp, mz_pq, i1, j3]; congr 1; omega)) ?_
    try simp only [mz_c0, mz_cm1, i1, j3]
    by_cases hl : f (mx_CA m0 b + 1) < f (98 * b + 3)
    · refine mz_br_t hC tk_X1_caseOfSync rfl ((by show f (mx_CA m0 b + 1) < f (98 * b + 3); exact hl)) ?_
      refine mz_sn_ok hC tk_X1_caseOfSync pk_RX1 1 [] rfl (by (repeat' apply And.intro) <;> first | exact True.intro | assumption | (simp only [mz_cm1, mz_c0, mz_c1, mz_c2, mz_c3, mz_c4, mz_c5, mz_c6, mz_c7, mz_c8, mz_c10, mz_c17, mz_c20, mz_c28, mz_c58, mz_c63, mz_c98, mz_c294, mz_c526, mz_c532, mz_c540, mz_c999, mz_c1900, mz_c2403, mz_c29362, mz_c29363, mz_c29364, mz_c29390, mz_c29393, mz_c29394, mz_c29398, mz_c29399, mz_c29400, mz_c29401, nI_add, pk_mul, pk_m1, mz_pp, mz_pq]; done) | omega | (simp only [mz_cm1, mz_c0, mz_c1, mz_c2, mz_c3, mz_c4, mz_c5, mz_c6, mz_c7, mz_c8, mz_c10, mz_c17, mz_c20, mz_c28, mz_c58, mz_c63, mz_c98, mz_c294, mz_c526, mz_c532, mz_c540, mz_c999, mz_c1900, mz_c2403, mz_c29362, mz_c29363, mz_c29364, mz_c29390, mz_c29393, mz_c29394, mz_c29398, mz_c29399, mz_c29400, mz_c29401, nI_add, pk_mul, pk_m1, mz_pp, mz_pq]; congr 1; omega)) ?_
      try simp only [mz_c0, mz_cm1]
      refine mz_Vireturn hC tk_X1_caseOfSync rfl hret rfl (Nat.le_of_ble_eq_true rfl) (Nat.le_of_ble_eq_true rfl) ?_
      exact ⟨by unfold mx_cs; rw [if_pos he, if_pos hl]; rfl, rfl, rfl⟩
    · refine mz_br_f hC tk_X1_caseOfSync rfl ((by show ¬ f (mx_CA m0 b + 1) < f (98 * b + 3); exact hl)) ?_
      refine mz_sn_ok hC tk_X1_caseOfSync pk_RX1 2 [] rfl (by (repeat' apply And.intro) <;> first | exact True.intro | assumption | (simp only [mz_cm1, mz_c0, mz_c1, mz_c2, mz_c3, mz_c4, mz_c5, mz_c6, mz_c7, mz_c8, mz_c10, mz_c17, mz_c20, mz_c28, mz_c58, mz_c63, mz_c98, mz_c294, mz_c526, mz_c532, mz_c540, mz_c999, mz_c1900, mz_c2403, mz_c29362, mz_c29363, mz_c29364, mz_c29390, mz_c29393, mz_c29394, mz_c29398, mz_c29399, mz_c29400, mz_c29401, nI_add, pk_mul, pk_m1, mz_pp, mz_pq]; done) | omega | (simp only [mz_cm1, mz_c0, mz_c1, mz_c2, mz_c3, mz_c4, mz_c5, mz_c6, mz_c7, mz_c8, mz_c10, mz_c17, mz_c20, mz_c28, mz_c58, mz_c63, mz_c98, mz_c294, mz_c526, mz_c532, mz_c540, mz_c999, mz_c1900, mz_c2403, mz_c29362, mz_c29363, mz_c29364, mz_c29390, mz_c29393, mz_c29394, mz_c29398, mz_c29399, mz_c29400, mz_c29401, nI_add, pk_mul, pk_m1, mz_pp, mz_pq]; congr 1; omega)) ?_
      try simp only [mz_c0, mz_cm1]
      refine mz_Vireturn hC tk_X1_caseOfSync rfl hret rfl (Nat.le_of_ble_eq_true rfl) (Nat.le_of_ble_eq_true rfl) ?_
      exact ⟨by unfold mx_cs; rw [if_pos he, if_neg hl]; rfl, rfl, rfl⟩
  · refine mz_br_f hC tk_X1_caseOfSync rfl ((by show ¬ f (mx_CA m0 b) = f (98 * b + 0); exact he)) ?_
    refine mz_sn_ok hC tk_X1_caseOfSync pk_RX1 1 [] rfl (by (repeat' apply And.intro) <;> first | exact True.intro | assumption | (simp only [mz_cm1, mz_c0, mz_c1, mz_c2, mz_c3, mz_c4, mz_c5, mz_c6, mz_c7, mz_c8, mz_c10, mz_c17, mz_c20, mz_c28, mz_c58, mz_c63, mz_c98, mz_c294, mz_c526, mz_c532, mz_c540, mz_c999, mz_c1900, mz_c2403, mz_c29362, mz_c29363, mz_c29364, mz_c29390, mz_c29393, mz_c29394, mz_c29398, mz_c29399, mz_c29400, mz_c29401, nI_add, pk_mul, pk_m1, mz_pp, mz_pq]; done) | omega | (simp only [mz_cm1, mz_c0, mz_c1, mz_c2, mz_c3, mz_c4, mz_c5, mz_c6, mz_c7, mz_c8, mz_c10, mz_c17, mz_c20, mz_c28, mz_c58, mz_c63, mz_c98, mz_c294, mz_c526, mz_c532, mz_c540, mz_c999, mz_c1900, mz_c2403, mz_c29362, mz_c29363, mz_c29364, mz_c29390, mz_c29393, mz_c29394, mz_c29398, mz_c29399, mz_c29400, mz_c29401, nI_add, pk_mul, pk_m1, mz_pp, mz_pq]; congr 1; omega)) ?_
    try simp only [mz_c0, mz_cm1]
    refine mz_Vireturn hC tk_X1_caseOfSync rfl hret rfl (Nat.le_of_ble_eq_true rfl) (Nat.le_of_ble_eq_true rfl) ?_
    exact ⟨by unfold mx_cs; rw [if_neg he]; rfl, rfl, rfl⟩
/-- z0, z1: the copy's own numbers -/
theorem cc_isDue {z0 z1 : Int32} {h : Nat → Nat → Int32} (hY : mr_Cn G O sz γ τ z0 z1 cc len h) (hB : mr_B G O sz β μ ν f b cnt g) (k : Nat) (hk : k < cnt) : mz_M l E yX1_isDue cX1_isDue 3 (some .boolean) 2 0 0 [.ref γ, .ref β, .int (nI k)] G sz (fun v' G' sz' => v' = some (.int (if ¬ z0 = f (98 * b + 0) ∨ z1 < mx_mk f (98 * b + 17) k then 1 else 0)) ∧ G' = G ∧ sz = sz') := by
  obtain ⟨⟨⟨⟨hK, hO, hs⟩, i0, i1⟩, r2⟩, tc⟩ := hY
  obtain ⟨⟨⟨⟨hKb, hOb, hsb⟩, j0, j1, j2, j3⟩, r4, r5, hne⟩, ⟨t1, t2⟩, hc1, hc2⟩ := hB
  have k1 := t1.K
  obtain ⟨c20, -, -⟩ := t1.b
  refine mz_start (by decide) (Nat.le_of_ble_eq_true rfl) ?_
  intro p e s m args below meth c hC hret hnm
  refine mz_sn_ok hC tk_X1_isDue pk_RX1 4 [] rfl (by (repeat' apply And.intro) <;> first | exact True.intro | assumption | (simp only [mz_cm1, mz_c0, mz_c1, mz_c2, mz_c3, mz_c4, mz_c5, mz_c6, mz_c7, mz_c8, mz_c10, mz_c17, mz_c20, mz_c28, mz_c58, mz_c63, mz_c98, mz_c294, mz_c526, mz_c532, mz_c540, mz_c999, mz_c1900, mz_c2403, mz_c29362, mz_c29363, mz_c29364, mz_c29390, mz_c29393, mz_c29394, mz_c29398, mz_c29399, mz_c29400, mz_c29401, nI_add, pk_mul, pk_m1, mz_pp, mz_pq, i0, j0]; done) | omega | (simp only [mz_cm1, mz_c0, mz_c1, mz_c2, mz_c3, mz_c4, mz_c5, mz_c6, mz_c7, mz_c8, mz_c10, mz_c17, mz_c20, mz_c28, mz_c58, mz_c63, mz_c98, mz_c294, mz_c526, mz_c532, mz_c540, mz_c999, mz_c1900, mz_c2403, mz_c29362, mz_c29363, mz_c29364, mz_c29390, mz_c29393, mz_c29394, mz_c29398, mz_c29399, mz_c29400, mz_c29401, nI_add, pk_mul, pk_m1, mz_pp, mz_pq, i0, j0]; congr 1; omega)) ?_
  try simp only [mz_c0, mz_cm1, i0, j0]
  by_cases he : z0 = f (98 * b + 0)
  · refine mz_br_f hC tk_X1_isDue rfl ((by show ¬ ¬ z0 = f (98 * b + 0); exact fun z => z he)) ?_
    refine mz_sn_ok hC tk_X1_isDue pk_RX1 4 [μ] rfl (by (repeat' apply And.intro) <;> first | exact True.intro | assumption | (simp only [mz_cm1, mz_c0, mz_c1, mz_c2, mz_c3, mz_c4, mz_c5, mz_c6, mz_c7, mz_c8, mz_c10, mz_c17, mz_c20, mz_c28, mz_c58, mz_c63, mz_c98, mz_c294, mz_c526, mz_c532, mz_c540, mz_c999, mz_c1900, mz_c2403, mz_c29362, mz_c29363, mz_c29364, mz_c29390, mz_c29393, mz_c29394, mz_c29398, mz_c29399, mz_c29400, mz_c29401, nI_add, pk_mul, pk_m1, mz_pp, mz_pq]; done) | omega | (simp only [mz_cm1, mz_c0, mz_c1, mz_c2, mz_c3, mz_c4, mz_c5, mz_c6, mz_c7, mz_c8, mz_c10, mz_c17, mz_c20, mz_c28, mz_c58, mz_c63, mz_c98, mz_c294, mz_c526, mz_c532, mz_c540, mz_c999, mz_c1900, mz_c2403, mz_c29362, mz_c29363, mz_c29364, mz_c29390, mz_c29393, mz_c29394, mz_c29398, mz_c29399, mz_c29400, mz_c29401, nI_add, pk_mul, pk_m1, mz_pp, mz_pq]; congr 1; omega)) ?_
    try simp only [mz_c0, mz_cm1]
    refine mz_Vcv hC tk_X1_isDue rfl md_X4_cell lk_RX1_34 rfl (ct_cell l E t1 (nI k) (nI 3)) (by show (vwCl[mz_K _ _]?).map _ = _; rw [k1]; rfl) ⟨Nat.le_of_ble_eq_true rfl, Nat.le_of_ble_eq_true rfl⟩ ⟨Nat.le_of_ble_eq_true rfl, Nat.le_of_ble_eq_true rfl⟩ (Nat.le_of_ble_eq_true rfl) (fun v9 G9 sz9 hp9 => ?_)
    obtain ⟨rfl, hG9, hs9⟩ := hp9
    rw [hG9, ← hs9, mt_c_in hk (by omega) (by omega) (by omega)]
    refine mz_sn_ok hC tk_X1_isDue pk_RX1 2 [] rfl (by (repeat' apply And.intro) <;> first | exact True.intro | assumption | (simp only [mz_cm1, mz_c0, mz_c1, mz_c2, mz_c3, mz_c4, mz_c5, mz_c6, mz_c7, mz_c8, mz_c10, mz_c17, mz_c20, mz_c28, mz_c58, mz_c63, mz_c98, mz_c294, mz_c526, mz_c532, mz_c540, mz_c999, mz_c1900, mz_c2403, mz_c29362, mz_c29363, mz_c29364, mz_c29390, mz_c29393, mz_c29394, mz_c29398, mz_c29399, mz_c29400, mz_c29401, nI_add, pk_mul, pk_m1, mz_pp, mz_pq, i1]; done) | omega | (simp only [mz_cm1, mz_c0, mz_c1, mz_c2, mz_c3, mz_c4, mz_c5, mz_c6, mz_c7, mz_c8, mz_c10, mz_c17, mz_c20, mz_c28, mz_c58, mz_c63, mz_c98, mz_c294, mz_c526, mz_c532, mz_c540, mz_c999, mz_c1900, mz_c2403, mz_c29362, mz_c29363, mz_c29364, mz_c29390, mz_c29393, mz_c29394, mz_c29398, mz_c29399, mz_c29400, mz_c29401, nI_add, pk_mul, pk_m1, mz_pp, mz_pq, i1]; congr 1; omega)) ?_
    try simp only [mz_c0, mz_cm1, i1]
    by_cases hl : z1 < mx_mk f (98 * b + 17) k
    · refine mz_br_f hC tk_X1_isDue rfl ((by show ¬ mx_mk f (98 * b + 17) k ≤ z1; exact mz_lt_nle hl)) ?_
      refine mz_sn_ok hC tk_X1_isDue pk_RX1 2 [] rfl (by (repeat' apply And.intro) <;> first | exact True.intro | assumption | (simp only [mz_cm1, mz_c0, mz_c1, mz_c2, mz_c3, mz_c4, mz_c5, mz_c6, mz_c7, mz_c8, mz_c10, mz_c17, mz_c20, mz_c28, mz_c58, mz_c63, mz_c98, mz_c294, mz_c526, mz_c532, mz_c540, mz_c999, mz_c1900, mz_c2403, mz_c29362, mz_c29363, mz_c29364, mz_c29390, mz_c29393, mz_c29394, mz_c29398, mz_c29399, mz_c29400, mz_c29401, nI_add, pk_mul, pk_m1, mz_pp, mz_pq]; done) | omega | (simp only [mz_cm1, mz_c0, mz_c1, mz_c2, mz_c3, mz_c4, mz_c5, mz_c6, mz_c7, mz_c8, mz_c10, mz_c17, mz_c20, mz_c28, mz_c58, mz_c63, mz_c98, mz_c294, mz_c526, mz_c532, mz_c540, mz_c999, mz_c1900, mz_c2403, mz_c29362, mz_c29363, mz_c29364, mz_c29390, mz_c29393, mz_c29394, mz_c29398, mz_c29399, mz_c29400, mz_c29401, nI_add, pk_mul, pk_m1, mz_pp, mz_pq]; congr 1; omega)) ?_
      try simp only [mz_c0, mz_cm1]
      refine mz_Vireturn hC tk_X1_isDue rfl hret mz_nb1 (Nat.le_of_ble_eq_true rfl) (Nat.le_of_ble_eq_true rfl) ?_
      exact ⟨by rw [if_pos (Or.inr hl)]; rfl, rfl, rfl⟩
    · refine mz_br_t hC tk_X1_isDue rfl ((by show mx_mk f (98 * b + 17) k ≤ z1; rw [mz_ltI] at hl; rw [mz_leI]; omega)) ?_
      refine mz_sn_ok hC tk_X1_isDue pk_RX1 1 [] rfl (by (repeat' apply And.intro) <;> first | exact True.intro | assumption | (simp only [mz_cm1, mz_c0, mz_c1, mz_c2, mz_c3, mz_c4, mz_c5, mz_c6, mz_c7, mz_c8, mz_c10, mz_c17, mz_c20, mz_c28, mz_c58, mz_c63, mz_c98, mz_c294, mz_c526, mz_c532, mz_c540, mz_c999, mz_c1900, mz_c2403, mz_c29362, mz_c29363, mz_c29364, mz_c29390, mz_c29393, mz_c29394, mz_c29398, mz_c29399, mz_c29400, mz_c29401, nI_add, pk_mul, pk_m1, mz_pp, mz_pq]; done) | omega | (simp only [mz_cm1, mz_c0, mz_c1, mz_c2, mz_c3, mz_c4, mz_c5, mz_c6, mz_c7, mz_c8, mz_c10, mz_c17, mz_c20, mz_c28, mz_c58, mz_c63, mz_c98, mz_c294, mz_c526, mz_c532, mz_c540, mz_c999, mz_c1900, mz_c2403, mz_c29362, mz_c29363, mz_c29364, mz_c29390, mz_c29393, mz_c29394, mz_c29398, mz_c29399, mz_c29400, mz_c29401, nI_add, pk_mul, pk_m1, mz_pp, mz_pq]; congr 1; omega)) ?_
      try simp only [mz_c0, mz_cm1]
      refine mz_Vireturn hC tk_X1_isDue rfl hret mz_nb0 (Nat.le_of_ble_eq_true rfl) (Nat.le_of_ble_eq_true rfl) ?_
      exact ⟨by rw [if_neg (fun z => z.elim (fun y => y he) hl)]; rfl, rfl, rfl⟩
  · refine mz_br_t hC tk_X1_isDue rfl ((by show ¬ z0 = f (98 * b + 0); exact he)) ?_
    refine mz_sn_ok hC tk_X1_isDue pk_RX1 2 [] rfl (by (repeat' apply And.intro) <;> first | exact True.intro | assumption | (simp only [mz_cm1, mz_c0, mz_c1, mz_c2, mz_c3, mz_c4, mz_c5, mz_c6, mz_c7, mz_c8, mz_c10, mz_c17, mz_c20, mz_c28, mz_c58, mz_c63, mz_c98, mz_c294, mz_c526, mz_c532, mz_c540, mz_c999, mz_c1900, mz_c2403, mz_c29362, mz_c29363, mz_c29364, mz_c29390, mz_c29393, mz_c29394, mz_c29398, mz_c29399, mz_c29400, mz_c29401, nI_add, pk_mul, pk_m1, mz_pp, mz_pq]; done) | omega | (simp only [mz_cm1, mz_c0, mz_c1, mz_c2, mz_c3, mz_c4, mz_c5, mz_c6, mz_c7, mz_c8, mz_c10, mz_c17, mz_c20, mz_c28, mz_c58, mz_c63, mz_c98, mz_c294, mz_c526, mz_c532, mz_c540, mz_c999, mz_c1900, mz_c2403, mz_c29362, mz_c29363, mz_c29364, mz_c29390, mz_c29393, mz_c29394, mz_c29398, mz_c29399, mz_c29400, mz_c29401, nI_add, pk_mul, pk_m1, mz_pp, mz_pq]; congr 1; omega)) ?_
    try simp only [mz_c0, mz_cm1]
    refine mz_Vireturn hC tk_X1_isDue rfl hret mz_nb1 (Nat.le_of_ble_eq_true rfl) (Nat.le_of_ble_eq_true rfl) ?_
    exact ⟨by rw [if_pos (Or.inl he)]; rfl, rfl, rfl⟩
theorem cc_messagesDue (hY : mr_C G O sz γ τ f m0 b cc len) (hB : mr_B G O sz β μ ν f b cnt g) : mz_M l E yX1_messagesDue cX1_messagesDue 4 (some .int) 3 0 0 [.ref γ, .ref β] G sz (fun v' G' sz' => v' = some (.int (nI (mx_mc f m0 b cnt))) ∧ G' = G ∧ sz = sz') := by
  have hY0 := hY
  have hB0 := hB
  obtain ⟨⟨⟨⟨⟨hK, hO, hs⟩, i0, i1⟩, r2⟩, tc⟩, hcc⟩ := hY
  obtain ⟨⟨⟨⟨hKb, hOb, hsb⟩, j0, j1, j2, j3⟩, r4, r5, hne⟩, ⟨t1, t2⟩, hc1, hc2⟩ := hB
  have k1 := t1.K
  have k2 := t2.K
  have kc := tc.K
  have s1 := t1.s
  have s2 := t2.s
  have sc := tc.s
  obtain ⟨c20, -, -⟩ := t1.b
  obtain ⟨g6, -, -⟩ := t2.b
  obtain ⟨c532, -, -⟩ := tc.b
  refine mz_start (by decide) (Nat.le_of_ble_eq_true rfl) ?_
  intro p e s m args below meth c hC hret hnm
  have loop : ∀ (d k : Nat), k + d = cnt → mz_V E p l e (mz_rm 3 0 0) s m args below meth c 4 (0) (0) (mz_Z E below args s 0 0 (fun v' G' sz' => v' = some (.int (nI (mx_mc f m0 b cnt))) ∧ G' = G ∧ sz = sz')) (G) (sz) (4) [some (.ref γ), some (.ref β), some (.int (nI (mx_mc f m0 b k))), some (.int (nI k))] [] := by
    intro d
    induction d with
    | zero =>
      intro k hk
      rw [show k = cnt by omega]
      refine mz_sn_ok hC tk_X1_messagesDue pk_RX1 4 [μ] rfl (by (repeat' apply And.intro) <;> first | exact True.intro | assumption | (simp only [mz_cm1, mz_c0, mz_c1, mz_c2, mz_c3, mz_c4, mz_c5, mz_c6, mz_c7, mz_c8, mz_c10, mz_c17, mz_c20, mz_c28, mz_c58, mz_c63, mz_c98, mz_c294, mz_c526, mz_c532, mz_c540, mz_c999, mz_c1900, mz_c2403, mz_c29362, mz_c29363, mz_c29364, mz_c29390, mz_c29393, mz_c29394, mz_c29398, mz_c29399, mz_c29400, mz_c29401, nI_add, pk_mul, pk_m1, mz_pp, mz_pq, s1]; done) | omega | (simp only [mz_cm1, mz_c0, mz_c1, mz_c2, mz_c3, mz_c4, mz_c5, mz_c6, mz_c7, mz_c8, mz_c10, mz_c17, mz_c20, mz_c28, mz_c58, mz_c63, mz_c98, mz_c294, mz_c526, mz_c532, mz_c540, mz_c999, mz_c1900, mz_c2403, mz_c29362, mz_c29363, mz_c29364, mz_c29390, mz_c29393, mz_c29394, mz_c29398, mz_c29399, mz_c29400, mz_c29401, nI_add, pk_mul, pk_m1, mz_pp, mz_pq, s1]; congr 1; omega)) ?_
      try simp only [mz_c0, mz_cm1, s1]
      refine mz_br_t hC tk_X1_messagesDue rfl ((by show nI cnt ≤ nI cnt; exact nI_le (by omega) (by omega))) ?_
      refine mz_sn_ok hC tk_X1_messagesDue pk_RX1 1 [] rfl (by (repeat' apply And.intro) <;> first | exact True.intro | assumption | (simp only [mz_cm1, mz_c0, mz_c1, mz_c2, mz_c3, mz_c4, mz_c5, mz_c6, mz_c7, mz_c8, mz_c10, mz_c17, mz_c20, mz_c28, mz_c58, mz_c63, mz_c98, mz_c294, mz_c526, mz_c532, mz_c540, mz_c999, mz_c1900, mz_c2403, mz_c29362, mz_c29363, mz_c29364, mz_c29390, mz_c29393, mz_c29394, mz_c29398, mz_c29399, mz_c29400, mz_c29401, nI_add, pk_mul, pk_m1, mz_pp, mz_pq]; done) | omega | (simp only [mz_cm1, mz_c0, mz_c1, mz_c2, mz_c3, mz_c4, mz_c5, mz_c6, mz_c7, mz_c8, mz_c10, mz_c17, mz_c20, mz_c28, mz_c58, mz_c63, mz_c98, mz_c294, mz_c526, mz_c532, mz_c540, mz_c999, mz_c1900, mz_c2403, mz_c29362, mz_c29363, mz_c29364, mz_c29390, mz_c29393, mz_c29394, mz_c29398, mz_c29399, mz_c29400, mz_c29401, nI_add, pk_mul, pk_m1, mz_pp, mz_pq]; congr 1; omega)) ?_
      try simp only [mz_c0, mz_cm1]
      refine mz_Vireturn hC tk_X1_messagesDue rfl hret rfl (Nat.le_of_ble_eq_true rfl) (Nat.le_of_ble_eq_true rfl) ?_
      exact ⟨rfl, rfl, rfl⟩
    | succ d ih =>
      intro k hk
      refine mz_sn_ok hC tk_X1_messagesDue pk_RX1 4 [μ] rfl (by (repeat' apply And.intro) <;> first | exact True.intro | assumption | (simp only [mz_cm1, mz_c0, mz_c1, mz_c2, mz_c3, mz_c4, mz_c5, mz_c6, mz_c7, mz_c8, mz_c10, mz_c17, mz_c20, mz_c28, mz_c58, mz_c63, mz_c98, mz_c294, mz_c526, mz_c532, mz_c540, mz_c999, mz_c1900, mz_c2403, mz_c29362, mz_c29363, mz_c29364, mz_c29390, mz_c29393, mz_c29394, mz_c29398, mz_c29399, mz_c29400, mz_c29401, nI_add, pk_mul, pk_m1, mz_pp, mz_pq, s1]; done) | omega | (simp only [mz_cm1, mz_c0, mz_c1, mz_c2, mz_c3, mz_c4, mz_c5, mz_c6, mz_c7, mz_c8, mz_c10, mz_c17, mz_c20, mz_c28, mz_c58, mz_c63, mz_c98, mz_c294, mz_c526, mz_c532, mz_c540, mz_c999, mz_c1900, mz_c2403, mz_c29362, mz_c29363, mz_c29364, mz_c29390, mz_c29393, mz_c29394, mz_c29398, mz_c29399, mz_c29400, mz_c29401, nI_add, pk_mul, pk_m1, mz_pp, mz_pq, s1]; congr 1; omega)) ?_
      try simp only [mz_c0, mz_cm1, s1]
      refine mz_br_f hC tk_X1_messagesDue rfl ((by show ¬ nI cnt ≤ nI k; exact nI_ge (by omega) (by omega))) ?_
      refine mz_sn_ok hC tk_X1_messagesDue pk_RX1 3 [] rfl (by (repeat' apply And.intro) <;> first | exact True.intro | assumption | (simp only [mz_cm1, mz_c0, mz_c1, mz_c2, mz_c3, mz_c4, mz_c5, mz_c6, mz_c7, mz_c8, mz_c10, mz_c17, mz_c20, mz_c28, mz_c58, mz_c63, mz_c98, mz_c294, mz_c526, mz_c532, mz_c540, mz_c999, mz_c1900, mz_c2403, mz_c29362, mz_c29363, mz_c29364, mz_c29390, mz_c29393, mz_c29394, mz_c29398, mz_c29399, mz_c29400, mz_c29401, nI_add, pk_mul, pk_m1, mz_pp, mz_pq]; done) | omega | (simp only [mz_cm1, mz_c0, mz_c1, mz_c2, mz_c3, mz_c4, mz_c5, mz_c6, mz_c7, mz_c8, mz_c10, mz_c17, mz_c20, mz_c28, mz_c58, mz_c63, mz_c98, mz_c294, mz_c526, mz_c532, mz_c540, mz_c999, mz_c1900, mz_c2403, mz_c29362, mz_c29363, mz_c29364, mz_c29390, mz_c29393, mz_c29394, mz_c29398, mz_c29399, mz_c29400, mz_c29401, nI_add, pk_mul, pk_m1, mz_pp, mz_pq]; congr 1; omega)) ?_
      try simp only [mz_c0, mz_cm1]
      refine mz_Vcv hC tk_X1_messagesDue rfl md_X1_isDue lk_RX1_41 rfl (cc_isDue l E hY0.1 hB0 k (by omega)) (by show (vwCl[mz_K _ _]?).map _ = _; rw [hK]; rfl) ⟨Nat.le_of_ble_eq_true rfl, Nat.le_of_ble_eq_true rfl⟩ ⟨Nat.le_of_ble_eq_true rfl, Nat.le_of_ble_eq_true rfl⟩ (Nat.le_of_ble_eq_true rfl) (fun v9 G9 sz9 hp9 => ?_)
      obtain ⟨rfl, hG9, hs9⟩ := hp9
      rw [hG9, ← hs9]
      have e1 : mx_mc f m0 b (k + 1) = mx_mc f m0 b k + (if mx_cs f m0 b = 1 ∨ f (mx_CA m0 b + 1) < mx_mk f (98 * b + 17) k then 1 else 0) := rfl
      have e2 : (¬ f (mx_CA m0 b) = f (98 * b + 0) ∨ f (mx_CA m0 b + 1) < mx_mk f (98 * b + 17) k) ↔ (mx_cs f m0 b = 1 ∨ f (mx_CA m0 b + 1) < mx_mk f (98 * b + 17) k) := by rw [mr_cs1]
      have := ih (k + 1) (by omega)
      rw [e1] at this
      by_cases hd : mx_cs f m0 b = 1 ∨ f (mx_CA m0 b + 1) < mx_mk f (98 * b + 17) k
      · rw [if_pos (e2.mpr hd)]
        rw [if_pos hd] at this
        refine mz_br_f hC tk_X1_messagesDue rfl ((by show ¬ (1 : Int32) = 0; decide)) ?_
        refine mz_sn_ok hC tk_X1_messagesDue pk_RX1 3 [] rfl (by (repeat' apply And.intro) <;> first | exact True.intro | assumption | (simp only [mz_cm1, mz_c0, mz_c1, mz_c2, mz_c3, mz_c4, mz_c5, mz_c6, mz_c7, mz_c8, mz_c10, mz_c17, mz_c20, mz_c28, mz_c58, mz_c63, mz_c98, mz_c294, mz_c526, mz_c532, mz_c540, mz_c999, mz_c1900, mz_c2403, mz_c29362, mz_c29363, mz_c29364, mz_c29390, mz_c29393, mz_c29394, mz_c29398, mz_c29399, mz_c29400, mz_c29401, nI_add, pk_mul, pk_m1, mz_pp, mz_pq]; done) | omega | (simp only [mz_cm1, mz_c0, mz_c1, mz_c2, mz_c3, mz_c4, mz_c5, mz_c6, mz_c7, mz_c8, mz_c10, mz_c17, mz_c20, mz_c28, mz_c58, mz_c63, mz_c98, mz_c294, mz_c526, mz_c532, mz_c540, mz_c999, mz_c1900, mz_c2403, mz_c29362, mz_c29363, mz_c29364, mz_c29390, mz_c29393, mz_c29394, mz_c29398, mz_c29399, mz_c29400, mz_c29401, nI_add, pk_mul, pk_m1, mz_pp, mz_pq]; congr 1; omega)) ?_
        try simp only [mz_c0, mz_cm1]
        refine mz_V.sub (lv' := [some (.ref γ), some (.ref β), some (.int (nI (mx_mc f m0 b k + 1))), some (.int (nI (k + 1)))]) (by (repeat' apply And.intro) <;> first | with_reducible rfl | exact True.intro | (simp only [mz_cm1, mz_c0, mz_c1, mz_c2, mz_c3, mz_c4, mz_c5, mz_c6, mz_c7, mz_c8, mz_c10, mz_c17, mz_c20, mz_c28, mz_c58, mz_c63, mz_c98, mz_c294, mz_c526, mz_c532, mz_c540, mz_c999, mz_c1900, mz_c2403, mz_c29362, mz_c29363, mz_c29364, mz_c29390, mz_c29393, mz_c29394, mz_c29398, mz_c29399, mz_c29400, mz_c29401, nI_add, pk_mul, pk_m1, mz_pp, mz_pq]; done) | rfl) ?_
        exact this
      · rw [if_neg (fun z => hd (e2.mp z))]
        rw [if_neg hd] at this
        refine mz_br_t hC tk_X1_messagesDue rfl ((by show (0 : Int32) = 0; rfl)) ?_
        refine mz_sn_ok hC tk_X1_messagesDue pk_RX1 2 [] rfl (by (repeat' apply And.intro) <;> first | exact True.intro | assumption | (simp only [mz_cm1, mz_c0, mz_c1, mz_c2, mz_c3, mz_c4, mz_c5, mz_c6, mz_c7, mz_c8, mz_c10, mz_c17, mz_c20, mz_c28, mz_c58, mz_c63, mz_c98, mz_c294, mz_c526, mz_c532, mz_c540, mz_c999, mz_c1900, mz_c2403, mz_c29362, mz_c29363, mz_c29364, mz_c29390, mz_c29393, mz_c29394, mz_c29398, mz_c29399, mz_c29400, mz_c29401, nI_add, pk_mul, pk_m1, mz_pp, mz_pq]; done) | omega | (simp only [mz_cm1, mz_c0, mz_c1, mz_c2, mz_c3, mz_c4, mz_c5, mz_c6, mz_c7, mz_c8, mz_c10, mz_c17, mz_c20, mz_c28, mz_c58, mz_c63, mz_c98, mz_c294, mz_c526, mz_c532, mz_c540, mz_c999, mz_c1900, mz_c2403, mz_c29362, mz_c29363, mz_c29364, mz_c29390, mz_c29393, mz_c29394, mz_c29398, mz_c29399, mz_c29400, mz_c29401, nI_add, pk_mul, pk_m1, mz_pp, mz_pq]; congr 1; omega)) ?_
        try simp only [mz_c0, mz_cm1]
        refine mz_V.sub (lv' := [some (.ref γ), some (.ref β), some (.int (nI (mx_mc f m0 b k + 0))), some (.int (nI (k + 1)))]) (by (repeat' apply And.intro) <;> first | with_reducible rfl | exact True.intro | (simp only [mz_cm1, mz_c0, mz_c1, mz_c2, mz_c3, mz_c4, mz_c5, mz_c6, mz_c7, mz_c8, mz_c10, mz_c17, mz_c20, mz_c28, mz_c58, mz_c63, mz_c98, mz_c294, mz_c526, mz_c532, mz_c540, mz_c999, mz_c1900, mz_c2403, mz_c29362, mz_c29363, mz_c29364, mz_c29390, mz_c29393, mz_c29394, mz_c29398, mz_c29399, mz_c29400, mz_c29401, nI_add, pk_mul, pk_m1, mz_pp, mz_pq]; done) | rfl) ?_
        exact this
  refine mz_sn_ok hC tk_X1_messagesDue pk_RX1 4 [] rfl (by (repeat' apply And.intro) <;> first | exact True.intro | assumption | (simp only [mz_cm1, mz_c0, mz_c1, mz_c2, mz_c3, mz_c4, mz_c5, mz_c6, mz_c7, mz_c8, mz_c10, mz_c17, mz_c20, mz_c28, mz_c58, mz_c63, mz_c98, mz_c294, mz_c526, mz_c532, mz_c540, mz_c999, mz_c1900, mz_c2403, mz_c29362, mz_c29363, mz_c29364, mz_c29390, mz_c29393, mz_c29394, mz_c29398, mz_c29399, mz_c29400, mz_c29401, nI_add, pk_mul, pk_m1, mz_pp, mz_pq]; done) | omega | (simp only [mz_cm1, mz_c0, mz_c1, mz_c2, mz_c3, mz_c4, mz_c5, mz_c6, mz_c7, mz_c8, mz_c10, mz_c17, mz_c20, mz_c28, mz_c58, mz_c63, mz_c98, mz_c294, mz_c526, mz_c532, mz_c540, mz_c999, mz_c1900, mz_c2403, mz_c29362, mz_c29363, mz_c29364, mz_c29390, mz_c29393, mz_c29394, mz_c29398, mz_c29399, mz_c29400, mz_c29401, nI_add, pk_mul, pk_m1, mz_pp, mz_pq]; congr 1; omega)) ?_
  try simp only [mz_c0, mz_cm1]
  refine mz_V.sub (lv' := [some (.ref γ), some (.ref β), some (.int (nI 0)), some (.int (nI 0))]) (by (repeat' apply And.intro) <;> first | with_reducible rfl | exact True.intro | (simp only [mz_cm1, mz_c0, mz_c1, mz_c2, mz_c3, mz_c4, mz_c5, mz_c6, mz_c7, mz_c8, mz_c10, mz_c17, mz_c20, mz_c28, mz_c58, mz_c63, mz_c98, mz_c294, mz_c526, mz_c532, mz_c540, mz_c999, mz_c1900, mz_c2403, mz_c29362, mz_c29363, mz_c29364, mz_c29390, mz_c29393, mz_c29394, mz_c29398, mz_c29399, mz_c29400, mz_c29401, nI_add, pk_mul, pk_m1, mz_pp, mz_pq]; done) | rfl) ?_
  exact loop cnt 0 (by omega)
theorem cc_lostSince (hY : mr_C G O sz γ τ f m0 b cc len) (hB : mr_B G O sz β μ ν f b cnt g) : mz_M l E yX1_lostSince cX1_lostSince 4 (some .int) 2 0 0 [.ref γ, .ref β] G sz (fun v' G' sz' => v' = some (.int (nI (mx_gc f m0 b g))) ∧ G' = G ∧ sz = sz') := by
  obtain ⟨⟨⟨⟨⟨hK, hO, hs⟩, i0, i1⟩, r2⟩, tc⟩, hcc⟩ := hY
  obtain ⟨⟨⟨⟨hKb, hOb, hsb⟩, j0, j1, j2, j3⟩, r4, r5, hne⟩, ⟨t1, t2⟩, hc1, hc2⟩ := hB
  have k1 := t1.K
  have k2 := t2.K
  have kc := tc.K
  have s1 := t1.s
  have s2 := t2.s
  have sc := tc.s
  obtain ⟨c20, -, -⟩ := t1.b
  obtain ⟨g6, -, -⟩ := t2.b
  obtain ⟨c532, -, -⟩ := tc.b
  refine mz_start (by decide) (Nat.le_of_ble_eq_true rfl) ?_
  intro p e s m args below meth c hC hret hnm
  have loop : ∀ (d k : Nat), k + d = g → mz_V E p l e (mz_rm 2 0 0) s m args below meth c 4 (0) (0) (mz_Z E below args s 0 0 (fun v' G' sz' => v' = some (.int (nI (mx_gc f m0 b g))) ∧ G' = G ∧ sz = sz')) (G) (sz) (4) [some (.ref γ), some (.ref β), some (.int (nI (mx_gc f m0 b k))), some (.int (nI k))] [] := by
    intro d
    induction d with
    | zero =>
      intro k hk
      rw [show k = g by omega]
      refine mz_sn_ok hC tk_X1_lostSince pk_RX1 4 [ν] rfl (by (repeat' apply And.intro) <;> first | exact True.intro | assumption | (simp only [mz_cm1, mz_c0, mz_c1, mz_c2, mz_c3, mz_c4, mz_c5, mz_c6, mz_c7, mz_c8, mz_c10, mz_c17, mz_c20, mz_c28, mz_c58, mz_c63, mz_c98, mz_c294, mz_c526, mz_c532, mz_c540, mz_c999, mz_c1900, mz_c2403, mz_c29362, mz_c29363, mz_c29364, mz_c29390, mz_c29393, mz_c29394, mz_c29398, mz_c29399, mz_c29400, mz_c29401, nI_add, pk_mul, pk_m1, mz_pp, mz_pq, s2]; done) | omega | (simp only [mz_cm1, mz_c0, mz_c1, mz_c2, mz_c3, mz_c4, mz_c5, mz_c6, mz_c7, mz_c8, mz_c10, mz_c17, mz_c20, mz_c28, mz_c58, mz_c63, mz_c98, mz_c294, mz_c526, mz_c532, mz_c540, mz_c999, mz_c1900, mz_c2403, mz_c29362, mz_c29363, mz_c29364, mz_c29390, mz_c29393, mz_c29394, mz_c29398, mz_c29399, mz_c29400, mz_c29401, nI_add, pk_mul, pk_m1, mz_pp, mz_pq, s2]; congr 1; omega)) ?_
      try simp only [mz_c0, mz_cm1, s2]
      refine mz_br_t hC tk_X1_lostSince rfl ((by show nI g ≤ nI g; exact nI_le (by omega) (by omega))) ?_
      refine mz_sn_ok hC tk_X1_lostSince pk_RX1 1 [] rfl (by (repeat' apply And.intro) <;> first | exact True.intro | assumption | (simp only [mz_cm1, mz_c0, mz_c1, mz_c2, mz_c3, mz_c4, mz_c5, mz_c6, mz_c7, mz_c8, mz_c10, mz_c17, mz_c20, mz_c28, mz_c58, mz_c63, mz_c98, mz_c294, mz_c526, mz_c532, mz_c540, mz_c999, mz_c1900, mz_c2403, mz_c29362, mz_c29363, mz_c29364, mz_c29390, mz_c29393, mz_c29394, mz_c29398, mz_c29399, mz_c29400, mz_c29401, nI_add, pk_mul, pk_m1, mz_pp, mz_pq]; done) | omega | (simp only [mz_cm1, mz_c0, mz_c1, mz_c2, mz_c3, mz_c4, mz_c5, mz_c6, mz_c7, mz_c8, mz_c10, mz_c17, mz_c20, mz_c28, mz_c58, mz_c63, mz_c98, mz_c294, mz_c526, mz_c532, mz_c540, mz_c999, mz_c1900, mz_c2403, mz_c29362, mz_c29363, mz_c29364, mz_c29390, mz_c29393, mz_c29394, mz_c29398, mz_c29399, mz_c29400, mz_c29401, nI_add, pk_mul, pk_m1, mz_pp, mz_pq]; congr 1; omega)) ?_
      try simp only [mz_c0, mz_cm1]
      refine mz_Vireturn hC tk_X1_lostSince rfl hret rfl (Nat.le_of_ble_eq_true rfl) (Nat.le_of_ble_eq_true rfl) ?_
      exact ⟨rfl, rfl, rfl⟩
    | succ d ih =>
      intro k hk
      refine mz_sn_ok hC tk_X1_lostSince pk_RX1 4 [ν] rfl (by (repeat' apply And.intro) <;> first | exact True.intro | assumption | (simp only [mz_cm1, mz_c0, mz_c1, mz_c2, mz_c3, mz_c4, mz_c5, mz_c6, mz_c7, mz_c8, mz_c10, mz_c17, mz_c20, mz_c28, mz_c58, mz_c63, mz_c98, mz_c294, mz_c526, mz_c532, mz_c540, mz_c999, mz_c1900, mz_c2403, mz_c29362, mz_c29363, mz_c29364, mz_c29390, mz_c29393, mz_c29394, mz_c29398, mz_c29399, mz_c29400, mz_c29401, nI_add, pk_mul, pk_m1, mz_pp, mz_pq, s2]; done) | omega | (simp only [mz_cm1, mz_c0, mz_c1, mz_c2, mz_c3, mz_c4, mz_c5, mz_c6, mz_c7, mz_c8, mz_c10, mz_c17, mz_c20, mz_c28, mz_c58, mz_c63, mz_c98, mz_c294, mz_c526, mz_c532, mz_c540, mz_c999, mz_c1900, mz_c2403, mz_c29362, mz_c29363, mz_c29364, mz_c29390, mz_c29393, mz_c29394, mz_c29398, mz_c29399, mz_c29400, mz_c29401, nI_add, pk_mul, pk_m1, mz_pp, mz_pq, s2]; congr 1; omega)) ?_
      try simp only [mz_c0, mz_cm1, s2]
      refine mz_br_f hC tk_X1_lostSince rfl ((by show ¬ nI g ≤ nI k; exact nI_ge (by omega) (by omega))) ?_
      refine mz_sn_ok hC tk_X1_lostSince pk_RX1 4 [ν] rfl (by (repeat' apply And.intro) <;> first | exact True.intro | assumption | (simp only [mz_cm1, mz_c0, mz_c1, mz_c2, mz_c3, mz_c4, mz_c5, mz_c6, mz_c7, mz_c8, mz_c10, mz_c17, mz_c20, mz_c28, mz_c58, mz_c63, mz_c98, mz_c294, mz_c526, mz_c532, mz_c540, mz_c999, mz_c1900, mz_c2403, mz_c29362, mz_c29363, mz_c29364, mz_c29390, mz_c29393, mz_c29394, mz_c29398, mz_c29399, mz_c29400, mz_c29401, nI_add, pk_mul, pk_m1, mz_pp, mz_pq]; done) | omega | (simp only [mz_cm1, mz_c0, mz_c1, mz_c2, mz_c3, mz_c4, mz_c5, mz_c6, mz_c7, mz_c8, mz_c10, mz_c17, mz_c20, mz_c28, mz_c58, mz_c63, mz_c98, mz_c294, mz_c526, mz_c532, mz_c540, mz_c999, mz_c1900, mz_c2403, mz_c29362, mz_c29363, mz_c29364, mz_c29390, mz_c29393, mz_c29394, mz_c29398, mz_c29399, mz_c29400, mz_c29401, nI_add, pk_mul, pk_m1, mz_pp, mz_pq]; congr 1; omega)) ?_
      try simp only [mz_c0, mz_cm1]
      refine mz_Vcv hC tk_X1_lostSince rfl md_X4_cell lk_RX1_34 rfl (ct_cell l E t2 (nI k) (nI 1)) (by show (vwCl[mz_K _ _]?).map _ = _; rw [k2]; rfl) ⟨Nat.le_of_ble_eq_true rfl, Nat.le_of_ble_eq_true rfl⟩ ⟨Nat.le_of_ble_eq_true rfl, Nat.le_of_ble_eq_true rfl⟩ (Nat.le_of_ble_eq_true rfl) (fun v9 G9 sz9 hp9 => ?_)
      obtain ⟨rfl, hG9, hs9⟩ := hp9
      rw [hG9, ← hs9, mt_c_in (show k < g by omega) (by omega) (by omega) (by omega)]
      refine mz_sn_ok hC tk_X1_lostSince pk_RX1 2 [] rfl (by (repeat' apply And.intro) <;> first | exact True.intro | assumption | (simp only [mz_cm1, mz_c0, mz_c1, mz_c2, mz_c3, mz_c4, mz_c5, mz_c6, mz_c7, mz_c8, mz_c10, mz_c17, mz_c20, mz_c28, mz_c58, mz_c63, mz_c98, mz_c294, mz_c526, mz_c532, mz_c540, mz_c999, mz_c1900, mz_c2403, mz_c29362, mz_c29363, mz_c29364, mz_c29390, mz_c29393, mz_c29394, mz_c29398, mz_c29399, mz_c29400, mz_c29401, nI_add, pk_mul, pk_m1, mz_pp, mz_pq, i1]; done) | omega | (simp only [mz_cm1, mz_c0, mz_c1, mz_c2, mz_c3, mz_c4, mz_c5, mz_c6, mz_c7, mz_c8, mz_c10, mz_c17, mz_c20, mz_c28, mz_c58, mz_c63, mz_c98, mz_c294, mz_c526, mz_c532, mz_c540, mz_c999, mz_c1900, mz_c2403, mz_c29362, mz_c29363, mz_c29364, mz_c29390, mz_c29393, mz_c29394, mz_c29398, mz_c29399, mz_c29400, mz_c29401, nI_add, pk_mul, pk_m1, mz_pp, mz_pq, i1]; congr 1; omega)) ?_
      try simp only [mz_c0, mz_cm1, i1]
      have e0 : mr_h f (98 * b + 4) 2 k 1 = f (98 * b + 4 + 2 + 2 * k) := by show f _ = f _; congr 1; omega
      rw [e0]
      have e1 : mx_gc f m0 b (k + 1) = mx_gc f m0 b k + (if f (mx_CA m0 b + 1) < f (98 * b + 4 + 2 + 2 * k) then 1 else 0) := rfl
      have := ih (k + 1) (by omega)
      rw [e1] at this
      by_cases hd : f (mx_CA m0 b + 1) < f (98 * b + 4 + 2 + 2 * k)
      · rw [if_pos hd] at this
        refine mz_br_f hC tk_X1_lostSince rfl ((by show ¬ f (98 * b + 4 + 2 + 2 * k) ≤ f (mx_CA m0 b + 1); exact mz_lt_nle hd)) ?_
        refine mz_sn_ok hC tk_X1_lostSince pk_RX1 3 [] rfl (by (repeat' apply And.intro) <;> first | exact True.intro | assumption | (simp only [mz_cm1, mz_c0, mz_c1, mz_c2, mz_c3, mz_c4, mz_c5, mz_c6, mz_c7, mz_c8, mz_c10, mz_c17, mz_c20, mz_c28, mz_c58, mz_c63, mz_c98, mz_c294, mz_c526, mz_c532, mz_c540, mz_c999, mz_c1900, mz_c2403, mz_c29362, mz_c29363, mz_c29364, mz_c29390, mz_c29393, mz_c29394, mz_c29398, mz_c29399, mz_c29400, mz_c29401, nI_add, pk_mul, pk_m1, mz_pp, mz_pq]; done) | omega | (simp only [mz_cm1, mz_c0, mz_c1, mz_c2, mz_c3, mz_c4, mz_c5, mz_c6, mz_c7, mz_c8, mz_c10, mz_c17, mz_c20, mz_c28, mz_c58, mz_c63, mz_c98, mz_c294, mz_c526, mz_c532, mz_c540, mz_c999, mz_c1900, mz_c2403, mz_c29362, mz_c29363, mz_c29364, mz_c29390, mz_c29393, mz_c29394, mz_c29398, mz_c29399, mz_c29400, mz_c29401, nI_add, pk_mul, pk_m1, mz_pp, mz_pq]; congr 1; omega)) ?_
        try simp only [mz_c0, mz_cm1]
        refine mz_V.sub (lv' := [some (.ref γ), some (.ref β), some (.int (nI (mx_gc f m0 b k + 1))), some (.int (nI (k + 1)))]) (by (repeat' apply And.intro) <;> first | with_reducible rfl | exact True.intro | (simp only [mz_cm1, mz_c0, mz_c1, mz_c2, mz_c3, mz_c4, mz_c5, mz_c6, mz_c7, mz_c8, mz_c10, mz_c17, mz_c20, mz_c28, mz_c58, mz_c63, mz_c98, mz_c294, mz_c526, mz_c532, mz_c540, mz_c999, mz_c1900, mz_c2403, mz_c29362, mz_c29363, mz_c29364, mz_c29390, mz_c29393, mz_c29394, mz_c29398, mz_c29399, mz_c29400, mz_c29401, nI_add, pk_mul, pk_m1, mz_pp, mz_pq]; done) | rfl) ?_
        exact this
      · rw [if_neg hd] at this
        refine mz_br_t hC tk_X1_lostSince rfl ((by show f (98 * b + 4 + 2 + 2 * k) ≤ f (mx_CA m0 b + 1); rw [mz_ltI] at hd; rw [mz_leI]; omega)) ?_
        refine mz_sn_ok hC tk_X1_lostSince pk_RX1 2 [] rfl (by (repeat' apply And.intro) <;> first | exact True.intro | assumption | (simp only [mz_cm1, mz_c0, mz_c1, mz_c2, mz_c3, mz_c4, mz_c5, mz_c6, mz_c7, mz_c8, mz_c10, mz_c17, mz_c20, mz_c28, mz_c58, mz_c63, mz_c98, mz_c294, mz_c526, mz_c532, mz_c540, mz_c999, mz_c1900, mz_c2403, mz_c29362, mz_c29363, mz_c29364, mz_c29390, mz_c29393, mz_c29394, mz_c29398, mz_c29399, mz_c29400, mz_c29401, nI_add, pk_mul, pk_m1, mz_pp, mz_pq]; done) | omega | (simp only [mz_cm1, mz_c0, mz_c1, mz_c2, mz_c3, mz_c4, mz_c5, mz_c6, mz_c7, mz_c8, mz_c10, mz_c17, mz_c20, mz_c28, mz_c58, mz_c63, mz_c98, mz_c294, mz_c526, mz_c532, mz_c540, mz_c999, mz_c1900, mz_c2403, mz_c29362, mz_c29363, mz_c29364, mz_c29390, mz_c29393, mz_c29394, mz_c29398, mz_c29399, mz_c29400, mz_c29401, nI_add, pk_mul, pk_m1, mz_pp, mz_pq]; congr 1; omega)) ?_
        try simp only [mz_c0, mz_cm1]
        refine mz_V.sub (lv' := [some (.ref γ), some (.ref β), some (.int (nI (mx_gc f m0 b k + 0))), some (.int (nI (k + 1)))]) (by (repeat' apply And.intro) <;> first | with_reducible rfl | exact True.intro | (simp only [mz_cm1, mz_c0, mz_c1, mz_c2, mz_c3, mz_c4, mz_c5, mz_c6, mz_c7, mz_c8, mz_c10, mz_c17, mz_c20, mz_c28, mz_c58, mz_c63, mz_c98, mz_c294, mz_c526, mz_c532, mz_c540, mz_c999, mz_c1900, mz_c2403, mz_c29362, mz_c29363, mz_c29364, mz_c29390, mz_c29393, mz_c29394, mz_c29398, mz_c29399, mz_c29400, mz_c29401, nI_add, pk_mul, pk_m1, mz_pp, mz_pq]; done) | rfl) ?_
        exact this
  refine mz_sn_ok hC tk_X1_lostSince pk_RX1 4 [] rfl (by (repeat' apply And.intro) <;> first | exact True.intro | assumption | (simp only [mz_cm1, mz_c0, mz_c1, mz_c2, mz_c3, mz_c4, mz_c5, mz_c6, mz_c7, mz_c8, mz_c10, mz_c17, mz_c20, mz_c28, mz_c58, mz_c63, mz_c98, mz_c294, mz_c526, mz_c532, mz_c540, mz_c999, mz_c1900, mz_c2403, mz_c29362, mz_c29363, mz_c29364, mz_c29390, mz_c29393, mz_c29394, mz_c29398, mz_c29399, mz_c29400, mz_c29401, nI_add, pk_mul, pk_m1, mz_pp, mz_pq]; done) | omega | (simp only [mz_cm1, mz_c0, mz_c1, mz_c2, mz_c3, mz_c4, mz_c5, mz_c6, mz_c7, mz_c8, mz_c10, mz_c17, mz_c20, mz_c28, mz_c58, mz_c63, mz_c98, mz_c294, mz_c526, mz_c532, mz_c540, mz_c999, mz_c1900, mz_c2403, mz_c29362, mz_c29363, mz_c29364, mz_c29390, mz_c29393, mz_c29394, mz_c29398, mz_c29399, mz_c29400, mz_c29401, nI_add, pk_mul, pk_m1, mz_pp, mz_pq]; congr 1; omega)) ?_
  try simp only [mz_c0, mz_cm1]
  refine mz_V.sub (lv' := [some (.ref γ), some (.ref β), some (.int (nI 0)), some (.int (nI 0))]) (by (repeat' apply And.intro) <;> first | with_reducible rfl | exact True.intro | (simp only [mz_cm1, mz_c0, mz_c1, mz_c2, mz_c3, mz_c4, mz_c5, mz_c6, mz_c7, mz_c8, mz_c10, mz_c17, mz_c20, mz_c28, mz_c58, mz_c63, mz_c98, mz_c294, mz_c526, mz_c532, mz_c540, mz_c999, mz_c1900, mz_c2403, mz_c29362, mz_c29363, mz_c29364, mz_c29390, mz_c29393, mz_c29394, mz_c29398, mz_c29399, mz_c29400, mz_c29401, nI_add, pk_mul, pk_m1, mz_pp, mz_pq]; done) | rfl) ?_
  exact loop g 0 (by omega)
theorem cc_namesDue (hY : mr_C G O sz γ τ f m0 b cc len) (hB : mr_B G O sz β μ ν f b cnt g) : mz_M l E yX1_namesDue cX1_namesDue 2 (some .int) 3 0 0 [.ref γ, .ref β] G sz (fun v' G' sz' => v' = some (.int (nI (mx_nc f m0 b cnt g))) ∧ G' = G ∧ sz = sz') := by
  have hY0 := hY
  have hB0 := hB
  obtain ⟨⟨⟨⟨⟨hK, hO, hs⟩, i0, i1⟩, r2⟩, tc⟩, hcc⟩ := hY
  obtain ⟨⟨⟨⟨hKb, hOb, hsb⟩, j0, j1, j2, j3⟩, r4, r5, hne⟩, ⟨t1, t2⟩, hc1, hc2⟩ := hB
  have k1 := t1.K
  have k2 := t2.K
  have kc := tc.K
  have s1 := t1.s
  have s2 := t2.s
  have sc := tc.s
  obtain ⟨c20, -, -⟩ := t1.b
  obtain ⟨g6, -, -⟩ := t2.b
  obtain ⟨c532, -, -⟩ := tc.b
  refine mz_start (by decide) (Nat.le_of_ble_eq_true rfl) ?_
  intro p e s m args below meth c hC hret hnm
  refine mz_sn_ok hC tk_X1_namesDue pk_RX1 2 [] rfl (by (repeat' apply And.intro) <;> first | exact True.intro | assumption | (simp only [mz_cm1, mz_c0, mz_c1, mz_c2, mz_c3, mz_c4, mz_c5, mz_c6, mz_c7, mz_c8, mz_c10, mz_c17, mz_c20, mz_c28, mz_c58, mz_c63, mz_c98, mz_c294, mz_c526, mz_c532, mz_c540, mz_c999, mz_c1900, mz_c2403, mz_c29362, mz_c29363, mz_c29364, mz_c29390, mz_c29393, mz_c29394, mz_c29398, mz_c29399, mz_c29400, mz_c29401, nI_add, pk_mul, pk_m1, mz_pp, mz_pq]; done) | omega | (simp only [mz_cm1, mz_c0, mz_c1, mz_c2, mz_c3, mz_c4, mz_c5, mz_c6, mz_c7, mz_c8, mz_c10, mz_c17, mz_c20, mz_c28, mz_c58, mz_c63, mz_c98, mz_c294, mz_c526, mz_c532, mz_c540, mz_c999, mz_c1900, mz_c2403, mz_c29362, mz_c29363, mz_c29364, mz_c29390, mz_c29393, mz_c29394, mz_c29398, mz_c29399, mz_c29400, mz_c29401, nI_add, pk_mul, pk_m1, mz_pp, mz_pq]; congr 1; omega)) ?_
  try simp only [mz_c0, mz_cm1]
  refine mz_Vcv hC tk_X1_namesDue rfl md_X1_caseOfSync lk_RX1_45 rfl (cc_case l E hY0 hB0) (by show (vwCl[mz_K _ _]?).map _ = _; rw [hK]; rfl) ⟨Nat.le_of_ble_eq_true rfl, Nat.le_of_ble_eq_true rfl⟩ ⟨Nat.le_of_ble_eq_true rfl, Nat.le_of_ble_eq_true rfl⟩ (Nat.le_of_ble_eq_true rfl) (fun v9 G9 sz9 hp9 => ?_)
  obtain ⟨rfl, hG9, hs9⟩ := hp9
  rw [hG9, ← hs9]
  rcases mx_cs_le f m0 b with h | h | h
  · refine mz_Vlook (tgt := 32) (off := 27) hC tk_X1_namesDue 1 rfl (by rw [h]) (by omega) (by decide) (by decide) (by decide) ?_
    refine mz_sn_ok hC tk_X1_namesDue pk_RX1 1 [] rfl (by (repeat' apply And.intro) <;> first | exact True.intro | assumption | (simp only [mz_cm1, mz_c0, mz_c1, mz_c2, mz_c3, mz_c4, mz_c5, mz_c6, mz_c7, mz_c8, mz_c10, mz_c17, mz_c20, mz_c28, mz_c58, mz_c63, mz_c98, mz_c294, mz_c526, mz_c532, mz_c540, mz_c999, mz_c1900, mz_c2403, mz_c29362, mz_c29363, mz_c29364, mz_c29390, mz_c29393, mz_c29394, mz_c29398, mz_c29399, mz_c29400, mz_c29401, nI_add, pk_mul, pk_m1, mz_pp, mz_pq]; done) | omega | (simp only [mz_cm1, mz_c0, mz_c1, mz_c2, mz_c3, mz_c4, mz_c5, mz_c6, mz_c7, mz_c8, mz_c10, mz_c17, mz_c20, mz_c28, mz_c58, mz_c63, mz_c98, mz_c294, mz_c526, mz_c532, mz_c540, mz_c999, mz_c1900, mz_c2403, mz_c29362, mz_c29363, mz_c29364, mz_c29390, mz_c29393, mz_c29394, mz_c29398, mz_c29399, mz_c29400, mz_c29401, nI_add, pk_mul, pk_m1, mz_pp, mz_pq]; congr 1; omega)) ?_
    try simp only [mz_c0, mz_cm1]
    refine mz_Vireturn hC tk_X1_namesDue rfl hret rfl (Nat.le_of_ble_eq_true rfl) (Nat.le_of_ble_eq_true rfl) ?_
    exact ⟨by unfold mx_nc; rw [if_neg (by omega), if_neg (by omega)], rfl, rfl⟩
  · refine mz_Vlook (tgt := 34) (off := 29) hC tk_X1_namesDue 2 rfl (by rw [h]) (by omega) (by decide) (by decide) (by decide) ?_
    refine mz_sn_ok hC tk_X1_namesDue pk_RX1 2 [] rfl (by (repeat' apply And.intro) <;> first | exact True.intro | assumption | (simp only [mz_cm1, mz_c0, mz_c1, mz_c2, mz_c3, mz_c4, mz_c5, mz_c6, mz_c7, mz_c8, mz_c10, mz_c17, mz_c20, mz_c28, mz_c58, mz_c63, mz_c98, mz_c294, mz_c526, mz_c532, mz_c540, mz_c999, mz_c1900, mz_c2403, mz_c29362, mz_c29363, mz_c29364, mz_c29390, mz_c29393, mz_c29394, mz_c29398, mz_c29399, mz_c29400, mz_c29401, nI_add, pk_mul, pk_m1, mz_pp, mz_pq]; done) | omega | (simp only [mz_cm1, mz_c0, mz_c1, mz_c2, mz_c3, mz_c4, mz_c5, mz_c6, mz_c7, mz_c8, mz_c10, mz_c17, mz_c20, mz_c28, mz_c58, mz_c63, mz_c98, mz_c294, mz_c526, mz_c532, mz_c540, mz_c999, mz_c1900, mz_c2403, mz_c29362, mz_c29363, mz_c29364, mz_c29390, mz_c29393, mz_c29394, mz_c29398, mz_c29399, mz_c29400, mz_c29401, nI_add, pk_mul, pk_m1, mz_pp, mz_pq]; congr 1; omega)) ?_
    try simp only [mz_c0, mz_cm1]
    refine mz_Vcv hC tk_X1_namesDue rfl md_X1_lostSince lk_RX1_49 rfl (cc_lostSince l E hY0 hB0) (by show (vwCl[mz_K _ _]?).map _ = _; rw [hK]; rfl) ⟨Nat.le_of_ble_eq_true rfl, Nat.le_of_ble_eq_true rfl⟩ ⟨Nat.le_of_ble_eq_true rfl, Nat.le_of_ble_eq_true rfl⟩ (Nat.le_of_ble_eq_true rfl) (fun v9 G9 sz9 hp9 => ?_)
    obtain ⟨rfl, hG10, hs10⟩ := hp9
    rw [hG10, ← hs10]
    refine mz_Vireturn hC tk_X1_namesDue rfl hret rfl (Nat.le_of_ble_eq_true rfl) (Nat.le_of_ble_eq_true rfl) ?_
    exact ⟨by unfold mx_nc; rw [if_neg (by omega), if_pos h], rfl, rfl⟩
  · refine mz_Vlook (tgt := 40) (off := 35) hC tk_X1_namesDue 3 rfl (by rw [h]) (by omega) (by decide) (by decide) (by decide) ?_
    refine mz_sn_ok hC tk_X1_namesDue pk_RX1 3 [μ] rfl (by (repeat' apply And.intro) <;> first | exact True.intro | assumption | (simp only [mz_cm1, mz_c0, mz_c1, mz_c2, mz_c3, mz_c4, mz_c5, mz_c6, mz_c7, mz_c8, mz_c10, mz_c17, mz_c20, mz_c28, mz_c58, mz_c63, mz_c98, mz_c294, mz_c526, mz_c532, mz_c540, mz_c999, mz_c1900, mz_c2403, mz_c29362, mz_c29363, mz_c29364, mz_c29390, mz_c29393, mz_c29394, mz_c29398, mz_c29399, mz_c29400, mz_c29401, nI_add, pk_mul, pk_m1, mz_pp, mz_pq, s1]; done) | omega | (simp only [mz_cm1, mz_c0, mz_c1, mz_c2, mz_c3, mz_c4, mz_c5, mz_c6, mz_c7, mz_c8, mz_c10, mz_c17, mz_c20, mz_c28, mz_c58, mz_c63, mz_c98, mz_c294, mz_c526, mz_c532, mz_c540, mz_c999, mz_c1900, mz_c2403, mz_c29362, mz_c29363, mz_c29364, mz_c29390, mz_c29393, mz_c29394, mz_c29398, mz_c29399, mz_c29400, mz_c29401, nI_add, pk_mul, pk_m1, mz_pp, mz_pq, s1]; congr 1; omega)) ?_
    try simp only [mz_c0, mz_cm1, s1]
    refine mz_Vireturn hC tk_X1_namesDue rfl hret rfl (Nat.le_of_ble_eq_true rfl) (Nat.le_of_ble_eq_true rfl) ?_
    exact ⟨by unfold mx_nc; rw [if_pos h], rfl, rfl⟩
theorem cc_dropMessage {z0 z1 : Int32} {L : Nat} (hY : mr_Cn G O sz γ τ z0 z1 cc len (mr_h f L 4)) (name : Int32) (r : (Nat → Int32) × Nat) (hr : r = (match mz_fz (mx_nm f L) name cc with
    | none => (f, cc)
    | some h => (mx_dr f L cc h, cc - 1))) : mz_M l E yX1_dropMessage cX1_dropMessage 2 none 4 0 0 [.ref γ, .int name] G sz (fun v' G' sz' => v' = none ∧ sz = sz' ∧ mr_Cn G' O sz γ τ z0 z1 r.2 len (mr_h r.1 L 4) ∧ mt_F (mr_Y γ τ) G G' O O sz sz) := by
  have hY0 := hY
  obtain ⟨⟨⟨⟨hK, hO, hs⟩, i0, i1⟩, r2⟩, tc⟩ := hY
  have kc := tc.K
  obtain ⟨c532, -, -⟩ := tc.b
  refine mz_start (by decide) (Nat.le_of_ble_eq_true rfl) ?_
  intro p e s m args below meth c hC hret hnm
  refine mz_sn_ok hC tk_X1_dropMessage pk_RX1 6 [τ, τ] rfl (by (repeat' apply And.intro) <;> first | exact True.intro | assumption | (simp only [mz_cm1, mz_c0, mz_c1, mz_c2, mz_c3, mz_c4, mz_c5, mz_c6, mz_c7, mz_c8, mz_c10, mz_c17, mz_c20, mz_c28, mz_c58, mz_c63, mz_c98, mz_c294, mz_c526, mz_c532, mz_c540, mz_c999, mz_c1900, mz_c2403, mz_c29362, mz_c29363, mz_c29364, mz_c29390, mz_c29393, mz_c29394, mz_c29398, mz_c29399, mz_c29400, mz_c29401, nI_add, pk_mul, pk_m1, mz_pp, mz_pq]; done) | omega | (simp only [mz_cm1, mz_c0, mz_c1, mz_c2, mz_c3, mz_c4, mz_c5, mz_c6, mz_c7, mz_c8, mz_c10, mz_c17, mz_c20, mz_c28, mz_c58, mz_c63, mz_c98, mz_c294, mz_c526, mz_c532, mz_c540, mz_c999, mz_c1900, mz_c2403, mz_c29362, mz_c29363, mz_c29364, mz_c29390, mz_c29393, mz_c29394, mz_c29398, mz_c29399, mz_c29400, mz_c29401, nI_add, pk_mul, pk_m1, mz_pp, mz_pq]; congr 1; omega)) ?_
  try simp only [mz_c0, mz_cm1]
  refine mz_Vcv hC tk_X1_dropMessage rfl md_X4_rowWith lk_RX1_74 rfl (ct_rowWith l E tc 0 name (by omega)) (by show (vwCl[mz_K _ _]?).map _ = _; rw [kc]; rfl) ⟨Nat.le_of_ble_eq_true rfl, Nat.le_of_ble_eq_true rfl⟩ ⟨Nat.le_of_ble_eq_true rfl, Nat.le_of_ble_eq_true rfl⟩ (Nat.le_of_ble_eq_true rfl) (fun v9 G9 sz9 hp9 => ?_)
  obtain ⟨rfl, hG9, hs9⟩ := hp9
  rw [hG9, ← hs9]
  have e0 : mz_fi (fun k => mr_h f L 4 k 0) name cc = mz_fi (mx_nm f L) name cc := rfl
  rw [e0]
  unfold mz_fi
  cases hz : mz_fz (mx_nm f L) name cc with
  | none =>
    rw [hz] at hr
    dsimp only at hr ⊢
    refine mz_Vcv hC tk_X1_dropMessage rfl md_X4_erase lk_RX1_77 rfl (ct_erase_no l E tc) (by show (vwCl[mz_K _ _]?).map _ = _; rw [kc]; rfl) ⟨Nat.le_of_ble_eq_true rfl, Nat.le_of_ble_eq_true rfl⟩ ⟨Nat.le_of_ble_eq_true rfl, Nat.le_of_ble_eq_true rfl⟩ (Nat.le_of_ble_eq_true rfl) (fun v9 G9 sz9 hp9 => ?_)
    obtain ⟨rfl, hG10, hs10⟩ := hp9
    rw [hG10, ← hs10]
    refine mz_Vreturn hC tk_X1_dropMessage rfl hret (Nat.le_of_ble_eq_true rfl) (Nat.le_of_ble_eq_true rfl) ?_
    rw [hr]
    exact ⟨rfl, rfl, hY0, mt_F.rf⟩
  | some h =>
    rw [hz] at hr
    dsimp only at hr ⊢
    obtain ⟨h1, -, -⟩ := mz_fz_some hz
    refine mz_Vcv hC tk_X1_dropMessage rfl md_X4_erase lk_RX1_77 rfl (ct_erase l E tc h h1) (by show (vwCl[mz_K _ _]?).map _ = _; rw [kc]; rfl) ⟨Nat.le_of_ble_eq_true rfl, Nat.le_of_ble_eq_true rfl⟩ ⟨Nat.le_of_ble_eq_true rfl, Nat.le_of_ble_eq_true rfl⟩ (Nat.le_of_ble_eq_true rfl) (fun v9 G9 sz9 hp9 => ?_)
    obtain ⟨rfl, hs10, t3, hF3⟩ := hp9
    rw [← hs10]
    refine mz_Vreturn hC tk_X1_dropMessage rfl hret (Nat.le_of_ble_eq_true rfl) (Nat.le_of_ble_eq_true rfl) ?_
    rw [hr]
    exact ⟨rfl, rfl, hY0.msg hF3 (t3.same (fun k' j' h2 h3 => (mr_dr_m f h1 k' j' h2 h3).symm)), hF3.mono (fun q hq => Or.inr hq)⟩
theorem cc_dropLost (hY : mr_C G O sz γ τ f m0 b cc len) (hB : mr_B G O sz β μ ν f b cnt g) (hd : ¬ mr_Y γ τ β ∧ ¬ mr_Y γ τ μ ∧ ¬ mr_Y γ τ ν) (L : Nat) (hL : L = mx_CA m0 b + 2) : mz_M l E yX1_dropLost cX1_dropLost 3 none 5 0 0 [.ref γ, .ref β] G sz (fun v' G' sz' => v' = none ∧ sz = sz' ∧ mr_Cn G' O sz γ τ (f (mx_CA m0 b)) (f (mx_CA m0 b + 1)) (mr_k1 f b L (f (mx_CA m0 b + 1)) cc g).2 len (mr_h (mr_k1 f b L (f (mx_CA m0 b + 1)) cc g).1 L 4) ∧ mt_F (mr_Y γ τ) G G' O O sz sz) := by
  have hY0 := hY.1
  have hB0 := hB
  obtain ⟨⟨⟨⟨⟨hK, hO, hs⟩, i0, i1⟩, r2⟩, tc⟩, hcc⟩ := hY
  obtain ⟨⟨⟨⟨hKb, hOb, hsb⟩, j0, j1, j2, j3⟩, r4, r5, hne⟩, ⟨t1, t2⟩, hc1, hc2⟩ := hB
  have k1 := t1.K
  have k2 := t2.K
  have kc := tc.K
  have s1 := t1.s
  have s2 := t2.s
  have sc := tc.s
  obtain ⟨c20, -, -⟩ := t1.b
  obtain ⟨g6, -, -⟩ := t2.b
  obtain ⟨c532, -, -⟩ := tc.b
  refine mz_start (by decide) (Nat.le_of_ble_eq_true rfl) ?_
  intro p e s m args below meth c hC hret hnm
  have loop : ∀ (d k : Nat) (G1 : mz_G), k + d = g → mr_Cn G1 O sz γ τ (f (mx_CA m0 b)) (f (mx_CA m0 b + 1)) (mr_k1 f b L (f (mx_CA m0 b + 1)) cc k).2 len (mr_h (mr_k1 f b L (f (mx_CA m0 b + 1)) cc k).1 L 4) → mt_F (mr_Y γ τ) G G1 O O sz sz → mz_V E p l e (mz_rm 5 0 0) s m args below meth c 3 (0) (0) (mz_Z E below args s 0 0 (fun v' G' sz' => v' = none ∧ sz = sz' ∧ mr_Cn G' O sz γ τ (f (mx_CA m0 b)) (f (mx_CA m0 b + 1)) (mr_k1 f b L (f (mx_CA m0 b + 1)) cc g).2 len (mr_h (mr_k1 f b L (f (mx_CA m0 b + 1)) cc g).1 L 4) ∧ mt_F (mr_Y γ τ) G G' O O sz sz)) (G1) (sz) (2) [some (.ref γ), some (.ref β), some (.int (nI k))] [] := by
    intro d
    induction d with
    | zero =>
      intro k G1 hk hY1 hF1
      rw [show k = g by omega] at hY1 ⊢
      obtain ⟨⟨⟨⟨hKb1, -⟩, -⟩, r41, r51, -⟩, ⟨t11, t21⟩, -⟩ := hB0.fr hF1 hd.1 hd.2.1 hd.2.2
      have k21 := t21.K
      have s21 := t21.s
      refine mz_sn_ok hC tk_X1_dropLost pk_RX1 4 [ν] rfl (by (repeat' apply And.intro) <;> first | exact True.intro | assumption | (simp only [mz_cm1, mz_c0, mz_c1, mz_c2, mz_c3, mz_c4, mz_c5, mz_c6, mz_c7, mz_c8, mz_c10, mz_c17, mz_c20, mz_c28, mz_c58, mz_c63, mz_c98, mz_c294, mz_c526, mz_c532, mz_c540, mz_c999, mz_c1900, mz_c2403, mz_c29362, mz_c29363, mz_c29364, mz_c29390, mz_c29393, mz_c29394, mz_c29398, mz_c29399, mz_c29400, mz_c29401, nI_add, pk_mul, pk_m1, mz_pp, mz_pq, s21]; done) | omega | (simp only [mz_cm1, mz_c0, mz_c1, mz_c2, mz_c3, mz_c4, mz_c5, mz_c6, mz_c7, mz_c8, mz_c10, mz_c17, mz_c20, mz_c28, mz_c58, mz_c63, mz_c98, mz_c294, mz_c526, mz_c532, mz_c540, mz_c999, mz_c1900, mz_c2403, mz_c29362, mz_c29363, mz_c29364, mz_c29390, mz_c29393, mz_c29394, mz_c29398, mz_c29399, mz_c29400, mz_c29401, nI_add, pk_mul, pk_m1, mz_pp, mz_pq, s21]; congr 1; omega)) ?_
      try simp only [mz_c0, mz_cm1, s21]
      refine mz_br_t hC tk_X1_dropLost rfl ((by show nI g ≤ nI g; exact nI_le (by omega) (by omega))) ?_
      refine mz_Vreturn hC tk_X1_dropLost rfl hret (Nat.le_of_ble_eq_true rfl) (Nat.le_of_ble_eq_true rfl) ?_
      exact ⟨rfl, rfl, hY1, hF1⟩
    | succ d ih =>
      intro k G1 hk hY1 hF1
      have hB1 := hB0.fr hF1 hd.1 hd.2.1 hd.2.2
      have hY1c := hY1
      obtain ⟨⟨⟨⟨hK1, -⟩, -, i11⟩, -⟩, -⟩ := hY1c
      obtain ⟨⟨⟨⟨hKb1, -⟩, -⟩, r41, r51, -⟩, ⟨t11, t21⟩, -⟩ := hB1
      have k21 := t21.K
      have s21 := t21.s
      refine mz_sn_ok hC tk_X1_dropLost pk_RX1 4 [ν] rfl (by (repeat' apply And.intro) <;> first | exact True.intro | assumption | (simp only [mz_cm1, mz_c0, mz_c1, mz_c2, mz_c3, mz_c4, mz_c5, mz_c6, mz_c7, mz_c8, mz_c10, mz_c17, mz_c20, mz_c28, mz_c58, mz_c63, mz_c98, mz_c294, mz_c526, mz_c532, mz_c540, mz_c999, mz_c1900, mz_c2403, mz_c29362, mz_c29363, mz_c29364, mz_c29390, mz_c29393, mz_c29394, mz_c29398, mz_c29399, mz_c29400, mz_c29401, nI_add, pk_mul, pk_m1, mz_pp, mz_pq, s21]; done) | omega | (simp only [mz_cm1, mz_c0, mz_c1, mz_c2, mz_c3, mz_c4, mz_c5, mz_c6, mz_c7, mz_c8, mz_c10, mz_c17, mz_c20, mz_c28, mz_c58, mz_c63, mz_c98, mz_c294, mz_c526, mz_c532, mz_c540, mz_c999, mz_c1900, mz_c2403, mz_c29362, mz_c29363, mz_c29364, mz_c29390, mz_c29393, mz_c29394, mz_c29398, mz_c29399, mz_c29400, mz_c29401, nI_add, pk_mul, pk_m1, mz_pp, mz_pq, s21]; congr 1; omega)) ?_
      try simp only [mz_c0, mz_cm1, s21]
      refine mz_br_f hC tk_X1_dropLost rfl ((by show ¬ nI g ≤ nI k; exact nI_ge (by omega) (by omega))) ?_
      refine mz_sn_ok hC tk_X1_dropLost pk_RX1 4 [ν] rfl (by (repeat' apply And.intro) <;> first | exact True.intro | assumption | (simp only [mz_cm1, mz_c0, mz_c1, mz_c2, mz_c3, mz_c4, mz_c5, mz_c6, mz_c7, mz_c8, mz_c10, mz_c17, mz_c20, mz_c28, mz_c58, mz_c63, mz_c98, mz_c294, mz_c526, mz_c532, mz_c540, mz_c999, mz_c1900, mz_c2403, mz_c29362, mz_c29363, mz_c29364, mz_c29390, mz_c29393, mz_c29394, mz_c29398, mz_c29399, mz_c29400, mz_c29401, nI_add, pk_mul, pk_m1, mz_pp, mz_pq]; done) | omega | (simp only [mz_cm1, mz_c0, mz_c1, mz_c2, mz_c3, mz_c4, mz_c5, mz_c6, mz_c7, mz_c8, mz_c10, mz_c17, mz_c20, mz_c28, mz_c58, mz_c63, mz_c98, mz_c294, mz_c526, mz_c532, mz_c540, mz_c999, mz_c1900, mz_c2403, mz_c29362, mz_c29363, mz_c29364, mz_c29390, mz_c29393, mz_c29394, mz_c29398, mz_c29399, mz_c29400, mz_c29401, nI_add, pk_mul, pk_m1, mz_pp, mz_pq]; congr 1; omega)) ?_
      try simp only [mz_c0, mz_cm1]
      refine mz_Vcv hC tk_X1_dropLost rfl md_X4_cell lk_RX1_34 rfl (ct_cell l E t21 (nI k) (nI 1)) (by show (vwCl[mz_K _ _]?).map _ = _; rw [k21]; rfl) ⟨Nat.le_of_ble_eq_true rfl, Nat.le_of_ble_eq_true rfl⟩ ⟨Nat.le_of_ble_eq_true rfl, Nat.le_of_ble_eq_true rfl⟩ (Nat.le_of_ble_eq_true rfl) (fun v9 G9 sz9 hp9 => ?_)
      obtain ⟨rfl, hG9, hs9⟩ := hp9
      rw [hG9, ← hs9, mt_c_in (show k < g by omega) (by omega) (by omega) (by omega)]
      refine mz_sn_ok hC tk_X1_dropLost pk_RX1 2 [] rfl (by (repeat' apply And.intro) <;> first | exact True.intro | assumption | (simp only [mz_cm1, mz_c0, mz_c1, mz_c2, mz_c3, mz_c4, mz_c5, mz_c6, mz_c7, mz_c8, mz_c10, mz_c17, mz_c20, mz_c28, mz_c58, mz_c63, mz_c98, mz_c294, mz_c526, mz_c532, mz_c540, mz_c999, mz_c1900, mz_c2403, mz_c29362, mz_c29363, mz_c29364, mz_c29390, mz_c29393, mz_c29394, mz_c29398, mz_c29399, mz_c29400, mz_c29401, nI_add, pk_mul, pk_m1, mz_pp, mz_pq, i11]; done) | omega | (simp only [mz_cm1, mz_c0, mz_c1, mz_c2, mz_c3, mz_c4, mz_c5, mz_c6, mz_c7, mz_c8, mz_c10, mz_c17, mz_c20, mz_c28, mz_c58, mz_c63, mz_c98, mz_c294, mz_c526, mz_c532, mz_c540, mz_c999, mz_c1900, mz_c2403, mz_c29362, mz_c29363, mz_c29364, mz_c29390, mz_c29393, mz_c29394, mz_c29398, mz_c29399, mz_c29400, mz_c29401, nI_add, pk_mul, pk_m1, mz_pp, mz_pq, i11]; congr 1; omega)) ?_
      try simp only [mz_c0, mz_cm1, i11]
      have e0 : mr_h f (98 * b + 4) 2 k 1 = f (98 * b + 4 + 2 + 2 * k) := by show f _ = f _; congr 1; omega
      rw [e0]
      by_cases hd1 : f (mx_CA m0 b + 1) < f (98 * b + 4 + 2 + 2 * k)
      · refine mz_br_f hC tk_X1_dropLost rfl ((by show ¬ f (98 * b + 4 + 2 + 2 * k) ≤ f (mx_CA m0 b + 1); exact mz_lt_nle hd1)) ?_
        refine mz_sn_ok hC tk_X1_dropLost pk_RX1 5 [ν] rfl (by (repeat' apply And.intro) <;> first | exact True.intro | assumption | (simp only [mz_cm1, mz_c0, mz_c1, mz_c2, mz_c3, mz_c4, mz_c5, mz_c6, mz_c7, mz_c8, mz_c10, mz_c17, mz_c20, mz_c28, mz_c58, mz_c63, mz_c98, mz_c294, mz_c526, mz_c532, mz_c540, mz_c999, mz_c1900, mz_c2403, mz_c29362, mz_c29363, mz_c29364, mz_c29390, mz_c29393, mz_c29394, mz_c29398, mz_c29399, mz_c29400, mz_c29401, nI_add, pk_mul, pk_m1, mz_pp, mz_pq]; done) | omega | (simp only [mz_cm1, mz_c0, mz_c1, mz_c2, mz_c3, mz_c4, mz_c5, mz_c6, mz_c7, mz_c8, mz_c10, mz_c17, mz_c20, mz_c28, mz_c58, mz_c63, mz_c98, mz_c294, mz_c526, mz_c532, mz_c540, mz_c999, mz_c1900, mz_c2403, mz_c29362, mz_c29363, mz_c29364, mz_c29390, mz_c29393, mz_c29394, mz_c29398, mz_c29399, mz_c29400, mz_c29401, nI_add, pk_mul, pk_m1, mz_pp, mz_pq]; congr 1; omega)) ?_
        try simp only [mz_c0, mz_cm1]
        refine mz_Vcv hC tk_X1_dropLost rfl md_X4_cell lk_RX1_34 rfl (ct_cell l E t21 (nI k) (nI 0)) (by show (vwCl[mz_K _ _]?).map _ = _; rw [k21]; rfl) ⟨Nat.le_of_ble_eq_true rfl, Nat.le_of_ble_eq_true rfl⟩ ⟨Nat.le_of_ble_eq_true rfl, Nat.le_of_ble_eq_true rfl⟩ (Nat.le_of_ble_eq_true rfl) (fun v9 G9 sz9 hp9 => ?_)
        obtain ⟨rfl, hG10, hs10⟩ := hp9
        rw [hG10, ← hs10, mt_c_in (show k < g by omega) (by omega) (by omega) (by omega)]
        have e1 : mr_k1 f b L (f (mx_CA m0 b + 1)) cc (k + 1) = (match mz_fz (mx_nm (mr_k1 f b L (f (mx_CA m0 b + 1)) cc k).1 L) (mr_h f (98 * b + 4) 2 k 0) (mr_k1 f b L (f (mx_CA m0 b + 1)) cc k).2 with
            | none => ((mr_k1 f b L (f (mx_CA m0 b + 1)) cc k).1, (mr_k1 f b L (f (mx_CA m0 b + 1)) cc k).2)
            | some h => (mx_dr (mr_k1 f b L (f (mx_CA m0 b + 1)) cc k).1 L (mr_k1 f b L (f (mx_CA m0 b + 1)) cc k).2 h, (mr_k1 f b L (f (mx_CA m0 b + 1)) cc k).2 - 1)) := by
          conv => lhs; unfold mr_k1
          rw [if_pos hd1]
          rfl
        refine mz_Vcv hC tk_X1_dropLost rfl md_X1_dropMessage lk_RX1_81 rfl (cc_dropMessage l E hY1 (mr_h f (98 * b + 4) 2 k 0) _ e1) (by show (vwCl[mz_K _ _]?).map _ = _; rw [hK1]; rfl) ⟨Nat.le_of_ble_eq_true rfl, Nat.le_of_ble_eq_true rfl⟩ ⟨Nat.le_of_ble_eq_true rfl, Nat.le_of_ble_eq_true rfl⟩ (Nat.le_of_ble_eq_true rfl) (fun v9 G9 sz9 hp9 => ?_)
        obtain ⟨rfl, hs11, hY2, hF2⟩ := hp9
        rw [← hs11]
        refine mz_sn_ok hC tk_X1_dropLost pk_RX1 2 [] rfl (by (repeat' apply And.intro) <;> first | exact True.intro | assumption | (simp only [mz_cm1, mz_c0, mz_c1, mz_c2, mz_c3, mz_c4, mz_c5, mz_c6, mz_c7, mz_c8, mz_c10, mz_c17, mz_c20, mz_c28, mz_c58, mz_c63, mz_c98, mz_c294, mz_c526, mz_c532, mz_c540, mz_c999, mz_c1900, mz_c2403, mz_c29362, mz_c29363, mz_c29364, mz_c29390, mz_c29393, mz_c29394, mz_c29398, mz_c29399, mz_c29400, mz_c29401, nI_add, pk_mul, pk_m1, mz_pp, mz_pq]; done) | omega | (simp only [mz_cm1, mz_c0, mz_c1, mz_c2, mz_c3, mz_c4, mz_c5, mz_c6, mz_c7, mz_c8, mz_c10, mz_c17, mz_c20, mz_c28, mz_c58, mz_c63, mz_c98, mz_c294, mz_c526, mz_c532, mz_c540, mz_c999, mz_c1900, mz_c2403, mz_c29362, mz_c29363, mz_c29364, mz_c29390, mz_c29393, mz_c29394, mz_c29398, mz_c29399, mz_c29400, mz_c29401, nI_add, pk_mul, pk_m1, mz_pp, mz_pq]; congr 1; omega)) ?_
        try simp only [mz_c0, mz_cm1]
        refine mz_V.sub (lv' := [some (.ref γ), some (.ref β), some (.int (nI (k + 1)))]) (by (repeat' apply And.intro) <;> first | with_reducible rfl | exact True.intro | (simp only [mz_cm1, mz_c0, mz_c1, mz_c2, mz_c3, mz_c4, mz_c5, mz_c6, mz_c7, mz_c8, mz_c10, mz_c17, mz_c20, mz_c28, mz_c58, mz_c63, mz_c98, mz_c294, mz_c526, mz_c532, mz_c540, mz_c999, mz_c1900, mz_c2403, mz_c29362, mz_c29363, mz_c29364, mz_c29390, mz_c29393, mz_c29394, mz_c29398, mz_c29399, mz_c29400, mz_c29401, nI_add, pk_mul, pk_m1, mz_pp, mz_pq]; done) | rfl) ?_
        exact ih (k + 1) _ (by omega) hY2 (hF1.tr hF2)
      · refine mz_br_t hC tk_X1_dropLost rfl ((by show f (98 * b + 4 + 2 + 2 * k) ≤ f (mx_CA m0 b + 1); rw [mz_ltI] at hd1; rw [mz_leI]; omega)) ?_
        refine mz_sn_ok hC tk_X1_dropLost pk_RX1 2 [] rfl (by (repeat' apply And.intro) <;> first | exact True.intro | assumption | (simp only [mz_cm1, mz_c0, mz_c1, mz_c2, mz_c3, mz_c4, mz_c5, mz_c6, mz_c7, mz_c8, mz_c10, mz_c17, mz_c20, mz_c28, mz_c58, mz_c63, mz_c98, mz_c294, mz_c526, mz_c532, mz_c540, mz_c999, mz_c1900, mz_c2403, mz_c29362, mz_c29363, mz_c29364, mz_c29390, mz_c29393, mz_c29394, mz_c29398, mz_c29399, mz_c29400, mz_c29401, nI_add, pk_mul, pk_m1, mz_pp, mz_pq]; done) | omega | (simp only [mz_cm1, mz_c0, mz_c1, mz_c2, mz_c3, mz_c4, mz_c5, mz_c6, mz_c7, mz_c8, mz_c10, mz_c17, mz_c20, mz_c28, mz_c58, mz_c63, mz_c98, mz_c294, mz_c526, mz_c532, mz_c540, mz_c999, mz_c1900, mz_c2403, mz_c29362, mz_c29363, mz_c29364, mz_c29390, mz_c29393, mz_c29394, mz_c29398, mz_c29399, mz_c29400, mz_c29401, nI_add, pk_mul, pk_m1, mz_pp, mz_pq]; congr 1; omega)) ?_
        try simp only [mz_c0, mz_cm1]
        refine mz_V.sub (lv' := [some (.ref γ), some (.ref β), some (.int (nI (k + 1)))]) (by (repeat' apply And.intro) <;> first | with_reducible rfl | exact True.intro | (simp only [mz_cm1, mz_c0, mz_c1, mz_c2, mz_c3, mz_c4, mz_c5, mz_c6, mz_c7, mz_c8, mz_c10, mz_c17, mz_c20, mz_c28, mz_c58, mz_c63, mz_c98, mz_c294, mz_c526, mz_c532, mz_c540, mz_c999, mz_c1900, mz_c2403, mz_c29362, mz_c29363, mz_c29364, mz_c29390, mz_c29393, mz_c29394, mz_c29398, mz_c29399, mz_c29400, mz_c29401, nI_add, pk_mul, pk_m1, mz_pp, mz_pq]; done) | rfl) ?_
        have e1 : mr_k1 f b L (f (mx_CA m0 b + 1)) cc (k + 1) = mr_k1 f b L (f (mx_CA m0 b + 1)) cc k := by
          conv => lhs; unfold mr_k1
          rw [if_neg hd1]
        exact ih (k + 1) _ (by omega) (by rw [e1]; exact hY1) hF1
  refine mz_sn_ok hC tk_X1_dropLost pk_RX1 2 [] rfl (by (repeat' apply And.intro) <;> first | exact True.intro | assumption | (simp only [mz_cm1, mz_c0, mz_c1, mz_c2, mz_c3, mz_c4, mz_c5, mz_c6, mz_c7, mz_c8, mz_c10, mz_c17, mz_c20, mz_c28, mz_c58, mz_c63, mz_c98, mz_c294, mz_c526, mz_c532, mz_c540, mz_c999, mz_c1900, mz_c2403, mz_c29362, mz_c29363, mz_c29364, mz_c29390, mz_c29393, mz_c29394, mz_c29398, mz_c29399, mz_c29400, mz_c29401, nI_add, pk_mul, pk_m1, mz_pp, mz_pq]; done) | omega | (simp only [mz_cm1, mz_c0, mz_c1, mz_c2, mz_c3, mz_c4, mz_c5, mz_c6, mz_c7, mz_c8, mz_c10, mz_c17, mz_c20, mz_c28, mz_c58, mz_c63, mz_c98, mz_c294, mz_c526, mz_c532, mz_c540, mz_c999, mz_c1900, mz_c2403, mz_c29362, mz_c29363, mz_c29364, mz_c29390, mz_c29393, mz_c29394, mz_c29398, mz_c29399, mz_c29400, mz_c29401, nI_add, pk_mul, pk_m1, mz_pp, mz_pq]; congr 1; omega)) ?_
  try simp only [mz_c0, mz_cm1]
  refine mz_V.sub (lv' := [some (.ref γ), some (.ref β), some (.int (nI 0))]) (by (repeat' apply And.intro) <;> first | with_reducible rfl | exact True.intro | (simp only [mz_cm1, mz_c0, mz_c1, mz_c2, mz_c3, mz_c4, mz_c5, mz_c6, mz_c7, mz_c8, mz_c10, mz_c17, mz_c20, mz_c28, mz_c58, mz_c63, mz_c98, mz_c294, mz_c526, mz_c532, mz_c540, mz_c999, mz_c1900, mz_c2403, mz_c29362, mz_c29363, mz_c29364, mz_c29390, mz_c29393, mz_c29394, mz_c29398, mz_c29399, mz_c29400, mz_c29401, nI_add, pk_mul, pk_m1, mz_pp, mz_pq]; done) | rfl) ?_
  exact loop g 0 G (by omega) (by rw [hL]; exact hY0) mt_F.rf
theorem cc_dropAll (hY : mr_C G O sz γ τ f m0 b cc len) (hB : mr_B G O sz β μ ν f b cnt g) (hb : b < 3) (hd : ¬ mr_Y γ τ β ∧ ¬ mr_Y γ τ μ ∧ ¬ mr_Y γ τ ν) (L : Nat) (hL : L = mx_CA m0 b + 2) : mz_M l E yX1_dropAllThatBoxLacks cX1_dropAllThatBoxLacks 3 none 4 0 0 [.ref γ, .ref β] G sz (fun v' G' sz' => v' = none ∧ sz = sz' ∧ mr_Cn G' O sz γ τ (f (mx_CA m0 b)) (f (mx_CA m0 b + 1)) (mr_k3 b cnt L cc f cc).2 len (mr_h (mr_k3 b cnt L cc f cc).1 L 4) ∧ mt_F (mr_Y γ τ) G G' O O sz sz) := by
  have hY0 := hY.1
  have hB0 := hB
  have hLb : 98 * b + 98 ≤ L := by rw [hL]; unfold mx_CA; omega
  obtain ⟨⟨⟨⟨⟨hK, hO, hs⟩, i0, i1⟩, r2⟩, tc⟩, hcc⟩ := hY
  obtain ⟨⟨⟨⟨hKb, hOb, hsb⟩, j0, j1, j2, j3⟩, r4, r5, hne⟩, ⟨t1, t2⟩, hc1, hc2⟩ := hB
  have k1 := t1.K
  have k2 := t2.K
  have kc := tc.K
  have s1 := t1.s
  have s2 := t2.s
  have sc := tc.s
  obtain ⟨c20, -, -⟩ := t1.b
  obtain ⟨g6, -, -⟩ := t2.b
  obtain ⟨c532, -, -⟩ := tc.b
  refine mz_start (by decide) (Nat.le_of_ble_eq_true rfl) ?_
  intro p e s m args below meth c hC hret hnm
  have loop : ∀ (r : Nat) (f1 : Nat → Int32) (c1 : Nat) (G1 : mz_G), r ≤ c1 → (∀ i, i < L → f1 i = f i) → mr_k3 b cnt L r f1 c1 = mr_k3 b cnt L cc f cc → mr_Cn G1 O sz γ τ (f (mx_CA m0 b)) (f (mx_CA m0 b + 1)) c1 len (mr_h f1 L 4) → mt_F (mr_Y γ τ) G G1 O O sz sz → mz_V E p l e (mz_rm 4 0 0) s m args below meth c 3 (0) (0) (mz_Z E below args s 0 0 (fun v' G' sz' => v' = none ∧ sz = sz' ∧ mr_Cn G' O sz γ τ (f (mx_CA m0 b)) (f (mx_CA m0 b + 1)) (mr_k3 b cnt L cc f cc).2 len (mr_h (mr_k3 b cnt L cc f cc).1 L 4) ∧ mt_F (mr_Y γ τ) G G' O O sz sz)) (G1) (sz) (10) [some (.ref γ), some (.ref β), some (.int (nI r - nI 1))] [] := by
    intro r
    induction r with
    | zero =>
      intro f1 c1 G1 hr hf hk hY1 hF1
      refine mz_sn_ok hC tk_X1_dropAllThatBoxLacks pk_RX1 1 [] rfl (by (repeat' apply And.intro) <;> first | exact True.intro | assumption | (simp only [mz_cm1, mz_c0, mz_c1, mz_c2, mz_c3, mz_c4, mz_c5, mz_c6, mz_c7, mz_c8, mz_c10, mz_c17, mz_c20, mz_c28, mz_c58, mz_c63, mz_c98, mz_c294, mz_c526, mz_c532, mz_c540, mz_c999, mz_c1900, mz_c2403, mz_c29362, mz_c29363, mz_c29364, mz_c29390, mz_c29393, mz_c29394, mz_c29398, mz_c29399, mz_c29400, mz_c29401, nI_add, pk_mul, pk_m1, mz_pp, mz_pq]; done) | omega | (simp only [mz_cm1, mz_c0, mz_c1, mz_c2, mz_c3, mz_c4, mz_c5, mz_c6, mz_c7, mz_c8, mz_c10, mz_c17, mz_c20, mz_c28, mz_c58, mz_c63, mz_c98, mz_c294, mz_c526, mz_c532, mz_c540, mz_c999, mz_c1900, mz_c2403, mz_c29362, mz_c29363, mz_c29364, mz_c29390, mz_c29393, mz_c29394, mz_c29398, mz_c29399, mz_c29400, mz_c29401, nI_add, pk_mul, pk_m1, mz_pp, mz_pq]; congr 1; omega)) ?_
      try simp only [mz_c0, mz_cm1]
      refine mz_br_t hC tk_X1_dropAllThatBoxLacks rfl ((by show nI 0 - nI 1 < 0; decide)) ?_
      refine mz_Vreturn hC tk_X1_dropAllThatBoxLacks rfl hret (Nat.le_of_ble_eq_true rfl) (Nat.le_of_ble_eq_true rfl) ?_
      rw [← hk]
      exact ⟨rfl, rfl, hY1, hF1⟩
    | succ r ih =>
      intro f1 c1 G1 hr hf hk hY1 hF1
      have hB1 := hB0.fr hF1 hd.1 hd.2.1 hd.2.2
      have hY1c := hY1
      obtain ⟨⟨⟨⟨hK1, -⟩, -⟩, r21⟩, tc1⟩ := hY1c
      obtain ⟨⟨⟨⟨hKb1, -⟩, -⟩, r41, r51, -⟩, ⟨t11, t21⟩, -⟩ := hB1
      have k11 := t11.K
      have kc1 := tc1.K
      obtain ⟨c1532, -, -⟩ := tc1.b
      rw [mz_pq]
      refine mz_sn_ok hC tk_X1_dropAllThatBoxLacks pk_RX1 1 [] rfl (by (repeat' apply And.intro) <;> first | exact True.intro | assumption | (simp only [mz_cm1, mz_c0, mz_c1, mz_c2, mz_c3, mz_c4, mz_c5, mz_c6, mz_c7, mz_c8, mz_c10, mz_c17, mz_c20, mz_c28, mz_c58, mz_c63, mz_c98, mz_c294, mz_c526, mz_c532, mz_c540, mz_c999, mz_c1900, mz_c2403, mz_c29362, mz_c29363, mz_c29364, mz_c29390, mz_c29393, mz_c29394, mz_c29398, mz_c29399, mz_c29400, mz_c29401, nI_add, pk_mul, pk_m1, mz_pp, mz_pq]; done) | omega | (simp only [mz_cm1, mz_c0, mz_c1, mz_c2, mz_c3, mz_c4, mz_c5, mz_c6, mz_c7, mz_c8, mz_c10, mz_c17, mz_c20, mz_c28, mz_c58, mz_c63, mz_c98, mz_c294, mz_c526, mz_c532, mz_c540, mz_c999, mz_c1900, mz_c2403, mz_c29362, mz_c29363, mz_c29364, mz_c29390, mz_c29393, mz_c29394, mz_c29398, mz_c29399, mz_c29400, mz_c29401, nI_add, pk_mul, pk_m1, mz_pp, mz_pq]; congr 1; omega)) ?_
      try simp only [mz_c0, mz_cm1]
      refine mz_br_f hC tk_X1_dropAllThatBoxLacks rfl ((by show ¬ nI r < 0; exact mz_n_lt (mz_nn r (by omega)))) ?_
      refine mz_sn_ok hC tk_X1_dropAllThatBoxLacks pk_RX1 7 [μ, τ] rfl (by (repeat' apply And.intro) <;> first | exact True.intro | assumption | (simp only [mz_cm1, mz_c0, mz_c1, mz_c2, mz_c3, mz_c4, mz_c5, mz_c6, mz_c7, mz_c8, mz_c10, mz_c17, mz_c20, mz_c28, mz_c58, mz_c63, mz_c98, mz_c294, mz_c526, mz_c532, mz_c540, mz_c999, mz_c1900, mz_c2403, mz_c29362, mz_c29363, mz_c29364, mz_c29390, mz_c29393, mz_c29394, mz_c29398, mz_c29399, mz_c29400, mz_c29401, nI_add, pk_mul, pk_m1, mz_pp, mz_pq]; done) | omega | (simp only [mz_cm1, mz_c0, mz_c1, mz_c2, mz_c3, mz_c4, mz_c5, mz_c6, mz_c7, mz_c8, mz_c10, mz_c17, mz_c20, mz_c28, mz_c58, mz_c63, mz_c98, mz_c294, mz_c526, mz_c532, mz_c540, mz_c999, mz_c1900, mz_c2403, mz_c29362, mz_c29363, mz_c29364, mz_c29390, mz_c29393, mz_c29394, mz_c29398, mz_c29399, mz_c29400, mz_c29401, nI_add, pk_mul, pk_m1, mz_pp, mz_pq]; congr 1; omega)) ?_
      try simp only [mz_c0, mz_cm1]
      refine mz_Vcv hC tk_X1_dropAllThatBoxLacks rfl md_X4_cell lk_RX1_34 rfl (ct_cell l E tc1 (nI r) (nI 0)) (by show (vwCl[mz_K _ _]?).map _ = _; rw [kc1]; rfl) ⟨Nat.le_of_ble_eq_true rfl, Nat.le_of_ble_eq_true rfl⟩ ⟨Nat.le_of_ble_eq_true rfl, Nat.le_of_ble_eq_true rfl⟩ (Nat.le_of_ble_eq_true rfl) (fun v9 G9 sz9 hp9 => ?_)
      obtain ⟨rfl, hG9, hs9⟩ := hp9
      rw [hG9, ← hs9, mt_c_in (show r < c1 by omega) (by omega) (by omega) (by omega)]
      refine mz_Vcv hC tk_X1_dropAllThatBoxLacks rfl md_X4_rowWith lk_RX1_74 rfl (ct_rowWith l E t11 0 (mr_h f1 L 4 r 0) (by omega)) (by show (vwCl[mz_K _ _]?).map _ = _; rw [k11]; rfl) ⟨Nat.le_of_ble_eq_true rfl, Nat.le_of_ble_eq_true rfl⟩ ⟨Nat.le_of_ble_eq_true rfl, Nat.le_of_ble_eq_true rfl⟩ (Nat.le_of_ble_eq_true rfl) (fun v9 G9 sz9 hp9 => ?_)
      obtain ⟨rfl, hG10, hs10⟩ := hp9
      rw [hG10, ← hs10]
      have e0 : mz_fi (fun k => mr_h f (98 * b + 17) 4 k 0) (mr_h f1 L 4 r 0) cnt = mz_fi (mx_nm f (98 * b + 17)) (mx_nm f1 L r) cnt := rfl
      have e1 : mz_fz (mx_nm f1 (98 * b + 17)) (mx_nm f1 L r) cnt = mz_fz (mx_nm f (98 * b + 17)) (mx_nm f1 L r) cnt := mz_fz_cong (fun k hk => hf _ (by omega))
      rw [e0]
      unfold mz_fi
      have hk' : (if mz_fz (mx_nm f1 (98 * b + 17)) (mx_nm f1 L r) cnt = none then mr_k3 b cnt L r (mx_dr f1 L c1 r) (c1 - 1) else mr_k3 b cnt L r f1 c1) = mr_k3 b cnt L cc f cc := hk
      rw [e1] at hk'
      refine mz_sn_ok hC tk_X1_dropAllThatBoxLacks pk_RX1 1 [] rfl (by (repeat' apply And.intro) <;> first | exact True.intro | assumption | (simp only [mz_cm1, mz_c0, mz_c1, mz_c2, mz_c3, mz_c4, mz_c5, mz_c6, mz_c7, mz_c8, mz_c10, mz_c17, mz_c20, mz_c28, mz_c58, mz_c63, mz_c98, mz_c294, mz_c526, mz_c532, mz_c540, mz_c999, mz_c1900, mz_c2403, mz_c29362, mz_c29363, mz_c29364, mz_c29390, mz_c29393, mz_c29394, mz_c29398, mz_c29399, mz_c29400, mz_c29401, nI_add, pk_mul, pk_m1, mz_pp, mz_pq]; done) | omega | (simp only [mz_cm1, mz_c0, mz_c1, mz_c2, mz_c3, mz_c4, mz_c5, mz_c6, mz_c7, mz_c8, mz_c10, mz_c17, mz_c20, mz_c28, mz_c58, mz_c63, mz_c98, mz_c294, mz_c526, mz_c532, mz_c540, mz_c999, mz_c1900, mz_c2403, mz_c29362, mz_c29363, mz_c29364, mz_c29390, mz_c29393, mz_c29394, mz_c29398, mz_c29399, mz_c29400, mz_c29401, nI_add, pk_mul, pk_m1, mz_pp, mz_pq]; congr 1; omega)) ?_
      try simp only [mz_c0, mz_cm1]
      cases hz : mz_fz (mx_nm f (98 * b + 17)) (mx_nm f1 L r) cnt with
      | none =>
        rw [hz, if_pos rfl] at hk'
        dsimp only
        refine mz_br_f hC tk_X1_dropAllThatBoxLacks rfl ((by show ¬ ¬ (-1 : Int32) = mz_c (-1); rw [mz_cm1]; exact fun z => z rfl)) ?_
        refine mz_sn_ok hC tk_X1_dropAllThatBoxLacks pk_RX1 3 [τ] rfl (by (repeat' apply And.intro) <;> first | exact True.intro | assumption | (simp only [mz_cm1, mz_c0, mz_c1, mz_c2, mz_c3, mz_c4, mz_c5, mz_c6, mz_c7, mz_c8, mz_c10, mz_c17, mz_c20, mz_c28, mz_c58, mz_c63, mz_c98, mz_c294, mz_c526, mz_c532, mz_c540, mz_c999, mz_c1900, mz_c2403, mz_c29362, mz_c29363, mz_c29364, mz_c29390, mz_c29393, mz_c29394, mz_c29398, mz_c29399, mz_c29400, mz_c29401, nI_add, pk_mul, pk_m1, mz_pp, mz_pq]; done) | omega | (simp only [mz_cm1, mz_c0, mz_c1, mz_c2, mz_c3, mz_c4, mz_c5, mz_c6, mz_c7, mz_c8, mz_c10, mz_c17, mz_c20, mz_c28, mz_c58, mz_c63, mz_c98, mz_c294, mz_c526, mz_c532, mz_c540, mz_c999, mz_c1900, mz_c2403, mz_c29362, mz_c29363, mz_c29364, mz_c29390, mz_c29393, mz_c29394, mz_c29398, mz_c29399, mz_c29400, mz_c29401, nI_add, pk_mul, pk_m1, mz_pp, mz_pq]; congr 1; omega)) ?_
        try simp only [mz_c0, mz_cm1]
        refine mz_Vcv hC tk_X1_dropAllThatBoxLacks rfl md_X4_erase lk_RX1_77 rfl (ct_erase l E tc1 r (by omega)) (by show (vwCl[mz_K _ _]?).map _ = _; rw [kc1]; rfl) ⟨Nat.le_of_ble_eq_true rfl, Nat.le_of_ble_eq_true rfl⟩ ⟨Nat.le_of_ble_eq_true rfl, Nat.le_of_ble_eq_true rfl⟩ (Nat.le_of_ble_eq_true rfl) (fun v9 G9 sz9 hp9 => ?_)
        obtain ⟨rfl, hs11, t3, hF3⟩ := hp9
        rw [← hs11]
        refine mz_sn_ok hC tk_X1_dropAllThatBoxLacks pk_RX1 2 [] rfl (by (repeat' apply And.intro) <;> first | exact True.intro | assumption | (simp only [mz_cm1, mz_c0, mz_c1, mz_c2, mz_c3, mz_c4, mz_c5, mz_c6, mz_c7, mz_c8, mz_c10, mz_c17, mz_c20, mz_c28, mz_c58, mz_c63, mz_c98, mz_c294, mz_c526, mz_c532, mz_c540, mz_c999, mz_c1900, mz_c2403, mz_c29362, mz_c29363, mz_c29364, mz_c29390, mz_c29393, mz_c29394, mz_c29398, mz_c29399, mz_c29400, mz_c29401, nI_add, pk_mul, pk_m1, mz_pp, mz_pq]; done) | omega | (simp only [mz_cm1, mz_c0, mz_c1, mz_c2, mz_c3, mz_c4, mz_c5, mz_c6, mz_c7, mz_c8, mz_c10, mz_c17, mz_c20, mz_c28, mz_c58, mz_c63, mz_c98, mz_c294, mz_c526, mz_c532, mz_c540, mz_c999, mz_c1900, mz_c2403, mz_c29362, mz_c29363, mz_c29364, mz_c29390, mz_c29393, mz_c29394, mz_c29398, mz_c29399, mz_c29400, mz_c29401, nI_add, pk_mul, pk_m1, mz_pp, mz_pq]; congr 1; omega)) ?_
        try simp only [mz_c0, mz_cm1]
        rw [show nI r + -1 = nI r - nI 1 from (Int32.sub_eq_add_neg _ _).symm]
        exact ih (mx_dr f1 L c1 r) (c1 - 1) _ (by omega) (fun i hi => by rw [mx_dr_o f1 (by omega) (Or.inl hi)]; exact hf i hi) hk' (hY1.msg hF3 (t3.same (fun k' j' h2 h3 => (mr_dr_m f1 (by omega) k' j' h2 h3).symm))) (hF1.tr (hF3.mono (fun q hq => Or.inr hq)))
      | some h =>
        rw [hz, if_neg (by simp)] at hk'
        dsimp only
        obtain ⟨h1, -, -⟩ := mz_fz_some hz
        refine mz_br_t hC tk_X1_dropAllThatBoxLacks rfl ((by show ¬ nI h = mz_c (-1); rw [mz_cm1]; exact fun z => by have h0 := mz_nn h (by omega); rw [z] at h0; exact absurd h0 (by decide))) ?_
        refine mz_sn_ok hC tk_X1_dropAllThatBoxLacks pk_RX1 2 [] rfl (by (repeat' apply And.intro) <;> first | exact True.intro | assumption | (simp only [mz_cm1, mz_c0, mz_c1, mz_c2, mz_c3, mz_c4, mz_c5, mz_c6, mz_c7, mz_c8, mz_c10, mz_c17, mz_c20, mz_c28, mz_c58, mz_c63, mz_c98, mz_c294, mz_c526, mz_c532, mz_c540, mz_c999, mz_c1900, mz_c2403, mz_c29362, mz_c29363, mz_c29364, mz_c29390, mz_c29393, mz_c29394, mz_c29398, mz_c29399, mz_c29400, mz_c29401, nI_add, pk_mul, pk_m1, mz_pp, mz_pq]; done) | omega | (simp only [mz_cm1, mz_c0, mz_c1, mz_c2, mz_c3, mz_c4, mz_c5, mz_c6, mz_c7, mz_c8, mz_c10, mz_c17, mz_c20, mz_c28, mz_c58, mz_c63, mz_c98, mz_c294, mz_c526, mz_c532, mz_c540, mz_c999, mz_c1900, mz_c2403, mz_c29362, mz_c29363, mz_c29364, mz_c29390, mz_c29393, mz_c29394, mz_c29398, mz_c29399, mz_c29400, mz_c29401, nI_add, pk_mul, pk_m1, mz_pp, mz_pq]; congr 1; omega)) ?_
        try simp only [mz_c0, mz_cm1]
        rw [show nI r + -1 = nI r - nI 1 from (Int32.sub_eq_add_neg _ _).symm]
        exact ih f1 c1 _ (by omega) hf hk' hY1 hF1
  refine mz_sn_ok hC tk_X1_dropAllThatBoxLacks pk_RX1 6 [τ] rfl (by (repeat' apply And.intro) <;> first | exact True.intro | assumption | (simp only [mz_cm1, mz_c0, mz_c1, mz_c2, mz_c3, mz_c4, mz_c5, mz_c6, mz_c7, mz_c8, mz_c10, mz_c17, mz_c20, mz_c28, mz_c58, mz_c63, mz_c98, mz_c294, mz_c526, mz_c532, mz_c540, mz_c999, mz_c1900, mz_c2403, mz_c29362, mz_c29363, mz_c29364, mz_c29390, mz_c29393, mz_c29394, mz_c29398, mz_c29399, mz_c29400, mz_c29401, nI_add, pk_mul, pk_m1, mz_pp, mz_pq, sc]; done) | omega | (simp only [mz_cm1, mz_c0, mz_c1, mz_c2, mz_c3, mz_c4, mz_c5, mz_c6, mz_c7, mz_c8, mz_c10, mz_c17, mz_c20, mz_c28, mz_c58, mz_c63, mz_c98, mz_c294, mz_c526, mz_c532, mz_c540, mz_c999, mz_c1900, mz_c2403, mz_c29362, mz_c29363, mz_c29364, mz_c29390, mz_c29393, mz_c29394, mz_c29398, mz_c29399, mz_c29400, mz_c29401, nI_add, pk_mul, pk_m1, mz_pp, mz_pq, sc]; congr 1; omega)) ?_
  try simp only [mz_c0, mz_cm1, sc]
  exact loop cc f cc G (Nat.le_refl _) (fun _ _ => rfl) rfl (by rw [hL]; exact hY0) mt_F.rf
end MRC

