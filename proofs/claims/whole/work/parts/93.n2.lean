/-! ===== the class: what its face needs first (2) ===== -/
section MRF
variable (l : Launch) (E : mz_E) {G : mz_G} {O : Nat → Nat} {sz ω : Nat} {B : Nat → Nat} {sv : Nat} {F : Nat → Nat → Int32} {Λ : Nat → Nat → Nat → Nat} {v1 v2 : Nat}
theorem cf_needMachine (b : Nat) (hb : b < 4) : mz_M l E yX5_needMachine cX5_needMachine 1 none 6 0 0 [.int (nI b)] G sz (fun v' G' sz' => v' = none ∧ G' = G ∧ sz = sz') := by
  refine mz_start (by decide) (Nat.le_of_ble_eq_true rfl) ?_
  intro p e s m args below meth c hC hret hnm
  refine mz_sn_ok hC tk_X5_needMachine pk_RX5 1 [] rfl (by (repeat' apply And.intro) <;> first | exact True.intro | assumption | (simp only [mz_cm1, mz_c0, mz_c1, mz_c2, mz_c3, mz_c4, mz_c5, mz_c6, mz_c7, mz_c8, mz_c10, mz_c17, mz_c20, mz_c28, mz_c58, mz_c63, mz_c98, mz_c294, mz_c526, mz_c532, mz_c540, mz_c999, mz_c1900, mz_c2403, mz_c29362, mz_c29363, mz_c29364, mz_c29390, mz_c29393, mz_c29394, mz_c29398, mz_c29399, mz_c29400, mz_c29401, nI_add, pk_mul, pk_m1, mz_pp, mz_pq]; done) | omega | (simp only [mz_cm1, mz_c0, mz_c1, mz_c2, mz_c3, mz_c4, mz_c5, mz_c6, mz_c7, mz_c8, mz_c10, mz_c17, mz_c20, mz_c28, mz_c58, mz_c63, mz_c98, mz_c294, mz_c526, mz_c532, mz_c540, mz_c999, mz_c1900, mz_c2403, mz_c29362, mz_c29363, mz_c29364, mz_c29390, mz_c29393, mz_c29394, mz_c29398, mz_c29399, mz_c29400, mz_c29401, nI_add, pk_mul, pk_m1, mz_pp, mz_pq]; congr 1; omega)) ?_
  try simp only [mz_c0, mz_cm1]
  refine mz_br_f hC tk_X5_needMachine rfl ((by show ¬ nI b < 0; exact mz_n_lt (mz_nn b (by omega)))) ?_
  refine mz_sn_ok hC tk_X5_needMachine pk_RX5 2 [] rfl (by (repeat' apply And.intro) <;> first | exact True.intro | assumption | (simp only [mz_cm1, mz_c0, mz_c1, mz_c2, mz_c3, mz_c4, mz_c5, mz_c6, mz_c7, mz_c8, mz_c10, mz_c17, mz_c20, mz_c28, mz_c58, mz_c63, mz_c98, mz_c294, mz_c526, mz_c532, mz_c540, mz_c999, mz_c1900, mz_c2403, mz_c29362, mz_c29363, mz_c29364, mz_c29390, mz_c29393, mz_c29394, mz_c29398, mz_c29399, mz_c29400, mz_c29401, nI_add, pk_mul, pk_m1, mz_pp, mz_pq]; done) | omega | (simp only [mz_cm1, mz_c0, mz_c1, mz_c2, mz_c3, mz_c4, mz_c5, mz_c6, mz_c7, mz_c8, mz_c10, mz_c17, mz_c20, mz_c28, mz_c58, mz_c63, mz_c98, mz_c294, mz_c526, mz_c532, mz_c540, mz_c999, mz_c1900, mz_c2403, mz_c29362, mz_c29363, mz_c29364, mz_c29390, mz_c29393, mz_c29394, mz_c29398, mz_c29399, mz_c29400, mz_c29401, nI_add, pk_mul, pk_m1, mz_pp, mz_pq]; congr 1; omega)) ?_
  try simp only [mz_c0, mz_cm1]
  refine mz_br_t hC tk_X5_needMachine rfl ((by show nI b < nI 4; exact nI_lt (by omega) (by omega))) ?_
  refine mz_Vreturn hC tk_X5_needMachine rfl hret (Nat.le_of_ble_eq_true rfl) (Nat.le_of_ble_eq_true rfl) ?_
  exact ⟨rfl, rfl, rfl⟩
theorem cf_needMachine_x (hl : l.stackTraces = false) (b : Int32) (hb : ¬ (0 ≤ b ∧ b ≤ nI 3)) : mz_X l E yX5_needMachine cX5_needMachine 1 none 6 [.int b] G sz "java/lang/IndexOutOfBoundsException" := by
  refine mz_startX (by decide) (Nat.le_of_ble_eq_true rfl) ?_
  intro p e s m args below meth c hC hno
  have go : mz_V E p l e (mz_rm 6 1 6) s m args below meth c 1 0 0 (mz_ZX E below args s "java/lang/IndexOutOfBoundsException" G sz) G sz (9) [some (.int b)] [] := by
    exact mz_Vthrow hC hno hl tk_X5_needMachine "there is no such machine" rfl rfl rfl rfl rfl tw_io (List.mem_of_getElem? (i := 0) rfl) ⟨Nat.le_of_ble_eq_true rfl, Nat.le_of_ble_eq_true rfl, Nat.le_of_ble_eq_true rfl, Nat.le_of_ble_eq_true rfl⟩
  refine mz_sn_ok hC tk_X5_needMachine pk_RX5 1 [] rfl (by (repeat' apply And.intro) <;> first | exact True.intro | assumption | (simp only [mz_cm1, mz_c0, mz_c1, mz_c2, mz_c3, mz_c4, mz_c5, mz_c6, mz_c7, mz_c8, mz_c10, mz_c17, mz_c20, mz_c28, mz_c58, mz_c63, mz_c98, mz_c294, mz_c526, mz_c532, mz_c540, mz_c999, mz_c1900, mz_c2403, mz_c29362, mz_c29363, mz_c29364, mz_c29390, mz_c29393, mz_c29394, mz_c29398, mz_c29399, mz_c29400, mz_c29401, nI_add, pk_mul, pk_m1, mz_pp, mz_pq]; done) | omega | (simp only [mz_cm1, mz_c0, mz_c1, mz_c2, mz_c3, mz_c4, mz_c5, mz_c6, mz_c7, mz_c8, mz_c10, mz_c17, mz_c20, mz_c28, mz_c58, mz_c63, mz_c98, mz_c294, mz_c526, mz_c532, mz_c540, mz_c999, mz_c1900, mz_c2403, mz_c29362, mz_c29363, mz_c29364, mz_c29390, mz_c29393, mz_c29394, mz_c29398, mz_c29399, mz_c29400, mz_c29401, nI_add, pk_mul, pk_m1, mz_pp, mz_pq]; congr 1; omega)) ?_
  try simp only [mz_c0, mz_cm1]
  by_cases h0 : b < 0
  · refine mz_br_t hC tk_X5_needMachine rfl ((by show b < 0; exact h0)) ?_
    exact go
  · refine mz_br_f hC tk_X5_needMachine rfl ((by show ¬ b < 0; exact h0)) ?_
    refine mz_sn_ok hC tk_X5_needMachine pk_RX5 2 [] rfl (by (repeat' apply And.intro) <;> first | exact True.intro | assumption | (simp only [mz_cm1, mz_c0, mz_c1, mz_c2, mz_c3, mz_c4, mz_c5, mz_c6, mz_c7, mz_c8, mz_c10, mz_c17, mz_c20, mz_c28, mz_c58, mz_c63, mz_c98, mz_c294, mz_c526, mz_c532, mz_c540, mz_c999, mz_c1900, mz_c2403, mz_c29362, mz_c29363, mz_c29364, mz_c29390, mz_c29393, mz_c29394, mz_c29398, mz_c29399, mz_c29400, mz_c29401, nI_add, pk_mul, pk_m1, mz_pp, mz_pq]; done) | omega | (simp only [mz_cm1, mz_c0, mz_c1, mz_c2, mz_c3, mz_c4, mz_c5, mz_c6, mz_c7, mz_c8, mz_c10, mz_c17, mz_c20, mz_c28, mz_c58, mz_c63, mz_c98, mz_c294, mz_c526, mz_c532, mz_c540, mz_c999, mz_c1900, mz_c2403, mz_c29362, mz_c29363, mz_c29364, mz_c29390, mz_c29393, mz_c29394, mz_c29398, mz_c29399, mz_c29400, mz_c29401, nI_add, pk_mul, pk_m1, mz_pp, mz_pq]; congr 1; omega)) ?_
    try simp only [mz_c0, mz_cm1]
    refine mz_br_f hC tk_X5_needMachine rfl ((by show ¬ b < nI 4; intro h; rw [mz_ltI, nI_toInt (by omega)] at h; exact hb ⟨mz_le0 h0, by rw [mz_leI, nI_toInt (by omega)]; omega⟩)) ?_
    exact go
theorem cf_needContent (v : Int32) (hv : 0 ≤ v ∧ v ≤ nI 999) : mz_M l E yX5_needContent cX5_needContent 1 none 6 0 0 [.int v] G sz (fun v' G' sz' => v' = none ∧ G' = G ∧ sz = sz') := by
  refine mz_start (by decide) (Nat.le_of_ble_eq_true rfl) ?_
  intro p e s m args below meth c hC hret hnm
  refine mz_sn_ok hC tk_X5_needContent pk_RX5 1 [] rfl (by (repeat' apply And.intro) <;> first | exact True.intro | assumption | (simp only [mz_cm1, mz_c0, mz_c1, mz_c2, mz_c3, mz_c4, mz_c5, mz_c6, mz_c7, mz_c8, mz_c10, mz_c17, mz_c20, mz_c28, mz_c58, mz_c63, mz_c98, mz_c294, mz_c526, mz_c532, mz_c540, mz_c999, mz_c1900, mz_c2403, mz_c29362, mz_c29363, mz_c29364, mz_c29390, mz_c29393, mz_c29394, mz_c29398, mz_c29399, mz_c29400, mz_c29401, nI_add, pk_mul, pk_m1, mz_pp, mz_pq]; done) | omega | (simp only [mz_cm1, mz_c0, mz_c1, mz_c2, mz_c3, mz_c4, mz_c5, mz_c6, mz_c7, mz_c8, mz_c10, mz_c17, mz_c20, mz_c28, mz_c58, mz_c63, mz_c98, mz_c294, mz_c526, mz_c532, mz_c540, mz_c999, mz_c1900, mz_c2403, mz_c29362, mz_c29363, mz_c29364, mz_c29390, mz_c29393, mz_c29394, mz_c29398, mz_c29399, mz_c29400, mz_c29401, nI_add, pk_mul, pk_m1, mz_pp, mz_pq]; congr 1; omega)) ?_
  try simp only [mz_c0, mz_cm1]
  refine mz_br_f hC tk_X5_needContent rfl ((by show ¬ v < 0; exact mz_n_lt hv.1)) ?_
  refine mz_sn_ok hC tk_X5_needContent pk_RX5 2 [] rfl (by (repeat' apply And.intro) <;> first | exact True.intro | assumption | (simp only [mz_cm1, mz_c0, mz_c1, mz_c2, mz_c3, mz_c4, mz_c5, mz_c6, mz_c7, mz_c8, mz_c10, mz_c17, mz_c20, mz_c28, mz_c58, mz_c63, mz_c98, mz_c294, mz_c526, mz_c532, mz_c540, mz_c999, mz_c1900, mz_c2403, mz_c29362, mz_c29363, mz_c29364, mz_c29390, mz_c29393, mz_c29394, mz_c29398, mz_c29399, mz_c29400, mz_c29401, nI_add, pk_mul, pk_m1, mz_pp, mz_pq]; done) | omega | (simp only [mz_cm1, mz_c0, mz_c1, mz_c2, mz_c3, mz_c4, mz_c5, mz_c6, mz_c7, mz_c8, mz_c10, mz_c17, mz_c20, mz_c28, mz_c58, mz_c63, mz_c98, mz_c294, mz_c526, mz_c532, mz_c540, mz_c999, mz_c1900, mz_c2403, mz_c29362, mz_c29363, mz_c29364, mz_c29390, mz_c29393, mz_c29394, mz_c29398, mz_c29399, mz_c29400, mz_c29401, nI_add, pk_mul, pk_m1, mz_pp, mz_pq]; congr 1; omega)) ?_
  try simp only [mz_c0, mz_cm1]
  refine mz_br_t hC tk_X5_needContent rfl ((by show v ≤ nI 999; exact hv.2)) ?_
  refine mz_Vreturn hC tk_X5_needContent rfl hret (Nat.le_of_ble_eq_true rfl) (Nat.le_of_ble_eq_true rfl) ?_
  exact ⟨rfl, rfl, rfl⟩
theorem cf_needContent_x (hl : l.stackTraces = false) (v : Int32) (hv : ¬ (0 ≤ v ∧ v ≤ nI 999)) : mz_X l E yX5_needContent cX5_needContent 1 none 6 [.int v] G sz "java/lang/IllegalArgumentException" := by
  refine mz_startX (by decide) (Nat.le_of_ble_eq_true rfl) ?_
  intro p e s m args below meth c hC hno
  have go : mz_V E p l e (mz_rm 6 1 6) s m args below meth c 1 0 0 (mz_ZX E below args s "java/lang/IllegalArgumentException" G sz) G sz (11) [some (.int v)] [] := by
    exact mz_Vthrow hC hno hl tk_X5_needContent "content is not 0 to 999" rfl rfl rfl rfl rfl tw_ia (List.mem_of_getElem? (i := 3) rfl) ⟨Nat.le_of_ble_eq_true rfl, Nat.le_of_ble_eq_true rfl, Nat.le_of_ble_eq_true rfl, Nat.le_of_ble_eq_true rfl⟩
  refine mz_sn_ok hC tk_X5_needContent pk_RX5 1 [] rfl (by (repeat' apply And.intro) <;> first | exact True.intro | assumption | (simp only [mz_cm1, mz_c0, mz_c1, mz_c2, mz_c3, mz_c4, mz_c5, mz_c6, mz_c7, mz_c8, mz_c10, mz_c17, mz_c20, mz_c28, mz_c58, mz_c63, mz_c98, mz_c294, mz_c526, mz_c532, mz_c540, mz_c999, mz_c1900, mz_c2403, mz_c29362, mz_c29363, mz_c29364, mz_c29390, mz_c29393, mz_c29394, mz_c29398, mz_c29399, mz_c29400, mz_c29401, nI_add, pk_mul, pk_m1, mz_pp, mz_pq]; done) | omega | (simp only [mz_cm1, mz_c0, mz_c1, mz_c2, mz_c3, mz_c4, mz_c5, mz_c6, mz_c7, mz_c8, mz_c10, mz_c17, mz_c20, mz_c28, mz_c58, mz_c63, mz_c98, mz_c294, mz_c526, mz_c532, mz_c540, mz_c999, mz_c1900, mz_c2403, mz_c29362, mz_c29363, mz_c29364, mz_c29390, mz_c29393, mz_c29394, mz_c29398, mz_c29399, mz_c29400, mz_c29401, nI_add, pk_mul, pk_m1, mz_pp, mz_pq]; congr 1; omega)) ?_
  try simp only [mz_c0, mz_cm1]
  by_cases h0 : v < 0
  · refine mz_br_t hC tk_X5_needContent rfl ((by show v < 0; exact h0)) ?_
    exact go
  · refine mz_br_f hC tk_X5_needContent rfl ((by show ¬ v < 0; exact h0)) ?_
    refine mz_sn_ok hC tk_X5_needContent pk_RX5 2 [] rfl (by (repeat' apply And.intro) <;> first | exact True.intro | assumption | (simp only [mz_cm1, mz_c0, mz_c1, mz_c2, mz_c3, mz_c4, mz_c5, mz_c6, mz_c7, mz_c8, mz_c10, mz_c17, mz_c20, mz_c28, mz_c58, mz_c63, mz_c98, mz_c294, mz_c526, mz_c532, mz_c540, mz_c999, mz_c1900, mz_c2403, mz_c29362, mz_c29363, mz_c29364, mz_c29390, mz_c29393, mz_c29394, mz_c29398, mz_c29399, mz_c29400, mz_c29401, nI_add, pk_mul, pk_m1, mz_pp, mz_pq]; done) | omega | (simp only [mz_cm1, mz_c0, mz_c1, mz_c2, mz_c3, mz_c4, mz_c5, mz_c6, mz_c7, mz_c8, mz_c10, mz_c17, mz_c20, mz_c28, mz_c58, mz_c63, mz_c98, mz_c294, mz_c526, mz_c532, mz_c540, mz_c999, mz_c1900, mz_c2403, mz_c29362, mz_c29363, mz_c29364, mz_c29390, mz_c29393, mz_c29394, mz_c29398, mz_c29399, mz_c29400, mz_c29401, nI_add, pk_mul, pk_m1, mz_pp, mz_pq]; congr 1; omega)) ?_
    try simp only [mz_c0, mz_cm1]
    refine mz_br_f hC tk_X5_needContent rfl ((by show ¬ v ≤ nI 999; exact fun h => hv ⟨mz_le0 h0, h⟩)) ?_
    exact go
theorem cf_needFlags (v : Int32) (hv : 0 ≤ v ∧ v ≤ nI 63) : mz_M l E yX5_needFlags cX5_needFlags 1 none 6 0 0 [.int v] G sz (fun v' G' sz' => v' = none ∧ G' = G ∧ sz = sz') := by
  refine mz_start (by decide) (Nat.le_of_ble_eq_true rfl) ?_
  intro p e s m args below meth c hC hret hnm
  refine mz_sn_ok hC tk_X5_needFlags pk_RX5 1 [] rfl (by (repeat' apply And.intro) <;> first | exact True.intro | assumption | (simp only [mz_cm1, mz_c0, mz_c1, mz_c2, mz_c3, mz_c4, mz_c5, mz_c6, mz_c7, mz_c8, mz_c10, mz_c17, mz_c20, mz_c28, mz_c58, mz_c63, mz_c98, mz_c294, mz_c526, mz_c532, mz_c540, mz_c999, mz_c1900, mz_c2403, mz_c29362, mz_c29363, mz_c29364, mz_c29390, mz_c29393, mz_c29394, mz_c29398, mz_c29399, mz_c29400, mz_c29401, nI_add, pk_mul, pk_m1, mz_pp, mz_pq]; done) | omega | (simp only [mz_cm1, mz_c0, mz_c1, mz_c2, mz_c3, mz_c4, mz_c5, mz_c6, mz_c7, mz_c8, mz_c10, mz_c17, mz_c20, mz_c28, mz_c58, mz_c63, mz_c98, mz_c294, mz_c526, mz_c532, mz_c540, mz_c999, mz_c1900, mz_c2403, mz_c29362, mz_c29363, mz_c29364, mz_c29390, mz_c29393, mz_c29394, mz_c29398, mz_c29399, mz_c29400, mz_c29401, nI_add, pk_mul, pk_m1, mz_pp, mz_pq]; congr 1; omega)) ?_
  try simp only [mz_c0, mz_cm1]
  refine mz_br_f hC tk_X5_needFlags rfl ((by show ¬ v < 0; exact mz_n_lt hv.1)) ?_
  refine mz_sn_ok hC tk_X5_needFlags pk_RX5 2 [] rfl (by (repeat' apply And.intro) <;> first | exact True.intro | assumption | (simp only [mz_cm1, mz_c0, mz_c1, mz_c2, mz_c3, mz_c4, mz_c5, mz_c6, mz_c7, mz_c8, mz_c10, mz_c17, mz_c20, mz_c28, mz_c58, mz_c63, mz_c98, mz_c294, mz_c526, mz_c532, mz_c540, mz_c999, mz_c1900, mz_c2403, mz_c29362, mz_c29363, mz_c29364, mz_c29390, mz_c29393, mz_c29394, mz_c29398, mz_c29399, mz_c29400, mz_c29401, nI_add, pk_mul, pk_m1, mz_pp, mz_pq]; done) | omega | (simp only [mz_cm1, mz_c0, mz_c1, mz_c2, mz_c3, mz_c4, mz_c5, mz_c6, mz_c7, mz_c8, mz_c10, mz_c17, mz_c20, mz_c28, mz_c58, mz_c63, mz_c98, mz_c294, mz_c526, mz_c532, mz_c540, mz_c999, mz_c1900, mz_c2403, mz_c29362, mz_c29363, mz_c29364, mz_c29390, mz_c29393, mz_c29394, mz_c29398, mz_c29399, mz_c29400, mz_c29401, nI_add, pk_mul, pk_m1, mz_pp, mz_pq]; congr 1; omega)) ?_
  try simp only [mz_c0, mz_cm1]
  refine mz_br_t hC tk_X5_needFlags rfl ((by show v ≤ nI 63; exact hv.2)) ?_
  refine mz_Vreturn hC tk_X5_needFlags rfl hret (Nat.le_of_ble_eq_true rfl) (Nat.le_of_ble_eq_true rfl) ?_
  exact ⟨rfl, rfl, rfl⟩
theorem cf_needFlags_x (hl : l.stackTraces = false) (v : Int32) (hv : ¬ (0 ≤ v ∧ v ≤ nI 63)) : mz_X l E yX5_needFlags cX5_needFlags 1 none 6 [.int v] G sz "java/lang/IllegalArgumentException" := by
  refine mz_startX (by decide) (Nat.le_of_ble_eq_true rfl) ?_
  intro p e s m args below meth c hC hno
  have go : mz_V E p l e (mz_rm 6 1 6) s m args below meth c 1 0 0 (mz_ZX E below args s "java/lang/IllegalArgumentException" G sz) G sz (10) [some (.int v)] [] := by
    exact mz_Vthrow hC hno hl tk_X5_needFlags "flags is not 0 to 63" rfl rfl rfl rfl rfl tw_ia (List.mem_of_getElem? (i := 4) rfl) ⟨Nat.le_of_ble_eq_true rfl, Nat.le_of_ble_eq_true rfl, Nat.le_of_ble_eq_true rfl, Nat.le_of_ble_eq_true rfl⟩
  refine mz_sn_ok hC tk_X5_needFlags pk_RX5 1 [] rfl (by (repeat' apply And.intro) <;> first | exact True.intro | assumption | (simp only [mz_cm1, mz_c0, mz_c1, mz_c2, mz_c3, mz_c4, mz_c5, mz_c6, mz_c7, mz_c8, mz_c10, mz_c17, mz_c20, mz_c28, mz_c58, mz_c63, mz_c98, mz_c294, mz_c526, mz_c532, mz_c540, mz_c999, mz_c1900, mz_c2403, mz_c29362, mz_c29363, mz_c29364, mz_c29390, mz_c29393, mz_c29394, mz_c29398, mz_c29399, mz_c29400, mz_c29401, nI_add, pk_mul, pk_m1, mz_pp, mz_pq]; done) | omega | (simp only [mz_cm1, mz_c0, mz_c1, mz_c2, mz_c3, mz_c4, mz_c5, mz_c6, mz_c7, mz_c8, mz_c10, mz_c17, mz_c20, mz_c28, mz_c58, mz_c63, mz_c98, mz_c294, mz_c526, mz_c532, mz_c540, mz_c999, mz_c1900, mz_c2403, mz_c29362, mz_c29363, mz_c29364, mz_c29390, mz_c29393, mz_c29394, mz_c29398, mz_c29399, mz_c29400, mz_c29401, nI_add, pk_mul, pk_m1, mz_pp, mz_pq]; congr 1; omega)) ?_
  try simp only [mz_c0, mz_cm1]
  by_cases h0 : v < 0
  · refine mz_br_t hC tk_X5_needFlags rfl ((by show v < 0; exact h0)) ?_
    exact go
  · refine mz_br_f hC tk_X5_needFlags rfl ((by show ¬ v < 0; exact h0)) ?_
    refine mz_sn_ok hC tk_X5_needFlags pk_RX5 2 [] rfl (by (repeat' apply And.intro) <;> first | exact True.intro | assumption | (simp only [mz_cm1, mz_c0, mz_c1, mz_c2, mz_c3, mz_c4, mz_c5, mz_c6, mz_c7, mz_c8, mz_c10, mz_c17, mz_c20, mz_c28, mz_c58, mz_c63, mz_c98, mz_c294, mz_c526, mz_c532, mz_c540, mz_c999, mz_c1900, mz_c2403, mz_c29362, mz_c29363, mz_c29364, mz_c29390, mz_c29393, mz_c29394, mz_c29398, mz_c29399, mz_c29400, mz_c29401, nI_add, pk_mul, pk_m1, mz_pp, mz_pq]; done) | omega | (simp only [mz_cm1, mz_c0, mz_c1, mz_c2, mz_c3, mz_c4, mz_c5, mz_c6, mz_c7, mz_c8, mz_c10, mz_c17, mz_c20, mz_c28, mz_c58, mz_c63, mz_c98, mz_c294, mz_c526, mz_c532, mz_c540, mz_c999, mz_c1900, mz_c2403, mz_c29362, mz_c29363, mz_c29364, mz_c29390, mz_c29393, mz_c29394, mz_c29398, mz_c29399, mz_c29400, mz_c29401, nI_add, pk_mul, pk_m1, mz_pp, mz_pq]; congr 1; omega)) ?_
    try simp only [mz_c0, mz_cm1]
    refine mz_br_f hC tk_X5_needFlags rfl ((by show ¬ v ≤ nI 63; exact fun h => hv ⟨mz_le0 h0, h⟩)) ?_
    exact go
theorem cf_needHow (v : Int32) (hv : 0 ≤ v ∧ v ≤ nI 2) : mz_M l E yX5_needHow cX5_needHow 1 none 6 0 0 [.int v] G sz (fun v' G' sz' => v' = none ∧ G' = G ∧ sz = sz') := by
  refine mz_start (by decide) (Nat.le_of_ble_eq_true rfl) ?_
  intro p e s m args below meth c hC hret hnm
  refine mz_sn_ok hC tk_X5_needHow pk_RX5 1 [] rfl (by (repeat' apply And.intro) <;> first | exact True.intro | assumption | (simp only [mz_cm1, mz_c0, mz_c1, mz_c2, mz_c3, mz_c4, mz_c5, mz_c6, mz_c7, mz_c8, mz_c10, mz_c17, mz_c20, mz_c28, mz_c58, mz_c63, mz_c98, mz_c294, mz_c526, mz_c532, mz_c540, mz_c999, mz_c1900, mz_c2403, mz_c29362, mz_c29363, mz_c29364, mz_c29390, mz_c29393, mz_c29394, mz_c29398, mz_c29399, mz_c29400, mz_c29401, nI_add, pk_mul, pk_m1, mz_pp, mz_pq]; done) | omega | (simp only [mz_cm1, mz_c0, mz_c1, mz_c2, mz_c3, mz_c4, mz_c5, mz_c6, mz_c7, mz_c8, mz_c10, mz_c17, mz_c20, mz_c28, mz_c58, mz_c63, mz_c98, mz_c294, mz_c526, mz_c532, mz_c540, mz_c999, mz_c1900, mz_c2403, mz_c29362, mz_c29363, mz_c29364, mz_c29390, mz_c29393, mz_c29394, mz_c29398, mz_c29399, mz_c29400, mz_c29401, nI_add, pk_mul, pk_m1, mz_pp, mz_pq]; congr 1; omega)) ?_
  try simp only [mz_c0, mz_cm1]
  refine mz_br_f hC tk_X5_needHow rfl ((by show ¬ v < 0; exact mz_n_lt hv.1)) ?_
  refine mz_sn_ok hC tk_X5_needHow pk_RX5 2 [] rfl (by (repeat' apply And.intro) <;> first | exact True.intro | assumption | (simp only [mz_cm1, mz_c0, mz_c1, mz_c2, mz_c3, mz_c4, mz_c5, mz_c6, mz_c7, mz_c8, mz_c10, mz_c17, mz_c20, mz_c28, mz_c58, mz_c63, mz_c98, mz_c294, mz_c526, mz_c532, mz_c540, mz_c999, mz_c1900, mz_c2403, mz_c29362, mz_c29363, mz_c29364, mz_c29390, mz_c29393, mz_c29394, mz_c29398, mz_c29399, mz_c29400, mz_c29401, nI_add, pk_mul, pk_m1, mz_pp, mz_pq]; done) | omega | (simp only [mz_cm1, mz_c0, mz_c1, mz_c2, mz_c3, mz_c4, mz_c5, mz_c6, mz_c7, mz_c8, mz_c10, mz_c17, mz_c20, mz_c28, mz_c58, mz_c63, mz_c98, mz_c294, mz_c526, mz_c532, mz_c540, mz_c999, mz_c1900, mz_c2403, mz_c29362, mz_c29363, mz_c29364, mz_c29390, mz_c29393, mz_c29394, mz_c29398, mz_c29399, mz_c29400, mz_c29401, nI_add, pk_mul, pk_m1, mz_pp, mz_pq]; congr 1; omega)) ?_
  try simp only [mz_c0, mz_cm1]
  refine mz_br_t hC tk_X5_needHow rfl ((by show v ≤ nI 2; exact hv.2)) ?_
  refine mz_Vreturn hC tk_X5_needHow rfl hret (Nat.le_of_ble_eq_true rfl) (Nat.le_of_ble_eq_true rfl) ?_
  exact ⟨rfl, rfl, rfl⟩
theorem cf_needHow_x (hl : l.stackTraces = false) (v : Int32) (hv : ¬ (0 ≤ v ∧ v ≤ nI 2)) : mz_X l E yX5_needHow cX5_needHow 1 none 6 [.int v] G sz "java/lang/IllegalArgumentException" := by
  refine mz_startX (by decide) (Nat.le_of_ble_eq_true rfl) ?_
  intro p e s m args below meth c hC hno
  have go : mz_V E p l e (mz_rm 6 1 6) s m args below meth c 1 0 0 (mz_ZX E below args s "java/lang/IllegalArgumentException" G sz) G sz (9) [some (.int v)] [] := by
    exact mz_Vthrow hC hno hl tk_X5_needHow "how is not 0 to 2" rfl rfl rfl rfl rfl tw_ia (List.mem_of_getElem? (i := 7) rfl) ⟨Nat.le_of_ble_eq_true rfl, Nat.le_of_ble_eq_true rfl, Nat.le_of_ble_eq_true rfl, Nat.le_of_ble_eq_true rfl⟩
  refine mz_sn_ok hC tk_X5_needHow pk_RX5 1 [] rfl (by (repeat' apply And.intro) <;> first | exact True.intro | assumption | (simp only [mz_cm1, mz_c0, mz_c1, mz_c2, mz_c3, mz_c4, mz_c5, mz_c6, mz_c7, mz_c8, mz_c10, mz_c17, mz_c20, mz_c28, mz_c58, mz_c63, mz_c98, mz_c294, mz_c526, mz_c532, mz_c540, mz_c999, mz_c1900, mz_c2403, mz_c29362, mz_c29363, mz_c29364, mz_c29390, mz_c29393, mz_c29394, mz_c29398, mz_c29399, mz_c29400, mz_c29401, nI_add, pk_mul, pk_m1, mz_pp, mz_pq]; done) | omega | (simp only [mz_cm1, mz_c0, mz_c1, mz_c2, mz_c3, mz_c4, mz_c5, mz_c6, mz_c7, mz_c8, mz_c10, mz_c17, mz_c20, mz_c28, mz_c58, mz_c63, mz_c98, mz_c294, mz_c526, mz_c532, mz_c540, mz_c999, mz_c1900, mz_c2403, mz_c29362, mz_c29363, mz_c29364, mz_c29390, mz_c29393, mz_c29394, mz_c29398, mz_c29399, mz_c29400, mz_c29401, nI_add, pk_mul, pk_m1, mz_pp, mz_pq]; congr 1; omega)) ?_
  try simp only [mz_c0, mz_cm1]
  by_cases h0 : v < 0
  · refine mz_br_t hC tk_X5_needHow rfl ((by show v < 0; exact h0)) ?_
    exact go
  · refine mz_br_f hC tk_X5_needHow rfl ((by show ¬ v < 0; exact h0)) ?_
    refine mz_sn_ok hC tk_X5_needHow pk_RX5 2 [] rfl (by (repeat' apply And.intro) <;> first | exact True.intro | assumption | (simp only [mz_cm1, mz_c0, mz_c1, mz_c2, mz_c3, mz_c4, mz_c5, mz_c6, mz_c7, mz_c8, mz_c10, mz_c17, mz_c20, mz_c28, mz_c58, mz_c63, mz_c98, mz_c294, mz_c526, mz_c532, mz_c540, mz_c999, mz_c1900, mz_c2403, mz_c29362, mz_c29363, mz_c29364, mz_c29390, mz_c29393, mz_c29394, mz_c29398, mz_c29399, mz_c29400, mz_c29401, nI_add, pk_mul, pk_m1, mz_pp, mz_pq]; done) | omega | (simp only [mz_cm1, mz_c0, mz_c1, mz_c2, mz_c3, mz_c4, mz_c5, mz_c6, mz_c7, mz_c8, mz_c10, mz_c17, mz_c20, mz_c28, mz_c58, mz_c63, mz_c98, mz_c294, mz_c526, mz_c532, mz_c540, mz_c999, mz_c1900, mz_c2403, mz_c29362, mz_c29363, mz_c29364, mz_c29390, mz_c29393, mz_c29394, mz_c29398, mz_c29399, mz_c29400, mz_c29401, nI_add, pk_mul, pk_m1, mz_pp, mz_pq]; congr 1; omega)) ?_
    try simp only [mz_c0, mz_cm1]
    refine mz_br_f hC tk_X5_needHow rfl ((by show ¬ v ≤ nI 2; exact fun h => hv ⟨mz_le0 h0, h⟩)) ?_
    exact go
theorem cf_needWhat (v : Int32) (k : Nat) (hv : 0 ≤ v ∧ v ≤ nI k) : mz_M l E yX5_needWhat cX5_needWhat 2 none 6 0 0 [.int v, .int (nI k)] G sz (fun v' G' sz' => v' = none ∧ G' = G ∧ sz = sz') := by
  refine mz_start (by decide) (Nat.le_of_ble_eq_true rfl) ?_
  intro p e s m args below meth c hC hret hnm
  refine mz_sn_ok hC tk_X5_needWhat pk_RX5 1 [] rfl (by (repeat' apply And.intro) <;> first | exact True.intro | assumption | (simp only [mz_cm1, mz_c0, mz_c1, mz_c2, mz_c3, mz_c4, mz_c5, mz_c6, mz_c7, mz_c8, mz_c10, mz_c17, mz_c20, mz_c28, mz_c58, mz_c63, mz_c98, mz_c294, mz_c526, mz_c532, mz_c540, mz_c999, mz_c1900, mz_c2403, mz_c29362, mz_c29363, mz_c29364, mz_c29390, mz_c29393, mz_c29394, mz_c29398, mz_c29399, mz_c29400, mz_c29401, nI_add, pk_mul, pk_m1, mz_pp, mz_pq]; done) | omega | (simp only [mz_cm1, mz_c0, mz_c1, mz_c2, mz_c3, mz_c4, mz_c5, mz_c6, mz_c7, mz_c8, mz_c10, mz_c17, mz_c20, mz_c28, mz_c58, mz_c63, mz_c98, mz_c294, mz_c526, mz_c532, mz_c540, mz_c999, mz_c1900, mz_c2403, mz_c29362, mz_c29363, mz_c29364, mz_c29390, mz_c29393, mz_c29394, mz_c29398, mz_c29399, mz_c29400, mz_c29401, nI_add, pk_mul, pk_m1, mz_pp, mz_pq]; congr 1; omega)) ?_
  try simp only [mz_c0, mz_cm1]
  refine mz_br_f hC tk_X5_needWhat rfl ((by show ¬ v < 0; exact mz_n_lt hv.1)) ?_
  refine mz_sn_ok hC tk_X5_needWhat pk_RX5 2 [] rfl (by (repeat' apply And.intro) <;> first | exact True.intro | assumption | (simp only [mz_cm1, mz_c0, mz_c1, mz_c2, mz_c3, mz_c4, mz_c5, mz_c6, mz_c7, mz_c8, mz_c10, mz_c17, mz_c20, mz_c28, mz_c58, mz_c63, mz_c98, mz_c294, mz_c526, mz_c532, mz_c540, mz_c999, mz_c1900, mz_c2403, mz_c29362, mz_c29363, mz_c29364, mz_c29390, mz_c29393, mz_c29394, mz_c29398, mz_c29399, mz_c29400, mz_c29401, nI_add, pk_mul, pk_m1, mz_pp, mz_pq]; done) | omega | (simp only [mz_cm1, mz_c0, mz_c1, mz_c2, mz_c3, mz_c4, mz_c5, mz_c6, mz_c7, mz_c8, mz_c10, mz_c17, mz_c20, mz_c28, mz_c58, mz_c63, mz_c98, mz_c294, mz_c526, mz_c532, mz_c540, mz_c999, mz_c1900, mz_c2403, mz_c29362, mz_c29363, mz_c29364, mz_c29390, mz_c29393, mz_c29394, mz_c29398, mz_c29399, mz_c29400, mz_c29401, nI_add, pk_mul, pk_m1, mz_pp, mz_pq]; congr 1; omega)) ?_
  try simp only [mz_c0, mz_cm1]
  refine mz_br_t hC tk_X5_needWhat rfl ((by show v ≤ nI k; exact hv.2)) ?_
  refine mz_Vreturn hC tk_X5_needWhat rfl hret (Nat.le_of_ble_eq_true rfl) (Nat.le_of_ble_eq_true rfl) ?_
  exact ⟨rfl, rfl, rfl⟩
theorem cf_needWhat_x (hl : l.stackTraces = false) (v : Int32) (k : Nat) (hv : ¬ (0 ≤ v ∧ v ≤ nI k)) : mz_X l E yX5_needWhat cX5_needWhat 2 none 6 [.int v, .int (nI k)] G sz "java/lang/IllegalArgumentException" := by
  refine mz_startX (by decide) (Nat.le_of_ble_eq_true rfl) ?_
  intro p e s m args below meth c hC hno
  have go : mz_V E p l e (mz_rm 6 1 6) s m args below meth c 2 0 0 (mz_ZX E below args s "java/lang/IllegalArgumentException" G sz) G sz (9) [some (.int v), some (.int (nI k))] [] := by
    exact mz_Vthrow hC hno hl tk_X5_needWhat "there is no such number to ask for" rfl rfl rfl rfl rfl tw_ia (List.mem_of_getElem? (i := 2) rfl) ⟨Nat.le_of_ble_eq_true rfl, Nat.le_of_ble_eq_true rfl, Nat.le_of_ble_eq_true rfl, Nat.le_of_ble_eq_true rfl⟩
  refine mz_sn_ok hC tk_X5_needWhat pk_RX5 1 [] rfl (by (repeat' apply And.intro) <;> first | exact True.intro | assumption | (simp only [mz_cm1, mz_c0, mz_c1, mz_c2, mz_c3, mz_c4, mz_c5, mz_c6, mz_c7, mz_c8, mz_c10, mz_c17, mz_c20, mz_c28, mz_c58, mz_c63, mz_c98, mz_c294, mz_c526, mz_c532, mz_c540, mz_c999, mz_c1900, mz_c2403, mz_c29362, mz_c29363, mz_c29364, mz_c29390, mz_c29393, mz_c29394, mz_c29398, mz_c29399, mz_c29400, mz_c29401, nI_add, pk_mul, pk_m1, mz_pp, mz_pq]; done) | omega | (simp only [mz_cm1, mz_c0, mz_c1, mz_c2, mz_c3, mz_c4, mz_c5, mz_c6, mz_c7, mz_c8, mz_c10, mz_c17, mz_c20, mz_c28, mz_c58, mz_c63, mz_c98, mz_c294, mz_c526, mz_c532, mz_c540, mz_c999, mz_c1900, mz_c2403, mz_c29362, mz_c29363, mz_c29364, mz_c29390, mz_c29393, mz_c29394, mz_c29398, mz_c29399, mz_c29400, mz_c29401, nI_add, pk_mul, pk_m1, mz_pp, mz_pq]; congr 1; omega)) ?_
  try simp only [mz_c0, mz_cm1]
  by_cases h0 : v < 0
  · refine mz_br_t hC tk_X5_needWhat rfl ((by show v < 0; exact h0)) ?_
    exact go
  · refine mz_br_f hC tk_X5_needWhat rfl ((by show ¬ v < 0; exact h0)) ?_
    refine mz_sn_ok hC tk_X5_needWhat pk_RX5 2 [] rfl (by (repeat' apply And.intro) <;> first | exact True.intro | assumption | (simp only [mz_cm1, mz_c0, mz_c1, mz_c2, mz_c3, mz_c4, mz_c5, mz_c6, mz_c7, mz_c8, mz_c10, mz_c17, mz_c20, mz_c28, mz_c58, mz_c63, mz_c98, mz_c294, mz_c526, mz_c532, mz_c540, mz_c999, mz_c1900, mz_c2403, mz_c29362, mz_c29363, mz_c29364, mz_c29390, mz_c29393, mz_c29394, mz_c29398, mz_c29399, mz_c29400, mz_c29401, nI_add, pk_mul, pk_m1, mz_pp, mz_pq]; done) | omega | (simp only [mz_cm1, mz_c0, mz_c1, mz_c2, mz_c3, mz_c4, mz_c5, mz_c6, mz_c7, mz_c8, mz_c10, mz_c17, mz_c20, mz_c28, mz_c58, mz_c63, mz_c98, mz_c294, mz_c526, mz_c532, mz_c540, mz_c999, mz_c1900, mz_c2403, mz_c29362, mz_c29363, mz_c29364, mz_c29390, mz_c29393, mz_c29394, mz_c29398, mz_c29399, mz_c29400, mz_c29401, nI_add, pk_mul, pk_m1, mz_pp, mz_pq]; congr 1; omega)) ?_
    try simp only [mz_c0, mz_cm1]
    refine mz_br_f hC tk_X5_needWhat rfl ((by show ¬ v ≤ nI k; exact fun h => hv ⟨mz_le0 h0, h⟩)) ?_
    exact go
theorem cf_needMessage (hM : mr_M G O sz ω B sv F Λ v1 v2) (b : Nat) (hb : b < 3) (name : Int32) (k : Nat) (hz : mz_fz (mx_nm (F 0) (98 * b + 17)) name (mx_cB (F 0) b) = some k) : mz_M l E yX5_needMessage cX5_needMessage 4 (some .int) 6 0 0 [.ref ω, .int (nI b), .int name] G sz (fun v' G' sz' => v' = some (.int (nI k)) ∧ G' = G ∧ sz = sz') := by
  obtain ⟨⟨⟨⟨⟨kω, oω, zω⟩, rω0, rω1, rω3, rω4⟩, iω2, sv4⟩, ⟨⟨kA, oA, zA⟩, nA⟩, hrA⟩, ⟨hd1, hd2⟩, hst, ⟨⟨vn1, vh1, vt1⟩, vc1⟩, ⟨vn2, vh2, vt2⟩, vc2⟩ := id hM
  have hS0 := hst 0 (by omega)
  obtain ⟨⟨⟨⟨⟨kσ, oσ, zσ⟩, iσ4⟩, rσ0, rσ1, rσ2, rσ3⟩, ⟨⟨⟨kβ, oβ, zβ⟩, nβ⟩, hrβ⟩, ⟨⟨⟨kκ, oκ, zκ⟩, nκ⟩, hrκ⟩⟩, ⟨⟨tq, hq⟩, ⟨⟨k5, o5, z5⟩, n5⟩, hw5⟩, hbx, hmc⟩ := id hS0
  have rβ := hrβ b hb
  obtain ⟨⟨⟨⟨kb, ob, zb⟩, ib0, ib1, ib2, ib3⟩, rb4, rb5, hbne⟩, ⟨tb1, tb2⟩, hc1, hc2⟩ := id (hbx b hb)
  have ktb1 := tb1.K
  have ktb2 := tb2.K
  have stb1 := tb1.s
  have stb2 := tb2.s
  have c20 := tb1.b.1
  have g6 := tb2.b.1
  obtain ⟨hk, -, -⟩ := mz_fz_some hz
  refine mz_start (by decide) (Nat.le_of_ble_eq_true rfl) ?_
  intro p e s m args below meth c hC hret hnm
  refine mz_sn_ok hC tk_X5_needMessage pk_RX5 8 [B 0, B 0 + 1, b, B 0 + 6 + 5 * b, B 0 + 6 + 5 * b + 1] rfl (by (repeat' apply And.intro) <;> first | exact True.intro | assumption | (simp only [mz_cm1, mz_c0, mz_c1, mz_c2, mz_c3, mz_c4, mz_c5, mz_c6, mz_c7, mz_c8, mz_c10, mz_c17, mz_c20, mz_c28, mz_c58, mz_c63, mz_c98, mz_c294, mz_c526, mz_c532, mz_c540, mz_c999, mz_c1900, mz_c2403, mz_c29362, mz_c29363, mz_c29364, mz_c29390, mz_c29393, mz_c29394, mz_c29398, mz_c29399, mz_c29400, mz_c29401, nI_add, pk_mul, pk_m1, mz_pp, mz_pq]; done) | omega | (simp only [mz_cm1, mz_c0, mz_c1, mz_c2, mz_c3, mz_c4, mz_c5, mz_c6, mz_c7, mz_c8, mz_c10, mz_c17, mz_c20, mz_c28, mz_c58, mz_c63, mz_c98, mz_c294, mz_c526, mz_c532, mz_c540, mz_c999, mz_c1900, mz_c2403, mz_c29362, mz_c29363, mz_c29364, mz_c29390, mz_c29393, mz_c29394, mz_c29398, mz_c29399, mz_c29400, mz_c29401, nI_add, pk_mul, pk_m1, mz_pp, mz_pq]; congr 1; omega)) ?_
  try simp only [mz_c0, mz_cm1]
  refine mz_Vcv hC tk_X5_needMessage rfl md_X4_rowWith lk_RX5_178 rfl (ct_rowWith l E tb1 0 name (by omega)) (by show (vwCl[mz_K _ _]?).map _ = _; rw [ktb1]; rfl) ⟨Nat.le_of_ble_eq_true rfl, Nat.le_of_ble_eq_true rfl⟩ ⟨Nat.le_of_ble_eq_true rfl, Nat.le_of_ble_eq_true rfl⟩ (Nat.le_of_ble_eq_true rfl) (fun v9 G9 sz9 hp9 => ?_)
  obtain ⟨rfl, hG9, hs9⟩ := hp9
  rw [hG9, ← hs9, show mz_fi (fun k => mr_h (F 0) (98 * b + 17) 4 k 0) name (mx_cB (F 0) b) = nI k from by show (match mz_fz (mx_nm (F 0) (98 * b + 17)) name (mx_cB (F 0) b) with | some k => nI k | none => -1) = nI k; rw [hz]]
  refine mz_sn_ok hC tk_X5_needMessage pk_RX5 3 [] rfl (by (repeat' apply And.intro) <;> first | exact True.intro | assumption | (simp only [mz_cm1, mz_c0, mz_c1, mz_c2, mz_c3, mz_c4, mz_c5, mz_c6, mz_c7, mz_c8, mz_c10, mz_c17, mz_c20, mz_c28, mz_c58, mz_c63, mz_c98, mz_c294, mz_c526, mz_c532, mz_c540, mz_c999, mz_c1900, mz_c2403, mz_c29362, mz_c29363, mz_c29364, mz_c29390, mz_c29393, mz_c29394, mz_c29398, mz_c29399, mz_c29400, mz_c29401, nI_add, pk_mul, pk_m1, mz_pp, mz_pq]; done) | omega | (simp only [mz_cm1, mz_c0, mz_c1, mz_c2, mz_c3, mz_c4, mz_c5, mz_c6, mz_c7, mz_c8, mz_c10, mz_c17, mz_c20, mz_c28, mz_c58, mz_c63, mz_c98, mz_c294, mz_c526, mz_c532, mz_c540, mz_c999, mz_c1900, mz_c2403, mz_c29362, mz_c29363, mz_c29364, mz_c29390, mz_c29393, mz_c29394, mz_c29398, mz_c29399, mz_c29400, mz_c29401, nI_add, pk_mul, pk_m1, mz_pp, mz_pq]; congr 1; omega)) ?_
  try simp only [mz_c0, mz_cm1]
  refine mz_br_t hC tk_X5_needMessage rfl ((by show ¬ nI k = mz_c (-1); rw [mz_cm1]; exact fun z => by have h0 := mz_nn k (by omega); rw [z] at h0; exact absurd h0 (by decide))) ?_
  refine mz_sn_ok hC tk_X5_needMessage pk_RX5 1 [] rfl (by (repeat' apply And.intro) <;> first | exact True.intro | assumption | (simp only [mz_cm1, mz_c0, mz_c1, mz_c2, mz_c3, mz_c4, mz_c5, mz_c6, mz_c7, mz_c8, mz_c10, mz_c17, mz_c20, mz_c28, mz_c58, mz_c63, mz_c98, mz_c294, mz_c526, mz_c532, mz_c540, mz_c999, mz_c1900, mz_c2403, mz_c29362, mz_c29363, mz_c29364, mz_c29390, mz_c29393, mz_c29394, mz_c29398, mz_c29399, mz_c29400, mz_c29401, nI_add, pk_mul, pk_m1, mz_pp, mz_pq]; done) | omega | (simp only [mz_cm1, mz_c0, mz_c1, mz_c2, mz_c3, mz_c4, mz_c5, mz_c6, mz_c7, mz_c8, mz_c10, mz_c17, mz_c20, mz_c28, mz_c58, mz_c63, mz_c98, mz_c294, mz_c526, mz_c532, mz_c540, mz_c999, mz_c1900, mz_c2403, mz_c29362, mz_c29363, mz_c29364, mz_c29390, mz_c29393, mz_c29394, mz_c29398, mz_c29399, mz_c29400, mz_c29401, nI_add, pk_mul, pk_m1, mz_pp, mz_pq]; congr 1; omega)) ?_
  try simp only [mz_c0, mz_cm1]
  refine mz_Vireturn hC tk_X5_needMessage rfl hret rfl (Nat.le_of_ble_eq_true rfl) (Nat.le_of_ble_eq_true rfl) ?_
  exact ⟨rfl, rfl, rfl⟩
theorem cf_needMessage_x (hl : l.stackTraces = false) (hM : mr_M G O sz ω B sv F Λ v1 v2) (b : Nat) (hb : b < 3) (name : Int32) (hz : mz_fz (mx_nm (F 0) (98 * b + 17)) name (mx_cB (F 0) b) = none) : mz_X l E yX5_needMessage cX5_needMessage 4 (some .int) 6 [.ref ω, .int (nI b), .int name] G sz "java/lang/IndexOutOfBoundsException" := by
  obtain ⟨⟨⟨⟨⟨kω, oω, zω⟩, rω0, rω1, rω3, rω4⟩, iω2, sv4⟩, ⟨⟨kA, oA, zA⟩, nA⟩, hrA⟩, ⟨hd1, hd2⟩, hst, ⟨⟨vn1, vh1, vt1⟩, vc1⟩, ⟨vn2, vh2, vt2⟩, vc2⟩ := id hM
  have hS0 := hst 0 (by omega)
  obtain ⟨⟨⟨⟨⟨kσ, oσ, zσ⟩, iσ4⟩, rσ0, rσ1, rσ2, rσ3⟩, ⟨⟨⟨kβ, oβ, zβ⟩, nβ⟩, hrβ⟩, ⟨⟨⟨kκ, oκ, zκ⟩, nκ⟩, hrκ⟩⟩, ⟨⟨tq, hq⟩, ⟨⟨k5, o5, z5⟩, n5⟩, hw5⟩, hbx, hmc⟩ := id hS0
  have rβ := hrβ b hb
  obtain ⟨⟨⟨⟨kb, ob, zb⟩, ib0, ib1, ib2, ib3⟩, rb4, rb5, hbne⟩, ⟨tb1, tb2⟩, hc1, hc2⟩ := id (hbx b hb)
  have ktb1 := tb1.K
  have ktb2 := tb2.K
  have stb1 := tb1.s
  have stb2 := tb2.s
  have c20 := tb1.b.1
  have g6 := tb2.b.1
  refine mz_startX (by decide) (Nat.le_of_ble_eq_true rfl) ?_
  intro p e s m args below meth c hC hno
  refine mz_sn_ok hC tk_X5_needMessage pk_RX5 8 [B 0, B 0 + 1, b, B 0 + 6 + 5 * b, B 0 + 6 + 5 * b + 1] rfl (by (repeat' apply And.intro) <;> first | exact True.intro | assumption | (simp only [mz_cm1, mz_c0, mz_c1, mz_c2, mz_c3, mz_c4, mz_c5, mz_c6, mz_c7, mz_c8, mz_c10, mz_c17, mz_c20, mz_c28, mz_c58, mz_c63, mz_c98, mz_c294, mz_c526, mz_c532, mz_c540, mz_c999, mz_c1900, mz_c2403, mz_c29362, mz_c29363, mz_c29364, mz_c29390, mz_c29393, mz_c29394, mz_c29398, mz_c29399, mz_c29400, mz_c29401, nI_add, pk_mul, pk_m1, mz_pp, mz_pq]; done) | omega | (simp only [mz_cm1, mz_c0, mz_c1, mz_c2, mz_c3, mz_c4, mz_c5, mz_c6, mz_c7, mz_c8, mz_c10, mz_c17, mz_c20, mz_c28, mz_c58, mz_c63, mz_c98, mz_c294, mz_c526, mz_c532, mz_c540, mz_c999, mz_c1900, mz_c2403, mz_c29362, mz_c29363, mz_c29364, mz_c29390, mz_c29393, mz_c29394, mz_c29398, mz_c29399, mz_c29400, mz_c29401, nI_add, pk_mul, pk_m1, mz_pp, mz_pq]; congr 1; omega)) ?_
  try simp only [mz_c0, mz_cm1]
  refine mz_Vcv hC tk_X5_needMessage rfl md_X4_rowWith lk_RX5_178 rfl (ct_rowWith l E tb1 0 name (by omega)) (by show (vwCl[mz_K _ _]?).map _ = _; rw [ktb1]; rfl) ⟨Nat.le_of_ble_eq_true rfl, Nat.le_of_ble_eq_true rfl⟩ ⟨Nat.le_of_ble_eq_true rfl, Nat.le_of_ble_eq_true rfl⟩ (Nat.le_of_ble_eq_true rfl) (fun v9 G9 sz9 hp9 => ?_)
  obtain ⟨rfl, hG9, hs9⟩ := hp9
  rw [hG9, ← hs9, show mz_fi (fun k => mr_h (F 0) (98 * b + 17) 4 k 0) name (mx_cB (F 0) b) = -1 from by show (match mz_fz (mx_nm (F 0) (98 * b + 17)) name (mx_cB (F 0) b) with | some k => nI k | none => -1) = -1; rw [hz]]
  refine mz_sn_ok hC tk_X5_needMessage pk_RX5 3 [] rfl (by (repeat' apply And.intro) <;> first | exact True.intro | assumption | (simp only [mz_cm1, mz_c0, mz_c1, mz_c2, mz_c3, mz_c4, mz_c5, mz_c6, mz_c7, mz_c8, mz_c10, mz_c17, mz_c20, mz_c28, mz_c58, mz_c63, mz_c98, mz_c294, mz_c526, mz_c532, mz_c540, mz_c999, mz_c1900, mz_c2403, mz_c29362, mz_c29363, mz_c29364, mz_c29390, mz_c29393, mz_c29394, mz_c29398, mz_c29399, mz_c29400, mz_c29401, nI_add, pk_mul, pk_m1, mz_pp, mz_pq]; done) | omega | (simp only [mz_cm1, mz_c0, mz_c1, mz_c2, mz_c3, mz_c4, mz_c5, mz_c6, mz_c7, mz_c8, mz_c10, mz_c17, mz_c20, mz_c28, mz_c58, mz_c63, mz_c98, mz_c294, mz_c526, mz_c532, mz_c540, mz_c999, mz_c1900, mz_c2403, mz_c29362, mz_c29363, mz_c29364, mz_c29390, mz_c29393, mz_c29394, mz_c29398, mz_c29399, mz_c29400, mz_c29401, nI_add, pk_mul, pk_m1, mz_pp, mz_pq]; congr 1; omega)) ?_
  try simp only [mz_c0, mz_cm1]
  refine mz_br_f hC tk_X5_needMessage rfl ((by show ¬ ¬ (-1 : Int32) = mz_c (-1); rw [mz_cm1]; exact fun z => z rfl)) ?_
  exact mz_VthrowW hC hno hl tk_X5_needMessage "the box has no such message" rfl rfl rfl rfl rfl tw_io (List.mem_of_getElem? (i := 6) rfl) ⟨Nat.le_of_ble_eq_true rfl, Nat.le_of_ble_eq_true rfl, Nat.le_of_ble_eq_true rfl, Nat.le_of_ble_eq_true rfl⟩
theorem cf_needRoomIn (hM : mr_M G O sz ω B sv F Λ v1 v2) (b : Nat) (hb : b < 3) (h20 : mx_cB (F 0) b < 20) : mz_M l E yX5_needRoomIn cX5_needRoomIn 2 none 6 0 0 [.ref ω, .int (nI b)] G sz (fun v' G' sz' => v' = none ∧ G' = G ∧ sz = sz') := by
  obtain ⟨⟨⟨⟨⟨kω, oω, zω⟩, rω0, rω1, rω3, rω4⟩, iω2, sv4⟩, ⟨⟨kA, oA, zA⟩, nA⟩, hrA⟩, ⟨hd1, hd2⟩, hst, ⟨⟨vn1, vh1, vt1⟩, vc1⟩, ⟨vn2, vh2, vt2⟩, vc2⟩ := id hM
  have hS0 := hst 0 (by omega)
  obtain ⟨⟨⟨⟨⟨kσ, oσ, zσ⟩, iσ4⟩, rσ0, rσ1, rσ2, rσ3⟩, ⟨⟨⟨kβ, oβ, zβ⟩, nβ⟩, hrβ⟩, ⟨⟨⟨kκ, oκ, zκ⟩, nκ⟩, hrκ⟩⟩, ⟨⟨tq, hq⟩, ⟨⟨k5, o5, z5⟩, n5⟩, hw5⟩, hbx, hmc⟩ := id hS0
  have rβ := hrβ b hb
  obtain ⟨⟨⟨⟨kb, ob, zb⟩, ib0, ib1, ib2, ib3⟩, rb4, rb5, hbne⟩, ⟨tb1, tb2⟩, hc1, hc2⟩ := id (hbx b hb)
  have ktb1 := tb1.K
  have ktb2 := tb2.K
  have stb1 := tb1.s
  have stb2 := tb2.s
  have c20 := tb1.b.1
  have g6 := tb2.b.1
  refine mz_start (by decide) (Nat.le_of_ble_eq_true rfl) ?_
  intro p e s m args below meth c hC hret hnm
  refine mz_sn_ok hC tk_X5_needRoomIn pk_RX5 5 [B 0, B 0 + 1, b, B 0 + 6 + 5 * b] rfl (by (repeat' apply And.intro) <;> first | exact True.intro | assumption | (simp only [mz_cm1, mz_c0, mz_c1, mz_c2, mz_c3, mz_c4, mz_c5, mz_c6, mz_c7, mz_c8, mz_c10, mz_c17, mz_c20, mz_c28, mz_c58, mz_c63, mz_c98, mz_c294, mz_c526, mz_c532, mz_c540, mz_c999, mz_c1900, mz_c2403, mz_c29362, mz_c29363, mz_c29364, mz_c29390, mz_c29393, mz_c29394, mz_c29398, mz_c29399, mz_c29400, mz_c29401, nI_add, pk_mul, pk_m1, mz_pp, mz_pq]; done) | omega | (simp only [mz_cm1, mz_c0, mz_c1, mz_c2, mz_c3, mz_c4, mz_c5, mz_c6, mz_c7, mz_c8, mz_c10, mz_c17, mz_c20, mz_c28, mz_c58, mz_c63, mz_c98, mz_c294, mz_c526, mz_c532, mz_c540, mz_c999, mz_c1900, mz_c2403, mz_c29362, mz_c29363, mz_c29364, mz_c29390, mz_c29393, mz_c29394, mz_c29398, mz_c29399, mz_c29400, mz_c29401, nI_add, pk_mul, pk_m1, mz_pp, mz_pq]; congr 1; omega)) ?_
  try simp only [mz_c0, mz_cm1]
  refine mz_Vcv hC tk_X5_needRoomIn rfl md_X0_isFull lk_RX5_258 rfl (cb_isFull l E (hbx b hb)) (by show (vwCl[mz_K _ _]?).map _ = _; rw [kb]; rfl) ⟨Nat.le_of_ble_eq_true rfl, Nat.le_of_ble_eq_true rfl⟩ ⟨Nat.le_of_ble_eq_true rfl, Nat.le_of_ble_eq_true rfl⟩ (Nat.le_of_ble_eq_true rfl) (fun v9 G9 sz9 hp9 => ?_)
  obtain ⟨rfl, hG9, hs9⟩ := hp9
  rw [hG9, ← hs9, if_pos h20]
  refine mz_br_t hC tk_X5_needRoomIn rfl ((by show (0 : Int32) = 0; rfl)) ?_
  refine mz_Vreturn hC tk_X5_needRoomIn rfl hret (Nat.le_of_ble_eq_true rfl) (Nat.le_of_ble_eq_true rfl) ?_
  exact ⟨rfl, rfl, rfl⟩
theorem cf_needRoomIn_x (hl : l.stackTraces = false) (hM : mr_M G O sz ω B sv F Λ v1 v2) (b : Nat) (hb : b < 3) (h20 : ¬ mx_cB (F 0) b < 20) : mz_X l E yX5_needRoomIn cX5_needRoomIn 2 none 6 [.ref ω, .int (nI b)] G sz "java/lang/IllegalStateException" := by
  obtain ⟨⟨⟨⟨⟨kω, oω, zω⟩, rω0, rω1, rω3, rω4⟩, iω2, sv4⟩, ⟨⟨kA, oA, zA⟩, nA⟩, hrA⟩, ⟨hd1, hd2⟩, hst, ⟨⟨vn1, vh1, vt1⟩, vc1⟩, ⟨vn2, vh2, vt2⟩, vc2⟩ := id hM
  have hS0 := hst 0 (by omega)
  obtain ⟨⟨⟨⟨⟨kσ, oσ, zσ⟩, iσ4⟩, rσ0, rσ1, rσ2, rσ3⟩, ⟨⟨⟨kβ, oβ, zβ⟩, nβ⟩, hrβ⟩, ⟨⟨⟨kκ, oκ, zκ⟩, nκ⟩, hrκ⟩⟩, ⟨⟨tq, hq⟩, ⟨⟨k5, o5, z5⟩, n5⟩, hw5⟩, hbx, hmc⟩ := id hS0
  have rβ := hrβ b hb
  obtain ⟨⟨⟨⟨kb, ob, zb⟩, ib0, ib1, ib2, ib3⟩, rb4, rb5, hbne⟩, ⟨tb1, tb2⟩, hc1, hc2⟩ := id (hbx b hb)
  have ktb1 := tb1.K
  have ktb2 := tb2.K
  have stb1 := tb1.s
  have stb2 := tb2.s
  have c20 := tb1.b.1
  have g6 := tb2.b.1
  refine mz_startX (by decide) (Nat.le_of_ble_eq_true rfl) ?_
  intro p e s m args below meth c hC hno
  refine mz_sn_ok hC tk_X5_needRoomIn pk_RX5 5 [B 0, B 0 + 1, b, B 0 + 6 + 5 * b] rfl (by (repeat' apply And.intro) <;> first | exact True.intro | assumption | (simp only [mz_cm1, mz_c0, mz_c1, mz_c2, mz_c3, mz_c4, mz_c5, mz_c6, mz_c7, mz_c8, mz_c10, mz_c17, mz_c20, mz_c28, mz_c58, mz_c63, mz_c98, mz_c294, mz_c526, mz_c532, mz_c540, mz_c999, mz_c1900, mz_c2403, mz_c29362, mz_c29363, mz_c29364, mz_c29390, mz_c29393, mz_c29394, mz_c29398, mz_c29399, mz_c29400, mz_c29401, nI_add, pk_mul, pk_m1, mz_pp, mz_pq]; done) | omega | (simp only [mz_cm1, mz_c0, mz_c1, mz_c2, mz_c3, mz_c4, mz_c5, mz_c6, mz_c7, mz_c8, mz_c10, mz_c17, mz_c20, mz_c28, mz_c58, mz_c63, mz_c98, mz_c294, mz_c526, mz_c532, mz_c540, mz_c999, mz_c1900, mz_c2403, mz_c29362, mz_c29363, mz_c29364, mz_c29390, mz_c29393, mz_c29394, mz_c29398, mz_c29399, mz_c29400, mz_c29401, nI_add, pk_mul, pk_m1, mz_pp, mz_pq]; congr 1; omega)) ?_
  try simp only [mz_c0, mz_cm1]
  refine mz_Vcv hC tk_X5_needRoomIn rfl md_X0_isFull lk_RX5_258 rfl (cb_isFull l E (hbx b hb)) (by show (vwCl[mz_K _ _]?).map _ = _; rw [kb]; rfl) ⟨Nat.le_of_ble_eq_true rfl, Nat.le_of_ble_eq_true rfl⟩ ⟨Nat.le_of_ble_eq_true rfl, Nat.le_of_ble_eq_true rfl⟩ (Nat.le_of_ble_eq_true rfl) (fun v9 G9 sz9 hp9 => ?_)
  obtain ⟨rfl, hG9, hs9⟩ := hp9
  rw [hG9, ← hs9, if_neg h20]
  refine mz_br_f hC tk_X5_needRoomIn rfl ((by show ¬ (1 : Int32) = 0; decide)) ?_
  exact mz_VthrowW hC hno hl tk_X5_needRoomIn "the box has 20 messages" rfl rfl rfl rfl rfl tw_is (List.mem_of_getElem? (i := 5) rfl) ⟨Nat.le_of_ble_eq_true rfl, Nat.le_of_ble_eq_true rfl, Nat.le_of_ble_eq_true rfl, Nat.le_of_ble_eq_true rfl⟩
theorem cf_needRoomForDeed (hM : mr_M G O sz ω B sv F Λ v1 v2) (m0 : Nat) (hm : m0 < 4) (h8 : mx_nD (F 0) m0 < 8) : mz_M l E yX5_needRoomForDeed cX5_needRoomForDeed 2 none 6 0 0 [.ref ω, .int (nI m0)] G sz (fun v' G' sz' => v' = none ∧ G' = G ∧ sz = sz') := by
  obtain ⟨⟨⟨⟨⟨kω, oω, zω⟩, rω0, rω1, rω3, rω4⟩, iω2, sv4⟩, ⟨⟨kA, oA, zA⟩, nA⟩, hrA⟩, ⟨hd1, hd2⟩, hst, ⟨⟨vn1, vh1, vt1⟩, vc1⟩, ⟨vn2, vh2, vt2⟩, vc2⟩ := id hM
  have hS0 := hst 0 (by omega)
  obtain ⟨⟨⟨⟨⟨kσ, oσ, zσ⟩, iσ4⟩, rσ0, rσ1, rσ2, rσ3⟩, ⟨⟨⟨kβ, oβ, zβ⟩, nβ⟩, hrβ⟩, ⟨⟨⟨kκ, oκ, zκ⟩, nκ⟩, hrκ⟩⟩, ⟨⟨tq, hq⟩, ⟨⟨k5, o5, z5⟩, n5⟩, hw5⟩, hbx, hmc⟩ := id hS0
  have rκ := hrκ m0 hm
  obtain ⟨⟨⟨⟨kk, ok, zk⟩, ik0, rk1, rk2⟩, ⟨kka, oka, nka, zka⟩, hra⟩, ⟨td, hnD⟩, hcp⟩ := id (hmc m0 hm)
  have ktd := td.K
  have std := td.s
  have n8 := td.b.1
  refine mz_start (by decide) (Nat.le_of_ble_eq_true rfl) ?_
  intro p e s m args below meth c hC hret hnm
  refine mz_sn_ok hC tk_X5_needRoomForDeed pk_RX5 8 [B 0, B 0 + 2, m0, B 0 + 21 + 13 * m0, B 0 + 21 + 13 * m0 + 2] rfl (by (repeat' apply And.intro) <;> first | exact True.intro | assumption | (simp only [mz_cm1, mz_c0, mz_c1, mz_c2, mz_c3, mz_c4, mz_c5, mz_c6, mz_c7, mz_c8, mz_c10, mz_c17, mz_c20, mz_c28, mz_c58, mz_c63, mz_c98, mz_c294, mz_c526, mz_c532, mz_c540, mz_c999, mz_c1900, mz_c2403, mz_c29362, mz_c29363, mz_c29364, mz_c29390, mz_c29393, mz_c29394, mz_c29398, mz_c29399, mz_c29400, mz_c29401, nI_add, pk_mul, pk_m1, mz_pp, mz_pq, std]; done) | omega | (simp only [mz_cm1, mz_c0, mz_c1, mz_c2, mz_c3, mz_c4, mz_c5, mz_c6, mz_c7, mz_c8, mz_c10, mz_c17, mz_c20, mz_c28, mz_c58, mz_c63, mz_c98, mz_c294, mz_c526, mz_c532, mz_c540, mz_c999, mz_c1900, mz_c2403, mz_c29362, mz_c29363, mz_c29364, mz_c29390, mz_c29393, mz_c29394, mz_c29398, mz_c29399, mz_c29400, mz_c29401, nI_add, pk_mul, pk_m1, mz_pp, mz_pq, std]; congr 1; omega)) ?_
  try simp only [mz_c0, mz_cm1, std]
  refine mz_br_t hC tk_X5_needRoomForDeed rfl ((by show nI (mx_nD (F 0) m0) < nI 8; exact nI_lt h8 (by omega))) ?_
  refine mz_Vreturn hC tk_X5_needRoomForDeed rfl hret (Nat.le_of_ble_eq_true rfl) (Nat.le_of_ble_eq_true rfl) ?_
  exact ⟨rfl, rfl, rfl⟩
theorem cf_needRoomForDeed_x (hl : l.stackTraces = false) (hM : mr_M G O sz ω B sv F Λ v1 v2) (m0 : Nat) (hm : m0 < 4) (h8 : ¬ mx_nD (F 0) m0 < 8) : mz_X l E yX5_needRoomForDeed cX5_needRoomForDeed 2 none 6 [.ref ω, .int (nI m0)] G sz "java/lang/IllegalStateException" := by
  obtain ⟨⟨⟨⟨⟨kω, oω, zω⟩, rω0, rω1, rω3, rω4⟩, iω2, sv4⟩, ⟨⟨kA, oA, zA⟩, nA⟩, hrA⟩, ⟨hd1, hd2⟩, hst, ⟨⟨vn1, vh1, vt1⟩, vc1⟩, ⟨vn2, vh2, vt2⟩, vc2⟩ := id hM
  have hS0 := hst 0 (by omega)
  obtain ⟨⟨⟨⟨⟨kσ, oσ, zσ⟩, iσ4⟩, rσ0, rσ1, rσ2, rσ3⟩, ⟨⟨⟨kβ, oβ, zβ⟩, nβ⟩, hrβ⟩, ⟨⟨⟨kκ, oκ, zκ⟩, nκ⟩, hrκ⟩⟩, ⟨⟨tq, hq⟩, ⟨⟨k5, o5, z5⟩, n5⟩, hw5⟩, hbx, hmc⟩ := id hS0
  have rκ := hrκ m0 hm
  obtain ⟨⟨⟨⟨kk, ok, zk⟩, ik0, rk1, rk2⟩, ⟨kka, oka, nka, zka⟩, hra⟩, ⟨td, hnD⟩, hcp⟩ := id (hmc m0 hm)
  have ktd := td.K
  have std := td.s
  have n8 := td.b.1
  refine mz_startX (by decide) (Nat.le_of_ble_eq_true rfl) ?_
  intro p e s m args below meth c hC hno
  refine mz_sn_ok hC tk_X5_needRoomForDeed pk_RX5 8 [B 0, B 0 + 2, m0, B 0 + 21 + 13 * m0, B 0 + 21 + 13 * m0 + 2] rfl (by (repeat' apply And.intro) <;> first | exact True.intro | assumption | (simp only [mz_cm1, mz_c0, mz_c1, mz_c2, mz_c3, mz_c4, mz_c5, mz_c6, mz_c7, mz_c8, mz_c10, mz_c17, mz_c20, mz_c28, mz_c58, mz_c63, mz_c98, mz_c294, mz_c526, mz_c532, mz_c540, mz_c999, mz_c1900, mz_c2403, mz_c29362, mz_c29363, mz_c29364, mz_c29390, mz_c29393, mz_c29394, mz_c29398, mz_c29399, mz_c29400, mz_c29401, nI_add, pk_mul, pk_m1, mz_pp, mz_pq, std]; done) | omega | (simp only [mz_cm1, mz_c0, mz_c1, mz_c2, mz_c3, mz_c4, mz_c5, mz_c6, mz_c7, mz_c8, mz_c10, mz_c17, mz_c20, mz_c28, mz_c58, mz_c63, mz_c98, mz_c294, mz_c526, mz_c532, mz_c540, mz_c999, mz_c1900, mz_c2403, mz_c29362, mz_c29363, mz_c29364, mz_c29390, mz_c29393, mz_c29394, mz_c29398, mz_c29399, mz_c29400, mz_c29401, nI_add, pk_mul, pk_m1, mz_pp, mz_pq, std]; congr 1; omega)) ?_
  try simp only [mz_c0, mz_cm1, std]
  refine mz_br_f hC tk_X5_needRoomForDeed rfl ((by show ¬ nI (mx_nD (F 0) m0) < nI 8; exact nI_nlt (by omega) (by omega))) ?_
  exact mz_VthrowW hC hno hl tk_X5_needRoomForDeed "there are 8 deeds" rfl rfl rfl rfl rfl tw_is (List.mem_of_getElem? (i := 14) rfl) ⟨Nat.le_of_ble_eq_true rfl, Nat.le_of_ble_eq_true rfl, Nat.le_of_ble_eq_true rfl, Nat.le_of_ble_eq_true rfl⟩
end MRF

