/-! ===== the class: a machine's deeds ===== -/
/-- a machine's object and its deeds -/
def mr_Kd (G : mz_G) (O : Nat → Nat) (sz κ δ : Nat) (f : Nat → Int32) (m n : Nat) : Prop :=
  (mz_K G κ = 2 ∧ mz_r G κ 2 = some δ) ∧ mt_T G O sz δ 7 8 n 56 (mr_h f (294 + 58 * m + 1) 7)
theorem mr_DA (f : Nat → Int32) (m k j : Nat) : mr_h f (294 + 58 * m + 1) 7 k j = f (mx_DA m k + j) := by
  unfold mr_h mx_DA
  congr 1
/-- what a view's table may still cost -/
def mr_pv (len : Nat) : Nat := if len ≤ 84 then 4296 else if len ≤ 174 then 4122 else if len ≤ 354 then 3768 else if len ≤ 714 then 3054 else if len ≤ 1434 then 1620 else 0
def mr_cv (len : Nat) : Prop := len = 84 ∨ len = 174 ∨ len = 354 ∨ len = 714 ∨ len = 1434 ∨ len = 1620
theorem mr_cv_gl {len n : Nat} (h : mr_cv len) (h1 : n * 3 ≤ len) (h2 : n < 540) : mr_cv (mt_gl 3 540 n len) ∧ mt_gs 3 540 n len + mr_pv (mt_gl 3 540 n len) = mr_pv len ∧ mt_gc 3 n len ≤ mt_gs 3 540 n len := by
  unfold mt_gl mt_gs mt_gc
  by_cases hg : (n + 1) * 3 ≤ len
  · simp only [if_pos hg]
    exact ⟨h, by omega, by omega⟩
  · simp only [if_neg hg]
    unfold mr_cv at *
    rcases h with rfl | rfl | rfl | rfl | rfl | rfl
    · rw [show n = 28 by omega]; decide
    · rw [show n = 58 by omega]; decide
    · rw [show n = 118 by omega]; decide
    · rw [show n = 238 by omega]; decide
    · rw [show n = 478 by omega]; decide
    · omega
theorem mt_gr_le3 (len n : Nat) (h : n ≤ 540) : n * 3 ≤ mt_gr 3 540 len n := by
  rcases mt_gr_ge 3 540 len n h with q | q
  · exact q
  · omega
theorem mt_gr_cv {len : Nat} (h : mr_cv len) : ∀ {n : Nat}, n ≤ 540 → mr_cv (mt_gr 3 540 len n) ∧ mr_pv (mt_gr 3 540 len n) ≤ mr_pv len
  | 0, _ => ⟨h, Nat.le_refl _⟩
  | n + 1, hn => by
    obtain ⟨a, b⟩ := mt_gr_cv h (n := n) (by omega)
    obtain ⟨c, d, -⟩ := mr_cv_gl a (mt_gr_le3 len n (by omega)) (by omega)
    exact ⟨c, by show mr_pv (mt_gl 3 540 n _) ≤ _; omega⟩
theorem mt_gr_mv {len : Nat} (h : mr_cv len) {n m : Nat} (hnm : n ≤ m) (hm : m ≤ 540) : mr_pv (mt_gr 3 540 len m) ≤ mr_pv (mt_gr 3 540 len n) := by
  obtain ⟨d, rfl⟩ := Nat.exists_eq_add_of_le hnm
  clear hnm
  induction d with
  | zero => exact Nat.le_refl _
  | succ d ih =>
    have i1 := ih (by omega)
    obtain ⟨a, -⟩ := mt_gr_cv h (n := n + d) (by omega)
    obtain ⟨-, e, -⟩ := mr_cv_gl a (mt_gr_le3 len (n + d) (by omega)) (by omega)
    show mr_pv (mt_gl 3 540 (n + d) (mt_gr 3 540 len (n + d))) ≤ _
    omega
section MRD
variable (l : Launch) (E : mz_E) {G : mz_G} {O : Nat → Nat} {sz κ δ : Nat} {f : Nat → Int32} {m0 n : Nat}
theorem cf_mixFlags (a b d : Int32) : mz_M l E yX5_mixFlags cX5_mixFlags 3 (some .int) 1 0 0 [.int a, .int b, .int d] G sz (fun v' G' sz' => v' = some (.int ((a &&& (d ^^^ -1)) ||| b)) ∧ G' = G ∧ sz = sz') := by
  refine mz_start (by decide) (Nat.le_of_ble_eq_true rfl) ?_
  intro p e s m args below meth c hC hret hnm
  refine mz_sn_ok hC tk_X5_mixFlags pk_RX5 7 [] rfl (by (repeat' apply And.intro) <;> first | exact True.intro | assumption | (simp only [mz_cm1, mz_c0, mz_c1, mz_c2, mz_c3, mz_c4, mz_c5, mz_c6, mz_c7, mz_c8, mz_c10, mz_c17, mz_c20, mz_c28, mz_c58, mz_c63, mz_c98, mz_c294, mz_c526, mz_c532, mz_c540, mz_c999, mz_c1900, mz_c2403, mz_c29362, mz_c29363, mz_c29364, mz_c29390, mz_c29393, mz_c29394, mz_c29398, mz_c29399, mz_c29400, mz_c29401, nI_add, pk_mul, pk_m1, mz_pp, mz_pq]; done) | omega | (simp only [mz_cm1, mz_c0, mz_c1, mz_c2, mz_c3, mz_c4, mz_c5, mz_c6, mz_c7, mz_c8, mz_c10, mz_c17, mz_c20, mz_c28, mz_c58, mz_c63, mz_c98, mz_c294, mz_c526, mz_c532, mz_c540, mz_c999, mz_c1900, mz_c2403, mz_c29362, mz_c29363, mz_c29364, mz_c29390, mz_c29393, mz_c29394, mz_c29398, mz_c29399, mz_c29400, mz_c29401, nI_add, pk_mul, pk_m1, mz_pp, mz_pq]; congr 1; omega)) ?_
  try simp only [mz_c0, mz_cm1]
  refine mz_Vireturn hC tk_X5_mixFlags rfl hret rfl (Nat.le_of_ble_eq_true rfl) (Nat.le_of_ble_eq_true rfl) ?_
  exact ⟨rfl, rfl, rfl⟩
theorem cd_deedFor (hD : mr_Kd G O sz κ δ f m0 n) (kind b name : Int32) : mz_M l E yX2_deedFor cX2_deedFor 5 (some .int) 2 0 0 [.ref κ, .int kind, .int b, .int name] G sz (fun v' G' sz' => v' = some (.int (mz_oi (mz_fp (mx_dp f m0 kind b name) n))) ∧ G' = G ∧ sz = sz') := by
  obtain ⟨⟨hK, r2⟩, t⟩ := hD
  have kt := t.K
  have st := t.s
  obtain ⟨n8, -, -⟩ := t.b
  refine mz_start (by decide) (Nat.le_of_ble_eq_true rfl) ?_
  intro p e s m args below meth c hC hret hnm
  have loop : ∀ (d k : Nat), k + d = n → mz_fp (mx_dp f m0 kind b name) k = none → mz_V E p l e (mz_rm 2 0 0) s m args below meth c 5 (0) (0) (mz_Z E below args s 0 0 (fun v' G' sz' => v' = some (.int (mz_oi (mz_fp (mx_dp f m0 kind b name) n))) ∧ G' = G ∧ sz = sz')) (G) (sz) (3) [some (.ref κ), some (.int kind), some (.int b), some (.int name), some (.int (nI k))] [] := by
    intro d
    induction d with
    | zero =>
      intro k hk hz
      rw [show k = n by omega] at hz ⊢
      refine mz_sn_ok hC tk_X2_deedFor pk_RX2 4 [δ] rfl (by (repeat' apply And.intro) <;> first | exact True.intro | assumption | (simp only [mz_cm1, mz_c0, mz_c1, mz_c2, mz_c3, mz_c4, mz_c5, mz_c6, mz_c7, mz_c8, mz_c10, mz_c17, mz_c20, mz_c28, mz_c58, mz_c63, mz_c98, mz_c294, mz_c526, mz_c532, mz_c540, mz_c999, mz_c1900, mz_c2403, mz_c29362, mz_c29363, mz_c29364, mz_c29390, mz_c29393, mz_c29394, mz_c29398, mz_c29399, mz_c29400, mz_c29401, nI_add, pk_mul, pk_m1, mz_pp, mz_pq, st]; done) | omega | (simp only [mz_cm1, mz_c0, mz_c1, mz_c2, mz_c3, mz_c4, mz_c5, mz_c6, mz_c7, mz_c8, mz_c10, mz_c17, mz_c20, mz_c28, mz_c58, mz_c63, mz_c98, mz_c294, mz_c526, mz_c532, mz_c540, mz_c999, mz_c1900, mz_c2403, mz_c29362, mz_c29363, mz_c29364, mz_c29390, mz_c29393, mz_c29394, mz_c29398, mz_c29399, mz_c29400, mz_c29401, nI_add, pk_mul, pk_m1, mz_pp, mz_pq, st]; congr 1; omega)) ?_
      try simp only [mz_c0, mz_cm1, st]
      refine mz_br_t hC tk_X2_deedFor rfl ((by show nI n ≤ nI n; exact nI_le (by omega) (by omega))) ?_
      refine mz_sn_ok hC tk_X2_deedFor pk_RX2 1 [] rfl (by (repeat' apply And.intro) <;> first | exact True.intro | assumption | (simp only [mz_cm1, mz_c0, mz_c1, mz_c2, mz_c3, mz_c4, mz_c5, mz_c6, mz_c7, mz_c8, mz_c10, mz_c17, mz_c20, mz_c28, mz_c58, mz_c63, mz_c98, mz_c294, mz_c526, mz_c532, mz_c540, mz_c999, mz_c1900, mz_c2403, mz_c29362, mz_c29363, mz_c29364, mz_c29390, mz_c29393, mz_c29394, mz_c29398, mz_c29399, mz_c29400, mz_c29401, nI_add, pk_mul, pk_m1, mz_pp, mz_pq]; done) | omega | (simp only [mz_cm1, mz_c0, mz_c1, mz_c2, mz_c3, mz_c4, mz_c5, mz_c6, mz_c7, mz_c8, mz_c10, mz_c17, mz_c20, mz_c28, mz_c58, mz_c63, mz_c98, mz_c294, mz_c526, mz_c532, mz_c540, mz_c999, mz_c1900, mz_c2403, mz_c29362, mz_c29363, mz_c29364, mz_c29390, mz_c29393, mz_c29394, mz_c29398, mz_c29399, mz_c29400, mz_c29401, nI_add, pk_mul, pk_m1, mz_pp, mz_pq]; congr 1; omega)) ?_
      try simp only [mz_c0, mz_cm1]
      refine mz_Vireturn hC tk_X2_deedFor rfl hret rfl (Nat.le_of_ble_eq_true rfl) (Nat.le_of_ble_eq_true rfl) ?_
      exact ⟨by rw [hz]; rfl, rfl, rfl⟩
    | succ d ih =>
      intro k hk hz
      have next : ¬ mx_dp f m0 kind b name k = true → mz_V E p l e (mz_rm 2 0 0) s m args below meth c 5 (0) (0) (mz_Z E below args s 0 0 (fun v' G' sz' => v' = some (.int (mz_oi (mz_fp (mx_dp f m0 kind b name) n))) ∧ G' = G ∧ sz = sz')) (G) (sz) (60) [some (.ref κ), some (.int kind), some (.int b), some (.int name), some (.int (nI k))] [] := by
        intro hp
        refine mz_sn_ok hC tk_X2_deedFor pk_RX2 2 [] rfl (by (repeat' apply And.intro) <;> first | exact True.intro | assumption | (simp only [mz_cm1, mz_c0, mz_c1, mz_c2, mz_c3, mz_c4, mz_c5, mz_c6, mz_c7, mz_c8, mz_c10, mz_c17, mz_c20, mz_c28, mz_c58, mz_c63, mz_c98, mz_c294, mz_c526, mz_c532, mz_c540, mz_c999, mz_c1900, mz_c2403, mz_c29362, mz_c29363, mz_c29364, mz_c29390, mz_c29393, mz_c29394, mz_c29398, mz_c29399, mz_c29400, mz_c29401, nI_add, pk_mul, pk_m1, mz_pp, mz_pq]; done) | omega | (simp only [mz_cm1, mz_c0, mz_c1, mz_c2, mz_c3, mz_c4, mz_c5, mz_c6, mz_c7, mz_c8, mz_c10, mz_c17, mz_c20, mz_c28, mz_c58, mz_c63, mz_c98, mz_c294, mz_c526, mz_c532, mz_c540, mz_c999, mz_c1900, mz_c2403, mz_c29362, mz_c29363, mz_c29364, mz_c29390, mz_c29393, mz_c29394, mz_c29398, mz_c29399, mz_c29400, mz_c29401, nI_add, pk_mul, pk_m1, mz_pp, mz_pq]; congr 1; omega)) ?_
        try simp only [mz_c0, mz_cm1]
        refine mz_V.sub (lv' := [some (.ref κ), some (.int kind), some (.int b), some (.int name), some (.int (nI (k + 1)))]) (by (repeat' apply And.intro) <;> first | with_reducible rfl | exact True.intro | (simp only [mz_cm1, mz_c0, mz_c1, mz_c2, mz_c3, mz_c4, mz_c5, mz_c6, mz_c7, mz_c8, mz_c10, mz_c17, mz_c20, mz_c28, mz_c58, mz_c63, mz_c98, mz_c294, mz_c526, mz_c532, mz_c540, mz_c999, mz_c1900, mz_c2403, mz_c29362, mz_c29363, mz_c29364, mz_c29390, mz_c29393, mz_c29394, mz_c29398, mz_c29399, mz_c29400, mz_c29401, nI_add, pk_mul, pk_m1, mz_pp, mz_pq]; done) | rfl) ?_
        exact ih (k + 1) (by omega) (mz_fp_miss hz hp)
      refine mz_sn_ok hC tk_X2_deedFor pk_RX2 4 [δ] rfl (by (repeat' apply And.intro) <;> first | exact True.intro | assumption | (simp only [mz_cm1, mz_c0, mz_c1, mz_c2, mz_c3, mz_c4, mz_c5, mz_c6, mz_c7, mz_c8, mz_c10, mz_c17, mz_c20, mz_c28, mz_c58, mz_c63, mz_c98, mz_c294, mz_c526, mz_c532, mz_c540, mz_c999, mz_c1900, mz_c2403, mz_c29362, mz_c29363, mz_c29364, mz_c29390, mz_c29393, mz_c29394, mz_c29398, mz_c29399, mz_c29400, mz_c29401, nI_add, pk_mul, pk_m1, mz_pp, mz_pq, st]; done) | omega | (simp only [mz_cm1, mz_c0, mz_c1, mz_c2, mz_c3, mz_c4, mz_c5, mz_c6, mz_c7, mz_c8, mz_c10, mz_c17, mz_c20, mz_c28, mz_c58, mz_c63, mz_c98, mz_c294, mz_c526, mz_c532, mz_c540, mz_c999, mz_c1900, mz_c2403, mz_c29362, mz_c29363, mz_c29364, mz_c29390, mz_c29393, mz_c29394, mz_c29398, mz_c29399, mz_c29400, mz_c29401, nI_add, pk_mul, pk_m1, mz_pp, mz_pq, st]; congr 1; omega)) ?_
      try simp only [mz_c0, mz_cm1, st]
      refine mz_br_f hC tk_X2_deedFor rfl ((by show ¬ nI n ≤ nI k; exact nI_ge (by omega) (by omega))) ?_
      refine mz_sn_ok hC tk_X2_deedFor pk_RX2 4 [δ] rfl (by (repeat' apply And.intro) <;> first | exact True.intro | assumption | (simp only [mz_cm1, mz_c0, mz_c1, mz_c2, mz_c3, mz_c4, mz_c5, mz_c6, mz_c7, mz_c8, mz_c10, mz_c17, mz_c20, mz_c28, mz_c58, mz_c63, mz_c98, mz_c294, mz_c526, mz_c532, mz_c540, mz_c999, mz_c1900, mz_c2403, mz_c29362, mz_c29363, mz_c29364, mz_c29390, mz_c29393, mz_c29394, mz_c29398, mz_c29399, mz_c29400, mz_c29401, nI_add, pk_mul, pk_m1, mz_pp, mz_pq]; done) | omega | (simp only [mz_cm1, mz_c0, mz_c1, mz_c2, mz_c3, mz_c4, mz_c5, mz_c6, mz_c7, mz_c8, mz_c10, mz_c17, mz_c20, mz_c28, mz_c58, mz_c63, mz_c98, mz_c294, mz_c526, mz_c532, mz_c540, mz_c999, mz_c1900, mz_c2403, mz_c29362, mz_c29363, mz_c29364, mz_c29390, mz_c29393, mz_c29394, mz_c29398, mz_c29399, mz_c29400, mz_c29401, nI_add, pk_mul, pk_m1, mz_pp, mz_pq]; congr 1; omega)) ?_
      try simp only [mz_c0, mz_cm1]
      refine mz_Vcv hC tk_X2_deedFor rfl md_X4_cell lk_RX2_34 rfl (ct_cell l E t (nI k) (nI 1)) (by show (vwCl[mz_K _ _]?).map _ = _; rw [kt]; rfl) ⟨Nat.le_of_ble_eq_true rfl, Nat.le_of_ble_eq_true rfl⟩ ⟨Nat.le_of_ble_eq_true rfl, Nat.le_of_ble_eq_true rfl⟩ (Nat.le_of_ble_eq_true rfl) (fun v9 G9 sz9 hp9 => ?_)
      obtain ⟨rfl, hG9, hs9⟩ := hp9
      rw [hG9, ← hs9, mt_c_in (show k < n by omega) (by omega) (by omega) (by omega), mr_DA]
      refine mz_sn_ok hC tk_X2_deedFor pk_RX2 1 [] rfl (by (repeat' apply And.intro) <;> first | exact True.intro | assumption | (simp only [mz_cm1, mz_c0, mz_c1, mz_c2, mz_c3, mz_c4, mz_c5, mz_c6, mz_c7, mz_c8, mz_c10, mz_c17, mz_c20, mz_c28, mz_c58, mz_c63, mz_c98, mz_c294, mz_c526, mz_c532, mz_c540, mz_c999, mz_c1900, mz_c2403, mz_c29362, mz_c29363, mz_c29364, mz_c29390, mz_c29393, mz_c29394, mz_c29398, mz_c29399, mz_c29400, mz_c29401, nI_add, pk_mul, pk_m1, mz_pp, mz_pq]; done) | omega | (simp only [mz_cm1, mz_c0, mz_c1, mz_c2, mz_c3, mz_c4, mz_c5, mz_c6, mz_c7, mz_c8, mz_c10, mz_c17, mz_c20, mz_c28, mz_c58, mz_c63, mz_c98, mz_c294, mz_c526, mz_c532, mz_c540, mz_c999, mz_c1900, mz_c2403, mz_c29362, mz_c29363, mz_c29364, mz_c29390, mz_c29393, mz_c29394, mz_c29398, mz_c29399, mz_c29400, mz_c29401, nI_add, pk_mul, pk_m1, mz_pp, mz_pq]; congr 1; omega)) ?_
      try simp only [mz_c0, mz_cm1]
      by_cases h1 : f (mx_DA m0 k + 1) = kind
      · refine mz_br_f hC tk_X2_deedFor rfl ((by show ¬ ¬ f (mx_DA m0 k + 1) = kind; exact fun z => z h1)) ?_
        refine mz_sn_ok hC tk_X2_deedFor pk_RX2 4 [δ] rfl (by (repeat' apply And.intro) <;> first | exact True.intro | assumption | (simp only [mz_cm1, mz_c0, mz_c1, mz_c2, mz_c3, mz_c4, mz_c5, mz_c6, mz_c7, mz_c8, mz_c10, mz_c17, mz_c20, mz_c28, mz_c58, mz_c63, mz_c98, mz_c294, mz_c526, mz_c532, mz_c540, mz_c999, mz_c1900, mz_c2403, mz_c29362, mz_c29363, mz_c29364, mz_c29390, mz_c29393, mz_c29394, mz_c29398, mz_c29399, mz_c29400, mz_c29401, nI_add, pk_mul, pk_m1, mz_pp, mz_pq]; done) | omega | (simp only [mz_cm1, mz_c0, mz_c1, mz_c2, mz_c3, mz_c4, mz_c5, mz_c6, mz_c7, mz_c8, mz_c10, mz_c17, mz_c20, mz_c28, mz_c58, mz_c63, mz_c98, mz_c294, mz_c526, mz_c532, mz_c540, mz_c999, mz_c1900, mz_c2403, mz_c29362, mz_c29363, mz_c29364, mz_c29390, mz_c29393, mz_c29394, mz_c29398, mz_c29399, mz_c29400, mz_c29401, nI_add, pk_mul, pk_m1, mz_pp, mz_pq]; congr 1; omega)) ?_
        try simp only [mz_c0, mz_cm1]
        refine mz_Vcv hC tk_X2_deedFor rfl md_X4_cell lk_RX2_34 rfl (ct_cell l E t (nI k) (nI 2)) (by show (vwCl[mz_K _ _]?).map _ = _; rw [kt]; rfl) ⟨Nat.le_of_ble_eq_true rfl, Nat.le_of_ble_eq_true rfl⟩ ⟨Nat.le_of_ble_eq_true rfl, Nat.le_of_ble_eq_true rfl⟩ (Nat.le_of_ble_eq_true rfl) (fun v9 G9 sz9 hp9 => ?_)
        obtain ⟨rfl, hG10, hs10⟩ := hp9
        rw [hG10, ← hs10, mt_c_in (show k < n by omega) (by omega) (by omega) (by omega), mr_DA]
        refine mz_sn_ok hC tk_X2_deedFor pk_RX2 1 [] rfl (by (repeat' apply And.intro) <;> first | exact True.intro | assumption | (simp only [mz_cm1, mz_c0, mz_c1, mz_c2, mz_c3, mz_c4, mz_c5, mz_c6, mz_c7, mz_c8, mz_c10, mz_c17, mz_c20, mz_c28, mz_c58, mz_c63, mz_c98, mz_c294, mz_c526, mz_c532, mz_c540, mz_c999, mz_c1900, mz_c2403, mz_c29362, mz_c29363, mz_c29364, mz_c29390, mz_c29393, mz_c29394, mz_c29398, mz_c29399, mz_c29400, mz_c29401, nI_add, pk_mul, pk_m1, mz_pp, mz_pq]; done) | omega | (simp only [mz_cm1, mz_c0, mz_c1, mz_c2, mz_c3, mz_c4, mz_c5, mz_c6, mz_c7, mz_c8, mz_c10, mz_c17, mz_c20, mz_c28, mz_c58, mz_c63, mz_c98, mz_c294, mz_c526, mz_c532, mz_c540, mz_c999, mz_c1900, mz_c2403, mz_c29362, mz_c29363, mz_c29364, mz_c29390, mz_c29393, mz_c29394, mz_c29398, mz_c29399, mz_c29400, mz_c29401, nI_add, pk_mul, pk_m1, mz_pp, mz_pq]; congr 1; omega)) ?_
        try simp only [mz_c0, mz_cm1]
        by_cases h2 : f (mx_DA m0 k + 2) = b
        · refine mz_br_f hC tk_X2_deedFor rfl ((by show ¬ ¬ f (mx_DA m0 k + 2) = b; exact fun z => z h2)) ?_
          refine mz_sn_ok hC tk_X2_deedFor pk_RX2 4 [δ] rfl (by (repeat' apply And.intro) <;> first | exact True.intro | assumption | (simp only [mz_cm1, mz_c0, mz_c1, mz_c2, mz_c3, mz_c4, mz_c5, mz_c6, mz_c7, mz_c8, mz_c10, mz_c17, mz_c20, mz_c28, mz_c58, mz_c63, mz_c98, mz_c294, mz_c526, mz_c532, mz_c540, mz_c999, mz_c1900, mz_c2403, mz_c29362, mz_c29363, mz_c29364, mz_c29390, mz_c29393, mz_c29394, mz_c29398, mz_c29399, mz_c29400, mz_c29401, nI_add, pk_mul, pk_m1, mz_pp, mz_pq]; done) | omega | (simp only [mz_cm1, mz_c0, mz_c1, mz_c2, mz_c3, mz_c4, mz_c5, mz_c6, mz_c7, mz_c8, mz_c10, mz_c17, mz_c20, mz_c28, mz_c58, mz_c63, mz_c98, mz_c294, mz_c526, mz_c532, mz_c540, mz_c999, mz_c1900, mz_c2403, mz_c29362, mz_c29363, mz_c29364, mz_c29390, mz_c29393, mz_c29394, mz_c29398, mz_c29399, mz_c29400, mz_c29401, nI_add, pk_mul, pk_m1, mz_pp, mz_pq]; congr 1; omega)) ?_
          try simp only [mz_c0, mz_cm1]
          refine mz_Vcv hC tk_X2_deedFor rfl md_X4_cell lk_RX2_34 rfl (ct_cell l E t (nI k) (nI 3)) (by show (vwCl[mz_K _ _]?).map _ = _; rw [kt]; rfl) ⟨Nat.le_of_ble_eq_true rfl, Nat.le_of_ble_eq_true rfl⟩ ⟨Nat.le_of_ble_eq_true rfl, Nat.le_of_ble_eq_true rfl⟩ (Nat.le_of_ble_eq_true rfl) (fun v9 G9 sz9 hp9 => ?_)
          obtain ⟨rfl, hG11, hs11⟩ := hp9
          rw [hG11, ← hs11, mt_c_in (show k < n by omega) (by omega) (by omega) (by omega), mr_DA]
          refine mz_sn_ok hC tk_X2_deedFor pk_RX2 1 [] rfl (by (repeat' apply And.intro) <;> first | exact True.intro | assumption | (simp only [mz_cm1, mz_c0, mz_c1, mz_c2, mz_c3, mz_c4, mz_c5, mz_c6, mz_c7, mz_c8, mz_c10, mz_c17, mz_c20, mz_c28, mz_c58, mz_c63, mz_c98, mz_c294, mz_c526, mz_c532, mz_c540, mz_c999, mz_c1900, mz_c2403, mz_c29362, mz_c29363, mz_c29364, mz_c29390, mz_c29393, mz_c29394, mz_c29398, mz_c29399, mz_c29400, mz_c29401, nI_add, pk_mul, pk_m1, mz_pp, mz_pq]; done) | omega | (simp only [mz_cm1, mz_c0, mz_c1, mz_c2, mz_c3, mz_c4, mz_c5, mz_c6, mz_c7, mz_c8, mz_c10, mz_c17, mz_c20, mz_c28, mz_c58, mz_c63, mz_c98, mz_c294, mz_c526, mz_c532, mz_c540, mz_c999, mz_c1900, mz_c2403, mz_c29362, mz_c29363, mz_c29364, mz_c29390, mz_c29393, mz_c29394, mz_c29398, mz_c29399, mz_c29400, mz_c29401, nI_add, pk_mul, pk_m1, mz_pp, mz_pq]; congr 1; omega)) ?_
          try simp only [mz_c0, mz_cm1]
          by_cases h3 : f (mx_DA m0 k + 3) = name
          · refine mz_br_f hC tk_X2_deedFor rfl ((by show ¬ ¬ f (mx_DA m0 k + 3) = name; exact fun z => z h3)) ?_
            refine mz_sn_ok hC tk_X2_deedFor pk_RX2 1 [] rfl (by (repeat' apply And.intro) <;> first | exact True.intro | assumption | (simp only [mz_cm1, mz_c0, mz_c1, mz_c2, mz_c3, mz_c4, mz_c5, mz_c6, mz_c7, mz_c8, mz_c10, mz_c17, mz_c20, mz_c28, mz_c58, mz_c63, mz_c98, mz_c294, mz_c526, mz_c532, mz_c540, mz_c999, mz_c1900, mz_c2403, mz_c29362, mz_c29363, mz_c29364, mz_c29390, mz_c29393, mz_c29394, mz_c29398, mz_c29399, mz_c29400, mz_c29401, nI_add, pk_mul, pk_m1, mz_pp, mz_pq]; done) | omega | (simp only [mz_cm1, mz_c0, mz_c1, mz_c2, mz_c3, mz_c4, mz_c5, mz_c6, mz_c7, mz_c8, mz_c10, mz_c17, mz_c20, mz_c28, mz_c58, mz_c63, mz_c98, mz_c294, mz_c526, mz_c532, mz_c540, mz_c999, mz_c1900, mz_c2403, mz_c29362, mz_c29363, mz_c29364, mz_c29390, mz_c29393, mz_c29394, mz_c29398, mz_c29399, mz_c29400, mz_c29401, nI_add, pk_mul, pk_m1, mz_pp, mz_pq]; congr 1; omega)) ?_
            try simp only [mz_c0, mz_cm1]
            refine mz_Vireturn hC tk_X2_deedFor rfl hret rfl (Nat.le_of_ble_eq_true rfl) (Nat.le_of_ble_eq_true rfl) ?_
            exact ⟨by rw [mz_fp_hit hz (decide_eq_true ⟨h1, h2, h3⟩) (show k < n by omega)]; rfl, rfl, rfl⟩
          · refine mz_br_t hC tk_X2_deedFor rfl ((by show ¬ f (mx_DA m0 k + 3) = name; exact h3)) ?_
            exact next (fun z => h3 (of_decide_eq_true z).2.2)
        · refine mz_br_t hC tk_X2_deedFor rfl ((by show ¬ f (mx_DA m0 k + 2) = b; exact h2)) ?_
          exact next (fun z => h2 (of_decide_eq_true z).2.1)
      · refine mz_br_t hC tk_X2_deedFor rfl ((by show ¬ f (mx_DA m0 k + 1) = kind; exact h1)) ?_
        exact next (fun z => h1 (of_decide_eq_true z).1)
  refine mz_sn_ok hC tk_X2_deedFor pk_RX2 2 [] rfl (by (repeat' apply And.intro) <;> first | exact True.intro | assumption | (simp only [mz_cm1, mz_c0, mz_c1, mz_c2, mz_c3, mz_c4, mz_c5, mz_c6, mz_c7, mz_c8, mz_c10, mz_c17, mz_c20, mz_c28, mz_c58, mz_c63, mz_c98, mz_c294, mz_c526, mz_c532, mz_c540, mz_c999, mz_c1900, mz_c2403, mz_c29362, mz_c29363, mz_c29364, mz_c29390, mz_c29393, mz_c29394, mz_c29398, mz_c29399, mz_c29400, mz_c29401, nI_add, pk_mul, pk_m1, mz_pp, mz_pq]; done) | omega | (simp only [mz_cm1, mz_c0, mz_c1, mz_c2, mz_c3, mz_c4, mz_c5, mz_c6, mz_c7, mz_c8, mz_c10, mz_c17, mz_c20, mz_c28, mz_c58, mz_c63, mz_c98, mz_c294, mz_c526, mz_c532, mz_c540, mz_c999, mz_c1900, mz_c2403, mz_c29362, mz_c29363, mz_c29364, mz_c29390, mz_c29393, mz_c29394, mz_c29398, mz_c29399, mz_c29400, mz_c29401, nI_add, pk_mul, pk_m1, mz_pp, mz_pq]; congr 1; omega)) ?_
  try simp only [mz_c0, mz_cm1]
  refine mz_V.sub (lv' := [some (.ref κ), some (.int kind), some (.int b), some (.int name), some (.int (nI 0))]) (by (repeat' apply And.intro) <;> first | with_reducible rfl | exact True.intro | (simp only [mz_cm1, mz_c0, mz_c1, mz_c2, mz_c3, mz_c4, mz_c5, mz_c6, mz_c7, mz_c8, mz_c10, mz_c17, mz_c20, mz_c28, mz_c58, mz_c63, mz_c98, mz_c294, mz_c526, mz_c532, mz_c540, mz_c999, mz_c1900, mz_c2403, mz_c29362, mz_c29363, mz_c29364, mz_c29390, mz_c29393, mz_c29394, mz_c29398, mz_c29399, mz_c29400, mz_c29401, nI_add, pk_mul, pk_m1, mz_pp, mz_pq]; done) | rfl) ?_
  exact loop n 0 (by omega) rfl
theorem cd_isFor (hD : mr_Kd G O sz κ δ f m0 n) (k : Nat) (hk : k < n) (b : Int32) : mz_M l E yX2_isForMessageOf cX2_isForMessageOf 3 (some .boolean) 2 0 0 [.ref κ, .int (nI k), .int b] G sz (fun v' G' sz' => v' = some (.int (if ¬ f (mx_DA m0 k + 1) = nI 1 ∧ f (mx_DA m0 k + 2) = b then 1 else 0)) ∧ G' = G ∧ sz = sz') := by
  obtain ⟨⟨hK, r2⟩, t⟩ := hD
  have kt := t.K
  obtain ⟨n8, -, -⟩ := t.b
  refine mz_start (by decide) (Nat.le_of_ble_eq_true rfl) ?_
  intro p e s m args below meth c hC hret hnm
  refine mz_sn_ok hC tk_X2_isForMessageOf pk_RX2 4 [δ] rfl (by (repeat' apply And.intro) <;> first | exact True.intro | assumption | (simp only [mz_cm1, mz_c0, mz_c1, mz_c2, mz_c3, mz_c4, mz_c5, mz_c6, mz_c7, mz_c8, mz_c10, mz_c17, mz_c20, mz_c28, mz_c58, mz_c63, mz_c98, mz_c294, mz_c526, mz_c532, mz_c540, mz_c999, mz_c1900, mz_c2403, mz_c29362, mz_c29363, mz_c29364, mz_c29390, mz_c29393, mz_c29394, mz_c29398, mz_c29399, mz_c29400, mz_c29401, nI_add, pk_mul, pk_m1, mz_pp, mz_pq]; done) | omega | (simp only [mz_cm1, mz_c0, mz_c1, mz_c2, mz_c3, mz_c4, mz_c5, mz_c6, mz_c7, mz_c8, mz_c10, mz_c17, mz_c20, mz_c28, mz_c58, mz_c63, mz_c98, mz_c294, mz_c526, mz_c532, mz_c540, mz_c999, mz_c1900, mz_c2403, mz_c29362, mz_c29363, mz_c29364, mz_c29390, mz_c29393, mz_c29394, mz_c29398, mz_c29399, mz_c29400, mz_c29401, nI_add, pk_mul, pk_m1, mz_pp, mz_pq]; congr 1; omega)) ?_
  try simp only [mz_c0, mz_cm1]
  refine mz_Vcv hC tk_X2_isForMessageOf rfl md_X4_cell lk_RX2_34 rfl (ct_cell l E t (nI k) (nI 2)) (by show (vwCl[mz_K _ _]?).map _ = _; rw [kt]; rfl) ⟨Nat.le_of_ble_eq_true rfl, Nat.le_of_ble_eq_true rfl⟩ ⟨Nat.le_of_ble_eq_true rfl, Nat.le_of_ble_eq_true rfl⟩ (Nat.le_of_ble_eq_true rfl) (fun v9 G9 sz9 hp9 => ?_)
  obtain ⟨rfl, hG9, hs9⟩ := hp9
  rw [hG9, ← hs9, mt_c_in hk (by omega) (by omega) (by omega), mr_DA]
  refine mz_sn_ok hC tk_X2_isForMessageOf pk_RX2 1 [] rfl (by (repeat' apply And.intro) <;> first | exact True.intro | assumption | (simp only [mz_cm1, mz_c0, mz_c1, mz_c2, mz_c3, mz_c4, mz_c5, mz_c6, mz_c7, mz_c8, mz_c10, mz_c17, mz_c20, mz_c28, mz_c58, mz_c63, mz_c98, mz_c294, mz_c526, mz_c532, mz_c540, mz_c999, mz_c1900, mz_c2403, mz_c29362, mz_c29363, mz_c29364, mz_c29390, mz_c29393, mz_c29394, mz_c29398, mz_c29399, mz_c29400, mz_c29401, nI_add, pk_mul, pk_m1, mz_pp, mz_pq]; done) | omega | (simp only [mz_cm1, mz_c0, mz_c1, mz_c2, mz_c3, mz_c4, mz_c5, mz_c6, mz_c7, mz_c8, mz_c10, mz_c17, mz_c20, mz_c28, mz_c58, mz_c63, mz_c98, mz_c294, mz_c526, mz_c532, mz_c540, mz_c999, mz_c1900, mz_c2403, mz_c29362, mz_c29363, mz_c29364, mz_c29390, mz_c29393, mz_c29394, mz_c29398, mz_c29399, mz_c29400, mz_c29401, nI_add, pk_mul, pk_m1, mz_pp, mz_pq]; congr 1; omega)) ?_
  try simp only [mz_c0, mz_cm1]
  have no : ¬ (¬ f (mx_DA m0 k + 1) = nI 1 ∧ f (mx_DA m0 k + 2) = b) → mz_V E p l e (mz_rm 2 0 0) s m args below meth c 3 (0) (0) (mz_Z E below args s 0 0 (fun v' G' sz' => v' = some (.int (if ¬ f (mx_DA m0 k + 1) = nI 1 ∧ f (mx_DA m0 k + 2) = b then 1 else 0)) ∧ G' = G ∧ sz = sz')) (G) (sz) (30) [some (.ref κ), some (.int (nI k)), some (.int b)] [] := by
    intro h
    refine mz_sn_ok hC tk_X2_isForMessageOf pk_RX2 1 [] rfl (by (repeat' apply And.intro) <;> first | exact True.intro | assumption | (simp only [mz_cm1, mz_c0, mz_c1, mz_c2, mz_c3, mz_c4, mz_c5, mz_c6, mz_c7, mz_c8, mz_c10, mz_c17, mz_c20, mz_c28, mz_c58, mz_c63, mz_c98, mz_c294, mz_c526, mz_c532, mz_c540, mz_c999, mz_c1900, mz_c2403, mz_c29362, mz_c29363, mz_c29364, mz_c29390, mz_c29393, mz_c29394, mz_c29398, mz_c29399, mz_c29400, mz_c29401, nI_add, pk_mul, pk_m1, mz_pp, mz_pq]; done) | omega | (simp only [mz_cm1, mz_c0, mz_c1, mz_c2, mz_c3, mz_c4, mz_c5, mz_c6, mz_c7, mz_c8, mz_c10, mz_c17, mz_c20, mz_c28, mz_c58, mz_c63, mz_c98, mz_c294, mz_c526, mz_c532, mz_c540, mz_c999, mz_c1900, mz_c2403, mz_c29362, mz_c29363, mz_c29364, mz_c29390, mz_c29393, mz_c29394, mz_c29398, mz_c29399, mz_c29400, mz_c29401, nI_add, pk_mul, pk_m1, mz_pp, mz_pq]; congr 1; omega)) ?_
    try simp only [mz_c0, mz_cm1]
    refine mz_Vireturn hC tk_X2_isForMessageOf rfl hret mz_nb0 (Nat.le_of_ble_eq_true rfl) (Nat.le_of_ble_eq_true rfl) ?_
    exact ⟨by rw [if_neg h]; rfl, rfl, rfl⟩
  by_cases h2 : f (mx_DA m0 k + 2) = b
  · refine mz_br_f hC tk_X2_isForMessageOf rfl ((by show ¬ ¬ f (mx_DA m0 k + 2) = b; exact fun z => z h2)) ?_
    refine mz_sn_ok hC tk_X2_isForMessageOf pk_RX2 4 [δ] rfl (by (repeat' apply And.intro) <;> first | exact True.intro | assumption | (simp only [mz_cm1, mz_c0, mz_c1, mz_c2, mz_c3, mz_c4, mz_c5, mz_c6, mz_c7, mz_c8, mz_c10, mz_c17, mz_c20, mz_c28, mz_c58, mz_c63, mz_c98, mz_c294, mz_c526, mz_c532, mz_c540, mz_c999, mz_c1900, mz_c2403, mz_c29362, mz_c29363, mz_c29364, mz_c29390, mz_c29393, mz_c29394, mz_c29398, mz_c29399, mz_c29400, mz_c29401, nI_add, pk_mul, pk_m1, mz_pp, mz_pq]; done) | omega | (simp only [mz_cm1, mz_c0, mz_c1, mz_c2, mz_c3, mz_c4, mz_c5, mz_c6, mz_c7, mz_c8, mz_c10, mz_c17, mz_c20, mz_c28, mz_c58, mz_c63, mz_c98, mz_c294, mz_c526, mz_c532, mz_c540, mz_c999, mz_c1900, mz_c2403, mz_c29362, mz_c29363, mz_c29364, mz_c29390, mz_c29393, mz_c29394, mz_c29398, mz_c29399, mz_c29400, mz_c29401, nI_add, pk_mul, pk_m1, mz_pp, mz_pq]; congr 1; omega)) ?_
    try simp only [mz_c0, mz_cm1]
    refine mz_Vcv hC tk_X2_isForMessageOf rfl md_X4_cell lk_RX2_34 rfl (ct_cell l E t (nI k) (nI 1)) (by show (vwCl[mz_K _ _]?).map _ = _; rw [kt]; rfl) ⟨Nat.le_of_ble_eq_true rfl, Nat.le_of_ble_eq_true rfl⟩ ⟨Nat.le_of_ble_eq_true rfl, Nat.le_of_ble_eq_true rfl⟩ (Nat.le_of_ble_eq_true rfl) (fun v9 G9 sz9 hp9 => ?_)
    obtain ⟨rfl, hG10, hs10⟩ := hp9
    rw [hG10, ← hs10, mt_c_in hk (by omega) (by omega) (by omega), mr_DA]
    refine mz_sn_ok hC tk_X2_isForMessageOf pk_RX2 1 [] rfl (by (repeat' apply And.intro) <;> first | exact True.intro | assumption | (simp only [mz_cm1, mz_c0, mz_c1, mz_c2, mz_c3, mz_c4, mz_c5, mz_c6, mz_c7, mz_c8, mz_c10, mz_c17, mz_c20, mz_c28, mz_c58, mz_c63, mz_c98, mz_c294, mz_c526, mz_c532, mz_c540, mz_c999, mz_c1900, mz_c2403, mz_c29362, mz_c29363, mz_c29364, mz_c29390, mz_c29393, mz_c29394, mz_c29398, mz_c29399, mz_c29400, mz_c29401, nI_add, pk_mul, pk_m1, mz_pp, mz_pq]; done) | omega | (simp only [mz_cm1, mz_c0, mz_c1, mz_c2, mz_c3, mz_c4, mz_c5, mz_c6, mz_c7, mz_c8, mz_c10, mz_c17, mz_c20, mz_c28, mz_c58, mz_c63, mz_c98, mz_c294, mz_c526, mz_c532, mz_c540, mz_c999, mz_c1900, mz_c2403, mz_c29362, mz_c29363, mz_c29364, mz_c29390, mz_c29393, mz_c29394, mz_c29398, mz_c29399, mz_c29400, mz_c29401, nI_add, pk_mul, pk_m1, mz_pp, mz_pq]; congr 1; omega)) ?_
    try simp only [mz_c0, mz_cm1]
    by_cases h1 : f (mx_DA m0 k + 1) = nI 1
    · refine mz_br_t hC tk_X2_isForMessageOf rfl ((by show f (mx_DA m0 k + 1) = mz_c 1; exact h1)) ?_
      exact no (fun z => z.1 h1)
    · refine mz_br_f hC tk_X2_isForMessageOf rfl ((by show ¬ f (mx_DA m0 k + 1) = mz_c 1; exact h1)) ?_
      refine mz_sn_ok hC tk_X2_isForMessageOf pk_RX2 2 [] rfl (by (repeat' apply And.intro) <;> first | exact True.intro | assumption | (simp only [mz_cm1, mz_c0, mz_c1, mz_c2, mz_c3, mz_c4, mz_c5, mz_c6, mz_c7, mz_c8, mz_c10, mz_c17, mz_c20, mz_c28, mz_c58, mz_c63, mz_c98, mz_c294, mz_c526, mz_c532, mz_c540, mz_c999, mz_c1900, mz_c2403, mz_c29362, mz_c29363, mz_c29364, mz_c29390, mz_c29393, mz_c29394, mz_c29398, mz_c29399, mz_c29400, mz_c29401, nI_add, pk_mul, pk_m1, mz_pp, mz_pq]; done) | omega | (simp only [mz_cm1, mz_c0, mz_c1, mz_c2, mz_c3, mz_c4, mz_c5, mz_c6, mz_c7, mz_c8, mz_c10, mz_c17, mz_c20, mz_c28, mz_c58, mz_c63, mz_c98, mz_c294, mz_c526, mz_c532, mz_c540, mz_c999, mz_c1900, mz_c2403, mz_c29362, mz_c29363, mz_c29364, mz_c29390, mz_c29393, mz_c29394, mz_c29398, mz_c29399, mz_c29400, mz_c29401, nI_add, pk_mul, pk_m1, mz_pp, mz_pq]; congr 1; omega)) ?_
      try simp only [mz_c0, mz_cm1]
      refine mz_Vireturn hC tk_X2_isForMessageOf rfl hret mz_nb1 (Nat.le_of_ble_eq_true rfl) (Nat.le_of_ble_eq_true rfl) ?_
      exact ⟨by rw [if_pos ⟨h1, h2⟩]; rfl, rfl, rfl⟩
  · refine mz_br_t hC tk_X2_isForMessageOf rfl ((by show ¬ f (mx_DA m0 k + 2) = b; exact h2)) ?_
    exact no (fun z => h2 z.2)
theorem cd_addTo (hD : mr_Kd G O sz κ δ f m0 n) (hκ : O κ = κ ∧ κ < sz) (k : Nat) (hk : k < n) (on off : Int32) : mz_M l E yX2_addToFlagDeed cX2_addToFlagDeed 4 none 2 0 0 [.ref κ, .int (nI k), .int on, .int off] G sz (fun v' G' sz' => v' = none ∧ sz = sz' ∧ mt_T G' O sz δ 7 8 n 56 (mr_h (mz_u1 (mz_u1 f (mx_DA m0 k + 4) ((f (mx_DA m0 k + 4) &&& (off ^^^ -1)) ||| on)) (mx_DA m0 k + 5) ((f (mx_DA m0 k + 5) &&& (on ^^^ -1)) ||| off)) (294 + 58 * m0 + 1) 7) ∧ mt_F (fun q => q = δ) G G' O O sz sz) := by
  obtain ⟨⟨hK, r2⟩, t⟩ := hD
  have kt := t.K
  obtain ⟨n8, -, -⟩ := t.b
  have hne : κ ≠ δ := fun z => by rw [z] at hK; omega
  refine mz_start (by decide) (Nat.le_of_ble_eq_true rfl) ?_
  intro p e s m args below meth c hC hret hnm
  refine mz_sn_ok hC tk_X2_addToFlagDeed pk_RX2 8 [δ, δ] rfl (by (repeat' apply And.intro) <;> first | exact True.intro | assumption | (simp only [mz_cm1, mz_c0, mz_c1, mz_c2, mz_c3, mz_c4, mz_c5, mz_c6, mz_c7, mz_c8, mz_c10, mz_c17, mz_c20, mz_c28, mz_c58, mz_c63, mz_c98, mz_c294, mz_c526, mz_c532, mz_c540, mz_c999, mz_c1900, mz_c2403, mz_c29362, mz_c29363, mz_c29364, mz_c29390, mz_c29393, mz_c29394, mz_c29398, mz_c29399, mz_c29400, mz_c29401, nI_add, pk_mul, pk_m1, mz_pp, mz_pq]; done) | omega | (simp only [mz_cm1, mz_c0, mz_c1, mz_c2, mz_c3, mz_c4, mz_c5, mz_c6, mz_c7, mz_c8, mz_c10, mz_c17, mz_c20, mz_c28, mz_c58, mz_c63, mz_c98, mz_c294, mz_c526, mz_c532, mz_c540, mz_c999, mz_c1900, mz_c2403, mz_c29362, mz_c29363, mz_c29364, mz_c29390, mz_c29393, mz_c29394, mz_c29398, mz_c29399, mz_c29400, mz_c29401, nI_add, pk_mul, pk_m1, mz_pp, mz_pq]; congr 1; omega)) ?_
  try simp only [mz_c0, mz_cm1]
  refine mz_Vcv hC tk_X2_addToFlagDeed rfl md_X4_cell lk_RX2_34 rfl (ct_cell l E t (nI k) (nI 4)) (by show (vwCl[mz_K _ _]?).map _ = _; rw [kt]; rfl) ⟨Nat.le_of_ble_eq_true rfl, Nat.le_of_ble_eq_true rfl⟩ ⟨Nat.le_of_ble_eq_true rfl, Nat.le_of_ble_eq_true rfl⟩ (Nat.le_of_ble_eq_true rfl) (fun v9 G9 sz9 hp9 => ?_)
  obtain ⟨rfl, hG9, hs9⟩ := hp9
  rw [hG9, ← hs9, mt_c_in hk (by omega) (by omega) (by omega), mr_DA]
  refine mz_sn_ok hC tk_X2_addToFlagDeed pk_RX2 2 [] rfl (by (repeat' apply And.intro) <;> first | exact True.intro | assumption | (simp only [mz_cm1, mz_c0, mz_c1, mz_c2, mz_c3, mz_c4, mz_c5, mz_c6, mz_c7, mz_c8, mz_c10, mz_c17, mz_c20, mz_c28, mz_c58, mz_c63, mz_c98, mz_c294, mz_c526, mz_c532, mz_c540, mz_c999, mz_c1900, mz_c2403, mz_c29362, mz_c29363, mz_c29364, mz_c29390, mz_c29393, mz_c29394, mz_c29398, mz_c29399, mz_c29400, mz_c29401, nI_add, pk_mul, pk_m1, mz_pp, mz_pq]; done) | omega | (simp only [mz_cm1, mz_c0, mz_c1, mz_c2, mz_c3, mz_c4, mz_c5, mz_c6, mz_c7, mz_c8, mz_c10, mz_c17, mz_c20, mz_c28, mz_c58, mz_c63, mz_c98, mz_c294, mz_c526, mz_c532, mz_c540, mz_c999, mz_c1900, mz_c2403, mz_c29362, mz_c29363, mz_c29364, mz_c29390, mz_c29393, mz_c29394, mz_c29398, mz_c29399, mz_c29400, mz_c29401, nI_add, pk_mul, pk_m1, mz_pp, mz_pq]; congr 1; omega)) ?_
  try simp only [mz_c0, mz_cm1]
  refine mz_Vcsn hC tk_X2_addToFlagDeed rfl md_X5_mixFlags (List.mem_of_getElem? (i := 3) rfl) rfl (cf_mixFlags l E (f (mx_DA m0 k + 4)) on off) ⟨Nat.le_of_ble_eq_true rfl, Nat.le_of_ble_eq_true rfl⟩ ⟨Nat.le_of_ble_eq_true rfl, Nat.le_of_ble_eq_true rfl⟩ (Nat.le_of_ble_eq_true rfl) (fun v9 G9 sz9 hp9 => ?_)
  obtain ⟨rfl, hG10, hs10⟩ := hp9
  rw [hG10, ← hs10]
  refine mz_Vcv hC tk_X2_addToFlagDeed rfl md_X4_put lk_RX2_48 rfl (ct_put l E t k 4 ((f (mx_DA m0 k + 4) &&& (off ^^^ -1)) ||| on) hk (by omega)) (by show (vwCl[mz_K _ _]?).map _ = _; rw [kt]; rfl) ⟨Nat.le_of_ble_eq_true rfl, Nat.le_of_ble_eq_true rfl⟩ ⟨Nat.le_of_ble_eq_true rfl, Nat.le_of_ble_eq_true rfl⟩ (Nat.le_of_ble_eq_true rfl) (fun v8 G8 sz8 hp8 => ?_)
  obtain ⟨rfl, hs11, t2, hF2⟩ := hp8
  rw [← hs11]
  obtain ⟨o1, f1⟩ := hF2.2 κ hκ.2
  obtain ⟨e1, e2, e3, e4, e5⟩ := f1 (by rw [hκ.1]; exact hne)
  have hK2 : mz_K G8 κ = 2 := by rw [e1, hK]
  have r22 : mz_r G8 κ 2 = some δ := by rw [e4, r2]
  have kt2 := t2.K
  refine mz_sn_ok hC tk_X2_addToFlagDeed pk_RX2 8 [δ, δ] rfl (by (repeat' apply And.intro) <;> first | exact True.intro | assumption | (simp only [mz_cm1, mz_c0, mz_c1, mz_c2, mz_c3, mz_c4, mz_c5, mz_c6, mz_c7, mz_c8, mz_c10, mz_c17, mz_c20, mz_c28, mz_c58, mz_c63, mz_c98, mz_c294, mz_c526, mz_c532, mz_c540, mz_c999, mz_c1900, mz_c2403, mz_c29362, mz_c29363, mz_c29364, mz_c29390, mz_c29393, mz_c29394, mz_c29398, mz_c29399, mz_c29400, mz_c29401, nI_add, pk_mul, pk_m1, mz_pp, mz_pq]; done) | omega | (simp only [mz_cm1, mz_c0, mz_c1, mz_c2, mz_c3, mz_c4, mz_c5, mz_c6, mz_c7, mz_c8, mz_c10, mz_c17, mz_c20, mz_c28, mz_c58, mz_c63, mz_c98, mz_c294, mz_c526, mz_c532, mz_c540, mz_c999, mz_c1900, mz_c2403, mz_c29362, mz_c29363, mz_c29364, mz_c29390, mz_c29393, mz_c29394, mz_c29398, mz_c29399, mz_c29400, mz_c29401, nI_add, pk_mul, pk_m1, mz_pp, mz_pq]; congr 1; omega)) ?_
  try simp only [mz_c0, mz_cm1]
  refine mz_Vcv hC tk_X2_addToFlagDeed rfl md_X4_cell lk_RX2_34 rfl (ct_cell l E t2 (nI k) (nI 5)) (by show (vwCl[mz_K _ _]?).map _ = _; rw [kt2]; rfl) ⟨Nat.le_of_ble_eq_true rfl, Nat.le_of_ble_eq_true rfl⟩ ⟨Nat.le_of_ble_eq_true rfl, Nat.le_of_ble_eq_true rfl⟩ (Nat.le_of_ble_eq_true rfl) (fun v9 G9 sz9 hp9 => ?_)
  obtain ⟨rfl, hG12, hs12⟩ := hp9
  rw [hG12, ← hs12, mt_c_in hk (by omega) (by omega) (by omega)]
  have e0 : mt_u (mr_h f (294 + 58 * m0 + 1) 7) k 4 ((f (mx_DA m0 k + 4) &&& (off ^^^ -1)) ||| on) k 5 = f (mx_DA m0 k + 5) := by
    unfold mt_u
    rw [if_neg (by omega), mr_DA]
  rw [e0]
  refine mz_sn_ok hC tk_X2_addToFlagDeed pk_RX2 2 [] rfl (by (repeat' apply And.intro) <;> first | exact True.intro | assumption | (simp only [mz_cm1, mz_c0, mz_c1, mz_c2, mz_c3, mz_c4, mz_c5, mz_c6, mz_c7, mz_c8, mz_c10, mz_c17, mz_c20, mz_c28, mz_c58, mz_c63, mz_c98, mz_c294, mz_c526, mz_c532, mz_c540, mz_c999, mz_c1900, mz_c2403, mz_c29362, mz_c29363, mz_c29364, mz_c29390, mz_c29393, mz_c29394, mz_c29398, mz_c29399, mz_c29400, mz_c29401, nI_add, pk_mul, pk_m1, mz_pp, mz_pq]; done) | omega | (simp only [mz_cm1, mz_c0, mz_c1, mz_c2, mz_c3, mz_c4, mz_c5, mz_c6, mz_c7, mz_c8, mz_c10, mz_c17, mz_c20, mz_c28, mz_c58, mz_c63, mz_c98, mz_c294, mz_c526, mz_c532, mz_c540, mz_c999, mz_c1900, mz_c2403, mz_c29362, mz_c29363, mz_c29364, mz_c29390, mz_c29393, mz_c29394, mz_c29398, mz_c29399, mz_c29400, mz_c29401, nI_add, pk_mul, pk_m1, mz_pp, mz_pq]; congr 1; omega)) ?_
  try simp only [mz_c0, mz_cm1]
  refine mz_Vcsn hC tk_X2_addToFlagDeed rfl md_X5_mixFlags (List.mem_of_getElem? (i := 3) rfl) rfl (cf_mixFlags l E (f (mx_DA m0 k + 5)) off on) ⟨Nat.le_of_ble_eq_true rfl, Nat.le_of_ble_eq_true rfl⟩ ⟨Nat.le_of_ble_eq_true rfl, Nat.le_of_ble_eq_true rfl⟩ (Nat.le_of_ble_eq_true rfl) (fun v9 G9 sz9 hp9 => ?_)
  obtain ⟨rfl, hG13, hs13⟩ := hp9
  rw [hG13, ← hs13]
  refine mz_Vcv hC tk_X2_addToFlagDeed rfl md_X4_put lk_RX2_48 rfl (ct_put l E t2 k 5 ((f (mx_DA m0 k + 5) &&& (on ^^^ -1)) ||| off) hk (by omega)) (by show (vwCl[mz_K _ _]?).map _ = _; rw [kt2]; rfl) ⟨Nat.le_of_ble_eq_true rfl, Nat.le_of_ble_eq_true rfl⟩ ⟨Nat.le_of_ble_eq_true rfl, Nat.le_of_ble_eq_true rfl⟩ (Nat.le_of_ble_eq_true rfl) (fun v9 G9 sz9 hp9 => ?_)
  obtain ⟨rfl, hs14, t3, hF3⟩ := hp9
  rw [← hs14]
  refine mz_Vreturn hC tk_X2_addToFlagDeed rfl hret (Nat.le_of_ble_eq_true rfl) (Nat.le_of_ble_eq_true rfl) ?_
  refine ⟨rfl, rfl, t3.same (fun k' j' h1 h2 => ?_), hF2.tr hF3⟩
  unfold mt_u mr_h mx_DA
  simp only [mz_u1]
  by_cases hk' : k' = k
  · subst hk'
    rcases (show j' = 0 ∨ j' = 1 ∨ j' = 2 ∨ j' = 3 ∨ j' = 4 ∨ j' = 5 ∨ j' = 6 by omega) with rfl | rfl | rfl | rfl | rfl | rfl | rfl <;> simp (disch := omega) only [if_pos, if_neg, and_self, if_true, and_true, true_and, and_false, false_and, if_false]
  · simp (disch := omega) only [if_pos, if_neg, and_self, if_true, and_true, true_and, and_false, false_and, if_false]
theorem cd_flagsInView (hD : mr_Kd G O sz κ δ f m0 n) (b : Nat) (name fl : Int32) : mz_M l E yX2_flagsInView cX2_flagsInView 5 (some .int) 3 0 0 [.ref κ, .int (nI b), .int name, .int fl] G sz (fun v' G' sz' => v' = some (.int (mx_vf f m0 b n name fl)) ∧ G' = G ∧ sz = sz') := by
  have hD0 := hD
  obtain ⟨⟨hK, r2⟩, t⟩ := hD
  have kt := t.K
  obtain ⟨n8, -, -⟩ := t.b
  refine mz_start (by decide) (Nat.le_of_ble_eq_true rfl) ?_
  intro p e s m args below meth c hC hret hnm
  refine mz_sn_ok hC tk_X2_flagsInView pk_RX2 4 [] rfl (by (repeat' apply And.intro) <;> first | exact True.intro | assumption | (simp only [mz_cm1, mz_c0, mz_c1, mz_c2, mz_c3, mz_c4, mz_c5, mz_c6, mz_c7, mz_c8, mz_c10, mz_c17, mz_c20, mz_c28, mz_c58, mz_c63, mz_c98, mz_c294, mz_c526, mz_c532, mz_c540, mz_c999, mz_c1900, mz_c2403, mz_c29362, mz_c29363, mz_c29364, mz_c29390, mz_c29393, mz_c29394, mz_c29398, mz_c29399, mz_c29400, mz_c29401, nI_add, pk_mul, pk_m1, mz_pp, mz_pq]; done) | omega | (simp only [mz_cm1, mz_c0, mz_c1, mz_c2, mz_c3, mz_c4, mz_c5, mz_c6, mz_c7, mz_c8, mz_c10, mz_c17, mz_c20, mz_c28, mz_c58, mz_c63, mz_c98, mz_c294, mz_c526, mz_c532, mz_c540, mz_c999, mz_c1900, mz_c2403, mz_c29362, mz_c29363, mz_c29364, mz_c29390, mz_c29393, mz_c29394, mz_c29398, mz_c29399, mz_c29400, mz_c29401, nI_add, pk_mul, pk_m1, mz_pp, mz_pq]; congr 1; omega)) ?_
  try simp only [mz_c0, mz_cm1]
  refine mz_Vcv hC tk_X2_flagsInView rfl md_X2_deedFor lk_RX2_54 rfl (cd_deedFor l E hD0 0 (nI b) name) (by show (vwCl[mz_K _ _]?).map _ = _; rw [hK]; rfl) ⟨Nat.le_of_ble_eq_true rfl, Nat.le_of_ble_eq_true rfl⟩ ⟨Nat.le_of_ble_eq_true rfl, Nat.le_of_ble_eq_true rfl⟩ (Nat.le_of_ble_eq_true rfl) (fun v9 G9 sz9 hp9 => ?_)
  obtain ⟨rfl, hG9, hs9⟩ := hp9
  rw [hG9, ← hs9]
  refine mz_sn_ok hC tk_X2_flagsInView pk_RX2 3 [] rfl (by (repeat' apply And.intro) <;> first | exact True.intro | assumption | (simp only [mz_cm1, mz_c0, mz_c1, mz_c2, mz_c3, mz_c4, mz_c5, mz_c6, mz_c7, mz_c8, mz_c10, mz_c17, mz_c20, mz_c28, mz_c58, mz_c63, mz_c98, mz_c294, mz_c526, mz_c532, mz_c540, mz_c999, mz_c1900, mz_c2403, mz_c29362, mz_c29363, mz_c29364, mz_c29390, mz_c29393, mz_c29394, mz_c29398, mz_c29399, mz_c29400, mz_c29401, nI_add, pk_mul, pk_m1, mz_pp, mz_pq]; done) | omega | (simp only [mz_cm1, mz_c0, mz_c1, mz_c2, mz_c3, mz_c4, mz_c5, mz_c6, mz_c7, mz_c8, mz_c10, mz_c17, mz_c20, mz_c28, mz_c58, mz_c63, mz_c98, mz_c294, mz_c526, mz_c532, mz_c540, mz_c999, mz_c1900, mz_c2403, mz_c29362, mz_c29363, mz_c29364, mz_c29390, mz_c29393, mz_c29394, mz_c29398, mz_c29399, mz_c29400, mz_c29401, nI_add, pk_mul, pk_m1, mz_pp, mz_pq]; congr 1; omega)) ?_
  try simp only [mz_c0, mz_cm1]
  unfold mx_vf
  cases hz : mz_fp (mx_dp f m0 0 (nI b) name) n with
  | none =>
    dsimp only
    refine mz_br_f hC tk_X2_flagsInView rfl ((by show ¬ ¬ (-1 : Int32) = mz_c (-1); rw [mz_cm1]; exact fun z => z rfl)) ?_
    refine mz_sn_ok hC tk_X2_flagsInView pk_RX2 1 [] rfl (by (repeat' apply And.intro) <;> first | exact True.intro | assumption | (simp only [mz_cm1, mz_c0, mz_c1, mz_c2, mz_c3, mz_c4, mz_c5, mz_c6, mz_c7, mz_c8, mz_c10, mz_c17, mz_c20, mz_c28, mz_c58, mz_c63, mz_c98, mz_c294, mz_c526, mz_c532, mz_c540, mz_c999, mz_c1900, mz_c2403, mz_c29362, mz_c29363, mz_c29364, mz_c29390, mz_c29393, mz_c29394, mz_c29398, mz_c29399, mz_c29400, mz_c29401, nI_add, pk_mul, pk_m1, mz_pp, mz_pq]; done) | omega | (simp only [mz_cm1, mz_c0, mz_c1, mz_c2, mz_c3, mz_c4, mz_c5, mz_c6, mz_c7, mz_c8, mz_c10, mz_c17, mz_c20, mz_c28, mz_c58, mz_c63, mz_c98, mz_c294, mz_c526, mz_c532, mz_c540, mz_c999, mz_c1900, mz_c2403, mz_c29362, mz_c29363, mz_c29364, mz_c29390, mz_c29393, mz_c29394, mz_c29398, mz_c29399, mz_c29400, mz_c29401, nI_add, pk_mul, pk_m1, mz_pp, mz_pq]; congr 1; omega)) ?_
    try simp only [mz_c0, mz_cm1]
    refine mz_Vireturn hC tk_X2_flagsInView rfl hret rfl (Nat.le_of_ble_eq_true rfl) (Nat.le_of_ble_eq_true rfl) ?_
    exact ⟨rfl, rfl, rfl⟩
  | some k =>
    dsimp only
    obtain ⟨hk, -⟩ := mz_fp_some hz
    refine mz_br_t hC tk_X2_flagsInView rfl ((by show ¬ nI k = mz_c (-1); rw [mz_cm1]; exact fun z => by have h0 := mz_nn k (by omega); rw [z] at h0; exact absurd h0 (by decide))) ?_
    refine mz_V.sub (lv' := [some (.ref κ), some (.int (nI b)), some (.int name), some (.int fl), some (.int (nI k))]) (by (repeat' apply And.intro) <;> first | with_reducible rfl | exact True.intro | (simp only [mz_cm1, mz_c0, mz_c1, mz_c2, mz_c3, mz_c4, mz_c5, mz_c6, mz_c7, mz_c8, mz_c10, mz_c17, mz_c20, mz_c28, mz_c58, mz_c63, mz_c98, mz_c294, mz_c526, mz_c532, mz_c540, mz_c999, mz_c1900, mz_c2403, mz_c29362, mz_c29363, mz_c29364, mz_c29390, mz_c29393, mz_c29394, mz_c29398, mz_c29399, mz_c29400, mz_c29401, nI_add, pk_mul, pk_m1, mz_pp, mz_pq]; done) | rfl) ?_
    refine mz_sn_ok hC tk_X2_flagsInView pk_RX2 5 [δ] rfl (by (repeat' apply And.intro) <;> first | exact True.intro | assumption | (simp only [mz_cm1, mz_c0, mz_c1, mz_c2, mz_c3, mz_c4, mz_c5, mz_c6, mz_c7, mz_c8, mz_c10, mz_c17, mz_c20, mz_c28, mz_c58, mz_c63, mz_c98, mz_c294, mz_c526, mz_c532, mz_c540, mz_c999, mz_c1900, mz_c2403, mz_c29362, mz_c29363, mz_c29364, mz_c29390, mz_c29393, mz_c29394, mz_c29398, mz_c29399, mz_c29400, mz_c29401, nI_add, pk_mul, pk_m1, mz_pp, mz_pq]; done) | omega | (simp only [mz_cm1, mz_c0, mz_c1, mz_c2, mz_c3, mz_c4, mz_c5, mz_c6, mz_c7, mz_c8, mz_c10, mz_c17, mz_c20, mz_c28, mz_c58, mz_c63, mz_c98, mz_c294, mz_c526, mz_c532, mz_c540, mz_c999, mz_c1900, mz_c2403, mz_c29362, mz_c29363, mz_c29364, mz_c29390, mz_c29393, mz_c29394, mz_c29398, mz_c29399, mz_c29400, mz_c29401, nI_add, pk_mul, pk_m1, mz_pp, mz_pq]; congr 1; omega)) ?_
    try simp only [mz_c0, mz_cm1]
    refine mz_Vcv hC tk_X2_flagsInView rfl md_X4_cell lk_RX2_34 rfl (ct_cell l E t (nI k) (nI 4)) (by show (vwCl[mz_K _ _]?).map _ = _; rw [kt]; rfl) ⟨Nat.le_of_ble_eq_true rfl, Nat.le_of_ble_eq_true rfl⟩ ⟨Nat.le_of_ble_eq_true rfl, Nat.le_of_ble_eq_true rfl⟩ (Nat.le_of_ble_eq_true rfl) (fun v9 G9 sz9 hp9 => ?_)
    obtain ⟨rfl, hG10, hs10⟩ := hp9
    rw [hG10, ← hs10, mt_c_in hk (by omega) (by omega) (by omega), mr_DA]
    refine mz_sn_ok hC tk_X2_flagsInView pk_RX2 4 [δ] rfl (by (repeat' apply And.intro) <;> first | exact True.intro | assumption | (simp only [mz_cm1, mz_c0, mz_c1, mz_c2, mz_c3, mz_c4, mz_c5, mz_c6, mz_c7, mz_c8, mz_c10, mz_c17, mz_c20, mz_c28, mz_c58, mz_c63, mz_c98, mz_c294, mz_c526, mz_c532, mz_c540, mz_c999, mz_c1900, mz_c2403, mz_c29362, mz_c29363, mz_c29364, mz_c29390, mz_c29393, mz_c29394, mz_c29398, mz_c29399, mz_c29400, mz_c29401, nI_add, pk_mul, pk_m1, mz_pp, mz_pq]; done) | omega | (simp only [mz_cm1, mz_c0, mz_c1, mz_c2, mz_c3, mz_c4, mz_c5, mz_c6, mz_c7, mz_c8, mz_c10, mz_c17, mz_c20, mz_c28, mz_c58, mz_c63, mz_c98, mz_c294, mz_c526, mz_c532, mz_c540, mz_c999, mz_c1900, mz_c2403, mz_c29362, mz_c29363, mz_c29364, mz_c29390, mz_c29393, mz_c29394, mz_c29398, mz_c29399, mz_c29400, mz_c29401, nI_add, pk_mul, pk_m1, mz_pp, mz_pq]; congr 1; omega)) ?_
    try simp only [mz_c0, mz_cm1]
    refine mz_Vcv hC tk_X2_flagsInView rfl md_X4_cell lk_RX2_34 rfl (ct_cell l E t (nI k) (nI 5)) (by show (vwCl[mz_K _ _]?).map _ = _; rw [kt]; rfl) ⟨Nat.le_of_ble_eq_true rfl, Nat.le_of_ble_eq_true rfl⟩ ⟨Nat.le_of_ble_eq_true rfl, Nat.le_of_ble_eq_true rfl⟩ (Nat.le_of_ble_eq_true rfl) (fun v9 G9 sz9 hp9 => ?_)
    obtain ⟨rfl, hG11, hs11⟩ := hp9
    rw [hG11, ← hs11, mt_c_in hk (by omega) (by omega) (by omega), mr_DA]
    refine mz_Vcsn hC tk_X2_flagsInView rfl md_X5_mixFlags (List.mem_of_getElem? (i := 3) rfl) rfl (cf_mixFlags l E fl (f (mx_DA m0 k + 4)) (f (mx_DA m0 k + 5))) ⟨Nat.le_of_ble_eq_true rfl, Nat.le_of_ble_eq_true rfl⟩ ⟨Nat.le_of_ble_eq_true rfl, Nat.le_of_ble_eq_true rfl⟩ (Nat.le_of_ble_eq_true rfl) (fun v9 G9 sz9 hp9 => ?_)
    obtain ⟨rfl, hG12, hs12⟩ := hp9
    rw [hG12, ← hs12]
    refine mz_Vireturn hC tk_X2_flagsInView rfl hret rfl (Nat.le_of_ble_eq_true rfl) (Nat.le_of_ble_eq_true rfl) ?_
    exact ⟨rfl, rfl, rfl⟩
/-- a view's table -/
def mr_V (G : mz_G) (O : Nat → Nat) (sz υ : Nat) (s : (Nat → Int32) × Nat) (len : Nat) : Prop := mt_T G O sz υ 3 540 s.2 len (fun k j => s.1 (3 * k + j))
theorem cd_append {υ len0 : Nat} {v : (Nat → Int32) × Nat} (hv : mr_cv len0) (hV : mr_V G O sz υ v (mt_gr 3 540 len0 v.2)) (hn : v.2 < 540) (a b d : Int32) : mz_M l E yX2_appendToView cX2_appendToView 5 none 5 (mr_pv (mt_gr 3 540 len0 v.2) - mr_pv (mt_gr 3 540 len0 (v.2 + 1))) (mr_pv (mt_gr 3 540 len0 v.2) - mr_pv (mt_gr 3 540 len0 (v.2 + 1))) [.ref υ, .int a, .int b, .int d] G sz (fun v' G' sz' => v' = none ∧ ∃ O', mr_V G' O' sz' υ (mx_vp v a b d) (mt_gr 3 540 len0 (v.2 + 1)) ∧ mt_F (fun q => q = υ) G G' O O' sz sz') := by
  obtain ⟨c1, -⟩ := mt_gr_cv hv (n := v.2) (by omega)
  obtain ⟨g1, g2, g3⟩ := mr_cv_gl c1 (mt_gr_le3 len0 v.2 (by omega)) hn
  have e1 : mt_gr 3 540 len0 (v.2 + 1) = mt_gl 3 540 v.2 (mt_gr 3 540 len0 v.2) := rfl
  rw [← e1] at g1 g2
  have kt := hV.K
  have st := hV.s
  refine mz_start (by decide) (Nat.le_of_ble_eq_true rfl) ?_
  intro p e s m args below meth c hC hret hnm
  refine mz_sn_ok hC tk_X2_appendToView pk_RX2 5 [] rfl (by (repeat' apply And.intro) <;> first | exact True.intro | assumption | (simp only [mz_cm1, mz_c0, mz_c1, mz_c2, mz_c3, mz_c4, mz_c5, mz_c6, mz_c7, mz_c8, mz_c10, mz_c17, mz_c20, mz_c28, mz_c58, mz_c63, mz_c98, mz_c294, mz_c526, mz_c532, mz_c540, mz_c999, mz_c1900, mz_c2403, mz_c29362, mz_c29363, mz_c29364, mz_c29390, mz_c29393, mz_c29394, mz_c29398, mz_c29399, mz_c29400, mz_c29401, nI_add, pk_mul, pk_m1, mz_pp, mz_pq, st]; done) | omega | (simp only [mz_cm1, mz_c0, mz_c1, mz_c2, mz_c3, mz_c4, mz_c5, mz_c6, mz_c7, mz_c8, mz_c10, mz_c17, mz_c20, mz_c28, mz_c58, mz_c63, mz_c98, mz_c294, mz_c526, mz_c532, mz_c540, mz_c999, mz_c1900, mz_c2403, mz_c29362, mz_c29363, mz_c29364, mz_c29390, mz_c29393, mz_c29394, mz_c29398, mz_c29399, mz_c29400, mz_c29401, nI_add, pk_mul, pk_m1, mz_pp, mz_pq, st]; congr 1; omega)) ?_
  try simp only [mz_c0, mz_cm1, st]
  refine mz_Vcv hC tk_X2_appendToView rfl md_X4_open lk_RX2_64 rfl (ct_open l E hV v.2 (Nat.le_refl _) hn) (by show (vwCl[mz_K _ _]?).map _ = _; rw [kt]; rfl) ⟨Nat.le_of_ble_eq_true rfl, Nat.le_of_ble_eq_true rfl⟩ ⟨by simp only [mz_rm]; omega, by simp only [mz_rm]; omega⟩ (Nat.le_of_ble_eq_true rfl) (fun v9 G9 sz9 hp9 => ?_)
  obtain ⟨rfl, hs9, O', t1, hF1⟩ := hp9
  have k1 := t1.K
  refine mz_br_f hC tk_X2_appendToView rfl ((by show ¬ (1 : Int32) = 0; decide)) ?_
  refine mz_sn_ok hC tk_X2_appendToView pk_RX2 4 [] rfl (by (repeat' apply And.intro) <;> first | exact True.intro | assumption | (simp only [mz_cm1, mz_c0, mz_c1, mz_c2, mz_c3, mz_c4, mz_c5, mz_c6, mz_c7, mz_c8, mz_c10, mz_c17, mz_c20, mz_c28, mz_c58, mz_c63, mz_c98, mz_c294, mz_c526, mz_c532, mz_c540, mz_c999, mz_c1900, mz_c2403, mz_c29362, mz_c29363, mz_c29364, mz_c29390, mz_c29393, mz_c29394, mz_c29398, mz_c29399, mz_c29400, mz_c29401, nI_add, pk_mul, pk_m1, mz_pp, mz_pq]; done) | omega | (simp only [mz_cm1, mz_c0, mz_c1, mz_c2, mz_c3, mz_c4, mz_c5, mz_c6, mz_c7, mz_c8, mz_c10, mz_c17, mz_c20, mz_c28, mz_c58, mz_c63, mz_c98, mz_c294, mz_c526, mz_c532, mz_c540, mz_c999, mz_c1900, mz_c2403, mz_c29362, mz_c29363, mz_c29364, mz_c29390, mz_c29393, mz_c29394, mz_c29398, mz_c29399, mz_c29400, mz_c29401, nI_add, pk_mul, pk_m1, mz_pp, mz_pq]; congr 1; omega)) ?_
  try simp only [mz_c0, mz_cm1]
  refine mz_Vcv hC tk_X2_appendToView rfl md_X4_put lk_RX2_48 rfl (ct_put l E t1 v.2 0 a (by omega) (by omega)) (by show (vwCl[mz_K _ _]?).map _ = _; rw [k1]; rfl) ⟨Nat.le_of_ble_eq_true rfl, Nat.le_of_ble_eq_true rfl⟩ ⟨by simp only [mz_rm]; omega, by simp only [mz_rm]; omega⟩ (Nat.le_of_ble_eq_true rfl) (fun v9 G9 sz9 hp9 => ?_)
  obtain ⟨rfl, hs10, t2, hF2⟩ := hp9
  rw [← hs10]
  have k2 := t2.K
  refine mz_sn_ok hC tk_X2_appendToView pk_RX2 4 [] rfl (by (repeat' apply And.intro) <;> first | exact True.intro | assumption | (simp only [mz_cm1, mz_c0, mz_c1, mz_c2, mz_c3, mz_c4, mz_c5, mz_c6, mz_c7, mz_c8, mz_c10, mz_c17, mz_c20, mz_c28, mz_c58, mz_c63, mz_c98, mz_c294, mz_c526, mz_c532, mz_c540, mz_c999, mz_c1900, mz_c2403, mz_c29362, mz_c29363, mz_c29364, mz_c29390, mz_c29393, mz_c29394, mz_c29398, mz_c29399, mz_c29400, mz_c29401, nI_add, pk_mul, pk_m1, mz_pp, mz_pq]; done) | omega | (simp only [mz_cm1, mz_c0, mz_c1, mz_c2, mz_c3, mz_c4, mz_c5, mz_c6, mz_c7, mz_c8, mz_c10, mz_c17, mz_c20, mz_c28, mz_c58, mz_c63, mz_c98, mz_c294, mz_c526, mz_c532, mz_c540, mz_c999, mz_c1900, mz_c2403, mz_c29362, mz_c29363, mz_c29364, mz_c29390, mz_c29393, mz_c29394, mz_c29398, mz_c29399, mz_c29400, mz_c29401, nI_add, pk_mul, pk_m1, mz_pp, mz_pq]; congr 1; omega)) ?_
  try simp only [mz_c0, mz_cm1]
  refine mz_Vcv hC tk_X2_appendToView rfl md_X4_put lk_RX2_48 rfl (ct_put l E t2 v.2 1 b (by omega) (by omega)) (by show (vwCl[mz_K _ _]?).map _ = _; rw [k2]; rfl) ⟨Nat.le_of_ble_eq_true rfl, Nat.le_of_ble_eq_true rfl⟩ ⟨by simp only [mz_rm]; omega, by simp only [mz_rm]; omega⟩ (Nat.le_of_ble_eq_true rfl) (fun v9 G9 sz9 hp9 => ?_)
  obtain ⟨rfl, hs11, t3, hF3⟩ := hp9
  rw [← hs11]
  have k3 := t3.K
  refine mz_sn_ok hC tk_X2_appendToView pk_RX2 4 [] rfl (by (repeat' apply And.intro) <;> first | exact True.intro | assumption | (simp only [mz_cm1, mz_c0, mz_c1, mz_c2, mz_c3, mz_c4, mz_c5, mz_c6, mz_c7, mz_c8, mz_c10, mz_c17, mz_c20, mz_c28, mz_c58, mz_c63, mz_c98, mz_c294, mz_c526, mz_c532, mz_c540, mz_c999, mz_c1900, mz_c2403, mz_c29362, mz_c29363, mz_c29364, mz_c29390, mz_c29393, mz_c29394, mz_c29398, mz_c29399, mz_c29400, mz_c29401, nI_add, pk_mul, pk_m1, mz_pp, mz_pq]; done) | omega | (simp only [mz_cm1, mz_c0, mz_c1, mz_c2, mz_c3, mz_c4, mz_c5, mz_c6, mz_c7, mz_c8, mz_c10, mz_c17, mz_c20, mz_c28, mz_c58, mz_c63, mz_c98, mz_c294, mz_c526, mz_c532, mz_c540, mz_c999, mz_c1900, mz_c2403, mz_c29362, mz_c29363, mz_c29364, mz_c29390, mz_c29393, mz_c29394, mz_c29398, mz_c29399, mz_c29400, mz_c29401, nI_add, pk_mul, pk_m1, mz_pp, mz_pq]; congr 1; omega)) ?_
  try simp only [mz_c0, mz_cm1]
  refine mz_Vcv hC tk_X2_appendToView rfl md_X4_put lk_RX2_48 rfl (ct_put l E t3 v.2 2 d (by omega) (by omega)) (by show (vwCl[mz_K _ _]?).map _ = _; rw [k3]; rfl) ⟨Nat.le_of_ble_eq_true rfl, Nat.le_of_ble_eq_true rfl⟩ ⟨by simp only [mz_rm]; omega, by simp only [mz_rm]; omega⟩ (Nat.le_of_ble_eq_true rfl) (fun v9 G9 sz9 hp9 => ?_)
  obtain ⟨rfl, hs12, t4, hF4⟩ := hp9
  rw [← hs12]
  refine mz_Vreturn hC tk_X2_appendToView rfl hret (by omega) (by omega) ?_
  refine ⟨rfl, O', ?_, hF1.tr (hF2.tr (hF3.tr hF4))⟩
  refine t4.same (fun k j h1 h2 => ?_)
  unfold mx_vp mt_u mt_o
  simp only [mz_u1]
  by_cases hk : k = v.2
  · rw [hk]
    rcases (show j = 0 ∨ j = 1 ∨ j = 2 by omega) with rfl | rfl | rfl <;> simp (disch := omega) only [if_pos, if_neg, and_self, if_true, and_true, true_and, and_false, false_and, if_false]
  · simp (disch := omega) only [if_pos, if_neg, and_self, if_true, and_true, true_and, and_false, false_and, if_false]
end MRD

