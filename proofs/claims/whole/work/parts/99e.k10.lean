/-! ===== the class: differences ===== -/
/-- rows of the box that the view lacks -/
def mx_dm (f v : Nat → Int32) (b nv : Nat) : Nat → Nat
  | 0 => 0
  | k + 1 => mx_dm f v b nv k + (if mz_fz (fun r => v (3 * r)) (mx_nm f (98 * b + 17) k) nv = none then 1 else 0)
theorem mx_dm_le (f v : Nat → Int32) (b nv : Nat) : ∀ k, mx_dm f v b nv k ≤ k
  | 0 => Nat.le_refl 0
  | k + 1 => by
    have := mx_dm_le f v b nv k
    simp only [mx_dm]
    split <;> omega
section MRF
variable (l : Launch) (E : mz_E) {G : mz_G} {O : Nat → Nat} {sz ω : Nat} {B : Nat → Nat} {sv : Nat} {F : Nat → Nat → Int32} {Λ : Nat → Nat → Nat → Nat} {v1 v2 : Nat}
theorem cf_showB {t u n n' len len' W W' lm lm' : Nat} {h h' : Nat → Nat → Int32} (hT : mt_T G O sz t W lm n len h) (hU : mt_T G O sz u W' lm' n' len' h') (k j : Nat) (hW : 3 ≤ W) (hW' : 3 ≤ W') (hWa : W < 2147483648) (hWb : W' < 2147483648) (hna : n < 2147483648) (hnb : n' < 2147483648) (hk : k < n) (hj : j < n') : mz_M l E yX5_showTheSame cX5_showTheSame 4 (some .boolean) 2 0 0 [.ref t, .int (nI k), .ref u, .int (nI j)] G sz (fun v' G' sz' => v' = some (.int (if h k 0 = h' j 0 ∧ h k 1 = h' j 1 ∧ h k 2 = h' j 2 then 1 else 0)) ∧ G' = G ∧ sz = sz') := by
  have kt := hT.K
  have ku := hU.K
  have e1 : ∀ i, i < 3 → mt_c n W h (nI k) (nI i) = h k i := fun i hi => mt_c_in hk (by omega) hna hWa
  have e2 : ∀ i, i < 3 → mt_c n' W' h' (nI j) (nI i) = h' j i := fun i hi => mt_c_in hj (by omega) hnb hWb
  refine mz_start (by decide) (Nat.le_of_ble_eq_true rfl) ?_
  intro p e s m args below meth c hC hret hnm
  have no : ¬ (h k 0 = h' j 0 ∧ h k 1 = h' j 1 ∧ h k 2 = h' j 2) → mz_V E p l e (mz_rm 2 0 0) s m args below meth c 4 (0) (0) (mz_Z E below args s 0 0 (fun v' G' sz' => v' = some (.int (if h k 0 = h' j 0 ∧ h k 1 = h' j 1 ∧ h k 2 = h' j 2 then 1 else 0)) ∧ G' = G ∧ sz = sz')) (G) (sz) (49) [some (.ref t), some (.int (nI k)), some (.ref u), some (.int (nI j))] [] := by
    intro hn
    refine mz_sn_ok hC tk_X5_showTheSame pk_RX5 1 [] rfl (by (repeat' apply And.intro) <;> first | exact True.intro | assumption | (simp only [mz_cm1, mz_c0, mz_c1, mz_c2, mz_c3, mz_c4, mz_c5, mz_c6, mz_c7, mz_c8, mz_c10, mz_c17, mz_c20, mz_c28, mz_c58, mz_c63, mz_c98, mz_c294, mz_c526, mz_c532, mz_c540, mz_c999, mz_c1900, mz_c2403, mz_c29362, mz_c29363, mz_c29364, mz_c29390, mz_c29393, mz_c29394, mz_c29398, mz_c29399, mz_c29400, mz_c29401, nI_add, pk_mul, pk_m1, mz_pp, mz_pq]; done) | omega | (simp only [mz_cm1, mz_c0, mz_c1, mz_c2, mz_c3, mz_c4, mz_c5, mz_c6, mz_c7, mz_c8, mz_c10, mz_c17, mz_c20, mz_c28, mz_c58, mz_c63, mz_c98, mz_c294, mz_c526, mz_c532, mz_c540, mz_c999, mz_c1900, mz_c2403, mz_c29362, mz_c29363, mz_c29364, mz_c29390, mz_c29393, mz_c29394, mz_c29398, mz_c29399, mz_c29400, mz_c29401, nI_add, pk_mul, pk_m1, mz_pp, mz_pq]; congr 1; omega)) ?_
    try simp only [mz_c0, mz_cm1]
    refine mz_Vireturn hC tk_X5_showTheSame rfl hret rfl (Nat.le_of_ble_eq_true rfl) (Nat.le_of_ble_eq_true rfl) ?_
    rw [if_neg hn]
    exact ⟨rfl, rfl, rfl⟩
  refine mz_sn_ok hC tk_X5_showTheSame pk_RX5 3 [] rfl (by (repeat' apply And.intro) <;> first | exact True.intro | assumption | (simp only [mz_cm1, mz_c0, mz_c1, mz_c2, mz_c3, mz_c4, mz_c5, mz_c6, mz_c7, mz_c8, mz_c10, mz_c17, mz_c20, mz_c28, mz_c58, mz_c63, mz_c98, mz_c294, mz_c526, mz_c532, mz_c540, mz_c999, mz_c1900, mz_c2403, mz_c29362, mz_c29363, mz_c29364, mz_c29390, mz_c29393, mz_c29394, mz_c29398, mz_c29399, mz_c29400, mz_c29401, nI_add, pk_mul, pk_m1, mz_pp, mz_pq]; done) | omega | (simp only [mz_cm1, mz_c0, mz_c1, mz_c2, mz_c3, mz_c4, mz_c5, mz_c6, mz_c7, mz_c8, mz_c10, mz_c17, mz_c20, mz_c28, mz_c58, mz_c63, mz_c98, mz_c294, mz_c526, mz_c532, mz_c540, mz_c999, mz_c1900, mz_c2403, mz_c29362, mz_c29363, mz_c29364, mz_c29390, mz_c29393, mz_c29394, mz_c29398, mz_c29399, mz_c29400, mz_c29401, nI_add, pk_mul, pk_m1, mz_pp, mz_pq]; congr 1; omega)) ?_
  try simp only [mz_c0, mz_cm1]
  refine mz_Vcv hC tk_X5_showTheSame rfl md_X4_cell lk_RX5_78 rfl (ct_cell l E hT (nI k) (nI 0)) (by show (vwCl[mz_K _ _]?).map _ = _; rw [kt]; rfl) ⟨Nat.le_of_ble_eq_true rfl, Nat.le_of_ble_eq_true rfl⟩ ⟨Nat.le_of_ble_eq_true rfl, Nat.le_of_ble_eq_true rfl⟩ (Nat.le_of_ble_eq_true rfl) (fun v9 G9 sz9 hp9 => ?_)
  obtain ⟨rfl, hG9, hs9⟩ := hp9
  rw [hG9, ← hs9, e1 0 (by omega)]
  refine mz_sn_ok hC tk_X5_showTheSame pk_RX5 3 [] rfl (by (repeat' apply And.intro) <;> first | exact True.intro | assumption | (simp only [mz_cm1, mz_c0, mz_c1, mz_c2, mz_c3, mz_c4, mz_c5, mz_c6, mz_c7, mz_c8, mz_c10, mz_c17, mz_c20, mz_c28, mz_c58, mz_c63, mz_c98, mz_c294, mz_c526, mz_c532, mz_c540, mz_c999, mz_c1900, mz_c2403, mz_c29362, mz_c29363, mz_c29364, mz_c29390, mz_c29393, mz_c29394, mz_c29398, mz_c29399, mz_c29400, mz_c29401, nI_add, pk_mul, pk_m1, mz_pp, mz_pq]; done) | omega | (simp only [mz_cm1, mz_c0, mz_c1, mz_c2, mz_c3, mz_c4, mz_c5, mz_c6, mz_c7, mz_c8, mz_c10, mz_c17, mz_c20, mz_c28, mz_c58, mz_c63, mz_c98, mz_c294, mz_c526, mz_c532, mz_c540, mz_c999, mz_c1900, mz_c2403, mz_c29362, mz_c29363, mz_c29364, mz_c29390, mz_c29393, mz_c29394, mz_c29398, mz_c29399, mz_c29400, mz_c29401, nI_add, pk_mul, pk_m1, mz_pp, mz_pq]; congr 1; omega)) ?_
  try simp only [mz_c0, mz_cm1]
  refine mz_Vcv hC tk_X5_showTheSame rfl md_X4_cell lk_RX5_78 rfl (ct_cell l E hU (nI j) (nI 0)) (by show (vwCl[mz_K _ _]?).map _ = _; rw [ku]; rfl) ⟨Nat.le_of_ble_eq_true rfl, Nat.le_of_ble_eq_true rfl⟩ ⟨Nat.le_of_ble_eq_true rfl, Nat.le_of_ble_eq_true rfl⟩ (Nat.le_of_ble_eq_true rfl) (fun v9 G9 sz9 hp9 => ?_)
  obtain ⟨rfl, hG10, hs10⟩ := hp9
  rw [hG10, ← hs10, e2 0 (by omega)]
  by_cases c0 : h k 0 = h' j 0
  · refine mz_br_f hC tk_X5_showTheSame rfl ((by show ¬ ¬ h k 0 = h' j 0; exact fun z => z c0)) ?_
    refine mz_sn_ok hC tk_X5_showTheSame pk_RX5 3 [] rfl (by (repeat' apply And.intro) <;> first | exact True.intro | assumption | (simp only [mz_cm1, mz_c0, mz_c1, mz_c2, mz_c3, mz_c4, mz_c5, mz_c6, mz_c7, mz_c8, mz_c10, mz_c17, mz_c20, mz_c28, mz_c58, mz_c63, mz_c98, mz_c294, mz_c526, mz_c532, mz_c540, mz_c999, mz_c1900, mz_c2403, mz_c29362, mz_c29363, mz_c29364, mz_c29390, mz_c29393, mz_c29394, mz_c29398, mz_c29399, mz_c29400, mz_c29401, nI_add, pk_mul, pk_m1, mz_pp, mz_pq]; done) | omega | (simp only [mz_cm1, mz_c0, mz_c1, mz_c2, mz_c3, mz_c4, mz_c5, mz_c6, mz_c7, mz_c8, mz_c10, mz_c17, mz_c20, mz_c28, mz_c58, mz_c63, mz_c98, mz_c294, mz_c526, mz_c532, mz_c540, mz_c999, mz_c1900, mz_c2403, mz_c29362, mz_c29363, mz_c29364, mz_c29390, mz_c29393, mz_c29394, mz_c29398, mz_c29399, mz_c29400, mz_c29401, nI_add, pk_mul, pk_m1, mz_pp, mz_pq]; congr 1; omega)) ?_
    try simp only [mz_c0, mz_cm1]
    refine mz_Vcv hC tk_X5_showTheSame rfl md_X4_cell lk_RX5_78 rfl (ct_cell l E hT (nI k) (nI 1)) (by show (vwCl[mz_K _ _]?).map _ = _; rw [kt]; rfl) ⟨Nat.le_of_ble_eq_true rfl, Nat.le_of_ble_eq_true rfl⟩ ⟨Nat.le_of_ble_eq_true rfl, Nat.le_of_ble_eq_true rfl⟩ (Nat.le_of_ble_eq_true rfl) (fun v9 G9 sz9 hp9 => ?_)
    obtain ⟨rfl, hG11, hs11⟩ := hp9
    rw [hG11, ← hs11, e1 1 (by omega)]
    refine mz_sn_ok hC tk_X5_showTheSame pk_RX5 3 [] rfl (by (repeat' apply And.intro) <;> first | exact True.intro | assumption | (simp only [mz_cm1, mz_c0, mz_c1, mz_c2, mz_c3, mz_c4, mz_c5, mz_c6, mz_c7, mz_c8, mz_c10, mz_c17, mz_c20, mz_c28, mz_c58, mz_c63, mz_c98, mz_c294, mz_c526, mz_c532, mz_c540, mz_c999, mz_c1900, mz_c2403, mz_c29362, mz_c29363, mz_c29364, mz_c29390, mz_c29393, mz_c29394, mz_c29398, mz_c29399, mz_c29400, mz_c29401, nI_add, pk_mul, pk_m1, mz_pp, mz_pq]; done) | omega | (simp only [mz_cm1, mz_c0, mz_c1, mz_c2, mz_c3, mz_c4, mz_c5, mz_c6, mz_c7, mz_c8, mz_c10, mz_c17, mz_c20, mz_c28, mz_c58, mz_c63, mz_c98, mz_c294, mz_c526, mz_c532, mz_c540, mz_c999, mz_c1900, mz_c2403, mz_c29362, mz_c29363, mz_c29364, mz_c29390, mz_c29393, mz_c29394, mz_c29398, mz_c29399, mz_c29400, mz_c29401, nI_add, pk_mul, pk_m1, mz_pp, mz_pq]; congr 1; omega)) ?_
    try simp only [mz_c0, mz_cm1]
    refine mz_Vcv hC tk_X5_showTheSame rfl md_X4_cell lk_RX5_78 rfl (ct_cell l E hU (nI j) (nI 1)) (by show (vwCl[mz_K _ _]?).map _ = _; rw [ku]; rfl) ⟨Nat.le_of_ble_eq_true rfl, Nat.le_of_ble_eq_true rfl⟩ ⟨Nat.le_of_ble_eq_true rfl, Nat.le_of_ble_eq_true rfl⟩ (Nat.le_of_ble_eq_true rfl) (fun v9 G9 sz9 hp9 => ?_)
    obtain ⟨rfl, hG12, hs12⟩ := hp9
    rw [hG12, ← hs12, e2 1 (by omega)]
    by_cases c1 : h k 1 = h' j 1
    · refine mz_br_f hC tk_X5_showTheSame rfl ((by show ¬ ¬ h k 1 = h' j 1; exact fun z => z c1)) ?_
      refine mz_sn_ok hC tk_X5_showTheSame pk_RX5 3 [] rfl (by (repeat' apply And.intro) <;> first | exact True.intro | assumption | (simp only [mz_cm1, mz_c0, mz_c1, mz_c2, mz_c3, mz_c4, mz_c5, mz_c6, mz_c7, mz_c8, mz_c10, mz_c17, mz_c20, mz_c28, mz_c58, mz_c63, mz_c98, mz_c294, mz_c526, mz_c532, mz_c540, mz_c999, mz_c1900, mz_c2403, mz_c29362, mz_c29363, mz_c29364, mz_c29390, mz_c29393, mz_c29394, mz_c29398, mz_c29399, mz_c29400, mz_c29401, nI_add, pk_mul, pk_m1, mz_pp, mz_pq]; done) | omega | (simp only [mz_cm1, mz_c0, mz_c1, mz_c2, mz_c3, mz_c4, mz_c5, mz_c6, mz_c7, mz_c8, mz_c10, mz_c17, mz_c20, mz_c28, mz_c58, mz_c63, mz_c98, mz_c294, mz_c526, mz_c532, mz_c540, mz_c999, mz_c1900, mz_c2403, mz_c29362, mz_c29363, mz_c29364, mz_c29390, mz_c29393, mz_c29394, mz_c29398, mz_c29399, mz_c29400, mz_c29401, nI_add, pk_mul, pk_m1, mz_pp, mz_pq]; congr 1; omega)) ?_
      try simp only [mz_c0, mz_cm1]
      refine mz_Vcv hC tk_X5_showTheSame rfl md_X4_cell lk_RX5_78 rfl (ct_cell l E hT (nI k) (nI 2)) (by show (vwCl[mz_K _ _]?).map _ = _; rw [kt]; rfl) ⟨Nat.le_of_ble_eq_true rfl, Nat.le_of_ble_eq_true rfl⟩ ⟨Nat.le_of_ble_eq_true rfl, Nat.le_of_ble_eq_true rfl⟩ (Nat.le_of_ble_eq_true rfl) (fun v9 G9 sz9 hp9 => ?_)
      obtain ⟨rfl, hG13, hs13⟩ := hp9
      rw [hG13, ← hs13, e1 2 (by omega)]
      refine mz_sn_ok hC tk_X5_showTheSame pk_RX5 3 [] rfl (by (repeat' apply And.intro) <;> first | exact True.intro | assumption | (simp only [mz_cm1, mz_c0, mz_c1, mz_c2, mz_c3, mz_c4, mz_c5, mz_c6, mz_c7, mz_c8, mz_c10, mz_c17, mz_c20, mz_c28, mz_c58, mz_c63, mz_c98, mz_c294, mz_c526, mz_c532, mz_c540, mz_c999, mz_c1900, mz_c2403, mz_c29362, mz_c29363, mz_c29364, mz_c29390, mz_c29393, mz_c29394, mz_c29398, mz_c29399, mz_c29400, mz_c29401, nI_add, pk_mul, pk_m1, mz_pp, mz_pq]; done) | omega | (simp only [mz_cm1, mz_c0, mz_c1, mz_c2, mz_c3, mz_c4, mz_c5, mz_c6, mz_c7, mz_c8, mz_c10, mz_c17, mz_c20, mz_c28, mz_c58, mz_c63, mz_c98, mz_c294, mz_c526, mz_c532, mz_c540, mz_c999, mz_c1900, mz_c2403, mz_c29362, mz_c29363, mz_c29364, mz_c29390, mz_c29393, mz_c29394, mz_c29398, mz_c29399, mz_c29400, mz_c29401, nI_add, pk_mul, pk_m1, mz_pp, mz_pq]; congr 1; omega)) ?_
      try simp only [mz_c0, mz_cm1]
      refine mz_Vcv hC tk_X5_showTheSame rfl md_X4_cell lk_RX5_78 rfl (ct_cell l E hU (nI j) (nI 2)) (by show (vwCl[mz_K _ _]?).map _ = _; rw [ku]; rfl) ⟨Nat.le_of_ble_eq_true rfl, Nat.le_of_ble_eq_true rfl⟩ ⟨Nat.le_of_ble_eq_true rfl, Nat.le_of_ble_eq_true rfl⟩ (Nat.le_of_ble_eq_true rfl) (fun v9 G9 sz9 hp9 => ?_)
      obtain ⟨rfl, hG14, hs14⟩ := hp9
      rw [hG14, ← hs14, e2 2 (by omega)]
      by_cases c2 : h k 2 = h' j 2
      · refine mz_br_f hC tk_X5_showTheSame rfl ((by show ¬ ¬ h k 2 = h' j 2; exact fun z => z c2)) ?_
        refine mz_sn_ok hC tk_X5_showTheSame pk_RX5 2 [] rfl (by (repeat' apply And.intro) <;> first | exact True.intro | assumption | (simp only [mz_cm1, mz_c0, mz_c1, mz_c2, mz_c3, mz_c4, mz_c5, mz_c6, mz_c7, mz_c8, mz_c10, mz_c17, mz_c20, mz_c28, mz_c58, mz_c63, mz_c98, mz_c294, mz_c526, mz_c532, mz_c540, mz_c999, mz_c1900, mz_c2403, mz_c29362, mz_c29363, mz_c29364, mz_c29390, mz_c29393, mz_c29394, mz_c29398, mz_c29399, mz_c29400, mz_c29401, nI_add, pk_mul, pk_m1, mz_pp, mz_pq]; done) | omega | (simp only [mz_cm1, mz_c0, mz_c1, mz_c2, mz_c3, mz_c4, mz_c5, mz_c6, mz_c7, mz_c8, mz_c10, mz_c17, mz_c20, mz_c28, mz_c58, mz_c63, mz_c98, mz_c294, mz_c526, mz_c532, mz_c540, mz_c999, mz_c1900, mz_c2403, mz_c29362, mz_c29363, mz_c29364, mz_c29390, mz_c29393, mz_c29394, mz_c29398, mz_c29399, mz_c29400, mz_c29401, nI_add, pk_mul, pk_m1, mz_pp, mz_pq]; congr 1; omega)) ?_
        try simp only [mz_c0, mz_cm1]
        refine mz_Vireturn hC tk_X5_showTheSame rfl hret rfl (Nat.le_of_ble_eq_true rfl) (Nat.le_of_ble_eq_true rfl) ?_
        rw [if_pos ⟨c0, c1, c2⟩]
        exact ⟨rfl, rfl, rfl⟩
      · refine mz_br_t hC tk_X5_showTheSame rfl ((by show ¬ h k 2 = h' j 2; exact c2)) ?_
        exact no (fun z => c2 z.2.2)
    · refine mz_br_t hC tk_X5_showTheSame rfl ((by show ¬ h k 1 = h' j 1; exact c1)) ?_
      exact no (fun z => c1 z.2.1)
  · refine mz_br_t hC tk_X5_showTheSame rfl ((by show ¬ h k 0 = h' j 0; exact c0)) ?_
    exact no (fun z => c0 z.1)
theorem cf_diff2 {P : Option Value → mz_G → Nat → Prop} {p : Program} {e : Env} {s : State} {m : MethodId} {args : Array Value} {below : List Frame} {meth : Method} {c : Code} (hC : mz_C E p s m args meth c cX5_different yX5_different.cls 7) (hret : meth.sig.returnType = some .int) (U : Nat) (hM : mr_M G O sz ω B sv F Λ v1 v2) (S : (Nat → Int32) × Nat) (hV : mr_V G O sz (ω + 75) S v1) (b : Nat) (hb : b < 3) (m0 : Int32) (c0 : Nat) (hP : P (some (.int (nI (c0 + mx_dm (F 0) S.1 b S.2 (mx_cB (F 0) b))))) G sz) : ∀ (d k c1 : Nat), k + d = mx_cB (F 0) b → c1 = c0 + mx_dm (F 0) S.1 b S.2 k → mz_V E p l e (mz_rm 7 U U) s m args below meth c 7 (U) (U) (mz_Z E below args s U U P) (G) (sz) (106) [some (.ref ω), some (.int m0), some (.int (nI b)), some (.ref (B 0 + 6 + 5 * b + 1)), some (.int (nI c1)), some (.int (nI k))] [] := by
  obtain ⟨⟨⟨⟨⟨kω, oω, zω⟩, rω0, rω1, rω3, rω4⟩, iω2, sv4⟩, ⟨⟨kA, oA, zA⟩, nA⟩, hrA⟩, ⟨hd1, hd2⟩, hst, ⟨⟨vn1, vh1, vt1⟩, vc1⟩, ⟨vn2, vh2, vt2⟩, vc2⟩ := id hM
  have hS0 := hst 0 (by omega)
  obtain ⟨⟨⟨⟨⟨kσ, oσ, zσ⟩, iσ4⟩, rσ0, rσ1, rσ2, rσ3⟩, ⟨⟨⟨kβ, oβ, zβ⟩, nβ⟩, hrβ⟩, ⟨⟨⟨kκ, oκ, zκ⟩, nκ⟩, hrκ⟩⟩, ⟨⟨tq, hq⟩, ⟨⟨k5, o5, z5⟩, n5⟩, hw5⟩, hbx, hmc⟩ := id hS0
  have rβ := hrβ b hb
  obtain ⟨⟨⟨⟨kb, ob, zb⟩, ib0, ib1, ib2, ib3⟩, rb4, rb5, hbne⟩, ⟨tb1, tb2⟩, hc1, hc2⟩ := id (hbx b hb)
  have ktb1 := tb1.K
  have ktb2 := tb2.K
  have stb1 := tb1.s
  have stb2 := tb2.s
  have c20 := tb1.b.1
  have g6 := tb2.b.1
  have kV := hV.K
  intro d
  induction d with
  | zero =>
    intro k c1 hk hc1
    refine mz_sn_ok hC tk_X5_different pk_RX5 3 [] rfl (by (repeat' apply And.intro) <;> first | exact True.intro | assumption | (simp only [mz_cm1, mz_c0, mz_c1, mz_c2, mz_c3, mz_c4, mz_c5, mz_c6, mz_c7, mz_c8, mz_c10, mz_c17, mz_c20, mz_c28, mz_c58, mz_c63, mz_c98, mz_c294, mz_c526, mz_c532, mz_c540, mz_c999, mz_c1900, mz_c2403, mz_c29362, mz_c29363, mz_c29364, mz_c29390, mz_c29393, mz_c29394, mz_c29398, mz_c29399, mz_c29400, mz_c29401, nI_add, pk_mul, pk_m1, mz_pp, mz_pq, stb1]; done) | omega | (simp only [mz_cm1, mz_c0, mz_c1, mz_c2, mz_c3, mz_c4, mz_c5, mz_c6, mz_c7, mz_c8, mz_c10, mz_c17, mz_c20, mz_c28, mz_c58, mz_c63, mz_c98, mz_c294, mz_c526, mz_c532, mz_c540, mz_c999, mz_c1900, mz_c2403, mz_c29362, mz_c29363, mz_c29364, mz_c29390, mz_c29393, mz_c29394, mz_c29398, mz_c29399, mz_c29400, mz_c29401, nI_add, pk_mul, pk_m1, mz_pp, mz_pq, stb1]; congr 1; omega)) ?_
    try simp only [mz_c0, mz_cm1, stb1]
    refine mz_br_t hC tk_X5_different rfl ((by show nI (mx_cB (F 0) b) ≤ nI k; rw [← hk]; exact nI_le (by omega) (by omega))) ?_
    refine mz_sn_ok hC tk_X5_different pk_RX5 1 [] rfl (by (repeat' apply And.intro) <;> first | exact True.intro | assumption | (simp only [mz_cm1, mz_c0, mz_c1, mz_c2, mz_c3, mz_c4, mz_c5, mz_c6, mz_c7, mz_c8, mz_c10, mz_c17, mz_c20, mz_c28, mz_c58, mz_c63, mz_c98, mz_c294, mz_c526, mz_c532, mz_c540, mz_c999, mz_c1900, mz_c2403, mz_c29362, mz_c29363, mz_c29364, mz_c29390, mz_c29393, mz_c29394, mz_c29398, mz_c29399, mz_c29400, mz_c29401, nI_add, pk_mul, pk_m1, mz_pp, mz_pq]; done) | omega | (simp only [mz_cm1, mz_c0, mz_c1, mz_c2, mz_c3, mz_c4, mz_c5, mz_c6, mz_c7, mz_c8, mz_c10, mz_c17, mz_c20, mz_c28, mz_c58, mz_c63, mz_c98, mz_c294, mz_c526, mz_c532, mz_c540, mz_c999, mz_c1900, mz_c2403, mz_c29362, mz_c29363, mz_c29364, mz_c29390, mz_c29393, mz_c29394, mz_c29398, mz_c29399, mz_c29400, mz_c29401, nI_add, pk_mul, pk_m1, mz_pp, mz_pq]; congr 1; omega)) ?_
    try simp only [mz_c0, mz_cm1]
    refine mz_Vireturn hC tk_X5_different rfl hret rfl (by omega) (by omega) ?_
    rw [hc1, show k = mx_cB (F 0) b by omega]
    exact hP
  | succ d ih =>
    intro k c1 hk hc1
    have e1 : mt_c (mx_cB (F 0) b) 4 (mr_h (F 0) (98 * b + 17) 4) (nI k) (nI 0) = mx_nm (F 0) (98 * b + 17) k := mt_c_in (by omega) (by omega) (by omega) (by omega)
    refine mz_sn_ok hC tk_X5_different pk_RX5 3 [] rfl (by (repeat' apply And.intro) <;> first | exact True.intro | assumption | (simp only [mz_cm1, mz_c0, mz_c1, mz_c2, mz_c3, mz_c4, mz_c5, mz_c6, mz_c7, mz_c8, mz_c10, mz_c17, mz_c20, mz_c28, mz_c58, mz_c63, mz_c98, mz_c294, mz_c526, mz_c532, mz_c540, mz_c999, mz_c1900, mz_c2403, mz_c29362, mz_c29363, mz_c29364, mz_c29390, mz_c29393, mz_c29394, mz_c29398, mz_c29399, mz_c29400, mz_c29401, nI_add, pk_mul, pk_m1, mz_pp, mz_pq, stb1]; done) | omega | (simp only [mz_cm1, mz_c0, mz_c1, mz_c2, mz_c3, mz_c4, mz_c5, mz_c6, mz_c7, mz_c8, mz_c10, mz_c17, mz_c20, mz_c28, mz_c58, mz_c63, mz_c98, mz_c294, mz_c526, mz_c532, mz_c540, mz_c999, mz_c1900, mz_c2403, mz_c29362, mz_c29363, mz_c29364, mz_c29390, mz_c29393, mz_c29394, mz_c29398, mz_c29399, mz_c29400, mz_c29401, nI_add, pk_mul, pk_m1, mz_pp, mz_pq, stb1]; congr 1; omega)) ?_
    try simp only [mz_c0, mz_cm1, stb1]
    refine mz_br_f hC tk_X5_different rfl ((by show ¬ nI (mx_cB (F 0) b) ≤ nI k; exact nI_ge (by omega) (by omega))) ?_
    refine mz_sn_ok hC tk_X5_different pk_RX5 6 [ω + 75] rfl (by (repeat' apply And.intro) <;> first | exact True.intro | assumption | (simp only [mz_cm1, mz_c0, mz_c1, mz_c2, mz_c3, mz_c4, mz_c5, mz_c6, mz_c7, mz_c8, mz_c10, mz_c17, mz_c20, mz_c28, mz_c58, mz_c63, mz_c98, mz_c294, mz_c526, mz_c532, mz_c540, mz_c999, mz_c1900, mz_c2403, mz_c29362, mz_c29363, mz_c29364, mz_c29390, mz_c29393, mz_c29394, mz_c29398, mz_c29399, mz_c29400, mz_c29401, nI_add, pk_mul, pk_m1, mz_pp, mz_pq]; done) | omega | (simp only [mz_cm1, mz_c0, mz_c1, mz_c2, mz_c3, mz_c4, mz_c5, mz_c6, mz_c7, mz_c8, mz_c10, mz_c17, mz_c20, mz_c28, mz_c58, mz_c63, mz_c98, mz_c294, mz_c526, mz_c532, mz_c540, mz_c999, mz_c1900, mz_c2403, mz_c29362, mz_c29363, mz_c29364, mz_c29390, mz_c29393, mz_c29394, mz_c29398, mz_c29399, mz_c29400, mz_c29401, nI_add, pk_mul, pk_m1, mz_pp, mz_pq]; congr 1; omega)) ?_
    try simp only [mz_c0, mz_cm1]
    refine mz_Vcv hC tk_X5_different rfl md_X4_cell lk_RX5_78 rfl (ct_cell l E tb1 (nI k) (nI 0)) (by show (vwCl[mz_K _ _]?).map _ = _; rw [ktb1]; rfl) ⟨Nat.le_of_ble_eq_true rfl, Nat.le_of_ble_eq_true rfl⟩ ⟨by simp only [mz_rm]; omega, by simp only [mz_rm]; omega⟩ (Nat.le_of_ble_eq_true rfl) (fun v9 G9 sz9 hp9 => ?_)
    obtain ⟨rfl, hG9, hs9⟩ := hp9
    rw [hG9, ← hs9, e1]
    refine mz_Vcv hC tk_X5_different rfl md_X4_rowWith lk_RX5_178 rfl (ct_rowWith l E hV 0 (mx_nm (F 0) (98 * b + 17) k) (by omega)) (by show (vwCl[mz_K _ _]?).map _ = _; rw [kV]; rfl) ⟨Nat.le_of_ble_eq_true rfl, Nat.le_of_ble_eq_true rfl⟩ ⟨by simp only [mz_rm]; omega, by simp only [mz_rm]; omega⟩ (Nat.le_of_ble_eq_true rfl) (fun v9 G9 sz9 hp9 => ?_)
    obtain ⟨rfl, hG8, hs8⟩ := hp9
    rw [hG8, ← hs8]
    refine mz_sn_ok hC tk_X5_different pk_RX5 1 [] rfl (by (repeat' apply And.intro) <;> first | exact True.intro | assumption | (simp only [mz_cm1, mz_c0, mz_c1, mz_c2, mz_c3, mz_c4, mz_c5, mz_c6, mz_c7, mz_c8, mz_c10, mz_c17, mz_c20, mz_c28, mz_c58, mz_c63, mz_c98, mz_c294, mz_c526, mz_c532, mz_c540, mz_c999, mz_c1900, mz_c2403, mz_c29362, mz_c29363, mz_c29364, mz_c29390, mz_c29393, mz_c29394, mz_c29398, mz_c29399, mz_c29400, mz_c29401, nI_add, pk_mul, pk_m1, mz_pp, mz_pq]; done) | omega | (simp only [mz_cm1, mz_c0, mz_c1, mz_c2, mz_c3, mz_c4, mz_c5, mz_c6, mz_c7, mz_c8, mz_c10, mz_c17, mz_c20, mz_c28, mz_c58, mz_c63, mz_c98, mz_c294, mz_c526, mz_c532, mz_c540, mz_c999, mz_c1900, mz_c2403, mz_c29362, mz_c29363, mz_c29364, mz_c29390, mz_c29393, mz_c29394, mz_c29398, mz_c29399, mz_c29400, mz_c29401, nI_add, pk_mul, pk_m1, mz_pp, mz_pq]; congr 1; omega)) ?_
    try simp only [mz_c0, mz_cm1]
    by_cases hz : mz_fz (fun r => S.1 (3 * r)) (mx_nm (F 0) (98 * b + 17) k) S.2 = none
    · have e2 : mz_fi (fun r => S.1 (3 * r + 0)) (mx_nm (F 0) (98 * b + 17) k) S.2 = -1 := by
        show mz_fi (fun r => S.1 (3 * r)) _ _ = -1
        unfold mz_fi
        rw [hz]
      rw [e2]
      refine mz_br_f hC tk_X5_different rfl ((by show ¬ ¬ (-1 : Int32) = -1; exact fun z => z rfl)) ?_
      refine mz_sn_ok hC tk_X5_different pk_RX5 3 [] rfl (by (repeat' apply And.intro) <;> first | exact True.intro | assumption | (simp only [mz_cm1, mz_c0, mz_c1, mz_c2, mz_c3, mz_c4, mz_c5, mz_c6, mz_c7, mz_c8, mz_c10, mz_c17, mz_c20, mz_c28, mz_c58, mz_c63, mz_c98, mz_c294, mz_c526, mz_c532, mz_c540, mz_c999, mz_c1900, mz_c2403, mz_c29362, mz_c29363, mz_c29364, mz_c29390, mz_c29393, mz_c29394, mz_c29398, mz_c29399, mz_c29400, mz_c29401, nI_add, pk_mul, pk_m1, mz_pp, mz_pq]; done) | omega | (simp only [mz_cm1, mz_c0, mz_c1, mz_c2, mz_c3, mz_c4, mz_c5, mz_c6, mz_c7, mz_c8, mz_c10, mz_c17, mz_c20, mz_c28, mz_c58, mz_c63, mz_c98, mz_c294, mz_c526, mz_c532, mz_c540, mz_c999, mz_c1900, mz_c2403, mz_c29362, mz_c29363, mz_c29364, mz_c29390, mz_c29393, mz_c29394, mz_c29398, mz_c29399, mz_c29400, mz_c29401, nI_add, pk_mul, pk_m1, mz_pp, mz_pq]; congr 1; omega)) ?_
      try simp only [mz_c0, mz_cm1]
      refine mz_V.sub (lv' := [some (.ref ω), some (.int m0), some (.int (nI b)), some (.ref (B 0 + 6 + 5 * b + 1)), some (.int (nI (c1 + 1))), some (.int (nI (k + 1)))]) (by (repeat' apply And.intro) <;> first | with_reducible rfl | exact True.intro | (simp only [mz_cm1, mz_c0, mz_c1, mz_c2, mz_c3, mz_c4, mz_c5, mz_c6, mz_c7, mz_c8, mz_c10, mz_c17, mz_c20, mz_c28, mz_c58, mz_c63, mz_c98, mz_c294, mz_c526, mz_c532, mz_c540, mz_c999, mz_c1900, mz_c2403, mz_c29362, mz_c29363, mz_c29364, mz_c29390, mz_c29393, mz_c29394, mz_c29398, mz_c29399, mz_c29400, mz_c29401, nI_add, pk_mul, pk_m1, mz_pp, mz_pq]; done) | rfl) ?_
      exact ih (k + 1) (c1 + 1) (by omega) (by simp only [mx_dm]; rw [if_pos hz]; omega)
    · obtain ⟨j, hj⟩ := Option.ne_none_iff_exists'.1 hz
      have hjl := (mz_fz_some hj).1
      have n540 := hV.b.1
      have e2 : mz_fi (fun r => S.1 (3 * r + 0)) (mx_nm (F 0) (98 * b + 17) k) S.2 = nI j := by
        show mz_fi (fun r => S.1 (3 * r)) _ _ = _
        unfold mz_fi
        rw [hj]
      rw [e2]
      refine mz_br_t hC tk_X5_different rfl ((by show ¬ nI j = -1; exact mz_nm1 (by omega))) ?_
      refine mz_sn_ok hC tk_X5_different pk_RX5 2 [] rfl (by (repeat' apply And.intro) <;> first | exact True.intro | assumption | (simp only [mz_cm1, mz_c0, mz_c1, mz_c2, mz_c3, mz_c4, mz_c5, mz_c6, mz_c7, mz_c8, mz_c10, mz_c17, mz_c20, mz_c28, mz_c58, mz_c63, mz_c98, mz_c294, mz_c526, mz_c532, mz_c540, mz_c999, mz_c1900, mz_c2403, mz_c29362, mz_c29363, mz_c29364, mz_c29390, mz_c29393, mz_c29394, mz_c29398, mz_c29399, mz_c29400, mz_c29401, nI_add, pk_mul, pk_m1, mz_pp, mz_pq]; done) | omega | (simp only [mz_cm1, mz_c0, mz_c1, mz_c2, mz_c3, mz_c4, mz_c5, mz_c6, mz_c7, mz_c8, mz_c10, mz_c17, mz_c20, mz_c28, mz_c58, mz_c63, mz_c98, mz_c294, mz_c526, mz_c532, mz_c540, mz_c999, mz_c1900, mz_c2403, mz_c29362, mz_c29363, mz_c29364, mz_c29390, mz_c29393, mz_c29394, mz_c29398, mz_c29399, mz_c29400, mz_c29401, nI_add, pk_mul, pk_m1, mz_pp, mz_pq]; congr 1; omega)) ?_
      try simp only [mz_c0, mz_cm1]
      refine mz_V.sub (lv' := [some (.ref ω), some (.int m0), some (.int (nI b)), some (.ref (B 0 + 6 + 5 * b + 1)), some (.int (nI c1)), some (.int (nI (k + 1)))]) (by (repeat' apply And.intro) <;> first | with_reducible rfl | exact True.intro | (simp only [mz_cm1, mz_c0, mz_c1, mz_c2, mz_c3, mz_c4, mz_c5, mz_c6, mz_c7, mz_c8, mz_c10, mz_c17, mz_c20, mz_c28, mz_c58, mz_c63, mz_c98, mz_c294, mz_c526, mz_c532, mz_c540, mz_c999, mz_c1900, mz_c2403, mz_c29362, mz_c29363, mz_c29364, mz_c29390, mz_c29393, mz_c29394, mz_c29398, mz_c29399, mz_c29400, mz_c29401, nI_add, pk_mul, pk_m1, mz_pp, mz_pq]; done) | rfl) ?_
      exact ih (k + 1) c1 (by omega) (by simp only [mx_dm]; rw [if_neg hz]; omega)
theorem cf_diff1 {P : Option Value → mz_G → Nat → Prop} {p : Program} {e : Env} {s : State} {m : MethodId} {args : Array Value} {below : List Frame} {meth : Method} {c : Code} (hC : mz_C E p s m args meth c cX5_different yX5_different.cls 7) (hret : meth.sig.returnType = some .int) (U : Nat) (hM : mr_M G O sz ω B sv F Λ v1 v2) (S : (Nat → Int32) × Nat) (hV : mr_V G O sz (ω + 75) S v1) (b : Nat) (hb : b < 3) (m0 : Int32) (hP : P (some (.int (nI (mx_dl (F 0) S.1 b (mx_cB (F 0) b) S.2 + mx_dm (F 0) S.1 b S.2 (mx_cB (F 0) b))))) G sz) : ∀ (d k c1 : Nat), k + d = S.2 → c1 = mx_dl (F 0) S.1 b (mx_cB (F 0) b) k → mz_V E p l e (mz_rm 7 U U) s m args below meth c 7 (U) (U) (mz_Z E below args s U U P) (G) (sz) (44) [some (.ref ω), some (.int m0), some (.int (nI b)), some (.ref (B 0 + 6 + 5 * b + 1)), some (.int (nI c1)), some (.int (nI k))] [] := by
  obtain ⟨⟨⟨⟨⟨kω, oω, zω⟩, rω0, rω1, rω3, rω4⟩, iω2, sv4⟩, ⟨⟨kA, oA, zA⟩, nA⟩, hrA⟩, ⟨hd1, hd2⟩, hst, ⟨⟨vn1, vh1, vt1⟩, vc1⟩, ⟨vn2, vh2, vt2⟩, vc2⟩ := id hM
  have hS0 := hst 0 (by omega)
  obtain ⟨⟨⟨⟨⟨kσ, oσ, zσ⟩, iσ4⟩, rσ0, rσ1, rσ2, rσ3⟩, ⟨⟨⟨kβ, oβ, zβ⟩, nβ⟩, hrβ⟩, ⟨⟨⟨kκ, oκ, zκ⟩, nκ⟩, hrκ⟩⟩, ⟨⟨tq, hq⟩, ⟨⟨k5, o5, z5⟩, n5⟩, hw5⟩, hbx, hmc⟩ := id hS0
  have rβ := hrβ b hb
  obtain ⟨⟨⟨⟨kb, ob, zb⟩, ib0, ib1, ib2, ib3⟩, rb4, rb5, hbne⟩, ⟨tb1, tb2⟩, hc1, hc2⟩ := id (hbx b hb)
  have ktb1 := tb1.K
  have ktb2 := tb2.K
  have stb1 := tb1.s
  have stb2 := tb2.s
  have c20 := tb1.b.1
  have g6 := tb2.b.1
  have kV := hV.K
  have sV := hV.s
  have n540 := hV.b.1
  intro d
  induction d with
  | zero =>
    intro k c1 hk hc1
    refine mz_sn_ok hC tk_X5_different pk_RX5 4 [ω + 75] rfl (by (repeat' apply And.intro) <;> first | exact True.intro | assumption | (simp only [mz_cm1, mz_c0, mz_c1, mz_c2, mz_c3, mz_c4, mz_c5, mz_c6, mz_c7, mz_c8, mz_c10, mz_c17, mz_c20, mz_c28, mz_c58, mz_c63, mz_c98, mz_c294, mz_c526, mz_c532, mz_c540, mz_c999, mz_c1900, mz_c2403, mz_c29362, mz_c29363, mz_c29364, mz_c29390, mz_c29393, mz_c29394, mz_c29398, mz_c29399, mz_c29400, mz_c29401, nI_add, pk_mul, pk_m1, mz_pp, mz_pq, sV]; done) | omega | (simp only [mz_cm1, mz_c0, mz_c1, mz_c2, mz_c3, mz_c4, mz_c5, mz_c6, mz_c7, mz_c8, mz_c10, mz_c17, mz_c20, mz_c28, mz_c58, mz_c63, mz_c98, mz_c294, mz_c526, mz_c532, mz_c540, mz_c999, mz_c1900, mz_c2403, mz_c29362, mz_c29363, mz_c29364, mz_c29390, mz_c29393, mz_c29394, mz_c29398, mz_c29399, mz_c29400, mz_c29401, nI_add, pk_mul, pk_m1, mz_pp, mz_pq, sV]; congr 1; omega)) ?_
    try simp only [mz_c0, mz_cm1, sV]
    refine mz_br_t hC tk_X5_different rfl ((by show nI S.2 ≤ nI k; rw [← hk]; exact nI_le (by omega) (by omega))) ?_
    refine mz_sn_ok hC tk_X5_different pk_RX5 2 [] rfl (by (repeat' apply And.intro) <;> first | exact True.intro | assumption | (simp only [mz_cm1, mz_c0, mz_c1, mz_c2, mz_c3, mz_c4, mz_c5, mz_c6, mz_c7, mz_c8, mz_c10, mz_c17, mz_c20, mz_c28, mz_c58, mz_c63, mz_c98, mz_c294, mz_c526, mz_c532, mz_c540, mz_c999, mz_c1900, mz_c2403, mz_c29362, mz_c29363, mz_c29364, mz_c29390, mz_c29393, mz_c29394, mz_c29398, mz_c29399, mz_c29400, mz_c29401, nI_add, pk_mul, pk_m1, mz_pp, mz_pq]; done) | omega | (simp only [mz_cm1, mz_c0, mz_c1, mz_c2, mz_c3, mz_c4, mz_c5, mz_c6, mz_c7, mz_c8, mz_c10, mz_c17, mz_c20, mz_c28, mz_c58, mz_c63, mz_c98, mz_c294, mz_c526, mz_c532, mz_c540, mz_c999, mz_c1900, mz_c2403, mz_c29362, mz_c29363, mz_c29364, mz_c29390, mz_c29393, mz_c29394, mz_c29398, mz_c29399, mz_c29400, mz_c29401, nI_add, pk_mul, pk_m1, mz_pp, mz_pq]; congr 1; omega)) ?_
    try simp only [mz_c0, mz_cm1]
    refine mz_V.sub (lv' := [some (.ref ω), some (.int m0), some (.int (nI b)), some (.ref (B 0 + 6 + 5 * b + 1)), some (.int (nI c1)), some (.int (nI 0))]) (by (repeat' apply And.intro) <;> first | with_reducible rfl | exact True.intro | (simp only [mz_cm1, mz_c0, mz_c1, mz_c2, mz_c3, mz_c4, mz_c5, mz_c6, mz_c7, mz_c8, mz_c10, mz_c17, mz_c20, mz_c28, mz_c58, mz_c63, mz_c98, mz_c294, mz_c526, mz_c532, mz_c540, mz_c999, mz_c1900, mz_c2403, mz_c29362, mz_c29363, mz_c29364, mz_c29390, mz_c29393, mz_c29394, mz_c29398, mz_c29399, mz_c29400, mz_c29401, nI_add, pk_mul, pk_m1, mz_pp, mz_pq]; done) | rfl) ?_
    exact cf_diff2 l E hC hret U hM S hV b hb m0 c1 (by rw [hc1, show k = S.2 by omega]; exact hP) (mx_cB (F 0) b) 0 c1 (by omega) (by simp only [mx_dm]; omega)
  | succ d ih =>
    intro k c1 hk hc1
    have e1 : mt_c S.2 3 (fun k j => S.1 (3 * k + j)) (nI k) (nI 0) = S.1 (3 * k) := mt_c_in (by omega) (by omega) (by omega) (by omega)
    have plus : ∀ x : Int32, mx_dq (F 0) S.1 b (mx_cB (F 0) b) k = false → mz_V E p l e (mz_rm 7 U U) s m args below meth c 7 (U) (U) (mz_Z E below args s U U P) (G) (sz) (94) [some (.ref ω), some (.int m0), some (.int (nI b)), some (.ref (B 0 + 6 + 5 * b + 1)), some (.int (nI c1)), some (.int (nI k)), some (.int x)] [] := by
      intro x hx
      refine mz_sn_ok hC tk_X5_different pk_RX5 3 [] rfl (by (repeat' apply And.intro) <;> first | exact True.intro | assumption | (simp only [mz_cm1, mz_c0, mz_c1, mz_c2, mz_c3, mz_c4, mz_c5, mz_c6, mz_c7, mz_c8, mz_c10, mz_c17, mz_c20, mz_c28, mz_c58, mz_c63, mz_c98, mz_c294, mz_c526, mz_c532, mz_c540, mz_c999, mz_c1900, mz_c2403, mz_c29362, mz_c29363, mz_c29364, mz_c29390, mz_c29393, mz_c29394, mz_c29398, mz_c29399, mz_c29400, mz_c29401, nI_add, pk_mul, pk_m1, mz_pp, mz_pq]; done) | omega | (simp only [mz_cm1, mz_c0, mz_c1, mz_c2, mz_c3, mz_c4, mz_c5, mz_c6, mz_c7, mz_c8, mz_c10, mz_c17, mz_c20, mz_c28, mz_c58, mz_c63, mz_c98, mz_c294, mz_c526, mz_c532, mz_c540, mz_c999, mz_c1900, mz_c2403, mz_c29362, mz_c29363, mz_c29364, mz_c29390, mz_c29393, mz_c29394, mz_c29398, mz_c29399, mz_c29400, mz_c29401, nI_add, pk_mul, pk_m1, mz_pp, mz_pq]; congr 1; omega)) ?_
      try simp only [mz_c0, mz_cm1]
      refine mz_V.sub (lv' := [some (.ref ω), some (.int m0), some (.int (nI b)), some (.ref (B 0 + 6 + 5 * b + 1)), some (.int (nI (c1 + 1))), some (.int (nI (k + 1)))]) (by (repeat' apply And.intro) <;> first | with_reducible rfl | exact True.intro | (simp only [mz_cm1, mz_c0, mz_c1, mz_c2, mz_c3, mz_c4, mz_c5, mz_c6, mz_c7, mz_c8, mz_c10, mz_c17, mz_c20, mz_c28, mz_c58, mz_c63, mz_c98, mz_c294, mz_c526, mz_c532, mz_c540, mz_c999, mz_c1900, mz_c2403, mz_c29362, mz_c29363, mz_c29364, mz_c29390, mz_c29393, mz_c29394, mz_c29398, mz_c29399, mz_c29400, mz_c29401, nI_add, pk_mul, pk_m1, mz_pp, mz_pq]; done) | rfl) ?_
      exact ih (k + 1) (c1 + 1) (by omega) (by simp only [mx_dl]; rw [hx, if_neg (by decide)]; omega)
    refine mz_sn_ok hC tk_X5_different pk_RX5 4 [ω + 75] rfl (by (repeat' apply And.intro) <;> first | exact True.intro | assumption | (simp only [mz_cm1, mz_c0, mz_c1, mz_c2, mz_c3, mz_c4, mz_c5, mz_c6, mz_c7, mz_c8, mz_c10, mz_c17, mz_c20, mz_c28, mz_c58, mz_c63, mz_c98, mz_c294, mz_c526, mz_c532, mz_c540, mz_c999, mz_c1900, mz_c2403, mz_c29362, mz_c29363, mz_c29364, mz_c29390, mz_c29393, mz_c29394, mz_c29398, mz_c29399, mz_c29400, mz_c29401, nI_add, pk_mul, pk_m1, mz_pp, mz_pq, sV]; done) | omega | (simp only [mz_cm1, mz_c0, mz_c1, mz_c2, mz_c3, mz_c4, mz_c5, mz_c6, mz_c7, mz_c8, mz_c10, mz_c17, mz_c20, mz_c28, mz_c58, mz_c63, mz_c98, mz_c294, mz_c526, mz_c532, mz_c540, mz_c999, mz_c1900, mz_c2403, mz_c29362, mz_c29363, mz_c29364, mz_c29390, mz_c29393, mz_c29394, mz_c29398, mz_c29399, mz_c29400, mz_c29401, nI_add, pk_mul, pk_m1, mz_pp, mz_pq, sV]; congr 1; omega)) ?_
    try simp only [mz_c0, mz_cm1, sV]
    refine mz_br_f hC tk_X5_different rfl ((by show ¬ nI S.2 ≤ nI k; exact nI_ge (by omega) (by omega))) ?_
    refine mz_sn_ok hC tk_X5_different pk_RX5 6 [ω + 75] rfl (by (repeat' apply And.intro) <;> first | exact True.intro | assumption | (simp only [mz_cm1, mz_c0, mz_c1, mz_c2, mz_c3, mz_c4, mz_c5, mz_c6, mz_c7, mz_c8, mz_c10, mz_c17, mz_c20, mz_c28, mz_c58, mz_c63, mz_c98, mz_c294, mz_c526, mz_c532, mz_c540, mz_c999, mz_c1900, mz_c2403, mz_c29362, mz_c29363, mz_c29364, mz_c29390, mz_c29393, mz_c29394, mz_c29398, mz_c29399, mz_c29400, mz_c29401, nI_add, pk_mul, pk_m1, mz_pp, mz_pq]; done) | omega | (simp only [mz_cm1, mz_c0, mz_c1, mz_c2, mz_c3, mz_c4, mz_c5, mz_c6, mz_c7, mz_c8, mz_c10, mz_c17, mz_c20, mz_c28, mz_c58, mz_c63, mz_c98, mz_c294, mz_c526, mz_c532, mz_c540, mz_c999, mz_c1900, mz_c2403, mz_c29362, mz_c29363, mz_c29364, mz_c29390, mz_c29393, mz_c29394, mz_c29398, mz_c29399, mz_c29400, mz_c29401, nI_add, pk_mul, pk_m1, mz_pp, mz_pq]; congr 1; omega)) ?_
    try simp only [mz_c0, mz_cm1]
    refine mz_Vcv hC tk_X5_different rfl md_X4_cell lk_RX5_78 rfl (ct_cell l E hV (nI k) (nI 0)) (by show (vwCl[mz_K _ _]?).map _ = _; rw [kV]; rfl) ⟨Nat.le_of_ble_eq_true rfl, Nat.le_of_ble_eq_true rfl⟩ ⟨by simp only [mz_rm]; omega, by simp only [mz_rm]; omega⟩ (Nat.le_of_ble_eq_true rfl) (fun v9 G9 sz9 hp9 => ?_)
    obtain ⟨rfl, hG9, hs9⟩ := hp9
    rw [hG9, ← hs9, e1]
    refine mz_Vcv hC tk_X5_different rfl md_X4_rowWith lk_RX5_178 rfl (ct_rowWith l E tb1 0 (S.1 (3 * k)) (by omega)) (by show (vwCl[mz_K _ _]?).map _ = _; rw [ktb1]; rfl) ⟨Nat.le_of_ble_eq_true rfl, Nat.le_of_ble_eq_true rfl⟩ ⟨by simp only [mz_rm]; omega, by simp only [mz_rm]; omega⟩ (Nat.le_of_ble_eq_true rfl) (fun v9 G9 sz9 hp9 => ?_)
    obtain ⟨rfl, hG8, hs8⟩ := hp9
    rw [hG8, ← hs8]
    have e3 : mz_fi (fun r => mr_h (F 0) (98 * b + 17) 4 r 0) (S.1 (3 * k)) (mx_cB (F 0) b) = mz_fi (mx_nm (F 0) (98 * b + 17)) (S.1 (3 * k)) (mx_cB (F 0) b) := rfl
    rw [e3]
    refine mz_sn_ok hC tk_X5_different pk_RX5 3 [] rfl (by (repeat' apply And.intro) <;> first | exact True.intro | assumption | (simp only [mz_cm1, mz_c0, mz_c1, mz_c2, mz_c3, mz_c4, mz_c5, mz_c6, mz_c7, mz_c8, mz_c10, mz_c17, mz_c20, mz_c28, mz_c58, mz_c63, mz_c98, mz_c294, mz_c526, mz_c532, mz_c540, mz_c999, mz_c1900, mz_c2403, mz_c29362, mz_c29363, mz_c29364, mz_c29390, mz_c29393, mz_c29394, mz_c29398, mz_c29399, mz_c29400, mz_c29401, nI_add, pk_mul, pk_m1, mz_pp, mz_pq]; done) | omega | (simp only [mz_cm1, mz_c0, mz_c1, mz_c2, mz_c3, mz_c4, mz_c5, mz_c6, mz_c7, mz_c8, mz_c10, mz_c17, mz_c20, mz_c28, mz_c58, mz_c63, mz_c98, mz_c294, mz_c526, mz_c532, mz_c540, mz_c999, mz_c1900, mz_c2403, mz_c29362, mz_c29363, mz_c29364, mz_c29390, mz_c29393, mz_c29394, mz_c29398, mz_c29399, mz_c29400, mz_c29401, nI_add, pk_mul, pk_m1, mz_pp, mz_pq]; congr 1; omega)) ?_
    try simp only [mz_c0, mz_cm1]
    by_cases hz : mz_fz (mx_nm (F 0) (98 * b + 17)) (S.1 (3 * k)) (mx_cB (F 0) b) = none
    · have e2 : mz_fi (mx_nm (F 0) (98 * b + 17)) (S.1 (3 * k)) (mx_cB (F 0) b) = -1 := by
        unfold mz_fi
        rw [hz]
      rw [e2]
      refine mz_br_t hC tk_X5_different rfl ((by show (-1 : Int32) = -1; rfl)) ?_
      exact plus _ (by unfold mx_dq; rw [hz])
    · obtain ⟨j, hj⟩ := Option.ne_none_iff_exists'.1 hz
      obtain ⟨hjl, hje, -⟩ := mz_fz_some hj
      have e2 : mz_fi (mx_nm (F 0) (98 * b + 17)) (S.1 (3 * k)) (mx_cB (F 0) b) = nI j := by
        unfold mz_fi
        rw [hj]
      rw [e2]
      refine mz_br_f hC tk_X5_different rfl ((by show ¬ nI j = -1; exact mz_nm1 (by omega))) ?_
      refine mz_sn_ok hC tk_X5_different pk_RX5 5 [ω + 75] rfl (by (repeat' apply And.intro) <;> first | exact True.intro | assumption | (simp only [mz_cm1, mz_c0, mz_c1, mz_c2, mz_c3, mz_c4, mz_c5, mz_c6, mz_c7, mz_c8, mz_c10, mz_c17, mz_c20, mz_c28, mz_c58, mz_c63, mz_c98, mz_c294, mz_c526, mz_c532, mz_c540, mz_c999, mz_c1900, mz_c2403, mz_c29362, mz_c29363, mz_c29364, mz_c29390, mz_c29393, mz_c29394, mz_c29398, mz_c29399, mz_c29400, mz_c29401, nI_add, pk_mul, pk_m1, mz_pp, mz_pq]; done) | omega | (simp only [mz_cm1, mz_c0, mz_c1, mz_c2, mz_c3, mz_c4, mz_c5, mz_c6, mz_c7, mz_c8, mz_c10, mz_c17, mz_c20, mz_c28, mz_c58, mz_c63, mz_c98, mz_c294, mz_c526, mz_c532, mz_c540, mz_c999, mz_c1900, mz_c2403, mz_c29362, mz_c29363, mz_c29364, mz_c29390, mz_c29393, mz_c29394, mz_c29398, mz_c29399, mz_c29400, mz_c29401, nI_add, pk_mul, pk_m1, mz_pp, mz_pq]; congr 1; omega)) ?_
      try simp only [mz_c0, mz_cm1]
      refine mz_Vcs hC tk_X5_different rfl md_X5_showTheSame lk_RX5_181 rfl (cf_showB l E hV tb1 k j (by omega) (by omega) (by omega) (by omega) (by omega) (by omega) (by omega) hjl) ⟨Nat.le_of_ble_eq_true rfl, Nat.le_of_ble_eq_true rfl⟩ ⟨by simp only [mz_rm]; omega, by simp only [mz_rm]; omega⟩ (Nat.le_of_ble_eq_true rfl) (fun v9 G9 sz9 hp9 => ?_)
      obtain ⟨rfl, hG7, hs7⟩ := hp9
      rw [hG7, ← hs7]
      by_cases hq : S.1 (3 * k + 0) = mr_h (F 0) (98 * b + 17) 4 j 0 ∧ S.1 (3 * k + 1) = mr_h (F 0) (98 * b + 17) 4 j 1 ∧ S.1 (3 * k + 2) = mr_h (F 0) (98 * b + 17) 4 j 2
      · rw [if_pos hq]
        refine mz_br_t hC tk_X5_different rfl ((by show ¬ (1 : Int32) = 0; decide)) ?_
        refine mz_sn_ok hC tk_X5_different pk_RX5 2 [] rfl (by (repeat' apply And.intro) <;> first | exact True.intro | assumption | (simp only [mz_cm1, mz_c0, mz_c1, mz_c2, mz_c3, mz_c4, mz_c5, mz_c6, mz_c7, mz_c8, mz_c10, mz_c17, mz_c20, mz_c28, mz_c58, mz_c63, mz_c98, mz_c294, mz_c526, mz_c532, mz_c540, mz_c999, mz_c1900, mz_c2403, mz_c29362, mz_c29363, mz_c29364, mz_c29390, mz_c29393, mz_c29394, mz_c29398, mz_c29399, mz_c29400, mz_c29401, nI_add, pk_mul, pk_m1, mz_pp, mz_pq]; done) | omega | (simp only [mz_cm1, mz_c0, mz_c1, mz_c2, mz_c3, mz_c4, mz_c5, mz_c6, mz_c7, mz_c8, mz_c10, mz_c17, mz_c20, mz_c28, mz_c58, mz_c63, mz_c98, mz_c294, mz_c526, mz_c532, mz_c540, mz_c999, mz_c1900, mz_c2403, mz_c29362, mz_c29363, mz_c29364, mz_c29390, mz_c29393, mz_c29394, mz_c29398, mz_c29399, mz_c29400, mz_c29401, nI_add, pk_mul, pk_m1, mz_pp, mz_pq]; congr 1; omega)) ?_
        try simp only [mz_c0, mz_cm1]
        refine mz_V.sub (lv' := [some (.ref ω), some (.int m0), some (.int (nI b)), some (.ref (B 0 + 6 + 5 * b + 1)), some (.int (nI c1)), some (.int (nI (k + 1)))]) (by (repeat' apply And.intro) <;> first | with_reducible rfl | exact True.intro | (simp only [mz_cm1, mz_c0, mz_c1, mz_c2, mz_c3, mz_c4, mz_c5, mz_c6, mz_c7, mz_c8, mz_c10, mz_c17, mz_c20, mz_c28, mz_c58, mz_c63, mz_c98, mz_c294, mz_c526, mz_c532, mz_c540, mz_c999, mz_c1900, mz_c2403, mz_c29362, mz_c29363, mz_c29364, mz_c29390, mz_c29393, mz_c29394, mz_c29398, mz_c29399, mz_c29400, mz_c29401, nI_add, pk_mul, pk_m1, mz_pp, mz_pq]; done) | rfl) ?_
        exact ih (k + 1) c1 (by omega) (by
          have : mx_dq (F 0) S.1 b (mx_cB (F 0) b) k = true := by
            unfold mx_dq; rw [hj]; exact decide_eq_true ⟨hq.2.1.symm, hq.2.2.symm⟩
          simp only [mx_dl]; rw [if_pos this]; omega)
      · rw [if_neg hq]
        refine mz_br_f hC tk_X5_different rfl ((by show ¬ ¬ (0 : Int32) = 0; exact fun z => z rfl)) ?_
        exact plus _ (by
          unfold mx_dq; rw [hj]
          exact decide_eq_false (fun z => hq ⟨hje.symm, z.1.symm, z.2.symm⟩))
theorem cf_different (hM : mr_M G O sz ω B sv F Λ v1 v2) (m0 : Nat) (hm : m0 < 4) (b : Nat) (hb : b < 3) (v0 : Nat → Int32) (S : (Nat → Int32) × Nat) (hS : S = mx_vw (F 0) m0 b (mx_cC (F 0) m0 b) (mx_nD (F 0) m0) v0) (hcc : mx_cC (F 0) m0 b < 532) (U : Nat) (hU : U + mr_pv (mt_gr 3 540 v1 S.2) = mr_pv v1) : mz_M l E yX5_different cX5_different 7 (some .int) 7 U U [.ref ω, .int (nI m0), .int (nI b)] G sz (fun v' G' sz' => v' = some (.int (nI (mx_dl (F 0) S.1 b (mx_cB (F 0) b) S.2 + mx_dm (F 0) S.1 b S.2 (mx_cB (F 0) b)))) ∧ ∃ O', mr_M G' O' sz' ω B sv F Λ (mt_gr 3 540 v1 S.2) v2 ∧ mt_F (mr_ZZ ω) G G' O O' sz sz') := by
  obtain ⟨⟨⟨⟨⟨kω, oω, zω⟩, rω0, rω1, rω3, rω4⟩, iω2, sv4⟩, ⟨⟨kA, oA, zA⟩, nA⟩, hrA⟩, ⟨hd1, hd2⟩, hst, ⟨⟨vn1, vh1, vt1⟩, vc1⟩, ⟨vn2, vh2, vt2⟩, vc2⟩ := id hM
  have hS0 := hst 0 (by omega)
  obtain ⟨⟨⟨⟨⟨kσ, oσ, zσ⟩, iσ4⟩, rσ0, rσ1, rσ2, rσ3⟩, ⟨⟨⟨kβ, oβ, zβ⟩, nβ⟩, hrβ⟩, ⟨⟨⟨kκ, oκ, zκ⟩, nκ⟩, hrκ⟩⟩, ⟨⟨tq, hq⟩, ⟨⟨k5, o5, z5⟩, n5⟩, hw5⟩, hbx, hmc⟩ := id hS0
  have rκ := hrκ m0 hm
  obtain ⟨⟨⟨⟨kk, ok, zk⟩, ik0, rk1, rk2⟩, ⟨kka, oka, nka, zka⟩, hra⟩, ⟨td, hnD⟩, hcp⟩ := id (hmc m0 hm)
  have ktd := td.K
  have std := td.s
  have n8 := td.b.1
  have hw0 := hd2 0 (by omega)
  have hSle : S.2 ≤ 540 := by
    have := mx_vw_le (F 0) m0 b (mx_cC (F 0) m0 b) (mx_nD (F 0) m0) v0
    rw [← hS] at this
    omega
  refine mz_start (by decide) (Nat.le_of_ble_eq_true rfl) ?_
  intro p e s m args below meth c hC hret hnm
  refine mz_sn_ok hC tk_X5_different pk_RX5 1 [] rfl (by (repeat' apply And.intro) <;> first | exact True.intro | assumption | (simp only [mz_cm1, mz_c0, mz_c1, mz_c2, mz_c3, mz_c4, mz_c5, mz_c6, mz_c7, mz_c8, mz_c10, mz_c17, mz_c20, mz_c28, mz_c58, mz_c63, mz_c98, mz_c294, mz_c526, mz_c532, mz_c540, mz_c999, mz_c1900, mz_c2403, mz_c29362, mz_c29363, mz_c29364, mz_c29390, mz_c29393, mz_c29394, mz_c29398, mz_c29399, mz_c29400, mz_c29401, nI_add, pk_mul, pk_m1, mz_pp, mz_pq]; done) | omega | (simp only [mz_cm1, mz_c0, mz_c1, mz_c2, mz_c3, mz_c4, mz_c5, mz_c6, mz_c7, mz_c8, mz_c10, mz_c17, mz_c20, mz_c28, mz_c58, mz_c63, mz_c98, mz_c294, mz_c526, mz_c532, mz_c540, mz_c999, mz_c1900, mz_c2403, mz_c29362, mz_c29363, mz_c29364, mz_c29390, mz_c29393, mz_c29394, mz_c29398, mz_c29399, mz_c29400, mz_c29401, nI_add, pk_mul, pk_m1, mz_pp, mz_pq]; congr 1; omega)) ?_
  try simp only [mz_c0, mz_cm1]
  refine mz_Vcs hC tk_X5_different rfl md_X5_needMachine lk_RX5_138 rfl (cf_needMachine l E m0 hm) ⟨Nat.le_of_ble_eq_true rfl, Nat.le_of_ble_eq_true rfl⟩ ⟨by simp only [mz_rm]; omega, by simp only [mz_rm]; omega⟩ (Nat.le_of_ble_eq_true rfl) (fun v9 G9 sz9 hp9 => ?_)
  obtain ⟨rfl, hG9, hs9⟩ := hp9
  rw [hG9, ← hs9]
  refine mz_sn_ok hC tk_X5_different pk_RX5 1 [] rfl (by (repeat' apply And.intro) <;> first | exact True.intro | assumption | (simp only [mz_cm1, mz_c0, mz_c1, mz_c2, mz_c3, mz_c4, mz_c5, mz_c6, mz_c7, mz_c8, mz_c10, mz_c17, mz_c20, mz_c28, mz_c58, mz_c63, mz_c98, mz_c294, mz_c526, mz_c532, mz_c540, mz_c999, mz_c1900, mz_c2403, mz_c29362, mz_c29363, mz_c29364, mz_c29390, mz_c29393, mz_c29394, mz_c29398, mz_c29399, mz_c29400, mz_c29401, nI_add, pk_mul, pk_m1, mz_pp, mz_pq]; done) | omega | (simp only [mz_cm1, mz_c0, mz_c1, mz_c2, mz_c3, mz_c4, mz_c5, mz_c6, mz_c7, mz_c8, mz_c10, mz_c17, mz_c20, mz_c28, mz_c58, mz_c63, mz_c98, mz_c294, mz_c526, mz_c532, mz_c540, mz_c999, mz_c1900, mz_c2403, mz_c29362, mz_c29363, mz_c29364, mz_c29390, mz_c29393, mz_c29394, mz_c29398, mz_c29399, mz_c29400, mz_c29401, nI_add, pk_mul, pk_m1, mz_pp, mz_pq]; congr 1; omega)) ?_
  try simp only [mz_c0, mz_cm1]
  refine mz_Vcs hC tk_X5_different rfl md_X5_needBox lk_RX5_36 rfl (cf_needBox l E b hb) ⟨Nat.le_of_ble_eq_true rfl, Nat.le_of_ble_eq_true rfl⟩ ⟨by simp only [mz_rm]; omega, by simp only [mz_rm]; omega⟩ (Nat.le_of_ble_eq_true rfl) (fun v9 G9 sz9 hp9 => ?_)
  obtain ⟨rfl, hG8, hs8⟩ := hp9
  rw [hG8, ← hs8]
  refine mz_sn_ok hC tk_X5_different pk_RX5 8 [B 0, B 0 + 2, m0, B 0 + 21 + 13 * m0, ω + 75] rfl (by (repeat' apply And.intro) <;> first | exact True.intro | assumption | (simp only [mz_cm1, mz_c0, mz_c1, mz_c2, mz_c3, mz_c4, mz_c5, mz_c6, mz_c7, mz_c8, mz_c10, mz_c17, mz_c20, mz_c28, mz_c58, mz_c63, mz_c98, mz_c294, mz_c526, mz_c532, mz_c540, mz_c999, mz_c1900, mz_c2403, mz_c29362, mz_c29363, mz_c29364, mz_c29390, mz_c29393, mz_c29394, mz_c29398, mz_c29399, mz_c29400, mz_c29401, nI_add, pk_mul, pk_m1, mz_pp, mz_pq]; done) | omega | (simp only [mz_cm1, mz_c0, mz_c1, mz_c2, mz_c3, mz_c4, mz_c5, mz_c6, mz_c7, mz_c8, mz_c10, mz_c17, mz_c20, mz_c28, mz_c58, mz_c63, mz_c98, mz_c294, mz_c526, mz_c532, mz_c540, mz_c999, mz_c1900, mz_c2403, mz_c29362, mz_c29363, mz_c29364, mz_c29390, mz_c29393, mz_c29394, mz_c29398, mz_c29399, mz_c29400, mz_c29401, nI_add, pk_mul, pk_m1, mz_pp, mz_pq]; congr 1; omega)) ?_
  try simp only [mz_c0, mz_cm1]
  refine mz_Vcv hC tk_X5_different rfl md_X2_fillView lk_RX5_174 rfl (cd_fillView l E (hmc m0 hm) b hb vc1 vt1 (by omega) v0 S hS hcc) (by show (vwCl[mz_K _ _]?).map _ = _; rw [kk]; rfl) ⟨Nat.le_of_ble_eq_true rfl, Nat.le_of_ble_eq_true rfl⟩ ⟨by simp only [mz_rm]; omega, by simp only [mz_rm]; omega⟩ (Nat.le_of_ble_eq_true rfl) (fun v2 G2 sz2 hp2 => ?_)
  obtain ⟨rfl, O2, hV2, hF2⟩ := hp2
  have hM2 := hM.vw1 hF2 hV2 (mt_gr_cv vc1 hSle).1
  have hFF := hF2.mono (Y := mr_ZZ ω) (fun q z => by unfold mr_ZZ; omega)
  refine mz_V.widen (k' := U) (n' := U) (by omega) (by omega) ?_
  clear hF2 hU
  obtain ⟨⟨⟨⟨⟨kω2, -, -⟩, qω0, qω1, qω3, qω4⟩, -, -⟩, -, -⟩, -, hst2, -⟩ := id hM2
  have hS2 := hst2 0 (by omega)
  obtain ⟨⟨⟨⟨⟨kσ2, -, -⟩, -⟩, rσ20, rσ21, rσ22, rσ23⟩, ⟨⟨⟨kβ2, -, -⟩, nβ2⟩, hrβ2⟩, -⟩, -, hbx2, -⟩ := id hS2
  have rβ2 := hrβ2 b hb
  obtain ⟨⟨⟨⟨kb2, -, -⟩, -, -, -, -⟩, rb24, rb25, -⟩, -, -, -⟩ := id (hbx2 b hb)
  refine mz_sn_ok hC tk_X5_different pk_RX5 11 [B 0, B 0 + 1, b, B 0 + 6 + 5 * b, B 0 + 6 + 5 * b + 1] rfl (by (repeat' apply And.intro) <;> first | exact True.intro | assumption | (simp only [mz_cm1, mz_c0, mz_c1, mz_c2, mz_c3, mz_c4, mz_c5, mz_c6, mz_c7, mz_c8, mz_c10, mz_c17, mz_c20, mz_c28, mz_c58, mz_c63, mz_c98, mz_c294, mz_c526, mz_c532, mz_c540, mz_c999, mz_c1900, mz_c2403, mz_c29362, mz_c29363, mz_c29364, mz_c29390, mz_c29393, mz_c29394, mz_c29398, mz_c29399, mz_c29400, mz_c29401, nI_add, pk_mul, pk_m1, mz_pp, mz_pq]; done) | omega | (simp only [mz_cm1, mz_c0, mz_c1, mz_c2, mz_c3, mz_c4, mz_c5, mz_c6, mz_c7, mz_c8, mz_c10, mz_c17, mz_c20, mz_c28, mz_c58, mz_c63, mz_c98, mz_c294, mz_c526, mz_c532, mz_c540, mz_c999, mz_c1900, mz_c2403, mz_c29362, mz_c29363, mz_c29364, mz_c29390, mz_c29393, mz_c29394, mz_c29398, mz_c29399, mz_c29400, mz_c29401, nI_add, pk_mul, pk_m1, mz_pp, mz_pq]; congr 1; omega)) ?_
  try simp only [mz_c0, mz_cm1]
  exact cf_diff1 l E hC hret U hM2 S hV2 b hb (nI m0) ⟨rfl, O2, hM2, hFF⟩ S.2 0 0 (by omega) rfl
end MRF

