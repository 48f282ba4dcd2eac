/-! ===== the class: tables shift ===== -/
def mt_e (h : Nat → Nat → Int32) (k : Nat) : Nat → Nat → Int32 := fun r j => if r < k then h r j else h (r + 1) j
section MTT
variable (l : Launch) (E : mz_E) {G : mz_G} {O : Nat → Nat} {sz t W lim n len : Nat} {h : Nat → Nat → Int32}
theorem ct_erase (hT : mt_T G O sz t W lim n len h) (k : Nat) (hk : k < n) : mz_M l E yX4_erase cX4_erase 2 none 3 0 0 [.ref t, .int (nI k)] G sz (fun v' G' sz' => v' = none ∧ sz = sz' ∧ mt_T G' O sz t W lim (n - 1) len (mt_e h k) ∧ mt_F (fun q => q = t) G G' O O sz sz) := by
  obtain ⟨a, ⟨⟨hK, hw, hl, hs, hr⟩, hKa, hna, hOa, hOt, ht, ha⟩, ⟨b1, b2, b3, b4, b5⟩, hcell⟩ := hT
  refine mz_start (by decide) (Nat.le_of_ble_eq_true rfl) ?_
  intro p e s m args below meth c hC hret hnm
  have i2 : mz_n G a < 2147483648 := by rw [hna]; omega
  have hat : t ≠ a := fun z => by rw [z] at hK; omega
  have j1 : (k + 1) * W + (n - (k + 1)) * W = n * W := by rw [← Nat.add_mul]; congr 1; omega
  have j2 : k * W + W = (k + 1) * W := by rw [Nat.add_mul]; omega
  refine mz_sn_ok hC tk_X4_erase pk_RX4 1 [] rfl (by (repeat' apply And.intro) <;> first | exact True.intro | assumption | (simp only [mz_cm1, mz_c0, mz_c1, mz_c2, mz_c3, mz_c4, mz_c5, mz_c6, mz_c7, mz_c8, mz_c10, mz_c17, mz_c20, mz_c28, mz_c58, mz_c63, mz_c98, mz_c294, mz_c526, mz_c532, mz_c540, mz_c999, mz_c1900, mz_c2403, mz_c29362, mz_c29363, mz_c29364, mz_c29390, mz_c29393, mz_c29394, mz_c29398, mz_c29399, mz_c29400, mz_c29401, nI_add, pk_mul, pk_m1, mz_pp, mz_pq]; done) | omega | (simp only [mz_cm1, mz_c0, mz_c1, mz_c2, mz_c3, mz_c4, mz_c5, mz_c6, mz_c7, mz_c8, mz_c10, mz_c17, mz_c20, mz_c28, mz_c58, mz_c63, mz_c98, mz_c294, mz_c526, mz_c532, mz_c540, mz_c999, mz_c1900, mz_c2403, mz_c29362, mz_c29363, mz_c29364, mz_c29390, mz_c29393, mz_c29394, mz_c29398, mz_c29399, mz_c29400, mz_c29401, nI_add, pk_mul, pk_m1, mz_pp, mz_pq]; congr 1; omega)) ?_
  try simp only [mz_c0, mz_cm1]
  refine mz_br_f hC tk_X4_erase rfl ((by show ¬ nI k < 0; exact mz_n_lt (mz_nn k (by omega)))) ?_
  refine mz_sn_ok hC tk_X4_erase pk_RX4 3 [] rfl (by (repeat' apply And.intro) <;> first | exact True.intro | assumption | (simp only [mz_cm1, mz_c0, mz_c1, mz_c2, mz_c3, mz_c4, mz_c5, mz_c6, mz_c7, mz_c8, mz_c10, mz_c17, mz_c20, mz_c28, mz_c58, mz_c63, mz_c98, mz_c294, mz_c526, mz_c532, mz_c540, mz_c999, mz_c1900, mz_c2403, mz_c29362, mz_c29363, mz_c29364, mz_c29390, mz_c29393, mz_c29394, mz_c29398, mz_c29399, mz_c29400, mz_c29401, nI_add, pk_mul, pk_m1, mz_pp, mz_pq, hs]; done) | omega | (simp only [mz_cm1, mz_c0, mz_c1, mz_c2, mz_c3, mz_c4, mz_c5, mz_c6, mz_c7, mz_c8, mz_c10, mz_c17, mz_c20, mz_c28, mz_c58, mz_c63, mz_c98, mz_c294, mz_c526, mz_c532, mz_c540, mz_c999, mz_c1900, mz_c2403, mz_c29362, mz_c29363, mz_c29364, mz_c29390, mz_c29393, mz_c29394, mz_c29398, mz_c29399, mz_c29400, mz_c29401, nI_add, pk_mul, pk_m1, mz_pp, mz_pq, hs]; congr 1; omega)) ?_
  try simp only [mz_c0, mz_cm1, hs]
  refine mz_br_t hC tk_X4_erase rfl ((by show nI k < nI n; exact nI_lt (by omega) (by omega))) ?_
  refine mz_sn_ok hC tk_X4_erase pk_RX4 23 [a, a] rfl (by (repeat' apply And.intro) <;> first | exact True.intro | assumption | (simp only [mz_cm1, mz_c0, mz_c1, mz_c2, mz_c3, mz_c4, mz_c5, mz_c6, mz_c7, mz_c8, mz_c10, mz_c17, mz_c20, mz_c28, mz_c58, mz_c63, mz_c98, mz_c294, mz_c526, mz_c532, mz_c540, mz_c999, mz_c1900, mz_c2403, mz_c29362, mz_c29363, mz_c29364, mz_c29390, mz_c29393, mz_c29394, mz_c29398, mz_c29399, mz_c29400, mz_c29401, nI_add, pk_mul, pk_m1, mz_pp, mz_pq, hw, hs]; done) | omega | (simp only [mz_cm1, mz_c0, mz_c1, mz_c2, mz_c3, mz_c4, mz_c5, mz_c6, mz_c7, mz_c8, mz_c10, mz_c17, mz_c20, mz_c28, mz_c58, mz_c63, mz_c98, mz_c294, mz_c526, mz_c532, mz_c540, mz_c999, mz_c1900, mz_c2403, mz_c29362, mz_c29363, mz_c29364, mz_c29390, mz_c29393, mz_c29394, mz_c29398, mz_c29399, mz_c29400, mz_c29401, nI_add, pk_mul, pk_m1, mz_pp, mz_pq, hw, hs]; congr 1; omega)) ?_
  try simp only [mz_c0, mz_cm1, hw, hs]
  refine mz_Vacopy hC tk_X4_erase rfl lk_RX4_43 ((k + 1) * W) (k * W) ((n - (k + 1)) * W) (by simp only [mz_cm1, mz_c0, mz_c1, mz_c2, mz_c3, mz_c4, mz_c5, mz_c6, mz_c7, mz_c8, mz_c10, mz_c17, mz_c20, mz_c28, mz_c58, mz_c63, mz_c98, mz_c294, mz_c526, mz_c532, mz_c540, mz_c999, mz_c1900, mz_c2403, mz_c29362, mz_c29363, mz_c29364, mz_c29390, mz_c29393, mz_c29394, mz_c29398, mz_c29399, mz_c29400, mz_c29401, nI_add, pk_mul, pk_m1, mz_pp, mz_pq]) (by simp only [mz_cm1, mz_c0, mz_c1, mz_c2, mz_c3, mz_c4, mz_c5, mz_c6, mz_c7, mz_c8, mz_c10, mz_c17, mz_c20, mz_c28, mz_c58, mz_c63, mz_c98, mz_c294, mz_c526, mz_c532, mz_c540, mz_c999, mz_c1900, mz_c2403, mz_c29362, mz_c29363, mz_c29364, mz_c29390, mz_c29393, mz_c29394, mz_c29398, mz_c29399, mz_c29400, mz_c29401, nI_add, pk_mul, pk_m1, mz_pp, mz_pq]) ?_ hKa hKa (by rw [hna]; omega) (by rw [hna]; omega) i2 i2 (Nat.le_of_ble_eq_true rfl) (Nat.le_of_ble_eq_true rfl) ?_
  · rw [mz_subI (by omega), mz_c1, mz_subI (by omega), pk_mul, Nat.sub_sub]
  have hs2 : mz_i (mz_sa G a (va_cpy (mz_i G a) (mz_i G a) ((k + 1) * W) (k * W) ((n - (k + 1)) * W))) t 2 = nI n := by
    show mz_u1 (mz_i G) a _ t 2 = nI n
    simp only [mz_u1]
    rw [if_neg hat, hs]
  refine mz_sn_ok hC tk_X4_erase pk_RX4 6 [] rfl (by (repeat' apply And.intro) <;> first | exact True.intro | assumption | (simp only [mz_cm1, mz_c0, mz_c1, mz_c2, mz_c3, mz_c4, mz_c5, mz_c6, mz_c7, mz_c8, mz_c10, mz_c17, mz_c20, mz_c28, mz_c58, mz_c63, mz_c98, mz_c294, mz_c526, mz_c532, mz_c540, mz_c999, mz_c1900, mz_c2403, mz_c29362, mz_c29363, mz_c29364, mz_c29390, mz_c29393, mz_c29394, mz_c29398, mz_c29399, mz_c29400, mz_c29401, nI_add, pk_mul, pk_m1, mz_pp, mz_pq, hs2]; done) | omega | (simp only [mz_cm1, mz_c0, mz_c1, mz_c2, mz_c3, mz_c4, mz_c5, mz_c6, mz_c7, mz_c8, mz_c10, mz_c17, mz_c20, mz_c28, mz_c58, mz_c63, mz_c98, mz_c294, mz_c526, mz_c532, mz_c540, mz_c999, mz_c1900, mz_c2403, mz_c29362, mz_c29363, mz_c29364, mz_c29390, mz_c29393, mz_c29394, mz_c29398, mz_c29399, mz_c29400, mz_c29401, nI_add, pk_mul, pk_m1, mz_pp, mz_pq, hs2]; congr 1; omega)) ?_
  try simp only [mz_c0, mz_cm1, hs2]
  refine mz_Vreturn hC tk_X4_erase rfl hret (Nat.le_of_ble_eq_true rfl) (Nat.le_of_ble_eq_true rfl) ?_
  have hn1 : nI n - mz_c 1 = nI (n - 1) := by rw [mz_c1, mz_subI (by omega)]
  refine ⟨rfl, rfl, ⟨a, ⟨⟨hK, ?_, ?_, ?_, hr⟩, hKa, hna, hOa, hOt, ht, ha⟩, ⟨?_, by omega, b3, b4, b5⟩, fun k' j' h1 h2 => ?_⟩, Nat.le_refl _, fun q hq => ⟨rfl, fun hX => ⟨rfl, rfl, ?_, rfl, rfl⟩⟩⟩
  · show mz_u2 (mz_u1 (mz_i G) a _) t 2 _ t 0 = nI W
    rw [mz_u2_j _ _ _ _ (by omega)]
    simp only [mz_u1]
    rw [if_neg hat, hw]
  · show mz_u2 (mz_u1 (mz_i G) a _) t 2 _ t 1 = nI lim
    rw [mz_u2_j _ _ _ _ (by omega)]
    simp only [mz_u1]
    rw [if_neg hat, hl]
  · show mz_u2 (mz_u1 (mz_i G) a _) t 2 _ t 2 = nI (n - 1)
    rw [mz_u2_s]
    exact hn1
  · have : (n - 1) * W ≤ n * W := Nat.mul_le_mul_right W (by omega)
    omega
  · show mz_u2 (mz_u1 (mz_i G) a _) t 2 _ a (k' * W + j') = mt_e h k k' j'
    rw [mz_u2_a _ _ _ _ (Ne.symm hat)]
    simp only [mz_u1, if_true, va_cpy, mt_e]
    have q1 : (k' + 1) * W = k' * W + W := by rw [Nat.add_mul]; omega
    by_cases hlt : k' < k
    · have q2 : (k' + 1) * W ≤ k * W := Nat.mul_le_mul_right W hlt
      rw [if_pos hlt, if_neg (by omega)]
      exact hcell k' j' (by omega) h2
    · have q2 : k * W ≤ k' * W := Nat.mul_le_mul_right W (by omega)
      have q3 : (k' + 1) * W ≤ (n - 1) * W := Nat.mul_le_mul_right W (by omega)
      have q4 : k * W + (n - (k + 1)) * W = (n - 1) * W := by rw [← Nat.add_mul]; congr 1; omega
      rw [if_neg hlt, if_pos (by omega), show (k + 1) * W + (k' * W + j' - k * W) = (k' + 1) * W + j' by omega]
      exact hcell (k' + 1) j' (by omega) h2
  · funext i
    show mz_u2 (mz_u1 (mz_i G) a _) t 2 _ q i = mz_i G q i
    rw [mz_u2_a _ _ _ _ (fun z => hX (by rw [z]; exact hOt))]
    simp only [mz_u1]
    rw [if_neg (fun z => hX (by rw [z]; exact hOa))]
theorem ct_erase_no (hT : mt_T G O sz t W lim n len h) : mz_M l E yX4_erase cX4_erase 2 none 3 0 0 [.ref t, .int (-1)] G sz (fun v' G' sz' => v' = none ∧ G' = G ∧ sz = sz') := by
  refine mz_start (by decide) (Nat.le_of_ble_eq_true rfl) ?_
  intro p e s m args below meth c hC hret hnm
  refine mz_sn_ok hC tk_X4_erase pk_RX4 1 [] rfl (by (repeat' apply And.intro) <;> first | exact True.intro | assumption | (simp only [mz_cm1, mz_c0, mz_c1, mz_c2, mz_c3, mz_c4, mz_c5, mz_c6, mz_c7, mz_c8, mz_c10, mz_c17, mz_c20, mz_c28, mz_c58, mz_c63, mz_c98, mz_c294, mz_c526, mz_c532, mz_c540, mz_c999, mz_c1900, mz_c2403, mz_c29362, mz_c29363, mz_c29364, mz_c29390, mz_c29393, mz_c29394, mz_c29398, mz_c29399, mz_c29400, mz_c29401, nI_add, pk_mul, pk_m1, mz_pp, mz_pq]; done) | omega | (simp only [mz_cm1, mz_c0, mz_c1, mz_c2, mz_c3, mz_c4, mz_c5, mz_c6, mz_c7, mz_c8, mz_c10, mz_c17, mz_c20, mz_c28, mz_c58, mz_c63, mz_c98, mz_c294, mz_c526, mz_c532, mz_c540, mz_c999, mz_c1900, mz_c2403, mz_c29362, mz_c29363, mz_c29364, mz_c29390, mz_c29393, mz_c29394, mz_c29398, mz_c29399, mz_c29400, mz_c29401, nI_add, pk_mul, pk_m1, mz_pp, mz_pq]; congr 1; omega)) ?_
  try simp only [mz_c0, mz_cm1]
  refine mz_br_t hC tk_X4_erase rfl ((by show (-1 : Int32) < 0; decide)) ?_
  refine mz_Vreturn hC tk_X4_erase rfl hret (Nat.le_of_ble_eq_true rfl) (Nat.le_of_ble_eq_true rfl) ?_
  exact ⟨rfl, rfl, rfl⟩
end MTT

