/-! ===== the class: a table opens a row ===== -/
/-- the room of a table after a row more; what that costs -/
def mt_gl (W lim n len : Nat) : Nat := if (n + 1) * W ≤ len then len else min lim (2 * (n + 1)) * W
def mt_gs (W lim n len : Nat) : Nat := if (n + 1) * W ≤ len then 0 else min lim (2 * (n + 1)) * W
def mt_gc (W n len : Nat) : Nat := if (n + 1) * W ≤ len then 0 else 1
def mt_o (h : Nat → Nat → Int32) (k : Nat) : Nat → Nat → Int32 := fun r j => if r < k then h r j else if r = k then 0 else h (r - 1) j
theorem mz_sa_si (G : mz_G) (a j : Nat) (f : Nat → Int32) (v : Int32) : mz_si (mz_sa G a f) a j v = mz_sa G a (mz_u1 f j v) := by
  refine Prod.ext rfl (Prod.ext rfl (Prod.ext ?_ (Prod.ext rfl rfl)))
  funext q i
  show mz_u2 (mz_u1 (mz_i G) a f) a j v q i = mz_u1 (mz_i G) a (mz_u1 f j v) q i
  by_cases hq : q = a
  · subst hq
    simp only [mz_u2, mz_u1, if_true]
  · simp only [mz_u2, mz_u1, if_neg hq]
def mt_z (g : Nat → Int32) (b d : Nat) : Nat → Int32 := fun i => if b ≤ i ∧ i < b + d then 0 else g i
theorem mt_z_s (g : Nat → Int32) (b d : Nat) : mz_u1 (mt_z g b d) (b + d) (nI 0) = mt_z g b (d + 1) := by
  rw [nI_0]
  funext i
  simp only [mz_u1, mt_z]
  by_cases h : i = b + d
  · rw [if_pos h, if_pos (by omega)]
  · rw [if_neg h]
    by_cases h2 : b ≤ i ∧ i < b + d
    · rw [if_pos h2, if_pos (by omega)]
    · rw [if_neg h2, if_neg (by omega)]
section MTT
variable (l : Launch) (E : mz_E) {G : mz_G} {O : Nat → Nat} {sz t W lim n len : Nat} {h : Nat → Nat → Int32}
theorem ct_open (hT : mt_T G O sz t W lim n len h) (k : Nat) (hk : k ≤ n) (hn : n < lim) : mz_M l E yX4_open cX4_open 3 (some .boolean) 4 (mt_gc W n len) (mt_gs W lim n len) [.ref t, .int (nI k)] G sz (fun v' G' sz' => v' = some (.int 1) ∧ sz + mt_gc W n len = sz' ∧ ∃ O', mt_T G' O' sz' t W lim (n + 1) (mt_gl W lim n len) (mt_o h k) ∧ mt_F (fun q => q = t) G G' O O' sz sz') := by
  obtain ⟨a, ⟨⟨hK, hw, hl, hs, hr⟩, hKa, hna, hOa, hOt, ht, ha⟩, ⟨b1, b2, b3, b4, b5⟩, hcell⟩ := hT
  refine mz_start (by decide) (Nat.le_of_ble_eq_true rfl) ?_
  intro p e s m args below meth c hC hret hnm
  have j1 : k * W + (n - k) * W = n * W := by rw [← Nat.add_mul]; congr 1; omega
  have j2 : (k + 1) * W + (n - k) * W = (n + 1) * W := by rw [← Nat.add_mul]; congr 1; omega
  have j3 : (k + 1) * W = k * W + W := by rw [Nat.add_mul]; omega
  have j4 : (n + 1) * W = n * W + W := by rw [Nat.add_mul]; omega
  have tail : ∀ (G1 : mz_G) (a1 sz1 kc ns : Nat) (O1 : Nat → Nat), kc ≤ mt_gc W n len → ns ≤ mt_gs W lim n len → sz1 = sz + mt_gc W n len → ((mz_K G1 t = 4 ∧ mz_i G1 t 0 = nI W ∧ mz_i G1 t 1 = nI lim ∧ mz_i G1 t 2 = nI n ∧ mz_r G1 t 3 = some a1) ∧ (mz_K G1 a1 = 7 ∧ mz_n G1 a1 = mt_gl W lim n len ∧ O1 a1 = t ∧ O1 t = t ∧ t < sz1 ∧ a1 < sz1)) → (n + 1) * W ≤ mt_gl W lim n len → mt_gl W lim n len < 100000 → (∀ k j, k < n → j < W → mz_i G1 a1 (k * W + j) = h k j) → mt_F (fun q => q = t) G G1 O O1 sz sz1 → mz_V E p l e (mz_rm 4 (mt_gc W n len) (mt_gs W lim n len)) s m args below meth c 3 (kc) (ns) (mz_Z E below args s (mt_gc W n len) (mt_gs W lim n len) (fun v' G' sz' => v' = some (.int 1) ∧ sz + mt_gc W n len = sz' ∧ ∃ O', mt_T G' O' sz' t W lim (n + 1) (mt_gl W lim n len) (mt_o h k) ∧ mt_F (fun q => q = t) G G' O O' sz sz')) (G1) (sz1) (75) [some (.ref t), some (.int (nI k))] [] := by
    intro G1 a1 sz1 kc ns O1 hkc hns hsz1 hfac hlen hl5 hcell1 hF
    obtain ⟨⟨hK1, hw1, hl1, hs1, hr1⟩, hKa1, hna1, hOa1, hOt1, ht1, ha1⟩ := hfac
    have i2 : mz_n G1 a1 < 2147483648 := by rw [hna1]; omega
    have hat : t ≠ a1 := fun z => by rw [z] at hK1; omega
    have e0 : ∀ f j, mz_i (mz_sa G1 a1 f) t j = mz_i G1 t j := fun f j => by show mz_u1 (mz_i G1) a1 f t j = _; simp only [mz_u1]; rw [if_neg hat]
    refine mz_sn_ok hC tk_X4_open pk_RX4 21 [a1, a1] rfl (by (repeat' apply And.intro) <;> first | exact True.intro | assumption | (simp only [mz_cm1, mz_c0, mz_c1, mz_c2, mz_c3, mz_c4, mz_c5, mz_c6, mz_c7, mz_c8, mz_c10, mz_c17, mz_c20, mz_c28, mz_c58, mz_c63, mz_c98, mz_c294, mz_c526, mz_c532, mz_c540, mz_c999, mz_c1900, mz_c2403, mz_c29362, mz_c29363, mz_c29364, mz_c29390, mz_c29393, mz_c29394, mz_c29398, mz_c29399, mz_c29400, mz_c29401, nI_add, pk_mul, pk_m1, mz_pp, mz_pq, hw1, hs1]; done) | omega | (simp only [mz_cm1, mz_c0, mz_c1, mz_c2, mz_c3, mz_c4, mz_c5, mz_c6, mz_c7, mz_c8, mz_c10, mz_c17, mz_c20, mz_c28, mz_c58, mz_c63, mz_c98, mz_c294, mz_c526, mz_c532, mz_c540, mz_c999, mz_c1900, mz_c2403, mz_c29362, mz_c29363, mz_c29364, mz_c29390, mz_c29393, mz_c29394, mz_c29398, mz_c29399, mz_c29400, mz_c29401, nI_add, pk_mul, pk_m1, mz_pp, mz_pq, hw1, hs1]; congr 1; omega)) ?_
    try simp only [mz_c0, mz_cm1, hw1, hs1]
    refine mz_Vacopy hC tk_X4_open rfl lk_RX4_43 (k * W) ((k + 1) * W) ((n - k) * W) (by simp only [mz_cm1, mz_c0, mz_c1, mz_c2, mz_c3, mz_c4, mz_c5, mz_c6, mz_c7, mz_c8, mz_c10, mz_c17, mz_c20, mz_c28, mz_c58, mz_c63, mz_c98, mz_c294, mz_c526, mz_c532, mz_c540, mz_c999, mz_c1900, mz_c2403, mz_c29362, mz_c29363, mz_c29364, mz_c29390, mz_c29393, mz_c29394, mz_c29398, mz_c29399, mz_c29400, mz_c29401, nI_add, pk_mul, pk_m1, mz_pp, mz_pq]) (by simp only [mz_cm1, mz_c0, mz_c1, mz_c2, mz_c3, mz_c4, mz_c5, mz_c6, mz_c7, mz_c8, mz_c10, mz_c17, mz_c20, mz_c28, mz_c58, mz_c63, mz_c98, mz_c294, mz_c526, mz_c532, mz_c540, mz_c999, mz_c1900, mz_c2403, mz_c29362, mz_c29363, mz_c29364, mz_c29390, mz_c29393, mz_c29394, mz_c29398, mz_c29399, mz_c29400, mz_c29401, nI_add, pk_mul, pk_m1, mz_pp, mz_pq]) (by rw [mz_subI (by omega), pk_mul]) hKa1 hKa1 (by rw [hna1]; omega) (by rw [hna1]; omega) i2 i2 (Nat.le_of_ble_eq_true rfl) (Nat.le_of_ble_eq_true rfl) ?_
    obtain ⟨g, hg⟩ : ∃ g, g = va_cpy (mz_i G1 a1) (mz_i G1 a1) (k * W) ((k + 1) * W) ((n - k) * W) := ⟨_, rfl⟩
    rw [← hg]
    have loop : ∀ (d q : Nat), q + d = W → mz_V E p l e (mz_rm 4 (mt_gc W n len) (mt_gs W lim n len)) s m args below meth c 3 (kc) (ns) (mz_Z E below args s (mt_gc W n len) (mt_gs W lim n len) (fun v' G' sz' => v' = some (.int 1) ∧ sz + mt_gc W n len = sz' ∧ ∃ O', mt_T G' O' sz' t W lim (n + 1) (mt_gl W lim n len) (mt_o h k) ∧ mt_F (fun q => q = t) G G' O O' sz sz')) (mz_sa G1 a1 (mt_z g (k * W) q)) (sz1) (113) [some (.ref t), some (.int (nI k)), some (.int (nI q))] [] := by
      intro d
      induction d with
      | zero =>
        intro q hq
        have w0 := (e0 (mt_z g (k * W) q) 0).trans hw1
        have s0 := (e0 (mt_z g (k * W) q) 2).trans hs1
        refine mz_sn_ok hC tk_X4_open pk_RX4 3 [] rfl (by (repeat' apply And.intro) <;> first | exact True.intro | assumption | (simp only [mz_cm1, mz_c0, mz_c1, mz_c2, mz_c3, mz_c4, mz_c5, mz_c6, mz_c7, mz_c8, mz_c10, mz_c17, mz_c20, mz_c28, mz_c58, mz_c63, mz_c98, mz_c294, mz_c526, mz_c532, mz_c540, mz_c999, mz_c1900, mz_c2403, mz_c29362, mz_c29363, mz_c29364, mz_c29390, mz_c29393, mz_c29394, mz_c29398, mz_c29399, mz_c29400, mz_c29401, nI_add, pk_mul, pk_m1, mz_pp, mz_pq, w0]; done) | omega | (simp only [mz_cm1, mz_c0, mz_c1, mz_c2, mz_c3, mz_c4, mz_c5, mz_c6, mz_c7, mz_c8, mz_c10, mz_c17, mz_c20, mz_c28, mz_c58, mz_c63, mz_c98, mz_c294, mz_c526, mz_c532, mz_c540, mz_c999, mz_c1900, mz_c2403, mz_c29362, mz_c29363, mz_c29364, mz_c29390, mz_c29393, mz_c29394, mz_c29398, mz_c29399, mz_c29400, mz_c29401, nI_add, pk_mul, pk_m1, mz_pp, mz_pq, w0]; congr 1; omega)) ?_
        try simp only [mz_c0, mz_cm1, w0]
        refine mz_br_t hC tk_X4_open rfl ((by show nI W ≤ nI q; exact nI_le (by omega) (by omega))) ?_
        refine mz_sn_ok hC tk_X4_open pk_RX4 7 [] rfl (by (repeat' apply And.intro) <;> first | exact True.intro | assumption | (simp only [mz_cm1, mz_c0, mz_c1, mz_c2, mz_c3, mz_c4, mz_c5, mz_c6, mz_c7, mz_c8, mz_c10, mz_c17, mz_c20, mz_c28, mz_c58, mz_c63, mz_c98, mz_c294, mz_c526, mz_c532, mz_c540, mz_c999, mz_c1900, mz_c2403, mz_c29362, mz_c29363, mz_c29364, mz_c29390, mz_c29393, mz_c29394, mz_c29398, mz_c29399, mz_c29400, mz_c29401, nI_add, pk_mul, pk_m1, mz_pp, mz_pq, s0]; done) | omega | (simp only [mz_cm1, mz_c0, mz_c1, mz_c2, mz_c3, mz_c4, mz_c5, mz_c6, mz_c7, mz_c8, mz_c10, mz_c17, mz_c20, mz_c28, mz_c58, mz_c63, mz_c98, mz_c294, mz_c526, mz_c532, mz_c540, mz_c999, mz_c1900, mz_c2403, mz_c29362, mz_c29363, mz_c29364, mz_c29390, mz_c29393, mz_c29394, mz_c29398, mz_c29399, mz_c29400, mz_c29401, nI_add, pk_mul, pk_m1, mz_pp, mz_pq, s0]; congr 1; omega)) ?_
        try simp only [mz_c0, mz_cm1, s0]
        refine mz_Vireturn hC tk_X4_open rfl hret mz_nb1 hkc hns ?_
        refine ⟨rfl, hsz1.symm, O1, ⟨a1, ⟨⟨hK1, ?_, ?_, ?_, hr1⟩, hKa1, hna1, hOa1, hOt1, ht1, ha1⟩, ⟨hlen, by omega, hl5, b4, b5⟩, fun k' j' h1 h2 => ?_⟩, hF.tr ⟨Nat.le_refl _, fun z hz => ⟨rfl, fun hX => ⟨rfl, rfl, ?_, rfl, rfl⟩⟩⟩⟩
        · show mz_u2 (mz_u1 (mz_i G1) a1 _) t 2 _ t 0 = nI W
          rw [mz_u2_j _ _ _ _ (by omega)]
          exact w0
        · show mz_u2 (mz_u1 (mz_i G1) a1 _) t 2 _ t 1 = nI lim
          rw [mz_u2_j _ _ _ _ (by omega)]
          exact (e0 _ 1).trans hl1
        · show mz_u2 (mz_u1 (mz_i G1) a1 _) t 2 _ t 2 = nI (n + 1)
          rw [mz_u2_s, mz_c1, nI_add]
        · show mz_u2 (mz_u1 (mz_i G1) a1 _) t 2 _ a1 (k' * W + j') = mt_o h k k' j'
          rw [mz_u2_a _ _ _ _ (Ne.symm hat)]
          simp only [mz_u1, if_true, mt_z, mt_o]
          rw [hg]
          simp only [va_cpy]
          have q1 : (k' + 1) * W = k' * W + W := by rw [Nat.add_mul]; omega
          by_cases hlt : k' < k
          · have q2 : (k' + 1) * W ≤ k * W := Nat.mul_le_mul_right W hlt
            rw [if_pos hlt, if_neg (by omega), if_neg (by omega)]
            exact hcell1 k' j' (by omega) h2
          · rw [if_neg hlt]
            by_cases heq : k' = k
            · subst heq
              rw [if_pos (by omega), if_pos rfl]
            · obtain ⟨k2, rfl⟩ : ∃ k2, k' = k2 + 1 := ⟨k' - 1, by omega⟩
              have q2 : (k + 1) * W ≤ (k2 + 1) * W := Nat.mul_le_mul_right W (by omega)
              have q3 : (k2 + 1 + 1) * W ≤ (n + 1) * W := Nat.mul_le_mul_right W (by omega)
              have q4 : (k2 + 1) * W = k2 * W + W := by rw [Nat.add_mul]; omega
              rw [if_neg heq, if_neg (by omega), if_pos (by omega), show k * W + ((k2 + 1) * W + j' - (k + 1) * W) = k2 * W + j' by omega]
              exact hcell1 k2 j' (by omega) h2
        · funext i
          show mz_u2 (mz_u1 (mz_i G1) a1 _) t 2 _ z i = mz_i G1 z i
          rw [mz_u2_a _ _ _ _ (fun y => hX (by rw [y]; exact hOt1))]
          simp only [mz_u1]
          rw [if_neg (fun y => hX (by rw [y]; exact hOa1))]
      | succ d ih =>
        intro q hq
        have w0 := (e0 (mt_z g (k * W) q) 0).trans hw1
        have i1 : k * W + q < mz_n (mz_sa G1 a1 (mt_z g (k * W) q)) a1 := by show _ < mz_n G1 a1; rw [hna1]; omega
        refine mz_sn_ok hC tk_X4_open pk_RX4 3 [] rfl (by (repeat' apply And.intro) <;> first | exact True.intro | assumption | (simp only [mz_cm1, mz_c0, mz_c1, mz_c2, mz_c3, mz_c4, mz_c5, mz_c6, mz_c7, mz_c8, mz_c10, mz_c17, mz_c20, mz_c28, mz_c58, mz_c63, mz_c98, mz_c294, mz_c526, mz_c532, mz_c540, mz_c999, mz_c1900, mz_c2403, mz_c29362, mz_c29363, mz_c29364, mz_c29390, mz_c29393, mz_c29394, mz_c29398, mz_c29399, mz_c29400, mz_c29401, nI_add, pk_mul, pk_m1, mz_pp, mz_pq, w0]; done) | omega | (simp only [mz_cm1, mz_c0, mz_c1, mz_c2, mz_c3, mz_c4, mz_c5, mz_c6, mz_c7, mz_c8, mz_c10, mz_c17, mz_c20, mz_c28, mz_c58, mz_c63, mz_c98, mz_c294, mz_c526, mz_c532, mz_c540, mz_c999, mz_c1900, mz_c2403, mz_c29362, mz_c29363, mz_c29364, mz_c29390, mz_c29393, mz_c29394, mz_c29398, mz_c29399, mz_c29400, mz_c29401, nI_add, pk_mul, pk_m1, mz_pp, mz_pq, w0]; congr 1; omega)) ?_
        try simp only [mz_c0, mz_cm1, w0]
        refine mz_br_f hC tk_X4_open rfl ((by show ¬ nI W ≤ nI q; exact nI_ge (by omega) (by omega))) ?_
        refine mz_sn_ok hC tk_X4_open pk_RX4 12 [a1, k * W + q] rfl (by (repeat' apply And.intro) <;> first | exact True.intro | assumption | (simp only [mz_cm1, mz_c0, mz_c1, mz_c2, mz_c3, mz_c4, mz_c5, mz_c6, mz_c7, mz_c8, mz_c10, mz_c17, mz_c20, mz_c28, mz_c58, mz_c63, mz_c98, mz_c294, mz_c526, mz_c532, mz_c540, mz_c999, mz_c1900, mz_c2403, mz_c29362, mz_c29363, mz_c29364, mz_c29390, mz_c29393, mz_c29394, mz_c29398, mz_c29399, mz_c29400, mz_c29401, nI_add, pk_mul, pk_m1, mz_pp, mz_pq, w0, mz_sa_si, mt_z_s]; done) | omega | (simp only [mz_cm1, mz_c0, mz_c1, mz_c2, mz_c3, mz_c4, mz_c5, mz_c6, mz_c7, mz_c8, mz_c10, mz_c17, mz_c20, mz_c28, mz_c58, mz_c63, mz_c98, mz_c294, mz_c526, mz_c532, mz_c540, mz_c999, mz_c1900, mz_c2403, mz_c29362, mz_c29363, mz_c29364, mz_c29390, mz_c29393, mz_c29394, mz_c29398, mz_c29399, mz_c29400, mz_c29401, nI_add, pk_mul, pk_m1, mz_pp, mz_pq, w0, mz_sa_si, mt_z_s]; congr 1; omega)) ?_
        try simp only [mz_c0, mz_cm1, w0, mz_sa_si, mt_z_s]
        refine mz_V.sub (lv' := [some (.ref t), some (.int (nI k)), some (.int (nI (q + 1)))]) (by (repeat' apply And.intro) <;> first | with_reducible rfl | exact True.intro | (simp only [mz_cm1, mz_c0, mz_c1, mz_c2, mz_c3, mz_c4, mz_c5, mz_c6, mz_c7, mz_c8, mz_c10, mz_c17, mz_c20, mz_c28, mz_c58, mz_c63, mz_c98, mz_c294, mz_c526, mz_c532, mz_c540, mz_c999, mz_c1900, mz_c2403, mz_c29362, mz_c29363, mz_c29364, mz_c29390, mz_c29393, mz_c29394, mz_c29398, mz_c29399, mz_c29400, mz_c29401, nI_add, pk_mul, pk_m1, mz_pp, mz_pq]; done) | rfl) ?_
        exact ih (q + 1) (by omega)
    refine mz_sn_ok hC tk_X4_open pk_RX4 2 [] rfl (by (repeat' apply And.intro) <;> first | exact True.intro | assumption | (simp only [mz_cm1, mz_c0, mz_c1, mz_c2, mz_c3, mz_c4, mz_c5, mz_c6, mz_c7, mz_c8, mz_c10, mz_c17, mz_c20, mz_c28, mz_c58, mz_c63, mz_c98, mz_c294, mz_c526, mz_c532, mz_c540, mz_c999, mz_c1900, mz_c2403, mz_c29362, mz_c29363, mz_c29364, mz_c29390, mz_c29393, mz_c29394, mz_c29398, mz_c29399, mz_c29400, mz_c29401, nI_add, pk_mul, pk_m1, mz_pp, mz_pq]; done) | omega | (simp only [mz_cm1, mz_c0, mz_c1, mz_c2, mz_c3, mz_c4, mz_c5, mz_c6, mz_c7, mz_c8, mz_c10, mz_c17, mz_c20, mz_c28, mz_c58, mz_c63, mz_c98, mz_c294, mz_c526, mz_c532, mz_c540, mz_c999, mz_c1900, mz_c2403, mz_c29362, mz_c29363, mz_c29364, mz_c29390, mz_c29393, mz_c29394, mz_c29398, mz_c29399, mz_c29400, mz_c29401, nI_add, pk_mul, pk_m1, mz_pp, mz_pq]; congr 1; omega)) ?_
    try simp only [mz_c0, mz_cm1]
    refine mz_V.sub (lv' := [some (.ref t), some (.int (nI k)), some (.int (nI 0))]) (by (repeat' apply And.intro) <;> first | with_reducible rfl | exact True.intro | (simp only [mz_cm1, mz_c0, mz_c1, mz_c2, mz_c3, mz_c4, mz_c5, mz_c6, mz_c7, mz_c8, mz_c10, mz_c17, mz_c20, mz_c28, mz_c58, mz_c63, mz_c98, mz_c294, mz_c526, mz_c532, mz_c540, mz_c999, mz_c1900, mz_c2403, mz_c29362, mz_c29363, mz_c29364, mz_c29390, mz_c29393, mz_c29394, mz_c29398, mz_c29399, mz_c29400, mz_c29401, nI_add, pk_mul, pk_m1, mz_pp, mz_pq]; done) | rfl) ?_
    have := loop W 0 (by omega)
    rw [show mt_z g (k * W) 0 = g from by funext i; simp only [mt_z]; rw [if_neg (by omega)]] at this
    exact this
  refine mz_sn_ok hC tk_X4_open pk_RX4 1 [] rfl (by (repeat' apply And.intro) <;> first | exact True.intro | assumption | (simp only [mz_cm1, mz_c0, mz_c1, mz_c2, mz_c3, mz_c4, mz_c5, mz_c6, mz_c7, mz_c8, mz_c10, mz_c17, mz_c20, mz_c28, mz_c58, mz_c63, mz_c98, mz_c294, mz_c526, mz_c532, mz_c540, mz_c999, mz_c1900, mz_c2403, mz_c29362, mz_c29363, mz_c29364, mz_c29390, mz_c29393, mz_c29394, mz_c29398, mz_c29399, mz_c29400, mz_c29401, nI_add, pk_mul, pk_m1, mz_pp, mz_pq]; done) | omega | (simp only [mz_cm1, mz_c0, mz_c1, mz_c2, mz_c3, mz_c4, mz_c5, mz_c6, mz_c7, mz_c8, mz_c10, mz_c17, mz_c20, mz_c28, mz_c58, mz_c63, mz_c98, mz_c294, mz_c526, mz_c532, mz_c540, mz_c999, mz_c1900, mz_c2403, mz_c29362, mz_c29363, mz_c29364, mz_c29390, mz_c29393, mz_c29394, mz_c29398, mz_c29399, mz_c29400, mz_c29401, nI_add, pk_mul, pk_m1, mz_pp, mz_pq]; congr 1; omega)) ?_
  try simp only [mz_c0, mz_cm1]
  refine mz_br_f hC tk_X4_open rfl ((by show ¬ nI k < 0; exact mz_n_lt (mz_nn k (by omega)))) ?_
  refine mz_sn_ok hC tk_X4_open pk_RX4 3 [] rfl (by (repeat' apply And.intro) <;> first | exact True.intro | assumption | (simp only [mz_cm1, mz_c0, mz_c1, mz_c2, mz_c3, mz_c4, mz_c5, mz_c6, mz_c7, mz_c8, mz_c10, mz_c17, mz_c20, mz_c28, mz_c58, mz_c63, mz_c98, mz_c294, mz_c526, mz_c532, mz_c540, mz_c999, mz_c1900, mz_c2403, mz_c29362, mz_c29363, mz_c29364, mz_c29390, mz_c29393, mz_c29394, mz_c29398, mz_c29399, mz_c29400, mz_c29401, nI_add, pk_mul, pk_m1, mz_pp, mz_pq, hs]; done) | omega | (simp only [mz_cm1, mz_c0, mz_c1, mz_c2, mz_c3, mz_c4, mz_c5, mz_c6, mz_c7, mz_c8, mz_c10, mz_c17, mz_c20, mz_c28, mz_c58, mz_c63, mz_c98, mz_c294, mz_c526, mz_c532, mz_c540, mz_c999, mz_c1900, mz_c2403, mz_c29362, mz_c29363, mz_c29364, mz_c29390, mz_c29393, mz_c29394, mz_c29398, mz_c29399, mz_c29400, mz_c29401, nI_add, pk_mul, pk_m1, mz_pp, mz_pq, hs]; congr 1; omega)) ?_
  try simp only [mz_c0, mz_cm1, hs]
  refine mz_br_f hC tk_X4_open rfl ((by show ¬ nI n < nI k; exact nI_nlt (by omega) (by omega))) ?_
  refine mz_sn_ok hC tk_X4_open pk_RX4 4 [] rfl (by (repeat' apply And.intro) <;> first | exact True.intro | assumption | (simp only [mz_cm1, mz_c0, mz_c1, mz_c2, mz_c3, mz_c4, mz_c5, mz_c6, mz_c7, mz_c8, mz_c10, mz_c17, mz_c20, mz_c28, mz_c58, mz_c63, mz_c98, mz_c294, mz_c526, mz_c532, mz_c540, mz_c999, mz_c1900, mz_c2403, mz_c29362, mz_c29363, mz_c29364, mz_c29390, mz_c29393, mz_c29394, mz_c29398, mz_c29399, mz_c29400, mz_c29401, nI_add, pk_mul, pk_m1, mz_pp, mz_pq, hs, hl]; done) | omega | (simp only [mz_cm1, mz_c0, mz_c1, mz_c2, mz_c3, mz_c4, mz_c5, mz_c6, mz_c7, mz_c8, mz_c10, mz_c17, mz_c20, mz_c28, mz_c58, mz_c63, mz_c98, mz_c294, mz_c526, mz_c532, mz_c540, mz_c999, mz_c1900, mz_c2403, mz_c29362, mz_c29363, mz_c29364, mz_c29390, mz_c29393, mz_c29394, mz_c29398, mz_c29399, mz_c29400, mz_c29401, nI_add, pk_mul, pk_m1, mz_pp, mz_pq, hs, hl]; congr 1; omega)) ?_
  try simp only [mz_c0, mz_cm1, hs, hl]
  refine mz_br_t hC tk_X4_open rfl ((by show nI n < nI lim; exact nI_lt (by omega) (by omega))) ?_
  refine mz_sn_ok hC tk_X4_open pk_RX4 10 [a] rfl (by (repeat' apply And.intro) <;> first | exact True.intro | assumption | (simp only [mz_cm1, mz_c0, mz_c1, mz_c2, mz_c3, mz_c4, mz_c5, mz_c6, mz_c7, mz_c8, mz_c10, mz_c17, mz_c20, mz_c28, mz_c58, mz_c63, mz_c98, mz_c294, mz_c526, mz_c532, mz_c540, mz_c999, mz_c1900, mz_c2403, mz_c29362, mz_c29363, mz_c29364, mz_c29390, mz_c29393, mz_c29394, mz_c29398, mz_c29399, mz_c29400, mz_c29401, nI_add, pk_mul, pk_m1, mz_pp, mz_pq, hs, hw, hna]; done) | omega | (simp only [mz_cm1, mz_c0, mz_c1, mz_c2, mz_c3, mz_c4, mz_c5, mz_c6, mz_c7, mz_c8, mz_c10, mz_c17, mz_c20, mz_c28, mz_c58, mz_c63, mz_c98, mz_c294, mz_c526, mz_c532, mz_c540, mz_c999, mz_c1900, mz_c2403, mz_c29362, mz_c29363, mz_c29364, mz_c29390, mz_c29393, mz_c29394, mz_c29398, mz_c29399, mz_c29400, mz_c29401, nI_add, pk_mul, pk_m1, mz_pp, mz_pq, hs, hw, hna]; congr 1; omega)) ?_
  try simp only [mz_c0, mz_cm1, hs, hw, hna]
  have hlW : (n + 1) * W < 2147483648 := by
    have : (n + 1) * W ≤ 10000 * 10 := Nat.mul_le_mul (by omega) (by omega)
    omega
  by_cases hg : (n + 1) * W ≤ len
  · refine mz_br_t hC tk_X4_open rfl ((by show (nI n + mz_c 1) * nI W ≤ nI len; simp only [mz_cm1, mz_c0, mz_c1, mz_c2, mz_c3, mz_c4, mz_c5, mz_c6, mz_c7, mz_c8, mz_c10, mz_c17, mz_c20, mz_c28, mz_c58, mz_c63, mz_c98, mz_c294, mz_c526, mz_c532, mz_c540, mz_c999, mz_c1900, mz_c2403, mz_c29362, mz_c29363, mz_c29364, mz_c29390, mz_c29393, mz_c29394, mz_c29398, mz_c29399, mz_c29400, mz_c29401, nI_add, pk_mul, pk_m1, mz_pp, mz_pq]; exact nI_le hg (by omega))) ?_
    exact tail G a sz 0 0 O (by omega) (by omega) (by unfold mt_gc; rw [if_pos hg]; rfl) ⟨⟨hK, hw, hl, hs, hr⟩, hKa, by unfold mt_gl; rw [if_pos hg]; exact hna, hOa, hOt, ht, ha⟩ (by unfold mt_gl; rw [if_pos hg]; exact hg) (by unfold mt_gl; rw [if_pos hg]; exact b3) hcell mt_F.rf
  · obtain ⟨M, hM⟩ : ∃ M, M = min lim (2 * (n + 1)) := ⟨_, rfl⟩
    have hM1 : n + 1 ≤ M := by omega
    have hM2 : M ≤ lim := by omega
    have hMW : (n + 1) * W ≤ M * W := Nat.mul_le_mul_right W hM1
    have hMW2 : M * W ≤ 9999 * 10 := Nat.mul_le_mul (by omega) (by omega)
    have egl : mt_gl W lim n len = M * W := by unfold mt_gl; rw [if_neg hg, hM]
    have egs : mt_gs W lim n len = M * W := by unfold mt_gs; rw [if_neg hg, hM]
    have egc : mt_gc W n len = 1 := by unfold mt_gc; rw [if_neg hg]
    refine mz_br_f hC tk_X4_open rfl ((by show ¬ (nI n + mz_c 1) * nI W ≤ nI len; simp only [mz_cm1, mz_c0, mz_c1, mz_c2, mz_c3, mz_c4, mz_c5, mz_c6, mz_c7, mz_c8, mz_c10, mz_c17, mz_c20, mz_c28, mz_c58, mz_c63, mz_c98, mz_c294, mz_c526, mz_c532, mz_c540, mz_c999, mz_c1900, mz_c2403, mz_c29362, mz_c29363, mz_c29364, mz_c29390, mz_c29393, mz_c29394, mz_c29398, mz_c29399, mz_c29400, mz_c29401, nI_add, pk_mul, pk_m1, mz_pp, mz_pq]; exact nI_ge (by omega) (by omega))) ?_
    refine mz_sn_ok hC tk_X4_open pk_RX4 11 [a] rfl (by (repeat' apply And.intro) <;> first | exact True.intro | assumption | (simp only [mz_cm1, mz_c0, mz_c1, mz_c2, mz_c3, mz_c4, mz_c5, mz_c6, mz_c7, mz_c8, mz_c10, mz_c17, mz_c20, mz_c28, mz_c58, mz_c63, mz_c98, mz_c294, mz_c526, mz_c532, mz_c540, mz_c999, mz_c1900, mz_c2403, mz_c29362, mz_c29363, mz_c29364, mz_c29390, mz_c29393, mz_c29394, mz_c29398, mz_c29399, mz_c29400, mz_c29401, nI_add, pk_mul, pk_m1, mz_pp, mz_pq, hs, hl]; done) | omega | (simp only [mz_cm1, mz_c0, mz_c1, mz_c2, mz_c3, mz_c4, mz_c5, mz_c6, mz_c7, mz_c8, mz_c10, mz_c17, mz_c20, mz_c28, mz_c58, mz_c63, mz_c98, mz_c294, mz_c526, mz_c532, mz_c540, mz_c999, mz_c1900, mz_c2403, mz_c29362, mz_c29363, mz_c29364, mz_c29390, mz_c29393, mz_c29394, mz_c29398, mz_c29399, mz_c29400, mz_c29401, nI_add, pk_mul, pk_m1, mz_pp, mz_pq, hs, hl]; congr 1; omega)) ?_
    try simp only [mz_c0, mz_cm1, hs, hl]
    refine mz_Vmin hC tk_X4_open rfl lk_RX4_34 (Nat.le_of_ble_eq_true rfl) (Nat.le_of_ble_eq_true rfl) (Nat.zero_le _) (Nat.zero_le _) ?_
    rw [show (if mz_c 2 * (nI n + mz_c 1) < nI lim then mz_c 2 * (nI n + mz_c 1) else nI lim) = nI M from by
      simp only [mz_cm1, mz_c0, mz_c1, mz_c2, mz_c3, mz_c4, mz_c5, mz_c6, mz_c7, mz_c8, mz_c10, mz_c17, mz_c20, mz_c28, mz_c58, mz_c63, mz_c98, mz_c294, mz_c526, mz_c532, mz_c540, mz_c999, mz_c1900, mz_c2403, mz_c29362, mz_c29363, mz_c29364, mz_c29390, mz_c29393, mz_c29394, mz_c29398, mz_c29399, mz_c29400, mz_c29401, nI_add, pk_mul, pk_m1, mz_pp, mz_pq]
      rw [hM]
      by_cases hc : 2 * (n + 1) < lim
      · rw [if_pos (nI_lt hc (by omega)), Nat.min_eq_right (by omega)]
      · rw [if_neg (nI_nlt (by omega) (by omega)), Nat.min_eq_left (by omega)]]
    refine mz_sn_ok hC tk_X4_open pk_RX4 3 [] rfl (by (repeat' apply And.intro) <;> first | exact True.intro | assumption | (simp only [mz_cm1, mz_c0, mz_c1, mz_c2, mz_c3, mz_c4, mz_c5, mz_c6, mz_c7, mz_c8, mz_c10, mz_c17, mz_c20, mz_c28, mz_c58, mz_c63, mz_c98, mz_c294, mz_c526, mz_c532, mz_c540, mz_c999, mz_c1900, mz_c2403, mz_c29362, mz_c29363, mz_c29364, mz_c29390, mz_c29393, mz_c29394, mz_c29398, mz_c29399, mz_c29400, mz_c29401, nI_add, pk_mul, pk_m1, mz_pp, mz_pq, hw]; done) | omega | (simp only [mz_cm1, mz_c0, mz_c1, mz_c2, mz_c3, mz_c4, mz_c5, mz_c6, mz_c7, mz_c8, mz_c10, mz_c17, mz_c20, mz_c28, mz_c58, mz_c63, mz_c98, mz_c294, mz_c526, mz_c532, mz_c540, mz_c999, mz_c1900, mz_c2403, mz_c29362, mz_c29363, mz_c29364, mz_c29390, mz_c29393, mz_c29394, mz_c29398, mz_c29399, mz_c29400, mz_c29401, nI_add, pk_mul, pk_m1, mz_pp, mz_pq, hw]; congr 1; omega)) ?_
    try simp only [mz_c0, mz_cm1, hw]
    refine mz_Vcs hC tk_X4_open rfl md_J7_copyOf_59c91 lk_RX4_37 rfl (show mz_M l E yJ7_copyOf_59c91 cJ7_copyOf_59c91 3 (some (.array .int)) 3 1 (M * W) [.ref a, .int (nI M * nI W)] G sz _ from by rw [pk_mul]; exact cj_copyOf l E a len (M * W) hKa hna ha (by omega) (by omega)) ⟨Nat.le_of_ble_eq_true rfl, Nat.le_of_ble_eq_true rfl⟩ ⟨by show 0 + 1 ≤ mt_gc W n len; omega, by show 0 + M * W ≤ mt_gs W lim n len; omega⟩ (Nat.le_of_ble_eq_true rfl) (fun v9 G9 sz9 hp9 => ?_)
    obtain ⟨rfl, rfl, rfl⟩ := hp9
    have hat : t ≠ sz := by omega
    have hK9 : mz_K (mz_sa (mz_nw G sz 7 (M * W)) sz (va_cpy (mz_i G a) (fun _ => 0) 0 0 len)) t = 4 := by show mz_u1 (mz_K G) sz 7 t = 4; simp only [mz_u1]; rw [if_neg hat, hK]
    refine mz_sn_ok hC tk_X4_open pk_RX4 1 [] rfl (by (repeat' apply And.intro) <;> first | exact True.intro | assumption | (simp only [mz_cm1, mz_c0, mz_c1, mz_c2, mz_c3, mz_c4, mz_c5, mz_c6, mz_c7, mz_c8, mz_c10, mz_c17, mz_c20, mz_c28, mz_c58, mz_c63, mz_c98, mz_c294, mz_c526, mz_c532, mz_c540, mz_c999, mz_c1900, mz_c2403, mz_c29362, mz_c29363, mz_c29364, mz_c29390, mz_c29393, mz_c29394, mz_c29398, mz_c29399, mz_c29400, mz_c29401, nI_add, pk_mul, pk_m1, mz_pp, mz_pq]; done) | omega | (simp only [mz_cm1, mz_c0, mz_c1, mz_c2, mz_c3, mz_c4, mz_c5, mz_c6, mz_c7, mz_c8, mz_c10, mz_c17, mz_c20, mz_c28, mz_c58, mz_c63, mz_c98, mz_c294, mz_c526, mz_c532, mz_c540, mz_c999, mz_c1900, mz_c2403, mz_c29362, mz_c29363, mz_c29364, mz_c29390, mz_c29393, mz_c29394, mz_c29398, mz_c29399, mz_c29400, mz_c29401, nI_add, pk_mul, pk_m1, mz_pp, mz_pq]; congr 1; omega)) ?_
    try simp only [mz_c0, mz_cm1]
    have e9 : ∀ q j, q ≠ sz → mz_i (mz_sa (mz_nw G sz 7 (M * W)) sz (va_cpy (mz_i G a) (fun _ => 0) 0 0 len)) q j = mz_i G q j := fun q j hq => by
      show mz_u1 (mz_u1 (mz_i G) sz _) sz _ q j = _
      simp only [mz_u1]
      rw [if_neg hq, if_neg hq]
    refine tail _ sz (sz + 1) _ _ (mz_u1 O sz t) (by omega) (by omega) (by omega) ⟨⟨hK9, (e9 t 0 hat).trans hw, (e9 t 1 hat).trans hl, (e9 t 2 hat).trans hs, ?_⟩, ?_, ?_, ?_, ?_, by omega, by omega⟩ (by rw [egl]; exact hMW) (by rw [egl]; omega) (fun k' j' h1 h2 => ?_) ⟨by omega, fun q hq => ⟨?_, fun hX => ⟨?_, ?_, ?_, ?_, ?_⟩⟩⟩
    · show mz_u2 _ t 3 _ t 3 = some sz
      rw [mz_u2_s]
    · show mz_u1 (mz_K G) sz 7 sz = 7
      simp only [mz_u1, if_true]
    · show mz_u1 (mz_n G) sz (M * W) sz = _
      rw [egl]
      simp only [mz_u1, if_true]
    · simp only [mz_u1, if_true]
    · simp only [mz_u1]
      rw [if_neg hat, hOt]
    · show mz_u1 (mz_u1 (mz_i G) sz _) sz _ sz (k' * W + j') = h k' j'
      have ix := mt_ix b1 h1 h2
      simp only [mz_u1, if_true, va_cpy]
      rw [if_pos (by omega), show 0 + (k' * W + j' - 0) = k' * W + j' by omega]
      exact hcell k' j' h1 h2
    · simp only [mz_u1]
      rw [if_neg (by omega)]
    · show mz_u1 (mz_K G) sz 7 q = _
      simp only [mz_u1]
      rw [if_neg (by omega)]
    · show mz_u1 (mz_n G) sz _ q = _
      simp only [mz_u1]
      rw [if_neg (by omega)]
    · funext i
      exact e9 q i (by omega)
    · funext i
      show mz_u2 (mz_u1 (mz_r G) sz _) t 3 _ q i = _
      rw [mz_u2_a _ _ _ _ (fun z => hX (by rw [z]; exact hOt))]
      simp only [mz_u1]
      rw [if_neg (by omega)]
    · show mz_u1 (mz_l G) sz _ q = _
      simp only [mz_u1]
      rw [if_neg (by omega)]
end MTT

