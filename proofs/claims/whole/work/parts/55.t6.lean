/-! ===== the class: a table takes another's rows; messages are stored ===== -/
def mt_tl (W n' len len' : Nat) : Nat := if n' * W ≤ len then len else len'
def mt_ts (W n' len len' : Nat) : Nat := if n' * W ≤ len then 0 else len'
def mt_tc (W n' len : Nat) : Nat := if n' * W ≤ len then 0 else 1
def mt_w (h : Nat → Nat → Int32) (q : Nat) (a b c d : Int32) : Nat → Nat → Int32 := mt_u (mt_u (mt_u (mt_u h q 0 a) q 1 b) q 2 c) q 3 d
section MTT
variable (l : Launch) (E : mz_E) {G : mz_G} {O : Nat → Nat} {sz t W lim n len : Nat} {h : Nat → Nat → Int32}
theorem ct_takeFrom (hT : mt_T G O sz t W lim n len h) {u n' len' : Nat} {h' : Nat → Nat → Int32} (hU : mt_T G O sz u W lim n' len' h') (htu : t ≠ u) : mz_M l E yX4_takeFrom cX4_takeFrom 2 none 3 (mt_tc W n' len) (mt_ts W n' len len') [.ref t, .ref u] G sz (fun v' G' sz' => v' = none ∧ sz + mt_tc W n' len = sz' ∧ ∃ O', mt_T G' O' sz' t W lim n' (mt_tl W n' len len') h' ∧ mt_F (fun q => q = t) G G' O O' sz sz') := by
  obtain ⟨a, ⟨⟨hK, hw, hl, hs, hr⟩, hKa, hna, hOa, hOt, ht, ha⟩, ⟨b1, b2, b3, b4, b5⟩, hcell⟩ := hT
  obtain ⟨a', ⟨⟨hK', hw', hl', hs', hr'⟩, hKa', hna', hOa', hOt', ht', ha'⟩, ⟨b1', b2', b3', b4', b5'⟩, hcell'⟩ := hU
  refine mz_start (by decide) (Nat.le_of_ble_eq_true rfl) ?_
  intro p e s m args below meth c hC hret hnm
  have htl : n' * W ≤ mt_tl W n' len len' := by unfold mt_tl; split <;> omega
  have tail : ∀ (G1 : mz_G) (a1 sz1 kc ns : Nat) (O1 : Nat → Nat), kc ≤ mt_tc W n' len → ns ≤ mt_ts W n' len len' → sz1 = sz + mt_tc W n' len → ((mz_K G1 t = 4 ∧ mz_i G1 t 0 = nI W ∧ mz_i G1 t 1 = nI lim ∧ mz_r G1 t 3 = some a1) ∧ (mz_K G1 a1 = 7 ∧ mz_n G1 a1 = mt_tl W n' len len' ∧ O1 a1 = t ∧ O1 t = t ∧ t < sz1 ∧ a1 < sz1)) → mt_tl W n' len len' < 100000 → (mz_K G1 u = 4 ∧ mz_i G1 u 2 = nI n' ∧ mz_r G1 u 3 = some a') → (mz_K G1 a' = 7 ∧ mz_n G1 a' = len' ∧ ∀ i, mz_i G1 a' i = mz_i G a' i) → a' ≠ a1 → mt_F (fun q => q = t) G G1 O O1 sz sz1 → mz_V E p l e (mz_rm 3 (mt_tc W n' len) (mt_ts W n' len len')) s m args below meth c 2 (kc) (ns) (mz_Z E below args s (mt_tc W n' len) (mt_ts W n' len len') (fun v' G' sz' => v' = none ∧ sz + mt_tc W n' len = sz' ∧ ∃ O', mt_T G' O' sz' t W lim n' (mt_tl W n' len len') h' ∧ mt_F (fun q => q = t) G G' O O' sz sz')) (G1) (sz1) (28) [some (.ref t), some (.ref u)] [] := by
    intro G1 a1 sz1 kc ns O1 hkc hns hsz1 hfac hl5 hfu hfa hne hF
    obtain ⟨⟨hK1, hw1, hl1, hr1⟩, hKa1, hna1, hOa1, hOt1, ht1, ha1⟩ := hfac
    obtain ⟨hKu, hsu, hru⟩ := hfu
    obtain ⟨hKx, hnx, hix⟩ := hfa
    have hat : t ≠ a1 := fun z => by rw [z] at hK1; omega
    have hau : u ≠ a1 := fun z => by rw [z] at hKu; omega
    refine mz_sn_ok hC tk_X4_takeFrom pk_RX4 11 [a', a1] rfl (by (repeat' apply And.intro) <;> first | exact True.intro | assumption | (simp only [mz_cm1, mz_c0, mz_c1, mz_c2, mz_c3, mz_c4, mz_c5, mz_c6, mz_c7, mz_c8, mz_c10, mz_c17, mz_c20, mz_c28, mz_c58, mz_c63, mz_c98, mz_c294, mz_c526, mz_c532, mz_c540, mz_c999, mz_c1900, mz_c2403, mz_c29362, mz_c29363, mz_c29364, mz_c29390, mz_c29393, mz_c29394, mz_c29398, mz_c29399, mz_c29400, mz_c29401, nI_add, pk_mul, pk_m1, mz_pp, mz_pq, hw1, hsu]; done) | omega | (simp only [mz_cm1, mz_c0, mz_c1, mz_c2, mz_c3, mz_c4, mz_c5, mz_c6, mz_c7, mz_c8, mz_c10, mz_c17, mz_c20, mz_c28, mz_c58, mz_c63, mz_c98, mz_c294, mz_c526, mz_c532, mz_c540, mz_c999, mz_c1900, mz_c2403, mz_c29362, mz_c29363, mz_c29364, mz_c29390, mz_c29393, mz_c29394, mz_c29398, mz_c29399, mz_c29400, mz_c29401, nI_add, pk_mul, pk_m1, mz_pp, mz_pq, hw1, hsu]; congr 1; omega)) ?_
    try simp only [mz_c0, mz_cm1, hw1, hsu]
    refine mz_Vacopy hC tk_X4_takeFrom rfl lk_RX4_43 0 0 (n' * W) rfl rfl (by rw [pk_mul]) hKx hKa1 (by rw [hnx]; omega) (by rw [hna1]; omega) (by rw [hnx]; omega) (by rw [hna1]; omega) (Nat.le_of_ble_eq_true rfl) (Nat.le_of_ble_eq_true rfl) ?_
    have su : mz_i (mz_sa G1 a1 (va_cpy (mz_i G1 a') (mz_i G1 a1) 0 0 (n' * W))) u 2 = nI n' := by show mz_u1 (mz_i G1) a1 _ u 2 = _; simp only [mz_u1]; rw [if_neg hau, hsu]
    refine mz_sn_ok hC tk_X4_takeFrom pk_RX4 4 [] rfl (by (repeat' apply And.intro) <;> first | exact True.intro | assumption | (simp only [mz_cm1, mz_c0, mz_c1, mz_c2, mz_c3, mz_c4, mz_c5, mz_c6, mz_c7, mz_c8, mz_c10, mz_c17, mz_c20, mz_c28, mz_c58, mz_c63, mz_c98, mz_c294, mz_c526, mz_c532, mz_c540, mz_c999, mz_c1900, mz_c2403, mz_c29362, mz_c29363, mz_c29364, mz_c29390, mz_c29393, mz_c29394, mz_c29398, mz_c29399, mz_c29400, mz_c29401, nI_add, pk_mul, pk_m1, mz_pp, mz_pq, su]; done) | omega | (simp only [mz_cm1, mz_c0, mz_c1, mz_c2, mz_c3, mz_c4, mz_c5, mz_c6, mz_c7, mz_c8, mz_c10, mz_c17, mz_c20, mz_c28, mz_c58, mz_c63, mz_c98, mz_c294, mz_c526, mz_c532, mz_c540, mz_c999, mz_c1900, mz_c2403, mz_c29362, mz_c29363, mz_c29364, mz_c29390, mz_c29393, mz_c29394, mz_c29398, mz_c29399, mz_c29400, mz_c29401, nI_add, pk_mul, pk_m1, mz_pp, mz_pq, su]; congr 1; omega)) ?_
    try simp only [mz_c0, mz_cm1, su]
    refine mz_Vreturn hC tk_X4_takeFrom rfl hret hkc hns ?_
    refine ⟨rfl, hsz1.symm, O1, ⟨a1, ⟨⟨hK1, ?_, ?_, ?_, hr1⟩, hKa1, hna1, hOa1, hOt1, ht1, ha1⟩, ⟨htl, by omega, hl5, b4, b5⟩, fun k' j' h1 h2 => ?_⟩, hF.tr ⟨Nat.le_refl _, fun z hz => ⟨rfl, fun hX => ⟨rfl, rfl, ?_, rfl, rfl⟩⟩⟩⟩
    · show mz_u2 (mz_u1 (mz_i G1) a1 _) t 2 _ t 0 = nI W
      rw [mz_u2_j _ _ _ _ (by omega)]
      simp only [mz_u1]
      rw [if_neg hat, hw1]
    · show mz_u2 (mz_u1 (mz_i G1) a1 _) t 2 _ t 1 = nI lim
      rw [mz_u2_j _ _ _ _ (by omega)]
      simp only [mz_u1]
      rw [if_neg hat, hl1]
    · show mz_u2 (mz_u1 (mz_i G1) a1 _) t 2 _ t 2 = nI n'
      rw [mz_u2_s]
    · show mz_u2 (mz_u1 (mz_i G1) a1 _) t 2 _ a1 (k' * W + j') = h' k' j'
      rw [mz_u2_a _ _ _ _ (Ne.symm hat)]
      have ix := mt_ix (Nat.le_refl (n' * W)) h1 h2
      simp only [mz_u1, if_true, va_cpy]
      rw [if_pos (by omega), show 0 + (k' * W + j' - 0) = k' * W + j' by omega, hix]
      exact hcell' k' j' h1 h2
    · funext i
      show mz_u2 (mz_u1 (mz_i G1) a1 _) t 2 _ z i = mz_i G1 z i
      rw [mz_u2_a _ _ _ _ (fun y => hX (by rw [y]; exact hOt1))]
      simp only [mz_u1]
      rw [if_neg (fun y => hX (by rw [y]; exact hOa1))]
  have haa : a' ≠ a := fun z => htu (by rw [← hOa, ← z]; exact hOa')
  refine mz_sn_ok hC tk_X4_takeFrom pk_RX4 8 [a] rfl (by (repeat' apply And.intro) <;> first | exact True.intro | assumption | (simp only [mz_cm1, mz_c0, mz_c1, mz_c2, mz_c3, mz_c4, mz_c5, mz_c6, mz_c7, mz_c8, mz_c10, mz_c17, mz_c20, mz_c28, mz_c58, mz_c63, mz_c98, mz_c294, mz_c526, mz_c532, mz_c540, mz_c999, mz_c1900, mz_c2403, mz_c29362, mz_c29363, mz_c29364, mz_c29390, mz_c29393, mz_c29394, mz_c29398, mz_c29399, mz_c29400, mz_c29401, nI_add, pk_mul, pk_m1, mz_pp, mz_pq, hs', hw, hna]; done) | omega | (simp only [mz_cm1, mz_c0, mz_c1, mz_c2, mz_c3, mz_c4, mz_c5, mz_c6, mz_c7, mz_c8, mz_c10, mz_c17, mz_c20, mz_c28, mz_c58, mz_c63, mz_c98, mz_c294, mz_c526, mz_c532, mz_c540, mz_c999, mz_c1900, mz_c2403, mz_c29362, mz_c29363, mz_c29364, mz_c29390, mz_c29393, mz_c29394, mz_c29398, mz_c29399, mz_c29400, mz_c29401, nI_add, pk_mul, pk_m1, mz_pp, mz_pq, hs', hw, hna]; congr 1; omega)) ?_
  try simp only [mz_c0, mz_cm1, hs', hw, hna]
  by_cases hg : n' * W ≤ len
  · have e1 : mt_tl W n' len len' = len := by unfold mt_tl; rw [if_pos hg]
    refine mz_br_t hC tk_X4_takeFrom rfl ((by show nI n' * nI W ≤ nI len; simp only [mz_cm1, mz_c0, mz_c1, mz_c2, mz_c3, mz_c4, mz_c5, mz_c6, mz_c7, mz_c8, mz_c10, mz_c17, mz_c20, mz_c28, mz_c58, mz_c63, mz_c98, mz_c294, mz_c526, mz_c532, mz_c540, mz_c999, mz_c1900, mz_c2403, mz_c29362, mz_c29363, mz_c29364, mz_c29390, mz_c29393, mz_c29394, mz_c29398, mz_c29399, mz_c29400, mz_c29401, nI_add, pk_mul, pk_m1, mz_pp, mz_pq]; exact nI_le hg (by omega))) ?_
    exact tail G a sz 0 0 O (by omega) (by omega) (by unfold mt_tc; rw [if_pos hg]; rfl) ⟨⟨hK, hw, hl, hr⟩, hKa, by rw [e1]; exact hna, hOa, hOt, ht, ha⟩ (by rw [e1]; exact b3) ⟨hK', hs', hr'⟩ ⟨hKa', hna', fun _ => rfl⟩ haa mt_F.rf
  · have e1 : mt_tl W n' len len' = len' := by unfold mt_tl; rw [if_neg hg]
    have e2 : mt_ts W n' len len' = len' := by unfold mt_ts; rw [if_neg hg]
    have e3 : mt_tc W n' len = 1 := by unfold mt_tc; rw [if_neg hg]
    refine mz_br_f hC tk_X4_takeFrom rfl ((by show ¬ nI n' * nI W ≤ nI len; simp only [mz_cm1, mz_c0, mz_c1, mz_c2, mz_c3, mz_c4, mz_c5, mz_c6, mz_c7, mz_c8, mz_c10, mz_c17, mz_c20, mz_c28, mz_c58, mz_c63, mz_c98, mz_c294, mz_c526, mz_c532, mz_c540, mz_c999, mz_c1900, mz_c2403, mz_c29362, mz_c29363, mz_c29364, mz_c29390, mz_c29393, mz_c29394, mz_c29398, mz_c29399, mz_c29400, mz_c29401, nI_add, pk_mul, pk_m1, mz_pp, mz_pq]; exact nI_ge (by omega) (by omega))) ?_
    refine mz_sn_ok hC tk_X4_takeFrom pk_RX4 4 [a'] rfl (by (repeat' apply And.intro) <;> first | exact True.intro | assumption | (simp only [mz_cm1, mz_c0, mz_c1, mz_c2, mz_c3, mz_c4, mz_c5, mz_c6, mz_c7, mz_c8, mz_c10, mz_c17, mz_c20, mz_c28, mz_c58, mz_c63, mz_c98, mz_c294, mz_c526, mz_c532, mz_c540, mz_c999, mz_c1900, mz_c2403, mz_c29362, mz_c29363, mz_c29364, mz_c29390, mz_c29393, mz_c29394, mz_c29398, mz_c29399, mz_c29400, mz_c29401, nI_add, pk_mul, pk_m1, mz_pp, mz_pq, hna']; done) | omega | (simp only [mz_cm1, mz_c0, mz_c1, mz_c2, mz_c3, mz_c4, mz_c5, mz_c6, mz_c7, mz_c8, mz_c10, mz_c17, mz_c20, mz_c28, mz_c58, mz_c63, mz_c98, mz_c294, mz_c526, mz_c532, mz_c540, mz_c999, mz_c1900, mz_c2403, mz_c29362, mz_c29363, mz_c29364, mz_c29390, mz_c29393, mz_c29394, mz_c29398, mz_c29399, mz_c29400, mz_c29401, nI_add, pk_mul, pk_m1, mz_pp, mz_pq, hna']; congr 1; omega)) ?_
    try simp only [mz_c0, mz_cm1, hna']
    refine mz_Vnewi hC tk_X4_takeFrom rfl len' rfl (by omega) ⟨by simp only [mz_rm]; omega, by simp only [mz_rm]; omega⟩ ac_int ?_
    have hat : t ≠ sz := by omega
    have hau : u ≠ sz := by omega
    have hax : a' ≠ sz := by omega
    have hK9 : mz_K (mz_nw G sz 7 len') t = 4 := by show mz_u1 (mz_K G) sz 7 t = 4; simp only [mz_u1]; rw [if_neg hat, hK]
    refine mz_sn_ok hC tk_X4_takeFrom pk_RX4 1 [] rfl (by (repeat' apply And.intro) <;> first | exact True.intro | assumption | (simp only [mz_cm1, mz_c0, mz_c1, mz_c2, mz_c3, mz_c4, mz_c5, mz_c6, mz_c7, mz_c8, mz_c10, mz_c17, mz_c20, mz_c28, mz_c58, mz_c63, mz_c98, mz_c294, mz_c526, mz_c532, mz_c540, mz_c999, mz_c1900, mz_c2403, mz_c29362, mz_c29363, mz_c29364, mz_c29390, mz_c29393, mz_c29394, mz_c29398, mz_c29399, mz_c29400, mz_c29401, nI_add, pk_mul, pk_m1, mz_pp, mz_pq]; done) | omega | (simp only [mz_cm1, mz_c0, mz_c1, mz_c2, mz_c3, mz_c4, mz_c5, mz_c6, mz_c7, mz_c8, mz_c10, mz_c17, mz_c20, mz_c28, mz_c58, mz_c63, mz_c98, mz_c294, mz_c526, mz_c532, mz_c540, mz_c999, mz_c1900, mz_c2403, mz_c29362, mz_c29363, mz_c29364, mz_c29390, mz_c29393, mz_c29394, mz_c29398, mz_c29399, mz_c29400, mz_c29401, nI_add, pk_mul, pk_m1, mz_pp, mz_pq]; congr 1; omega)) ?_
    try simp only [mz_c0, mz_cm1]
    have e9 : ∀ q j, q ≠ sz → mz_i (mz_nw G sz 7 len') q j = mz_i G q j := fun q j hq => by
      show mz_u1 (mz_i G) sz _ q j = _
      simp only [mz_u1]
      rw [if_neg hq]
    refine tail _ sz (sz + 1) _ _ (mz_u1 O sz t) (by omega) (by omega) (by omega) ⟨⟨hK9, (e9 t 0 hat).trans hw, (e9 t 1 hat).trans hl, ?_⟩, ?_, ?_, ?_, ?_, by omega, by omega⟩ (by rw [e1]; omega) ⟨?_, (e9 u 2 hau).trans hs', ?_⟩ ⟨?_, ?_, fun i => e9 a' i hax⟩ hax ⟨by omega, fun q hq => ⟨?_, fun hX => ⟨?_, ?_, ?_, ?_, ?_⟩⟩⟩
    · show mz_u2 _ t 3 _ t 3 = some sz
      rw [mz_u2_s]
    · show mz_u1 (mz_K G) sz 7 sz = 7
      simp only [mz_u1, if_true]
    · show mz_u1 (mz_n G) sz len' sz = _
      rw [e1]
      simp only [mz_u1, if_true]
    · simp only [mz_u1, if_true]
    · simp only [mz_u1]
      rw [if_neg hat, hOt]
    · show mz_u1 (mz_K G) sz 7 u = 4
      simp only [mz_u1]
      rw [if_neg hau, hK']
    · show mz_u2 (mz_u1 (mz_r G) sz _) t 3 _ u 3 = some a'
      rw [mz_u2_a _ _ _ _ (Ne.symm htu)]
      simp only [mz_u1]
      rw [if_neg hau, hr']
    · show mz_u1 (mz_K G) sz 7 a' = 7
      simp only [mz_u1]
      rw [if_neg hax, hKa']
    · show mz_u1 (mz_n G) sz _ a' = len'
      simp only [mz_u1]
      rw [if_neg hax, hna']
    · simp only [mz_u1]
      rw [if_neg (by omega)]
    · show mz_u1 (mz_K G) sz 7 q = _
      simp only [mz_u1]
      rw [if_neg (by omega)]
    · show mz_u1 (mz_n G) sz _ q = _
      simp only [mz_u1]
      rw [if_neg (by omega)]
    · funext i
      exact e9 q i (by omega)
    · funext i
      show mz_u2 (mz_u1 (mz_r G) sz _) t 3 _ q i = _
      rw [mz_u2_a _ _ _ _ (fun z => hX (by rw [z]; exact hOt))]
      simp only [mz_u1]
      rw [if_neg (by omega)]
    · show mz_u1 (mz_l G) sz _ q = _
      simp only [mz_u1]
      rw [if_neg (by omega)]
end MTT

