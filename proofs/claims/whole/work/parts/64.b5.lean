/-! ===== the class: a box, small changes ===== -/
theorem mz_bit : ∀ v, v < 64 → (mx_odd (nI v) = nI 1 ↔ ¬ nI v &&& nI 1 = 0) ∧ (mx_odd (nI v) = 0 ↔ nI v &&& nI 1 = 0) := by decide +kernel
/-- flags of a list -/
def mr_fl (f : Nat → Int32) (L cnt : Nat) : Prop := ∀ k, k < cnt → ∃ v, v < 64 ∧ f (L + 1 + 4 * k + 2) = nI v
section MRN
variable {G G' : mz_G} {O O' : Nat → Nat} {sz sz' β μ ν : Nat} {f f' : Nat → Int32} {b cnt g k j : Nat} {v : Int32}
theorem mr_B.ne (hB : mr_B G O sz β μ ν f b cnt g) : β ≠ μ ∧ β ≠ ν ∧ μ ≠ ν := hB.n.ne
theorem mr_B.cong (hB : mr_B G O sz β μ ν f b cnt g) (h : ∀ i, 98 * b ≤ i → i < 98 * b + 98 → f' i = f i) : mr_B G O sz β μ ν f' b cnt g := by
  obtain ⟨⟨⟨hk, i0, i1, i2, i3⟩, hr⟩, ⟨t1, t2⟩, c1, c2⟩ := hB
  obtain ⟨b1, -⟩ := t1.b
  obtain ⟨b2, -⟩ := t2.b
  refine ⟨⟨⟨hk, ?_, ?_, ?_, ?_⟩, hr⟩, ⟨?_, ?_⟩, ?_, ?_⟩
  · rw [h _ (by omega) (by omega)]; exact i0
  · rw [h _ (by omega) (by omega)]; exact i1
  · rw [h _ (by omega) (by omega)]; exact i2
  · rw [h _ (by omega) (by omega)]; exact i3
  · exact t1.same (fun k j h1 h2 => (h (98 * b + 17 + 1 + 4 * k + j) (by omega) (by omega)).symm)
  · exact t2.same (fun k j h1 h2 => (h (98 * b + 4 + 1 + 2 * k + j) (by omega) (by omega)).symm)
  · rw [h _ (by omega) (by omega)]; exact c1
  · rw [h _ (by omega) (by omega)]; exact c2
/-- a number of its object anew -/
theorem mr_B.si (hB : mr_B G O sz β μ ν f b cnt g) (j : Nat) (hj : j < 4) (v : Int32) : mr_B (mz_si G β j v) O sz β μ ν (mz_u1 f (98 * b + j) v) b cnt g ∧ mt_F (fun q => q = β) G (mz_si G β j v) O O sz sz := by
  obtain ⟨n1, n2, n3⟩ := hB.ne
  obtain ⟨⟨⟨⟨hK, hO, hs⟩, i0, i1, i2, i3⟩, hr⟩, ⟨t1, t2⟩, c1, c2⟩ := hB
  have hF : mt_F (fun q => q = β) G (mz_si G β j v) O O sz sz := mt_F_si hO
  obtain ⟨b1, -⟩ := t1.b
  obtain ⟨b2, -⟩ := t2.b
  have hi : ∀ q, q < 4 → mz_i G β q = f (98 * b + q) → mz_i (mz_si G β j v) β q = mz_u1 f (98 * b + j) v (98 * b + q) := by
    intro q hq h
    show mz_u2 (mz_i G) β j v β q = _
    by_cases hqj : q = j
    · subst hqj
      rw [mz_u2_s, mz_u1_s]
    · rw [mz_u2_j _ _ _ _ hqj, mz_u1_o _ _ (by omega), h]
  refine ⟨⟨⟨⟨⟨hK, hO, hs⟩, hi 0 (by omega) i0, hi 1 (by omega) i1, hi 2 (by omega) i2, hi 3 (by omega) i3⟩, hr⟩, ⟨?_, ?_⟩, ?_, ?_⟩, hF⟩
  · refine (t1.fr hF (Ne.symm n1)).same (fun k j' h1 h2 => ?_)
    show f _ = mz_u1 f _ v _
    rw [mz_u1_o _ _ (by omega)]
  · refine (t2.fr hF (Ne.symm n2)).same (fun k j' h1 h2 => ?_)
    show f _ = mz_u1 f _ v _
    rw [mz_u1_o _ _ (by omega)]
  · rw [mz_u1_o _ _ (by omega)]; exact c1
  · rw [mz_u1_o _ _ (by omega)]; exact c2
/-- a number of a message anew -/
theorem mr_B.put (hB : mr_B G O sz β μ ν f b cnt g) (hF : mt_F (fun q => q = μ) G G' O O' sz sz') (hk : k < cnt) (hj : j < 4) (ht : mt_T G' O' sz' μ 4 20 cnt 80 (mt_u (mr_h f (98 * b + 17) 4) k j v)) : mr_B G' O' sz' β μ ν (mz_u1 f (98 * b + 17 + 1 + 4 * k + j) v) b cnt g := by
  have hn := hB.n.msg hF ht
  obtain ⟨-, ⟨t01, t02⟩, c1, c2⟩ := hB
  obtain ⟨b1, -⟩ := t01.b
  obtain ⟨b2, -⟩ := t02.b
  obtain ⟨⟨⟨hk', i0, i1, i2, i3⟩, hr⟩, t1, t2⟩ := hn
  refine ⟨⟨⟨hk', ?_, ?_, ?_, ?_⟩, hr⟩, ⟨?_, ?_⟩, ?_, ?_⟩
  · rw [mz_u1_o _ _ (by omega)]; exact i0
  · rw [mz_u1_o _ _ (by omega)]; exact i1
  · rw [mz_u1_o _ _ (by omega)]; exact i2
  · rw [mz_u1_o _ _ (by omega)]; exact i3
  · refine t1.same (fun k' j' h1 h2 => ?_)
    simp only [mt_u, mr_h, mz_u1]
    by_cases hh : k' = k ∧ j' = j
    · rw [if_pos hh, if_pos (by omega)]
    · rw [if_neg hh, if_neg (by omega)]
  · refine t2.same (fun k' j' h1 h2 => ?_)
    simp only [mr_h]
    rw [mz_u1_o _ _ (by omega)]
  · rw [mz_u1_o _ _ (by omega)]; exact c1
  · rw [mz_u1_o _ _ (by omega)]; exact c2
/-- what it lost forgotten -/
theorem mr_B.lost0 (hB : mr_B G O sz β μ ν f b cnt g) (hF : mt_F (fun q => q = ν) G G' O O' sz sz') {h3 : Nat → Nat → Int32} (ht : mt_T G' O' sz' ν 2 6 0 12 h3) : mr_B G' O' sz' β μ ν (mz_u1 f (98 * b + 4) 0) b cnt 0 := by
  have hn := hB.n.lost hF ht
  obtain ⟨-, ⟨t01, t02⟩, c1, c2⟩ := hB
  obtain ⟨b1, -⟩ := t01.b
  obtain ⟨⟨⟨hk', i0, i1, i2, i3⟩, hr⟩, t1, t2⟩ := hn
  refine ⟨⟨⟨hk', ?_, ?_, ?_, ?_⟩, hr⟩, ⟨?_, ?_⟩, ?_, ?_⟩
  · rw [mz_u1_o _ _ (by omega)]; exact i0
  · rw [mz_u1_o _ _ (by omega)]; exact i1
  · rw [mz_u1_o _ _ (by omega)]; exact i2
  · rw [mz_u1_o _ _ (by omega)]; exact i3
  · refine t1.same (fun k' j' h1 h2 => ?_)
    simp only [mr_h]
    rw [mz_u1_o _ _ (by omega)]
  · exact t2.same (fun k' j' h1 h2 => absurd h1 (by omega))
  · rw [mz_u1_o _ _ (by omega)]; exact c1
  · rw [mz_u1_s]; rfl
end MRN
theorem mr_rm_fl {f : Nat → Int32} {b cnt g k : Nat} (hcn : cnt ≤ 20) (hg : g ≤ 6) (hk : k < cnt) (h : mr_fl f (98 * b + 17) cnt) : mr_fl (mx_rm f b cnt g k) (98 * b + 17) (cnt - 1) := by
  intro k' h1
  rw [mr_rm_m f hcn hg hk k' 2 h1 (by omega)]
  unfold mt_e mr_h
  split
  · exact h k' (by omega)
  · exact h (k' + 1) (by omega)
section MRB
variable (l : Launch) (E : mz_E) {G : mz_G} {O : Nat → Nat} {sz β μ ν : Nat} {f : Nat → Int32} {b cnt g : Nat}
theorem cb_removeAll (hB : mr_B G O sz β μ ν f b cnt g) (hb : b < 3) (hfl : mr_fl f (98 * b + 17) cnt) : mz_M l E yX0_removeAllThatMay cX0_removeAllThatMay 4 (some .int) 6 0 0 [.ref β] G sz (fun v' G' sz' => v' = some (.int (nI (mx_cl cnt f b cnt g 0 0).2)) ∧ sz = sz' ∧ ∃ O' cnt' g', mr_B G' O' sz β μ ν (mx_cl cnt f b cnt g 0 0).1 b cnt' g' ∧ mt_F (mr_X β μ ν) G G' O O' sz sz) := by
  have hB0 := hB
  obtain ⟨⟨⟨⟨hK, hO, hs⟩, -⟩, r4, -⟩, ⟨t1, -⟩, -⟩ := hB0
  have k1 := t1.K
  have s1 := t1.s
  obtain ⟨c20, -, -⟩ := t1.b
  refine mz_start (by decide) (Nat.le_of_ble_eq_true rfl) ?_
  intro p e s m args below meth c hC hret hnm
  have loop : ∀ (d : Nat) (f1 : Nat → Int32) (cn1 g1 k n : Nat) (G1 : mz_G) (O1 : Nat → Nat), mr_B G1 O1 sz β μ ν f1 b cn1 g1 → mr_fl f1 (98 * b + 17) cn1 → k + d = cn1 → n + cn1 = cnt → d ≤ cnt → mx_cl d f1 b cn1 g1 k n = mx_cl cnt f b cnt g 0 0 → mt_F (mr_X β μ ν) G G1 O O1 sz sz → mz_V E p l e (mz_rm 6 0 0) s m args below meth c 4 (0) (0) (mz_Z E below args s 0 0 (fun v' G' sz' => v' = some (.int (nI (mx_cl cnt f b cnt g 0 0).2)) ∧ sz = sz' ∧ ∃ O' cnt' g', mr_B G' O' sz β μ ν (mx_cl cnt f b cnt g 0 0).1 b cnt' g' ∧ mt_F (mr_X β μ ν) G G' O O' sz sz)) (G1) (sz) (12) [some (.ref β), some (.int (nI cnt)), some (.int (nI k)), some (.int (nI (cnt - d)))] [] := by
    intro d
    induction d with
    | zero =>
      intro f1 cn1 g1 k n G1 O1 hB1 hf1 hk hn hd hcl hF
      have hB1c := hB1
      obtain ⟨⟨⟨⟨hK1, -⟩, -⟩, r41, -⟩, ⟨t11, -⟩, -⟩ := hB1c
      have k11 := t11.K
      have s11 := t11.s
      refine mz_sn_ok hC tk_X0_removeAllThatMay pk_RX0 2 [] rfl (by (repeat' apply And.intro) <;> first | exact True.intro | assumption | (simp only [mz_cm1, mz_c0, mz_c1, mz_c2, mz_c3, mz_c4, mz_c5, mz_c6, mz_c7, mz_c8, mz_c10, mz_c17, mz_c20, mz_c28, mz_c58, mz_c63, mz_c98, mz_c294, mz_c526, mz_c532, mz_c540, mz_c999, mz_c1900, mz_c2403, mz_c29362, mz_c29363, mz_c29364, mz_c29390, mz_c29393, mz_c29394, mz_c29398, mz_c29399, mz_c29400, mz_c29401, nI_add, pk_mul, pk_m1, mz_pp, mz_pq]; done) | omega | (simp only [mz_cm1, mz_c0, mz_c1, mz_c2, mz_c3, mz_c4, mz_c5, mz_c6, mz_c7, mz_c8, mz_c10, mz_c17, mz_c20, mz_c28, mz_c58, mz_c63, mz_c98, mz_c294, mz_c526, mz_c532, mz_c540, mz_c999, mz_c1900, mz_c2403, mz_c29362, mz_c29363, mz_c29364, mz_c29390, mz_c29393, mz_c29394, mz_c29398, mz_c29399, mz_c29400, mz_c29401, nI_add, pk_mul, pk_m1, mz_pp, mz_pq]; congr 1; omega)) ?_
      try simp only [mz_c0, mz_cm1]
      refine mz_br_t hC tk_X0_removeAllThatMay rfl ((by show nI cnt ≤ nI (cnt - 0); exact nI_le (by omega) (by omega))) ?_
      refine mz_sn_ok hC tk_X0_removeAllThatMay pk_RX0 5 [μ] rfl (by (repeat' apply And.intro) <;> first | exact True.intro | assumption | (simp only [mz_cm1, mz_c0, mz_c1, mz_c2, mz_c3, mz_c4, mz_c5, mz_c6, mz_c7, mz_c8, mz_c10, mz_c17, mz_c20, mz_c28, mz_c58, mz_c63, mz_c98, mz_c294, mz_c526, mz_c532, mz_c540, mz_c999, mz_c1900, mz_c2403, mz_c29362, mz_c29363, mz_c29364, mz_c29390, mz_c29393, mz_c29394, mz_c29398, mz_c29399, mz_c29400, mz_c29401, nI_add, pk_mul, pk_m1, mz_pp, mz_pq, s11]; done) | omega | (simp only [mz_cm1, mz_c0, mz_c1, mz_c2, mz_c3, mz_c4, mz_c5, mz_c6, mz_c7, mz_c8, mz_c10, mz_c17, mz_c20, mz_c28, mz_c58, mz_c63, mz_c98, mz_c294, mz_c526, mz_c532, mz_c540, mz_c999, mz_c1900, mz_c2403, mz_c29362, mz_c29363, mz_c29364, mz_c29390, mz_c29393, mz_c29394, mz_c29398, mz_c29399, mz_c29400, mz_c29401, nI_add, pk_mul, pk_m1, mz_pp, mz_pq, s11]; congr 1; omega)) ?_
      try simp only [mz_c0, mz_cm1, s11]
      refine mz_Vireturn hC tk_X0_removeAllThatMay rfl hret rfl (Nat.le_of_ble_eq_true rfl) (Nat.le_of_ble_eq_true rfl) ?_
      refine ⟨?_, rfl, O1, cn1, g1, ?_, hF⟩
      · rw [mz_subI (by omega), ← hcl]
        show some (Value.int (nI (cnt - cn1))) = some (.int (nI n))
        rw [show cnt - cn1 = n by omega]
      · rw [← hcl]; exact hB1
    | succ d ih =>
      intro f1 cn1 g1 k n G1 O1 hB1 hf1 hk hn hd hcl hF
      have hB1c := hB1
      obtain ⟨⟨⟨⟨hK1, -⟩, -⟩, r41, -⟩, ⟨t11, t21⟩, -⟩ := hB1c
      obtain ⟨c120, -, -⟩ := t11.b
      obtain ⟨g16, -, -⟩ := t21.b
      obtain ⟨v, hv, hfv⟩ := hf1 k (by omega)
      refine mz_sn_ok hC tk_X0_removeAllThatMay pk_RX0 2 [] rfl (by (repeat' apply And.intro) <;> first | exact True.intro | assumption | (simp only [mz_cm1, mz_c0, mz_c1, mz_c2, mz_c3, mz_c4, mz_c5, mz_c6, mz_c7, mz_c8, mz_c10, mz_c17, mz_c20, mz_c28, mz_c58, mz_c63, mz_c98, mz_c294, mz_c526, mz_c532, mz_c540, mz_c999, mz_c1900, mz_c2403, mz_c29362, mz_c29363, mz_c29364, mz_c29390, mz_c29393, mz_c29394, mz_c29398, mz_c29399, mz_c29400, mz_c29401, nI_add, pk_mul, pk_m1, mz_pp, mz_pq]; done) | omega | (simp only [mz_cm1, mz_c0, mz_c1, mz_c2, mz_c3, mz_c4, mz_c5, mz_c6, mz_c7, mz_c8, mz_c10, mz_c17, mz_c20, mz_c28, mz_c58, mz_c63, mz_c98, mz_c294, mz_c526, mz_c532, mz_c540, mz_c999, mz_c1900, mz_c2403, mz_c29362, mz_c29363, mz_c29364, mz_c29390, mz_c29393, mz_c29394, mz_c29398, mz_c29399, mz_c29400, mz_c29401, nI_add, pk_mul, pk_m1, mz_pp, mz_pq]; congr 1; omega)) ?_
      try simp only [mz_c0, mz_cm1]
      refine mz_br_f hC tk_X0_removeAllThatMay rfl ((by show ¬ nI cnt ≤ nI (cnt - (d + 1)); exact nI_ge (by omega) (by omega))) ?_
      refine mz_sn_ok hC tk_X0_removeAllThatMay pk_RX0 2 [] rfl (by (repeat' apply And.intro) <;> first | exact True.intro | assumption | (simp only [mz_cm1, mz_c0, mz_c1, mz_c2, mz_c3, mz_c4, mz_c5, mz_c6, mz_c7, mz_c8, mz_c10, mz_c17, mz_c20, mz_c28, mz_c58, mz_c63, mz_c98, mz_c294, mz_c526, mz_c532, mz_c540, mz_c999, mz_c1900, mz_c2403, mz_c29362, mz_c29363, mz_c29364, mz_c29390, mz_c29393, mz_c29394, mz_c29398, mz_c29399, mz_c29400, mz_c29401, nI_add, pk_mul, pk_m1, mz_pp, mz_pq]; done) | omega | (simp only [mz_cm1, mz_c0, mz_c1, mz_c2, mz_c3, mz_c4, mz_c5, mz_c6, mz_c7, mz_c8, mz_c10, mz_c17, mz_c20, mz_c28, mz_c58, mz_c63, mz_c98, mz_c294, mz_c526, mz_c532, mz_c540, mz_c999, mz_c1900, mz_c2403, mz_c29362, mz_c29363, mz_c29364, mz_c29390, mz_c29393, mz_c29394, mz_c29398, mz_c29399, mz_c29400, mz_c29401, nI_add, pk_mul, pk_m1, mz_pp, mz_pq]; congr 1; omega)) ?_
      try simp only [mz_c0, mz_cm1]
      refine mz_Vcv hC tk_X0_removeAllThatMay rfl md_X0_mayRemove lk_RX0_58 rfl (cb_mayRemove l E hB1 k (by omega)) (by show (vwCl[mz_K _ _]?).map _ = _; rw [hK1]; rfl) ⟨Nat.le_of_ble_eq_true rfl, Nat.le_of_ble_eq_true rfl⟩ ⟨Nat.le_of_ble_eq_true rfl, Nat.le_of_ble_eq_true rfl⟩ (Nat.le_of_ble_eq_true rfl) (fun v9 G9 sz9 hp9 => ?_)
      obtain ⟨rfl, hG9, hs9⟩ := hp9
      rw [hG9, ← hs9, hfv]
      by_cases hbit : nI v &&& nI 1 = 0
      · rw [if_pos hbit]
        refine mz_br_t hC tk_X0_removeAllThatMay rfl ((by show (0 : Int32) = 0; rfl)) ?_
        refine mz_sn_ok hC tk_X0_removeAllThatMay pk_RX0 3 [] rfl (by (repeat' apply And.intro) <;> first | exact True.intro | assumption | (simp only [mz_cm1, mz_c0, mz_c1, mz_c2, mz_c3, mz_c4, mz_c5, mz_c6, mz_c7, mz_c8, mz_c10, mz_c17, mz_c20, mz_c28, mz_c58, mz_c63, mz_c98, mz_c294, mz_c526, mz_c532, mz_c540, mz_c999, mz_c1900, mz_c2403, mz_c29362, mz_c29363, mz_c29364, mz_c29390, mz_c29393, mz_c29394, mz_c29398, mz_c29399, mz_c29400, mz_c29401, nI_add, pk_mul, pk_m1, mz_pp, mz_pq]; done) | omega | (simp only [mz_cm1, mz_c0, mz_c1, mz_c2, mz_c3, mz_c4, mz_c5, mz_c6, mz_c7, mz_c8, mz_c10, mz_c17, mz_c20, mz_c28, mz_c58, mz_c63, mz_c98, mz_c294, mz_c526, mz_c532, mz_c540, mz_c999, mz_c1900, mz_c2403, mz_c29362, mz_c29363, mz_c29364, mz_c29390, mz_c29393, mz_c29394, mz_c29398, mz_c29399, mz_c29400, mz_c29401, nI_add, pk_mul, pk_m1, mz_pp, mz_pq]; congr 1; omega)) ?_
        try simp only [mz_c0, mz_cm1]
        refine mz_V.sub (lv' := [some (.ref β), some (.int (nI cnt)), some (.int (nI (k + 1))), some (.int (nI (cnt - (d + 1) + 1)))]) (by (repeat' apply And.intro) <;> first | with_reducible rfl | exact True.intro | (simp only [mz_cm1, mz_c0, mz_c1, mz_c2, mz_c3, mz_c4, mz_c5, mz_c6, mz_c7, mz_c8, mz_c10, mz_c17, mz_c20, mz_c28, mz_c58, mz_c63, mz_c98, mz_c294, mz_c526, mz_c532, mz_c540, mz_c999, mz_c1900, mz_c2403, mz_c29362, mz_c29363, mz_c29364, mz_c29390, mz_c29393, mz_c29394, mz_c29398, mz_c29399, mz_c29400, mz_c29401, nI_add, pk_mul, pk_m1, mz_pp, mz_pq]; done) | rfl) ?_
        rw [show cnt - (d + 1) + 1 = cnt - d by omega]
        refine ih f1 cn1 g1 (k + 1) n G1 O1 hB1 hf1 (by omega) hn (by omega) ?_ hF
        rw [← hcl]
        show _ = mx_cl (d + 1) f1 b cn1 g1 k n
        unfold mx_cl
        rw [hfv, if_neg (fun z => ((mz_bit v hv).1.mp z) hbit)]
        cases d <;> rfl
      · rw [if_neg hbit]
        refine mz_br_f hC tk_X0_removeAllThatMay rfl ((by show ¬ (1 : Int32) = 0; decide)) ?_
        refine mz_sn_ok hC tk_X0_removeAllThatMay pk_RX0 2 [] rfl (by (repeat' apply And.intro) <;> first | exact True.intro | assumption | (simp only [mz_cm1, mz_c0, mz_c1, mz_c2, mz_c3, mz_c4, mz_c5, mz_c6, mz_c7, mz_c8, mz_c10, mz_c17, mz_c20, mz_c28, mz_c58, mz_c63, mz_c98, mz_c294, mz_c526, mz_c532, mz_c540, mz_c999, mz_c1900, mz_c2403, mz_c29362, mz_c29363, mz_c29364, mz_c29390, mz_c29393, mz_c29394, mz_c29398, mz_c29399, mz_c29400, mz_c29401, nI_add, pk_mul, pk_m1, mz_pp, mz_pq]; done) | omega | (simp only [mz_cm1, mz_c0, mz_c1, mz_c2, mz_c3, mz_c4, mz_c5, mz_c6, mz_c7, mz_c8, mz_c10, mz_c17, mz_c20, mz_c28, mz_c58, mz_c63, mz_c98, mz_c294, mz_c526, mz_c532, mz_c540, mz_c999, mz_c1900, mz_c2403, mz_c29362, mz_c29363, mz_c29364, mz_c29390, mz_c29393, mz_c29394, mz_c29398, mz_c29399, mz_c29400, mz_c29401, nI_add, pk_mul, pk_m1, mz_pp, mz_pq]; congr 1; omega)) ?_
        try simp only [mz_c0, mz_cm1]
        refine mz_Vcv hC tk_X0_removeAllThatMay rfl md_X0_removeMessage lk_RX0_61 rfl (cb_removeMessage l E hB1 hb k (by omega)) (by show (vwCl[mz_K _ _]?).map _ = _; rw [hK1]; rfl) ⟨Nat.le_of_ble_eq_true rfl, Nat.le_of_ble_eq_true rfl⟩ ⟨Nat.le_of_ble_eq_true rfl, Nat.le_of_ble_eq_true rfl⟩ (Nat.le_of_ble_eq_true rfl) (fun v9 G9 sz9 hp9 => ?_)
        obtain ⟨rfl, hs10, O2, hB2, hF2⟩ := hp9
        rw [← hs10]
        refine mz_sn_ok hC tk_X0_removeAllThatMay pk_RX0 3 [] rfl (by (repeat' apply And.intro) <;> first | exact True.intro | assumption | (simp only [mz_cm1, mz_c0, mz_c1, mz_c2, mz_c3, mz_c4, mz_c5, mz_c6, mz_c7, mz_c8, mz_c10, mz_c17, mz_c20, mz_c28, mz_c58, mz_c63, mz_c98, mz_c294, mz_c526, mz_c532, mz_c540, mz_c999, mz_c1900, mz_c2403, mz_c29362, mz_c29363, mz_c29364, mz_c29390, mz_c29393, mz_c29394, mz_c29398, mz_c29399, mz_c29400, mz_c29401, nI_add, pk_mul, pk_m1, mz_pp, mz_pq]; done) | omega | (simp only [mz_cm1, mz_c0, mz_c1, mz_c2, mz_c3, mz_c4, mz_c5, mz_c6, mz_c7, mz_c8, mz_c10, mz_c17, mz_c20, mz_c28, mz_c58, mz_c63, mz_c98, mz_c294, mz_c526, mz_c532, mz_c540, mz_c999, mz_c1900, mz_c2403, mz_c29362, mz_c29363, mz_c29364, mz_c29390, mz_c29393, mz_c29394, mz_c29398, mz_c29399, mz_c29400, mz_c29401, nI_add, pk_mul, pk_m1, mz_pp, mz_pq]; congr 1; omega)) ?_
        try simp only [mz_c0, mz_cm1]
        refine mz_V.sub (lv' := [some (.ref β), some (.int (nI cnt)), some (.int (nI k)), some (.int (nI (cnt - (d + 1) + 1)))]) (by (repeat' apply And.intro) <;> first | with_reducible rfl | exact True.intro | (simp only [mz_cm1, mz_c0, mz_c1, mz_c2, mz_c3, mz_c4, mz_c5, mz_c6, mz_c7, mz_c8, mz_c10, mz_c17, mz_c20, mz_c28, mz_c58, mz_c63, mz_c98, mz_c294, mz_c526, mz_c532, mz_c540, mz_c999, mz_c1900, mz_c2403, mz_c29362, mz_c29363, mz_c29364, mz_c29390, mz_c29393, mz_c29394, mz_c29398, mz_c29399, mz_c29400, mz_c29401, nI_add, pk_mul, pk_m1, mz_pp, mz_pq]; done) | rfl) ?_
        rw [show cnt - (d + 1) + 1 = cnt - d by omega]
        refine ih _ (cn1 - 1) (mx_g1 g1) k (n + 1) _ O2 hB2 (mr_rm_fl c120 g16 (by omega) hf1) (by omega) (by omega) (by omega) ?_ (hF.tr hF2)
        rw [← hcl]
        show _ = mx_cl (d + 1) f1 b cn1 g1 k n
        conv => rhs; unfold mx_cl
        rw [hfv, if_pos ((mz_bit v hv).1.mpr hbit)]
  refine mz_sn_ok hC tk_X0_removeAllThatMay pk_RX0 8 [μ] rfl (by (repeat' apply And.intro) <;> first | exact True.intro | assumption | (simp only [mz_cm1, mz_c0, mz_c1, mz_c2, mz_c3, mz_c4, mz_c5, mz_c6, mz_c7, mz_c8, mz_c10, mz_c17, mz_c20, mz_c28, mz_c58, mz_c63, mz_c98, mz_c294, mz_c526, mz_c532, mz_c540, mz_c999, mz_c1900, mz_c2403, mz_c29362, mz_c29363, mz_c29364, mz_c29390, mz_c29393, mz_c29394, mz_c29398, mz_c29399, mz_c29400, mz_c29401, nI_add, pk_mul, pk_m1, mz_pp, mz_pq, s1]; done) | omega | (simp only [mz_cm1, mz_c0, mz_c1, mz_c2, mz_c3, mz_c4, mz_c5, mz_c6, mz_c7, mz_c8, mz_c10, mz_c17, mz_c20, mz_c28, mz_c58, mz_c63, mz_c98, mz_c294, mz_c526, mz_c532, mz_c540, mz_c999, mz_c1900, mz_c2403, mz_c29362, mz_c29363, mz_c29364, mz_c29390, mz_c29393, mz_c29394, mz_c29398, mz_c29399, mz_c29400, mz_c29401, nI_add, pk_mul, pk_m1, mz_pp, mz_pq, s1]; congr 1; omega)) ?_
  try simp only [mz_c0, mz_cm1, s1]
  refine mz_V.sub (lv' := [some (.ref β), some (.int (nI cnt)), some (.int (nI 0)), some (.int (nI 0))]) (by (repeat' apply And.intro) <;> first | with_reducible rfl | exact True.intro | (simp only [mz_cm1, mz_c0, mz_c1, mz_c2, mz_c3, mz_c4, mz_c5, mz_c6, mz_c7, mz_c8, mz_c10, mz_c17, mz_c20, mz_c28, mz_c58, mz_c63, mz_c98, mz_c294, mz_c526, mz_c532, mz_c540, mz_c999, mz_c1900, mz_c2403, mz_c29362, mz_c29363, mz_c29364, mz_c29390, mz_c29393, mz_c29394, mz_c29398, mz_c29399, mz_c29400, mz_c29401, nI_add, pk_mul, pk_m1, mz_pp, mz_pq]; done) | rfl) ?_
  have := loop cnt f cnt g 0 0 G O hB hfl (by omega) (by omega) (Nat.le_refl _) rfl mt_F.rf
  rw [Nat.sub_self] at this
  exact this
theorem cb_beginEra (hB : mr_B G O sz β μ ν f b cnt g) : mz_M l E yX0_beginEra cX0_beginEra 2 none 2 0 0 [.ref β] G sz (fun v' G' sz' => v' = none ∧ sz = sz' ∧ mr_B G' O sz β μ ν (mx_rn f b cnt) b cnt 0 ∧ mt_F (mr_X β μ ν) G G' O O sz sz) := by
  have hB0 := hB
  obtain ⟨⟨⟨⟨hK, hO, hs⟩, i0, i1, i2, i3⟩, r4, -⟩, ⟨t1, -⟩, -⟩ := hB0
  obtain ⟨c20, -, -⟩ := t1.b
  have e2 : ∀ u, mz_i (mz_si G β 0 u) β 2 = f (98 * b + 2) := fun u => by show mz_u2 (mz_i G) β 0 u β 2 = _; rw [mz_u2_j _ _ _ _ (by omega), i2]
  refine mz_start (by decide) (Nat.le_of_ble_eq_true rfl) ?_
  intro p e s m args below meth c hC hret hnm
  refine mz_sn_ok hC tk_X0_beginEra pk_RX0 12 [] rfl (by (repeat' apply And.intro) <;> first | exact True.intro | assumption | (simp only [mz_cm1, mz_c0, mz_c1, mz_c2, mz_c3, mz_c4, mz_c5, mz_c6, mz_c7, mz_c8, mz_c10, mz_c17, mz_c20, mz_c28, mz_c58, mz_c63, mz_c98, mz_c294, mz_c526, mz_c532, mz_c540, mz_c999, mz_c1900, mz_c2403, mz_c29362, mz_c29363, mz_c29364, mz_c29390, mz_c29393, mz_c29394, mz_c29398, mz_c29399, mz_c29400, mz_c29401, nI_add, pk_mul, pk_m1, mz_pp, mz_pq, i0, e2]; done) | omega | (simp only [mz_cm1, mz_c0, mz_c1, mz_c2, mz_c3, mz_c4, mz_c5, mz_c6, mz_c7, mz_c8, mz_c10, mz_c17, mz_c20, mz_c28, mz_c58, mz_c63, mz_c98, mz_c294, mz_c526, mz_c532, mz_c540, mz_c999, mz_c1900, mz_c2403, mz_c29362, mz_c29363, mz_c29364, mz_c29390, mz_c29393, mz_c29394, mz_c29398, mz_c29399, mz_c29400, mz_c29401, nI_add, pk_mul, pk_m1, mz_pp, mz_pq, i0, e2]; congr 1; omega)) ?_
  try simp only [mz_c0, mz_cm1, i0, e2]
  obtain ⟨hB1, hF1⟩ := hB.si 0 (by omega) (f (98 * b + 0) + mz_c 1)
  obtain ⟨hB2, hF2⟩ := hB1.si 2 (by omega) (f (98 * b + 2) + mz_c 1)
  obtain ⟨G2, hG2⟩ : ∃ G2, G2 = mz_si (mz_si G β 0 (f (98 * b + 0) + mz_c 1)) β 2 (f (98 * b + 2) + mz_c 1) := ⟨_, rfl⟩
  rw [← hG2] at hB2 hF2 ⊢
  have hFa : mt_F (mr_X β μ ν) G G2 O O sz sz := (hF1.mono (fun q hq => Or.inl hq)).tr (hF2.mono (fun q hq => Or.inl hq))
  obtain ⟨f2, hf2⟩ : ∃ f2, f2 = mz_u1 (mz_u1 f (98 * b + 0) (f (98 * b + 0) + 1)) (98 * b + 2) (f (98 * b + 2) + 1) := ⟨_, rfl⟩
  have hm2 : f2 (98 * b + 2) = f (98 * b + 2) + 1 := by rw [hf2, mz_u1_s]
  have hB2' : mr_B G2 O sz β μ ν f2 b cnt g := by rw [hf2]; exact hB2
  have loop : ∀ (d k : Nat) (G3 : mz_G), k + d = cnt → mr_B G3 O sz β μ ν (mx_rl f2 (98 * b + 17) (f (98 * b + 2) + 1) k) b cnt g → mt_F (mr_X β μ ν) G G3 O O sz sz → mz_V E p l e (mz_rm 2 0 0) s m args below meth c 2 (0) (0) (mz_Z E below args s 0 0 (fun v' G' sz' => v' = none ∧ sz = sz' ∧ mr_B G' O sz β μ ν (mx_rn f b cnt) b cnt 0 ∧ mt_F (mr_X β μ ν) G G' O O sz sz)) (G3) (sz) (22) [some (.ref β), some (.int (nI k))] [] := by
    intro d
    induction d with
    | zero =>
      intro k G3 hk hB3 hF3
      rw [show k = cnt by omega] at hB3 ⊢
      have hB3c := hB3
      obtain ⟨⟨⟨⟨hK3, -⟩, -, -, i23, -⟩, r43, -⟩, ⟨t13, -⟩, -⟩ := hB3c
      have k13 := t13.K
      have s13 := t13.s
      rw [mx_rl_o f2 _ _ (by omega), hm2] at i23
      refine mz_sn_ok hC tk_X0_beginEra pk_RX0 4 [μ] rfl (by (repeat' apply And.intro) <;> first | exact True.intro | assumption | (simp only [mz_cm1, mz_c0, mz_c1, mz_c2, mz_c3, mz_c4, mz_c5, mz_c6, mz_c7, mz_c8, mz_c10, mz_c17, mz_c20, mz_c28, mz_c58, mz_c63, mz_c98, mz_c294, mz_c526, mz_c532, mz_c540, mz_c999, mz_c1900, mz_c2403, mz_c29362, mz_c29363, mz_c29364, mz_c29390, mz_c29393, mz_c29394, mz_c29398, mz_c29399, mz_c29400, mz_c29401, nI_add, pk_mul, pk_m1, mz_pp, mz_pq, s13]; done) | omega | (simp only [mz_cm1, mz_c0, mz_c1, mz_c2, mz_c3, mz_c4, mz_c5, mz_c6, mz_c7, mz_c8, mz_c10, mz_c17, mz_c20, mz_c28, mz_c58, mz_c63, mz_c98, mz_c294, mz_c526, mz_c532, mz_c540, mz_c999, mz_c1900, mz_c2403, mz_c29362, mz_c29363, mz_c29364, mz_c29390, mz_c29393, mz_c29394, mz_c29398, mz_c29399, mz_c29400, mz_c29401, nI_add, pk_mul, pk_m1, mz_pp, mz_pq, s13]; congr 1; omega)) ?_
      try simp only [mz_c0, mz_cm1, s13]
      refine mz_br_t hC tk_X0_beginEra rfl ((by show nI cnt ≤ nI cnt; exact nI_le (by omega) (by omega))) ?_
      obtain ⟨hB4, hF4⟩ := hB3.si 1 (by omega) (nI cnt + mz_c 1)
      have hB4c := hB4
      obtain ⟨⟨⟨⟨hK4, -⟩, -⟩, -, r54, -⟩, ⟨-, t24⟩, -⟩ := hB4c
      have k24 := t24.K
      refine mz_sn_ok hC tk_X0_beginEra pk_RX0 9 [μ, ν] rfl (by (repeat' apply And.intro) <;> first | exact True.intro | assumption | (simp only [mz_cm1, mz_c0, mz_c1, mz_c2, mz_c3, mz_c4, mz_c5, mz_c6, mz_c7, mz_c8, mz_c10, mz_c17, mz_c20, mz_c28, mz_c58, mz_c63, mz_c98, mz_c294, mz_c526, mz_c532, mz_c540, mz_c999, mz_c1900, mz_c2403, mz_c29362, mz_c29363, mz_c29364, mz_c29390, mz_c29393, mz_c29394, mz_c29398, mz_c29399, mz_c29400, mz_c29401, nI_add, pk_mul, pk_m1, mz_pp, mz_pq, s13]; done) | omega | (simp only [mz_cm1, mz_c0, mz_c1, mz_c2, mz_c3, mz_c4, mz_c5, mz_c6, mz_c7, mz_c8, mz_c10, mz_c17, mz_c20, mz_c28, mz_c58, mz_c63, mz_c98, mz_c294, mz_c526, mz_c532, mz_c540, mz_c999, mz_c1900, mz_c2403, mz_c29362, mz_c29363, mz_c29364, mz_c29390, mz_c29393, mz_c29394, mz_c29398, mz_c29399, mz_c29400, mz_c29401, nI_add, pk_mul, pk_m1, mz_pp, mz_pq, s13]; congr 1; omega)) ?_
      try simp only [mz_c0, mz_cm1, s13]
      obtain ⟨G4, hG4⟩ : ∃ G4, G4 = mz_si G3 β 1 (nI cnt + mz_c 1) := ⟨_, rfl⟩
      rw [← hG4] at hB4 hF4 t24 k24 ⊢
      refine mz_Vcv hC tk_X0_beginEra rfl md_X4_eraseAll lk_RX0_64 rfl (ct_eraseAll l E t24) (by show (vwCl[mz_K _ _]?).map _ = _; rw [k24]; rfl) ⟨Nat.le_of_ble_eq_true rfl, Nat.le_of_ble_eq_true rfl⟩ ⟨Nat.le_of_ble_eq_true rfl, Nat.le_of_ble_eq_true rfl⟩ (Nat.le_of_ble_eq_true rfl) (fun v9 G9 sz9 hp9 => ?_)
      obtain ⟨rfl, hs5, t25, hF5⟩ := hp9
      rw [← hs5]
      have hB5 := hB4.lost0 hF5 t25
      have hB5c := hB5
      obtain ⟨⟨⟨⟨hK5, -⟩, -, -, i25, -⟩, -⟩, -⟩ := hB5c
      rw [mz_u1_o _ _ (by omega), mz_u1_o _ _ (by omega), mx_rl_o f2 _ _ (by omega), hm2] at i25
      refine mz_sn_ok hC tk_X0_beginEra pk_RX0 4 [] rfl (by (repeat' apply And.intro) <;> first | exact True.intro | assumption | (simp only [mz_cm1, mz_c0, mz_c1, mz_c2, mz_c3, mz_c4, mz_c5, mz_c6, mz_c7, mz_c8, mz_c10, mz_c17, mz_c20, mz_c28, mz_c58, mz_c63, mz_c98, mz_c294, mz_c526, mz_c532, mz_c540, mz_c999, mz_c1900, mz_c2403, mz_c29362, mz_c29363, mz_c29364, mz_c29390, mz_c29393, mz_c29394, mz_c29398, mz_c29399, mz_c29400, mz_c29401, nI_add, pk_mul, pk_m1, mz_pp, mz_pq, i25]; done) | omega | (simp only [mz_cm1, mz_c0, mz_c1, mz_c2, mz_c3, mz_c4, mz_c5, mz_c6, mz_c7, mz_c8, mz_c10, mz_c17, mz_c20, mz_c28, mz_c58, mz_c63, mz_c98, mz_c294, mz_c526, mz_c532, mz_c540, mz_c999, mz_c1900, mz_c2403, mz_c29362, mz_c29363, mz_c29364, mz_c29390, mz_c29393, mz_c29394, mz_c29398, mz_c29399, mz_c29400, mz_c29401, nI_add, pk_mul, pk_m1, mz_pp, mz_pq, i25]; congr 1; omega)) ?_
      try simp only [mz_c0, mz_cm1, i25]
      obtain ⟨hB6, hF6⟩ := hB5.si 3 (by omega) (f (98 * b + 2) + 1)
      refine mz_Vreturn hC tk_X0_beginEra rfl hret (Nat.le_of_ble_eq_true rfl) (Nat.le_of_ble_eq_true rfl) ?_
      refine ⟨rfl, rfl, ?_, hF3.tr ((hF4.mono (fun q hq => Or.inl hq)).tr ((hF5.mono (fun q hq => Or.inr (Or.inr hq))).tr (hF6.mono (fun q hq => Or.inl hq))))⟩
      unfold mx_rn
      rw [← hf2]
      rw [mz_c1, nI_add] at hB6
      exact hB6
    | succ d ih =>
      intro k G3 hk hB3 hF3
      have hB3c := hB3
      obtain ⟨⟨⟨⟨hK3, -⟩, -, -, i23, -⟩, r43, -⟩, ⟨t13, -⟩, -⟩ := hB3c
      have k13 := t13.K
      have s13 := t13.s
      refine mz_sn_ok hC tk_X0_beginEra pk_RX0 4 [μ] rfl (by (repeat' apply And.intro) <;> first | exact True.intro | assumption | (simp only [mz_cm1, mz_c0, mz_c1, mz_c2, mz_c3, mz_c4, mz_c5, mz_c6, mz_c7, mz_c8, mz_c10, mz_c17, mz_c20, mz_c28, mz_c58, mz_c63, mz_c98, mz_c294, mz_c526, mz_c532, mz_c540, mz_c999, mz_c1900, mz_c2403, mz_c29362, mz_c29363, mz_c29364, mz_c29390, mz_c29393, mz_c29394, mz_c29398, mz_c29399, mz_c29400, mz_c29401, nI_add, pk_mul, pk_m1, mz_pp, mz_pq, s13]; done) | omega | (simp only [mz_cm1, mz_c0, mz_c1, mz_c2, mz_c3, mz_c4, mz_c5, mz_c6, mz_c7, mz_c8, mz_c10, mz_c17, mz_c20, mz_c28, mz_c58, mz_c63, mz_c98, mz_c294, mz_c526, mz_c532, mz_c540, mz_c999, mz_c1900, mz_c2403, mz_c29362, mz_c29363, mz_c29364, mz_c29390, mz_c29393, mz_c29394, mz_c29398, mz_c29399, mz_c29400, mz_c29401, nI_add, pk_mul, pk_m1, mz_pp, mz_pq, s13]; congr 1; omega)) ?_
      try simp only [mz_c0, mz_cm1, s13]
      refine mz_br_f hC tk_X0_beginEra rfl ((by show ¬ nI cnt ≤ nI k; exact nI_ge (by omega) (by omega))) ?_
      refine mz_sn_ok hC tk_X0_beginEra pk_RX0 7 [μ] rfl (by (repeat' apply And.intro) <;> first | exact True.intro | assumption | (simp only [mz_cm1, mz_c0, mz_c1, mz_c2, mz_c3, mz_c4, mz_c5, mz_c6, mz_c7, mz_c8, mz_c10, mz_c17, mz_c20, mz_c28, mz_c58, mz_c63, mz_c98, mz_c294, mz_c526, mz_c532, mz_c540, mz_c999, mz_c1900, mz_c2403, mz_c29362, mz_c29363, mz_c29364, mz_c29390, mz_c29393, mz_c29394, mz_c29398, mz_c29399, mz_c29400, mz_c29401, nI_add, pk_mul, pk_m1, mz_pp, mz_pq, mz_c1, nI_add]; done) | omega | (simp only [mz_cm1, mz_c0, mz_c1, mz_c2, mz_c3, mz_c4, mz_c5, mz_c6, mz_c7, mz_c8, mz_c10, mz_c17, mz_c20, mz_c28, mz_c58, mz_c63, mz_c98, mz_c294, mz_c526, mz_c532, mz_c540, mz_c999, mz_c1900, mz_c2403, mz_c29362, mz_c29363, mz_c29364, mz_c29390, mz_c29393, mz_c29394, mz_c29398, mz_c29399, mz_c29400, mz_c29401, nI_add, pk_mul, pk_m1, mz_pp, mz_pq, mz_c1, nI_add]; congr 1; omega)) ?_
      try simp only [mz_c0, mz_cm1, mz_c1, nI_add]
      refine mz_Vcv hC tk_X0_beginEra rfl md_X4_put lk_RX0_47 rfl (ct_put l E t13 k 0 (nI (k + 1)) (by omega) (by omega)) (by show (vwCl[mz_K _ _]?).map _ = _; rw [k13]; rfl) ⟨Nat.le_of_ble_eq_true rfl, Nat.le_of_ble_eq_true rfl⟩ ⟨Nat.le_of_ble_eq_true rfl, Nat.le_of_ble_eq_true rfl⟩ (Nat.le_of_ble_eq_true rfl) (fun v9 G9 sz9 hp9 => ?_)
      obtain ⟨rfl, hs4, t14, hF4⟩ := hp9
      rw [← hs4]
      have hB4 := hB3.put hF4 (show k < cnt by omega) (by omega) t14
      have hB4c := hB4
      obtain ⟨⟨⟨⟨hK4, -⟩, -, -, i24, -⟩, r44, -⟩, ⟨t14', -⟩, -⟩ := hB4c
      have k14 := t14.K
      rw [mz_u1_o _ _ (by omega), mx_rl_o f2 _ _ (by omega), hm2] at i24
      refine mz_sn_ok hC tk_X0_beginEra pk_RX0 6 [μ] rfl (by (repeat' apply And.intro) <;> first | exact True.intro | assumption | (simp only [mz_cm1, mz_c0, mz_c1, mz_c2, mz_c3, mz_c4, mz_c5, mz_c6, mz_c7, mz_c8, mz_c10, mz_c17, mz_c20, mz_c28, mz_c58, mz_c63, mz_c98, mz_c294, mz_c526, mz_c532, mz_c540, mz_c999, mz_c1900, mz_c2403, mz_c29362, mz_c29363, mz_c29364, mz_c29390, mz_c29393, mz_c29394, mz_c29398, mz_c29399, mz_c29400, mz_c29401, nI_add, pk_mul, pk_m1, mz_pp, mz_pq, i24]; done) | omega | (simp only [mz_cm1, mz_c0, mz_c1, mz_c2, mz_c3, mz_c4, mz_c5, mz_c6, mz_c7, mz_c8, mz_c10, mz_c17, mz_c20, mz_c28, mz_c58, mz_c63, mz_c98, mz_c294, mz_c526, mz_c532, mz_c540, mz_c999, mz_c1900, mz_c2403, mz_c29362, mz_c29363, mz_c29364, mz_c29390, mz_c29393, mz_c29394, mz_c29398, mz_c29399, mz_c29400, mz_c29401, nI_add, pk_mul, pk_m1, mz_pp, mz_pq, i24]; congr 1; omega)) ?_
      try simp only [mz_c0, mz_cm1, i24]
      refine mz_Vcv hC tk_X0_beginEra rfl md_X4_put lk_RX0_47 rfl (ct_put l E t14' k 3 (f (98 * b + 2) + 1) (by omega) (by omega)) (by show (vwCl[mz_K _ _]?).map _ = _; rw [k14]; rfl) ⟨Nat.le_of_ble_eq_true rfl, Nat.le_of_ble_eq_true rfl⟩ ⟨Nat.le_of_ble_eq_true rfl, Nat.le_of_ble_eq_true rfl⟩ (Nat.le_of_ble_eq_true rfl) (fun v9 G9 sz9 hp9 => ?_)
      obtain ⟨rfl, hs5, t15, hF5⟩ := hp9
      rw [← hs5]
      have hB5 := hB4.put hF5 (show k < cnt by omega) (by omega) t15
      refine mz_sn_ok hC tk_X0_beginEra pk_RX0 2 [] rfl (by (repeat' apply And.intro) <;> first | exact True.intro | assumption | (simp only [mz_cm1, mz_c0, mz_c1, mz_c2, mz_c3, mz_c4, mz_c5, mz_c6, mz_c7, mz_c8, mz_c10, mz_c17, mz_c20, mz_c28, mz_c58, mz_c63, mz_c98, mz_c294, mz_c526, mz_c532, mz_c540, mz_c999, mz_c1900, mz_c2403, mz_c29362, mz_c29363, mz_c29364, mz_c29390, mz_c29393, mz_c29394, mz_c29398, mz_c29399, mz_c29400, mz_c29401, nI_add, pk_mul, pk_m1, mz_pp, mz_pq]; done) | omega | (simp only [mz_cm1, mz_c0, mz_c1, mz_c2, mz_c3, mz_c4, mz_c5, mz_c6, mz_c7, mz_c8, mz_c10, mz_c17, mz_c20, mz_c28, mz_c58, mz_c63, mz_c98, mz_c294, mz_c526, mz_c532, mz_c540, mz_c999, mz_c1900, mz_c2403, mz_c29362, mz_c29363, mz_c29364, mz_c29390, mz_c29393, mz_c29394, mz_c29398, mz_c29399, mz_c29400, mz_c29401, nI_add, pk_mul, pk_m1, mz_pp, mz_pq]; congr 1; omega)) ?_
      try simp only [mz_c0, mz_cm1]
      refine mz_V.sub (lv' := [some (.ref β), some (.int (nI (k + 1)))]) (by (repeat' apply And.intro) <;> first | with_reducible rfl | exact True.intro | (simp only [mz_cm1, mz_c0, mz_c1, mz_c2, mz_c3, mz_c4, mz_c5, mz_c6, mz_c7, mz_c8, mz_c10, mz_c17, mz_c20, mz_c28, mz_c58, mz_c63, mz_c98, mz_c294, mz_c526, mz_c532, mz_c540, mz_c999, mz_c1900, mz_c2403, mz_c29362, mz_c29363, mz_c29364, mz_c29390, mz_c29393, mz_c29394, mz_c29398, mz_c29399, mz_c29400, mz_c29401, nI_add, pk_mul, pk_m1, mz_pp, mz_pq]; done) | rfl) ?_
      refine ih (k + 1) _ (by omega) ?_ (hF3.tr ((hF4.mono (fun q hq => Or.inr (Or.inl hq))).tr (hF5.mono (fun q hq => Or.inr (Or.inl hq)))))
      have e4 : 98 * b + 17 + 1 + 4 * k + 3 = 98 * b + 17 + 4 + 4 * k := by omega
      rw [e4] at hB5
      exact hB5
  refine mz_sn_ok hC tk_X0_beginEra pk_RX0 2 [] rfl (by (repeat' apply And.intro) <;> first | exact True.intro | assumption | (simp only [mz_cm1, mz_c0, mz_c1, mz_c2, mz_c3, mz_c4, mz_c5, mz_c6, mz_c7, mz_c8, mz_c10, mz_c17, mz_c20, mz_c28, mz_c58, mz_c63, mz_c98, mz_c294, mz_c526, mz_c532, mz_c540, mz_c999, mz_c1900, mz_c2403, mz_c29362, mz_c29363, mz_c29364, mz_c29390, mz_c29393, mz_c29394, mz_c29398, mz_c29399, mz_c29400, mz_c29401, nI_add, pk_mul, pk_m1, mz_pp, mz_pq]; done) | omega | (simp only [mz_cm1, mz_c0, mz_c1, mz_c2, mz_c3, mz_c4, mz_c5, mz_c6, mz_c7, mz_c8, mz_c10, mz_c17, mz_c20, mz_c28, mz_c58, mz_c63, mz_c98, mz_c294, mz_c526, mz_c532, mz_c540, mz_c999, mz_c1900, mz_c2403, mz_c29362, mz_c29363, mz_c29364, mz_c29390, mz_c29393, mz_c29394, mz_c29398, mz_c29399, mz_c29400, mz_c29401, nI_add, pk_mul, pk_m1, mz_pp, mz_pq]; congr 1; omega)) ?_
  try simp only [mz_c0, mz_cm1]
  refine mz_V.sub (lv' := [some (.ref β), some (.int (nI 0))]) (by (repeat' apply And.intro) <;> first | with_reducible rfl | exact True.intro | (simp only [mz_cm1, mz_c0, mz_c1, mz_c2, mz_c3, mz_c4, mz_c5, mz_c6, mz_c7, mz_c8, mz_c10, mz_c17, mz_c20, mz_c28, mz_c58, mz_c63, mz_c98, mz_c294, mz_c526, mz_c532, mz_c540, mz_c999, mz_c1900, mz_c2403, mz_c29362, mz_c29363, mz_c29364, mz_c29390, mz_c29393, mz_c29394, mz_c29398, mz_c29399, mz_c29400, mz_c29401, nI_add, pk_mul, pk_m1, mz_pp, mz_pq]; done) | rfl) ?_
  exact loop cnt 0 G2 (by omega) hB2' hFa
end MRB

