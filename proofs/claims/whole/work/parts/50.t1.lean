/-! ===== the class: tables ===== -/
/-- a table of the class: t its object, W columns, at most lim rows, n rows, room for len numbers; h the numbers; O the owner of each address (an object owns itself, a table its array of cells) -/
def mt_T (G : mz_G) (O : Nat → Nat) (sz t W lim n len : Nat) (h : Nat → Nat → Int32) : Prop :=
  ∃ a, ((mz_K G t = 4 ∧ mz_i G t 0 = nI W ∧ mz_i G t 1 = nI lim ∧ mz_i G t 2 = nI n ∧ mz_r G t 3 = some a) ∧ (mz_K G a = 7 ∧ mz_n G a = len ∧ O a = t ∧ O t = t ∧ t < sz ∧ a < sz)) ∧
    (n * W ≤ len ∧ n ≤ lim ∧ len < 100000 ∧ lim < 10000 ∧ W < 10) ∧ ∀ k j, k < n → j < W → mz_i G a (k * W + j) = h k j
/-- nothing changed but what X owns -/
def mt_F (X : Nat → Prop) (G G' : mz_G) (O O' : Nat → Nat) (sz sz' : Nat) : Prop :=
  sz ≤ sz' ∧ ∀ q, q < sz → O' q = O q ∧ (¬ X (O q) → mz_K G' q = mz_K G q ∧ mz_n G' q = mz_n G q ∧ mz_i G' q = mz_i G q ∧ mz_r G' q = mz_r G q ∧ mz_l G' q = mz_l G q)
theorem mt_F.rf {X : Nat → Prop} {G : mz_G} {O : Nat → Nat} {sz : Nat} : mt_F X G G O O sz sz := ⟨Nat.le_refl _, fun _ _ => ⟨rfl, fun _ => ⟨rfl, rfl, rfl, rfl, rfl⟩⟩⟩
theorem mt_F.mono {X Y : Nat → Prop} {G G' : mz_G} {O O' : Nat → Nat} {sz sz' : Nat} (h : mt_F X G G' O O' sz sz') (hXY : ∀ q, X q → Y q) : mt_F Y G G' O O' sz sz' :=
  ⟨h.1, fun q hq => ⟨(h.2 q hq).1, fun h1 => (h.2 q hq).2 (fun z => h1 (hXY _ z))⟩⟩
theorem mt_F.tr {X : Nat → Prop} {G G' G'' : mz_G} {O O' O'' : Nat → Nat} {sz sz' sz'' : Nat} (h : mt_F X G G' O O' sz sz') (h' : mt_F X G' G'' O' O'' sz' sz'') : mt_F X G G'' O O'' sz sz'' := by
  refine ⟨Nat.le_trans h.1 h'.1, fun q hq => ?_⟩
  have hq' := Nat.lt_of_lt_of_le hq h.1
  obtain ⟨a1, a2⟩ := h.2 q hq
  obtain ⟨b1, b2⟩ := h'.2 q hq'
  refine ⟨b1.trans a1, fun h1 => ?_⟩
  obtain ⟨c1, c2, c3, c4, c5⟩ := a2 h1
  obtain ⟨d1, d2, d3, d4, d5⟩ := b2 (by rw [a1]; exact h1)
  exact ⟨d1.trans c1, d2.trans c2, d3.trans c3, d4.trans c4, d5.trans c5⟩
/-- a table that is not touched -/
theorem mt_T.fr {X : Nat → Prop} {G G' : mz_G} {O O' : Nat → Nat} {sz sz' t W lim n len : Nat} {h : Nat → Nat → Int32} (hT : mt_T G O sz t W lim n len h) (hF : mt_F X G G' O O' sz sz') (hX : ¬ X t) : mt_T G' O' sz' t W lim n len h := by
  obtain ⟨a, ⟨⟨hK, hw, hl, hs, hr⟩, hKa, hna, hOa, hOt, ht, ha⟩, hb, hc⟩ := hT
  obtain ⟨o1, f1⟩ := hF.2 t ht
  obtain ⟨o2, f2⟩ := hF.2 a ha
  obtain ⟨e1, e2, e3, e4, e5⟩ := f1 (by rw [hOt]; exact hX)
  obtain ⟨g1, g2, g3, g4, g5⟩ := f2 (by rw [hOa]; exact hX)
  have hz := hF.1
  exact ⟨a, ⟨⟨by rw [e1, hK], by rw [e3, hw], by rw [e3, hl], by rw [e3, hs], by rw [e4, hr]⟩, by rw [g1, hKa], by rw [g2, hna], by rw [o2, hOa], by rw [o1, hOt], by omega, by omega⟩, hb, fun k j h1 h2 => by rw [g3]; exact hc k j h1 h2⟩
theorem mt_T.same {G : mz_G} {O : Nat → Nat} {sz t W lim n len : Nat} {h h' : Nat → Nat → Int32} (hT : mt_T G O sz t W lim n len h) (hh : ∀ k j, k < n → j < W → h k j = h' k j) : mt_T G O sz t W lim n len h' := by
  obtain ⟨a, hs, hb, hc⟩ := hT
  exact ⟨a, hs, hb, fun k j h1 h2 => (hc k j h1 h2).trans (hh k j h1 h2)⟩
/-- an index within a table -/
theorem mt_ix {n W len k j : Nat} (hb : n * W ≤ len) (hk : k < n) (hj : j < W) : k * W + j < len := by
  have h1 : (k + 1) * W ≤ n * W := Nat.mul_le_mul_right W hk
  rw [Nat.add_mul] at h1
  omega
theorem mt_ixn {W k k' j j' : Nat} (hj : j < W) (hj' : j' < W) (h : k * W + j = k' * W + j') : k = k' ∧ j = j' := by
  rcases Nat.lt_trichotomy k k' with h1 | h1 | h1
  · have h2 : (k + 1) * W ≤ k' * W := Nat.mul_le_mul_right W h1
    rw [Nat.add_mul] at h2
    omega
  · subst h1; exact ⟨rfl, by omega⟩
  · have h2 : (k' + 1) * W ≤ k * W := Nat.mul_le_mul_right W h1
    rw [Nat.add_mul] at h2
    omega
/-- a number of a table -/
def mt_c (n W : Nat) (h : Nat → Nat → Int32) (r cl : Int32) : Int32 := if (0 ≤ r ∧ r < nI n) ∧ (0 ≤ cl ∧ cl < nI W) then h r.toNatClampNeg cl.toNatClampNeg else -1
theorem mt_c_in {n W k j : Nat} {h : Nat → Nat → Int32} (hk : k < n) (hj : j < W) (hn : n < 2147483648) (hW : W < 2147483648) : mt_c n W h (nI k) (nI j) = h k j := by
  unfold mt_c
  rw [if_pos ⟨⟨mz_nn k (by omega), nI_lt hk (by omega)⟩, mz_nn j (by omega), nI_lt hj (by omega)⟩, nI_clamp (by omega), nI_clamp (by omega)]
theorem mt_c_no {n W : Nat} {h : Nat → Nat → Int32} {cl : Int32} : mt_c n W h (-1) cl = -1 := by
  unfold mt_c
  rw [if_neg (fun z => absurd z.1.1 (by decide))]
theorem mz_le0 {r : Int32} (h : ¬ r < 0) : 0 ≤ r := by
  rw [mz_ltI] at h; rw [mz_leI]; omega
theorem mz_lt_n {a b : Int32} (h : ¬ a ≤ b) : b < a := by
  rw [mz_leI] at h; rw [mz_ltI]; omega
theorem mz_n_lt {a b : Int32} (h : a ≤ b) : ¬ b < a := by
  rw [mz_leI] at h; rw [mz_ltI]; omega
def mt_u (h : Nat → Nat → Int32) (k j : Nat) (v : Int32) : Nat → Nat → Int32 := fun k' j' => if k' = k ∧ j' = j then v else h k' j'
section MTT
variable (l : Launch) (E : mz_E) {G : mz_G} {O : Nat → Nat} {sz t W lim n len : Nat} {h : Nat → Nat → Int32}
theorem ct_cell (hT : mt_T G O sz t W lim n len h) (r cl : Int32) : mz_M l E yX4_cell cX4_cell 3 (some .int) 1 0 0 [.ref t, .int r, .int cl] G sz (fun v G' sz' => v = some (.int (mt_c n W h r cl)) ∧ G' = G ∧ sz = sz') := by
  obtain ⟨a, ⟨⟨hK, hw, hl, hs, hr⟩, hKa, hna, hOa, hOt, ht, ha⟩, ⟨b1, b2, b3, b4, b5⟩, hcell⟩ := hT
  refine mz_start (by decide) (Nat.le_of_ble_eq_true rfl) ?_
  intro p e s m args below meth c hC hret hnm
  have no : ¬ ((0 ≤ r ∧ r < nI n) ∧ (0 ≤ cl ∧ cl < nI W)) → mz_V E p l e (mz_rm 1 0 0) s m args below meth c 3 (0) (0) (mz_Z E below args s 0 0 (fun v G' sz' => v = some (.int (mt_c n W h r cl)) ∧ G' = G ∧ sz = sz')) (G) (sz) (24) [some (.ref t), some (.int r), some (.int cl)] [] := by
    intro hno
    refine mz_sn_ok hC tk_X4_cell pk_RX4 1 [] rfl (by (repeat' apply And.intro) <;> first | exact True.intro | assumption | (simp only [mz_cm1, mz_c0, mz_c1, mz_c2, mz_c3, mz_c4, mz_c5, mz_c6, mz_c7, mz_c8, mz_c10, mz_c17, mz_c20, mz_c28, mz_c58, mz_c63, mz_c98, mz_c294, mz_c526, mz_c532, mz_c540, mz_c999, mz_c1900, mz_c2403, mz_c29362, mz_c29363, mz_c29364, mz_c29390, mz_c29393, mz_c29394, mz_c29398, mz_c29399, mz_c29400, mz_c29401, nI_add, pk_mul, pk_m1, mz_pp, mz_pq]; done) | omega | (simp only [mz_cm1, mz_c0, mz_c1, mz_c2, mz_c3, mz_c4, mz_c5, mz_c6, mz_c7, mz_c8, mz_c10, mz_c17, mz_c20, mz_c28, mz_c58, mz_c63, mz_c98, mz_c294, mz_c526, mz_c532, mz_c540, mz_c999, mz_c1900, mz_c2403, mz_c29362, mz_c29363, mz_c29364, mz_c29390, mz_c29393, mz_c29394, mz_c29398, mz_c29399, mz_c29400, mz_c29401, nI_add, pk_mul, pk_m1, mz_pp, mz_pq]; congr 1; omega)) ?_
    try simp only [mz_c0, mz_cm1]
    refine mz_Vireturn hC tk_X4_cell rfl hret rfl (Nat.le_of_ble_eq_true rfl) (Nat.le_of_ble_eq_true rfl) ?_
    exact ⟨by unfold mt_c; rw [if_neg hno], rfl, rfl⟩
  refine mz_sn_ok hC tk_X4_cell pk_RX4 1 [] rfl (by (repeat' apply And.intro) <;> first | exact True.intro | assumption | (simp only [mz_cm1, mz_c0, mz_c1, mz_c2, mz_c3, mz_c4, mz_c5, mz_c6, mz_c7, mz_c8, mz_c10, mz_c17, mz_c20, mz_c28, mz_c58, mz_c63, mz_c98, mz_c294, mz_c526, mz_c532, mz_c540, mz_c999, mz_c1900, mz_c2403, mz_c29362, mz_c29363, mz_c29364, mz_c29390, mz_c29393, mz_c29394, mz_c29398, mz_c29399, mz_c29400, mz_c29401, nI_add, pk_mul, pk_m1, mz_pp, mz_pq]; done) | omega | (simp only [mz_cm1, mz_c0, mz_c1, mz_c2, mz_c3, mz_c4, mz_c5, mz_c6, mz_c7, mz_c8, mz_c10, mz_c17, mz_c20, mz_c28, mz_c58, mz_c63, mz_c98, mz_c294, mz_c526, mz_c532, mz_c540, mz_c999, mz_c1900, mz_c2403, mz_c29362, mz_c29363, mz_c29364, mz_c29390, mz_c29393, mz_c29394, mz_c29398, mz_c29399, mz_c29400, mz_c29401, nI_add, pk_mul, pk_m1, mz_pp, mz_pq]; congr 1; omega)) ?_
  try simp only [mz_c0, mz_cm1]
  by_cases h1 : r < 0
  · refine mz_br_t hC tk_X4_cell rfl ((by show r < 0; exact h1)) ?_
    exact no (fun z => mz_n_lt z.1.1 h1)
  · refine mz_br_f hC tk_X4_cell rfl ((by show ¬ r < 0; exact h1)) ?_
    refine mz_sn_ok hC tk_X4_cell pk_RX4 3 [] rfl (by (repeat' apply And.intro) <;> first | exact True.intro | assumption | (simp only [mz_cm1, mz_c0, mz_c1, mz_c2, mz_c3, mz_c4, mz_c5, mz_c6, mz_c7, mz_c8, mz_c10, mz_c17, mz_c20, mz_c28, mz_c58, mz_c63, mz_c98, mz_c294, mz_c526, mz_c532, mz_c540, mz_c999, mz_c1900, mz_c2403, mz_c29362, mz_c29363, mz_c29364, mz_c29390, mz_c29393, mz_c29394, mz_c29398, mz_c29399, mz_c29400, mz_c29401, nI_add, pk_mul, pk_m1, mz_pp, mz_pq, hs]; done) | omega | (simp only [mz_cm1, mz_c0, mz_c1, mz_c2, mz_c3, mz_c4, mz_c5, mz_c6, mz_c7, mz_c8, mz_c10, mz_c17, mz_c20, mz_c28, mz_c58, mz_c63, mz_c98, mz_c294, mz_c526, mz_c532, mz_c540, mz_c999, mz_c1900, mz_c2403, mz_c29362, mz_c29363, mz_c29364, mz_c29390, mz_c29393, mz_c29394, mz_c29398, mz_c29399, mz_c29400, mz_c29401, nI_add, pk_mul, pk_m1, mz_pp, mz_pq, hs]; congr 1; omega)) ?_
    try simp only [mz_c0, mz_cm1, hs]
    by_cases h2 : nI n ≤ r
    · refine mz_br_t hC tk_X4_cell rfl ((by show nI n ≤ r; exact h2)) ?_
      exact no (fun z => mz_n_lt h2 z.1.2)
    · refine mz_br_f hC tk_X4_cell rfl ((by show ¬ nI n ≤ r; exact h2)) ?_
      refine mz_sn_ok hC tk_X4_cell pk_RX4 1 [] rfl (by (repeat' apply And.intro) <;> first | exact True.intro | assumption | (simp only [mz_cm1, mz_c0, mz_c1, mz_c2, mz_c3, mz_c4, mz_c5, mz_c6, mz_c7, mz_c8, mz_c10, mz_c17, mz_c20, mz_c28, mz_c58, mz_c63, mz_c98, mz_c294, mz_c526, mz_c532, mz_c540, mz_c999, mz_c1900, mz_c2403, mz_c29362, mz_c29363, mz_c29364, mz_c29390, mz_c29393, mz_c29394, mz_c29398, mz_c29399, mz_c29400, mz_c29401, nI_add, pk_mul, pk_m1, mz_pp, mz_pq]; done) | omega | (simp only [mz_cm1, mz_c0, mz_c1, mz_c2, mz_c3, mz_c4, mz_c5, mz_c6, mz_c7, mz_c8, mz_c10, mz_c17, mz_c20, mz_c28, mz_c58, mz_c63, mz_c98, mz_c294, mz_c526, mz_c532, mz_c540, mz_c999, mz_c1900, mz_c2403, mz_c29362, mz_c29363, mz_c29364, mz_c29390, mz_c29393, mz_c29394, mz_c29398, mz_c29399, mz_c29400, mz_c29401, nI_add, pk_mul, pk_m1, mz_pp, mz_pq]; congr 1; omega)) ?_
      try simp only [mz_c0, mz_cm1]
      by_cases h3 : cl < 0
      · refine mz_br_t hC tk_X4_cell rfl ((by show cl < 0; exact h3)) ?_
        exact no (fun z => mz_n_lt z.2.1 h3)
      · refine mz_br_f hC tk_X4_cell rfl ((by show ¬ cl < 0; exact h3)) ?_
        refine mz_sn_ok hC tk_X4_cell pk_RX4 3 [] rfl (by (repeat' apply And.intro) <;> first | exact True.intro | assumption | (simp only [mz_cm1, mz_c0, mz_c1, mz_c2, mz_c3, mz_c4, mz_c5, mz_c6, mz_c7, mz_c8, mz_c10, mz_c17, mz_c20, mz_c28, mz_c58, mz_c63, mz_c98, mz_c294, mz_c526, mz_c532, mz_c540, mz_c999, mz_c1900, mz_c2403, mz_c29362, mz_c29363, mz_c29364, mz_c29390, mz_c29393, mz_c29394, mz_c29398, mz_c29399, mz_c29400, mz_c29401, nI_add, pk_mul, pk_m1, mz_pp, mz_pq, hw]; done) | omega | (simp only [mz_cm1, mz_c0, mz_c1, mz_c2, mz_c3, mz_c4, mz_c5, mz_c6, mz_c7, mz_c8, mz_c10, mz_c17, mz_c20, mz_c28, mz_c58, mz_c63, mz_c98, mz_c294, mz_c526, mz_c532, mz_c540, mz_c999, mz_c1900, mz_c2403, mz_c29362, mz_c29363, mz_c29364, mz_c29390, mz_c29393, mz_c29394, mz_c29398, mz_c29399, mz_c29400, mz_c29401, nI_add, pk_mul, pk_m1, mz_pp, mz_pq, hw]; congr 1; omega)) ?_
        try simp only [mz_c0, mz_cm1, hw]
        by_cases h4 : cl < nI W
        · refine mz_br_t hC tk_X4_cell rfl ((by show cl < nI W; exact h4)) ?_
          obtain ⟨k, hk, rfl⟩ := mz_nat (show n < 2147483648 by omega) (mz_le0 h1) (mz_lt_n h2)
          obtain ⟨j, hj, rfl⟩ := mz_nat (show W < 2147483648 by omega) (mz_le0 h3) h4
          have i1 : k * W + j < mz_n G a := by rw [hna]; exact mt_ix b1 hk hj
          have i2 : mz_n G a < 2147483648 := by rw [hna]; omega
          refine mz_sn_ok hC tk_X4_cell pk_RX4 9 [a, k * W + j] rfl (by (repeat' apply And.intro) <;> first | exact True.intro | assumption | (simp only [mz_cm1, mz_c0, mz_c1, mz_c2, mz_c3, mz_c4, mz_c5, mz_c6, mz_c7, mz_c8, mz_c10, mz_c17, mz_c20, mz_c28, mz_c58, mz_c63, mz_c98, mz_c294, mz_c526, mz_c532, mz_c540, mz_c999, mz_c1900, mz_c2403, mz_c29362, mz_c29363, mz_c29364, mz_c29390, mz_c29393, mz_c29394, mz_c29398, mz_c29399, mz_c29400, mz_c29401, nI_add, pk_mul, pk_m1, mz_pp, mz_pq, hw, hcell k j hk hj]; done) | omega | (simp only [mz_cm1, mz_c0, mz_c1, mz_c2, mz_c3, mz_c4, mz_c5, mz_c6, mz_c7, mz_c8, mz_c10, mz_c17, mz_c20, mz_c28, mz_c58, mz_c63, mz_c98, mz_c294, mz_c526, mz_c532, mz_c540, mz_c999, mz_c1900, mz_c2403, mz_c29362, mz_c29363, mz_c29364, mz_c29390, mz_c29393, mz_c29394, mz_c29398, mz_c29399, mz_c29400, mz_c29401, nI_add, pk_mul, pk_m1, mz_pp, mz_pq, hw, hcell k j hk hj]; congr 1; omega)) ?_
          try simp only [mz_c0, mz_cm1, hw, hcell k j hk hj]
          refine mz_Vireturn hC tk_X4_cell rfl hret rfl (Nat.le_of_ble_eq_true rfl) (Nat.le_of_ble_eq_true rfl) ?_
          exact ⟨by rw [mt_c_in hk hj (by omega) (by omega)], rfl, rfl⟩
        · refine mz_br_f hC tk_X4_cell rfl ((by show ¬ cl < nI W; exact h4)) ?_
          exact no (fun z => h4 z.2.2)
theorem ct_put (hT : mt_T G O sz t W lim n len h) (k j : Nat) (v : Int32) (hk : k < n) (hj : j < W) : mz_M l E yX4_put cX4_put 4 none 1 0 0 [.ref t, .int (nI k), .int (nI j), .int v] G sz (fun v' G' sz' => v' = none ∧ sz = sz' ∧ mt_T G' O sz t W lim n len (mt_u h k j v) ∧ mt_F (fun q => q = t) G G' O O sz sz) := by
  obtain ⟨a, ⟨⟨hK, hw, hl, hs, hr⟩, hKa, hna, hOa, hOt, ht, ha⟩, ⟨b1, b2, b3, b4, b5⟩, hcell⟩ := hT
  refine mz_start (by decide) (Nat.le_of_ble_eq_true rfl) ?_
  intro p e s m args below meth c hC hret hnm
  have i1 : k * W + j < mz_n G a := by rw [hna]; exact mt_ix b1 hk hj
  have i2 : mz_n G a < 2147483648 := by rw [hna]; omega
  have hat : t ≠ a := fun z => by rw [z] at hK; omega
  refine mz_sn_ok hC tk_X4_put pk_RX4 1 [] rfl (by (repeat' apply And.intro) <;> first | exact True.intro | assumption | (simp only [mz_cm1, mz_c0, mz_c1, mz_c2, mz_c3, mz_c4, mz_c5, mz_c6, mz_c7, mz_c8, mz_c10, mz_c17, mz_c20, mz_c28, mz_c58, mz_c63, mz_c98, mz_c294, mz_c526, mz_c532, mz_c540, mz_c999, mz_c1900, mz_c2403, mz_c29362, mz_c29363, mz_c29364, mz_c29390, mz_c29393, mz_c29394, mz_c29398, mz_c29399, mz_c29400, mz_c29401, nI_add, pk_mul, pk_m1, mz_pp, mz_pq]; done) | omega | (simp only [mz_cm1, mz_c0, mz_c1, mz_c2, mz_c3, mz_c4, mz_c5, mz_c6, mz_c7, mz_c8, mz_c10, mz_c17, mz_c20, mz_c28, mz_c58, mz_c63, mz_c98, mz_c294, mz_c526, mz_c532, mz_c540, mz_c999, mz_c1900, mz_c2403, mz_c29362, mz_c29363, mz_c29364, mz_c29390, mz_c29393, mz_c29394, mz_c29398, mz_c29399, mz_c29400, mz_c29401, nI_add, pk_mul, pk_m1, mz_pp, mz_pq]; congr 1; omega)) ?_
  try simp only [mz_c0, mz_cm1]
  refine mz_br_f hC tk_X4_put rfl ((by show ¬ nI k < 0; exact mz_n_lt (mz_nn k (by omega)))) ?_
  refine mz_sn_ok hC tk_X4_put pk_RX4 3 [] rfl (by (repeat' apply And.intro) <;> first | exact True.intro | assumption | (simp only [mz_cm1, mz_c0, mz_c1, mz_c2, mz_c3, mz_c4, mz_c5, mz_c6, mz_c7, mz_c8, mz_c10, mz_c17, mz_c20, mz_c28, mz_c58, mz_c63, mz_c98, mz_c294, mz_c526, mz_c532, mz_c540, mz_c999, mz_c1900, mz_c2403, mz_c29362, mz_c29363, mz_c29364, mz_c29390, mz_c29393, mz_c29394, mz_c29398, mz_c29399, mz_c29400, mz_c29401, nI_add, pk_mul, pk_m1, mz_pp, mz_pq, hs]; done) | omega | (simp only [mz_cm1, mz_c0, mz_c1, mz_c2, mz_c3, mz_c4, mz_c5, mz_c6, mz_c7, mz_c8, mz_c10, mz_c17, mz_c20, mz_c28, mz_c58, mz_c63, mz_c98, mz_c294, mz_c526, mz_c532, mz_c540, mz_c999, mz_c1900, mz_c2403, mz_c29362, mz_c29363, mz_c29364, mz_c29390, mz_c29393, mz_c29394, mz_c29398, mz_c29399, mz_c29400, mz_c29401, nI_add, pk_mul, pk_m1, mz_pp, mz_pq, hs]; congr 1; omega)) ?_
  try simp only [mz_c0, mz_cm1, hs]
  refine mz_br_f hC tk_X4_put rfl ((by show ¬ nI n ≤ nI k; exact nI_ge (by omega) (by omega))) ?_
  refine mz_sn_ok hC tk_X4_put pk_RX4 1 [] rfl (by (repeat' apply And.intro) <;> first | exact True.intro | assumption | (simp only [mz_cm1, mz_c0, mz_c1, mz_c2, mz_c3, mz_c4, mz_c5, mz_c6, mz_c7, mz_c8, mz_c10, mz_c17, mz_c20, mz_c28, mz_c58, mz_c63, mz_c98, mz_c294, mz_c526, mz_c532, mz_c540, mz_c999, mz_c1900, mz_c2403, mz_c29362, mz_c29363, mz_c29364, mz_c29390, mz_c29393, mz_c29394, mz_c29398, mz_c29399, mz_c29400, mz_c29401, nI_add, pk_mul, pk_m1, mz_pp, mz_pq]; done) | omega | (simp only [mz_cm1, mz_c0, mz_c1, mz_c2, mz_c3, mz_c4, mz_c5, mz_c6, mz_c7, mz_c8, mz_c10, mz_c17, mz_c20, mz_c28, mz_c58, mz_c63, mz_c98, mz_c294, mz_c526, mz_c532, mz_c540, mz_c999, mz_c1900, mz_c2403, mz_c29362, mz_c29363, mz_c29364, mz_c29390, mz_c29393, mz_c29394, mz_c29398, mz_c29399, mz_c29400, mz_c29401, nI_add, pk_mul, pk_m1, mz_pp, mz_pq]; congr 1; omega)) ?_
  try simp only [mz_c0, mz_cm1]
  refine mz_br_f hC tk_X4_put rfl ((by show ¬ nI j < 0; exact mz_n_lt (mz_nn j (by omega)))) ?_
  refine mz_sn_ok hC tk_X4_put pk_RX4 3 [] rfl (by (repeat' apply And.intro) <;> first | exact True.intro | assumption | (simp only [mz_cm1, mz_c0, mz_c1, mz_c2, mz_c3, mz_c4, mz_c5, mz_c6, mz_c7, mz_c8, mz_c10, mz_c17, mz_c20, mz_c28, mz_c58, mz_c63, mz_c98, mz_c294, mz_c526, mz_c532, mz_c540, mz_c999, mz_c1900, mz_c2403, mz_c29362, mz_c29363, mz_c29364, mz_c29390, mz_c29393, mz_c29394, mz_c29398, mz_c29399, mz_c29400, mz_c29401, nI_add, pk_mul, pk_m1, mz_pp, mz_pq, hw]; done) | omega | (simp only [mz_cm1, mz_c0, mz_c1, mz_c2, mz_c3, mz_c4, mz_c5, mz_c6, mz_c7, mz_c8, mz_c10, mz_c17, mz_c20, mz_c28, mz_c58, mz_c63, mz_c98, mz_c294, mz_c526, mz_c532, mz_c540, mz_c999, mz_c1900, mz_c2403, mz_c29362, mz_c29363, mz_c29364, mz_c29390, mz_c29393, mz_c29394, mz_c29398, mz_c29399, mz_c29400, mz_c29401, nI_add, pk_mul, pk_m1, mz_pp, mz_pq, hw]; congr 1; omega)) ?_
  try simp only [mz_c0, mz_cm1, hw]
  refine mz_br_f hC tk_X4_put rfl ((by show ¬ nI W ≤ nI j; exact nI_ge (by omega) (by omega))) ?_
  refine mz_sn_ok hC tk_X4_put pk_RX4 10 [a, k * W + j] rfl (by (repeat' apply And.intro) <;> first | exact True.intro | assumption | (simp only [mz_cm1, mz_c0, mz_c1, mz_c2, mz_c3, mz_c4, mz_c5, mz_c6, mz_c7, mz_c8, mz_c10, mz_c17, mz_c20, mz_c28, mz_c58, mz_c63, mz_c98, mz_c294, mz_c526, mz_c532, mz_c540, mz_c999, mz_c1900, mz_c2403, mz_c29362, mz_c29363, mz_c29364, mz_c29390, mz_c29393, mz_c29394, mz_c29398, mz_c29399, mz_c29400, mz_c29401, nI_add, pk_mul, pk_m1, mz_pp, mz_pq, hw]; done) | omega | (simp only [mz_cm1, mz_c0, mz_c1, mz_c2, mz_c3, mz_c4, mz_c5, mz_c6, mz_c7, mz_c8, mz_c10, mz_c17, mz_c20, mz_c28, mz_c58, mz_c63, mz_c98, mz_c294, mz_c526, mz_c532, mz_c540, mz_c999, mz_c1900, mz_c2403, mz_c29362, mz_c29363, mz_c29364, mz_c29390, mz_c29393, mz_c29394, mz_c29398, mz_c29399, mz_c29400, mz_c29401, nI_add, pk_mul, pk_m1, mz_pp, mz_pq, hw]; congr 1; omega)) ?_
  try simp only [mz_c0, mz_cm1, hw]
  refine mz_Vreturn hC tk_X4_put rfl hret (Nat.le_of_ble_eq_true rfl) (Nat.le_of_ble_eq_true rfl) ?_
  refine ⟨rfl, rfl, ⟨a, ⟨⟨hK, ?_, ?_, ?_, hr⟩, hKa, hna, hOa, hOt, ht, ha⟩, ⟨b1, b2, b3, b4, b5⟩, fun k' j' h1 h2 => ?_⟩, Nat.le_refl _, fun q hq => ⟨rfl, fun hX => ⟨rfl, rfl, ?_, rfl, rfl⟩⟩⟩
  · show mz_u2 (mz_i G) a (k * W + j) v t 0 = nI W
    rw [mz_u2_a _ _ _ _ hat, hw]
  · show mz_u2 (mz_i G) a (k * W + j) v t 1 = nI lim
    rw [mz_u2_a _ _ _ _ hat, hl]
  · show mz_u2 (mz_i G) a (k * W + j) v t 2 = nI n
    rw [mz_u2_a _ _ _ _ hat, hs]
  · show mz_u2 (mz_i G) a (k * W + j) v a (k' * W + j') = mt_u h k j v k' j'
    unfold mt_u
    by_cases hh : k' = k ∧ j' = j
    · rw [if_pos hh, hh.1, hh.2, mz_u2_s]
    · rw [if_neg hh, mz_u2_j _ _ _ _ (fun z => hh (mt_ixn h2 hj z)), hcell k' j' h1 h2]
  · funext i
    show mz_u2 (mz_i G) a (k * W + j) v q i = mz_i G q i
    exact mz_u2_a _ _ _ _ (fun z => hX (by rw [z]; exact hOa))
theorem ct_rowWith (hT : mt_T G O sz t W lim n len h) (j : Nat) (v : Int32) (hj : j < W) : mz_M l E yX4_rowWith cX4_rowWith 4 (some .int) 2 0 0 [.ref t, .int (nI j), .int v] G sz (fun v' G' sz' => v' = some (.int (mz_fi (fun k => h k j) v n)) ∧ G' = G ∧ sz = sz') := by
  have hT0 := hT
  obtain ⟨a, ⟨⟨hK, hw, hl, hs, hr⟩, hKa, hna, hOa, hOt, ht, ha⟩, ⟨b1, b2, b3, b4, b5⟩, hcell⟩ := hT
  refine mz_start (by decide) (Nat.le_of_ble_eq_true rfl) ?_
  intro p e s m args below meth c hC hret hnm
  have loop : ∀ (d k : Nat), k + d = n → mz_fz (fun k => h k j) v k = none → mz_V E p l e (mz_rm 2 0 0) s m args below meth c 4 (0) (0) (mz_Z E below args s 0 0 (fun v' G' sz' => v' = some (.int (mz_fi (fun k => h k j) v n)) ∧ G' = G ∧ sz = sz')) (G) (sz) (2) [some (.ref t), some (.int (nI j)), some (.int v), some (.int (nI k))] [] := by
    intro d
    induction d with
    | zero =>
      intro k hk h0
      refine mz_sn_ok hC tk_X4_rowWith pk_RX4 3 [] rfl (by (repeat' apply And.intro) <;> first | exact True.intro | assumption | (simp only [mz_cm1, mz_c0, mz_c1, mz_c2, mz_c3, mz_c4, mz_c5, mz_c6, mz_c7, mz_c8, mz_c10, mz_c17, mz_c20, mz_c28, mz_c58, mz_c63, mz_c98, mz_c294, mz_c526, mz_c532, mz_c540, mz_c999, mz_c1900, mz_c2403, mz_c29362, mz_c29363, mz_c29364, mz_c29390, mz_c29393, mz_c29394, mz_c29398, mz_c29399, mz_c29400, mz_c29401, nI_add, pk_mul, pk_m1, mz_pp, mz_pq, hs]; done) | omega | (simp only [mz_cm1, mz_c0, mz_c1, mz_c2, mz_c3, mz_c4, mz_c5, mz_c6, mz_c7, mz_c8, mz_c10, mz_c17, mz_c20, mz_c28, mz_c58, mz_c63, mz_c98, mz_c294, mz_c526, mz_c532, mz_c540, mz_c999, mz_c1900, mz_c2403, mz_c29362, mz_c29363, mz_c29364, mz_c29390, mz_c29393, mz_c29394, mz_c29398, mz_c29399, mz_c29400, mz_c29401, nI_add, pk_mul, pk_m1, mz_pp, mz_pq, hs]; congr 1; omega)) ?_
      try simp only [mz_c0, mz_cm1, hs]
      refine mz_br_t hC tk_X4_rowWith rfl ((by show nI n ≤ nI k; exact nI_le (by omega) (by omega))) ?_
      refine mz_sn_ok hC tk_X4_rowWith pk_RX4 1 [] rfl (by (repeat' apply And.intro) <;> first | exact True.intro | assumption | (simp only [mz_cm1, mz_c0, mz_c1, mz_c2, mz_c3, mz_c4, mz_c5, mz_c6, mz_c7, mz_c8, mz_c10, mz_c17, mz_c20, mz_c28, mz_c58, mz_c63, mz_c98, mz_c294, mz_c526, mz_c532, mz_c540, mz_c999, mz_c1900, mz_c2403, mz_c29362, mz_c29363, mz_c29364, mz_c29390, mz_c29393, mz_c29394, mz_c29398, mz_c29399, mz_c29400, mz_c29401, nI_add, pk_mul, pk_m1, mz_pp, mz_pq]; done) | omega | (simp only [mz_cm1, mz_c0, mz_c1, mz_c2, mz_c3, mz_c4, mz_c5, mz_c6, mz_c7, mz_c8, mz_c10, mz_c17, mz_c20, mz_c28, mz_c58, mz_c63, mz_c98, mz_c294, mz_c526, mz_c532, mz_c540, mz_c999, mz_c1900, mz_c2403, mz_c29362, mz_c29363, mz_c29364, mz_c29390, mz_c29393, mz_c29394, mz_c29398, mz_c29399, mz_c29400, mz_c29401, nI_add, pk_mul, pk_m1, mz_pp, mz_pq]; congr 1; omega)) ?_
      try simp only [mz_c0, mz_cm1]
      refine mz_Vireturn hC tk_X4_rowWith rfl hret rfl (Nat.le_of_ble_eq_true rfl) (Nat.le_of_ble_eq_true rfl) ?_
      refine ⟨?_, rfl, rfl⟩
      rw [show k = n by omega] at h0
      simp only [mz_fi, h0]
    | succ d ih =>
      intro k hk h0
      refine mz_sn_ok hC tk_X4_rowWith pk_RX4 3 [] rfl (by (repeat' apply And.intro) <;> first | exact True.intro | assumption | (simp only [mz_cm1, mz_c0, mz_c1, mz_c2, mz_c3, mz_c4, mz_c5, mz_c6, mz_c7, mz_c8, mz_c10, mz_c17, mz_c20, mz_c28, mz_c58, mz_c63, mz_c98, mz_c294, mz_c526, mz_c532, mz_c540, mz_c999, mz_c1900, mz_c2403, mz_c29362, mz_c29363, mz_c29364, mz_c29390, mz_c29393, mz_c29394, mz_c29398, mz_c29399, mz_c29400, mz_c29401, nI_add, pk_mul, pk_m1, mz_pp, mz_pq, hs]; done) | omega | (simp only [mz_cm1, mz_c0, mz_c1, mz_c2, mz_c3, mz_c4, mz_c5, mz_c6, mz_c7, mz_c8, mz_c10, mz_c17, mz_c20, mz_c28, mz_c58, mz_c63, mz_c98, mz_c294, mz_c526, mz_c532, mz_c540, mz_c999, mz_c1900, mz_c2403, mz_c29362, mz_c29363, mz_c29364, mz_c29390, mz_c29393, mz_c29394, mz_c29398, mz_c29399, mz_c29400, mz_c29401, nI_add, pk_mul, pk_m1, mz_pp, mz_pq, hs]; congr 1; omega)) ?_
      try simp only [mz_c0, mz_cm1, hs]
      refine mz_br_f hC tk_X4_rowWith rfl ((by show ¬ nI n ≤ nI k; exact nI_ge (by omega) (by omega))) ?_
      refine mz_sn_ok hC tk_X4_rowWith pk_RX4 3 [] rfl (by (repeat' apply And.intro) <;> first | exact True.intro | assumption | (simp only [mz_cm1, mz_c0, mz_c1, mz_c2, mz_c3, mz_c4, mz_c5, mz_c6, mz_c7, mz_c8, mz_c10, mz_c17, mz_c20, mz_c28, mz_c58, mz_c63, mz_c98, mz_c294, mz_c526, mz_c532, mz_c540, mz_c999, mz_c1900, mz_c2403, mz_c29362, mz_c29363, mz_c29364, mz_c29390, mz_c29393, mz_c29394, mz_c29398, mz_c29399, mz_c29400, mz_c29401, nI_add, pk_mul, pk_m1, mz_pp, mz_pq]; done) | omega | (simp only [mz_cm1, mz_c0, mz_c1, mz_c2, mz_c3, mz_c4, mz_c5, mz_c6, mz_c7, mz_c8, mz_c10, mz_c17, mz_c20, mz_c28, mz_c58, mz_c63, mz_c98, mz_c294, mz_c526, mz_c532, mz_c540, mz_c999, mz_c1900, mz_c2403, mz_c29362, mz_c29363, mz_c29364, mz_c29390, mz_c29393, mz_c29394, mz_c29398, mz_c29399, mz_c29400, mz_c29401, nI_add, pk_mul, pk_m1, mz_pp, mz_pq]; congr 1; omega)) ?_
      try simp only [mz_c0, mz_cm1]
      refine mz_Vcv hC tk_X4_rowWith rfl md_X4_cell lk_RX4_31 rfl (ct_cell l E hT0 (nI k) (nI j)) (by show (vwCl[mz_K _ _]?).map _ = _; rw [hK]; rfl) ⟨Nat.le_of_ble_eq_true rfl, Nat.le_of_ble_eq_true rfl⟩ ⟨Nat.le_of_ble_eq_true rfl, Nat.le_of_ble_eq_true rfl⟩ (Nat.le_of_ble_eq_true rfl) (fun v9 G9 sz9 hp9 => ?_)
      obtain ⟨rfl, rfl, rfl⟩ := hp9
      rw [mt_c_in (show k < n by omega) hj (by omega) (by omega)]
      refine mz_sn_ok hC tk_X4_rowWith pk_RX4 1 [] rfl (by (repeat' apply And.intro) <;> first | exact True.intro | assumption | (simp only [mz_cm1, mz_c0, mz_c1, mz_c2, mz_c3, mz_c4, mz_c5, mz_c6, mz_c7, mz_c8, mz_c10, mz_c17, mz_c20, mz_c28, mz_c58, mz_c63, mz_c98, mz_c294, mz_c526, mz_c532, mz_c540, mz_c999, mz_c1900, mz_c2403, mz_c29362, mz_c29363, mz_c29364, mz_c29390, mz_c29393, mz_c29394, mz_c29398, mz_c29399, mz_c29400, mz_c29401, nI_add, pk_mul, pk_m1, mz_pp, mz_pq]; done) | omega | (simp only [mz_cm1, mz_c0, mz_c1, mz_c2, mz_c3, mz_c4, mz_c5, mz_c6, mz_c7, mz_c8, mz_c10, mz_c17, mz_c20, mz_c28, mz_c58, mz_c63, mz_c98, mz_c294, mz_c526, mz_c532, mz_c540, mz_c999, mz_c1900, mz_c2403, mz_c29362, mz_c29363, mz_c29364, mz_c29390, mz_c29393, mz_c29394, mz_c29398, mz_c29399, mz_c29400, mz_c29401, nI_add, pk_mul, pk_m1, mz_pp, mz_pq]; congr 1; omega)) ?_
      try simp only [mz_c0, mz_cm1]
      by_cases cq : h k j = v
      · refine mz_br_f hC tk_X4_rowWith rfl ((by show ¬ ¬ h k j = v; exact fun z => z cq)) ?_
        refine mz_sn_ok hC tk_X4_rowWith pk_RX4 1 [] rfl (by (repeat' apply And.intro) <;> first | exact True.intro | assumption | (simp only [mz_cm1, mz_c0, mz_c1, mz_c2, mz_c3, mz_c4, mz_c5, mz_c6, mz_c7, mz_c8, mz_c10, mz_c17, mz_c20, mz_c28, mz_c58, mz_c63, mz_c98, mz_c294, mz_c526, mz_c532, mz_c540, mz_c999, mz_c1900, mz_c2403, mz_c29362, mz_c29363, mz_c29364, mz_c29390, mz_c29393, mz_c29394, mz_c29398, mz_c29399, mz_c29400, mz_c29401, nI_add, pk_mul, pk_m1, mz_pp, mz_pq]; done) | omega | (simp only [mz_cm1, mz_c0, mz_c1, mz_c2, mz_c3, mz_c4, mz_c5, mz_c6, mz_c7, mz_c8, mz_c10, mz_c17, mz_c20, mz_c28, mz_c58, mz_c63, mz_c98, mz_c294, mz_c526, mz_c532, mz_c540, mz_c999, mz_c1900, mz_c2403, mz_c29362, mz_c29363, mz_c29364, mz_c29390, mz_c29393, mz_c29394, mz_c29398, mz_c29399, mz_c29400, mz_c29401, nI_add, pk_mul, pk_m1, mz_pp, mz_pq]; congr 1; omega)) ?_
        try simp only [mz_c0, mz_cm1]
        refine mz_Vireturn hC tk_X4_rowWith rfl hret rfl (Nat.le_of_ble_eq_true rfl) (Nat.le_of_ble_eq_true rfl) ?_
        refine ⟨?_, rfl, rfl⟩
        simp only [mz_fi, mz_fz_hit h0 cq (show k < n by omega)]
      · refine mz_br_t hC tk_X4_rowWith rfl ((by show ¬ h k j = v; exact cq)) ?_
        refine mz_sn_ok hC tk_X4_rowWith pk_RX4 2 [] rfl (by (repeat' apply And.intro) <;> first | exact True.intro | assumption | (simp only [mz_cm1, mz_c0, mz_c1, mz_c2, mz_c3, mz_c4, mz_c5, mz_c6, mz_c7, mz_c8, mz_c10, mz_c17, mz_c20, mz_c28, mz_c58, mz_c63, mz_c98, mz_c294, mz_c526, mz_c532, mz_c540, mz_c999, mz_c1900, mz_c2403, mz_c29362, mz_c29363, mz_c29364, mz_c29390, mz_c29393, mz_c29394, mz_c29398, mz_c29399, mz_c29400, mz_c29401, nI_add, pk_mul, pk_m1, mz_pp, mz_pq]; done) | omega | (simp only [mz_cm1, mz_c0, mz_c1, mz_c2, mz_c3, mz_c4, mz_c5, mz_c6, mz_c7, mz_c8, mz_c10, mz_c17, mz_c20, mz_c28, mz_c58, mz_c63, mz_c98, mz_c294, mz_c526, mz_c532, mz_c540, mz_c999, mz_c1900, mz_c2403, mz_c29362, mz_c29363, mz_c29364, mz_c29390, mz_c29393, mz_c29394, mz_c29398, mz_c29399, mz_c29400, mz_c29401, nI_add, pk_mul, pk_m1, mz_pp, mz_pq]; congr 1; omega)) ?_
        try simp only [mz_c0, mz_cm1]
        refine mz_V.sub (lv' := [some (.ref t), some (.int (nI j)), some (.int v), some (.int (nI (k + 1)))]) (by (repeat' apply And.intro) <;> first | with_reducible rfl | exact True.intro | (simp only [mz_cm1, mz_c0, mz_c1, mz_c2, mz_c3, mz_c4, mz_c5, mz_c6, mz_c7, mz_c8, mz_c10, mz_c17, mz_c20, mz_c28, mz_c58, mz_c63, mz_c98, mz_c294, mz_c526, mz_c532, mz_c540, mz_c999, mz_c1900, mz_c2403, mz_c29362, mz_c29363, mz_c29364, mz_c29390, mz_c29393, mz_c29394, mz_c29398, mz_c29399, mz_c29400, mz_c29401, nI_add, pk_mul, pk_m1, mz_pp, mz_pq]; done) | rfl) ?_
        exact ih (k + 1) (by omega) (mz_fz_miss h0 cq)
  refine mz_sn_ok hC tk_X4_rowWith pk_RX4 2 [] rfl (by (repeat' apply And.intro) <;> first | exact True.intro | assumption | (simp only [mz_cm1, mz_c0, mz_c1, mz_c2, mz_c3, mz_c4, mz_c5, mz_c6, mz_c7, mz_c8, mz_c10, mz_c17, mz_c20, mz_c28, mz_c58, mz_c63, mz_c98, mz_c294, mz_c526, mz_c532, mz_c540, mz_c999, mz_c1900, mz_c2403, mz_c29362, mz_c29363, mz_c29364, mz_c29390, mz_c29393, mz_c29394, mz_c29398, mz_c29399, mz_c29400, mz_c29401, nI_add, pk_mul, pk_m1, mz_pp, mz_pq]; done) | omega | (simp only [mz_cm1, mz_c0, mz_c1, mz_c2, mz_c3, mz_c4, mz_c5, mz_c6, mz_c7, mz_c8, mz_c10, mz_c17, mz_c20, mz_c28, mz_c58, mz_c63, mz_c98, mz_c294, mz_c526, mz_c532, mz_c540, mz_c999, mz_c1900, mz_c2403, mz_c29362, mz_c29363, mz_c29364, mz_c29390, mz_c29393, mz_c29394, mz_c29398, mz_c29399, mz_c29400, mz_c29401, nI_add, pk_mul, pk_m1, mz_pp, mz_pq]; congr 1; omega)) ?_
  try simp only [mz_c0, mz_cm1]
  refine mz_V.sub (lv' := [some (.ref t), some (.int (nI j)), some (.int v), some (.int (nI 0))]) (by (repeat' apply And.intro) <;> first | with_reducible rfl | exact True.intro | (simp only [mz_cm1, mz_c0, mz_c1, mz_c2, mz_c3, mz_c4, mz_c5, mz_c6, mz_c7, mz_c8, mz_c10, mz_c17, mz_c20, mz_c28, mz_c58, mz_c63, mz_c98, mz_c294, mz_c526, mz_c532, mz_c540, mz_c999, mz_c1900, mz_c2403, mz_c29362, mz_c29363, mz_c29364, mz_c29390, mz_c29393, mz_c29394, mz_c29398, mz_c29399, mz_c29400, mz_c29401, nI_add, pk_mul, pk_m1, mz_pp, mz_pq]; done) | rfl) ?_
  exact loop n 0 (by omega) rfl
theorem ct_eraseAll (hT : mt_T G O sz t W lim n len h) : mz_M l E yX4_eraseAll cX4_eraseAll 1 none 1 0 0 [.ref t] G sz (fun v' G' sz' => v' = none ∧ sz = sz' ∧ mt_T G' O sz t W lim 0 len h ∧ mt_F (fun q => q = t) G G' O O sz sz) := by
  obtain ⟨a, ⟨⟨hK, hw, hl, hs, hr⟩, hKa, hna, hOa, hOt, ht, ha⟩, ⟨b1, b2, b3, b4, b5⟩, hcell⟩ := hT
  refine mz_start (by decide) (Nat.le_of_ble_eq_true rfl) ?_
  intro p e s m args below meth c hC hret hnm
  refine mz_sn_ok hC tk_X4_eraseAll pk_RX4 3 [] rfl (by (repeat' apply And.intro) <;> first | exact True.intro | assumption | (simp only [mz_cm1, mz_c0, mz_c1, mz_c2, mz_c3, mz_c4, mz_c5, mz_c6, mz_c7, mz_c8, mz_c10, mz_c17, mz_c20, mz_c28, mz_c58, mz_c63, mz_c98, mz_c294, mz_c526, mz_c532, mz_c540, mz_c999, mz_c1900, mz_c2403, mz_c29362, mz_c29363, mz_c29364, mz_c29390, mz_c29393, mz_c29394, mz_c29398, mz_c29399, mz_c29400, mz_c29401, nI_add, pk_mul, pk_m1, mz_pp, mz_pq]; done) | omega | (simp only [mz_cm1, mz_c0, mz_c1, mz_c2, mz_c3, mz_c4, mz_c5, mz_c6, mz_c7, mz_c8, mz_c10, mz_c17, mz_c20, mz_c28, mz_c58, mz_c63, mz_c98, mz_c294, mz_c526, mz_c532, mz_c540, mz_c999, mz_c1900, mz_c2403, mz_c29362, mz_c29363, mz_c29364, mz_c29390, mz_c29393, mz_c29394, mz_c29398, mz_c29399, mz_c29400, mz_c29401, nI_add, pk_mul, pk_m1, mz_pp, mz_pq]; congr 1; omega)) ?_
  try simp only [mz_c0, mz_cm1]
  refine mz_Vreturn hC tk_X4_eraseAll rfl hret (Nat.le_of_ble_eq_true rfl) (Nat.le_of_ble_eq_true rfl) ?_
  refine ⟨rfl, rfl, ⟨a, ⟨⟨hK, ?_, ?_, ?_, hr⟩, hKa, hna, hOa, hOt, ht, ha⟩, ⟨by omega, by omega, b3, b4, b5⟩, fun k' j' h1 h2 => absurd h1 (by omega)⟩, Nat.le_refl _, fun q hq => ⟨rfl, fun hX => ⟨rfl, rfl, ?_, rfl, rfl⟩⟩⟩
  · show mz_u2 (mz_i G) t 2 _ t 0 = nI W
    rw [mz_u2_j _ _ _ _ (by omega), hw]
  · show mz_u2 (mz_i G) t 2 _ t 1 = nI lim
    rw [mz_u2_j _ _ _ _ (by omega), hl]
  · show mz_u2 (mz_i G) t 2 _ t 2 = nI 0
    rw [mz_u2_s]
  · funext i
    show mz_u2 (mz_i G) t 2 _ q i = mz_i G q i
    exact mz_u2_a _ _ _ _ (fun z => hX (by rw [z]; exact hOt))
end MTT

