/-! ===== the class: a box changes flags, removes ===== -/
theorem mt_gc12 {g : Nat} (h : g < 6) : mt_gc 2 g 12 = 0 ∧ mt_gs 2 6 g 12 = 0 ∧ mt_gl 2 6 g 12 = 12 := by
  unfold mt_gc mt_gs mt_gl
  rw [if_pos (by omega), if_pos (by omega), if_pos (by omega)]
  exact ⟨rfl, rfl, rfl⟩
/-- a box in its parts: its object's numbers as given -/
def mr_Bn (G : mz_G) (O : Nat → Nat) (sz β μ ν : Nat) (z0 z1 z2 z3 : Int32) (cnt g : Nat) (h1 h2 : Nat → Nat → Int32) : Prop :=
  (((mz_K G β = 0 ∧ O β = β ∧ β < sz) ∧ (mz_i G β 0 = z0 ∧ mz_i G β 1 = z1 ∧ mz_i G β 2 = z2 ∧ mz_i G β 3 = z3)) ∧ (mz_r G β 4 = some μ ∧ mz_r G β 5 = some ν ∧ μ ≠ ν)) ∧
  (mt_T G O sz μ 4 20 cnt 80 h1 ∧ mt_T G O sz ν 2 6 g 12 h2)
theorem mr_B.n {G : mz_G} {O : Nat → Nat} {sz β μ ν : Nat} {f : Nat → Int32} {b cnt g : Nat} (hB : mr_B G O sz β μ ν f b cnt g) : mr_Bn G O sz β μ ν (f (98 * b + 0)) (f (98 * b + 1)) (f (98 * b + 2)) (f (98 * b + 3)) cnt g (mr_h f (98 * b + 17) 4) (mr_h f (98 * b + 4) 2) := ⟨hB.1, hB.2.1⟩
section MRN
variable {G G' : mz_G} {O O' : Nat → Nat} {sz sz' β μ ν : Nat} {z0 z1 z2 z3 : Int32} {cnt g n' len' : Nat} {h1 h2 h3 : Nat → Nat → Int32}
theorem mr_Bn.ne (hB : mr_Bn G O sz β μ ν z0 z1 z2 z3 cnt g h1 h2) : β ≠ μ ∧ β ≠ ν ∧ μ ≠ ν := by
  obtain ⟨⟨⟨⟨hK, hO, hs⟩, -⟩, r4, r5, hne⟩, t1, t2⟩ := hB
  have k1 := t1.K
  have k2 := t2.K
  exact ⟨fun z => by rw [z] at hK; omega, fun z => by rw [z] at hK; omega, hne⟩
/-- its messages changed -/
theorem mr_Bn.msg (hB : mr_Bn G O sz β μ ν z0 z1 z2 z3 cnt g h1 h2) (hF : mt_F (fun q => q = μ) G G' O O' sz sz') (ht : mt_T G' O' sz' μ 4 20 n' 80 h3) : mr_Bn G' O' sz' β μ ν z0 z1 z2 z3 n' g h3 h2 := by
  obtain ⟨n1, n2, n3⟩ := hB.ne
  obtain ⟨⟨⟨⟨hK, hO, hs⟩, i0, i1, i2, i3⟩, r4, r5, hne⟩, t1, t2⟩ := hB
  obtain ⟨o1, f1⟩ := hF.2 β hs
  obtain ⟨e1, e2, e3, e4, e5⟩ := f1 (by rw [hO]; exact n1)
  have := hF.1
  exact ⟨⟨⟨⟨by rw [e1, hK], by rw [o1, hO], by omega⟩, by rw [e3, i0], by rw [e3, i1], by rw [e3, i2], by rw [e3, i3]⟩, by rw [e4, r4], by rw [e4, r5], hne⟩, ht, t2.fr hF (Ne.symm n3)⟩
/-- what it lost changed -/
theorem mr_Bn.lost (hB : mr_Bn G O sz β μ ν z0 z1 z2 z3 cnt g h1 h2) (hF : mt_F (fun q => q = ν) G G' O O' sz sz') (ht : mt_T G' O' sz' ν 2 6 n' 12 h3) : mr_Bn G' O' sz' β μ ν z0 z1 z2 z3 cnt n' h1 h3 := by
  obtain ⟨n1, n2, n3⟩ := hB.ne
  obtain ⟨⟨⟨⟨hK, hO, hs⟩, i0, i1, i2, i3⟩, r4, r5, hne⟩, t1, t2⟩ := hB
  obtain ⟨o1, f1⟩ := hF.2 β hs
  obtain ⟨e1, e2, e3, e4, e5⟩ := f1 (by rw [hO]; exact n2)
  have := hF.1
  exact ⟨⟨⟨⟨by rw [e1, hK], by rw [o1, hO], by omega⟩, by rw [e3, i0], by rw [e3, i1], by rw [e3, i2], by rw [e3, i3]⟩, by rw [e4, r4], by rw [e4, r5], hne⟩, t1.fr hF n3, ht⟩
theorem mr_Bn.mark (hB : mr_Bn G O sz β μ ν z0 z1 z2 z3 cnt g h1 h2) (v : Int32) : mr_Bn (mz_si G β 2 v) O sz β μ ν z0 z1 v z3 cnt g h1 h2 ∧ mt_F (fun q => q = β) G (mz_si G β 2 v) O O sz sz := by
  obtain ⟨n1, n2, n3⟩ := hB.ne
  obtain ⟨⟨⟨⟨hK, hO, hs⟩, i0, i1, i2, i3⟩, r4, r5, hne⟩, t1, t2⟩ := hB
  have hF : mt_F (fun q => q = β) G (mz_si G β 2 v) O O sz sz := mt_F_si hO
  refine ⟨⟨⟨⟨⟨hK, hO, hs⟩, ?_, ?_, ?_, ?_⟩, r4, r5, hne⟩, t1.fr hF (Ne.symm n1), t2.fr hF (Ne.symm n2)⟩, hF⟩
  · show mz_u2 (mz_i G) β 2 v β 0 = _; rw [mz_u2_j _ _ _ _ (by omega), i0]
  · show mz_u2 (mz_i G) β 2 v β 1 = _; rw [mz_u2_j _ _ _ _ (by omega), i1]
  · show mz_u2 (mz_i G) β 2 v β 2 = _; rw [mz_u2_s]
  · show mz_u2 (mz_i G) β 2 v β 3 = _; rw [mz_u2_j _ _ _ _ (by omega), i3]
theorem mr_Bn.hor (hB : mr_Bn G O sz β μ ν z0 z1 z2 z3 cnt g h1 h2) (v : Int32) : mr_Bn (mz_si G β 3 v) O sz β μ ν z0 z1 z2 v cnt g h1 h2 ∧ mt_F (fun q => q = β) G (mz_si G β 3 v) O O sz sz := by
  obtain ⟨n1, n2, n3⟩ := hB.ne
  obtain ⟨⟨⟨⟨hK, hO, hs⟩, i0, i1, i2, i3⟩, r4, r5, hne⟩, t1, t2⟩ := hB
  have hF : mt_F (fun q => q = β) G (mz_si G β 3 v) O O sz sz := mt_F_si hO
  refine ⟨⟨⟨⟨⟨hK, hO, hs⟩, ?_, ?_, ?_, ?_⟩, r4, r5, hne⟩, t1.fr hF (Ne.symm n1), t2.fr hF (Ne.symm n2)⟩, hF⟩
  · show mz_u2 (mz_i G) β 3 v β 0 = _; rw [mz_u2_j _ _ _ _ (by omega), i0]
  · show mz_u2 (mz_i G) β 3 v β 1 = _; rw [mz_u2_j _ _ _ _ (by omega), i1]
  · show mz_u2 (mz_i G) β 3 v β 2 = _; rw [mz_u2_j _ _ _ _ (by omega), i2]
  · show mz_u2 (mz_i G) β 3 v β 3 = _; rw [mz_u2_s]
end MRN
section MRB
variable (l : Launch) (E : mz_E) {G : mz_G} {O : Nat → Nat} {sz β μ ν : Nat} {f : Nat → Int32} {b cnt g : Nat}
theorem cb_changeFlags (hB : mr_B G O sz β μ ν f b cnt g) (k : Nat) (hk : k < cnt) (fl : Int32) : mz_M l E yX0_changeFlags cX0_changeFlags 3 none 2 0 0 [.ref β, .int (nI k), .int fl] G sz (fun v' G' sz' => v' = none ∧ sz = sz' ∧ mr_B G' O sz β μ ν (mx_ch f b k fl) b cnt g ∧ mt_F (mr_X β μ ν) G G' O O sz sz) := by
  have hn := hB.n
  have hB0 := hB
  obtain ⟨-, -, hc1, hc2⟩ := hB
  have hn0 := hn
  obtain ⟨⟨⟨⟨hK, hO, hs⟩, i0, i1, i2, i3⟩, r4, r5, hne⟩, t1, t2⟩ := hn
  have k1 := t1.K
  obtain ⟨c20, -, -⟩ := t1.b
  obtain ⟨g6, -, -⟩ := t2.b
  refine mz_start (by decide) (Nat.le_of_ble_eq_true rfl) ?_
  intro p e s m args below meth c hC hret hnm
  refine mz_sn_ok hC tk_X0_changeFlags pk_RX0 4 [μ] rfl (by (repeat' apply And.intro) <;> first | exact True.intro | assumption | (simp only [mz_cm1, mz_c0, mz_c1, mz_c2, mz_c3, mz_c4, mz_c5, mz_c6, mz_c7, mz_c8, mz_c10, mz_c17, mz_c20, mz_c28, mz_c58, mz_c63, mz_c98, mz_c294, mz_c526, mz_c532, mz_c540, mz_c999, mz_c1900, mz_c2403, mz_c29362, mz_c29363, mz_c29364, mz_c29390, mz_c29393, mz_c29394, mz_c29398, mz_c29399, mz_c29400, mz_c29401, nI_add, pk_mul, pk_m1, mz_pp, mz_pq]; done) | omega | (simp only [mz_cm1, mz_c0, mz_c1, mz_c2, mz_c3, mz_c4, mz_c5, mz_c6, mz_c7, mz_c8, mz_c10, mz_c17, mz_c20, mz_c28, mz_c58, mz_c63, mz_c98, mz_c294, mz_c526, mz_c532, mz_c540, mz_c999, mz_c1900, mz_c2403, mz_c29362, mz_c29363, mz_c29364, mz_c29390, mz_c29393, mz_c29394, mz_c29398, mz_c29399, mz_c29400, mz_c29401, nI_add, pk_mul, pk_m1, mz_pp, mz_pq]; congr 1; omega)) ?_
  try simp only [mz_c0, mz_cm1]
  refine mz_Vcv hC tk_X0_changeFlags rfl md_X4_cell lk_RX0_39 rfl (ct_cell l E t1 (nI k) (nI 2)) (by show (vwCl[mz_K _ _]?).map _ = _; rw [k1]; rfl) ⟨Nat.le_of_ble_eq_true rfl, Nat.le_of_ble_eq_true rfl⟩ ⟨Nat.le_of_ble_eq_true rfl, Nat.le_of_ble_eq_true rfl⟩ (Nat.le_of_ble_eq_true rfl) (fun v9 G9 sz9 hp9 => ?_)
  obtain ⟨rfl, hG9, hs9⟩ := hp9
  rw [hG9, ← hs9]
  rw [mt_c_in hk (by omega) (by omega) (by omega)]
  refine mz_sn_ok hC tk_X0_changeFlags pk_RX0 1 [] rfl (by (repeat' apply And.intro) <;> first | exact True.intro | assumption | (simp only [mz_cm1, mz_c0, mz_c1, mz_c2, mz_c3, mz_c4, mz_c5, mz_c6, mz_c7, mz_c8, mz_c10, mz_c17, mz_c20, mz_c28, mz_c58, mz_c63, mz_c98, mz_c294, mz_c526, mz_c532, mz_c540, mz_c999, mz_c1900, mz_c2403, mz_c29362, mz_c29363, mz_c29364, mz_c29390, mz_c29393, mz_c29394, mz_c29398, mz_c29399, mz_c29400, mz_c29401, nI_add, pk_mul, pk_m1, mz_pp, mz_pq]; done) | omega | (simp only [mz_cm1, mz_c0, mz_c1, mz_c2, mz_c3, mz_c4, mz_c5, mz_c6, mz_c7, mz_c8, mz_c10, mz_c17, mz_c20, mz_c28, mz_c58, mz_c63, mz_c98, mz_c294, mz_c526, mz_c532, mz_c540, mz_c999, mz_c1900, mz_c2403, mz_c29362, mz_c29363, mz_c29364, mz_c29390, mz_c29393, mz_c29394, mz_c29398, mz_c29399, mz_c29400, mz_c29401, nI_add, pk_mul, pk_m1, mz_pp, mz_pq]; congr 1; omega)) ?_
  try simp only [mz_c0, mz_cm1]
  by_cases heq : f (98 * b + 17 + 1 + 4 * k + 2) = fl
  · refine mz_br_t hC tk_X0_changeFlags rfl ((by show f (98 * b + 17 + 1 + 4 * k + 2) = fl; exact heq)) ?_
    refine mz_Vreturn hC tk_X0_changeFlags rfl hret (Nat.le_of_ble_eq_true rfl) (Nat.le_of_ble_eq_true rfl) ?_
    exact ⟨rfl, rfl, by unfold mx_ch; rw [if_pos heq]; exact hB0, mt_F.rf⟩
  · refine mz_br_f hC tk_X0_changeFlags rfl ((by show ¬ f (98 * b + 17 + 1 + 4 * k + 2) = fl; exact heq)) ?_
    refine mz_sn_ok hC tk_X0_changeFlags pk_RX0 6 [] rfl (by (repeat' apply And.intro) <;> first | exact True.intro | assumption | (simp only [mz_cm1, mz_c0, mz_c1, mz_c2, mz_c3, mz_c4, mz_c5, mz_c6, mz_c7, mz_c8, mz_c10, mz_c17, mz_c20, mz_c28, mz_c58, mz_c63, mz_c98, mz_c294, mz_c526, mz_c532, mz_c540, mz_c999, mz_c1900, mz_c2403, mz_c29362, mz_c29363, mz_c29364, mz_c29390, mz_c29393, mz_c29394, mz_c29398, mz_c29399, mz_c29400, mz_c29401, nI_add, pk_mul, pk_m1, mz_pp, mz_pq, i2]; done) | omega | (simp only [mz_cm1, mz_c0, mz_c1, mz_c2, mz_c3, mz_c4, mz_c5, mz_c6, mz_c7, mz_c8, mz_c10, mz_c17, mz_c20, mz_c28, mz_c58, mz_c63, mz_c98, mz_c294, mz_c526, mz_c532, mz_c540, mz_c999, mz_c1900, mz_c2403, mz_c29362, mz_c29363, mz_c29364, mz_c29390, mz_c29393, mz_c29394, mz_c29398, mz_c29399, mz_c29400, mz_c29401, nI_add, pk_mul, pk_m1, mz_pp, mz_pq, i2]; congr 1; omega)) ?_
    try simp only [mz_c0, mz_cm1, i2]
    obtain ⟨hn1, hF1⟩ := hn0.mark (f (98 * b + 2) + mz_c 1)
    obtain ⟨G1, hG1⟩ : ∃ G1, G1 = mz_si G β 2 (f (98 * b + 2) + mz_c 1) := ⟨_, rfl⟩
    rw [← hG1] at hn1 hF1 ⊢
    have hn1c := hn1
    obtain ⟨⟨⟨⟨hK1, -⟩, -, -, i21, -⟩, r41, -⟩, t11, -⟩ := hn1c
    have k11 := t11.K
    refine mz_sn_ok hC tk_X0_changeFlags pk_RX0 5 [μ] rfl (by (repeat' apply And.intro) <;> first | exact True.intro | assumption | (simp only [mz_cm1, mz_c0, mz_c1, mz_c2, mz_c3, mz_c4, mz_c5, mz_c6, mz_c7, mz_c8, mz_c10, mz_c17, mz_c20, mz_c28, mz_c58, mz_c63, mz_c98, mz_c294, mz_c526, mz_c532, mz_c540, mz_c999, mz_c1900, mz_c2403, mz_c29362, mz_c29363, mz_c29364, mz_c29390, mz_c29393, mz_c29394, mz_c29398, mz_c29399, mz_c29400, mz_c29401, nI_add, pk_mul, pk_m1, mz_pp, mz_pq]; done) | omega | (simp only [mz_cm1, mz_c0, mz_c1, mz_c2, mz_c3, mz_c4, mz_c5, mz_c6, mz_c7, mz_c8, mz_c10, mz_c17, mz_c20, mz_c28, mz_c58, mz_c63, mz_c98, mz_c294, mz_c526, mz_c532, mz_c540, mz_c999, mz_c1900, mz_c2403, mz_c29362, mz_c29363, mz_c29364, mz_c29390, mz_c29393, mz_c29394, mz_c29398, mz_c29399, mz_c29400, mz_c29401, nI_add, pk_mul, pk_m1, mz_pp, mz_pq]; congr 1; omega)) ?_
    try simp only [mz_c0, mz_cm1]
    refine mz_Vcv hC tk_X0_changeFlags rfl md_X4_put lk_RX0_47 rfl (ct_put l E t11 k 2 fl hk (by omega)) (by show (vwCl[mz_K _ _]?).map _ = _; rw [k11]; rfl) ⟨Nat.le_of_ble_eq_true rfl, Nat.le_of_ble_eq_true rfl⟩ ⟨Nat.le_of_ble_eq_true rfl, Nat.le_of_ble_eq_true rfl⟩ (Nat.le_of_ble_eq_true rfl) (fun v9 G9 sz9 hp9 => ?_)
    obtain ⟨rfl, rfl, t12, hF2⟩ := hp9
    have hn2 := hn1.msg hF2 t12
    have hn2c := hn2
    obtain ⟨⟨⟨⟨hK2, -⟩, -, -, i22, -⟩, r42, -⟩, -⟩ := hn2c
    have k12 := t12.K
    refine mz_sn_ok hC tk_X0_changeFlags pk_RX0 6 [μ] rfl (by (repeat' apply And.intro) <;> first | exact True.intro | assumption | (simp only [mz_cm1, mz_c0, mz_c1, mz_c2, mz_c3, mz_c4, mz_c5, mz_c6, mz_c7, mz_c8, mz_c10, mz_c17, mz_c20, mz_c28, mz_c58, mz_c63, mz_c98, mz_c294, mz_c526, mz_c532, mz_c540, mz_c999, mz_c1900, mz_c2403, mz_c29362, mz_c29363, mz_c29364, mz_c29390, mz_c29393, mz_c29394, mz_c29398, mz_c29399, mz_c29400, mz_c29401, nI_add, pk_mul, pk_m1, mz_pp, mz_pq, i22]; done) | omega | (simp only [mz_cm1, mz_c0, mz_c1, mz_c2, mz_c3, mz_c4, mz_c5, mz_c6, mz_c7, mz_c8, mz_c10, mz_c17, mz_c20, mz_c28, mz_c58, mz_c63, mz_c98, mz_c294, mz_c526, mz_c532, mz_c540, mz_c999, mz_c1900, mz_c2403, mz_c29362, mz_c29363, mz_c29364, mz_c29390, mz_c29393, mz_c29394, mz_c29398, mz_c29399, mz_c29400, mz_c29401, nI_add, pk_mul, pk_m1, mz_pp, mz_pq, i22]; congr 1; omega)) ?_
    try simp only [mz_c0, mz_cm1, i22]
    refine mz_Vcv hC tk_X0_changeFlags rfl md_X4_put lk_RX0_47 rfl (ct_put l E t12 k 3 (f (98 * b + 2) + mz_c 1) hk (by omega)) (by show (vwCl[mz_K _ _]?).map _ = _; rw [k12]; rfl) ⟨Nat.le_of_ble_eq_true rfl, Nat.le_of_ble_eq_true rfl⟩ ⟨Nat.le_of_ble_eq_true rfl, Nat.le_of_ble_eq_true rfl⟩ (Nat.le_of_ble_eq_true rfl) (fun v9 G9 sz9 hp9 => ?_)
    obtain ⟨rfl, rfl, t13, hF3⟩ := hp9
    have hn3 := hn2.msg hF3 t13
    refine mz_Vreturn hC tk_X0_changeFlags rfl hret (Nat.le_of_ble_eq_true rfl) (Nat.le_of_ble_eq_true rfl) ?_
    refine ⟨rfl, rfl, ?_, (hF1.mono (fun q hq => Or.inl hq)).tr ((hF2.mono (fun q hq => Or.inr (Or.inl hq))).tr (hF3.mono (fun q hq => Or.inr (Or.inl hq))))⟩
    have ech : mx_ch f b k fl = mz_u1 (mz_u1 (mz_u1 f (98 * b + 2) (f (98 * b + 2) + 1)) (98 * b + 17 + 1 + 4 * k + 3) (f (98 * b + 2) + 1)) (98 * b + 17 + 1 + 4 * k + 2) fl := by unfold mx_ch; rw [if_neg heq]
    rw [ech]
    obtain ⟨⟨⟨hk3, j0, j1, j2, j3⟩, hr3⟩, u1, u2⟩ := hn3
    refine ⟨⟨⟨hk3, ?_, ?_, ?_, ?_⟩, hr3⟩, ⟨?_, ?_⟩, ?_, ?_⟩
    · rw [j0]; simp only [mz_u1]; rw [if_neg (by omega), if_neg (by omega), if_neg (by omega)]
    · rw [j1]; simp only [mz_u1]; rw [if_neg (by omega), if_neg (by omega), if_neg (by omega)]
    · rw [j2]; simp only [mz_u1]; rw [if_neg (by omega), if_neg (by omega), if_pos True.intro]; rfl
    · rw [j3]; simp only [mz_u1]; rw [if_neg (by omega), if_neg (by omega), if_neg (by omega)]
    · refine u1.same (fun k' j' h1 h2 => ?_)
      simp only [mt_u, mr_h, mz_u1]
      by_cases hk' : k' = k
      · subst hk'
        rcases (show j' = 0 ∨ j' = 1 ∨ j' = 2 ∨ j' = 3 by omega) with rfl | rfl | rfl | rfl
        · rw [if_neg (by omega), if_neg (by omega), if_neg (by omega), if_neg (by omega), if_neg (by omega)]
        · rw [if_neg (by omega), if_neg (by omega), if_neg (by omega), if_neg (by omega), if_neg (by omega)]
        · rw [if_neg (by omega), if_pos ⟨rfl, rfl⟩, if_pos (by omega)]
        · rw [if_pos ⟨rfl, rfl⟩, if_neg (by omega), if_pos (by omega)]
          rfl
      · rw [if_neg (by omega), if_neg (by omega), if_neg (by omega), if_neg (by omega), if_neg (by omega)]
    · refine u2.same (fun k' j' h1 h2 => ?_)
      simp only [mr_h, mz_u1]
      rw [if_neg (by omega), if_neg (by omega), if_neg (by omega)]
    · simp only [mz_u1]; rw [if_neg (by omega), if_neg (by omega), if_neg (by omega), hc1]
    · simp only [mz_u1]; rw [if_neg (by omega), if_neg (by omega), if_neg (by omega), hc2]
end MRB

