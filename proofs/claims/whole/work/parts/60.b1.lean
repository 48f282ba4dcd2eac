/-! ===== the class: a box ===== -/
/-- a region of the reference's row, as a table -/
def mr_h (f : Nat → Int32) (p W : Nat) : Nat → Nat → Int32 := fun k j => f (p + 1 + W * k + j)
/-- a box of the class holds box b of f -/
def mr_B (G : mz_G) (O : Nat → Nat) (sz β μ ν : Nat) (f : Nat → Int32) (b cnt g : Nat) : Prop :=
  (((mz_K G β = 0 ∧ O β = β ∧ β < sz) ∧ (mz_i G β 0 = f (98 * b + 0) ∧ mz_i G β 1 = f (98 * b + 1) ∧ mz_i G β 2 = f (98 * b + 2) ∧ mz_i G β 3 = f (98 * b + 3))) ∧ (mz_r G β 4 = some μ ∧ mz_r G β 5 = some ν ∧ μ ≠ ν)) ∧
  (mt_T G O sz μ 4 20 cnt 80 (mr_h f (98 * b + 17) 4) ∧ mt_T G O sz ν 2 6 g 12 (mr_h f (98 * b + 4) 2)) ∧ (f (98 * b + 17) = nI cnt ∧ f (98 * b + 4) = nI g)
def mr_X (β μ ν : Nat) : Nat → Prop := fun q => q = β ∨ q = μ ∨ q = ν
theorem mr_B.fr {X : Nat → Prop} {G G' : mz_G} {O O' : Nat → Nat} {sz sz' β μ ν : Nat} {f : Nat → Int32} {b cnt g : Nat} (hB : mr_B G O sz β μ ν f b cnt g) (hF : mt_F X G G' O O' sz sz') (h1 : ¬ X β) (h2 : ¬ X μ) (h3 : ¬ X ν) : mr_B G' O' sz' β μ ν f b cnt g := by
  obtain ⟨⟨⟨⟨hK, hO, hs⟩, i0, i1, i2, i3⟩, r4, r5, hne⟩, ⟨t1, t2⟩, hc⟩ := hB
  obtain ⟨o1, f1⟩ := hF.2 β hs
  obtain ⟨e1, e2, e3, e4, e5⟩ := f1 (by rw [hO]; exact h1)
  have := hF.1
  exact ⟨⟨⟨⟨by rw [e1, hK], by rw [o1, hO], by omega⟩, by rw [e3, i0], by rw [e3, i1], by rw [e3, i2], by rw [e3, i3]⟩, by rw [e4, r4], by rw [e4, r5], hne⟩, ⟨t1.fr hF h2, t2.fr hF h3⟩, hc⟩
theorem mt_F_si {G : mz_G} {O : Nat → Nat} {sz β j : Nat} {v : Int32} (hO : O β = β) : mt_F (fun q => q = β) G (mz_si G β j v) O O sz sz :=
  ⟨Nat.le_refl _, fun q _ => ⟨rfl, fun hX => ⟨rfl, rfl, by funext i; exact mz_u2_a _ _ _ _ (fun z => hX (by rw [z]; exact hO)), rfl, rfl⟩⟩⟩
theorem mt_gc80 {cnt : Nat} (h : cnt < 20) : mt_gc 4 cnt 80 = 0 ∧ mt_gs 4 20 cnt 80 = 0 ∧ mt_gl 4 20 cnt 80 = 80 := by
  unfold mt_gc mt_gs mt_gl
  rw [if_pos (by omega), if_pos (by omega), if_pos (by omega)]
  exact ⟨rfl, rfl, rfl⟩
theorem mz_fz_no {g : Nat → Int32} {v : Int32} : ∀ {n : Nat}, (∀ j, j < n → ¬ g j = v) → mz_fz g v n = none
  | 0, _ => rfl
  | n + 1, h => mz_fz_miss (mz_fz_no (fun j hj => h j (by omega))) (h n (by omega))
theorem mx_ps_all {g : Nat → Int32} {v : Int32} : ∀ {n : Nat}, (∀ j, j < n → ¬ v < g j) → mx_ps g v n = n
  | 0, _ => rfl
  | n + 1, h => by
    unfold mx_ps
    rw [if_neg (h n (by omega))]
theorem mz_lt_ne {a b : Int32} (h : a < b) : ¬ a = b := fun z => by rw [z, mz_ltI] at h; omega
theorem mz_lt_as {a b : Int32} (h : a < b) : ¬ b < a := by rw [mz_ltI] at h; rw [mz_ltI]; omega
theorem mz_lt_nle {a b : Int32} (h : a < b) : ¬ b ≤ a := by rw [mz_ltI] at h; rw [mz_leI]; omega
/-- adding is appending -/
theorem mr_ad (f : Nat → Int32) (b cnt : Nat) (ct fl : Int32) (hasc : ∀ k, k < cnt → mx_nm f (98 * b + 17) k < f (98 * b + 1)) : mx_ad f b cnt ct fl = mx_rw (mz_u1 (mz_u1 (mz_u1 f (98 * b + 2) (f (98 * b + 2) + 1)) (98 * b + 1) (f (98 * b + 1) + 1)) (98 * b + 17) (nI (cnt + 1))) (98 * b + 17) cnt (f (98 * b + 1)) ct fl (f (98 * b + 2) + 1) := by
  have hn : ∀ k, mx_nm (mz_u1 (mz_u1 f (98 * b + 2) (f (98 * b + 2) + 1)) (98 * b + 1) (f (98 * b + 1) + 1)) (98 * b + 17) k = mx_nm f (98 * b + 17) k := fun k => by
    simp only [mx_nm, mz_u1]
    rw [if_neg (by omega), if_neg (by omega)]
  unfold mx_ad mx_pu
  rw [mz_fz_no (fun j hj => by rw [hn]; exact mz_lt_ne (hasc j hj)), mx_ps_all (fun j hj => by rw [hn]; exact mz_lt_as (hasc j hj)), mx_in1_0]
section MRB
variable (l : Launch) (E : mz_E) {G : mz_G} {O : Nat → Nat} {sz β μ ν : Nat} {f : Nat → Int32} {b cnt g : Nat}
theorem cb_isFull (hB : mr_B G O sz β μ ν f b cnt g) : mz_M l E yX0_isFull cX0_isFull 1 (some .boolean) 1 0 0 [.ref β] G sz (fun v' G' sz' => v' = some (.int (if cnt < 20 then 0 else 1)) ∧ G' = G ∧ sz = sz') := by
  obtain ⟨⟨⟨⟨hK, hO, hs⟩, i0, i1, i2, i3⟩, r4, r5, hne⟩, ⟨t1, t2⟩, hc⟩ := hB
  have k1 := t1.K
  have s1 := t1.s
  have b1 := t1.b
  refine mz_start (by decide) (Nat.le_of_ble_eq_true rfl) ?_
  intro p e s m args below meth c hC hret hnm
  refine mz_sn_ok hC tk_X0_isFull pk_RX0 4 [μ] rfl (by (repeat' apply And.intro) <;> first | exact True.intro | assumption | (simp only [mz_cm1, mz_c0, mz_c1, mz_c2, mz_c3, mz_c4, mz_c5, mz_c6, mz_c7, mz_c8, mz_c10, mz_c17, mz_c20, mz_c28, mz_c58, mz_c63, mz_c98, mz_c294, mz_c526, mz_c532, mz_c540, mz_c999, mz_c1900, mz_c2403, mz_c29362, mz_c29363, mz_c29364, mz_c29390, mz_c29393, mz_c29394, mz_c29398, mz_c29399, mz_c29400, mz_c29401, nI_add, pk_mul, pk_m1, mz_pp, mz_pq, s1]; done) | omega | (simp only [mz_cm1, mz_c0, mz_c1, mz_c2, mz_c3, mz_c4, mz_c5, mz_c6, mz_c7, mz_c8, mz_c10, mz_c17, mz_c20, mz_c28, mz_c58, mz_c63, mz_c98, mz_c294, mz_c526, mz_c532, mz_c540, mz_c999, mz_c1900, mz_c2403, mz_c29362, mz_c29363, mz_c29364, mz_c29390, mz_c29393, mz_c29394, mz_c29398, mz_c29399, mz_c29400, mz_c29401, nI_add, pk_mul, pk_m1, mz_pp, mz_pq, s1]; congr 1; omega)) ?_
  try simp only [mz_c0, mz_cm1, s1]
  by_cases h : cnt < 20
  · refine mz_br_t hC tk_X0_isFull rfl ((by show nI cnt < nI 20; exact nI_lt (by omega) (by omega))) ?_
    refine mz_sn_ok hC tk_X0_isFull pk_RX0 1 [] rfl (by (repeat' apply And.intro) <;> first | exact True.intro | assumption | (simp only [mz_cm1, mz_c0, mz_c1, mz_c2, mz_c3, mz_c4, mz_c5, mz_c6, mz_c7, mz_c8, mz_c10, mz_c17, mz_c20, mz_c28, mz_c58, mz_c63, mz_c98, mz_c294, mz_c526, mz_c532, mz_c540, mz_c999, mz_c1900, mz_c2403, mz_c29362, mz_c29363, mz_c29364, mz_c29390, mz_c29393, mz_c29394, mz_c29398, mz_c29399, mz_c29400, mz_c29401, nI_add, pk_mul, pk_m1, mz_pp, mz_pq]; done) | omega | (simp only [mz_cm1, mz_c0, mz_c1, mz_c2, mz_c3, mz_c4, mz_c5, mz_c6, mz_c7, mz_c8, mz_c10, mz_c17, mz_c20, mz_c28, mz_c58, mz_c63, mz_c98, mz_c294, mz_c526, mz_c532, mz_c540, mz_c999, mz_c1900, mz_c2403, mz_c29362, mz_c29363, mz_c29364, mz_c29390, mz_c29393, mz_c29394, mz_c29398, mz_c29399, mz_c29400, mz_c29401, nI_add, pk_mul, pk_m1, mz_pp, mz_pq]; congr 1; omega)) ?_
    try simp only [mz_c0, mz_cm1]
    refine mz_Vireturn hC tk_X0_isFull rfl hret mz_nb0 (Nat.le_of_ble_eq_true rfl) (Nat.le_of_ble_eq_true rfl) ?_
    exact ⟨by rw [if_pos h]; rfl, rfl, rfl⟩
  · refine mz_br_f hC tk_X0_isFull rfl ((by show ¬ nI cnt < nI 20; exact nI_nlt (by omega) (by omega))) ?_
    refine mz_sn_ok hC tk_X0_isFull pk_RX0 2 [] rfl (by (repeat' apply And.intro) <;> first | exact True.intro | assumption | (simp only [mz_cm1, mz_c0, mz_c1, mz_c2, mz_c3, mz_c4, mz_c5, mz_c6, mz_c7, mz_c8, mz_c10, mz_c17, mz_c20, mz_c28, mz_c58, mz_c63, mz_c98, mz_c294, mz_c526, mz_c532, mz_c540, mz_c999, mz_c1900, mz_c2403, mz_c29362, mz_c29363, mz_c29364, mz_c29390, mz_c29393, mz_c29394, mz_c29398, mz_c29399, mz_c29400, mz_c29401, nI_add, pk_mul, pk_m1, mz_pp, mz_pq]; done) | omega | (simp only [mz_cm1, mz_c0, mz_c1, mz_c2, mz_c3, mz_c4, mz_c5, mz_c6, mz_c7, mz_c8, mz_c10, mz_c17, mz_c20, mz_c28, mz_c58, mz_c63, mz_c98, mz_c294, mz_c526, mz_c532, mz_c540, mz_c999, mz_c1900, mz_c2403, mz_c29362, mz_c29363, mz_c29364, mz_c29390, mz_c29393, mz_c29394, mz_c29398, mz_c29399, mz_c29400, mz_c29401, nI_add, pk_mul, pk_m1, mz_pp, mz_pq]; congr 1; omega)) ?_
    try simp only [mz_c0, mz_cm1]
    refine mz_Vireturn hC tk_X0_isFull rfl hret mz_nb1 (Nat.le_of_ble_eq_true rfl) (Nat.le_of_ble_eq_true rfl) ?_
    exact ⟨by rw [if_neg h]; rfl, rfl, rfl⟩
theorem cb_addMessage (hB : mr_B G O sz β μ ν f b cnt g) (ct fl : Int32) (hcn : cnt < 20) (hasc : ∀ k, k < cnt → mx_nm f (98 * b + 17) k < f (98 * b + 1)) : mz_M l E yX0_addMessage cX0_addMessage 4 (some .int) 6 0 0 [.ref β, .int ct, .int fl] G sz (fun v' G' sz' => v' = some (.int (f (98 * b + 1))) ∧ sz = sz' ∧ ∃ O', mr_B G' O' sz β μ ν (mx_ad f b cnt ct fl) b (cnt + 1) g ∧ mt_F (mr_X β μ ν) G G' O O' sz sz) := by
  obtain ⟨⟨⟨⟨hK, hO, hs⟩, i0, i1, i2, i3⟩, r4, r5, hne⟩, ⟨t1, t2⟩, hc1, hc2⟩ := hB
  have k1 := t1.K
  have bm : β ≠ μ := fun z => by rw [z] at hK; omega
  have bn : β ≠ ν := fun z => by have := t2.K; rw [z] at hK; omega
  obtain ⟨gc, gs, gl⟩ := mt_gc80 hcn
  obtain ⟨hg6, -, -⟩ := t2.b
  refine mz_start (by decide) (Nat.le_of_ble_eq_true rfl) ?_
  intro p e s m args below meth c hC hret hnm
  have e1 : ∀ u, mz_i (mz_si G β 2 u) β 1 = f (98 * b + 1) := fun u => by show mz_u2 (mz_i G) β 2 u β 1 = _; rw [mz_u2_j _ _ _ _ (by omega), i1]
  have e2 : ∀ u w, mz_i (mz_si (mz_si G β 2 u) β 1 w) β 2 = u := fun u w => by show mz_u2 (mz_u2 (mz_i G) β 2 u) β 1 w β 2 = _; rw [mz_u2_j _ _ _ _ (by omega), mz_u2_s]
  refine mz_sn_ok hC tk_X0_addMessage pk_RX0 22 [μ] rfl (by (repeat' apply And.intro) <;> first | exact True.intro | assumption | (simp only [mz_cm1, mz_c0, mz_c1, mz_c2, mz_c3, mz_c4, mz_c5, mz_c6, mz_c7, mz_c8, mz_c10, mz_c17, mz_c20, mz_c28, mz_c58, mz_c63, mz_c98, mz_c294, mz_c526, mz_c532, mz_c540, mz_c999, mz_c1900, mz_c2403, mz_c29362, mz_c29363, mz_c29364, mz_c29390, mz_c29393, mz_c29394, mz_c29398, mz_c29399, mz_c29400, mz_c29401, nI_add, pk_mul, pk_m1, mz_pp, mz_pq, i1, i2, e1, e2]; done) | omega | (simp only [mz_cm1, mz_c0, mz_c1, mz_c2, mz_c3, mz_c4, mz_c5, mz_c6, mz_c7, mz_c8, mz_c10, mz_c17, mz_c20, mz_c28, mz_c58, mz_c63, mz_c98, mz_c294, mz_c526, mz_c532, mz_c540, mz_c999, mz_c1900, mz_c2403, mz_c29362, mz_c29363, mz_c29364, mz_c29390, mz_c29393, mz_c29394, mz_c29398, mz_c29399, mz_c29400, mz_c29401, nI_add, pk_mul, pk_m1, mz_pp, mz_pq, i1, i2, e1, e2]; congr 1; omega)) ?_
  try simp only [mz_c0, mz_cm1, i1, i2, e1, e2]
  have hF1 : mt_F (fun q => q = β) G (mz_si (mz_si G β 2 (f (98 * b + 2) + mz_c 1)) β 1 (f (98 * b + 1) + mz_c 1)) O O sz sz := (mt_F_si hO).tr (mt_F_si hO)
  have t1' := t1.fr hF1 (Ne.symm bm)
  have t2' := t2.fr hF1 (Ne.symm bn)
  obtain ⟨G1, hG1⟩ : ∃ G1, G1 = mz_si (mz_si G β 2 (f (98 * b + 2) + mz_c 1)) β 1 (f (98 * b + 1) + mz_c 1) := ⟨_, rfl⟩
  have k1p := t1'.K
  have j0 : mz_i G1 β 0 = f (98 * b + 0) := by rw [hG1]; show mz_u2 (mz_u2 (mz_i G) β 2 _) β 1 _ β 0 = _; rw [mz_u2_j _ _ _ _ (by omega), mz_u2_j _ _ _ _ (by omega), i0]
  have j1 : mz_i G1 β 1 = f (98 * b + 1) + 1 := by rw [hG1]; show mz_u2 (mz_u2 (mz_i G) β 2 _) β 1 _ β 1 = _; rw [mz_u2_s]; rfl
  have j2 : mz_i G1 β 2 = f (98 * b + 2) + 1 := by rw [hG1]; exact e2 _ _
  have j3 : mz_i G1 β 3 = f (98 * b + 3) := by rw [hG1]; show mz_u2 (mz_u2 (mz_i G) β 2 _) β 1 _ β 3 = _; rw [mz_u2_j _ _ _ _ (by omega), mz_u2_j _ _ _ _ (by omega), i3]
  have r4' : mz_r G1 β 4 = some μ := by rw [hG1]; exact r4
  have r5' : mz_r G1 β 5 = some ν := by rw [hG1]; exact r5
  have hK' : mz_K G1 β = 0 := by rw [hG1]; exact hK
  rw [← hG1] at hF1 t1' t2' k1p ⊢
  refine mz_Vcv hC tk_X0_addMessage rfl md_X4_storeMessage lk_RX0_43 rfl (ct_store_new l E t1' (f (98 * b + 1)) ct fl (f (98 * b + 2) + 1) cnt (Nat.le_refl _) hcn (fun k hk => mz_lt_nle (hasc k hk)) (fun z => absurd z (by omega)) (fun z => absurd z (by omega))) (by show (vwCl[mz_K _ _]?).map _ = _; rw [k1p]; rfl) ⟨Nat.le_of_ble_eq_true rfl, Nat.le_of_ble_eq_true rfl⟩ ⟨by simp only [mz_rm]; omega, by simp only [mz_rm]; omega⟩ (Nat.le_of_ble_eq_true rfl) (fun v9 G9 sz9 hp9 => ?_)
  obtain ⟨rfl, hsz9, O', t3, hF2⟩ := hp9
  have hsz : sz9 = sz := by omega
  rw [hsz] at t3 hF2 ⊢
  refine mz_sn_ok hC tk_X0_addMessage pk_RX0 1 [] rfl (by (repeat' apply And.intro) <;> first | exact True.intro | assumption | (simp only [mz_cm1, mz_c0, mz_c1, mz_c2, mz_c3, mz_c4, mz_c5, mz_c6, mz_c7, mz_c8, mz_c10, mz_c17, mz_c20, mz_c28, mz_c58, mz_c63, mz_c98, mz_c294, mz_c526, mz_c532, mz_c540, mz_c999, mz_c1900, mz_c2403, mz_c29362, mz_c29363, mz_c29364, mz_c29390, mz_c29393, mz_c29394, mz_c29398, mz_c29399, mz_c29400, mz_c29401, nI_add, pk_mul, pk_m1, mz_pp, mz_pq]; done) | omega | (simp only [mz_cm1, mz_c0, mz_c1, mz_c2, mz_c3, mz_c4, mz_c5, mz_c6, mz_c7, mz_c8, mz_c10, mz_c17, mz_c20, mz_c28, mz_c58, mz_c63, mz_c98, mz_c294, mz_c526, mz_c532, mz_c540, mz_c999, mz_c1900, mz_c2403, mz_c29362, mz_c29363, mz_c29364, mz_c29390, mz_c29393, mz_c29394, mz_c29398, mz_c29399, mz_c29400, mz_c29401, nI_add, pk_mul, pk_m1, mz_pp, mz_pq]; congr 1; omega)) ?_
  try simp only [mz_c0, mz_cm1]
  refine mz_Vireturn hC tk_X0_addMessage rfl hret rfl (by omega) (by omega) ?_
  obtain ⟨o1, f1⟩ := hF2.2 β hs
  obtain ⟨c1, c2, c3, c4, c5⟩ := f1 (by rw [hO]; exact bm)
  have hFa : mt_F (mr_X β μ ν) G G9 O O' sz sz := (hF1.mono (fun q hq => Or.inl hq)).tr (hF2.mono (fun q hq => Or.inr (Or.inl hq)))
  have t4 := t2'.fr hF2 (Ne.symm hne)
  rw [mr_ad f b cnt ct fl hasc]
  refine ⟨rfl, rfl, O', ⟨⟨⟨⟨by rw [c1, hK'], by rw [o1, hO], hs⟩, ?_, ?_, ?_, ?_⟩, by rw [c4, r4'], by rw [c4, r5'], hne⟩, ⟨?_, ?_⟩, ?_, ?_⟩, hFa⟩
  · rw [c3, j0]
    simp only [mx_rw, mz_u1]
    rw [if_neg (by omega), if_neg (by omega), if_neg (by omega), if_neg (by omega), if_neg (by omega), if_neg (by omega), if_neg (by omega)]
  · rw [c3, j1]
    simp only [mx_rw, mz_u1]
    rw [if_neg (by omega), if_neg (by omega), if_neg (by omega), if_neg (by omega), if_neg (by omega), if_pos True.intro]
  · rw [c3, j2]
    simp only [mx_rw, mz_u1]
    rw [if_neg (by omega), if_neg (by omega), if_neg (by omega), if_neg (by omega), if_neg (by omega), if_neg (by omega), if_pos True.intro]
  · rw [c3, j3]
    simp only [mx_rw, mz_u1]
    rw [if_neg (by omega), if_neg (by omega), if_neg (by omega), if_neg (by omega), if_neg (by omega), if_neg (by omega), if_neg (by omega)]
  · rw [gl] at t3
    refine t3.same (fun k j hk hj => ?_)
    simp only [mt_w, mt_u, mt_o, mr_h, mx_rw, mz_u1]
    by_cases hkc : k = cnt
    · subst hkc
      rcases (show j = 0 ∨ j = 1 ∨ j = 2 ∨ j = 3 by omega) with rfl | rfl | rfl | rfl
      · rw [if_neg (by omega), if_neg (by omega), if_neg (by omega), if_pos ⟨rfl, rfl⟩, if_neg (by omega), if_neg (by omega), if_neg (by omega), if_pos (by omega)]
      · rw [if_neg (by omega), if_neg (by omega), if_pos ⟨rfl, rfl⟩, if_neg (by omega), if_neg (by omega), if_pos (by omega)]
      · rw [if_neg (by omega), if_pos ⟨rfl, rfl⟩, if_neg (by omega), if_pos (by omega)]
      · rw [if_pos ⟨rfl, rfl⟩, if_pos (by omega)]
    · rw [if_neg (by omega), if_neg (by omega), if_neg (by omega), if_neg (by omega), if_pos (by omega), if_neg (by omega), if_neg (by omega), if_neg (by omega), if_neg (by omega), if_neg (by omega), if_neg (by omega), if_neg (by omega)]
  · refine t4.same (fun k j hk hj => ?_)
    simp only [mr_h, mx_rw, mz_u1]
    rw [if_neg (by omega), if_neg (by omega), if_neg (by omega), if_neg (by omega), if_neg (by omega), if_neg (by omega), if_neg (by omega)]
  · simp only [mx_rw, mz_u1]
    rw [if_neg (by omega), if_neg (by omega), if_neg (by omega), if_neg (by omega), if_pos True.intro]
  · simp only [mx_rw, mz_u1]
    rw [if_neg (by omega), if_neg (by omega), if_neg (by omega), if_neg (by omega), if_neg (by omega), if_neg (by omega), if_neg (by omega), hc2]
end MRB

