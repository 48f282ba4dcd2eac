/-! ===== the class: a box loses a message ===== -/
theorem mr_rm_o (f : Nat → Int32) {b cnt g k i : Nat} (hcn : cnt ≤ 20) (hg : g ≤ 6) (hk : k < cnt) (h : i < 98 * b ∨ 98 * b + 98 ≤ i) : mx_rm f b cnt g k i = f i := mx_rm_o f hcn hg hk h
theorem mr_rm_m (f : Nat → Int32) {b cnt g k : Nat} (hcn : cnt ≤ 20) (hg : g ≤ 6) (hk : k < cnt) (k' j' : Nat) (h1 : k' < cnt - 1) (h2 : j' < 4) : mx_rm f b cnt g k (98 * b + 17 + 1 + 4 * k' + j') = mt_e (mr_h f (98 * b + 17) 4) k k' j' := by
  unfold mx_rm mx_vn mx_dr mz_fl mz_sf mt_e mr_h
  by_cases h6 : g = 6
  · simp only [if_pos h6, mz_u1]
    by_cases hkk : k' < k
    · simp (disch := omega) only [if_pos, if_neg, and_self, if_true, and_true, true_and, and_false, false_and, if_false]
    · simp (disch := omega) only [if_pos, if_neg, and_self, if_true, and_true, true_and, and_false, false_and, if_false]
      congr 1 <;> omega
  · simp only [if_neg h6, mz_u1]
    by_cases hkk : k' < k
    · simp (disch := omega) only [if_pos, if_neg, and_self, if_true, and_true, true_and, and_false, false_and, if_false]
    · simp (disch := omega) only [if_pos, if_neg, and_self, if_true, and_true, true_and, and_false, false_and, if_false]
      congr 1 <;> omega
theorem mr_rm_v (f : Nat → Int32) {b cnt g k : Nat} (hcn : cnt ≤ 20) (hg : g ≤ 6) (hk : k < cnt) (k' j' : Nat) (h1 : k' < mx_g1 g) (h2 : j' < 2) : mx_rm f b cnt g k (98 * b + 4 + 1 + 2 * k' + j') = mt_u (mt_u (mt_o (if g = 6 then mt_e (mr_h f (98 * b + 4) 2) 0 else mr_h f (98 * b + 4) 2) (mx_g1 g - 1)) (mx_g1 g - 1) 0 (f (98 * b + 17 + 1 + 4 * k))) (mx_g1 g - 1) 1 (f (98 * b + 2) + 1) k' j' := by
  unfold mx_rm mx_vn mx_dr mz_fl mz_sf mt_u mt_o
  unfold mx_g1 at *
  by_cases h6 : g = 6
  · rw [if_pos h6] at h1
    simp only [if_pos h6, mz_u1, mt_e, mr_h]
    rcases (show j' = 0 ∨ j' = 1 by omega) with rfl | rfl
    · by_cases hkk : k' < 5
      · simp (disch := omega) only [if_pos, if_neg, and_self, if_true, and_true, true_and, and_false, false_and, if_false]
        congr 1 <;> omega
      · rw [show k' = 5 by omega]
        simp (disch := omega) only [if_pos, if_neg, and_self, if_true, and_true, true_and, and_false, false_and, if_false]
    · by_cases hkk : k' < 5
      · simp (disch := omega) only [if_pos, if_neg, and_self, if_true, and_true, true_and, and_false, false_and, if_false]
        congr 1 <;> omega
      · rw [show k' = 5 by omega]
        simp (disch := omega) only [if_pos, if_neg, and_self, if_true, and_true, true_and, and_false, false_and, if_false]
  · rw [if_neg h6] at h1
    simp only [if_neg h6, mz_u1, mr_h]
    rw [show g + 1 - 1 = g by omega]
    rcases (show j' = 0 ∨ j' = 1 by omega) with rfl | rfl
    · by_cases hkk : k' < g
      · simp (disch := omega) only [if_pos, if_neg, and_self, if_true, and_true, true_and, and_false, false_and, if_false]
      · rw [show k' = g by omega]
        simp (disch := omega) only [if_pos, if_neg, and_self, if_true, and_true, true_and, and_false, false_and, if_false]
    · by_cases hkk : k' < g
      · simp (disch := omega) only [if_pos, if_neg, and_self, if_true, and_true, true_and, and_false, false_and, if_false]
      · rw [show k' = g by omega]
        simp (disch := omega) only [if_pos, if_neg, and_self, if_true, and_true, true_and, and_false, false_and, if_false]
theorem mr_rm_z (f : Nat → Int32) {b cnt g k : Nat} (hcn : cnt ≤ 20) (hg : g ≤ 6) (hk : k < cnt) : mx_rm f b cnt g k (98 * b + 0) = f (98 * b + 0) ∧ mx_rm f b cnt g k (98 * b + 1) = f (98 * b + 1) ∧ mx_rm f b cnt g k (98 * b + 2) = f (98 * b + 2) + 1 ∧ mx_rm f b cnt g k (98 * b + 3) = (if g = 6 then f (98 * b + 6) else f (98 * b + 3)) := by
  unfold mx_rm mx_vn mx_dr mz_fl mz_sf
  by_cases h6 : g = 6
  · simp only [if_pos h6, mz_u1]
    refine ⟨?_, ?_, ?_, ?_⟩ <;> simp (disch := omega) only [if_pos, if_neg, and_self, if_true, and_true, true_and, and_false, false_and, if_false]
  · simp only [if_neg h6, mz_u1]
    refine ⟨?_, ?_, ?_, ?_⟩ <;> simp (disch := omega) only [if_pos, if_neg, and_self, if_true, and_true, true_and, and_false, false_and, if_false]
section MRB
variable (l : Launch) (E : mz_E) {G : mz_G} {O : Nat → Nat} {sz β μ ν : Nat} {f : Nat → Int32} {b cnt g : Nat}
theorem cb_removeMessage (hB : mr_B G O sz β μ ν f b cnt g) (hb : b < 3) (k : Nat) (hk : k < cnt) : mz_M l E yX0_removeMessage cX0_removeMessage 4 none 5 0 0 [.ref β, .int (nI k)] G sz (fun v' G' sz' => v' = none ∧ sz = sz' ∧ ∃ O', mr_B G' O' sz β μ ν (mx_rm f b cnt g k) b (cnt - 1) (mx_g1 g) ∧ mt_F (mr_X β μ ν) G G' O O' sz sz) := by
  have hn := hB.n
  obtain ⟨-, -, hc1, hc2⟩ := hB
  have hn0 := hn
  obtain ⟨⟨⟨⟨hK, hO, hs⟩, i0, i1, i2, i3⟩, r4, r5, hne⟩, t1, t2⟩ := hn
  have k1 := t1.K
  obtain ⟨c20, -, -⟩ := t1.b
  obtain ⟨g6, -, -⟩ := t2.b
  refine mz_start (by decide) (Nat.le_of_ble_eq_true rfl) ?_
  intro p e s m args below meth c hC hret hnm
  have tail : ∀ (G3 : mz_G) (O3 : Nat → Nat) (h2 : Nat → Nat → Int32) (z3 : Int32) (g1 : Nat), g1 = mx_g1 g - 1 → h2 = (if g = 6 then mt_e (mr_h f (98 * b + 4) 2) 0 else mr_h f (98 * b + 4) 2) → z3 = (if g = 6 then f (98 * b + 6) else f (98 * b + 3)) → mr_Bn G3 O3 sz β μ ν (f (98 * b + 0)) (f (98 * b + 1)) (f (98 * b + 2) + mz_c 1) z3 (cnt - 1) g1 (mt_e (mr_h f (98 * b + 17) 4) k) h2 → mt_F (mr_X β μ ν) G G3 O O3 sz sz → mz_V E p l e (mz_rm 5 0 0) s m args below meth c 4 (0) (0) (mz_Z E below args s 0 0 (fun v' G' sz' => v' = none ∧ sz = sz' ∧ ∃ O', mr_B G' O' sz β μ ν (mx_rm f b cnt g k) b (cnt - 1) (mx_g1 g) ∧ mt_F (mr_X β μ ν) G G' O O' sz sz)) (G3) (sz) (61) [some (.ref β), some (.int (nI k)), some (.int (f (98 * b + 17 + 1 + 4 * k)))] [] := by
    intro G3 O3 h2 z3 g1 hg1 hh2 hz3 hn3 hF3
    have hn3c := hn3
    obtain ⟨⟨⟨⟨hK3, -⟩, -, -, i23, -⟩, -, r53, -⟩, -, t23⟩ := hn3c
    have k23 := t23.K
    have s23 := t23.s
    have g15 : g1 < 6 := by rw [hg1]; unfold mx_g1; split <;> omega
    obtain ⟨gc, gs, gl⟩ := mt_gc12 g15
    refine mz_sn_ok hC tk_X0_removeMessage pk_RX0 7 [ν, ν] rfl (by (repeat' apply And.intro) <;> first | exact True.intro | assumption | (simp only [mz_cm1, mz_c0, mz_c1, mz_c2, mz_c3, mz_c4, mz_c5, mz_c6, mz_c7, mz_c8, mz_c10, mz_c17, mz_c20, mz_c28, mz_c58, mz_c63, mz_c98, mz_c294, mz_c526, mz_c532, mz_c540, mz_c999, mz_c1900, mz_c2403, mz_c29362, mz_c29363, mz_c29364, mz_c29390, mz_c29393, mz_c29394, mz_c29398, mz_c29399, mz_c29400, mz_c29401, nI_add, pk_mul, pk_m1, mz_pp, mz_pq, s23]; done) | omega | (simp only [mz_cm1, mz_c0, mz_c1, mz_c2, mz_c3, mz_c4, mz_c5, mz_c6, mz_c7, mz_c8, mz_c10, mz_c17, mz_c20, mz_c28, mz_c58, mz_c63, mz_c98, mz_c294, mz_c526, mz_c532, mz_c540, mz_c999, mz_c1900, mz_c2403, mz_c29362, mz_c29363, mz_c29364, mz_c29390, mz_c29393, mz_c29394, mz_c29398, mz_c29399, mz_c29400, mz_c29401, nI_add, pk_mul, pk_m1, mz_pp, mz_pq, s23]; congr 1; omega)) ?_
    try simp only [mz_c0, mz_cm1, s23]
    refine mz_Vcv hC tk_X0_removeMessage rfl md_X4_open lk_RX0_54 rfl (ct_open l E t23 g1 (Nat.le_refl _) g15) (by show (vwCl[mz_K _ _]?).map _ = _; rw [k23]; rfl) ⟨Nat.le_of_ble_eq_true rfl, Nat.le_of_ble_eq_true rfl⟩ ⟨by simp only [mz_rm]; omega, by simp only [mz_rm]; omega⟩ (Nat.le_of_ble_eq_true rfl) (fun v9 G9 sz9 hp9 => ?_)
    obtain ⟨rfl, hsz9, O4, t24, hF4⟩ := hp9
    have hsz : sz9 = sz := by omega
    rw [hsz] at t24 hF4 ⊢
    rw [gl] at t24
    have hn4 := hn3.lost hF4 t24
    have hn4c := hn4
    obtain ⟨⟨⟨⟨hK4, -⟩, -, -, i24, -⟩, -, r54, -⟩, -⟩ := hn4c
    have k24 := t24.K
    refine mz_br_f hC tk_X0_removeMessage rfl ((by show ¬ (1 : Int32) = 0; decide)) ?_
    refine mz_sn_ok hC tk_X0_removeMessage pk_RX0 5 [ν] rfl (by (repeat' apply And.intro) <;> first | exact True.intro | assumption | (simp only [mz_cm1, mz_c0, mz_c1, mz_c2, mz_c3, mz_c4, mz_c5, mz_c6, mz_c7, mz_c8, mz_c10, mz_c17, mz_c20, mz_c28, mz_c58, mz_c63, mz_c98, mz_c294, mz_c526, mz_c532, mz_c540, mz_c999, mz_c1900, mz_c2403, mz_c29362, mz_c29363, mz_c29364, mz_c29390, mz_c29393, mz_c29394, mz_c29398, mz_c29399, mz_c29400, mz_c29401, nI_add, pk_mul, pk_m1, mz_pp, mz_pq]; done) | omega | (simp only [mz_cm1, mz_c0, mz_c1, mz_c2, mz_c3, mz_c4, mz_c5, mz_c6, mz_c7, mz_c8, mz_c10, mz_c17, mz_c20, mz_c28, mz_c58, mz_c63, mz_c98, mz_c294, mz_c526, mz_c532, mz_c540, mz_c999, mz_c1900, mz_c2403, mz_c29362, mz_c29363, mz_c29364, mz_c29390, mz_c29393, mz_c29394, mz_c29398, mz_c29399, mz_c29400, mz_c29401, nI_add, pk_mul, pk_m1, mz_pp, mz_pq]; congr 1; omega)) ?_
    try simp only [mz_c0, mz_cm1]
    refine mz_Vcv hC tk_X0_removeMessage rfl md_X4_put lk_RX0_47 rfl (ct_put l E t24 g1 0 (f (98 * b + 17 + 1 + 4 * k)) (by omega) (by omega)) (by show (vwCl[mz_K _ _]?).map _ = _; rw [k24]; rfl) ⟨Nat.le_of_ble_eq_true rfl, Nat.le_of_ble_eq_true rfl⟩ ⟨by simp only [mz_rm]; omega, by simp only [mz_rm]; omega⟩ (Nat.le_of_ble_eq_true rfl) (fun v9 G9 sz9 hp9 => ?_)
    obtain ⟨rfl, rfl, t25, hF5⟩ := hp9
    have hn5 := hn4.lost hF5 t25
    have hn5c := hn5
    obtain ⟨⟨⟨⟨hK5, -⟩, -, -, i25, -⟩, -, r55, -⟩, -⟩ := hn5c
    have k25 := t25.K
    refine mz_sn_ok hC tk_X0_removeMessage pk_RX0 6 [ν] rfl (by (repeat' apply And.intro) <;> first | exact True.intro | assumption | (simp only [mz_cm1, mz_c0, mz_c1, mz_c2, mz_c3, mz_c4, mz_c5, mz_c6, mz_c7, mz_c8, mz_c10, mz_c17, mz_c20, mz_c28, mz_c58, mz_c63, mz_c98, mz_c294, mz_c526, mz_c532, mz_c540, mz_c999, mz_c1900, mz_c2403, mz_c29362, mz_c29363, mz_c29364, mz_c29390, mz_c29393, mz_c29394, mz_c29398, mz_c29399, mz_c29400, mz_c29401, nI_add, pk_mul, pk_m1, mz_pp, mz_pq, i25]; done) | omega | (simp only [mz_cm1, mz_c0, mz_c1, mz_c2, mz_c3, mz_c4, mz_c5, mz_c6, mz_c7, mz_c8, mz_c10, mz_c17, mz_c20, mz_c28, mz_c58, mz_c63, mz_c98, mz_c294, mz_c526, mz_c532, mz_c540, mz_c999, mz_c1900, mz_c2403, mz_c29362, mz_c29363, mz_c29364, mz_c29390, mz_c29393, mz_c29394, mz_c29398, mz_c29399, mz_c29400, mz_c29401, nI_add, pk_mul, pk_m1, mz_pp, mz_pq, i25]; congr 1; omega)) ?_
    try simp only [mz_c0, mz_cm1, i25]
    refine mz_Vcv hC tk_X0_removeMessage rfl md_X4_put lk_RX0_47 rfl (ct_put l E t25 g1 1 (f (98 * b + 2) + mz_c 1) (by omega) (by omega)) (by show (vwCl[mz_K _ _]?).map _ = _; rw [k25]; rfl) ⟨Nat.le_of_ble_eq_true rfl, Nat.le_of_ble_eq_true rfl⟩ ⟨by simp only [mz_rm]; omega, by simp only [mz_rm]; omega⟩ (Nat.le_of_ble_eq_true rfl) (fun v9 G9 sz9 hp9 => ?_)
    obtain ⟨rfl, rfl, t26, hF6⟩ := hp9
    have hn6 := hn5.lost hF6 t26
    refine mz_Vreturn hC tk_X0_removeMessage rfl hret (by omega) (by omega) ?_
    refine ⟨rfl, rfl, O4, ?_, hF3.tr ((hF4.mono (fun q hq => Or.inr (Or.inr hq))).tr ((hF5.mono (fun q hq => Or.inr (Or.inr hq))).tr (hF6.mono (fun q hq => Or.inr (Or.inr hq)))))⟩
    obtain ⟨⟨⟨hk6, j0, j1, j2, j3⟩, hr6⟩, u1, u2⟩ := hn6
    obtain ⟨w0, w1, w2, w3⟩ := mr_rm_z f (b := b) (g := g) c20 g6 hk
    have eg : mx_g1 g = g1 + 1 := by rw [hg1]; unfold mx_g1; split <;> omega
    refine ⟨⟨⟨hk6, by rw [j0, w0], by rw [j1, w1], by rw [j2, w2]; rfl, by rw [j3, w3, hz3]⟩, hr6⟩, ⟨?_, ?_⟩, mx_rm_cnt f hb c20 g6 hk, mx_rm_g f⟩
    · exact u1.same (fun k' j' h1 h2 => (mr_rm_m f c20 g6 hk k' j' h1 h2).symm)
    · rw [eg]
      refine u2.same (fun k' j' h1 h2 => ?_)
      have := mr_rm_v f c20 g6 hk k' j' (by rw [eg]; exact h1) h2 (b := b)
      rw [← hh2, ← hg1] at this
      exact this.symm
  refine mz_sn_ok hC tk_X0_removeMessage pk_RX0 4 [μ] rfl (by (repeat' apply And.intro) <;> first | exact True.intro | assumption | (simp only [mz_cm1, mz_c0, mz_c1, mz_c2, mz_c3, mz_c4, mz_c5, mz_c6, mz_c7, mz_c8, mz_c10, mz_c17, mz_c20, mz_c28, mz_c58, mz_c63, mz_c98, mz_c294, mz_c526, mz_c532, mz_c540, mz_c999, mz_c1900, mz_c2403, mz_c29362, mz_c29363, mz_c29364, mz_c29390, mz_c29393, mz_c29394, mz_c29398, mz_c29399, mz_c29400, mz_c29401, nI_add, pk_mul, pk_m1, mz_pp, mz_pq]; done) | omega | (simp only [mz_cm1, mz_c0, mz_c1, mz_c2, mz_c3, mz_c4, mz_c5, mz_c6, mz_c7, mz_c8, mz_c10, mz_c17, mz_c20, mz_c28, mz_c58, mz_c63, mz_c98, mz_c294, mz_c526, mz_c532, mz_c540, mz_c999, mz_c1900, mz_c2403, mz_c29362, mz_c29363, mz_c29364, mz_c29390, mz_c29393, mz_c29394, mz_c29398, mz_c29399, mz_c29400, mz_c29401, nI_add, pk_mul, pk_m1, mz_pp, mz_pq]; congr 1; omega)) ?_
  try simp only [mz_c0, mz_cm1]
  refine mz_Vcv hC tk_X0_removeMessage rfl md_X4_cell lk_RX0_39 rfl (ct_cell l E t1 (nI k) (nI 0)) (by show (vwCl[mz_K _ _]?).map _ = _; rw [k1]; rfl) ⟨Nat.le_of_ble_eq_true rfl, Nat.le_of_ble_eq_true rfl⟩ ⟨Nat.le_of_ble_eq_true rfl, Nat.le_of_ble_eq_true rfl⟩ (Nat.le_of_ble_eq_true rfl) (fun v9 G9 sz9 hp9 => ?_)
  obtain ⟨rfl, hG9, hs9⟩ := hp9
  rw [hG9, ← hs9]
  rw [mt_c_in hk (by omega) (by omega) (by omega)]
  obtain ⟨hn1, hF1⟩ := hn0.mark (f (98 * b + 2) + mz_c 1)
  refine mz_sn_ok hC tk_X0_removeMessage pk_RX0 7 [] rfl (by (repeat' apply And.intro) <;> first | exact True.intro | assumption | (simp only [mz_cm1, mz_c0, mz_c1, mz_c2, mz_c3, mz_c4, mz_c5, mz_c6, mz_c7, mz_c8, mz_c10, mz_c17, mz_c20, mz_c28, mz_c58, mz_c63, mz_c98, mz_c294, mz_c526, mz_c532, mz_c540, mz_c999, mz_c1900, mz_c2403, mz_c29362, mz_c29363, mz_c29364, mz_c29390, mz_c29393, mz_c29394, mz_c29398, mz_c29399, mz_c29400, mz_c29401, nI_add, pk_mul, pk_m1, mz_pp, mz_pq, i2]; done) | omega | (simp only [mz_cm1, mz_c0, mz_c1, mz_c2, mz_c3, mz_c4, mz_c5, mz_c6, mz_c7, mz_c8, mz_c10, mz_c17, mz_c20, mz_c28, mz_c58, mz_c63, mz_c98, mz_c294, mz_c526, mz_c532, mz_c540, mz_c999, mz_c1900, mz_c2403, mz_c29362, mz_c29363, mz_c29364, mz_c29390, mz_c29393, mz_c29394, mz_c29398, mz_c29399, mz_c29400, mz_c29401, nI_add, pk_mul, pk_m1, mz_pp, mz_pq, i2]; congr 1; omega)) ?_
  try simp only [mz_c0, mz_cm1, i2]
  obtain ⟨G1, hG1⟩ : ∃ G1, G1 = mz_si G β 2 (f (98 * b + 2) + mz_c 1) := ⟨_, rfl⟩
  rw [← hG1] at hn1 hF1 ⊢
  have hn1c := hn1
  obtain ⟨⟨⟨⟨hK1, -⟩, -, -, i21, -⟩, r41, -⟩, t11, -⟩ := hn1c
  have k11 := t11.K
  refine mz_sn_ok hC tk_X0_removeMessage pk_RX0 3 [μ] rfl (by (repeat' apply And.intro) <;> first | exact True.intro | assumption | (simp only [mz_cm1, mz_c0, mz_c1, mz_c2, mz_c3, mz_c4, mz_c5, mz_c6, mz_c7, mz_c8, mz_c10, mz_c17, mz_c20, mz_c28, mz_c58, mz_c63, mz_c98, mz_c294, mz_c526, mz_c532, mz_c540, mz_c999, mz_c1900, mz_c2403, mz_c29362, mz_c29363, mz_c29364, mz_c29390, mz_c29393, mz_c29394, mz_c29398, mz_c29399, mz_c29400, mz_c29401, nI_add, pk_mul, pk_m1, mz_pp, mz_pq]; done) | omega | (simp only [mz_cm1, mz_c0, mz_c1, mz_c2, mz_c3, mz_c4, mz_c5, mz_c6, mz_c7, mz_c8, mz_c10, mz_c17, mz_c20, mz_c28, mz_c58, mz_c63, mz_c98, mz_c294, mz_c526, mz_c532, mz_c540, mz_c999, mz_c1900, mz_c2403, mz_c29362, mz_c29363, mz_c29364, mz_c29390, mz_c29393, mz_c29394, mz_c29398, mz_c29399, mz_c29400, mz_c29401, nI_add, pk_mul, pk_m1, mz_pp, mz_pq]; congr 1; omega)) ?_
  try simp only [mz_c0, mz_cm1]
  refine mz_Vcv hC tk_X0_removeMessage rfl md_X4_erase lk_RX0_50 rfl (ct_erase l E t11 k hk) (by show (vwCl[mz_K _ _]?).map _ = _; rw [k11]; rfl) ⟨Nat.le_of_ble_eq_true rfl, Nat.le_of_ble_eq_true rfl⟩ ⟨Nat.le_of_ble_eq_true rfl, Nat.le_of_ble_eq_true rfl⟩ (Nat.le_of_ble_eq_true rfl) (fun v8 G8 sz8 hp8 => ?_)
  obtain ⟨rfl, hs2, t12, hF2⟩ := hp8
  rw [← hs2]
  have hn2 := hn1.msg hF2 t12
  have hn2c := hn2
  obtain ⟨⟨⟨⟨hK2, -⟩, -⟩, -, r52, -⟩, -, t22⟩ := hn2c
  have k22 := t22.K
  have s22 := t22.s
  have hF2a : mt_F (mr_X β μ ν) G G8 O O sz sz := (hF1.mono (fun q hq => Or.inl hq)).tr (hF2.mono (fun q hq => Or.inr (Or.inl hq)))
  refine mz_sn_ok hC tk_X0_removeMessage pk_RX0 4 [ν] rfl (by (repeat' apply And.intro) <;> first | exact True.intro | assumption | (simp only [mz_cm1, mz_c0, mz_c1, mz_c2, mz_c3, mz_c4, mz_c5, mz_c6, mz_c7, mz_c8, mz_c10, mz_c17, mz_c20, mz_c28, mz_c58, mz_c63, mz_c98, mz_c294, mz_c526, mz_c532, mz_c540, mz_c999, mz_c1900, mz_c2403, mz_c29362, mz_c29363, mz_c29364, mz_c29390, mz_c29393, mz_c29394, mz_c29398, mz_c29399, mz_c29400, mz_c29401, nI_add, pk_mul, pk_m1, mz_pp, mz_pq, s22]; done) | omega | (simp only [mz_cm1, mz_c0, mz_c1, mz_c2, mz_c3, mz_c4, mz_c5, mz_c6, mz_c7, mz_c8, mz_c10, mz_c17, mz_c20, mz_c28, mz_c58, mz_c63, mz_c98, mz_c294, mz_c526, mz_c532, mz_c540, mz_c999, mz_c1900, mz_c2403, mz_c29362, mz_c29363, mz_c29364, mz_c29390, mz_c29393, mz_c29394, mz_c29398, mz_c29399, mz_c29400, mz_c29401, nI_add, pk_mul, pk_m1, mz_pp, mz_pq, s22]; congr 1; omega)) ?_
  try simp only [mz_c0, mz_cm1, s22]
  by_cases h6 : g = 6
  · refine mz_br_f hC tk_X0_removeMessage rfl ((by show ¬ nI g < nI 6; exact nI_nlt (by omega) (by omega))) ?_
    refine mz_sn_ok hC tk_X0_removeMessage pk_RX0 5 [ν] rfl (by (repeat' apply And.intro) <;> first | exact True.intro | assumption | (simp only [mz_cm1, mz_c0, mz_c1, mz_c2, mz_c3, mz_c4, mz_c5, mz_c6, mz_c7, mz_c8, mz_c10, mz_c17, mz_c20, mz_c28, mz_c58, mz_c63, mz_c98, mz_c294, mz_c526, mz_c532, mz_c540, mz_c999, mz_c1900, mz_c2403, mz_c29362, mz_c29363, mz_c29364, mz_c29390, mz_c29393, mz_c29394, mz_c29398, mz_c29399, mz_c29400, mz_c29401, nI_add, pk_mul, pk_m1, mz_pp, mz_pq]; done) | omega | (simp only [mz_cm1, mz_c0, mz_c1, mz_c2, mz_c3, mz_c4, mz_c5, mz_c6, mz_c7, mz_c8, mz_c10, mz_c17, mz_c20, mz_c28, mz_c58, mz_c63, mz_c98, mz_c294, mz_c526, mz_c532, mz_c540, mz_c999, mz_c1900, mz_c2403, mz_c29362, mz_c29363, mz_c29364, mz_c29390, mz_c29393, mz_c29394, mz_c29398, mz_c29399, mz_c29400, mz_c29401, nI_add, pk_mul, pk_m1, mz_pp, mz_pq]; congr 1; omega)) ?_
    try simp only [mz_c0, mz_cm1]
    refine mz_Vcv hC tk_X0_removeMessage rfl md_X4_cell lk_RX0_39 rfl (ct_cell l E t22 (nI 0) (nI 1)) (by show (vwCl[mz_K _ _]?).map _ = _; rw [k22]; rfl) ⟨Nat.le_of_ble_eq_true rfl, Nat.le_of_ble_eq_true rfl⟩ ⟨Nat.le_of_ble_eq_true rfl, Nat.le_of_ble_eq_true rfl⟩ (Nat.le_of_ble_eq_true rfl) (fun v9 G9 sz9 hp9 => ?_)
    obtain ⟨rfl, hG10, hs10⟩ := hp9
    rw [hG10, ← hs10]
    rw [mt_c_in (by omega) (by omega) (by omega) (by omega)]
    obtain ⟨hn3, hF3⟩ := hn2.hor (mr_h f (98 * b + 4) 2 0 1)
    refine mz_sn_ok hC tk_X0_removeMessage pk_RX0 1 [] rfl (by (repeat' apply And.intro) <;> first | exact True.intro | assumption | (simp only [mz_cm1, mz_c0, mz_c1, mz_c2, mz_c3, mz_c4, mz_c5, mz_c6, mz_c7, mz_c8, mz_c10, mz_c17, mz_c20, mz_c28, mz_c58, mz_c63, mz_c98, mz_c294, mz_c526, mz_c532, mz_c540, mz_c999, mz_c1900, mz_c2403, mz_c29362, mz_c29363, mz_c29364, mz_c29390, mz_c29393, mz_c29394, mz_c29398, mz_c29399, mz_c29400, mz_c29401, nI_add, pk_mul, pk_m1, mz_pp, mz_pq]; done) | omega | (simp only [mz_cm1, mz_c0, mz_c1, mz_c2, mz_c3, mz_c4, mz_c5, mz_c6, mz_c7, mz_c8, mz_c10, mz_c17, mz_c20, mz_c28, mz_c58, mz_c63, mz_c98, mz_c294, mz_c526, mz_c532, mz_c540, mz_c999, mz_c1900, mz_c2403, mz_c29362, mz_c29363, mz_c29364, mz_c29390, mz_c29393, mz_c29394, mz_c29398, mz_c29399, mz_c29400, mz_c29401, nI_add, pk_mul, pk_m1, mz_pp, mz_pq]; congr 1; omega)) ?_
    try simp only [mz_c0, mz_cm1]
    obtain ⟨G3, hG3⟩ : ∃ G3, G3 = mz_si G8 β 3 (mr_h f (98 * b + 4) 2 0 1) := ⟨_, rfl⟩
    rw [← hG3] at hn3 hF3 ⊢
    have hn3c := hn3
    obtain ⟨⟨⟨⟨hK3, -⟩, -⟩, -, r53, -⟩, -, t23⟩ := hn3c
    have k23 := t23.K
    refine mz_sn_ok hC tk_X0_removeMessage pk_RX0 3 [ν] rfl (by (repeat' apply And.intro) <;> first | exact True.intro | assumption | (simp only [mz_cm1, mz_c0, mz_c1, mz_c2, mz_c3, mz_c4, mz_c5, mz_c6, mz_c7, mz_c8, mz_c10, mz_c17, mz_c20, mz_c28, mz_c58, mz_c63, mz_c98, mz_c294, mz_c526, mz_c532, mz_c540, mz_c999, mz_c1900, mz_c2403, mz_c29362, mz_c29363, mz_c29364, mz_c29390, mz_c29393, mz_c29394, mz_c29398, mz_c29399, mz_c29400, mz_c29401, nI_add, pk_mul, pk_m1, mz_pp, mz_pq]; done) | omega | (simp only [mz_cm1, mz_c0, mz_c1, mz_c2, mz_c3, mz_c4, mz_c5, mz_c6, mz_c7, mz_c8, mz_c10, mz_c17, mz_c20, mz_c28, mz_c58, mz_c63, mz_c98, mz_c294, mz_c526, mz_c532, mz_c540, mz_c999, mz_c1900, mz_c2403, mz_c29362, mz_c29363, mz_c29364, mz_c29390, mz_c29393, mz_c29394, mz_c29398, mz_c29399, mz_c29400, mz_c29401, nI_add, pk_mul, pk_m1, mz_pp, mz_pq]; congr 1; omega)) ?_
    try simp only [mz_c0, mz_cm1]
    refine mz_Vcv hC tk_X0_removeMessage rfl md_X4_erase lk_RX0_50 rfl (ct_erase l E t23 0 (by omega)) (by show (vwCl[mz_K _ _]?).map _ = _; rw [k23]; rfl) ⟨Nat.le_of_ble_eq_true rfl, Nat.le_of_ble_eq_true rfl⟩ ⟨Nat.le_of_ble_eq_true rfl, Nat.le_of_ble_eq_true rfl⟩ (Nat.le_of_ble_eq_true rfl) (fun v9 G9 sz9 hp9 => ?_)
    obtain ⟨rfl, hs4, t24, hF4⟩ := hp9
    rw [← hs4]
    have hn4 := hn3.lost hF4 t24
    refine tail _ O _ _ (g - 1) (by unfold mx_g1; rw [if_pos h6]; omega) (by rw [if_pos h6]) (by rw [if_pos h6]; rfl) hn4 (hF2a.tr ((hF3.mono (fun q hq => Or.inl hq)).tr (hF4.mono (fun q hq => Or.inr (Or.inr hq)))))
  · refine mz_br_t hC tk_X0_removeMessage rfl ((by show nI g < nI 6; exact nI_lt (by omega) (by omega))) ?_
    refine tail _ O _ _ g (by unfold mx_g1; rw [if_neg h6]; omega) (by rw [if_neg h6]) (by rw [if_neg h6]) hn2 hF2a
end MRB

