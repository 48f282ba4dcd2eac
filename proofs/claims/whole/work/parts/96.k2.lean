/-! ===== the class: a box is changed ===== -/
theorem mx_cl_o {b i : Nat} (h : i < 98 * b ∨ 98 * b + 98 ≤ i) : ∀ (d : Nat) (f : Nat → Int32) (cnt g k n : Nat), cnt ≤ 20 → g ≤ 6 → k + d ≤ cnt → (mx_cl d f b cnt g k n).1 i = f i
  | 0, _, _, _, _, _, _, _, _ => rfl
  | d + 1, f, cnt, g, k, n, hc, hg, hk => by
    unfold mx_cl
    split
    · rw [mx_cl_o h d _ (cnt - 1) (mx_g1 g) k (n + 1) (by omega) (by unfold mx_g1; split <;> omega) (by omega)]
      exact mx_rm_o f hc hg (by omega) h
    · exact mx_cl_o h d f cnt g (k + 1) n hc hg (by omega)
theorem mx_rl_p (f : Nat → Int32) (L : Nat) (m : Int32) {i : Nat} : ∀ k, i ≤ L ∨ L + 1 + 4 * k ≤ i → mx_rl f L m k i = f i
  | 0, _ => rfl
  | k + 1, h => by
    show mz_u1 (mz_u1 (mx_rl f L m k) (L + 1 + 4 * k) (nI (k + 1))) (L + 4 + 4 * k) m i = f i
    rw [mz_u1_o _ _ (by omega), mz_u1_o _ _ (by omega)]
    exact mx_rl_p f L m k (by omega)
theorem mx_rn_o (f : Nat → Int32) {b cnt i : Nat} (hcn : cnt ≤ 20) (h : i < 98 * b ∨ 98 * b + 98 ≤ i) : mx_rn f b cnt i = f i := by
  unfold mx_rn
  rw [mz_u1_o _ _ (by omega), mz_u1_o _ _ (by omega), mz_u1_o _ _ (by omega), mx_rl_p _ _ _ _ (by omega), mz_u1_o _ _ (by omega), mz_u1_o _ _ (by omega)]
/-- after a call that kept a record: now holds f' -/
def mr_Q (G : mz_G) (O : Nat → Nat) (sz ω : Nat) (B : Nat → Nat) (sv : Nat) (F : Nat → Nat → Int32) (Λ : Nat → Nat → Nat → Nat) (v1 v2 : Nat) (f' : Nat → Int32) (L' : Nat → Nat → Nat) (G' : mz_G) (sz' : Nat) : Prop :=
  ∃ O', mr_M G' O' sz' ω (mr_kr sv B) (mr_ks sv) (mz_u1 (mr_kF sv F) 0 f') (mz_u1 (mr_kL sv F Λ) 0 L') v1 v2 ∧ mt_F (mr_ZZ ω) G G' O O' sz sz'
theorem mr_Qi {G G1 G' : mz_G} {O O1 O' : Nat → Nat} {sz sz1 sz' ω : Nat} {B : Nat → Nat} {sv : Nat} {F : Nat → Nat → Int32} {Λ : Nat → Nat → Nat → Nat} {v1 v2 : Nat} {f' : Nat → Int32} {L' : Nat → Nat → Nat} (hM1 : mr_M G1 O1 sz1 ω (mr_kr sv B) (mr_ks sv) (mr_kF sv F) (mr_kL sv F Λ) v1 v2) (hF1 : mt_F (mr_ZZ ω) G G1 O O1 sz sz1) (hS : mr_S G' O' sz' (B 0) f' L') (hF : mt_F (mr_Z (B 0)) G1 G' O1 O' sz1 sz') : mr_Q G O sz ω B sv F Λ v1 v2 f' L' G' sz' := by
  have hw := hM1.2.1.2 0 (by omega)
  rw [mr_kr_0] at hw
  refine ⟨O', hM1.st (i := 0) (by omega) (by rw [mr_kr_0]; exact hF) (by rw [mr_kr_0]; exact hS), hF1.tr (hF.mono (fun q z => ?_))⟩
  unfold mr_Z at z
  unfold mr_ZZ
  omega
theorem mr_Zb {σ b : Nat} (hb : b < 3) : ∀ q, mr_X (σ + 6 + 5 * b) (σ + 6 + 5 * b + 1) (σ + 6 + 5 * b + 3) q → mr_Z σ q := fun q z => by
  unfold mr_X at z
  unfold mr_Z
  omega
section MRF
variable (l : Launch) (E : mz_E) {G : mz_G} {O : Nat → Nat} {sz ω : Nat} {B : Nat → Nat} {sv : Nat} {F : Nat → Nat → Int32} {Λ : Nat → Nat → Nat → Nat} {v1 v2 : Nat}
theorem cf_clean (hM : mr_M G O sz ω B sv F Λ v1 v2) (U : Nat) (hU : U + mr_Pt (mr_kL sv F Λ) = mr_Pt Λ) (b : Nat) (hb : b < 3) (hfl : mr_fl (F 0) (98 * b + 17) (mx_cB (F 0) b)) : mz_M l E yX5_clean cX5_clean 2 (some .int) 8 U U [.ref ω, .int (nI b)] G sz (fun v' G' sz' => v' = some (.int (nI (mx_cl (mx_cB (F 0) b) (F 0) b (mx_cB (F 0) b) (mx_gB (F 0) b) 0 0).2)) ∧ mr_Q G O sz ω B sv F Λ v1 v2 (mx_cl (mx_cB (F 0) b) (F 0) b (mx_cB (F 0) b) (mx_gB (F 0) b) 0 0).1 (Λ 0) G' sz') := by
  obtain ⟨⟨⟨⟨⟨kω, oω, zω⟩, rω0, rω1, rω3, rω4⟩, iω2, sv4⟩, ⟨⟨kA, oA, zA⟩, nA⟩, hrA⟩, ⟨hd1, hd2⟩, hst, ⟨⟨vn1, vh1, vt1⟩, vc1⟩, ⟨vn2, vh2, vt2⟩, vc2⟩ := id hM
  have hS0 := hst 0 (by omega)
  obtain ⟨⟨⟨⟨⟨kσ, oσ, zσ⟩, iσ4⟩, rσ0, rσ1, rσ2, rσ3⟩, ⟨⟨⟨kβ, oβ, zβ⟩, nβ⟩, hrβ⟩, ⟨⟨⟨kκ, oκ, zκ⟩, nκ⟩, hrκ⟩⟩, ⟨⟨tq, hq⟩, ⟨⟨k5, o5, z5⟩, n5⟩, hw5⟩, hbx, hmc⟩ := id hS0
  have rβ := hrβ b hb
  obtain ⟨⟨⟨⟨kb, ob, zb⟩, ib0, ib1, ib2, ib3⟩, rb4, rb5, hbne⟩, ⟨tb1, tb2⟩, hc1, hc2⟩ := id (hbx b hb)
  have ktb1 := tb1.K
  have ktb2 := tb2.K
  have stb1 := tb1.s
  have stb2 := tb2.s
  have c20 := tb1.b.1
  have g6 := tb2.b.1
  refine mz_start (by decide) (Nat.le_of_ble_eq_true rfl) ?_
  intro p e s m args below meth c hC hret hnm
  refine mz_sn_ok hC tk_X5_clean pk_RX5 1 [] rfl (by (repeat' apply And.intro) <;> first | exact True.intro | assumption | (simp only [mz_cm1, mz_c0, mz_c1, mz_c2, mz_c3, mz_c4, mz_c5, mz_c6, mz_c7, mz_c8, mz_c10, mz_c17, mz_c20, mz_c28, mz_c58, mz_c63, mz_c98, mz_c294, mz_c526, mz_c532, mz_c540, mz_c999, mz_c1900, mz_c2403, mz_c29362, mz_c29363, mz_c29364, mz_c29390, mz_c29393, mz_c29394, mz_c29398, mz_c29399, mz_c29400, mz_c29401, nI_add, pk_mul, pk_m1, mz_pp, mz_pq]; done) | omega | (simp only [mz_cm1, mz_c0, mz_c1, mz_c2, mz_c3, mz_c4, mz_c5, mz_c6, mz_c7, mz_c8, mz_c10, mz_c17, mz_c20, mz_c28, mz_c58, mz_c63, mz_c98, mz_c294, mz_c526, mz_c532, mz_c540, mz_c999, mz_c1900, mz_c2403, mz_c29362, mz_c29363, mz_c29364, mz_c29390, mz_c29393, mz_c29394, mz_c29398, mz_c29399, mz_c29400, mz_c29401, nI_add, pk_mul, pk_m1, mz_pp, mz_pq]; congr 1; omega)) ?_
  try simp only [mz_c0, mz_cm1]
  refine mz_Vcs hC tk_X5_clean rfl md_X5_needBox lk_RX5_36 rfl (cf_needBox l E b hb) ⟨Nat.le_of_ble_eq_true rfl, Nat.le_of_ble_eq_true rfl⟩ ⟨by simp only [mz_rm]; omega, by simp only [mz_rm]; omega⟩ (Nat.le_of_ble_eq_true rfl) (fun v9 G9 sz9 hp9 => ?_)
  obtain ⟨rfl, hG9, hs9⟩ := hp9
  rw [hG9, ← hs9]
  refine mz_sn_ok hC tk_X5_clean pk_RX5 1 [] rfl (by (repeat' apply And.intro) <;> first | exact True.intro | assumption | (simp only [mz_cm1, mz_c0, mz_c1, mz_c2, mz_c3, mz_c4, mz_c5, mz_c6, mz_c7, mz_c8, mz_c10, mz_c17, mz_c20, mz_c28, mz_c58, mz_c63, mz_c98, mz_c294, mz_c526, mz_c532, mz_c540, mz_c999, mz_c1900, mz_c2403, mz_c29362, mz_c29363, mz_c29364, mz_c29390, mz_c29393, mz_c29394, mz_c29398, mz_c29399, mz_c29400, mz_c29401, nI_add, pk_mul, pk_m1, mz_pp, mz_pq]; done) | omega | (simp only [mz_cm1, mz_c0, mz_c1, mz_c2, mz_c3, mz_c4, mz_c5, mz_c6, mz_c7, mz_c8, mz_c10, mz_c17, mz_c20, mz_c28, mz_c58, mz_c63, mz_c98, mz_c294, mz_c526, mz_c532, mz_c540, mz_c999, mz_c1900, mz_c2403, mz_c29362, mz_c29363, mz_c29364, mz_c29390, mz_c29393, mz_c29394, mz_c29398, mz_c29399, mz_c29400, mz_c29401, nI_add, pk_mul, pk_m1, mz_pp, mz_pq]; congr 1; omega)) ?_
  try simp only [mz_c0, mz_cm1]
  refine mz_Vcv hC tk_X5_clean rfl md_X5_keepRecord lk_RX5_49 rfl (cf_keep l E hM U hU) (by show (vwCl[mz_K _ _]?).map _ = _; rw [kω]; rfl) ⟨Nat.le_of_ble_eq_true rfl, Nat.le_of_ble_eq_true rfl⟩ ⟨by simp only [mz_rm]; omega, by simp only [mz_rm]; omega⟩ (Nat.le_of_ble_eq_true rfl) (fun v1 G1 sz1 hp1 => ?_)
  obtain ⟨rfl, O1, hM1, hF1⟩ := hp1
  obtain ⟨⟨⟨⟨⟨kω, oω, zω⟩, rω0, rω1, rω3, rω4⟩, iω2, sv4⟩, ⟨⟨kA, oA, zA⟩, nA⟩, hrA⟩, ⟨hd1, hd2⟩, hst, ⟨⟨vn1, vh1, vt1⟩, vc1⟩, ⟨vn2, vh2, vt2⟩, vc2⟩ := id hM1
  have hS0 := hst 0 (by omega)
  rw [mr_kr_0, mr_kF_0, mr_kL_0] at hS0
  rw [mr_kr_0] at rω0
  have hw0 := hd2 0 (by omega)
  rw [mr_kr_0] at hw0
  obtain ⟨⟨⟨⟨⟨kσ, oσ, zσ⟩, iσ4⟩, rσ0, rσ1, rσ2, rσ3⟩, ⟨⟨⟨kβ, oβ, zβ⟩, nβ⟩, hrβ⟩, ⟨⟨⟨kκ, oκ, zκ⟩, nκ⟩, hrκ⟩⟩, ⟨⟨tq, hq⟩, ⟨⟨k5, o5, z5⟩, n5⟩, hw5⟩, hbx, hmc⟩ := id hS0
  have rβ := hrβ b hb
  obtain ⟨⟨⟨⟨kb, ob, zb⟩, ib0, ib1, ib2, ib3⟩, rb4, rb5, hbne⟩, ⟨tb1, tb2⟩, hc1, hc2⟩ := id (hbx b hb)
  have ktb1 := tb1.K
  have ktb2 := tb2.K
  have stb1 := tb1.s
  have stb2 := tb2.s
  have c20 := tb1.b.1
  have g6 := tb2.b.1
  refine mz_sn_ok hC tk_X5_clean pk_RX5 5 [B 0, B 0 + 1, b, B 0 + 6 + 5 * b] rfl (by (repeat' apply And.intro) <;> first | exact True.intro | assumption | (simp only [mz_cm1, mz_c0, mz_c1, mz_c2, mz_c3, mz_c4, mz_c5, mz_c6, mz_c7, mz_c8, mz_c10, mz_c17, mz_c20, mz_c28, mz_c58, mz_c63, mz_c98, mz_c294, mz_c526, mz_c532, mz_c540, mz_c999, mz_c1900, mz_c2403, mz_c29362, mz_c29363, mz_c29364, mz_c29390, mz_c29393, mz_c29394, mz_c29398, mz_c29399, mz_c29400, mz_c29401, nI_add, pk_mul, pk_m1, mz_pp, mz_pq]; done) | omega | (simp only [mz_cm1, mz_c0, mz_c1, mz_c2, mz_c3, mz_c4, mz_c5, mz_c6, mz_c7, mz_c8, mz_c10, mz_c17, mz_c20, mz_c28, mz_c58, mz_c63, mz_c98, mz_c294, mz_c526, mz_c532, mz_c540, mz_c999, mz_c1900, mz_c2403, mz_c29362, mz_c29363, mz_c29364, mz_c29390, mz_c29393, mz_c29394, mz_c29398, mz_c29399, mz_c29400, mz_c29401, nI_add, pk_mul, pk_m1, mz_pp, mz_pq]; congr 1; omega)) ?_
  try simp only [mz_c0, mz_cm1]
  refine mz_Vcv hC tk_X5_clean rfl md_X0_removeAllThatMay lk_RX5_112 rfl (cb_removeAll l E (hbx b hb) hb hfl) (by show (vwCl[mz_K _ _]?).map _ = _; rw [kb]; rfl) ⟨Nat.le_of_ble_eq_true rfl, Nat.le_of_ble_eq_true rfl⟩ ⟨by simp only [mz_rm]; omega, by simp only [mz_rm]; omega⟩ (Nat.le_of_ble_eq_true rfl) (fun v2 G2 sz2 hp2 => ?_)
  obtain ⟨rfl, hs2, O2, cnt2, g2, hB2, hF2⟩ := hp2
  rw [← hs2]
  have hS2 := hS0.box hb hF2 hB2 (fun i hi => mx_cl_o hi _ _ _ _ _ _ c20 g6 (by omega))
  refine mz_Vireturn hC tk_X5_clean rfl hret rfl (by omega) (by omega) ?_
  exact ⟨rfl, mr_Qi hM1 hF1 hS2 (hF2.mono (mr_Zb hb))⟩
theorem cf_renew (hM : mr_M G O sz ω B sv F Λ v1 v2) (U : Nat) (hU : U + mr_Pt (mr_kL sv F Λ) = mr_Pt Λ) (b : Nat) (hb : b < 3) : mz_M l E yX5_renew cX5_renew 2 (some .int) 8 U U [.ref ω, .int (nI b)] G sz (fun v' G' sz' => v' = some (.int (mx_rn (F 0) b (mx_cB (F 0) b) (98 * b + 0))) ∧ mr_Q G O sz ω B sv F Λ v1 v2 (mx_rn (F 0) b (mx_cB (F 0) b)) (Λ 0) G' sz') := by
  obtain ⟨⟨⟨⟨⟨kω, oω, zω⟩, rω0, rω1, rω3, rω4⟩, iω2, sv4⟩, ⟨⟨kA, oA, zA⟩, nA⟩, hrA⟩, ⟨hd1, hd2⟩, hst, ⟨⟨vn1, vh1, vt1⟩, vc1⟩, ⟨vn2, vh2, vt2⟩, vc2⟩ := id hM
  have hS0 := hst 0 (by omega)
  obtain ⟨⟨⟨⟨⟨kσ, oσ, zσ⟩, iσ4⟩, rσ0, rσ1, rσ2, rσ3⟩, ⟨⟨⟨kβ, oβ, zβ⟩, nβ⟩, hrβ⟩, ⟨⟨⟨kκ, oκ, zκ⟩, nκ⟩, hrκ⟩⟩, ⟨⟨tq, hq⟩, ⟨⟨k5, o5, z5⟩, n5⟩, hw5⟩, hbx, hmc⟩ := id hS0
  have rβ := hrβ b hb
  obtain ⟨⟨⟨⟨kb, ob, zb⟩, ib0, ib1, ib2, ib3⟩, rb4, rb5, hbne⟩, ⟨tb1, tb2⟩, hc1, hc2⟩ := id (hbx b hb)
  have ktb1 := tb1.K
  have ktb2 := tb2.K
  have stb1 := tb1.s
  have stb2 := tb2.s
  have c20 := tb1.b.1
  have g6 := tb2.b.1
  refine mz_start (by decide) (Nat.le_of_ble_eq_true rfl) ?_
  intro p e s m args below meth c hC hret hnm
  refine mz_sn_ok hC tk_X5_renew pk_RX5 1 [] rfl (by (repeat' apply And.intro) <;> first | exact True.intro | assumption | (simp only [mz_cm1, mz_c0, mz_c1, mz_c2, mz_c3, mz_c4, mz_c5, mz_c6, mz_c7, mz_c8, mz_c10, mz_c17, mz_c20, mz_c28, mz_c58, mz_c63, mz_c98, mz_c294, mz_c526, mz_c532, mz_c540, mz_c999, mz_c1900, mz_c2403, mz_c29362, mz_c29363, mz_c29364, mz_c29390, mz_c29393, mz_c29394, mz_c29398, mz_c29399, mz_c29400, mz_c29401, nI_add, pk_mul, pk_m1, mz_pp, mz_pq]; done) | omega | (simp only [mz_cm1, mz_c0, mz_c1, mz_c2, mz_c3, mz_c4, mz_c5, mz_c6, mz_c7, mz_c8, mz_c10, mz_c17, mz_c20, mz_c28, mz_c58, mz_c63, mz_c98, mz_c294, mz_c526, mz_c532, mz_c540, mz_c999, mz_c1900, mz_c2403, mz_c29362, mz_c29363, mz_c29364, mz_c29390, mz_c29393, mz_c29394, mz_c29398, mz_c29399, mz_c29400, mz_c29401, nI_add, pk_mul, pk_m1, mz_pp, mz_pq]; congr 1; omega)) ?_
  try simp only [mz_c0, mz_cm1]
  refine mz_Vcs hC tk_X5_renew rfl md_X5_needBox lk_RX5_36 rfl (cf_needBox l E b hb) ⟨Nat.le_of_ble_eq_true rfl, Nat.le_of_ble_eq_true rfl⟩ ⟨by simp only [mz_rm]; omega, by simp only [mz_rm]; omega⟩ (Nat.le_of_ble_eq_true rfl) (fun v9 G9 sz9 hp9 => ?_)
  obtain ⟨rfl, hG9, hs9⟩ := hp9
  rw [hG9, ← hs9]
  refine mz_sn_ok hC tk_X5_renew pk_RX5 1 [] rfl (by (repeat' apply And.intro) <;> first | exact True.intro | assumption | (simp only [mz_cm1, mz_c0, mz_c1, mz_c2, mz_c3, mz_c4, mz_c5, mz_c6, mz_c7, mz_c8, mz_c10, mz_c17, mz_c20, mz_c28, mz_c58, mz_c63, mz_c98, mz_c294, mz_c526, mz_c532, mz_c540, mz_c999, mz_c1900, mz_c2403, mz_c29362, mz_c29363, mz_c29364, mz_c29390, mz_c29393, mz_c29394, mz_c29398, mz_c29399, mz_c29400, mz_c29401, nI_add, pk_mul, pk_m1, mz_pp, mz_pq]; done) | omega | (simp only [mz_cm1, mz_c0, mz_c1, mz_c2, mz_c3, mz_c4, mz_c5, mz_c6, mz_c7, mz_c8, mz_c10, mz_c17, mz_c20, mz_c28, mz_c58, mz_c63, mz_c98, mz_c294, mz_c526, mz_c532, mz_c540, mz_c999, mz_c1900, mz_c2403, mz_c29362, mz_c29363, mz_c29364, mz_c29390, mz_c29393, mz_c29394, mz_c29398, mz_c29399, mz_c29400, mz_c29401, nI_add, pk_mul, pk_m1, mz_pp, mz_pq]; congr 1; omega)) ?_
  try simp only [mz_c0, mz_cm1]
  refine mz_Vcv hC tk_X5_renew rfl md_X5_keepRecord lk_RX5_49 rfl (cf_keep l E hM U hU) (by show (vwCl[mz_K _ _]?).map _ = _; rw [kω]; rfl) ⟨Nat.le_of_ble_eq_true rfl, Nat.le_of_ble_eq_true rfl⟩ ⟨by simp only [mz_rm]; omega, by simp only [mz_rm]; omega⟩ (Nat.le_of_ble_eq_true rfl) (fun v1 G1 sz1 hp1 => ?_)
  obtain ⟨rfl, O1, hM1, hF1⟩ := hp1
  obtain ⟨⟨⟨⟨⟨kω, oω, zω⟩, rω0, rω1, rω3, rω4⟩, iω2, sv4⟩, ⟨⟨kA, oA, zA⟩, nA⟩, hrA⟩, ⟨hd1, hd2⟩, hst, ⟨⟨vn1, vh1, vt1⟩, vc1⟩, ⟨vn2, vh2, vt2⟩, vc2⟩ := id hM1
  have hS0 := hst 0 (by omega)
  rw [mr_kr_0, mr_kF_0, mr_kL_0] at hS0
  rw [mr_kr_0] at rω0
  have hw0 := hd2 0 (by omega)
  rw [mr_kr_0] at hw0
  obtain ⟨⟨⟨⟨⟨kσ, oσ, zσ⟩, iσ4⟩, rσ0, rσ1, rσ2, rσ3⟩, ⟨⟨⟨kβ, oβ, zβ⟩, nβ⟩, hrβ⟩, ⟨⟨⟨kκ, oκ, zκ⟩, nκ⟩, hrκ⟩⟩, ⟨⟨tq, hq⟩, ⟨⟨k5, o5, z5⟩, n5⟩, hw5⟩, hbx, hmc⟩ := id hS0
  have rβ := hrβ b hb
  obtain ⟨⟨⟨⟨kb, ob, zb⟩, ib0, ib1, ib2, ib3⟩, rb4, rb5, hbne⟩, ⟨tb1, tb2⟩, hc1, hc2⟩ := id (hbx b hb)
  have ktb1 := tb1.K
  have ktb2 := tb2.K
  have stb1 := tb1.s
  have stb2 := tb2.s
  have c20 := tb1.b.1
  have g6 := tb2.b.1
  refine mz_sn_ok hC tk_X5_renew pk_RX5 5 [B 0, B 0 + 1, b, B 0 + 6 + 5 * b] rfl (by (repeat' apply And.intro) <;> first | exact True.intro | assumption | (simp only [mz_cm1, mz_c0, mz_c1, mz_c2, mz_c3, mz_c4, mz_c5, mz_c6, mz_c7, mz_c8, mz_c10, mz_c17, mz_c20, mz_c28, mz_c58, mz_c63, mz_c98, mz_c294, mz_c526, mz_c532, mz_c540, mz_c999, mz_c1900, mz_c2403, mz_c29362, mz_c29363, mz_c29364, mz_c29390, mz_c29393, mz_c29394, mz_c29398, mz_c29399, mz_c29400, mz_c29401, nI_add, pk_mul, pk_m1, mz_pp, mz_pq]; done) | omega | (simp only [mz_cm1, mz_c0, mz_c1, mz_c2, mz_c3, mz_c4, mz_c5, mz_c6, mz_c7, mz_c8, mz_c10, mz_c17, mz_c20, mz_c28, mz_c58, mz_c63, mz_c98, mz_c294, mz_c526, mz_c532, mz_c540, mz_c999, mz_c1900, mz_c2403, mz_c29362, mz_c29363, mz_c29364, mz_c29390, mz_c29393, mz_c29394, mz_c29398, mz_c29399, mz_c29400, mz_c29401, nI_add, pk_mul, pk_m1, mz_pp, mz_pq]; congr 1; omega)) ?_
  try simp only [mz_c0, mz_cm1]
  refine mz_Vcv hC tk_X5_renew rfl md_X0_beginEra lk_RX5_116 rfl (cb_beginEra l E (hbx b hb)) (by show (vwCl[mz_K _ _]?).map _ = _; rw [kb]; rfl) ⟨Nat.le_of_ble_eq_true rfl, Nat.le_of_ble_eq_true rfl⟩ ⟨by simp only [mz_rm]; omega, by simp only [mz_rm]; omega⟩ (Nat.le_of_ble_eq_true rfl) (fun v2 G2 sz2 hp2 => ?_)
  obtain ⟨rfl, hs2, hB2, hF2⟩ := hp2
  rw [← hs2]
  have hS2 := hS0.box hb hF2 hB2 (fun i hi => mx_rn_o _ c20 hi)
  have hQ := mr_Qi hM1 hF1 hS2 (hF2.mono (mr_Zb hb))
  have rω0' : mz_r G2 ω 0 = some (B 0) := by
    obtain ⟨O3, hM3, -⟩ := hQ
    have := hM3.1.1.1.2.1
    rw [mr_kr_0] at this
    exact this
  have kω' : mz_K G2 ω = 5 := by
    obtain ⟨O3, hM3, -⟩ := hQ
    exact hM3.1.1.1.1.1
  obtain ⟨⟨⟨⟨⟨kσ, oσ, zσ⟩, iσ4⟩, rσ0, rσ1, rσ2, rσ3⟩, ⟨⟨⟨kβ, oβ, zβ⟩, nβ⟩, hrβ⟩, -⟩, -, hbx, -⟩ := id hS2
  have rβ := hrβ b hb
  have kb := (hbx b hb).1.1.1.1
  have ib0 := (hbx b hb).1.1.2.1
  refine mz_sn_ok hC tk_X5_renew pk_RX5 6 [B 0, B 0 + 1, b, B 0 + 6 + 5 * b] rfl (by (repeat' apply And.intro) <;> first | exact True.intro | assumption | (simp only [mz_cm1, mz_c0, mz_c1, mz_c2, mz_c3, mz_c4, mz_c5, mz_c6, mz_c7, mz_c8, mz_c10, mz_c17, mz_c20, mz_c28, mz_c58, mz_c63, mz_c98, mz_c294, mz_c526, mz_c532, mz_c540, mz_c999, mz_c1900, mz_c2403, mz_c29362, mz_c29363, mz_c29364, mz_c29390, mz_c29393, mz_c29394, mz_c29398, mz_c29399, mz_c29400, mz_c29401, nI_add, pk_mul, pk_m1, mz_pp, mz_pq]; done) | omega | (simp only [mz_cm1, mz_c0, mz_c1, mz_c2, mz_c3, mz_c4, mz_c5, mz_c6, mz_c7, mz_c8, mz_c10, mz_c17, mz_c20, mz_c28, mz_c58, mz_c63, mz_c98, mz_c294, mz_c526, mz_c532, mz_c540, mz_c999, mz_c1900, mz_c2403, mz_c29362, mz_c29363, mz_c29364, mz_c29390, mz_c29393, mz_c29394, mz_c29398, mz_c29399, mz_c29400, mz_c29401, nI_add, pk_mul, pk_m1, mz_pp, mz_pq]; congr 1; omega)) ?_
  try simp only [mz_c0, mz_cm1]
  refine mz_Vireturn hC tk_X5_renew rfl hret rfl (by omega) (by omega) ?_
  exact ⟨by rw [ib0], hQ⟩
theorem cf_add (hM : mr_M G O sz ω B sv F Λ v1 v2) (U : Nat) (hU : U + mr_Pt (mr_kL sv F Λ) = mr_Pt Λ) (b : Nat) (hb : b < 3) (ct fl : Int32) (hct : 0 ≤ ct ∧ ct ≤ nI 999) (hfl : 0 ≤ fl ∧ fl ≤ nI 63) (h20 : mx_cB (F 0) b < 20) (hasc : ∀ k, k < mx_cB (F 0) b → mx_nm (F 0) (98 * b + 17) k < F 0 (98 * b + 1)) : mz_M l E yX5_add cX5_add 4 (some .int) 8 U U [.ref ω, .int (nI b), .int ct, .int fl] G sz (fun v' G' sz' => v' = some (.int (F 0 (98 * b + 1))) ∧ mr_Q G O sz ω B sv F Λ v1 v2 (mx_ad (F 0) b (mx_cB (F 0) b) ct fl) (Λ 0) G' sz') := by
  obtain ⟨⟨⟨⟨⟨kω, oω, zω⟩, rω0, rω1, rω3, rω4⟩, iω2, sv4⟩, ⟨⟨kA, oA, zA⟩, nA⟩, hrA⟩, ⟨hd1, hd2⟩, hst, ⟨⟨vn1, vh1, vt1⟩, vc1⟩, ⟨vn2, vh2, vt2⟩, vc2⟩ := id hM
  have hS0 := hst 0 (by omega)
  obtain ⟨⟨⟨⟨⟨kσ, oσ, zσ⟩, iσ4⟩, rσ0, rσ1, rσ2, rσ3⟩, ⟨⟨⟨kβ, oβ, zβ⟩, nβ⟩, hrβ⟩, ⟨⟨⟨kκ, oκ, zκ⟩, nκ⟩, hrκ⟩⟩, ⟨⟨tq, hq⟩, ⟨⟨k5, o5, z5⟩, n5⟩, hw5⟩, hbx, hmc⟩ := id hS0
  have rβ := hrβ b hb
  obtain ⟨⟨⟨⟨kb, ob, zb⟩, ib0, ib1, ib2, ib3⟩, rb4, rb5, hbne⟩, ⟨tb1, tb2⟩, hc1, hc2⟩ := id (hbx b hb)
  have ktb1 := tb1.K
  have ktb2 := tb2.K
  have stb1 := tb1.s
  have stb2 := tb2.s
  have c20 := tb1.b.1
  have g6 := tb2.b.1
  refine mz_start (by decide) (Nat.le_of_ble_eq_true rfl) ?_
  intro p e s m args below meth c hC hret hnm
  refine mz_sn_ok hC tk_X5_add pk_RX5 1 [] rfl (by (repeat' apply And.intro) <;> first | exact True.intro | assumption | (simp only [mz_cm1, mz_c0, mz_c1, mz_c2, mz_c3, mz_c4, mz_c5, mz_c6, mz_c7, mz_c8, mz_c10, mz_c17, mz_c20, mz_c28, mz_c58, mz_c63, mz_c98, mz_c294, mz_c526, mz_c532, mz_c540, mz_c999, mz_c1900, mz_c2403, mz_c29362, mz_c29363, mz_c29364, mz_c29390, mz_c29393, mz_c29394, mz_c29398, mz_c29399, mz_c29400, mz_c29401, nI_add, pk_mul, pk_m1, mz_pp, mz_pq]; done) | omega | (simp only [mz_cm1, mz_c0, mz_c1, mz_c2, mz_c3, mz_c4, mz_c5, mz_c6, mz_c7, mz_c8, mz_c10, mz_c17, mz_c20, mz_c28, mz_c58, mz_c63, mz_c98, mz_c294, mz_c526, mz_c532, mz_c540, mz_c999, mz_c1900, mz_c2403, mz_c29362, mz_c29363, mz_c29364, mz_c29390, mz_c29393, mz_c29394, mz_c29398, mz_c29399, mz_c29400, mz_c29401, nI_add, pk_mul, pk_m1, mz_pp, mz_pq]; congr 1; omega)) ?_
  try simp only [mz_c0, mz_cm1]
  refine mz_Vcs hC tk_X5_add rfl md_X5_needBox lk_RX5_36 rfl (cf_needBox l E b hb) ⟨Nat.le_of_ble_eq_true rfl, Nat.le_of_ble_eq_true rfl⟩ ⟨by simp only [mz_rm]; omega, by simp only [mz_rm]; omega⟩ (Nat.le_of_ble_eq_true rfl) (fun v9 G9 sz9 hp9 => ?_)
  obtain ⟨rfl, hG9, hs9⟩ := hp9
  rw [hG9, ← hs9]
  refine mz_sn_ok hC tk_X5_add pk_RX5 1 [] rfl (by (repeat' apply And.intro) <;> first | exact True.intro | assumption | (simp only [mz_cm1, mz_c0, mz_c1, mz_c2, mz_c3, mz_c4, mz_c5, mz_c6, mz_c7, mz_c8, mz_c10, mz_c17, mz_c20, mz_c28, mz_c58, mz_c63, mz_c98, mz_c294, mz_c526, mz_c532, mz_c540, mz_c999, mz_c1900, mz_c2403, mz_c29362, mz_c29363, mz_c29364, mz_c29390, mz_c29393, mz_c29394, mz_c29398, mz_c29399, mz_c29400, mz_c29401, nI_add, pk_mul, pk_m1, mz_pp, mz_pq]; done) | omega | (simp only [mz_cm1, mz_c0, mz_c1, mz_c2, mz_c3, mz_c4, mz_c5, mz_c6, mz_c7, mz_c8, mz_c10, mz_c17, mz_c20, mz_c28, mz_c58, mz_c63, mz_c98, mz_c294, mz_c526, mz_c532, mz_c540, mz_c999, mz_c1900, mz_c2403, mz_c29362, mz_c29363, mz_c29364, mz_c29390, mz_c29393, mz_c29394, mz_c29398, mz_c29399, mz_c29400, mz_c29401, nI_add, pk_mul, pk_m1, mz_pp, mz_pq]; congr 1; omega)) ?_
  try simp only [mz_c0, mz_cm1]
  refine mz_Vcs hC tk_X5_add rfl md_X5_needContent lk_RX5_40 rfl (cf_needContent l E ct hct) ⟨Nat.le_of_ble_eq_true rfl, Nat.le_of_ble_eq_true rfl⟩ ⟨by simp only [mz_rm]; omega, by simp only [mz_rm]; omega⟩ (Nat.le_of_ble_eq_true rfl) (fun v9 G9 sz9 hp9 => ?_)
  obtain ⟨rfl, hG8, hs8⟩ := hp9
  rw [hG8, ← hs8]
  refine mz_sn_ok hC tk_X5_add pk_RX5 1 [] rfl (by (repeat' apply And.intro) <;> first | exact True.intro | assumption | (simp only [mz_cm1, mz_c0, mz_c1, mz_c2, mz_c3, mz_c4, mz_c5, mz_c6, mz_c7, mz_c8, mz_c10, mz_c17, mz_c20, mz_c28, mz_c58, mz_c63, mz_c98, mz_c294, mz_c526, mz_c532, mz_c540, mz_c999, mz_c1900, mz_c2403, mz_c29362, mz_c29363, mz_c29364, mz_c29390, mz_c29393, mz_c29394, mz_c29398, mz_c29399, mz_c29400, mz_c29401, nI_add, pk_mul, pk_m1, mz_pp, mz_pq]; done) | omega | (simp only [mz_cm1, mz_c0, mz_c1, mz_c2, mz_c3, mz_c4, mz_c5, mz_c6, mz_c7, mz_c8, mz_c10, mz_c17, mz_c20, mz_c28, mz_c58, mz_c63, mz_c98, mz_c294, mz_c526, mz_c532, mz_c540, mz_c999, mz_c1900, mz_c2403, mz_c29362, mz_c29363, mz_c29364, mz_c29390, mz_c29393, mz_c29394, mz_c29398, mz_c29399, mz_c29400, mz_c29401, nI_add, pk_mul, pk_m1, mz_pp, mz_pq]; congr 1; omega)) ?_
  try simp only [mz_c0, mz_cm1]
  refine mz_Vcs hC tk_X5_add rfl md_X5_needFlags lk_RX5_43 rfl (cf_needFlags l E fl hfl) ⟨Nat.le_of_ble_eq_true rfl, Nat.le_of_ble_eq_true rfl⟩ ⟨by simp only [mz_rm]; omega, by simp only [mz_rm]; omega⟩ (Nat.le_of_ble_eq_true rfl) (fun v9 G9 sz9 hp9 => ?_)
  obtain ⟨rfl, hG7, hs7⟩ := hp9
  rw [hG7, ← hs7]
  refine mz_sn_ok hC tk_X5_add pk_RX5 2 [] rfl (by (repeat' apply And.intro) <;> first | exact True.intro | assumption | (simp only [mz_cm1, mz_c0, mz_c1, mz_c2, mz_c3, mz_c4, mz_c5, mz_c6, mz_c7, mz_c8, mz_c10, mz_c17, mz_c20, mz_c28, mz_c58, mz_c63, mz_c98, mz_c294, mz_c526, mz_c532, mz_c540, mz_c999, mz_c1900, mz_c2403, mz_c29362, mz_c29363, mz_c29364, mz_c29390, mz_c29393, mz_c29394, mz_c29398, mz_c29399, mz_c29400, mz_c29401, nI_add, pk_mul, pk_m1, mz_pp, mz_pq]; done) | omega | (simp only [mz_cm1, mz_c0, mz_c1, mz_c2, mz_c3, mz_c4, mz_c5, mz_c6, mz_c7, mz_c8, mz_c10, mz_c17, mz_c20, mz_c28, mz_c58, mz_c63, mz_c98, mz_c294, mz_c526, mz_c532, mz_c540, mz_c999, mz_c1900, mz_c2403, mz_c29362, mz_c29363, mz_c29364, mz_c29390, mz_c29393, mz_c29394, mz_c29398, mz_c29399, mz_c29400, mz_c29401, nI_add, pk_mul, pk_m1, mz_pp, mz_pq]; congr 1; omega)) ?_
  try simp only [mz_c0, mz_cm1]
  refine mz_Vcv hC tk_X5_add rfl md_X5_needRoomIn lk_RX5_46 rfl (cf_needRoomIn l E hM b hb h20) (by show (vwCl[mz_K _ _]?).map _ = _; rw [kω]; rfl) ⟨Nat.le_of_ble_eq_true rfl, Nat.le_of_ble_eq_true rfl⟩ ⟨by simp only [mz_rm]; omega, by simp only [mz_rm]; omega⟩ (Nat.le_of_ble_eq_true rfl) (fun v9 G9 sz9 hp9 => ?_)
  obtain ⟨rfl, hG6, hs6⟩ := hp9
  rw [hG6, ← hs6]
  refine mz_sn_ok hC tk_X5_add pk_RX5 1 [] rfl (by (repeat' apply And.intro) <;> first | exact True.intro | assumption | (simp only [mz_cm1, mz_c0, mz_c1, mz_c2, mz_c3, mz_c4, mz_c5, mz_c6, mz_c7, mz_c8, mz_c10, mz_c17, mz_c20, mz_c28, mz_c58, mz_c63, mz_c98, mz_c294, mz_c526, mz_c532, mz_c540, mz_c999, mz_c1900, mz_c2403, mz_c29362, mz_c29363, mz_c29364, mz_c29390, mz_c29393, mz_c29394, mz_c29398, mz_c29399, mz_c29400, mz_c29401, nI_add, pk_mul, pk_m1, mz_pp, mz_pq]; done) | omega | (simp only [mz_cm1, mz_c0, mz_c1, mz_c2, mz_c3, mz_c4, mz_c5, mz_c6, mz_c7, mz_c8, mz_c10, mz_c17, mz_c20, mz_c28, mz_c58, mz_c63, mz_c98, mz_c294, mz_c526, mz_c532, mz_c540, mz_c999, mz_c1900, mz_c2403, mz_c29362, mz_c29363, mz_c29364, mz_c29390, mz_c29393, mz_c29394, mz_c29398, mz_c29399, mz_c29400, mz_c29401, nI_add, pk_mul, pk_m1, mz_pp, mz_pq]; congr 1; omega)) ?_
  try simp only [mz_c0, mz_cm1]
  refine mz_Vcv hC tk_X5_add rfl md_X5_keepRecord lk_RX5_49 rfl (cf_keep l E hM U hU) (by show (vwCl[mz_K _ _]?).map _ = _; rw [kω]; rfl) ⟨Nat.le_of_ble_eq_true rfl, Nat.le_of_ble_eq_true rfl⟩ ⟨by simp only [mz_rm]; omega, by simp only [mz_rm]; omega⟩ (Nat.le_of_ble_eq_true rfl) (fun v1 G1 sz1 hp1 => ?_)
  obtain ⟨rfl, O1, hM1, hF1⟩ := hp1
  obtain ⟨⟨⟨⟨⟨kω, oω, zω⟩, rω0, rω1, rω3, rω4⟩, iω2, sv4⟩, ⟨⟨kA, oA, zA⟩, nA⟩, hrA⟩, ⟨hd1, hd2⟩, hst, ⟨⟨vn1, vh1, vt1⟩, vc1⟩, ⟨vn2, vh2, vt2⟩, vc2⟩ := id hM1
  have hS0 := hst 0 (by omega)
  rw [mr_kr_0, mr_kF_0, mr_kL_0] at hS0
  rw [mr_kr_0] at rω0
  have hw0 := hd2 0 (by omega)
  rw [mr_kr_0] at hw0
  obtain ⟨⟨⟨⟨⟨kσ, oσ, zσ⟩, iσ4⟩, rσ0, rσ1, rσ2, rσ3⟩, ⟨⟨⟨kβ, oβ, zβ⟩, nβ⟩, hrβ⟩, ⟨⟨⟨kκ, oκ, zκ⟩, nκ⟩, hrκ⟩⟩, ⟨⟨tq, hq⟩, ⟨⟨k5, o5, z5⟩, n5⟩, hw5⟩, hbx, hmc⟩ := id hS0
  have rβ := hrβ b hb
  obtain ⟨⟨⟨⟨kb, ob, zb⟩, ib0, ib1, ib2, ib3⟩, rb4, rb5, hbne⟩, ⟨tb1, tb2⟩, hc1, hc2⟩ := id (hbx b hb)
  have ktb1 := tb1.K
  have ktb2 := tb2.K
  have stb1 := tb1.s
  have stb2 := tb2.s
  have c20 := tb1.b.1
  have g6 := tb2.b.1
  refine mz_sn_ok hC tk_X5_add pk_RX5 7 [B 0, B 0 + 1, b, B 0 + 6 + 5 * b] rfl (by (repeat' apply And.intro) <;> first | exact True.intro | assumption | (simp only [mz_cm1, mz_c0, mz_c1, mz_c2, mz_c3, mz_c4, mz_c5, mz_c6, mz_c7, mz_c8, mz_c10, mz_c17, mz_c20, mz_c28, mz_c58, mz_c63, mz_c98, mz_c294, mz_c526, mz_c532, mz_c540, mz_c999, mz_c1900, mz_c2403, mz_c29362, mz_c29363, mz_c29364, mz_c29390, mz_c29393, mz_c29394, mz_c29398, mz_c29399, mz_c29400, mz_c29401, nI_add, pk_mul, pk_m1, mz_pp, mz_pq]; done) | omega | (simp only [mz_cm1, mz_c0, mz_c1, mz_c2, mz_c3, mz_c4, mz_c5, mz_c6, mz_c7, mz_c8, mz_c10, mz_c17, mz_c20, mz_c28, mz_c58, mz_c63, mz_c98, mz_c294, mz_c526, mz_c532, mz_c540, mz_c999, mz_c1900, mz_c2403, mz_c29362, mz_c29363, mz_c29364, mz_c29390, mz_c29393, mz_c29394, mz_c29398, mz_c29399, mz_c29400, mz_c29401, nI_add, pk_mul, pk_m1, mz_pp, mz_pq]; congr 1; omega)) ?_
  try simp only [mz_c0, mz_cm1]
  refine mz_Vcv hC tk_X5_add rfl md_X0_addMessage lk_RX5_56 rfl (cb_addMessage l E (hbx b hb) ct fl h20 hasc) (by show (vwCl[mz_K _ _]?).map _ = _; rw [kb]; rfl) ⟨Nat.le_of_ble_eq_true rfl, Nat.le_of_ble_eq_true rfl⟩ ⟨by simp only [mz_rm]; omega, by simp only [mz_rm]; omega⟩ (Nat.le_of_ble_eq_true rfl) (fun v2 G2 sz2 hp2 => ?_)
  obtain ⟨rfl, hs2, O2, hB2, hF2⟩ := hp2
  rw [← hs2]
  have hS2 := hS0.box hb hF2 hB2 (fun i hi => mx_ad_o _ _ _ h20 hi)
  refine mz_Vireturn hC tk_X5_add rfl hret rfl (by omega) (by omega) ?_
  exact ⟨rfl, mr_Qi hM1 hF1 hS2 (hF2.mono (mr_Zb hb))⟩
end MRF

