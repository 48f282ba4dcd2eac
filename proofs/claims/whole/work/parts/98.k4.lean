/-! ===== the class: machines, what is noted and told ===== -/
section MRF
variable (l : Launch) (E : mz_E) {G : mz_G} {O : Nat → Nat} {sz ω : Nat} {B : Nat → Nat} {sv : Nat} {F : Nat → Nat → Int32} {Λ : Nat → Nat → Nat → Nat} {v1 v2 : Nat}
theorem cf_setPolicy (hM : mr_M G O sz ω B sv F Λ v1 v2) (U : Nat) (hU : U + mr_Pt (mr_kL sv F Λ) = mr_Pt Λ) (m0 : Nat) (hm : m0 < 4) (v : Int32) (hv : 0 ≤ v ∧ v ≤ nI 1) : mz_M l E yX5_setPolicy cX5_setPolicy 4 (some .int) 8 U U [.ref ω, .int (nI m0), .int v] G sz (fun v' G' sz' => v' = some (.int (F 0 (294 + 58 * m0))) ∧ mr_Q G O sz ω B sv F Λ v1 v2 (mz_u1 (F 0) (294 + 58 * m0) v) (Λ 0) G' sz') := by
  obtain ⟨⟨⟨⟨⟨kω, oω, zω⟩, rω0, rω1, rω3, rω4⟩, iω2, sv4⟩, ⟨⟨kA, oA, zA⟩, nA⟩, hrA⟩, ⟨hd1, hd2⟩, hst, ⟨⟨vn1, vh1, vt1⟩, vc1⟩, ⟨vn2, vh2, vt2⟩, vc2⟩ := id hM
  have hS0 := hst 0 (by omega)
  obtain ⟨⟨⟨⟨⟨kσ, oσ, zσ⟩, iσ4⟩, rσ0, rσ1, rσ2, rσ3⟩, ⟨⟨⟨kβ, oβ, zβ⟩, nβ⟩, hrβ⟩, ⟨⟨⟨kκ, oκ, zκ⟩, nκ⟩, hrκ⟩⟩, ⟨⟨tq, hq⟩, ⟨⟨k5, o5, z5⟩, n5⟩, hw5⟩, hbx, hmc⟩ := id hS0
  refine mz_start (by decide) (Nat.le_of_ble_eq_true rfl) ?_
  intro p e s m args below meth c hC hret hnm
  have go : mz_V E p l e (mz_rm 8 U U) s m args below meth c 4 (0) (0) (mz_Z E below args s U U (fun v' G' sz' => v' = some (.int (F 0 (294 + 58 * m0))) ∧ mr_Q G O sz ω B sv F Λ v1 v2 (mz_u1 (F 0) (294 + 58 * m0) v) (Λ 0) G' sz')) (G) (sz) (23) [some (.ref ω), some (.int (nI m0)), some (.int v)] [] := by
    refine mz_sn_ok hC tk_X5_setPolicy pk_RX5 1 [] rfl (by (repeat' apply And.intro) <;> first | exact True.intro | assumption | (simp only [mz_cm1, mz_c0, mz_c1, mz_c2, mz_c3, mz_c4, mz_c5, mz_c6, mz_c7, mz_c8, mz_c10, mz_c17, mz_c20, mz_c28, mz_c58, mz_c63, mz_c98, mz_c294, mz_c526, mz_c532, mz_c540, mz_c999, mz_c1900, mz_c2403, mz_c29362, mz_c29363, mz_c29364, mz_c29390, mz_c29393, mz_c29394, mz_c29398, mz_c29399, mz_c29400, mz_c29401, nI_add, pk_mul, pk_m1, mz_pp, mz_pq]; done) | omega | (simp only [mz_cm1, mz_c0, mz_c1, mz_c2, mz_c3, mz_c4, mz_c5, mz_c6, mz_c7, mz_c8, mz_c10, mz_c17, mz_c20, mz_c28, mz_c58, mz_c63, mz_c98, mz_c294, mz_c526, mz_c532, mz_c540, mz_c999, mz_c1900, mz_c2403, mz_c29362, mz_c29363, mz_c29364, mz_c29390, mz_c29393, mz_c29394, mz_c29398, mz_c29399, mz_c29400, mz_c29401, nI_add, pk_mul, pk_m1, mz_pp, mz_pq]; congr 1; omega)) ?_
    try simp only [mz_c0, mz_cm1]
    refine mz_Vcv hC tk_X5_setPolicy rfl md_X5_keepRecord lk_RX5_49 rfl (cf_keep l E hM U hU) (by show (vwCl[mz_K _ _]?).map _ = _; rw [kω]; rfl) ⟨Nat.le_of_ble_eq_true rfl, Nat.le_of_ble_eq_true rfl⟩ ⟨by simp only [mz_rm]; omega, by simp only [mz_rm]; omega⟩ (Nat.le_of_ble_eq_true rfl) (fun v1 G1 sz1 hp1 => ?_)
    obtain ⟨rfl, O1, hM1, hF1⟩ := hp1
    obtain ⟨⟨⟨⟨⟨kω, oω, zω⟩, rω0, rω1, rω3, rω4⟩, iω2, sv4⟩, ⟨⟨kA, oA, zA⟩, nA⟩, hrA⟩, ⟨hd1, hd2⟩, hst, ⟨⟨vn1, vh1, vt1⟩, vc1⟩, ⟨vn2, vh2, vt2⟩, vc2⟩ := id hM1
    have hS0 := hst 0 (by omega)
    rw [mr_kr_0, mr_kF_0, mr_kL_0] at hS0
    rw [mr_kr_0] at rω0
    have hw0 := hd2 0 (by omega)
    rw [mr_kr_0] at hw0
    obtain ⟨⟨⟨⟨⟨kσ, oσ, zσ⟩, iσ4⟩, rσ0, rσ1, rσ2, rσ3⟩, ⟨⟨⟨kβ, oβ, zβ⟩, nβ⟩, hrβ⟩, ⟨⟨⟨kκ, oκ, zκ⟩, nκ⟩, hrκ⟩⟩, ⟨⟨tq, hq⟩, ⟨⟨k5, o5, z5⟩, n5⟩, hw5⟩, hbx, hmc⟩ := id hS0
    have rκ := hrκ m0 hm
    obtain ⟨⟨⟨⟨kk, ok, zk⟩, ik0, rk1, rk2⟩, ⟨kka, oka, nka, zka⟩, hra⟩, ⟨td, hnD⟩, hcp⟩ := id (hmc m0 hm)
    have ktd := td.K
    have std := td.s
    have n8 := td.b.1
    refine mz_sn_ok hC tk_X5_setPolicy pk_RX5 15 [B 0, B 0 + 2, m0, B 0 + 21 + 13 * m0, B 0, B 0 + 2, m0, B 0 + 21 + 13 * m0] rfl (by (repeat' apply And.intro) <;> first | exact True.intro | assumption | (simp only [mz_cm1, mz_c0, mz_c1, mz_c2, mz_c3, mz_c4, mz_c5, mz_c6, mz_c7, mz_c8, mz_c10, mz_c17, mz_c20, mz_c28, mz_c58, mz_c63, mz_c98, mz_c294, mz_c526, mz_c532, mz_c540, mz_c999, mz_c1900, mz_c2403, mz_c29362, mz_c29363, mz_c29364, mz_c29390, mz_c29393, mz_c29394, mz_c29398, mz_c29399, mz_c29400, mz_c29401, nI_add, pk_mul, pk_m1, mz_pp, mz_pq, ik0]; done) | omega | (simp only [mz_cm1, mz_c0, mz_c1, mz_c2, mz_c3, mz_c4, mz_c5, mz_c6, mz_c7, mz_c8, mz_c10, mz_c17, mz_c20, mz_c28, mz_c58, mz_c63, mz_c98, mz_c294, mz_c526, mz_c532, mz_c540, mz_c999, mz_c1900, mz_c2403, mz_c29362, mz_c29363, mz_c29364, mz_c29390, mz_c29393, mz_c29394, mz_c29398, mz_c29399, mz_c29400, mz_c29401, nI_add, pk_mul, pk_m1, mz_pp, mz_pq, ik0]; congr 1; omega)) ?_
    try simp only [mz_c0, mz_cm1, ik0]
    obtain ⟨hS2, hF2⟩ := hS0.pol hm v
    refine mz_Vireturn hC tk_X5_setPolicy rfl hret rfl (by omega) (by omega) ?_
    exact ⟨rfl, mr_Qi hM1 hF1 hS2 (hF2.mono (fun q z => by unfold mr_Z; omega))⟩
  refine mz_sn_ok hC tk_X5_setPolicy pk_RX5 1 [] rfl (by (repeat' apply And.intro) <;> first | exact True.intro | assumption | (simp only [mz_cm1, mz_c0, mz_c1, mz_c2, mz_c3, mz_c4, mz_c5, mz_c6, mz_c7, mz_c8, mz_c10, mz_c17, mz_c20, mz_c28, mz_c58, mz_c63, mz_c98, mz_c294, mz_c526, mz_c532, mz_c540, mz_c999, mz_c1900, mz_c2403, mz_c29362, mz_c29363, mz_c29364, mz_c29390, mz_c29393, mz_c29394, mz_c29398, mz_c29399, mz_c29400, mz_c29401, nI_add, pk_mul, pk_m1, mz_pp, mz_pq]; done) | omega | (simp only [mz_cm1, mz_c0, mz_c1, mz_c2, mz_c3, mz_c4, mz_c5, mz_c6, mz_c7, mz_c8, mz_c10, mz_c17, mz_c20, mz_c28, mz_c58, mz_c63, mz_c98, mz_c294, mz_c526, mz_c532, mz_c540, mz_c999, mz_c1900, mz_c2403, mz_c29362, mz_c29363, mz_c29364, mz_c29390, mz_c29393, mz_c29394, mz_c29398, mz_c29399, mz_c29400, mz_c29401, nI_add, pk_mul, pk_m1, mz_pp, mz_pq]; congr 1; omega)) ?_
  try simp only [mz_c0, mz_cm1]
  refine mz_Vcs hC tk_X5_setPolicy rfl md_X5_needMachine lk_RX5_138 rfl (cf_needMachine l E m0 hm) ⟨Nat.le_of_ble_eq_true rfl, Nat.le_of_ble_eq_true rfl⟩ ⟨by simp only [mz_rm]; omega, by simp only [mz_rm]; omega⟩ (Nat.le_of_ble_eq_true rfl) (fun v9 G9 sz9 hp9 => ?_)
  obtain ⟨rfl, hG9, hs9⟩ := hp9
  rw [hG9, ← hs9]
  refine mz_sn_ok hC tk_X5_setPolicy pk_RX5 1 [] rfl (by (repeat' apply And.intro) <;> first | exact True.intro | assumption | (simp only [mz_cm1, mz_c0, mz_c1, mz_c2, mz_c3, mz_c4, mz_c5, mz_c6, mz_c7, mz_c8, mz_c10, mz_c17, mz_c20, mz_c28, mz_c58, mz_c63, mz_c98, mz_c294, mz_c526, mz_c532, mz_c540, mz_c999, mz_c1900, mz_c2403, mz_c29362, mz_c29363, mz_c29364, mz_c29390, mz_c29393, mz_c29394, mz_c29398, mz_c29399, mz_c29400, mz_c29401, nI_add, pk_mul, pk_m1, mz_pp, mz_pq]; done) | omega | (simp only [mz_cm1, mz_c0, mz_c1, mz_c2, mz_c3, mz_c4, mz_c5, mz_c6, mz_c7, mz_c8, mz_c10, mz_c17, mz_c20, mz_c28, mz_c58, mz_c63, mz_c98, mz_c294, mz_c526, mz_c532, mz_c540, mz_c999, mz_c1900, mz_c2403, mz_c29362, mz_c29363, mz_c29364, mz_c29390, mz_c29393, mz_c29394, mz_c29398, mz_c29399, mz_c29400, mz_c29401, nI_add, pk_mul, pk_m1, mz_pp, mz_pq]; congr 1; omega)) ?_
  try simp only [mz_c0, mz_cm1]
  by_cases h0 : v = 0
  · refine mz_br_t hC tk_X5_setPolicy rfl ((by show v = 0; exact h0)) ?_
    refine mz_V.sub (lv' := [some (.ref ω), some (.int (nI m0)), some (.int v)]) (by (repeat' apply And.intro) <;> first | with_reducible rfl | exact True.intro | (simp only [mz_cm1, mz_c0, mz_c1, mz_c2, mz_c3, mz_c4, mz_c5, mz_c6, mz_c7, mz_c8, mz_c10, mz_c17, mz_c20, mz_c28, mz_c58, mz_c63, mz_c98, mz_c294, mz_c526, mz_c532, mz_c540, mz_c999, mz_c1900, mz_c2403, mz_c29362, mz_c29363, mz_c29364, mz_c29390, mz_c29393, mz_c29394, mz_c29398, mz_c29399, mz_c29400, mz_c29401, nI_add, pk_mul, pk_m1, mz_pp, mz_pq]; done) | rfl) ?_
    exact go
  · have h1 : v = nI 1 := by
      obtain ⟨n, hn, rfl⟩ := mz_nat63 (by omega) hv
      rcases (show n = 0 ∨ n = 1 by omega) with rfl | rfl
      · exact absurd rfl h0
      · rfl
    refine mz_br_f hC tk_X5_setPolicy rfl ((by show ¬ v = 0; exact h0)) ?_
    refine mz_sn_ok hC tk_X5_setPolicy pk_RX5 2 [] rfl (by (repeat' apply And.intro) <;> first | exact True.intro | assumption | (simp only [mz_cm1, mz_c0, mz_c1, mz_c2, mz_c3, mz_c4, mz_c5, mz_c6, mz_c7, mz_c8, mz_c10, mz_c17, mz_c20, mz_c28, mz_c58, mz_c63, mz_c98, mz_c294, mz_c526, mz_c532, mz_c540, mz_c999, mz_c1900, mz_c2403, mz_c29362, mz_c29363, mz_c29364, mz_c29390, mz_c29393, mz_c29394, mz_c29398, mz_c29399, mz_c29400, mz_c29401, nI_add, pk_mul, pk_m1, mz_pp, mz_pq]; done) | omega | (simp only [mz_cm1, mz_c0, mz_c1, mz_c2, mz_c3, mz_c4, mz_c5, mz_c6, mz_c7, mz_c8, mz_c10, mz_c17, mz_c20, mz_c28, mz_c58, mz_c63, mz_c98, mz_c294, mz_c526, mz_c532, mz_c540, mz_c999, mz_c1900, mz_c2403, mz_c29362, mz_c29363, mz_c29364, mz_c29390, mz_c29393, mz_c29394, mz_c29398, mz_c29399, mz_c29400, mz_c29401, nI_add, pk_mul, pk_m1, mz_pp, mz_pq]; congr 1; omega)) ?_
    try simp only [mz_c0, mz_cm1]
    refine mz_br_t hC tk_X5_setPolicy rfl ((by show v = mz_c 1; rw [mz_c1]; exact h1)) ?_
    refine mz_V.sub (lv' := [some (.ref ω), some (.int (nI m0)), some (.int v)]) (by (repeat' apply And.intro) <;> first | with_reducible rfl | exact True.intro | (simp only [mz_cm1, mz_c0, mz_c1, mz_c2, mz_c3, mz_c4, mz_c5, mz_c6, mz_c7, mz_c8, mz_c10, mz_c17, mz_c20, mz_c28, mz_c58, mz_c63, mz_c98, mz_c294, mz_c526, mz_c532, mz_c540, mz_c999, mz_c1900, mz_c2403, mz_c29362, mz_c29363, mz_c29364, mz_c29390, mz_c29393, mz_c29394, mz_c29398, mz_c29399, mz_c29400, mz_c29401, nI_add, pk_mul, pk_m1, mz_pp, mz_pq]; done) | rfl) ?_
    exact go
theorem cf_sync (hM : mr_M G O sz ω B sv F Λ v1 v2) (U U2 : Nat) (hU : U + mr_Pt (mr_kL sv F Λ) = mr_Pt Λ) (m0 : Nat) (hm : m0 < 4) (b : Nat) (hb : b < 3) (hso : mr_so (F 0) (mx_CA m0 b + 2) (mx_cC (F 0) m0 b)) (hfin : mr_sc (F 0) m0 b < 532) (hU2 : U2 = mr_ph (Λ 0 m0 b) - mr_ph (mt_gr 4 532 (Λ 0 m0 b) (mr_sc (F 0) m0 b))) : mz_M l E yX5_sync cX5_sync 3 (some .int) 9 (U + U2) (U + U2) [.ref ω, .int (nI m0), .int (nI b)] G sz (fun v' G' sz' => v' = some (.int (nI (mx_yn (F 0) m0 b))) ∧ mr_Q G O sz ω B sv F Λ v1 v2 (mx_yS (F 0) m0 b) (mr_lg (Λ 0) m0 b (mr_sc (F 0) m0 b)) G' sz') := by
  obtain ⟨⟨⟨⟨⟨kω, oω, zω⟩, rω0, rω1, rω3, rω4⟩, iω2, sv4⟩, ⟨⟨kA, oA, zA⟩, nA⟩, hrA⟩, ⟨hd1, hd2⟩, hst, ⟨⟨vn1, vh1, vt1⟩, vc1⟩, ⟨vn2, vh2, vt2⟩, vc2⟩ := id hM
  have hS0 := hst 0 (by omega)
  obtain ⟨⟨⟨⟨⟨kσ, oσ, zσ⟩, iσ4⟩, rσ0, rσ1, rσ2, rσ3⟩, ⟨⟨⟨kβ, oβ, zβ⟩, nβ⟩, hrβ⟩, ⟨⟨⟨kκ, oκ, zκ⟩, nκ⟩, hrκ⟩⟩, ⟨⟨tq, hq⟩, ⟨⟨k5, o5, z5⟩, n5⟩, hw5⟩, hbx, hmc⟩ := id hS0
  refine mz_start (by decide) (Nat.le_of_ble_eq_true rfl) ?_
  intro p e s m args below meth c hC hret hnm
  refine mz_sn_ok hC tk_X5_sync pk_RX5 1 [] rfl (by (repeat' apply And.intro) <;> first | exact True.intro | assumption | (simp only [mz_cm1, mz_c0, mz_c1, mz_c2, mz_c3, mz_c4, mz_c5, mz_c6, mz_c7, mz_c8, mz_c10, mz_c17, mz_c20, mz_c28, mz_c58, mz_c63, mz_c98, mz_c294, mz_c526, mz_c532, mz_c540, mz_c999, mz_c1900, mz_c2403, mz_c29362, mz_c29363, mz_c29364, mz_c29390, mz_c29393, mz_c29394, mz_c29398, mz_c29399, mz_c29400, mz_c29401, nI_add, pk_mul, pk_m1, mz_pp, mz_pq]; done) | omega | (simp only [mz_cm1, mz_c0, mz_c1, mz_c2, mz_c3, mz_c4, mz_c5, mz_c6, mz_c7, mz_c8, mz_c10, mz_c17, mz_c20, mz_c28, mz_c58, mz_c63, mz_c98, mz_c294, mz_c526, mz_c532, mz_c540, mz_c999, mz_c1900, mz_c2403, mz_c29362, mz_c29363, mz_c29364, mz_c29390, mz_c29393, mz_c29394, mz_c29398, mz_c29399, mz_c29400, mz_c29401, nI_add, pk_mul, pk_m1, mz_pp, mz_pq]; congr 1; omega)) ?_
  try simp only [mz_c0, mz_cm1]
  refine mz_Vcs hC tk_X5_sync rfl md_X5_needMachine lk_RX5_138 rfl (cf_needMachine l E m0 hm) ⟨Nat.le_of_ble_eq_true rfl, Nat.le_of_ble_eq_true rfl⟩ ⟨by simp only [mz_rm]; omega, by simp only [mz_rm]; omega⟩ (Nat.le_of_ble_eq_true rfl) (fun v9 G9 sz9 hp9 => ?_)
  obtain ⟨rfl, hG9, hs9⟩ := hp9
  rw [hG9, ← hs9]
  refine mz_sn_ok hC tk_X5_sync pk_RX5 1 [] rfl (by (repeat' apply And.intro) <;> first | exact True.intro | assumption | (simp only [mz_cm1, mz_c0, mz_c1, mz_c2, mz_c3, mz_c4, mz_c5, mz_c6, mz_c7, mz_c8, mz_c10, mz_c17, mz_c20, mz_c28, mz_c58, mz_c63, mz_c98, mz_c294, mz_c526, mz_c532, mz_c540, mz_c999, mz_c1900, mz_c2403, mz_c29362, mz_c29363, mz_c29364, mz_c29390, mz_c29393, mz_c29394, mz_c29398, mz_c29399, mz_c29400, mz_c29401, nI_add, pk_mul, pk_m1, mz_pp, mz_pq]; done) | omega | (simp only [mz_cm1, mz_c0, mz_c1, mz_c2, mz_c3, mz_c4, mz_c5, mz_c6, mz_c7, mz_c8, mz_c10, mz_c17, mz_c20, mz_c28, mz_c58, mz_c63, mz_c98, mz_c294, mz_c526, mz_c532, mz_c540, mz_c999, mz_c1900, mz_c2403, mz_c29362, mz_c29363, mz_c29364, mz_c29390, mz_c29393, mz_c29394, mz_c29398, mz_c29399, mz_c29400, mz_c29401, nI_add, pk_mul, pk_m1, mz_pp, mz_pq]; congr 1; omega)) ?_
  try simp only [mz_c0, mz_cm1]
  refine mz_Vcs hC tk_X5_sync rfl md_X5_needBox lk_RX5_36 rfl (cf_needBox l E b hb) ⟨Nat.le_of_ble_eq_true rfl, Nat.le_of_ble_eq_true rfl⟩ ⟨by simp only [mz_rm]; omega, by simp only [mz_rm]; omega⟩ (Nat.le_of_ble_eq_true rfl) (fun v9 G9 sz9 hp9 => ?_)
  obtain ⟨rfl, hG8, hs8⟩ := hp9
  rw [hG8, ← hs8]
  refine mz_sn_ok hC tk_X5_sync pk_RX5 1 [] rfl (by (repeat' apply And.intro) <;> first | exact True.intro | assumption | (simp only [mz_cm1, mz_c0, mz_c1, mz_c2, mz_c3, mz_c4, mz_c5, mz_c6, mz_c7, mz_c8, mz_c10, mz_c17, mz_c20, mz_c28, mz_c58, mz_c63, mz_c98, mz_c294, mz_c526, mz_c532, mz_c540, mz_c999, mz_c1900, mz_c2403, mz_c29362, mz_c29363, mz_c29364, mz_c29390, mz_c29393, mz_c29394, mz_c29398, mz_c29399, mz_c29400, mz_c29401, nI_add, pk_mul, pk_m1, mz_pp, mz_pq]; done) | omega | (simp only [mz_cm1, mz_c0, mz_c1, mz_c2, mz_c3, mz_c4, mz_c5, mz_c6, mz_c7, mz_c8, mz_c10, mz_c17, mz_c20, mz_c28, mz_c58, mz_c63, mz_c98, mz_c294, mz_c526, mz_c532, mz_c540, mz_c999, mz_c1900, mz_c2403, mz_c29362, mz_c29363, mz_c29364, mz_c29390, mz_c29393, mz_c29394, mz_c29398, mz_c29399, mz_c29400, mz_c29401, nI_add, pk_mul, pk_m1, mz_pp, mz_pq]; congr 1; omega)) ?_
  try simp only [mz_c0, mz_cm1]
  refine mz_Vcv hC tk_X5_sync rfl md_X5_keepRecord lk_RX5_49 rfl (cf_keep l E hM U hU) (by show (vwCl[mz_K _ _]?).map _ = _; rw [kω]; rfl) ⟨Nat.le_of_ble_eq_true rfl, Nat.le_of_ble_eq_true rfl⟩ ⟨by simp only [mz_rm]; omega, by simp only [mz_rm]; omega⟩ (Nat.le_of_ble_eq_true rfl) (fun v1 G1 sz1 hp1 => ?_)
  obtain ⟨rfl, O1, hM1, hF1⟩ := hp1
  obtain ⟨⟨⟨⟨⟨kω, oω, zω⟩, rω0, rω1, rω3, rω4⟩, iω2, sv4⟩, ⟨⟨kA, oA, zA⟩, nA⟩, hrA⟩, ⟨hd1, hd2⟩, hst, ⟨⟨vn1, vh1, vt1⟩, vc1⟩, ⟨vn2, vh2, vt2⟩, vc2⟩ := id hM1
  have hS0 := hst 0 (by omega)
  rw [mr_kr_0, mr_kF_0, mr_kL_0] at hS0
  rw [mr_kr_0] at rω0
  have hw0 := hd2 0 (by omega)
  rw [mr_kr_0] at hw0
  obtain ⟨⟨⟨⟨⟨kσ, oσ, zσ⟩, iσ4⟩, rσ0, rσ1, rσ2, rσ3⟩, ⟨⟨⟨kβ, oβ, zβ⟩, nβ⟩, hrβ⟩, ⟨⟨⟨kκ, oκ, zκ⟩, nκ⟩, hrκ⟩⟩, ⟨⟨tq, hq⟩, ⟨⟨k5, o5, z5⟩, n5⟩, hw5⟩, hbx, hmc⟩ := id hS0
  have rκ := hrκ m0 hm
  obtain ⟨⟨⟨⟨kk, ok, zk⟩, ik0, rk1, rk2⟩, ⟨kka, oka, nka, zka⟩, hra⟩, ⟨td, hnD⟩, hcp⟩ := id (hmc m0 hm)
  have ktd := td.K
  have std := td.s
  have n8 := td.b.1
  refine mz_sn_ok hC tk_X5_sync pk_RX5 8 [B 0, B 0, B 0 + 2, m0, B 0 + 21 + 13 * m0] rfl (by (repeat' apply And.intro) <;> first | exact True.intro | assumption | (simp only [mz_cm1, mz_c0, mz_c1, mz_c2, mz_c3, mz_c4, mz_c5, mz_c6, mz_c7, mz_c8, mz_c10, mz_c17, mz_c20, mz_c28, mz_c58, mz_c63, mz_c98, mz_c294, mz_c526, mz_c532, mz_c540, mz_c999, mz_c1900, mz_c2403, mz_c29362, mz_c29363, mz_c29364, mz_c29390, mz_c29393, mz_c29394, mz_c29398, mz_c29399, mz_c29400, mz_c29401, nI_add, pk_mul, pk_m1, mz_pp, mz_pq]; done) | omega | (simp only [mz_cm1, mz_c0, mz_c1, mz_c2, mz_c3, mz_c4, mz_c5, mz_c6, mz_c7, mz_c8, mz_c10, mz_c17, mz_c20, mz_c28, mz_c58, mz_c63, mz_c98, mz_c294, mz_c526, mz_c532, mz_c540, mz_c999, mz_c1900, mz_c2403, mz_c29362, mz_c29363, mz_c29364, mz_c29390, mz_c29393, mz_c29394, mz_c29398, mz_c29399, mz_c29400, mz_c29401, nI_add, pk_mul, pk_m1, mz_pp, mz_pq]; congr 1; omega)) ?_
  try simp only [mz_c0, mz_cm1]
  refine mz_Vcv hC tk_X5_sync rfl md_X3_syncBox lk_RX5_152 rfl (cs_syncBox l E hS0 m0 b hm hb hso hfin U2 hU2) (by show (vwCl[mz_K _ _]?).map _ = _; rw [kσ]; rfl) ⟨Nat.le_of_ble_eq_true rfl, Nat.le_of_ble_eq_true rfl⟩ ⟨by simp only [mz_rm]; omega, by simp only [mz_rm]; omega⟩ (Nat.le_of_ble_eq_true rfl) (fun v2 G2 sz2 hp2 => ?_)
  obtain ⟨rfl, O2, hS2, hF2⟩ := hp2
  refine mz_Vireturn hC tk_X5_sync rfl hret rfl (by omega) (by omega) ?_
  exact ⟨rfl, mr_Qi hM1 hF1 hS2 hF2⟩
theorem cf_playBack (hM : mr_M G O sz ω B sv F Λ v1 v2) (U U2 : Nat) (hU : U + mr_Pt (mr_kL sv F Λ) = mr_Pt Λ) (m0 n : Nat) (hm : m0 < 4) (hn : n = mx_nD (F 0) m0) (hP : ∀ k, k < n → mr_gI (mx_pb (F 0) m0 k).1 m0 k) (hU2 : U2 = mr_Ph (Λ 0) - mr_Ph (mr_pL (F 0) m0 (Λ 0) n)) : mz_M l E yX5_playBack cX5_playBack 2 (some .int) 10 (U + U2) (U + U2) [.ref ω, .int (nI m0)] G sz (fun v' G' sz' => v' = some (.int (nI (mx_pb (F 0) m0 n).2)) ∧ mr_Q G O sz ω B sv F Λ v1 v2 (mx_pB (F 0) m0) (mr_pL (F 0) m0 (Λ 0) n) G' sz') := by
  obtain ⟨⟨⟨⟨⟨kω, oω, zω⟩, rω0, rω1, rω3, rω4⟩, iω2, sv4⟩, ⟨⟨kA, oA, zA⟩, nA⟩, hrA⟩, ⟨hd1, hd2⟩, hst, ⟨⟨vn1, vh1, vt1⟩, vc1⟩, ⟨vn2, vh2, vt2⟩, vc2⟩ := id hM
  have hS0 := hst 0 (by omega)
  obtain ⟨⟨⟨⟨⟨kσ, oσ, zσ⟩, iσ4⟩, rσ0, rσ1, rσ2, rσ3⟩, ⟨⟨⟨kβ, oβ, zβ⟩, nβ⟩, hrβ⟩, ⟨⟨⟨kκ, oκ, zκ⟩, nκ⟩, hrκ⟩⟩, ⟨⟨tq, hq⟩, ⟨⟨k5, o5, z5⟩, n5⟩, hw5⟩, hbx, hmc⟩ := id hS0
  refine mz_start (by decide) (Nat.le_of_ble_eq_true rfl) ?_
  intro p e s m args below meth c hC hret hnm
  refine mz_sn_ok hC tk_X5_playBack pk_RX5 1 [] rfl (by (repeat' apply And.intro) <;> first | exact True.intro | assumption | (simp only [mz_cm1, mz_c0, mz_c1, mz_c2, mz_c3, mz_c4, mz_c5, mz_c6, mz_c7, mz_c8, mz_c10, mz_c17, mz_c20, mz_c28, mz_c58, mz_c63, mz_c98, mz_c294, mz_c526, mz_c532, mz_c540, mz_c999, mz_c1900, mz_c2403, mz_c29362, mz_c29363, mz_c29364, mz_c29390, mz_c29393, mz_c29394, mz_c29398, mz_c29399, mz_c29400, mz_c29401, nI_add, pk_mul, pk_m1, mz_pp, mz_pq]; done) | omega | (simp only [mz_cm1, mz_c0, mz_c1, mz_c2, mz_c3, mz_c4, mz_c5, mz_c6, mz_c7, mz_c8, mz_c10, mz_c17, mz_c20, mz_c28, mz_c58, mz_c63, mz_c98, mz_c294, mz_c526, mz_c532, mz_c540, mz_c999, mz_c1900, mz_c2403, mz_c29362, mz_c29363, mz_c29364, mz_c29390, mz_c29393, mz_c29394, mz_c29398, mz_c29399, mz_c29400, mz_c29401, nI_add, pk_mul, pk_m1, mz_pp, mz_pq]; congr 1; omega)) ?_
  try simp only [mz_c0, mz_cm1]
  refine mz_Vcs hC tk_X5_playBack rfl md_X5_needMachine lk_RX5_138 rfl (cf_needMachine l E m0 hm) ⟨Nat.le_of_ble_eq_true rfl, Nat.le_of_ble_eq_true rfl⟩ ⟨by simp only [mz_rm]; omega, by simp only [mz_rm]; omega⟩ (Nat.le_of_ble_eq_true rfl) (fun v9 G9 sz9 hp9 => ?_)
  obtain ⟨rfl, hG9, hs9⟩ := hp9
  rw [hG9, ← hs9]
  refine mz_sn_ok hC tk_X5_playBack pk_RX5 1 [] rfl (by (repeat' apply And.intro) <;> first | exact True.intro | assumption | (simp only [mz_cm1, mz_c0, mz_c1, mz_c2, mz_c3, mz_c4, mz_c5, mz_c6, mz_c7, mz_c8, mz_c10, mz_c17, mz_c20, mz_c28, mz_c58, mz_c63, mz_c98, mz_c294, mz_c526, mz_c532, mz_c540, mz_c999, mz_c1900, mz_c2403, mz_c29362, mz_c29363, mz_c29364, mz_c29390, mz_c29393, mz_c29394, mz_c29398, mz_c29399, mz_c29400, mz_c29401, nI_add, pk_mul, pk_m1, mz_pp, mz_pq]; done) | omega | (simp only [mz_cm1, mz_c0, mz_c1, mz_c2, mz_c3, mz_c4, mz_c5, mz_c6, mz_c7, mz_c8, mz_c10, mz_c17, mz_c20, mz_c28, mz_c58, mz_c63, mz_c98, mz_c294, mz_c526, mz_c532, mz_c540, mz_c999, mz_c1900, mz_c2403, mz_c29362, mz_c29363, mz_c29364, mz_c29390, mz_c29393, mz_c29394, mz_c29398, mz_c29399, mz_c29400, mz_c29401, nI_add, pk_mul, pk_m1, mz_pp, mz_pq]; congr 1; omega)) ?_
  try simp only [mz_c0, mz_cm1]
  refine mz_Vcv hC tk_X5_playBack rfl md_X5_keepRecord lk_RX5_49 rfl (cf_keep l E hM U hU) (by show (vwCl[mz_K _ _]?).map _ = _; rw [kω]; rfl) ⟨Nat.le_of_ble_eq_true rfl, Nat.le_of_ble_eq_true rfl⟩ ⟨by simp only [mz_rm]; omega, by simp only [mz_rm]; omega⟩ (Nat.le_of_ble_eq_true rfl) (fun v1 G1 sz1 hp1 => ?_)
  obtain ⟨rfl, O1, hM1, hF1⟩ := hp1
  obtain ⟨⟨⟨⟨⟨kω, oω, zω⟩, rω0, rω1, rω3, rω4⟩, iω2, sv4⟩, ⟨⟨kA, oA, zA⟩, nA⟩, hrA⟩, ⟨hd1, hd2⟩, hst, ⟨⟨vn1, vh1, vt1⟩, vc1⟩, ⟨vn2, vh2, vt2⟩, vc2⟩ := id hM1
  have hS0 := hst 0 (by omega)
  rw [mr_kr_0, mr_kF_0, mr_kL_0] at hS0
  rw [mr_kr_0] at rω0
  have hw0 := hd2 0 (by omega)
  rw [mr_kr_0] at hw0
  obtain ⟨⟨⟨⟨⟨kσ, oσ, zσ⟩, iσ4⟩, rσ0, rσ1, rσ2, rσ3⟩, ⟨⟨⟨kβ, oβ, zβ⟩, nβ⟩, hrβ⟩, ⟨⟨⟨kκ, oκ, zκ⟩, nκ⟩, hrκ⟩⟩, ⟨⟨tq, hq⟩, ⟨⟨k5, o5, z5⟩, n5⟩, hw5⟩, hbx, hmc⟩ := id hS0
  have rκ := hrκ m0 hm
  obtain ⟨⟨⟨⟨kk, ok, zk⟩, ik0, rk1, rk2⟩, ⟨kka, oka, nka, zka⟩, hra⟩, ⟨td, hnD⟩, hcp⟩ := id (hmc m0 hm)
  have ktd := td.K
  have std := td.s
  have n8 := td.b.1
  refine mz_sn_ok hC tk_X5_playBack pk_RX5 7 [B 0, B 0, B 0 + 2, m0, B 0 + 21 + 13 * m0] rfl (by (repeat' apply And.intro) <;> first | exact True.intro | assumption | (simp only [mz_cm1, mz_c0, mz_c1, mz_c2, mz_c3, mz_c4, mz_c5, mz_c6, mz_c7, mz_c8, mz_c10, mz_c17, mz_c20, mz_c28, mz_c58, mz_c63, mz_c98, mz_c294, mz_c526, mz_c532, mz_c540, mz_c999, mz_c1900, mz_c2403, mz_c29362, mz_c29363, mz_c29364, mz_c29390, mz_c29393, mz_c29394, mz_c29398, mz_c29399, mz_c29400, mz_c29401, nI_add, pk_mul, pk_m1, mz_pp, mz_pq]; done) | omega | (simp only [mz_cm1, mz_c0, mz_c1, mz_c2, mz_c3, mz_c4, mz_c5, mz_c6, mz_c7, mz_c8, mz_c10, mz_c17, mz_c20, mz_c28, mz_c58, mz_c63, mz_c98, mz_c294, mz_c526, mz_c532, mz_c540, mz_c999, mz_c1900, mz_c2403, mz_c29362, mz_c29363, mz_c29364, mz_c29390, mz_c29393, mz_c29394, mz_c29398, mz_c29399, mz_c29400, mz_c29401, nI_add, pk_mul, pk_m1, mz_pp, mz_pq]; congr 1; omega)) ?_
  try simp only [mz_c0, mz_cm1]
  refine mz_Vcv hC tk_X5_playBack rfl md_X3_playDeeds lk_RX5_212 rfl (cs_playDeeds l E hS0 m0 n hm hn hP U2 hU2) (by show (vwCl[mz_K _ _]?).map _ = _; rw [kσ]; rfl) ⟨Nat.le_of_ble_eq_true rfl, Nat.le_of_ble_eq_true rfl⟩ ⟨by simp only [mz_rm]; omega, by simp only [mz_rm]; omega⟩ (Nat.le_of_ble_eq_true rfl) (fun v2 G2 sz2 hp2 => ?_)
  obtain ⟨rfl, O2, hS2, hF2⟩ := hp2
  refine mz_Vireturn hC tk_X5_playBack rfl hret rfl (by omega) (by omega) ?_
  exact ⟨rfl, mr_Qi hM1 hF1 hS2 hF2⟩
theorem cf_syncCost (hM : mr_M G O sz ω B sv F Λ v1 v2) (m0 : Nat) (hm : m0 < 4) (b : Nat) (hb : b < 3) : mz_M l E yX5_syncCost cX5_syncCost 5 (some .int) 7 0 0 [.ref ω, .int (nI m0), .int (nI b)] G sz (fun v' G' sz' => v' = some (.int (nI (mx_mc (F 0) m0 b (mx_cB (F 0) b)) + nI (mx_nc (F 0) m0 b (mx_cB (F 0) b) (mx_gB (F 0) b)))) ∧ G' = G ∧ sz = sz') := by
  obtain ⟨⟨⟨⟨⟨kω, oω, zω⟩, rω0, rω1, rω3, rω4⟩, iω2, sv4⟩, ⟨⟨kA, oA, zA⟩, nA⟩, hrA⟩, ⟨hd1, hd2⟩, hst, ⟨⟨vn1, vh1, vt1⟩, vc1⟩, ⟨vn2, vh2, vt2⟩, vc2⟩ := id hM
  have hS0 := hst 0 (by omega)
  obtain ⟨⟨⟨⟨⟨kσ, oσ, zσ⟩, iσ4⟩, rσ0, rσ1, rσ2, rσ3⟩, ⟨⟨⟨kβ, oβ, zβ⟩, nβ⟩, hrβ⟩, ⟨⟨⟨kκ, oκ, zκ⟩, nκ⟩, hrκ⟩⟩, ⟨⟨tq, hq⟩, ⟨⟨k5, o5, z5⟩, n5⟩, hw5⟩, hbx, hmc⟩ := id hS0
  have rβ := hrβ b hb
  obtain ⟨⟨⟨⟨kb, ob, zb⟩, ib0, ib1, ib2, ib3⟩, rb4, rb5, hbne⟩, ⟨tb1, tb2⟩, hc1, hc2⟩ := id (hbx b hb)
  have ktb1 := tb1.K
  have ktb2 := tb2.K
  have stb1 := tb1.s
  have stb2 := tb2.s
  have c20 := tb1.b.1
  have g6 := tb2.b.1
  have rκ := hrκ m0 hm
  obtain ⟨⟨⟨⟨kk, ok, zk⟩, ik0, rk1, rk2⟩, ⟨kka, oka, nka, zka⟩, hra⟩, ⟨td, hnD⟩, hcp⟩ := id (hmc m0 hm)
  have ktd := td.K
  have std := td.s
  have n8 := td.b.1
  have ra := hra b hb
  obtain ⟨⟨⟨⟨⟨⟨kc, oc, zc⟩, ic0, ic1⟩, rc2⟩, tc⟩, hcc⟩, hch⟩ := id (hcp b hb)
  have ktc := tc.K
  have stc := tc.s
  have c532 := tc.b.1
  refine mz_start (by decide) (Nat.le_of_ble_eq_true rfl) ?_
  intro p e s m args below meth c hC hret hnm
  refine mz_sn_ok hC tk_X5_syncCost pk_RX5 1 [] rfl (by (repeat' apply And.intro) <;> first | exact True.intro | assumption | (simp only [mz_cm1, mz_c0, mz_c1, mz_c2, mz_c3, mz_c4, mz_c5, mz_c6, mz_c7, mz_c8, mz_c10, mz_c17, mz_c20, mz_c28, mz_c58, mz_c63, mz_c98, mz_c294, mz_c526, mz_c532, mz_c540, mz_c999, mz_c1900, mz_c2403, mz_c29362, mz_c29363, mz_c29364, mz_c29390, mz_c29393, mz_c29394, mz_c29398, mz_c29399, mz_c29400, mz_c29401, nI_add, pk_mul, pk_m1, mz_pp, mz_pq]; done) | omega | (simp only [mz_cm1, mz_c0, mz_c1, mz_c2, mz_c3, mz_c4, mz_c5, mz_c6, mz_c7, mz_c8, mz_c10, mz_c17, mz_c20, mz_c28, mz_c58, mz_c63, mz_c98, mz_c294, mz_c526, mz_c532, mz_c540, mz_c999, mz_c1900, mz_c2403, mz_c29362, mz_c29363, mz_c29364, mz_c29390, mz_c29393, mz_c29394, mz_c29398, mz_c29399, mz_c29400, mz_c29401, nI_add, pk_mul, pk_m1, mz_pp, mz_pq]; congr 1; omega)) ?_
  try simp only [mz_c0, mz_cm1]
  refine mz_Vcs hC tk_X5_syncCost rfl md_X5_needMachine lk_RX5_138 rfl (cf_needMachine l E m0 hm) ⟨Nat.le_of_ble_eq_true rfl, Nat.le_of_ble_eq_true rfl⟩ ⟨by simp only [mz_rm]; omega, by simp only [mz_rm]; omega⟩ (Nat.le_of_ble_eq_true rfl) (fun v9 G9 sz9 hp9 => ?_)
  obtain ⟨rfl, hG9, hs9⟩ := hp9
  rw [hG9, ← hs9]
  refine mz_sn_ok hC tk_X5_syncCost pk_RX5 1 [] rfl (by (repeat' apply And.intro) <;> first | exact True.intro | assumption | (simp only [mz_cm1, mz_c0, mz_c1, mz_c2, mz_c3, mz_c4, mz_c5, mz_c6, mz_c7, mz_c8, mz_c10, mz_c17, mz_c20, mz_c28, mz_c58, mz_c63, mz_c98, mz_c294, mz_c526, mz_c532, mz_c540, mz_c999, mz_c1900, mz_c2403, mz_c29362, mz_c29363, mz_c29364, mz_c29390, mz_c29393, mz_c29394, mz_c29398, mz_c29399, mz_c29400, mz_c29401, nI_add, pk_mul, pk_m1, mz_pp, mz_pq]; done) | omega | (simp only [mz_cm1, mz_c0, mz_c1, mz_c2, mz_c3, mz_c4, mz_c5, mz_c6, mz_c7, mz_c8, mz_c10, mz_c17, mz_c20, mz_c28, mz_c58, mz_c63, mz_c98, mz_c294, mz_c526, mz_c532, mz_c540, mz_c999, mz_c1900, mz_c2403, mz_c29362, mz_c29363, mz_c29364, mz_c29390, mz_c29393, mz_c29394, mz_c29398, mz_c29399, mz_c29400, mz_c29401, nI_add, pk_mul, pk_m1, mz_pp, mz_pq]; congr 1; omega)) ?_
  try simp only [mz_c0, mz_cm1]
  refine mz_Vcs hC tk_X5_syncCost rfl md_X5_needBox lk_RX5_36 rfl (cf_needBox l E b hb) ⟨Nat.le_of_ble_eq_true rfl, Nat.le_of_ble_eq_true rfl⟩ ⟨by simp only [mz_rm]; omega, by simp only [mz_rm]; omega⟩ (Nat.le_of_ble_eq_true rfl) (fun v9 G9 sz9 hp9 => ?_)
  obtain ⟨rfl, hG8, hs8⟩ := hp9
  rw [hG8, ← hs8]
  refine mz_sn_ok hC tk_X5_syncCost pk_RX5 17 [B 0, B 0 + 2, m0, B 0 + 21 + 13 * m0, B 0 + 21 + 13 * m0 + 1, b, B 0 + 21 + 13 * m0 + 4 + 3 * b, B 0, B 0 + 1, b, B 0 + 6 + 5 * b] rfl (by (repeat' apply And.intro) <;> first | exact True.intro | assumption | (simp only [mz_cm1, mz_c0, mz_c1, mz_c2, mz_c3, mz_c4, mz_c5, mz_c6, mz_c7, mz_c8, mz_c10, mz_c17, mz_c20, mz_c28, mz_c58, mz_c63, mz_c98, mz_c294, mz_c526, mz_c532, mz_c540, mz_c999, mz_c1900, mz_c2403, mz_c29362, mz_c29363, mz_c29364, mz_c29390, mz_c29393, mz_c29394, mz_c29398, mz_c29399, mz_c29400, mz_c29401, nI_add, pk_mul, pk_m1, mz_pp, mz_pq]; done) | omega | (simp only [mz_cm1, mz_c0, mz_c1, mz_c2, mz_c3, mz_c4, mz_c5, mz_c6, mz_c7, mz_c8, mz_c10, mz_c17, mz_c20, mz_c28, mz_c58, mz_c63, mz_c98, mz_c294, mz_c526, mz_c532, mz_c540, mz_c999, mz_c1900, mz_c2403, mz_c29362, mz_c29363, mz_c29364, mz_c29390, mz_c29393, mz_c29394, mz_c29398, mz_c29399, mz_c29400, mz_c29401, nI_add, pk_mul, pk_m1, mz_pp, mz_pq]; congr 1; omega)) ?_
  try simp only [mz_c0, mz_cm1]
  refine mz_Vcv hC tk_X5_syncCost rfl md_X1_messagesDue lk_RX5_160 rfl (cc_messagesDue l E (hcp b hb).1 (hbx b hb)) (by show (vwCl[mz_K _ _]?).map _ = _; rw [kc]; rfl) ⟨Nat.le_of_ble_eq_true rfl, Nat.le_of_ble_eq_true rfl⟩ ⟨Nat.le_of_ble_eq_true rfl, Nat.le_of_ble_eq_true rfl⟩ (Nat.le_of_ble_eq_true rfl) (fun v9 G9 sz9 hp9 => ?_)
  obtain ⟨rfl, hG10, hs10⟩ := hp9
  rw [hG10, ← hs10]
  refine mz_sn_ok hC tk_X5_syncCost pk_RX5 2 [] rfl (by (repeat' apply And.intro) <;> first | exact True.intro | assumption | (simp only [mz_cm1, mz_c0, mz_c1, mz_c2, mz_c3, mz_c4, mz_c5, mz_c6, mz_c7, mz_c8, mz_c10, mz_c17, mz_c20, mz_c28, mz_c58, mz_c63, mz_c98, mz_c294, mz_c526, mz_c532, mz_c540, mz_c999, mz_c1900, mz_c2403, mz_c29362, mz_c29363, mz_c29364, mz_c29390, mz_c29393, mz_c29394, mz_c29398, mz_c29399, mz_c29400, mz_c29401, nI_add, pk_mul, pk_m1, mz_pp, mz_pq]; done) | omega | (simp only [mz_cm1, mz_c0, mz_c1, mz_c2, mz_c3, mz_c4, mz_c5, mz_c6, mz_c7, mz_c8, mz_c10, mz_c17, mz_c20, mz_c28, mz_c58, mz_c63, mz_c98, mz_c294, mz_c526, mz_c532, mz_c540, mz_c999, mz_c1900, mz_c2403, mz_c29362, mz_c29363, mz_c29364, mz_c29390, mz_c29393, mz_c29394, mz_c29398, mz_c29399, mz_c29400, mz_c29401, nI_add, pk_mul, pk_m1, mz_pp, mz_pq]; congr 1; omega)) ?_
  try simp only [mz_c0, mz_cm1]
  refine mz_Vcv hC tk_X5_syncCost rfl md_X1_namesDue lk_RX5_166 rfl (cc_namesDue l E (hcp b hb).1 (hbx b hb)) (by show (vwCl[mz_K _ _]?).map _ = _; rw [kc]; rfl) ⟨Nat.le_of_ble_eq_true rfl, Nat.le_of_ble_eq_true rfl⟩ ⟨Nat.le_of_ble_eq_true rfl, Nat.le_of_ble_eq_true rfl⟩ (Nat.le_of_ble_eq_true rfl) (fun v9 G9 sz9 hp9 => ?_)
  obtain ⟨rfl, hG11, hs11⟩ := hp9
  rw [hG11, ← hs11]
  refine mz_sn_ok hC tk_X5_syncCost pk_RX5 1 [] rfl (by (repeat' apply And.intro) <;> first | exact True.intro | assumption | (simp only [mz_cm1, mz_c0, mz_c1, mz_c2, mz_c3, mz_c4, mz_c5, mz_c6, mz_c7, mz_c8, mz_c10, mz_c17, mz_c20, mz_c28, mz_c58, mz_c63, mz_c98, mz_c294, mz_c526, mz_c532, mz_c540, mz_c999, mz_c1900, mz_c2403, mz_c29362, mz_c29363, mz_c29364, mz_c29390, mz_c29393, mz_c29394, mz_c29398, mz_c29399, mz_c29400, mz_c29401, nI_add, pk_mul, pk_m1, mz_pp, mz_pq]; done) | omega | (simp only [mz_cm1, mz_c0, mz_c1, mz_c2, mz_c3, mz_c4, mz_c5, mz_c6, mz_c7, mz_c8, mz_c10, mz_c17, mz_c20, mz_c28, mz_c58, mz_c63, mz_c98, mz_c294, mz_c526, mz_c532, mz_c540, mz_c999, mz_c1900, mz_c2403, mz_c29362, mz_c29363, mz_c29364, mz_c29390, mz_c29393, mz_c29394, mz_c29398, mz_c29399, mz_c29400, mz_c29401, nI_add, pk_mul, pk_m1, mz_pp, mz_pq]; congr 1; omega)) ?_
  try simp only [mz_c0, mz_cm1]
  refine mz_Vireturn hC tk_X5_syncCost rfl hret rfl (Nat.le_of_ble_eq_true rfl) (Nat.le_of_ble_eq_true rfl) ?_
  exact ⟨rfl, rfl, rfl⟩
theorem cf_copied (hM : mr_M G O sz ω B sv F Λ v1 v2) (m0 : Nat) (hm : m0 < 4) (b : Nat) (hb : b < 3) (r w : Int32) (hw : 0 ≤ w ∧ w ≤ nI 3) : mz_M l E yX5_copied cX5_copied 5 (some .int) 7 0 0 [.ref ω, .int (nI m0), .int (nI b), .int r, .int w] G sz (fun v' G' sz' => v' = some (.int (mt_c (mx_cC (F 0) m0 b) 4 (mr_h (F 0) (mx_CA m0 b + 2) 4) r w)) ∧ G' = G ∧ sz = sz') := by
  obtain ⟨⟨⟨⟨⟨kω, oω, zω⟩, rω0, rω1, rω3, rω4⟩, iω2, sv4⟩, ⟨⟨kA, oA, zA⟩, nA⟩, hrA⟩, ⟨hd1, hd2⟩, hst, ⟨⟨vn1, vh1, vt1⟩, vc1⟩, ⟨vn2, vh2, vt2⟩, vc2⟩ := id hM
  have hS0 := hst 0 (by omega)
  obtain ⟨⟨⟨⟨⟨kσ, oσ, zσ⟩, iσ4⟩, rσ0, rσ1, rσ2, rσ3⟩, ⟨⟨⟨kβ, oβ, zβ⟩, nβ⟩, hrβ⟩, ⟨⟨⟨kκ, oκ, zκ⟩, nκ⟩, hrκ⟩⟩, ⟨⟨tq, hq⟩, ⟨⟨k5, o5, z5⟩, n5⟩, hw5⟩, hbx, hmc⟩ := id hS0
  have rκ := hrκ m0 hm
  obtain ⟨⟨⟨⟨kk, ok, zk⟩, ik0, rk1, rk2⟩, ⟨kka, oka, nka, zka⟩, hra⟩, ⟨td, hnD⟩, hcp⟩ := id (hmc m0 hm)
  have ktd := td.K
  have std := td.s
  have n8 := td.b.1
  have ra := hra b hb
  obtain ⟨⟨⟨⟨⟨⟨kc, oc, zc⟩, ic0, ic1⟩, rc2⟩, tc⟩, hcc⟩, hch⟩ := id (hcp b hb)
  have ktc := tc.K
  have stc := tc.s
  have c532 := tc.b.1
  refine mz_start (by decide) (Nat.le_of_ble_eq_true rfl) ?_
  intro p e s m args below meth c hC hret hnm
  refine mz_sn_ok hC tk_X5_copied pk_RX5 1 [] rfl (by (repeat' apply And.intro) <;> first | exact True.intro | assumption | (simp only [mz_cm1, mz_c0, mz_c1, mz_c2, mz_c3, mz_c4, mz_c5, mz_c6, mz_c7, mz_c8, mz_c10, mz_c17, mz_c20, mz_c28, mz_c58, mz_c63, mz_c98, mz_c294, mz_c526, mz_c532, mz_c540, mz_c999, mz_c1900, mz_c2403, mz_c29362, mz_c29363, mz_c29364, mz_c29390, mz_c29393, mz_c29394, mz_c29398, mz_c29399, mz_c29400, mz_c29401, nI_add, pk_mul, pk_m1, mz_pp, mz_pq]; done) | omega | (simp only [mz_cm1, mz_c0, mz_c1, mz_c2, mz_c3, mz_c4, mz_c5, mz_c6, mz_c7, mz_c8, mz_c10, mz_c17, mz_c20, mz_c28, mz_c58, mz_c63, mz_c98, mz_c294, mz_c526, mz_c532, mz_c540, mz_c999, mz_c1900, mz_c2403, mz_c29362, mz_c29363, mz_c29364, mz_c29390, mz_c29393, mz_c29394, mz_c29398, mz_c29399, mz_c29400, mz_c29401, nI_add, pk_mul, pk_m1, mz_pp, mz_pq]; congr 1; omega)) ?_
  try simp only [mz_c0, mz_cm1]
  refine mz_Vcs hC tk_X5_copied rfl md_X5_needMachine lk_RX5_138 rfl (cf_needMachine l E m0 hm) ⟨Nat.le_of_ble_eq_true rfl, Nat.le_of_ble_eq_true rfl⟩ ⟨by simp only [mz_rm]; omega, by simp only [mz_rm]; omega⟩ (Nat.le_of_ble_eq_true rfl) (fun v9 G9 sz9 hp9 => ?_)
  obtain ⟨rfl, hG9, hs9⟩ := hp9
  rw [hG9, ← hs9]
  refine mz_sn_ok hC tk_X5_copied pk_RX5 1 [] rfl (by (repeat' apply And.intro) <;> first | exact True.intro | assumption | (simp only [mz_cm1, mz_c0, mz_c1, mz_c2, mz_c3, mz_c4, mz_c5, mz_c6, mz_c7, mz_c8, mz_c10, mz_c17, mz_c20, mz_c28, mz_c58, mz_c63, mz_c98, mz_c294, mz_c526, mz_c532, mz_c540, mz_c999, mz_c1900, mz_c2403, mz_c29362, mz_c29363, mz_c29364, mz_c29390, mz_c29393, mz_c29394, mz_c29398, mz_c29399, mz_c29400, mz_c29401, nI_add, pk_mul, pk_m1, mz_pp, mz_pq]; done) | omega | (simp only [mz_cm1, mz_c0, mz_c1, mz_c2, mz_c3, mz_c4, mz_c5, mz_c6, mz_c7, mz_c8, mz_c10, mz_c17, mz_c20, mz_c28, mz_c58, mz_c63, mz_c98, mz_c294, mz_c526, mz_c532, mz_c540, mz_c999, mz_c1900, mz_c2403, mz_c29362, mz_c29363, mz_c29364, mz_c29390, mz_c29393, mz_c29394, mz_c29398, mz_c29399, mz_c29400, mz_c29401, nI_add, pk_mul, pk_m1, mz_pp, mz_pq]; congr 1; omega)) ?_
  try simp only [mz_c0, mz_cm1]
  refine mz_Vcs hC tk_X5_copied rfl md_X5_needBox lk_RX5_36 rfl (cf_needBox l E b hb) ⟨Nat.le_of_ble_eq_true rfl, Nat.le_of_ble_eq_true rfl⟩ ⟨by simp only [mz_rm]; omega, by simp only [mz_rm]; omega⟩ (Nat.le_of_ble_eq_true rfl) (fun v9 G9 sz9 hp9 => ?_)
  obtain ⟨rfl, hG8, hs8⟩ := hp9
  rw [hG8, ← hs8]
  refine mz_sn_ok hC tk_X5_copied pk_RX5 2 [] rfl (by (repeat' apply And.intro) <;> first | exact True.intro | assumption | (simp only [mz_cm1, mz_c0, mz_c1, mz_c2, mz_c3, mz_c4, mz_c5, mz_c6, mz_c7, mz_c8, mz_c10, mz_c17, mz_c20, mz_c28, mz_c58, mz_c63, mz_c98, mz_c294, mz_c526, mz_c532, mz_c540, mz_c999, mz_c1900, mz_c2403, mz_c29362, mz_c29363, mz_c29364, mz_c29390, mz_c29393, mz_c29394, mz_c29398, mz_c29399, mz_c29400, mz_c29401, nI_add, pk_mul, pk_m1, mz_pp, mz_pq]; done) | omega | (simp only [mz_cm1, mz_c0, mz_c1, mz_c2, mz_c3, mz_c4, mz_c5, mz_c6, mz_c7, mz_c8, mz_c10, mz_c17, mz_c20, mz_c28, mz_c58, mz_c63, mz_c98, mz_c294, mz_c526, mz_c532, mz_c540, mz_c999, mz_c1900, mz_c2403, mz_c29362, mz_c29363, mz_c29364, mz_c29390, mz_c29393, mz_c29394, mz_c29398, mz_c29399, mz_c29400, mz_c29401, nI_add, pk_mul, pk_m1, mz_pp, mz_pq]; congr 1; omega)) ?_
  try simp only [mz_c0, mz_cm1]
  refine mz_Vcs hC tk_X5_copied rfl md_X5_needWhat lk_RX5_122 rfl (cf_needWhat l E w 3 hw) ⟨Nat.le_of_ble_eq_true rfl, Nat.le_of_ble_eq_true rfl⟩ ⟨by simp only [mz_rm]; omega, by simp only [mz_rm]; omega⟩ (Nat.le_of_ble_eq_true rfl) (fun v9 G9 sz9 hp9 => ?_)
  obtain ⟨rfl, hG7, hs7⟩ := hp9
  rw [hG7, ← hs7]
  refine mz_sn_ok hC tk_X5_copied pk_RX5 11 [B 0, B 0 + 2, m0, B 0 + 21 + 13 * m0, B 0 + 21 + 13 * m0 + 1, b, B 0 + 21 + 13 * m0 + 4 + 3 * b, B 0 + 21 + 13 * m0 + 4 + 3 * b + 1] rfl (by (repeat' apply And.intro) <;> first | exact True.intro | assumption | (simp only [mz_cm1, mz_c0, mz_c1, mz_c2, mz_c3, mz_c4, mz_c5, mz_c6, mz_c7, mz_c8, mz_c10, mz_c17, mz_c20, mz_c28, mz_c58, mz_c63, mz_c98, mz_c294, mz_c526, mz_c532, mz_c540, mz_c999, mz_c1900, mz_c2403, mz_c29362, mz_c29363, mz_c29364, mz_c29390, mz_c29393, mz_c29394, mz_c29398, mz_c29399, mz_c29400, mz_c29401, nI_add, pk_mul, pk_m1, mz_pp, mz_pq]; done) | omega | (simp only [mz_cm1, mz_c0, mz_c1, mz_c2, mz_c3, mz_c4, mz_c5, mz_c6, mz_c7, mz_c8, mz_c10, mz_c17, mz_c20, mz_c28, mz_c58, mz_c63, mz_c98, mz_c294, mz_c526, mz_c532, mz_c540, mz_c999, mz_c1900, mz_c2403, mz_c29362, mz_c29363, mz_c29364, mz_c29390, mz_c29393, mz_c29394, mz_c29398, mz_c29399, mz_c29400, mz_c29401, nI_add, pk_mul, pk_m1, mz_pp, mz_pq]; congr 1; omega)) ?_
  try simp only [mz_c0, mz_cm1]
  refine mz_Vcv hC tk_X5_copied rfl md_X4_cell lk_RX5_78 rfl (ct_cell l E tc r w) (by show (vwCl[mz_K _ _]?).map _ = _; rw [ktc]; rfl) ⟨Nat.le_of_ble_eq_true rfl, Nat.le_of_ble_eq_true rfl⟩ ⟨Nat.le_of_ble_eq_true rfl, Nat.le_of_ble_eq_true rfl⟩ (Nat.le_of_ble_eq_true rfl) (fun v9 G9 sz9 hp9 => ?_)
  obtain ⟨rfl, hG10, hs10⟩ := hp9
  rw [hG10, ← hs10]
  refine mz_Vireturn hC tk_X5_copied rfl hret rfl (Nat.le_of_ble_eq_true rfl) (Nat.le_of_ble_eq_true rfl) ?_
  exact ⟨rfl, rfl, rfl⟩
theorem cf_deed (hM : mr_M G O sz ω B sv F Λ v1 v2) (m0 : Nat) (hm : m0 < 4) (r w : Int32) (hw : 0 ≤ w ∧ w ≤ nI 6) : mz_M l E yX5_deed cX5_deed 4 (some .int) 7 0 0 [.ref ω, .int (nI m0), .int r, .int w] G sz (fun v' G' sz' => v' = some (.int (mt_c (mx_nD (F 0) m0) 7 (mr_h (F 0) (294 + 58 * m0 + 1) 7) r w)) ∧ G' = G ∧ sz = sz') := by
  obtain ⟨⟨⟨⟨⟨kω, oω, zω⟩, rω0, rω1, rω3, rω4⟩, iω2, sv4⟩, ⟨⟨kA, oA, zA⟩, nA⟩, hrA⟩, ⟨hd1, hd2⟩, hst, ⟨⟨vn1, vh1, vt1⟩, vc1⟩, ⟨vn2, vh2, vt2⟩, vc2⟩ := id hM
  have hS0 := hst 0 (by omega)
  obtain ⟨⟨⟨⟨⟨kσ, oσ, zσ⟩, iσ4⟩, rσ0, rσ1, rσ2, rσ3⟩, ⟨⟨⟨kβ, oβ, zβ⟩, nβ⟩, hrβ⟩, ⟨⟨⟨kκ, oκ, zκ⟩, nκ⟩, hrκ⟩⟩, ⟨⟨tq, hq⟩, ⟨⟨k5, o5, z5⟩, n5⟩, hw5⟩, hbx, hmc⟩ := id hS0
  have rκ := hrκ m0 hm
  obtain ⟨⟨⟨⟨kk, ok, zk⟩, ik0, rk1, rk2⟩, ⟨kka, oka, nka, zka⟩, hra⟩, ⟨td, hnD⟩, hcp⟩ := id (hmc m0 hm)
  have ktd := td.K
  have std := td.s
  have n8 := td.b.1
  refine mz_start (by decide) (Nat.le_of_ble_eq_true rfl) ?_
  intro p e s m args below meth c hC hret hnm
  refine mz_sn_ok hC tk_X5_deed pk_RX5 1 [] rfl (by (repeat' apply And.intro) <;> first | exact True.intro | assumption | (simp only [mz_cm1, mz_c0, mz_c1, mz_c2, mz_c3, mz_c4, mz_c5, mz_c6, mz_c7, mz_c8, mz_c10, mz_c17, mz_c20, mz_c28, mz_c58, mz_c63, mz_c98, mz_c294, mz_c526, mz_c532, mz_c540, mz_c999, mz_c1900, mz_c2403, mz_c29362, mz_c29363, mz_c29364, mz_c29390, mz_c29393, mz_c29394, mz_c29398, mz_c29399, mz_c29400, mz_c29401, nI_add, pk_mul, pk_m1, mz_pp, mz_pq]; done) | omega | (simp only [mz_cm1, mz_c0, mz_c1, mz_c2, mz_c3, mz_c4, mz_c5, mz_c6, mz_c7, mz_c8, mz_c10, mz_c17, mz_c20, mz_c28, mz_c58, mz_c63, mz_c98, mz_c294, mz_c526, mz_c532, mz_c540, mz_c999, mz_c1900, mz_c2403, mz_c29362, mz_c29363, mz_c29364, mz_c29390, mz_c29393, mz_c29394, mz_c29398, mz_c29399, mz_c29400, mz_c29401, nI_add, pk_mul, pk_m1, mz_pp, mz_pq]; congr 1; omega)) ?_
  try simp only [mz_c0, mz_cm1]
  refine mz_Vcs hC tk_X5_deed rfl md_X5_needMachine lk_RX5_138 rfl (cf_needMachine l E m0 hm) ⟨Nat.le_of_ble_eq_true rfl, Nat.le_of_ble_eq_true rfl⟩ ⟨by simp only [mz_rm]; omega, by simp only [mz_rm]; omega⟩ (Nat.le_of_ble_eq_true rfl) (fun v9 G9 sz9 hp9 => ?_)
  obtain ⟨rfl, hG9, hs9⟩ := hp9
  rw [hG9, ← hs9]
  refine mz_sn_ok hC tk_X5_deed pk_RX5 2 [] rfl (by (repeat' apply And.intro) <;> first | exact True.intro | assumption | (simp only [mz_cm1, mz_c0, mz_c1, mz_c2, mz_c3, mz_c4, mz_c5, mz_c6, mz_c7, mz_c8, mz_c10, mz_c17, mz_c20, mz_c28, mz_c58, mz_c63, mz_c98, mz_c294, mz_c526, mz_c532, mz_c540, mz_c999, mz_c1900, mz_c2403, mz_c29362, mz_c29363, mz_c29364, mz_c29390, mz_c29393, mz_c29394, mz_c29398, mz_c29399, mz_c29400, mz_c29401, nI_add, pk_mul, pk_m1, mz_pp, mz_pq]; done) | omega | (simp only [mz_cm1, mz_c0, mz_c1, mz_c2, mz_c3, mz_c4, mz_c5, mz_c6, mz_c7, mz_c8, mz_c10, mz_c17, mz_c20, mz_c28, mz_c58, mz_c63, mz_c98, mz_c294, mz_c526, mz_c532, mz_c540, mz_c999, mz_c1900, mz_c2403, mz_c29362, mz_c29363, mz_c29364, mz_c29390, mz_c29393, mz_c29394, mz_c29398, mz_c29399, mz_c29400, mz_c29401, nI_add, pk_mul, pk_m1, mz_pp, mz_pq]; congr 1; omega)) ?_
  try simp only [mz_c0, mz_cm1]
  refine mz_Vcs hC tk_X5_deed rfl md_X5_needWhat lk_RX5_122 rfl (cf_needWhat l E w 6 hw) ⟨Nat.le_of_ble_eq_true rfl, Nat.le_of_ble_eq_true rfl⟩ ⟨by simp only [mz_rm]; omega, by simp only [mz_rm]; omega⟩ (Nat.le_of_ble_eq_true rfl) (fun v9 G9 sz9 hp9 => ?_)
  obtain ⟨rfl, hG7, hs7⟩ := hp9
  rw [hG7, ← hs7]
  refine mz_sn_ok hC tk_X5_deed pk_RX5 8 [B 0, B 0 + 2, m0, B 0 + 21 + 13 * m0, B 0 + 21 + 13 * m0 + 2] rfl (by (repeat' apply And.intro) <;> first | exact True.intro | assumption | (simp only [mz_cm1, mz_c0, mz_c1, mz_c2, mz_c3, mz_c4, mz_c5, mz_c6, mz_c7, mz_c8, mz_c10, mz_c17, mz_c20, mz_c28, mz_c58, mz_c63, mz_c98, mz_c294, mz_c526, mz_c532, mz_c540, mz_c999, mz_c1900, mz_c2403, mz_c29362, mz_c29363, mz_c29364, mz_c29390, mz_c29393, mz_c29394, mz_c29398, mz_c29399, mz_c29400, mz_c29401, nI_add, pk_mul, pk_m1, mz_pp, mz_pq]; done) | omega | (simp only [mz_cm1, mz_c0, mz_c1, mz_c2, mz_c3, mz_c4, mz_c5, mz_c6, mz_c7, mz_c8, mz_c10, mz_c17, mz_c20, mz_c28, mz_c58, mz_c63, mz_c98, mz_c294, mz_c526, mz_c532, mz_c540, mz_c999, mz_c1900, mz_c2403, mz_c29362, mz_c29363, mz_c29364, mz_c29390, mz_c29393, mz_c29394, mz_c29398, mz_c29399, mz_c29400, mz_c29401, nI_add, pk_mul, pk_m1, mz_pp, mz_pq]; congr 1; omega)) ?_
  try simp only [mz_c0, mz_cm1]
  refine mz_Vcv hC tk_X5_deed rfl md_X4_cell lk_RX5_78 rfl (ct_cell l E td r w) (by show (vwCl[mz_K _ _]?).map _ = _; rw [ktd]; rfl) ⟨Nat.le_of_ble_eq_true rfl, Nat.le_of_ble_eq_true rfl⟩ ⟨Nat.le_of_ble_eq_true rfl, Nat.le_of_ble_eq_true rfl⟩ (Nat.le_of_ble_eq_true rfl) (fun v9 G9 sz9 hp9 => ?_)
  obtain ⟨rfl, hG10, hs10⟩ := hp9
  rw [hG10, ← hs10]
  refine mz_Vireturn hC tk_X5_deed rfl hret rfl (Nat.le_of_ble_eq_true rfl) (Nat.le_of_ble_eq_true rfl) ?_
  exact ⟨rfl, rfl, rfl⟩
theorem cf_outcome (hM : mr_M G O sz ω B sv F Λ v1 v2) (dd : Int32) : mz_M l E yX5_outcome cX5_outcome 2 (some .int) 3 0 0 [.ref ω, .int dd] G sz (fun v' G' sz' => v' = some (.int (mt_c (mx_nQ (F 0)) 3 (mr_h (F 0) 29362 3) (mz_fi (fun k => mr_h (F 0) 29362 3 k 0) dd (mx_nQ (F 0))) (nI 1))) ∧ G' = G ∧ sz = sz') := by
  obtain ⟨⟨⟨⟨⟨kω, oω, zω⟩, rω0, rω1, rω3, rω4⟩, iω2, sv4⟩, ⟨⟨kA, oA, zA⟩, nA⟩, hrA⟩, ⟨hd1, hd2⟩, hst, ⟨⟨vn1, vh1, vt1⟩, vc1⟩, ⟨vn2, vh2, vt2⟩, vc2⟩ := id hM
  have hS0 := hst 0 (by omega)
  obtain ⟨⟨⟨⟨⟨kσ, oσ, zσ⟩, iσ4⟩, rσ0, rσ1, rσ2, rσ3⟩, ⟨⟨⟨kβ, oβ, zβ⟩, nβ⟩, hrβ⟩, ⟨⟨⟨kκ, oκ, zκ⟩, nκ⟩, hrκ⟩⟩, ⟨⟨tq, hq⟩, ⟨⟨k5, o5, z5⟩, n5⟩, hw5⟩, hbx, hmc⟩ := id hS0
  have ktq := tq.K
  refine mz_start (by decide) (Nat.le_of_ble_eq_true rfl) ?_
  intro p e s m args below meth c hC hret hnm
  refine mz_sn_ok hC tk_X5_outcome pk_RX5 8 [B 0, B 0 + 3, B 0, B 0 + 3] rfl (by (repeat' apply And.intro) <;> first | exact True.intro | assumption | (simp only [mz_cm1, mz_c0, mz_c1, mz_c2, mz_c3, mz_c4, mz_c5, mz_c6, mz_c7, mz_c8, mz_c10, mz_c17, mz_c20, mz_c28, mz_c58, mz_c63, mz_c98, mz_c294, mz_c526, mz_c532, mz_c540, mz_c999, mz_c1900, mz_c2403, mz_c29362, mz_c29363, mz_c29364, mz_c29390, mz_c29393, mz_c29394, mz_c29398, mz_c29399, mz_c29400, mz_c29401, nI_add, pk_mul, pk_m1, mz_pp, mz_pq]; done) | omega | (simp only [mz_cm1, mz_c0, mz_c1, mz_c2, mz_c3, mz_c4, mz_c5, mz_c6, mz_c7, mz_c8, mz_c10, mz_c17, mz_c20, mz_c28, mz_c58, mz_c63, mz_c98, mz_c294, mz_c526, mz_c532, mz_c540, mz_c999, mz_c1900, mz_c2403, mz_c29362, mz_c29363, mz_c29364, mz_c29390, mz_c29393, mz_c29394, mz_c29398, mz_c29399, mz_c29400, mz_c29401, nI_add, pk_mul, pk_m1, mz_pp, mz_pq]; congr 1; omega)) ?_
  try simp only [mz_c0, mz_cm1]
  refine mz_Vcv hC tk_X5_outcome rfl md_X4_rowWith lk_RX5_178 rfl (ct_rowWith l E tq 0 dd (by omega)) (by show (vwCl[mz_K _ _]?).map _ = _; rw [ktq]; rfl) ⟨Nat.le_of_ble_eq_true rfl, Nat.le_of_ble_eq_true rfl⟩ ⟨Nat.le_of_ble_eq_true rfl, Nat.le_of_ble_eq_true rfl⟩ (Nat.le_of_ble_eq_true rfl) (fun v9 G9 sz9 hp9 => ?_)
  obtain ⟨rfl, hG9, hs9⟩ := hp9
  rw [hG9, ← hs9]
  refine mz_sn_ok hC tk_X5_outcome pk_RX5 1 [] rfl (by (repeat' apply And.intro) <;> first | exact True.intro | assumption | (simp only [mz_cm1, mz_c0, mz_c1, mz_c2, mz_c3, mz_c4, mz_c5, mz_c6, mz_c7, mz_c8, mz_c10, mz_c17, mz_c20, mz_c28, mz_c58, mz_c63, mz_c98, mz_c294, mz_c526, mz_c532, mz_c540, mz_c999, mz_c1900, mz_c2403, mz_c29362, mz_c29363, mz_c29364, mz_c29390, mz_c29393, mz_c29394, mz_c29398, mz_c29399, mz_c29400, mz_c29401, nI_add, pk_mul, pk_m1, mz_pp, mz_pq]; done) | omega | (simp only [mz_cm1, mz_c0, mz_c1, mz_c2, mz_c3, mz_c4, mz_c5, mz_c6, mz_c7, mz_c8, mz_c10, mz_c17, mz_c20, mz_c28, mz_c58, mz_c63, mz_c98, mz_c294, mz_c526, mz_c532, mz_c540, mz_c999, mz_c1900, mz_c2403, mz_c29362, mz_c29363, mz_c29364, mz_c29390, mz_c29393, mz_c29394, mz_c29398, mz_c29399, mz_c29400, mz_c29401, nI_add, pk_mul, pk_m1, mz_pp, mz_pq]; congr 1; omega)) ?_
  try simp only [mz_c0, mz_cm1]
  refine mz_Vcv hC tk_X5_outcome rfl md_X4_cell lk_RX5_78 rfl (ct_cell l E tq (mz_fi (fun k => mr_h (F 0) 29362 3 k 0) dd (mx_nQ (F 0))) (nI 1)) (by show (vwCl[mz_K _ _]?).map _ = _; rw [ktq]; rfl) ⟨Nat.le_of_ble_eq_true rfl, Nat.le_of_ble_eq_true rfl⟩ ⟨Nat.le_of_ble_eq_true rfl, Nat.le_of_ble_eq_true rfl⟩ (Nat.le_of_ble_eq_true rfl) (fun v9 G9 sz9 hp9 => ?_)
  obtain ⟨rfl, hG10, hs10⟩ := hp9
  rw [hG10, ← hs10]
  refine mz_Vireturn hC tk_X5_outcome rfl hret rfl (Nat.le_of_ble_eq_true rfl) (Nat.le_of_ble_eq_true rfl) ?_
  exact ⟨rfl, rfl, rfl⟩
theorem cf_nameOf (hM : mr_M G O sz ω B sv F Λ v1 v2) (dd : Int32) : mz_M l E yX5_nameOf cX5_nameOf 2 (some .int) 3 0 0 [.ref ω, .int dd] G sz (fun v' G' sz' => v' = some (.int (mt_c (mx_nQ (F 0)) 3 (mr_h (F 0) 29362 3) (mz_fi (fun k => mr_h (F 0) 29362 3 k 0) dd (mx_nQ (F 0))) (nI 2))) ∧ G' = G ∧ sz = sz') := by
  obtain ⟨⟨⟨⟨⟨kω, oω, zω⟩, rω0, rω1, rω3, rω4⟩, iω2, sv4⟩, ⟨⟨kA, oA, zA⟩, nA⟩, hrA⟩, ⟨hd1, hd2⟩, hst, ⟨⟨vn1, vh1, vt1⟩, vc1⟩, ⟨vn2, vh2, vt2⟩, vc2⟩ := id hM
  have hS0 := hst 0 (by omega)
  obtain ⟨⟨⟨⟨⟨kσ, oσ, zσ⟩, iσ4⟩, rσ0, rσ1, rσ2, rσ3⟩, ⟨⟨⟨kβ, oβ, zβ⟩, nβ⟩, hrβ⟩, ⟨⟨⟨kκ, oκ, zκ⟩, nκ⟩, hrκ⟩⟩, ⟨⟨tq, hq⟩, ⟨⟨k5, o5, z5⟩, n5⟩, hw5⟩, hbx, hmc⟩ := id hS0
  have ktq := tq.K
  refine mz_start (by decide) (Nat.le_of_ble_eq_true rfl) ?_
  intro p e s m args below meth c hC hret hnm
  refine mz_sn_ok hC tk_X5_nameOf pk_RX5 8 [B 0, B 0 + 3, B 0, B 0 + 3] rfl (by (repeat' apply And.intro) <;> first | exact True.intro | assumption | (simp only [mz_cm1, mz_c0, mz_c1, mz_c2, mz_c3, mz_c4, mz_c5, mz_c6, mz_c7, mz_c8, mz_c10, mz_c17, mz_c20, mz_c28, mz_c58, mz_c63, mz_c98, mz_c294, mz_c526, mz_c532, mz_c540, mz_c999, mz_c1900, mz_c2403, mz_c29362, mz_c29363, mz_c29364, mz_c29390, mz_c29393, mz_c29394, mz_c29398, mz_c29399, mz_c29400, mz_c29401, nI_add, pk_mul, pk_m1, mz_pp, mz_pq]; done) | omega | (simp only [mz_cm1, mz_c0, mz_c1, mz_c2, mz_c3, mz_c4, mz_c5, mz_c6, mz_c7, mz_c8, mz_c10, mz_c17, mz_c20, mz_c28, mz_c58, mz_c63, mz_c98, mz_c294, mz_c526, mz_c532, mz_c540, mz_c999, mz_c1900, mz_c2403, mz_c29362, mz_c29363, mz_c29364, mz_c29390, mz_c29393, mz_c29394, mz_c29398, mz_c29399, mz_c29400, mz_c29401, nI_add, pk_mul, pk_m1, mz_pp, mz_pq]; congr 1; omega)) ?_
  try simp only [mz_c0, mz_cm1]
  refine mz_Vcv hC tk_X5_nameOf rfl md_X4_rowWith lk_RX5_178 rfl (ct_rowWith l E tq 0 dd (by omega)) (by show (vwCl[mz_K _ _]?).map _ = _; rw [ktq]; rfl) ⟨Nat.le_of_ble_eq_true rfl, Nat.le_of_ble_eq_true rfl⟩ ⟨Nat.le_of_ble_eq_true rfl, Nat.le_of_ble_eq_true rfl⟩ (Nat.le_of_ble_eq_true rfl) (fun v9 G9 sz9 hp9 => ?_)
  obtain ⟨rfl, hG9, hs9⟩ := hp9
  rw [hG9, ← hs9]
  refine mz_sn_ok hC tk_X5_nameOf pk_RX5 1 [] rfl (by (repeat' apply And.intro) <;> first | exact True.intro | assumption | (simp only [mz_cm1, mz_c0, mz_c1, mz_c2, mz_c3, mz_c4, mz_c5, mz_c6, mz_c7, mz_c8, mz_c10, mz_c17, mz_c20, mz_c28, mz_c58, mz_c63, mz_c98, mz_c294, mz_c526, mz_c532, mz_c540, mz_c999, mz_c1900, mz_c2403, mz_c29362, mz_c29363, mz_c29364, mz_c29390, mz_c29393, mz_c29394, mz_c29398, mz_c29399, mz_c29400, mz_c29401, nI_add, pk_mul, pk_m1, mz_pp, mz_pq]; done) | omega | (simp only [mz_cm1, mz_c0, mz_c1, mz_c2, mz_c3, mz_c4, mz_c5, mz_c6, mz_c7, mz_c8, mz_c10, mz_c17, mz_c20, mz_c28, mz_c58, mz_c63, mz_c98, mz_c294, mz_c526, mz_c532, mz_c540, mz_c999, mz_c1900, mz_c2403, mz_c29362, mz_c29363, mz_c29364, mz_c29390, mz_c29393, mz_c29394, mz_c29398, mz_c29399, mz_c29400, mz_c29401, nI_add, pk_mul, pk_m1, mz_pp, mz_pq]; congr 1; omega)) ?_
  try simp only [mz_c0, mz_cm1]
  refine mz_Vcv hC tk_X5_nameOf rfl md_X4_cell lk_RX5_78 rfl (ct_cell l E tq (mz_fi (fun k => mr_h (F 0) 29362 3 k 0) dd (mx_nQ (F 0))) (nI 2)) (by show (vwCl[mz_K _ _]?).map _ = _; rw [ktq]; rfl) ⟨Nat.le_of_ble_eq_true rfl, Nat.le_of_ble_eq_true rfl⟩ ⟨Nat.le_of_ble_eq_true rfl, Nat.le_of_ble_eq_true rfl⟩ (Nat.le_of_ble_eq_true rfl) (fun v9 G9 sz9 hp9 => ?_)
  obtain ⟨rfl, hG10, hs10⟩ := hp9
  rw [hG10, ← hs10]
  refine mz_Vireturn hC tk_X5_nameOf rfl hret rfl (Nat.le_of_ble_eq_true rfl) (Nat.le_of_ble_eq_true rfl) ?_
  exact ⟨rfl, rfl, rfl⟩
theorem cf_noted (hM : mr_M G O sz ω B sv F Λ v1 v2) (r : Int32) : mz_M l E yX5_noted cX5_noted 2 (some .int) 2 0 0 [.ref ω, .int r] G sz (fun v' G' sz' => v' = some (.int (mt_c (mx_nQ (F 0)) 3 (mr_h (F 0) 29362 3) r (nI 0))) ∧ G' = G ∧ sz = sz') := by
  obtain ⟨⟨⟨⟨⟨kω, oω, zω⟩, rω0, rω1, rω3, rω4⟩, iω2, sv4⟩, ⟨⟨kA, oA, zA⟩, nA⟩, hrA⟩, ⟨hd1, hd2⟩, hst, ⟨⟨vn1, vh1, vt1⟩, vc1⟩, ⟨vn2, vh2, vt2⟩, vc2⟩ := id hM
  have hS0 := hst 0 (by omega)
  obtain ⟨⟨⟨⟨⟨kσ, oσ, zσ⟩, iσ4⟩, rσ0, rσ1, rσ2, rσ3⟩, ⟨⟨⟨kβ, oβ, zβ⟩, nβ⟩, hrβ⟩, ⟨⟨⟨kκ, oκ, zκ⟩, nκ⟩, hrκ⟩⟩, ⟨⟨tq, hq⟩, ⟨⟨k5, o5, z5⟩, n5⟩, hw5⟩, hbx, hmc⟩ := id hS0
  have ktq := tq.K
  refine mz_start (by decide) (Nat.le_of_ble_eq_true rfl) ?_
  intro p e s m args below meth c hC hret hnm
  refine mz_sn_ok hC tk_X5_noted pk_RX5 5 [B 0, B 0 + 3] rfl (by (repeat' apply And.intro) <;> first | exact True.intro | assumption | (simp only [mz_cm1, mz_c0, mz_c1, mz_c2, mz_c3, mz_c4, mz_c5, mz_c6, mz_c7, mz_c8, mz_c10, mz_c17, mz_c20, mz_c28, mz_c58, mz_c63, mz_c98, mz_c294, mz_c526, mz_c532, mz_c540, mz_c999, mz_c1900, mz_c2403, mz_c29362, mz_c29363, mz_c29364, mz_c29390, mz_c29393, mz_c29394, mz_c29398, mz_c29399, mz_c29400, mz_c29401, nI_add, pk_mul, pk_m1, mz_pp, mz_pq]; done) | omega | (simp only [mz_cm1, mz_c0, mz_c1, mz_c2, mz_c3, mz_c4, mz_c5, mz_c6, mz_c7, mz_c8, mz_c10, mz_c17, mz_c20, mz_c28, mz_c58, mz_c63, mz_c98, mz_c294, mz_c526, mz_c532, mz_c540, mz_c999, mz_c1900, mz_c2403, mz_c29362, mz_c29363, mz_c29364, mz_c29390, mz_c29393, mz_c29394, mz_c29398, mz_c29399, mz_c29400, mz_c29401, nI_add, pk_mul, pk_m1, mz_pp, mz_pq]; congr 1; omega)) ?_
  try simp only [mz_c0, mz_cm1]
  refine mz_Vcv hC tk_X5_noted rfl md_X4_cell lk_RX5_78 rfl (ct_cell l E tq r (nI 0)) (by show (vwCl[mz_K _ _]?).map _ = _; rw [ktq]; rfl) ⟨Nat.le_of_ble_eq_true rfl, Nat.le_of_ble_eq_true rfl⟩ ⟨Nat.le_of_ble_eq_true rfl, Nat.le_of_ble_eq_true rfl⟩ (Nat.le_of_ble_eq_true rfl) (fun v9 G9 sz9 hp9 => ?_)
  obtain ⟨rfl, hG10, hs10⟩ := hp9
  rw [hG10, ← hs10]
  refine mz_Vireturn hC tk_X5_noted rfl hret rfl (Nat.le_of_ble_eq_true rfl) (Nat.le_of_ble_eq_true rfl) ?_
  exact ⟨rfl, rfl, rfl⟩
theorem cf_told (hM : mr_M G O sz ω B sv F Λ v1 v2) (w : Nat) (hw : w < 7) : mz_M l E yX5_told cX5_told 2 (some .int) 7 0 0 [.ref ω, .int (nI w)] G sz (fun v' G' sz' => v' = some (.int (F 0 (29393 + w))) ∧ G' = G ∧ sz = sz') := by
  obtain ⟨⟨⟨⟨⟨kω, oω, zω⟩, rω0, rω1, rω3, rω4⟩, iω2, sv4⟩, ⟨⟨kA, oA, zA⟩, nA⟩, hrA⟩, ⟨hd1, hd2⟩, hst, ⟨⟨vn1, vh1, vt1⟩, vc1⟩, ⟨vn2, vh2, vt2⟩, vc2⟩ := id hM
  have hS0 := hst 0 (by omega)
  obtain ⟨⟨⟨⟨⟨kσ, oσ, zσ⟩, iσ4⟩, rσ0, rσ1, rσ2, rσ3⟩, ⟨⟨⟨kβ, oβ, zβ⟩, nβ⟩, hrβ⟩, ⟨⟨⟨kκ, oκ, zκ⟩, nκ⟩, hrκ⟩⟩, ⟨⟨tq, hq⟩, ⟨⟨k5, o5, z5⟩, n5⟩, hw5⟩, hbx, hmc⟩ := id hS0
  have h5w := hw5 w hw
  refine mz_start (by decide) (Nat.le_of_ble_eq_true rfl) ?_
  intro p e s m args below meth c hC hret hnm
  refine mz_sn_ok hC tk_X5_told pk_RX5 2 [] rfl (by (repeat' apply And.intro) <;> first | exact True.intro | assumption | (simp only [mz_cm1, mz_c0, mz_c1, mz_c2, mz_c3, mz_c4, mz_c5, mz_c6, mz_c7, mz_c8, mz_c10, mz_c17, mz_c20, mz_c28, mz_c58, mz_c63, mz_c98, mz_c294, mz_c526, mz_c532, mz_c540, mz_c999, mz_c1900, mz_c2403, mz_c29362, mz_c29363, mz_c29364, mz_c29390, mz_c29393, mz_c29394, mz_c29398, mz_c29399, mz_c29400, mz_c29401, nI_add, pk_mul, pk_m1, mz_pp, mz_pq]; done) | omega | (simp only [mz_cm1, mz_c0, mz_c1, mz_c2, mz_c3, mz_c4, mz_c5, mz_c6, mz_c7, mz_c8, mz_c10, mz_c17, mz_c20, mz_c28, mz_c58, mz_c63, mz_c98, mz_c294, mz_c526, mz_c532, mz_c540, mz_c999, mz_c1900, mz_c2403, mz_c29362, mz_c29363, mz_c29364, mz_c29390, mz_c29393, mz_c29394, mz_c29398, mz_c29399, mz_c29400, mz_c29401, nI_add, pk_mul, pk_m1, mz_pp, mz_pq]; congr 1; omega)) ?_
  try simp only [mz_c0, mz_cm1]
  refine mz_Vcs hC tk_X5_told rfl md_X5_needWhat lk_RX5_122 rfl (cf_needWhat l E (nI w) 6 ⟨mz_nn w (by omega), nI_le (by omega) (by omega)⟩) ⟨Nat.le_of_ble_eq_true rfl, Nat.le_of_ble_eq_true rfl⟩ ⟨Nat.le_of_ble_eq_true rfl, Nat.le_of_ble_eq_true rfl⟩ (Nat.le_of_ble_eq_true rfl) (fun v9 G9 sz9 hp9 => ?_)
  obtain ⟨rfl, hG7, hs7⟩ := hp9
  rw [hG7, ← hs7]
  refine mz_sn_ok hC tk_X5_told pk_RX5 5 [B 0, B 0 + 5, w] rfl (by (repeat' apply And.intro) <;> first | exact True.intro | assumption | (simp only [mz_cm1, mz_c0, mz_c1, mz_c2, mz_c3, mz_c4, mz_c5, mz_c6, mz_c7, mz_c8, mz_c10, mz_c17, mz_c20, mz_c28, mz_c58, mz_c63, mz_c98, mz_c294, mz_c526, mz_c532, mz_c540, mz_c999, mz_c1900, mz_c2403, mz_c29362, mz_c29363, mz_c29364, mz_c29390, mz_c29393, mz_c29394, mz_c29398, mz_c29399, mz_c29400, mz_c29401, nI_add, pk_mul, pk_m1, mz_pp, mz_pq, h5w]; done) | omega | (simp only [mz_cm1, mz_c0, mz_c1, mz_c2, mz_c3, mz_c4, mz_c5, mz_c6, mz_c7, mz_c8, mz_c10, mz_c17, mz_c20, mz_c28, mz_c58, mz_c63, mz_c98, mz_c294, mz_c526, mz_c532, mz_c540, mz_c999, mz_c1900, mz_c2403, mz_c29362, mz_c29363, mz_c29364, mz_c29390, mz_c29393, mz_c29394, mz_c29398, mz_c29399, mz_c29400, mz_c29401, nI_add, pk_mul, pk_m1, mz_pp, mz_pq, h5w]; congr 1; omega)) ?_
  try simp only [mz_c0, mz_cm1, h5w]
  refine mz_Vireturn hC tk_X5_told rfl hret rfl (Nat.le_of_ble_eq_true rfl) (Nat.le_of_ble_eq_true rfl) ?_
  exact ⟨rfl, rfl, rfl⟩
end MRF

