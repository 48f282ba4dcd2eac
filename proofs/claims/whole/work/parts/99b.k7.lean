/-! ===== the class: flags are planned ===== -/
theorem mz_0ao (x y : Int32) : (0 &&& x) ||| y = y := by simp
theorem mx_bg_45 (f : Nat → Int32) (m n : Nat) (kind b name on off ct : Int32) (hn : n < 8) : mz_u1 (mz_u1 (mx_bg f m n kind b name 0 0 ct) (mx_DA m n + 4) on) (mx_DA m n + 5) off = mx_bg f m n kind b name on off ct := by
  funext i
  by_cases h5 : i = mx_DA m n + 5
  · rw [h5, mz_u1_s]
    unfold mx_bg mx_DA
    rw [mz_u1_o _ _ (by omega), mz_u1_o _ _ (by omega), mz_u1_s]
  · rw [mz_u1_o _ _ h5]
    by_cases h4 : i = mx_DA m n + 4
    · rw [h4, mz_u1_s]
      unfold mx_bg mx_DA
      rw [mz_u1_o _ _ (by omega), mz_u1_o _ _ (by omega), mz_u1_o _ _ (by omega), mz_u1_s]
    · rw [mz_u1_o _ _ h4]
      unfold mx_bg
      simp only [mz_u1, if_neg h4, if_neg h5]
theorem mx_bg_v4 (f : Nat → Int32) (m n : Nat) (kind b name on off ct : Int32) (hn : n < 8) : mx_bg f m n kind b name on off ct (mx_DA m n + 4) = on ∧ mx_bg f m n kind b name on off ct (mx_DA m n + 5) = off := by
  unfold mx_bg mx_DA
  constructor
  · rw [mz_u1_o _ _ (by omega), mz_u1_o _ _ (by omega), mz_u1_o _ _ (by omega), mz_u1_s]
  · rw [mz_u1_o _ _ (by omega), mz_u1_o _ _ (by omega), mz_u1_s]
section MRF
variable (l : Launch) (E : mz_E) {G : mz_G} {O : Nat → Nat} {sz ω : Nat} {B : Nat → Nat} {sv : Nat} {F : Nat → Nat → Int32} {Λ : Nat → Nat → Nat → Nat} {v1 v2 : Nat}
theorem cf_plan (hM : mr_M G O sz ω B sv F Λ v1 v2) (U : Nat) (hU : U + mr_Pt (mr_kL sv F Λ) = mr_Pt Λ) (m0 : Nat) (hm : m0 < 4) (b : Nat) (hb : b < 3) (name how fl : Int32) (hh : 0 ≤ how ∧ how ≤ nI 2) (hf : 0 ≤ fl ∧ fl ≤ nI 63) (hz : ¬ mz_fz (mx_nm (F 0) (mx_CA m0 b + 2)) name (mx_cC (F 0) m0 b) = none) (hd : mz_fp (mx_dp (F 0) m0 (nI 2) (nI b) name) (mx_nD (F 0) m0) = none) (h8 : mz_fp (mx_dp (F 0) m0 0 (nI b) name) (mx_nD (F 0) m0) = none → mx_nD (F 0) m0 < 8) : mz_M l E yX5_plan cX5_plan 8 (some .int) 8 U U [.ref ω, .int (nI m0), .int (nI b), .int name, .int how, .int fl] G sz (fun v' G' sz' => v' = some (.int (mx_pl (F 0) m0 b (mx_nD (F 0) m0) name (mx_on how fl) (mx_off how fl)).2) ∧ mr_Q G O sz ω B sv F Λ v1 v2 (mx_pl (F 0) m0 b (mx_nD (F 0) m0) name (mx_on how fl) (mx_off how fl)).1 (Λ 0) G' sz') := by
  obtain ⟨⟨⟨⟨⟨kω, oω, zω⟩, rω0, rω1, rω3, rω4⟩, iω2, sv4⟩, ⟨⟨kA, oA, zA⟩, nA⟩, hrA⟩, ⟨hd1, hd2⟩, hst, ⟨⟨vn1, vh1, vt1⟩, vc1⟩, ⟨vn2, vh2, vt2⟩, vc2⟩ := id hM
  have hS0 := hst 0 (by omega)
  obtain ⟨⟨⟨⟨⟨kσ, oσ, zσ⟩, iσ4⟩, rσ0, rσ1, rσ2, rσ3⟩, ⟨⟨⟨kβ, oβ, zβ⟩, nβ⟩, hrβ⟩, ⟨⟨⟨kκ, oκ, zκ⟩, nκ⟩, hrκ⟩⟩, ⟨⟨tq, hq⟩, ⟨⟨k5, o5, z5⟩, n5⟩, hw5⟩, hbx, hmc⟩ := id hS0
  have rκ := hrκ m0 hm
  obtain ⟨⟨⟨⟨kk, ok, zk⟩, ik0, rk1, rk2⟩, ⟨kka, oka, nka, zka⟩, hra⟩, ⟨td, hnD⟩, hcp⟩ := id (hmc m0 hm)
  have ktd := td.K
  have std := td.s
  have n8 := td.b.1
  refine mz_start (by decide) (Nat.le_of_ble_eq_true rfl) ?_
  intro p e s m args below meth c hC hret hnm
  have fin : ∀ (G1 : mz_G) (O1 : Nat → Nat) (sz1 : Nat) (G2 : mz_G) (O2 : Nat → Nat) (f2 : Nat → Int32) (k : Nat), mr_M G1 O1 sz1 ω (mr_kr sv B) (mr_ks sv) (mr_kF sv F) (mr_kL sv F Λ) v1 v2 → mt_F (mr_ZZ ω) G G1 O O1 sz sz1 → mr_S G2 O2 sz1 (B 0) f2 (Λ 0) → mt_F (mr_Z (B 0)) G1 G2 O1 O2 sz1 sz1 → k < mx_nD f2 m0 → (mz_u1 (mz_u1 f2 (mx_DA m0 k + 4) ((f2 (mx_DA m0 k + 4) &&& (mx_off how fl ^^^ -1)) ||| mx_on how fl)) (mx_DA m0 k + 5) ((f2 (mx_DA m0 k + 5) &&& (mx_on how fl ^^^ -1)) ||| mx_off how fl), f2 (mx_DA m0 k)) = mx_pl (F 0) m0 b (mx_nD (F 0) m0) name (mx_on how fl) (mx_off how fl) → mz_V E p l e (mz_rm 8 U U) s m args below meth c 8 (U) (U) (mz_Z E below args s U U (fun v' G' sz' => v' = some (.int (mx_pl (F 0) m0 b (mx_nD (F 0) m0) name (mx_on how fl) (mx_off how fl)).2) ∧ mr_Q G O sz ω B sv F Λ v1 v2 (mx_pl (F 0) m0 b (mx_nD (F 0) m0) name (mx_on how fl) (mx_off how fl)).1 (Λ 0) G' sz')) (G2) (sz1) (81) [some (.ref ω), some (.int (nI m0)), some (.int (nI b)), some (.int name), some (.int how), some (.int fl), some (.ref (B 0 + 21 + 13 * m0)), some (.int (nI k))] [] := by
    intro G1 O1 sz1 G2 O2 f2 k hM1 hF1 hS2 hF2 hk he
    rw [← he]
    have hK2 := hS2.2.2.2 m0 hm
    obtain ⟨⟨⟨⟨kk2, ok2, zk2⟩, -, -, rk22⟩, -⟩, ⟨td2, hnD2⟩, -⟩ := id hK2
    have n82 := td2.b.1
    refine mz_sn_ok hC tk_X5_plan pk_RX5 4 [] rfl (by (repeat' apply And.intro) <;> first | exact True.intro | assumption | (simp only [mz_cm1, mz_c0, mz_c1, mz_c2, mz_c3, mz_c4, mz_c5, mz_c6, mz_c7, mz_c8, mz_c10, mz_c17, mz_c20, mz_c28, mz_c58, mz_c63, mz_c98, mz_c294, mz_c526, mz_c532, mz_c540, mz_c999, mz_c1900, mz_c2403, mz_c29362, mz_c29363, mz_c29364, mz_c29390, mz_c29393, mz_c29394, mz_c29398, mz_c29399, mz_c29400, mz_c29401, nI_add, pk_mul, pk_m1, mz_pp, mz_pq]; done) | omega | (simp only [mz_cm1, mz_c0, mz_c1, mz_c2, mz_c3, mz_c4, mz_c5, mz_c6, mz_c7, mz_c8, mz_c10, mz_c17, mz_c20, mz_c28, mz_c58, mz_c63, mz_c98, mz_c294, mz_c526, mz_c532, mz_c540, mz_c999, mz_c1900, mz_c2403, mz_c29362, mz_c29363, mz_c29364, mz_c29390, mz_c29393, mz_c29394, mz_c29398, mz_c29399, mz_c29400, mz_c29401, nI_add, pk_mul, pk_m1, mz_pp, mz_pq]; congr 1; omega)) ?_
    try simp only [mz_c0, mz_cm1]
    refine mz_Vcs hC tk_X5_plan rfl md_X5_flagsAdded lk_RX5_86 rfl (cf_flagsAdded l E how fl) ⟨Nat.le_of_ble_eq_true rfl, Nat.le_of_ble_eq_true rfl⟩ ⟨by simp only [mz_rm]; omega, by simp only [mz_rm]; omega⟩ (Nat.le_of_ble_eq_true rfl) (fun v9 G9 sz9 hp9 => ?_)
    obtain ⟨rfl, hG7, hs7⟩ := hp9
    rw [hG7, ← hs7]
    refine mz_sn_ok hC tk_X5_plan pk_RX5 2 [] rfl (by (repeat' apply And.intro) <;> first | exact True.intro | assumption | (simp only [mz_cm1, mz_c0, mz_c1, mz_c2, mz_c3, mz_c4, mz_c5, mz_c6, mz_c7, mz_c8, mz_c10, mz_c17, mz_c20, mz_c28, mz_c58, mz_c63, mz_c98, mz_c294, mz_c526, mz_c532, mz_c540, mz_c999, mz_c1900, mz_c2403, mz_c29362, mz_c29363, mz_c29364, mz_c29390, mz_c29393, mz_c29394, mz_c29398, mz_c29399, mz_c29400, mz_c29401, nI_add, pk_mul, pk_m1, mz_pp, mz_pq]; done) | omega | (simp only [mz_cm1, mz_c0, mz_c1, mz_c2, mz_c3, mz_c4, mz_c5, mz_c6, mz_c7, mz_c8, mz_c10, mz_c17, mz_c20, mz_c28, mz_c58, mz_c63, mz_c98, mz_c294, mz_c526, mz_c532, mz_c540, mz_c999, mz_c1900, mz_c2403, mz_c29362, mz_c29363, mz_c29364, mz_c29390, mz_c29393, mz_c29394, mz_c29398, mz_c29399, mz_c29400, mz_c29401, nI_add, pk_mul, pk_m1, mz_pp, mz_pq]; congr 1; omega)) ?_
    try simp only [mz_c0, mz_cm1]
    refine mz_Vcs hC tk_X5_plan rfl md_X5_flagsTaken lk_RX5_89 rfl (cf_flagsTaken l E how fl hh) ⟨Nat.le_of_ble_eq_true rfl, Nat.le_of_ble_eq_true rfl⟩ ⟨by simp only [mz_rm]; omega, by simp only [mz_rm]; omega⟩ (Nat.le_of_ble_eq_true rfl) (fun v9 G9 sz9 hp9 => ?_)
    obtain ⟨rfl, hG6, hs6⟩ := hp9
    rw [hG6, ← hs6]
    refine mz_Vcv hC tk_X5_plan rfl md_X2_addToFlagDeed lk_RX5_198 rfl (cd_addTo l E hK2.d ⟨ok2, zk2⟩ k hk (mx_on how fl) (mx_off how fl)) (by show (vwCl[mz_K _ _]?).map _ = _; rw [kk2]; rfl) ⟨Nat.le_of_ble_eq_true rfl, Nat.le_of_ble_eq_true rfl⟩ ⟨by simp only [mz_rm]; omega, by simp only [mz_rm]; omega⟩ (Nat.le_of_ble_eq_true rfl) (fun v3 G3 sz3 hp3 => ?_)
    obtain ⟨rfl, hs3, t3, hF3⟩ := hp3
    rw [← hs3]
    have hS3 := hS2.dd hm hF3 t3 (by rw [mz_u1_o _ _ (by unfold mx_DA; omega), mz_u1_o _ _ (by unfold mx_DA; omega)]; exact hnD2) (fun i hi => by rw [mz_u1_o _ _ (by unfold mx_DA; omega), mz_u1_o _ _ (by unfold mx_DA; omega)])
    have hQ := mr_Qi hM1 hF1 hS3 (hF2.tr (hF3.mono (fun q z => by unfold mr_Z; omega)))
    obtain ⟨⟨⟨⟨kk3, -⟩, -, -, rk23⟩, -⟩, -⟩ := id (hS3.2.2.2 m0 hm)
    have kt3 := t3.K
    refine mz_sn_ok hC tk_X5_plan pk_RX5 4 [B 0 + 21 + 13 * m0 + 2] rfl (by (repeat' apply And.intro) <;> first | exact True.intro | assumption | (simp only [mz_cm1, mz_c0, mz_c1, mz_c2, mz_c3, mz_c4, mz_c5, mz_c6, mz_c7, mz_c8, mz_c10, mz_c17, mz_c20, mz_c28, mz_c58, mz_c63, mz_c98, mz_c294, mz_c526, mz_c532, mz_c540, mz_c999, mz_c1900, mz_c2403, mz_c29362, mz_c29363, mz_c29364, mz_c29390, mz_c29393, mz_c29394, mz_c29398, mz_c29399, mz_c29400, mz_c29401, nI_add, pk_mul, pk_m1, mz_pp, mz_pq]; done) | omega | (simp only [mz_cm1, mz_c0, mz_c1, mz_c2, mz_c3, mz_c4, mz_c5, mz_c6, mz_c7, mz_c8, mz_c10, mz_c17, mz_c20, mz_c28, mz_c58, mz_c63, mz_c98, mz_c294, mz_c526, mz_c532, mz_c540, mz_c999, mz_c1900, mz_c2403, mz_c29362, mz_c29363, mz_c29364, mz_c29390, mz_c29393, mz_c29394, mz_c29398, mz_c29399, mz_c29400, mz_c29401, nI_add, pk_mul, pk_m1, mz_pp, mz_pq]; congr 1; omega)) ?_
    try simp only [mz_c0, mz_cm1]
    refine mz_Vcv hC tk_X5_plan rfl md_X4_cell lk_RX5_78 rfl (ct_cell l E t3 (nI k) (nI 0)) (by show (vwCl[mz_K _ _]?).map _ = _; rw [kt3]; rfl) ⟨Nat.le_of_ble_eq_true rfl, Nat.le_of_ble_eq_true rfl⟩ ⟨by simp only [mz_rm]; omega, by simp only [mz_rm]; omega⟩ (Nat.le_of_ble_eq_true rfl) (fun v9 G9 sz9 hp9 => ?_)
    obtain ⟨rfl, hG10, hs10⟩ := hp9
    rw [hG10, ← hs10, mt_c_in hk (by omega) (by omega) (by omega), mr_DA, mz_u1_o _ _ (by omega), mz_u1_o _ _ (by omega)]
    refine mz_Vireturn hC tk_X5_plan rfl hret rfl (by omega) (by omega) ?_
    exact ⟨rfl, hQ⟩
  refine mz_sn_ok hC tk_X5_plan pk_RX5 1 [] rfl (by (repeat' apply And.intro) <;> first | exact True.intro | assumption | (simp only [mz_cm1, mz_c0, mz_c1, mz_c2, mz_c3, mz_c4, mz_c5, mz_c6, mz_c7, mz_c8, mz_c10, mz_c17, mz_c20, mz_c28, mz_c58, mz_c63, mz_c98, mz_c294, mz_c526, mz_c532, mz_c540, mz_c999, mz_c1900, mz_c2403, mz_c29362, mz_c29363, mz_c29364, mz_c29390, mz_c29393, mz_c29394, mz_c29398, mz_c29399, mz_c29400, mz_c29401, nI_add, pk_mul, pk_m1, mz_pp, mz_pq]; done) | omega | (simp only [mz_cm1, mz_c0, mz_c1, mz_c2, mz_c3, mz_c4, mz_c5, mz_c6, mz_c7, mz_c8, mz_c10, mz_c17, mz_c20, mz_c28, mz_c58, mz_c63, mz_c98, mz_c294, mz_c526, mz_c532, mz_c540, mz_c999, mz_c1900, mz_c2403, mz_c29362, mz_c29363, mz_c29364, mz_c29390, mz_c29393, mz_c29394, mz_c29398, mz_c29399, mz_c29400, mz_c29401, nI_add, pk_mul, pk_m1, mz_pp, mz_pq]; congr 1; omega)) ?_
  try simp only [mz_c0, mz_cm1]
  refine mz_Vcs hC tk_X5_plan rfl md_X5_needMachine lk_RX5_138 rfl (cf_needMachine l E m0 hm) ⟨Nat.le_of_ble_eq_true rfl, Nat.le_of_ble_eq_true rfl⟩ ⟨by simp only [mz_rm]; omega, by simp only [mz_rm]; omega⟩ (Nat.le_of_ble_eq_true rfl) (fun v9 G9 sz9 hp9 => ?_)
  obtain ⟨rfl, hG9, hs9⟩ := hp9
  rw [hG9, ← hs9]
  refine mz_sn_ok hC tk_X5_plan pk_RX5 1 [] rfl (by (repeat' apply And.intro) <;> first | exact True.intro | assumption | (simp only [mz_cm1, mz_c0, mz_c1, mz_c2, mz_c3, mz_c4, mz_c5, mz_c6, mz_c7, mz_c8, mz_c10, mz_c17, mz_c20, mz_c28, mz_c58, mz_c63, mz_c98, mz_c294, mz_c526, mz_c532, mz_c540, mz_c999, mz_c1900, mz_c2403, mz_c29362, mz_c29363, mz_c29364, mz_c29390, mz_c29393, mz_c29394, mz_c29398, mz_c29399, mz_c29400, mz_c29401, nI_add, pk_mul, pk_m1, mz_pp, mz_pq]; done) | omega | (simp only [mz_cm1, mz_c0, mz_c1, mz_c2, mz_c3, mz_c4, mz_c5, mz_c6, mz_c7, mz_c8, mz_c10, mz_c17, mz_c20, mz_c28, mz_c58, mz_c63, mz_c98, mz_c294, mz_c526, mz_c532, mz_c540, mz_c999, mz_c1900, mz_c2403, mz_c29362, mz_c29363, mz_c29364, mz_c29390, mz_c29393, mz_c29394, mz_c29398, mz_c29399, mz_c29400, mz_c29401, nI_add, pk_mul, pk_m1, mz_pp, mz_pq]; congr 1; omega)) ?_
  try simp only [mz_c0, mz_cm1]
  refine mz_Vcs hC tk_X5_plan rfl md_X5_needBox lk_RX5_36 rfl (cf_needBox l E b hb) ⟨Nat.le_of_ble_eq_true rfl, Nat.le_of_ble_eq_true rfl⟩ ⟨by simp only [mz_rm]; omega, by simp only [mz_rm]; omega⟩ (Nat.le_of_ble_eq_true rfl) (fun v9 G9 sz9 hp9 => ?_)
  obtain ⟨rfl, hG8, hs8⟩ := hp9
  rw [hG8, ← hs8]
  refine mz_sn_ok hC tk_X5_plan pk_RX5 1 [] rfl (by (repeat' apply And.intro) <;> first | exact True.intro | assumption | (simp only [mz_cm1, mz_c0, mz_c1, mz_c2, mz_c3, mz_c4, mz_c5, mz_c6, mz_c7, mz_c8, mz_c10, mz_c17, mz_c20, mz_c28, mz_c58, mz_c63, mz_c98, mz_c294, mz_c526, mz_c532, mz_c540, mz_c999, mz_c1900, mz_c2403, mz_c29362, mz_c29363, mz_c29364, mz_c29390, mz_c29393, mz_c29394, mz_c29398, mz_c29399, mz_c29400, mz_c29401, nI_add, pk_mul, pk_m1, mz_pp, mz_pq]; done) | omega | (simp only [mz_cm1, mz_c0, mz_c1, mz_c2, mz_c3, mz_c4, mz_c5, mz_c6, mz_c7, mz_c8, mz_c10, mz_c17, mz_c20, mz_c28, mz_c58, mz_c63, mz_c98, mz_c294, mz_c526, mz_c532, mz_c540, mz_c999, mz_c1900, mz_c2403, mz_c29362, mz_c29363, mz_c29364, mz_c29390, mz_c29393, mz_c29394, mz_c29398, mz_c29399, mz_c29400, mz_c29401, nI_add, pk_mul, pk_m1, mz_pp, mz_pq]; congr 1; omega)) ?_
  try simp only [mz_c0, mz_cm1]
  refine mz_Vcs hC tk_X5_plan rfl md_X5_needHow lk_RX5_65 rfl (cf_needHow l E how hh) ⟨Nat.le_of_ble_eq_true rfl, Nat.le_of_ble_eq_true rfl⟩ ⟨by simp only [mz_rm]; omega, by simp only [mz_rm]; omega⟩ (Nat.le_of_ble_eq_true rfl) (fun v9 G9 sz9 hp9 => ?_)
  obtain ⟨rfl, hG7, hs7⟩ := hp9
  rw [hG7, ← hs7]
  refine mz_sn_ok hC tk_X5_plan pk_RX5 1 [] rfl (by (repeat' apply And.intro) <;> first | exact True.intro | assumption | (simp only [mz_cm1, mz_c0, mz_c1, mz_c2, mz_c3, mz_c4, mz_c5, mz_c6, mz_c7, mz_c8, mz_c10, mz_c17, mz_c20, mz_c28, mz_c58, mz_c63, mz_c98, mz_c294, mz_c526, mz_c532, mz_c540, mz_c999, mz_c1900, mz_c2403, mz_c29362, mz_c29363, mz_c29364, mz_c29390, mz_c29393, mz_c29394, mz_c29398, mz_c29399, mz_c29400, mz_c29401, nI_add, pk_mul, pk_m1, mz_pp, mz_pq]; done) | omega | (simp only [mz_cm1, mz_c0, mz_c1, mz_c2, mz_c3, mz_c4, mz_c5, mz_c6, mz_c7, mz_c8, mz_c10, mz_c17, mz_c20, mz_c28, mz_c58, mz_c63, mz_c98, mz_c294, mz_c526, mz_c532, mz_c540, mz_c999, mz_c1900, mz_c2403, mz_c29362, mz_c29363, mz_c29364, mz_c29390, mz_c29393, mz_c29394, mz_c29398, mz_c29399, mz_c29400, mz_c29401, nI_add, pk_mul, pk_m1, mz_pp, mz_pq]; congr 1; omega)) ?_
  try simp only [mz_c0, mz_cm1]
  refine mz_Vcs hC tk_X5_plan rfl md_X5_needFlags lk_RX5_43 rfl (cf_needFlags l E fl hf) ⟨Nat.le_of_ble_eq_true rfl, Nat.le_of_ble_eq_true rfl⟩ ⟨by simp only [mz_rm]; omega, by simp only [mz_rm]; omega⟩ (Nat.le_of_ble_eq_true rfl) (fun v9 G9 sz9 hp9 => ?_)
  obtain ⟨rfl, hG6, hs6⟩ := hp9
  rw [hG6, ← hs6]
  refine mz_sn_ok hC tk_X5_plan pk_RX5 4 [] rfl (by (repeat' apply And.intro) <;> first | exact True.intro | assumption | (simp only [mz_cm1, mz_c0, mz_c1, mz_c2, mz_c3, mz_c4, mz_c5, mz_c6, mz_c7, mz_c8, mz_c10, mz_c17, mz_c20, mz_c28, mz_c58, mz_c63, mz_c98, mz_c294, mz_c526, mz_c532, mz_c540, mz_c999, mz_c1900, mz_c2403, mz_c29362, mz_c29363, mz_c29364, mz_c29390, mz_c29393, mz_c29394, mz_c29398, mz_c29399, mz_c29400, mz_c29401, nI_add, pk_mul, pk_m1, mz_pp, mz_pq]; done) | omega | (simp only [mz_cm1, mz_c0, mz_c1, mz_c2, mz_c3, mz_c4, mz_c5, mz_c6, mz_c7, mz_c8, mz_c10, mz_c17, mz_c20, mz_c28, mz_c58, mz_c63, mz_c98, mz_c294, mz_c526, mz_c532, mz_c540, mz_c999, mz_c1900, mz_c2403, mz_c29362, mz_c29363, mz_c29364, mz_c29390, mz_c29393, mz_c29394, mz_c29398, mz_c29399, mz_c29400, mz_c29401, nI_add, pk_mul, pk_m1, mz_pp, mz_pq]; congr 1; omega)) ?_
  try simp only [mz_c0, mz_cm1]
  refine mz_Vcv hC tk_X5_plan rfl md_X5_needMessageToPlanFor lk_RX5_185 rfl (cf_needPlan l E hM m0 hm b hb name hz hd) (by show (vwCl[mz_K _ _]?).map _ = _; rw [kω]; rfl) ⟨Nat.le_of_ble_eq_true rfl, Nat.le_of_ble_eq_true rfl⟩ ⟨by simp only [mz_rm]; omega, by simp only [mz_rm]; omega⟩ (Nat.le_of_ble_eq_true rfl) (fun v9 G9 sz9 hp9 => ?_)
  obtain ⟨rfl, hG5, hs5⟩ := hp9
  rw [hG5, ← hs5]
  refine mz_sn_ok hC tk_X5_plan pk_RX5 10 [B 0, B 0 + 2, m0, B 0 + 21 + 13 * m0] rfl (by (repeat' apply And.intro) <;> first | exact True.intro | assumption | (simp only [mz_cm1, mz_c0, mz_c1, mz_c2, mz_c3, mz_c4, mz_c5, mz_c6, mz_c7, mz_c8, mz_c10, mz_c17, mz_c20, mz_c28, mz_c58, mz_c63, mz_c98, mz_c294, mz_c526, mz_c532, mz_c540, mz_c999, mz_c1900, mz_c2403, mz_c29362, mz_c29363, mz_c29364, mz_c29390, mz_c29393, mz_c29394, mz_c29398, mz_c29399, mz_c29400, mz_c29401, nI_add, pk_mul, pk_m1, mz_pp, mz_pq]; done) | omega | (simp only [mz_cm1, mz_c0, mz_c1, mz_c2, mz_c3, mz_c4, mz_c5, mz_c6, mz_c7, mz_c8, mz_c10, mz_c17, mz_c20, mz_c28, mz_c58, mz_c63, mz_c98, mz_c294, mz_c526, mz_c532, mz_c540, mz_c999, mz_c1900, mz_c2403, mz_c29362, mz_c29363, mz_c29364, mz_c29390, mz_c29393, mz_c29394, mz_c29398, mz_c29399, mz_c29400, mz_c29401, nI_add, pk_mul, pk_m1, mz_pp, mz_pq]; congr 1; omega)) ?_
  try simp only [mz_c0, mz_cm1]
  refine mz_Vcv hC tk_X5_plan rfl md_X2_deedFor lk_RX5_188 rfl (cd_deedFor l E (hmc m0 hm).d 0 (nI b) name) (by show (vwCl[mz_K _ _]?).map _ = _; rw [kk]; rfl) ⟨Nat.le_of_ble_eq_true rfl, Nat.le_of_ble_eq_true rfl⟩ ⟨by simp only [mz_rm]; omega, by simp only [mz_rm]; omega⟩ (Nat.le_of_ble_eq_true rfl) (fun v9 G9 sz9 hp9 => ?_)
  obtain ⟨rfl, hG10, hs10⟩ := hp9
  rw [hG10, ← hs10]
  rcases mz_sor (mz_fp (mx_dp (F 0) m0 0 (nI b) name) (mx_nD (F 0) m0)) with q | ⟨k, q⟩
  · rw [q]
    have h8 := h8 q
    refine mz_sn_ok hC tk_X5_plan pk_RX5 3 [] rfl (by (repeat' apply And.intro) <;> first | exact True.intro | assumption | (simp only [mz_cm1, mz_c0, mz_c1, mz_c2, mz_c3, mz_c4, mz_c5, mz_c6, mz_c7, mz_c8, mz_c10, mz_c17, mz_c20, mz_c28, mz_c58, mz_c63, mz_c98, mz_c294, mz_c526, mz_c532, mz_c540, mz_c999, mz_c1900, mz_c2403, mz_c29362, mz_c29363, mz_c29364, mz_c29390, mz_c29393, mz_c29394, mz_c29398, mz_c29399, mz_c29400, mz_c29401, nI_add, pk_mul, pk_m1, mz_pp, mz_pq]; done) | omega | (simp only [mz_cm1, mz_c0, mz_c1, mz_c2, mz_c3, mz_c4, mz_c5, mz_c6, mz_c7, mz_c8, mz_c10, mz_c17, mz_c20, mz_c28, mz_c58, mz_c63, mz_c98, mz_c294, mz_c526, mz_c532, mz_c540, mz_c999, mz_c1900, mz_c2403, mz_c29362, mz_c29363, mz_c29364, mz_c29390, mz_c29393, mz_c29394, mz_c29398, mz_c29399, mz_c29400, mz_c29401, nI_add, pk_mul, pk_m1, mz_pp, mz_pq]; congr 1; omega)) ?_
    try simp only [mz_c0, mz_cm1]
    refine mz_br_f hC tk_X5_plan rfl ((by show ¬ ¬ (-1 : Int32) = mz_c (-1); rw [mz_cm1]; exact fun z => z rfl)) ?_
    refine mz_sn_ok hC tk_X5_plan pk_RX5 2 [] rfl (by (repeat' apply And.intro) <;> first | exact True.intro | assumption | (simp only [mz_cm1, mz_c0, mz_c1, mz_c2, mz_c3, mz_c4, mz_c5, mz_c6, mz_c7, mz_c8, mz_c10, mz_c17, mz_c20, mz_c28, mz_c58, mz_c63, mz_c98, mz_c294, mz_c526, mz_c532, mz_c540, mz_c999, mz_c1900, mz_c2403, mz_c29362, mz_c29363, mz_c29364, mz_c29390, mz_c29393, mz_c29394, mz_c29398, mz_c29399, mz_c29400, mz_c29401, nI_add, pk_mul, pk_m1, mz_pp, mz_pq]; done) | omega | (simp only [mz_cm1, mz_c0, mz_c1, mz_c2, mz_c3, mz_c4, mz_c5, mz_c6, mz_c7, mz_c8, mz_c10, mz_c17, mz_c20, mz_c28, mz_c58, mz_c63, mz_c98, mz_c294, mz_c526, mz_c532, mz_c540, mz_c999, mz_c1900, mz_c2403, mz_c29362, mz_c29363, mz_c29364, mz_c29390, mz_c29393, mz_c29394, mz_c29398, mz_c29399, mz_c29400, mz_c29401, nI_add, pk_mul, pk_m1, mz_pp, mz_pq]; congr 1; omega)) ?_
    try simp only [mz_c0, mz_cm1]
    refine mz_Vcv hC tk_X5_plan rfl md_X5_needRoomForDeed lk_RX5_191 rfl (cf_needRoomForDeed l E hM m0 hm h8) (by show (vwCl[mz_K _ _]?).map _ = _; rw [kω]; rfl) ⟨Nat.le_of_ble_eq_true rfl, Nat.le_of_ble_eq_true rfl⟩ ⟨by simp only [mz_rm]; omega, by simp only [mz_rm]; omega⟩ (Nat.le_of_ble_eq_true rfl) (fun v9 G9 sz9 hp9 => ?_)
    obtain ⟨rfl, hG11, hs11⟩ := hp9
    rw [hG11, ← hs11]
    refine mz_sn_ok hC tk_X5_plan pk_RX5 1 [] rfl (by (repeat' apply And.intro) <;> first | exact True.intro | assumption | (simp only [mz_cm1, mz_c0, mz_c1, mz_c2, mz_c3, mz_c4, mz_c5, mz_c6, mz_c7, mz_c8, mz_c10, mz_c17, mz_c20, mz_c28, mz_c58, mz_c63, mz_c98, mz_c294, mz_c526, mz_c532, mz_c540, mz_c999, mz_c1900, mz_c2403, mz_c29362, mz_c29363, mz_c29364, mz_c29390, mz_c29393, mz_c29394, mz_c29398, mz_c29399, mz_c29400, mz_c29401, nI_add, pk_mul, pk_m1, mz_pp, mz_pq]; done) | omega | (simp only [mz_cm1, mz_c0, mz_c1, mz_c2, mz_c3, mz_c4, mz_c5, mz_c6, mz_c7, mz_c8, mz_c10, mz_c17, mz_c20, mz_c28, mz_c58, mz_c63, mz_c98, mz_c294, mz_c526, mz_c532, mz_c540, mz_c999, mz_c1900, mz_c2403, mz_c29362, mz_c29363, mz_c29364, mz_c29390, mz_c29393, mz_c29394, mz_c29398, mz_c29399, mz_c29400, mz_c29401, nI_add, pk_mul, pk_m1, mz_pp, mz_pq]; congr 1; omega)) ?_
    try simp only [mz_c0, mz_cm1]
    refine mz_Vcv hC tk_X5_plan rfl md_X5_keepRecord lk_RX5_49 rfl (cf_keep l E hM U hU) (by show (vwCl[mz_K _ _]?).map _ = _; rw [kω]; rfl) ⟨Nat.le_of_ble_eq_true rfl, Nat.le_of_ble_eq_true rfl⟩ ⟨by simp only [mz_rm]; omega, by simp only [mz_rm]; omega⟩ (Nat.le_of_ble_eq_true rfl) (fun v1 G1 sz1 hp1 => ?_)
    obtain ⟨rfl, O1, hM1, hF1⟩ := hp1
    obtain ⟨⟨⟨⟨⟨kω, oω, zω⟩, rω0, rω1, rω3, rω4⟩, iω2, sv4⟩, ⟨⟨kA, oA, zA⟩, nA⟩, hrA⟩, ⟨hd1, hd2⟩, hst, ⟨⟨vn1, vh1, vt1⟩, vc1⟩, ⟨vn2, vh2, vt2⟩, vc2⟩ := id hM1
    have hS0 := hst 0 (by omega)
    rw [mr_kr_0, mr_kF_0, mr_kL_0] at hS0
    rw [mr_kr_0] at rω0
    have hw0 := hd2 0 (by omega)
    rw [mr_kr_0] at hw0
    obtain ⟨⟨⟨⟨⟨kσ, oσ, zσ⟩, iσ4⟩, rσ0, rσ1, rσ2, rσ3⟩, ⟨⟨⟨kβ, oβ, zβ⟩, nβ⟩, hrβ⟩, ⟨⟨⟨kκ, oκ, zκ⟩, nκ⟩, hrκ⟩⟩, ⟨⟨tq, hq⟩, ⟨⟨k5, o5, z5⟩, n5⟩, hw5⟩, hbx, hmc⟩ := id hS0
    have rκ := hrκ m0 hm
    obtain ⟨⟨⟨⟨kk, ok, zk⟩, ik0, rk1, rk2⟩, ⟨kka, oka, nka, zka⟩, hra⟩, ⟨td, hnD⟩, hcp⟩ := id (hmc m0 hm)
    have ktd := td.K
    have std := td.s
    have n8 := td.b.1
    refine mz_sn_ok hC tk_X5_plan pk_RX5 2 [] rfl (by (repeat' apply And.intro) <;> first | exact True.intro | assumption | (simp only [mz_cm1, mz_c0, mz_c1, mz_c2, mz_c3, mz_c4, mz_c5, mz_c6, mz_c7, mz_c8, mz_c10, mz_c17, mz_c20, mz_c28, mz_c58, mz_c63, mz_c98, mz_c294, mz_c526, mz_c532, mz_c540, mz_c999, mz_c1900, mz_c2403, mz_c29362, mz_c29363, mz_c29364, mz_c29390, mz_c29393, mz_c29394, mz_c29398, mz_c29399, mz_c29400, mz_c29401, nI_add, pk_mul, pk_m1, mz_pp, mz_pq]; done) | omega | (simp only [mz_cm1, mz_c0, mz_c1, mz_c2, mz_c3, mz_c4, mz_c5, mz_c6, mz_c7, mz_c8, mz_c10, mz_c17, mz_c20, mz_c28, mz_c58, mz_c63, mz_c98, mz_c294, mz_c526, mz_c532, mz_c540, mz_c999, mz_c1900, mz_c2403, mz_c29362, mz_c29363, mz_c29364, mz_c29390, mz_c29393, mz_c29394, mz_c29398, mz_c29399, mz_c29400, mz_c29401, nI_add, pk_mul, pk_m1, mz_pp, mz_pq]; congr 1; omega)) ?_
    try simp only [mz_c0, mz_cm1]
    refine mz_br_f hC tk_X5_plan rfl ((by show ¬ ¬ (-1 : Int32) = mz_c (-1); rw [mz_cm1]; exact fun z => z rfl)) ?_
    refine mz_sn_ok hC tk_X5_plan pk_RX5 6 [B 0] rfl (by (repeat' apply And.intro) <;> first | exact True.intro | assumption | (simp only [mz_cm1, mz_c0, mz_c1, mz_c2, mz_c3, mz_c4, mz_c5, mz_c6, mz_c7, mz_c8, mz_c10, mz_c17, mz_c20, mz_c28, mz_c58, mz_c63, mz_c98, mz_c294, mz_c526, mz_c532, mz_c540, mz_c999, mz_c1900, mz_c2403, mz_c29362, mz_c29363, mz_c29364, mz_c29390, mz_c29393, mz_c29394, mz_c29398, mz_c29399, mz_c29400, mz_c29401, nI_add, pk_mul, pk_m1, mz_pp, mz_pq]; done) | omega | (simp only [mz_cm1, mz_c0, mz_c1, mz_c2, mz_c3, mz_c4, mz_c5, mz_c6, mz_c7, mz_c8, mz_c10, mz_c17, mz_c20, mz_c28, mz_c58, mz_c63, mz_c98, mz_c294, mz_c526, mz_c532, mz_c540, mz_c999, mz_c1900, mz_c2403, mz_c29362, mz_c29363, mz_c29364, mz_c29390, mz_c29393, mz_c29394, mz_c29398, mz_c29399, mz_c29400, mz_c29401, nI_add, pk_mul, pk_m1, mz_pp, mz_pq]; congr 1; omega)) ?_
    try simp only [mz_c0, mz_cm1]
    refine mz_Vcv hC tk_X5_plan rfl md_X3_appendDeed lk_RX5_194 rfl (cs_appendDeed l E hS0 m0 hm 0 (nI b) name (mx_nD (F 0) m0) rfl h8) (by show (vwCl[mz_K _ _]?).map _ = _; rw [kσ]; rfl) ⟨Nat.le_of_ble_eq_true rfl, Nat.le_of_ble_eq_true rfl⟩ ⟨by simp only [mz_rm]; omega, by simp only [mz_rm]; omega⟩ (Nat.le_of_ble_eq_true rfl) (fun v2 G2 sz2 hp2 => ?_)
    obtain ⟨rfl, hs2, O2, hS2, hF2⟩ := hp2
    rw [← hs2]
    refine mz_sn_ok hC tk_X5_plan pk_RX5 1 [] rfl (by (repeat' apply And.intro) <;> first | exact True.intro | assumption | (simp only [mz_cm1, mz_c0, mz_c1, mz_c2, mz_c3, mz_c4, mz_c5, mz_c6, mz_c7, mz_c8, mz_c10, mz_c17, mz_c20, mz_c28, mz_c58, mz_c63, mz_c98, mz_c294, mz_c526, mz_c532, mz_c540, mz_c999, mz_c1900, mz_c2403, mz_c29362, mz_c29363, mz_c29364, mz_c29390, mz_c29393, mz_c29394, mz_c29398, mz_c29399, mz_c29400, mz_c29401, nI_add, pk_mul, pk_m1, mz_pp, mz_pq]; done) | omega | (simp only [mz_cm1, mz_c0, mz_c1, mz_c2, mz_c3, mz_c4, mz_c5, mz_c6, mz_c7, mz_c8, mz_c10, mz_c17, mz_c20, mz_c28, mz_c58, mz_c63, mz_c98, mz_c294, mz_c526, mz_c532, mz_c540, mz_c999, mz_c1900, mz_c2403, mz_c29362, mz_c29363, mz_c29364, mz_c29390, mz_c29393, mz_c29394, mz_c29398, mz_c29399, mz_c29400, mz_c29401, nI_add, pk_mul, pk_m1, mz_pp, mz_pq]; congr 1; omega)) ?_
    try simp only [mz_c0, mz_cm1]
    refine mz_V.sub (lv' := [some (.ref ω), some (.int (nI m0)), some (.int (nI b)), some (.int name), some (.int how), some (.int fl), some (.ref (B 0 + 21 + 13 * m0)), some (.int (nI (mx_nD (F 0) m0)))]) (by (repeat' apply And.intro) <;> first | with_reducible rfl | exact True.intro | (simp only [mz_cm1, mz_c0, mz_c1, mz_c2, mz_c3, mz_c4, mz_c5, mz_c6, mz_c7, mz_c8, mz_c10, mz_c17, mz_c20, mz_c28, mz_c58, mz_c63, mz_c98, mz_c294, mz_c526, mz_c532, mz_c540, mz_c999, mz_c1900, mz_c2403, mz_c29362, mz_c29363, mz_c29364, mz_c29390, mz_c29393, mz_c29394, mz_c29398, mz_c29399, mz_c29400, mz_c29401, nI_add, pk_mul, pk_m1, mz_pp, mz_pq]; done) | rfl) ?_
    refine mz_V.widen (k' := U) (n' := U) (by omega) (by omega) ?_
    refine fin G1 O1 sz1 G2 O2 _ (mx_nD (F 0) m0) hM1 hF1 hS2 hF2 (by rw [mx_bg_n _ h8]; omega) ?_
    obtain ⟨e4, e5⟩ := mx_bg_v4 (F 0) m0 (mx_nD (F 0) m0) 0 (nI b) name 0 0 (-1) h8
    have e0 := mx_bg_d (F 0) hm h8 0 (nI b) name 0 0 (-1)
    rw [mr_DA, Nat.add_zero] at e0
    rw [e4, e5, e0, mz_0ao, mz_0ao, mx_bg_45 _ _ _ _ _ _ _ _ _ h8]
    unfold mx_pl
    rw [q]
  · rw [q]
    obtain ⟨hk, -⟩ := mz_fp_some q
    have hk1 : ¬ nI k = mz_c (-1) := by rw [mz_cm1]; exact fun z => by have h0 := mz_nn k (by omega); rw [z] at h0; exact absurd h0 (by decide)
    refine mz_sn_ok hC tk_X5_plan pk_RX5 3 [] rfl (by (repeat' apply And.intro) <;> first | exact True.intro | assumption | (simp only [mz_cm1, mz_c0, mz_c1, mz_c2, mz_c3, mz_c4, mz_c5, mz_c6, mz_c7, mz_c8, mz_c10, mz_c17, mz_c20, mz_c28, mz_c58, mz_c63, mz_c98, mz_c294, mz_c526, mz_c532, mz_c540, mz_c999, mz_c1900, mz_c2403, mz_c29362, mz_c29363, mz_c29364, mz_c29390, mz_c29393, mz_c29394, mz_c29398, mz_c29399, mz_c29400, mz_c29401, nI_add, pk_mul, pk_m1, mz_pp, mz_pq]; done) | omega | (simp only [mz_cm1, mz_c0, mz_c1, mz_c2, mz_c3, mz_c4, mz_c5, mz_c6, mz_c7, mz_c8, mz_c10, mz_c17, mz_c20, mz_c28, mz_c58, mz_c63, mz_c98, mz_c294, mz_c526, mz_c532, mz_c540, mz_c999, mz_c1900, mz_c2403, mz_c29362, mz_c29363, mz_c29364, mz_c29390, mz_c29393, mz_c29394, mz_c29398, mz_c29399, mz_c29400, mz_c29401, nI_add, pk_mul, pk_m1, mz_pp, mz_pq]; congr 1; omega)) ?_
    try simp only [mz_c0, mz_cm1]
    refine mz_br_t hC tk_X5_plan rfl ((by show ¬ nI k = mz_c (-1); exact hk1)) ?_
    refine mz_sn_ok hC tk_X5_plan pk_RX5 1 [] rfl (by (repeat' apply And.intro) <;> first | exact True.intro | assumption | (simp only [mz_cm1, mz_c0, mz_c1, mz_c2, mz_c3, mz_c4, mz_c5, mz_c6, mz_c7, mz_c8, mz_c10, mz_c17, mz_c20, mz_c28, mz_c58, mz_c63, mz_c98, mz_c294, mz_c526, mz_c532, mz_c540, mz_c999, mz_c1900, mz_c2403, mz_c29362, mz_c29363, mz_c29364, mz_c29390, mz_c29393, mz_c29394, mz_c29398, mz_c29399, mz_c29400, mz_c29401, nI_add, pk_mul, pk_m1, mz_pp, mz_pq]; done) | omega | (simp only [mz_cm1, mz_c0, mz_c1, mz_c2, mz_c3, mz_c4, mz_c5, mz_c6, mz_c7, mz_c8, mz_c10, mz_c17, mz_c20, mz_c28, mz_c58, mz_c63, mz_c98, mz_c294, mz_c526, mz_c532, mz_c540, mz_c999, mz_c1900, mz_c2403, mz_c29362, mz_c29363, mz_c29364, mz_c29390, mz_c29393, mz_c29394, mz_c29398, mz_c29399, mz_c29400, mz_c29401, nI_add, pk_mul, pk_m1, mz_pp, mz_pq]; congr 1; omega)) ?_
    try simp only [mz_c0, mz_cm1]
    refine mz_Vcv hC tk_X5_plan rfl md_X5_keepRecord lk_RX5_49 rfl (cf_keep l E hM U hU) (by show (vwCl[mz_K _ _]?).map _ = _; rw [kω]; rfl) ⟨Nat.le_of_ble_eq_true rfl, Nat.le_of_ble_eq_true rfl⟩ ⟨by simp only [mz_rm]; omega, by simp only [mz_rm]; omega⟩ (Nat.le_of_ble_eq_true rfl) (fun v1 G1 sz1 hp1 => ?_)
    obtain ⟨rfl, O1, hM1, hF1⟩ := hp1
    obtain ⟨⟨⟨⟨⟨kω, oω, zω⟩, rω0, rω1, rω3, rω4⟩, iω2, sv4⟩, ⟨⟨kA, oA, zA⟩, nA⟩, hrA⟩, ⟨hd1, hd2⟩, hst, ⟨⟨vn1, vh1, vt1⟩, vc1⟩, ⟨vn2, vh2, vt2⟩, vc2⟩ := id hM1
    have hS0 := hst 0 (by omega)
    rw [mr_kr_0, mr_kF_0, mr_kL_0] at hS0
    rw [mr_kr_0] at rω0
    have hw0 := hd2 0 (by omega)
    rw [mr_kr_0] at hw0
    obtain ⟨⟨⟨⟨⟨kσ, oσ, zσ⟩, iσ4⟩, rσ0, rσ1, rσ2, rσ3⟩, ⟨⟨⟨kβ, oβ, zβ⟩, nβ⟩, hrβ⟩, ⟨⟨⟨kκ, oκ, zκ⟩, nκ⟩, hrκ⟩⟩, ⟨⟨tq, hq⟩, ⟨⟨k5, o5, z5⟩, n5⟩, hw5⟩, hbx, hmc⟩ := id hS0
    refine mz_sn_ok hC tk_X5_plan pk_RX5 2 [] rfl (by (repeat' apply And.intro) <;> first | exact True.intro | assumption | (simp only [mz_cm1, mz_c0, mz_c1, mz_c2, mz_c3, mz_c4, mz_c5, mz_c6, mz_c7, mz_c8, mz_c10, mz_c17, mz_c20, mz_c28, mz_c58, mz_c63, mz_c98, mz_c294, mz_c526, mz_c532, mz_c540, mz_c999, mz_c1900, mz_c2403, mz_c29362, mz_c29363, mz_c29364, mz_c29390, mz_c29393, mz_c29394, mz_c29398, mz_c29399, mz_c29400, mz_c29401, nI_add, pk_mul, pk_m1, mz_pp, mz_pq]; done) | omega | (simp only [mz_cm1, mz_c0, mz_c1, mz_c2, mz_c3, mz_c4, mz_c5, mz_c6, mz_c7, mz_c8, mz_c10, mz_c17, mz_c20, mz_c28, mz_c58, mz_c63, mz_c98, mz_c294, mz_c526, mz_c532, mz_c540, mz_c999, mz_c1900, mz_c2403, mz_c29362, mz_c29363, mz_c29364, mz_c29390, mz_c29393, mz_c29394, mz_c29398, mz_c29399, mz_c29400, mz_c29401, nI_add, pk_mul, pk_m1, mz_pp, mz_pq]; congr 1; omega)) ?_
    try simp only [mz_c0, mz_cm1]
    refine mz_br_t hC tk_X5_plan rfl ((by show ¬ nI k = mz_c (-1); exact hk1)) ?_
    refine mz_V.sub (lv' := [some (.ref ω), some (.int (nI m0)), some (.int (nI b)), some (.int name), some (.int how), some (.int fl), some (.ref (B 0 + 21 + 13 * m0)), some (.int (nI k))]) (by (repeat' apply And.intro) <;> first | with_reducible rfl | exact True.intro | (simp only [mz_cm1, mz_c0, mz_c1, mz_c2, mz_c3, mz_c4, mz_c5, mz_c6, mz_c7, mz_c8, mz_c10, mz_c17, mz_c20, mz_c28, mz_c58, mz_c63, mz_c98, mz_c294, mz_c526, mz_c532, mz_c540, mz_c999, mz_c1900, mz_c2403, mz_c29362, mz_c29363, mz_c29364, mz_c29390, mz_c29393, mz_c29394, mz_c29398, mz_c29399, mz_c29400, mz_c29401, nI_add, pk_mul, pk_m1, mz_pp, mz_pq]; done) | rfl) ?_
    refine mz_V.widen (k' := U) (n' := U) (by omega) (by omega) ?_
    refine fin G1 O1 sz1 G1 O1 (F 0) k hM1 hF1 hS0 mt_F.rf hk ?_
    unfold mx_pl
    rw [q]
end MRF

