/-! ===== the class: a machine, a State takes another's ===== -/
def mr_p3 (Λ : Nat → Nat) : Nat := mr_ph (Λ 0) + mr_ph (Λ 1) + mr_ph (Λ 2)
theorem mr_p3_u (Λ : Nat → Nat) {b : Nat} (hb : b < 3) (v : Nat) : mr_p3 (mz_u1 Λ b v) + mr_ph (Λ b) = mr_p3 Λ + mr_ph v := by
  rcases (show b = 0 ∨ b = 1 ∨ b = 2 by omega) with rfl | rfl | rfl <;> (simp only [mr_p3, mz_u1]; simp only [if_true, show (0 : Nat) ≠ 1 by decide, show (0 : Nat) ≠ 2 by decide, show (1 : Nat) ≠ 0 by decide, show (1 : Nat) ≠ 2 by decide, show (2 : Nat) ≠ 0 by decide, show (2 : Nat) ≠ 1 by decide, if_false]; omega)
/-- the rooms of a machine that took another's first b copies -/
def mr_tk (f' : Nat → Int32) (m : Nat) (Λ Λ' : Nat → Nat) (b : Nat) : Nat → Nat := fun c => if c < b then mt_tl 4 (mx_cC f' m c) (Λ c) (Λ' c) else Λ c
theorem mr_tk_s (f' : Nat → Int32) (m : Nat) (Λ Λ' : Nat → Nat) (b : Nat) : mr_tk f' m Λ Λ' (b + 1) = mz_u1 (mr_tk f' m Λ Λ' b) b (mt_tl 4 (mx_cC f' m b) (Λ b) (Λ' b)) := by
  funext c
  simp only [mr_tk, mz_u1]
  by_cases h : c = b
  · rw [if_pos (by omega), if_pos h, h]
  · rw [if_neg h]
    by_cases h2 : c < b
    · rw [if_pos (by omega), if_pos h2]
    · rw [if_neg (by omega), if_neg h2]
section MRK
variable (l : Launch) (E : mz_E) {G : mz_G} {O : Nat → Nat} {sz κ κ' : Nat} {f f' : Nat → Int32} {m0 : Nat} {Λ Λ' : Nat → Nat}
theorem ck_takeFrom (hM : mr_K G O sz κ f m0 Λ) (hM' : mr_K G O sz κ' f' m0 Λ') (hm : m0 < 4) (hd : κ + 13 ≤ κ' ∨ κ' + 13 ≤ κ) (hle : ∀ b, b < 3 → mr_ph (mt_tl 4 (mx_cC f' m0 b) (Λ b) (Λ' b)) ≤ mr_ph (Λ b)) (U : Nat) (hU : U = mr_p3 Λ - mr_p3 (mr_tk f' m0 Λ Λ' 3)) : mz_M l E yX2_takeFrom cX2_takeFrom 3 none 5 U U [.ref κ, .ref κ'] G sz (fun v' G' sz' => v' = none ∧ ∃ O', mr_K G' O' sz' κ f' m0 (mr_tk f' m0 Λ Λ' 3) ∧ mt_F (fun q => κ ≤ q ∧ q < κ + 13) G G' O O' sz sz') := by
  have hCA : mx_CA m0 0 = 526 + 2403 * (3 * m0) ∧ mx_CA m0 1 = mx_CA m0 0 + 2403 ∧ mx_CA m0 2 = mx_CA m0 0 + 4806 := by unfold mx_CA; omega
  have hCb : ∀ b, b < 3 → mx_CA m0 b = mx_CA m0 0 + 2403 * b := fun b hb => by unfold mx_CA; omega
  have hph : ∀ b, b < 3 → mr_p3 (mr_tk f' m0 Λ Λ' (b + 1)) + mr_ph (Λ b) = mr_p3 (mr_tk f' m0 Λ Λ' b) + mr_ph (mt_tl 4 (mx_cC f' m0 b) (Λ b) (Λ' b)) := by
    intro b hb
    have := mr_p3_u (mr_tk f' m0 Λ Λ' b) hb (mt_tl 4 (mx_cC f' m0 b) (Λ b) (Λ' b))
    rw [← mr_tk_s] at this
    rw [show mr_tk f' m0 Λ Λ' b b = Λ b from if_neg (by omega)] at this
    exact this
  have h0 : mr_tk f' m0 Λ Λ' 0 = Λ := by funext c; exact if_neg (by omega)
  have p0 : mr_p3 (mr_tk f' m0 Λ Λ' 1) + mr_ph (Λ 0) = mr_p3 Λ + mr_ph (mt_tl 4 (mx_cC f' m0 0) (Λ 0) (Λ' 0)) := by
    have := hph 0 (by omega)
    rw [h0] at this
    exact this
  have p1 : mr_p3 (mr_tk f' m0 Λ Λ' 2) + mr_ph (Λ 1) = mr_p3 (mr_tk f' m0 Λ Λ' 1) + mr_ph (mt_tl 4 (mx_cC f' m0 1) (Λ 1) (Λ' 1)) := hph 1 (by omega)
  have p2 : mr_p3 (mr_tk f' m0 Λ Λ' 3) + mr_ph (Λ 2) = mr_p3 (mr_tk f' m0 Λ Λ' 2) + mr_ph (mt_tl 4 (mx_cC f' m0 2) (Λ 2) (Λ' 2)) := hph 2 (by omega)
  have l0 := hle 0 (by omega)
  have l1 := hle 1 (by omega)
  have l2 := hle 2 (by omega)
  obtain ⟨F, hF0⟩ : ∃ F : Nat → Nat → Int32, F = fun b i => if i = 294 + 58 * m0 ∨ (mx_CA m0 0 ≤ i ∧ i < mx_CA m0 0 + 2403 * b) then f' i else f i := ⟨_, rfl⟩
  have pol' : mz_i G κ' 0 = f' (294 + 58 * m0) := hM'.1.1.2.1
  have hKm := hM.1.1.1.1
  have hKm' := hM'.1.1.1.1
  refine mz_start (by decide) (Nat.le_of_ble_eq_true rfl) ?_
  intro p e s m args below meth c hC hret hnm
  have loop : ∀ (d b : Nat) (G1 : mz_G) (O1 : Nat → Nat) (sz1 kn : Nat), b + d = 3 → mr_K G1 O1 sz1 κ (F b) m0 (mr_tk f' m0 Λ Λ' b) → mt_F (fun q => κ ≤ q ∧ q < κ + 13) G G1 O O1 sz sz1 → kn ≤ mr_p3 Λ - mr_p3 (mr_tk f' m0 Λ Λ' b) → mz_V E p l e (mz_rm 5 U U) s m args below meth c 3 (kn) (kn) (mz_Z E below args s U U (fun v' G' sz' => v' = none ∧ ∃ O', mr_K G' O' sz' κ f' m0 (mr_tk f' m0 Λ Λ' 3) ∧ mt_F (fun q => κ ≤ q ∧ q < κ + 13) G G' O O' sz sz')) (G1) (sz1) (10) [some (.ref κ), some (.ref κ'), some (.int (nI b))] [] := by
    intro d
    induction d with
    | zero =>
      intro b G1 O1 sz1 kn hb hK1 hF1 hkn
      rw [show b = 3 by omega] at hK1 hkn ⊢
      have hK1' := hM'.fr hF1 (fun q h1 h2 z => by omega)
      obtain ⟨⟨hKk, rk2⟩, td⟩ := hK1.d
      obtain ⟨⟨hKk', rk2'⟩, td'⟩ := hK1'.d
      have kd := td.K
      have n8 := td'.b.1
      have u2 : mt_tc 7 (mx_nD f' m0) 56 = 0 ∧ mt_ts 7 (mx_nD f' m0) 56 56 = 0 ∧ mt_tl 7 (mx_nD f' m0) 56 56 = 56 := by unfold mt_tc mt_ts mt_tl; rw [if_pos (by omega), if_pos (by omega), if_pos (by omega)]; exact ⟨rfl, rfl, rfl⟩
      obtain ⟨q1, q2, q3⟩ := u2
      refine mz_sn_ok hC tk_X2_takeFrom pk_RX2 2 [] rfl (by (repeat' apply And.intro) <;> first | exact True.intro | assumption | (simp only [mz_cm1, mz_c0, mz_c1, mz_c2, mz_c3, mz_c4, mz_c5, mz_c6, mz_c7, mz_c8, mz_c10, mz_c17, mz_c20, mz_c28, mz_c58, mz_c63, mz_c98, mz_c294, mz_c526, mz_c532, mz_c540, mz_c999, mz_c1900, mz_c2403, mz_c29362, mz_c29363, mz_c29364, mz_c29390, mz_c29393, mz_c29394, mz_c29398, mz_c29399, mz_c29400, mz_c29401, nI_add, pk_mul, pk_m1, mz_pp, mz_pq]; done) | omega | (simp only [mz_cm1, mz_c0, mz_c1, mz_c2, mz_c3, mz_c4, mz_c5, mz_c6, mz_c7, mz_c8, mz_c10, mz_c17, mz_c20, mz_c28, mz_c58, mz_c63, mz_c98, mz_c294, mz_c526, mz_c532, mz_c540, mz_c999, mz_c1900, mz_c2403, mz_c29362, mz_c29363, mz_c29364, mz_c29390, mz_c29393, mz_c29394, mz_c29398, mz_c29399, mz_c29400, mz_c29401, nI_add, pk_mul, pk_m1, mz_pp, mz_pq]; congr 1; omega)) ?_
      try simp only [mz_c0, mz_cm1]
      refine mz_br_t hC tk_X2_takeFrom rfl ((by show nI 3 ≤ nI 3; decide)) ?_
      refine mz_sn_ok hC tk_X2_takeFrom pk_RX2 4 [κ + 2, κ' + 2] rfl (by (repeat' apply And.intro) <;> first | exact True.intro | assumption | (simp only [mz_cm1, mz_c0, mz_c1, mz_c2, mz_c3, mz_c4, mz_c5, mz_c6, mz_c7, mz_c8, mz_c10, mz_c17, mz_c20, mz_c28, mz_c58, mz_c63, mz_c98, mz_c294, mz_c526, mz_c532, mz_c540, mz_c999, mz_c1900, mz_c2403, mz_c29362, mz_c29363, mz_c29364, mz_c29390, mz_c29393, mz_c29394, mz_c29398, mz_c29399, mz_c29400, mz_c29401, nI_add, pk_mul, pk_m1, mz_pp, mz_pq]; done) | omega | (simp only [mz_cm1, mz_c0, mz_c1, mz_c2, mz_c3, mz_c4, mz_c5, mz_c6, mz_c7, mz_c8, mz_c10, mz_c17, mz_c20, mz_c28, mz_c58, mz_c63, mz_c98, mz_c294, mz_c526, mz_c532, mz_c540, mz_c999, mz_c1900, mz_c2403, mz_c29362, mz_c29363, mz_c29364, mz_c29390, mz_c29393, mz_c29394, mz_c29398, mz_c29399, mz_c29400, mz_c29401, nI_add, pk_mul, pk_m1, mz_pp, mz_pq]; congr 1; omega)) ?_
      try simp only [mz_c0, mz_cm1]
      refine mz_Vcv hC tk_X2_takeFrom rfl md_X4_takeFrom lk_RX2_72 rfl (ct_takeFrom l E td td' (by omega)) (by show (vwCl[mz_K _ _]?).map _ = _; rw [kd]; rfl) ⟨Nat.le_of_ble_eq_true rfl, Nat.le_of_ble_eq_true rfl⟩ ⟨by simp only [mz_rm]; omega, by simp only [mz_rm]; omega⟩ (Nat.le_of_ble_eq_true rfl) (fun v2 G2 sz2 hp2 => ?_)
      obtain ⟨rfl, hs2, O2, t2, hF2⟩ := hp2
      have hsz : sz2 = sz1 := by omega
      rw [hsz] at t2 hF2 ⊢
      rw [q3] at t2
      refine mz_Vreturn hC tk_X2_takeFrom rfl hret (by omega) (by omega) ?_
      refine ⟨rfl, O2, ?_, hF1.tr (hF2.mono (fun q hq => by omega))⟩
      have hK2 := hK1.dd (f' := fun i => if 294 + 58 * m0 + 1 ≤ i ∧ i < 294 + 58 * m0 + 58 then f' i else F 3 i) hm hF2 (n' := mx_nD f' m0) (t2.same (fun k' j' h1 h2 => ?_)) ?_ (fun i hi => if_neg hi)
      · refine hK2.cong hm (fun i h1 h2 => ?_) (fun b i hb h1 h2 => ?_)
        · try dsimp only
          by_cases h3 : 294 + 58 * m0 + 1 ≤ i ∧ i < 294 + 58 * m0 + 58
          · rw [if_pos h3]
          · rw [if_neg h3, hF0]
            try dsimp only
            rw [if_pos (by omega)]
        · have := hCb b hb
          try dsimp only
          rw [if_neg (by omega), hF0]
          try dsimp only
          rw [if_pos (by omega)]
      · show f' _ = if _ then _ else _
        rw [if_pos (by omega)]
      · try dsimp only
        rw [if_pos (by omega)]
        exact hM'.2.1.2
    | succ d ih =>
      intro b G1 O1 sz1 kn hb hK1 hF1 hkn
      have hb3 : b < 3 := by omega
      have hK1' := hM'.fr hF1 (fun q h1 h2 z => by omega)
      obtain ⟨⟨⟨hKk, -, rk1, -⟩, ⟨hKa, -, hna, -⟩, hra⟩, -, hc1⟩ := id hK1
      obtain ⟨⟨⟨hKk', -, rk1', -⟩, ⟨hKa', -, hna', -⟩, hra'⟩, -, hc1'⟩ := hK1'
      have hrb := hra b hb3
      have hrb' := hra' b hb3
      have hKk0 := hKk.1
      have hKk0' := hKk'.1
      obtain ⟨hY, hch⟩ := hc1 b hb3
      obtain ⟨hY', hch'⟩ := hc1' b hb3
      have hKc := hY.1.1.1.1.1
      have eL : mr_tk f' m0 Λ Λ' b b = Λ b := if_neg (by omega)
      rw [eL] at hY hch
      have hpb := hph b hb3
      have hlb := hle b hb3
      have hmo : mr_p3 (mr_tk f' m0 Λ Λ' 3) ≤ mr_p3 (mr_tk f' m0 Λ Λ' (b + 1)) ∧ mr_p3 (mr_tk f' m0 Λ Λ' b) ≤ mr_p3 Λ := by
        rcases (show b = 0 ∨ b = 1 ∨ b = 2 by omega) with rfl | rfl | rfl
        · rw [h0]
          exact ⟨by show _ ≤ mr_p3 (mr_tk f' m0 Λ Λ' 1); omega, Nat.le_refl _⟩
        · exact ⟨by show _ ≤ mr_p3 (mr_tk f' m0 Λ Λ' 2); omega, by omega⟩
        · exact ⟨Nat.le_refl _, by omega⟩
      refine mz_sn_ok hC tk_X2_takeFrom pk_RX2 2 [] rfl (by (repeat' apply And.intro) <;> first | exact True.intro | assumption | (simp only [mz_cm1, mz_c0, mz_c1, mz_c2, mz_c3, mz_c4, mz_c5, mz_c6, mz_c7, mz_c8, mz_c10, mz_c17, mz_c20, mz_c28, mz_c58, mz_c63, mz_c98, mz_c294, mz_c526, mz_c532, mz_c540, mz_c999, mz_c1900, mz_c2403, mz_c29362, mz_c29363, mz_c29364, mz_c29390, mz_c29393, mz_c29394, mz_c29398, mz_c29399, mz_c29400, mz_c29401, nI_add, pk_mul, pk_m1, mz_pp, mz_pq]; done) | omega | (simp only [mz_cm1, mz_c0, mz_c1, mz_c2, mz_c3, mz_c4, mz_c5, mz_c6, mz_c7, mz_c8, mz_c10, mz_c17, mz_c20, mz_c28, mz_c58, mz_c63, mz_c98, mz_c294, mz_c526, mz_c532, mz_c540, mz_c999, mz_c1900, mz_c2403, mz_c29362, mz_c29363, mz_c29364, mz_c29390, mz_c29393, mz_c29394, mz_c29398, mz_c29399, mz_c29400, mz_c29401, nI_add, pk_mul, pk_m1, mz_pp, mz_pq]; congr 1; omega)) ?_
      try simp only [mz_c0, mz_cm1]
      refine mz_br_f hC tk_X2_takeFrom rfl ((by show ¬ nI 3 ≤ nI b; exact nI_ge (by omega) (by omega))) ?_
      refine mz_sn_ok hC tk_X2_takeFrom pk_RX2 8 [κ + 1, b, κ + 4 + 3 * b, κ' + 1, b, κ' + 4 + 3 * b] rfl (by (repeat' apply And.intro) <;> first | exact True.intro | assumption | (simp only [mz_cm1, mz_c0, mz_c1, mz_c2, mz_c3, mz_c4, mz_c5, mz_c6, mz_c7, mz_c8, mz_c10, mz_c17, mz_c20, mz_c28, mz_c58, mz_c63, mz_c98, mz_c294, mz_c526, mz_c532, mz_c540, mz_c999, mz_c1900, mz_c2403, mz_c29362, mz_c29363, mz_c29364, mz_c29390, mz_c29393, mz_c29394, mz_c29398, mz_c29399, mz_c29400, mz_c29401, nI_add, pk_mul, pk_m1, mz_pp, mz_pq]; done) | omega | (simp only [mz_cm1, mz_c0, mz_c1, mz_c2, mz_c3, mz_c4, mz_c5, mz_c6, mz_c7, mz_c8, mz_c10, mz_c17, mz_c20, mz_c28, mz_c58, mz_c63, mz_c98, mz_c294, mz_c526, mz_c532, mz_c540, mz_c999, mz_c1900, mz_c2403, mz_c29362, mz_c29363, mz_c29364, mz_c29390, mz_c29393, mz_c29394, mz_c29398, mz_c29399, mz_c29400, mz_c29401, nI_add, pk_mul, pk_m1, mz_pp, mz_pq]; congr 1; omega)) ?_
      try simp only [mz_c0, mz_cm1]
      refine mz_Vcv hC tk_X2_takeFrom rfl md_X1_takeFrom lk_RX2_68 rfl (cc_takeFrom l E hY hY' (by omega) (by omega) hch hch') (by show (vwCl[mz_K _ _]?).map _ = _; rw [hKc]; rfl) ⟨Nat.le_of_ble_eq_true rfl, Nat.le_of_ble_eq_true rfl⟩ ⟨by simp only [mz_rm]; omega, by simp only [mz_rm]; omega⟩ (Nat.le_of_ble_eq_true rfl) (fun v2 G2 sz2 hp2 => ?_)
      obtain ⟨rfl, O2, hY2, hF2⟩ := hp2
      refine mz_sn_ok hC tk_X2_takeFrom pk_RX2 2 [] rfl (by (repeat' apply And.intro) <;> first | exact True.intro | assumption | (simp only [mz_cm1, mz_c0, mz_c1, mz_c2, mz_c3, mz_c4, mz_c5, mz_c6, mz_c7, mz_c8, mz_c10, mz_c17, mz_c20, mz_c28, mz_c58, mz_c63, mz_c98, mz_c294, mz_c526, mz_c532, mz_c540, mz_c999, mz_c1900, mz_c2403, mz_c29362, mz_c29363, mz_c29364, mz_c29390, mz_c29393, mz_c29394, mz_c29398, mz_c29399, mz_c29400, mz_c29401, nI_add, pk_mul, pk_m1, mz_pp, mz_pq]; done) | omega | (simp only [mz_cm1, mz_c0, mz_c1, mz_c2, mz_c3, mz_c4, mz_c5, mz_c6, mz_c7, mz_c8, mz_c10, mz_c17, mz_c20, mz_c28, mz_c58, mz_c63, mz_c98, mz_c294, mz_c526, mz_c532, mz_c540, mz_c999, mz_c1900, mz_c2403, mz_c29362, mz_c29363, mz_c29364, mz_c29390, mz_c29393, mz_c29394, mz_c29398, mz_c29399, mz_c29400, mz_c29401, nI_add, pk_mul, pk_m1, mz_pp, mz_pq]; congr 1; omega)) ?_
      try simp only [mz_c0, mz_cm1]
      refine mz_V.sub (lv' := [some (.ref κ), some (.ref κ'), some (.int (nI (b + 1)))]) (by (repeat' apply And.intro) <;> first | with_reducible rfl | exact True.intro | (simp only [mz_cm1, mz_c0, mz_c1, mz_c2, mz_c3, mz_c4, mz_c5, mz_c6, mz_c7, mz_c8, mz_c10, mz_c17, mz_c20, mz_c28, mz_c58, mz_c63, mz_c98, mz_c294, mz_c526, mz_c532, mz_c540, mz_c999, mz_c1900, mz_c2403, mz_c29362, mz_c29363, mz_c29364, mz_c29390, mz_c29393, mz_c29394, mz_c29398, mz_c29399, mz_c29400, mz_c29401, nI_add, pk_mul, pk_m1, mz_pp, mz_pq]; done) | rfl) ?_
      have hchn : mr_ch (mt_tl 4 (mx_cC f' m0 b) (Λ b) (Λ' b)) := by unfold mt_tl; split <;> assumption
      have hK2 : mr_K G2 O2 sz2 κ (F (b + 1)) m0 (mr_tk f' m0 Λ Λ' (b + 1)) := by
        rw [mr_tk_s]
        refine hK1.cp hm hb3 hF2 (hY2.cong (fun i h1 h2 => ?_)) hchn (fun i hi => ?_)
        · have := hCb b hb3
          rw [hF0]
          try dsimp only
          rw [if_pos (by omega)]
        · have := hCb b hb3
          rw [hF0]
          try dsimp only
          by_cases h3 : i = 294 + 58 * m0 ∨ (mx_CA m0 0 ≤ i ∧ i < mx_CA m0 0 + 2403 * b)
          · rw [if_pos (by omega), if_pos h3]
          · rw [if_neg (by omega), if_neg h3]
      exact ih (b + 1) G2 O2 sz2 _ (by omega) hK2 (hF1.tr (hF2.mono (fun q hq => by rcases hq with hq | hq <;> omega))) (by omega)
  refine mz_sn_ok hC tk_X2_takeFrom pk_RX2 6 [] rfl (by (repeat' apply And.intro) <;> first | exact True.intro | assumption | (simp only [mz_cm1, mz_c0, mz_c1, mz_c2, mz_c3, mz_c4, mz_c5, mz_c6, mz_c7, mz_c8, mz_c10, mz_c17, mz_c20, mz_c28, mz_c58, mz_c63, mz_c98, mz_c294, mz_c526, mz_c532, mz_c540, mz_c999, mz_c1900, mz_c2403, mz_c29362, mz_c29363, mz_c29364, mz_c29390, mz_c29393, mz_c29394, mz_c29398, mz_c29399, mz_c29400, mz_c29401, nI_add, pk_mul, pk_m1, mz_pp, mz_pq, pol']; done) | omega | (simp only [mz_cm1, mz_c0, mz_c1, mz_c2, mz_c3, mz_c4, mz_c5, mz_c6, mz_c7, mz_c8, mz_c10, mz_c17, mz_c20, mz_c28, mz_c58, mz_c63, mz_c98, mz_c294, mz_c526, mz_c532, mz_c540, mz_c999, mz_c1900, mz_c2403, mz_c29362, mz_c29363, mz_c29364, mz_c29390, mz_c29393, mz_c29394, mz_c29398, mz_c29399, mz_c29400, mz_c29401, nI_add, pk_mul, pk_m1, mz_pp, mz_pq, pol']; congr 1; omega)) ?_
  try simp only [mz_c0, mz_cm1, pol']
  refine mz_V.sub (lv' := [some (.ref κ), some (.ref κ'), some (.int (nI 0))]) (by (repeat' apply And.intro) <;> first | with_reducible rfl | exact True.intro | (simp only [mz_cm1, mz_c0, mz_c1, mz_c2, mz_c3, mz_c4, mz_c5, mz_c6, mz_c7, mz_c8, mz_c10, mz_c17, mz_c20, mz_c28, mz_c58, mz_c63, mz_c98, mz_c294, mz_c526, mz_c532, mz_c540, mz_c999, mz_c1900, mz_c2403, mz_c29362, mz_c29363, mz_c29364, mz_c29390, mz_c29393, mz_c29394, mz_c29398, mz_c29399, mz_c29400, mz_c29401, nI_add, pk_mul, pk_m1, mz_pp, mz_pq]; done) | rfl) ?_
  obtain ⟨hK0, hFp⟩ := hM.pol hm (f' (294 + 58 * m0))
  refine loop 3 0 _ O sz 0 (by omega) ?_ (hFp.mono (fun q hq => by omega)) (Nat.zero_le _)
  rw [h0]
  refine hK0.cong hm (fun i h1 h2 => ?_) (fun b i hb h1 h2 => ?_)
  · rw [hF0]
    dsimp only
    by_cases h3 : i = 294 + 58 * m0
    · rw [if_pos (by omega), h3, mz_u1_s]
    · rw [if_neg (by omega), mz_u1_o _ _ h3]
  · have := hCb b hb
    rw [hF0]
    dsimp only
    rw [if_neg (by omega), mz_u1_o _ _ (by omega)]
end MRK

