/-! ===== the class: a deed on a message ===== -/
section MRS
variable (l : Launch) (E : mz_E) {G : mz_G} {O : Nat → Nat} {sz σ : Nat} {f : Nat → Int32} {Λ : Nat → Nat → Nat}
theorem cs_playOn (hS : mr_S G O sz σ f Λ) (m0 b k : Nat) (hm : m0 < 4) (hb : b < 3) (hk : k < mx_nD f m0) (hkd : f (mx_DA m0 k + 1) = nI 0 ∨ f (mx_DA m0 k + 1) = nI 2) (hin : f (mx_CA m0 b) = f (98 * b + 0) → ¬ mz_fz (mx_nm f (98 * b + 17)) (f (mx_DA m0 k + 3)) (mx_cB f b) = none → ¬ mz_fz (mx_nm f (mx_CA m0 b + 2)) (f (mx_DA m0 k + 3)) (mx_cC f m0 b) = none) (r : (Nat → Int32) × Int32) (hr : mx_do f m0 (mx_DA m0 k) b (mx_cB f b) (mx_gB f b) (mx_cC f m0 b) = r) : mz_M l E yX3_playOnMessage cX3_playOnMessage 8 (some .int) 6 0 0 [.ref (σ + 21 + 13 * m0), .int (nI k), .ref (σ + 6 + 5 * b), .ref (σ + 21 + 13 * m0 + 4 + 3 * b)] G sz (fun v' G' sz' => v' = some (.int r.2) ∧ sz = sz' ∧ ∃ O', mr_S G' O' sz σ r.1 Λ ∧ mt_F (mr_Z σ) G G' O O' sz sz) := by
  have hpo : mz_i G (σ + 21 + 13 * m0) 0 = f (294 + 58 * m0) := (hS.2.2.2 m0 hm).1.1.2.1
  have hCA : 526 ≤ mx_CA m0 b ∧ mx_CA m0 b + 2403 ≤ 29362 := by unfold mx_CA; omega
  have hDA : mx_DA m0 k = 294 + 58 * m0 + 2 + 7 * k := rfl
  have hB := hS.2.2.1 b hb
  obtain ⟨hY, hch⟩ := (hS.2.2.2 m0 hm).2.2 b hb
  obtain ⟨⟨hKm, rm2⟩, td⟩ := (hS.2.2.2 m0 hm).d
  have kd := td.K
  have n8 := td.b.1
  have c20 := hB.2.1.1.b.1
  have g6 := hB.2.1.2.b.1
  have c532 := hY.1.2.b.1
  obtain ⟨γ, hγ⟩ : ∃ γ, γ = σ + 21 + 13 * m0 + 4 + 3 * b := ⟨_, rfl⟩
  obtain ⟨β, hβ⟩ : ∃ β, β = σ + 6 + 5 * b := ⟨_, rfl⟩
  obtain ⟨δ, hδ⟩ : ∃ δ, δ = σ + 21 + 13 * m0 + 2 := ⟨_, rfl⟩
  obtain ⟨κ, hκ⟩ : ∃ κ, κ = σ + 21 + 13 * m0 := ⟨_, rfl⟩
  rw [← hγ] at hY ⊢
  rw [← hβ] at hB ⊢
  rw [← hδ] at td kd rm2
  rw [← hκ] at hKm rm2 ⊢
  rw [← hκ] at hpo
  obtain ⟨⟨⟨⟨⟨hKc, hOc, hsc⟩, j0, j1⟩, q2⟩, tc⟩, hccn⟩ := id hY
  obtain ⟨⟨⟨⟨hKb, hOb, hsb⟩, i0, i1, i2, i3⟩, r4, r5, hne⟩, ⟨t1, t2⟩, hc1, hc2⟩ := id hB
  have kc := tc.K
  have k1 := t1.K
  obtain ⟨cnt, hcnt⟩ : ∃ cnt, cnt = mx_cB f b := ⟨_, rfl⟩
  obtain ⟨cc, hcc⟩ : ∃ cc, cc = mx_cC f m0 b := ⟨_, rfl⟩
  obtain ⟨g, hg⟩ : ∃ g, g = mx_gB f b := ⟨_, rfl⟩
  rw [← hcnt] at t1 c20 hin hr hB hc1
  rw [← hg] at hr hB g6 t2 hc2
  rw [← hcc] at tc hin hr hY c532
  obtain ⟨name, hnm0⟩ : ∃ name, name = f (mx_DA m0 k + 3) := ⟨_, rfl⟩
  rw [← hnm0] at hin
  unfold mx_do at hr
  rw [← hnm0] at hr
  have cpid : mz_u1 Λ m0 (mz_u1 (Λ m0) b (Λ m0 b)) = Λ := by rw [mz_u1_id, mz_u1_id]
  refine mz_start (by decide) (Nat.le_of_ble_eq_true rfl) ?_
  intro p e s m args below meth c hC hret hnm
  refine mz_sn_ok hC tk_X3_playOnMessage pk_RX3 4 [] rfl (by (repeat' apply And.intro) <;> first | exact True.intro | assumption | (simp only [mz_cm1, mz_c0, mz_c1, mz_c2, mz_c3, mz_c4, mz_c5, mz_c6, mz_c7, mz_c8, mz_c10, mz_c17, mz_c20, mz_c28, mz_c58, mz_c63, mz_c98, mz_c294, mz_c526, mz_c532, mz_c540, mz_c999, mz_c1900, mz_c2403, mz_c29362, mz_c29363, mz_c29364, mz_c29390, mz_c29393, mz_c29394, mz_c29398, mz_c29399, mz_c29400, mz_c29401, nI_add, pk_mul, pk_m1, mz_pp, mz_pq, j0, i0]; done) | omega | (simp only [mz_cm1, mz_c0, mz_c1, mz_c2, mz_c3, mz_c4, mz_c5, mz_c6, mz_c7, mz_c8, mz_c10, mz_c17, mz_c20, mz_c28, mz_c58, mz_c63, mz_c98, mz_c294, mz_c526, mz_c532, mz_c540, mz_c999, mz_c1900, mz_c2403, mz_c29362, mz_c29363, mz_c29364, mz_c29390, mz_c29393, mz_c29394, mz_c29398, mz_c29399, mz_c29400, mz_c29401, nI_add, pk_mul, pk_m1, mz_pp, mz_pq, j0, i0]; congr 1; omega)) ?_
  try simp only [mz_c0, mz_cm1, j0, i0]
  by_cases he : f (mx_CA m0 b) = f (98 * b + 0)
  · rw [if_pos he] at hr
    refine mz_br_t hC tk_X3_playOnMessage rfl ((by show f (mx_CA m0 b) = f (98 * b + 0); exact he)) ?_
    refine mz_sn_ok hC tk_X3_playOnMessage pk_RX3 4 [δ] rfl (by (repeat' apply And.intro) <;> first | exact True.intro | assumption | (simp only [mz_cm1, mz_c0, mz_c1, mz_c2, mz_c3, mz_c4, mz_c5, mz_c6, mz_c7, mz_c8, mz_c10, mz_c17, mz_c20, mz_c28, mz_c58, mz_c63, mz_c98, mz_c294, mz_c526, mz_c532, mz_c540, mz_c999, mz_c1900, mz_c2403, mz_c29362, mz_c29363, mz_c29364, mz_c29390, mz_c29393, mz_c29394, mz_c29398, mz_c29399, mz_c29400, mz_c29401, nI_add, pk_mul, pk_m1, mz_pp, mz_pq]; done) | omega | (simp only [mz_cm1, mz_c0, mz_c1, mz_c2, mz_c3, mz_c4, mz_c5, mz_c6, mz_c7, mz_c8, mz_c10, mz_c17, mz_c20, mz_c28, mz_c58, mz_c63, mz_c98, mz_c294, mz_c526, mz_c532, mz_c540, mz_c999, mz_c1900, mz_c2403, mz_c29362, mz_c29363, mz_c29364, mz_c29390, mz_c29393, mz_c29394, mz_c29398, mz_c29399, mz_c29400, mz_c29401, nI_add, pk_mul, pk_m1, mz_pp, mz_pq]; congr 1; omega)) ?_
    try simp only [mz_c0, mz_cm1]
    refine mz_Vcv hC tk_X3_playOnMessage rfl md_X4_cell lk_RX3_97 rfl (ct_cell l E td (nI k) (nI 3)) (by show (vwCl[mz_K _ _]?).map _ = _; rw [kd]; rfl) ⟨Nat.le_of_ble_eq_true rfl, Nat.le_of_ble_eq_true rfl⟩ ⟨Nat.le_of_ble_eq_true rfl, Nat.le_of_ble_eq_true rfl⟩ (Nat.le_of_ble_eq_true rfl) (fun v9 G9 sz9 hp9 => ?_)
    obtain ⟨rfl, hG9, hs9⟩ := hp9
    rw [hG9, ← hs9, mt_c_in hk (by omega) (by omega) (by omega), mr_DA, ← hnm0]
    refine mz_sn_ok hC tk_X3_playOnMessage pk_RX3 5 [β + 1] rfl (by (repeat' apply And.intro) <;> first | exact True.intro | assumption | (simp only [mz_cm1, mz_c0, mz_c1, mz_c2, mz_c3, mz_c4, mz_c5, mz_c6, mz_c7, mz_c8, mz_c10, mz_c17, mz_c20, mz_c28, mz_c58, mz_c63, mz_c98, mz_c294, mz_c526, mz_c532, mz_c540, mz_c999, mz_c1900, mz_c2403, mz_c29362, mz_c29363, mz_c29364, mz_c29390, mz_c29393, mz_c29394, mz_c29398, mz_c29399, mz_c29400, mz_c29401, nI_add, pk_mul, pk_m1, mz_pp, mz_pq]; done) | omega | (simp only [mz_cm1, mz_c0, mz_c1, mz_c2, mz_c3, mz_c4, mz_c5, mz_c6, mz_c7, mz_c8, mz_c10, mz_c17, mz_c20, mz_c28, mz_c58, mz_c63, mz_c98, mz_c294, mz_c526, mz_c532, mz_c540, mz_c999, mz_c1900, mz_c2403, mz_c29362, mz_c29363, mz_c29364, mz_c29390, mz_c29393, mz_c29394, mz_c29398, mz_c29399, mz_c29400, mz_c29401, nI_add, pk_mul, pk_m1, mz_pp, mz_pq]; congr 1; omega)) ?_
    try simp only [mz_c0, mz_cm1]
    refine mz_Vcv hC tk_X3_playOnMessage rfl md_X4_rowWith lk_RX3_145 rfl (ct_rowWith l E t1 0 name (by omega)) (by show (vwCl[mz_K _ _]?).map _ = _; rw [k1]; rfl) ⟨Nat.le_of_ble_eq_true rfl, Nat.le_of_ble_eq_true rfl⟩ ⟨Nat.le_of_ble_eq_true rfl, Nat.le_of_ble_eq_true rfl⟩ (Nat.le_of_ble_eq_true rfl) (fun v9 G9 sz9 hp9 => ?_)
    obtain ⟨rfl, hG10, hs10⟩ := hp9
    rw [hG10, ← hs10]
    have e0 : mz_fi (fun k => mr_h f (98 * b + 17) 4 k 0) name cnt = mz_fi (mx_nm f (98 * b + 17)) name cnt := rfl
    rw [e0]
    unfold mz_fi
    cases hz : mz_fz (mx_nm f (98 * b + 17)) name cnt with
    | none =>
      rw [hz] at hr
      dsimp only at hr ⊢
      refine mz_sn_ok hC tk_X3_playOnMessage pk_RX3 3 [] rfl (by (repeat' apply And.intro) <;> first | exact True.intro | assumption | (simp only [mz_cm1, mz_c0, mz_c1, mz_c2, mz_c3, mz_c4, mz_c5, mz_c6, mz_c7, mz_c8, mz_c10, mz_c17, mz_c20, mz_c28, mz_c58, mz_c63, mz_c98, mz_c294, mz_c526, mz_c532, mz_c540, mz_c999, mz_c1900, mz_c2403, mz_c29362, mz_c29363, mz_c29364, mz_c29390, mz_c29393, mz_c29394, mz_c29398, mz_c29399, mz_c29400, mz_c29401, nI_add, pk_mul, pk_m1, mz_pp, mz_pq]; done) | omega | (simp only [mz_cm1, mz_c0, mz_c1, mz_c2, mz_c3, mz_c4, mz_c5, mz_c6, mz_c7, mz_c8, mz_c10, mz_c17, mz_c20, mz_c28, mz_c58, mz_c63, mz_c98, mz_c294, mz_c526, mz_c532, mz_c540, mz_c999, mz_c1900, mz_c2403, mz_c29362, mz_c29363, mz_c29364, mz_c29390, mz_c29393, mz_c29394, mz_c29398, mz_c29399, mz_c29400, mz_c29401, nI_add, pk_mul, pk_m1, mz_pp, mz_pq]; congr 1; omega)) ?_
      try simp only [mz_c0, mz_cm1]
      refine mz_br_f hC tk_X3_playOnMessage rfl ((by show ¬ ¬ (-1 : Int32) = mz_c (-1); rw [mz_cm1]; exact fun z => z rfl)) ?_
      refine mz_sn_ok hC tk_X3_playOnMessage pk_RX3 2 [] rfl (by (repeat' apply And.intro) <;> first | exact True.intro | assumption | (simp only [mz_cm1, mz_c0, mz_c1, mz_c2, mz_c3, mz_c4, mz_c5, mz_c6, mz_c7, mz_c8, mz_c10, mz_c17, mz_c20, mz_c28, mz_c58, mz_c63, mz_c98, mz_c294, mz_c526, mz_c532, mz_c540, mz_c999, mz_c1900, mz_c2403, mz_c29362, mz_c29363, mz_c29364, mz_c29390, mz_c29393, mz_c29394, mz_c29398, mz_c29399, mz_c29400, mz_c29401, nI_add, pk_mul, pk_m1, mz_pp, mz_pq]; done) | omega | (simp only [mz_cm1, mz_c0, mz_c1, mz_c2, mz_c3, mz_c4, mz_c5, mz_c6, mz_c7, mz_c8, mz_c10, mz_c17, mz_c20, mz_c28, mz_c58, mz_c63, mz_c98, mz_c294, mz_c526, mz_c532, mz_c540, mz_c999, mz_c1900, mz_c2403, mz_c29362, mz_c29363, mz_c29364, mz_c29390, mz_c29393, mz_c29394, mz_c29398, mz_c29399, mz_c29400, mz_c29401, nI_add, pk_mul, pk_m1, mz_pp, mz_pq]; congr 1; omega)) ?_
      try simp only [mz_c0, mz_cm1]
      obtain ⟨R, hR⟩ : ∃ R : (Nat → Int32) × Nat, R = (match mz_fz (mx_nm f (mx_CA m0 b + 2)) name cc with
          | none => (f, cc)
          | some h => (mx_dr f (mx_CA m0 b + 2) cc h, cc - 1)) := ⟨_, rfl⟩
      refine mz_Vcv hC tk_X3_playOnMessage rfl md_X1_dropMessage lk_RX3_148 rfl (cc_dropMessage l E hY.1 name R hR) (by show (vwCl[mz_K _ _]?).map _ = _; rw [hKc]; rfl) ⟨Nat.le_of_ble_eq_true rfl, Nat.le_of_ble_eq_true rfl⟩ ⟨Nat.le_of_ble_eq_true rfl, Nat.le_of_ble_eq_true rfl⟩ (Nat.le_of_ble_eq_true rfl) (fun v2 G2 sz2 hp2 => ?_)
      obtain ⟨rfl, hs11, hY2, hF2⟩ := hp2
      rw [← hs11]
      refine mz_sn_ok hC tk_X3_playOnMessage pk_RX3 1 [] rfl (by (repeat' apply And.intro) <;> first | exact True.intro | assumption | (simp only [mz_cm1, mz_c0, mz_c1, mz_c2, mz_c3, mz_c4, mz_c5, mz_c6, mz_c7, mz_c8, mz_c10, mz_c17, mz_c20, mz_c28, mz_c58, mz_c63, mz_c98, mz_c294, mz_c526, mz_c532, mz_c540, mz_c999, mz_c1900, mz_c2403, mz_c29362, mz_c29363, mz_c29364, mz_c29390, mz_c29393, mz_c29394, mz_c29398, mz_c29399, mz_c29400, mz_c29401, nI_add, pk_mul, pk_m1, mz_pp, mz_pq]; done) | omega | (simp only [mz_cm1, mz_c0, mz_c1, mz_c2, mz_c3, mz_c4, mz_c5, mz_c6, mz_c7, mz_c8, mz_c10, mz_c17, mz_c20, mz_c28, mz_c58, mz_c63, mz_c98, mz_c294, mz_c526, mz_c532, mz_c540, mz_c999, mz_c1900, mz_c2403, mz_c29362, mz_c29363, mz_c29364, mz_c29390, mz_c29393, mz_c29394, mz_c29398, mz_c29399, mz_c29400, mz_c29401, nI_add, pk_mul, pk_m1, mz_pp, mz_pq]; congr 1; omega)) ?_
      try simp only [mz_c0, mz_cm1]
      refine mz_Vireturn hC tk_X3_playOnMessage rfl hret rfl (Nat.le_of_ble_eq_true rfl) (Nat.le_of_ble_eq_true rfl) ?_
      have hd0 : r = (R.1, nI 2) := by
        rw [← hr, hR]
        unfold mx_d0
        rw [← hnm0]
        cases mz_fz (mx_nm f (mx_CA m0 b + 2)) name cc <;> rfl
      rw [hd0]
      refine ⟨rfl, rfl, O, ?_, hF2.mono (fun q hq => by unfold mr_Z; rcases hq with hq | hq <;> omega)⟩
      have hRo : (∀ i, ¬ (mx_CA m0 b + 2 ≤ i ∧ i < mx_CA m0 b + 2403) → R.1 i = f i) ∧ R.1 (mx_CA m0 b + 2) = nI R.2 := by
        rw [hR]
        cases hzz : mz_fz (mx_nm f (mx_CA m0 b + 2)) name cc with
        | none => exact ⟨fun _ _ => rfl, by show f (mx_CA m0 b + 2) = nI cc; rw [hccn, hcc]⟩
        | some h =>
          obtain ⟨h1, -, -⟩ := mz_fz_some hzz
          exact ⟨fun i hi => mx_dr_o f h1 (by omega), mx_dr_n f⟩
      have hY3 : mr_C G2 O sz γ (γ + 1) R.1 m0 b R.2 (Λ m0 b) := by
        obtain ⟨⟨⟨hk2, w0, w1⟩, w2⟩, w3⟩ := hY2
        exact ⟨⟨⟨⟨hk2, by rw [hRo.1 _ (by omega)]; exact w0, by rw [hRo.1 _ (by omega)]; exact w1⟩, w2⟩, w3⟩, hRo.2⟩
      rw [hγ] at hF2 hY3
      have := hS.cp hm hb hF2 hY3 hch (fun i hi => hRo.1 i (by omega))
      rw [cpid] at this
      exact this
    | some t =>
      rw [hz] at hr
      dsimp only at hr ⊢
      obtain ⟨ht, -, -⟩ := mz_fz_some hz
      refine mz_sn_ok hC tk_X3_playOnMessage pk_RX3 3 [] rfl (by (repeat' apply And.intro) <;> first | exact True.intro | assumption | (simp only [mz_cm1, mz_c0, mz_c1, mz_c2, mz_c3, mz_c4, mz_c5, mz_c6, mz_c7, mz_c8, mz_c10, mz_c17, mz_c20, mz_c28, mz_c58, mz_c63, mz_c98, mz_c294, mz_c526, mz_c532, mz_c540, mz_c999, mz_c1900, mz_c2403, mz_c29362, mz_c29363, mz_c29364, mz_c29390, mz_c29393, mz_c29394, mz_c29398, mz_c29399, mz_c29400, mz_c29401, nI_add, pk_mul, pk_m1, mz_pp, mz_pq]; done) | omega | (simp only [mz_cm1, mz_c0, mz_c1, mz_c2, mz_c3, mz_c4, mz_c5, mz_c6, mz_c7, mz_c8, mz_c10, mz_c17, mz_c20, mz_c28, mz_c58, mz_c63, mz_c98, mz_c294, mz_c526, mz_c532, mz_c540, mz_c999, mz_c1900, mz_c2403, mz_c29362, mz_c29363, mz_c29364, mz_c29390, mz_c29393, mz_c29394, mz_c29398, mz_c29399, mz_c29400, mz_c29401, nI_add, pk_mul, pk_m1, mz_pp, mz_pq]; congr 1; omega)) ?_
      try simp only [mz_c0, mz_cm1]
      refine mz_br_t hC tk_X3_playOnMessage rfl ((by show ¬ nI t = mz_c (-1); rw [mz_cm1]; exact fun z => by have h0 := mz_nn t (by omega); rw [z] at h0; exact absurd h0 (by decide))) ?_
      refine mz_sn_ok hC tk_X3_playOnMessage pk_RX3 4 [γ + 1] rfl (by (repeat' apply And.intro) <;> first | exact True.intro | assumption | (simp only [mz_cm1, mz_c0, mz_c1, mz_c2, mz_c3, mz_c4, mz_c5, mz_c6, mz_c7, mz_c8, mz_c10, mz_c17, mz_c20, mz_c28, mz_c58, mz_c63, mz_c98, mz_c294, mz_c526, mz_c532, mz_c540, mz_c999, mz_c1900, mz_c2403, mz_c29362, mz_c29363, mz_c29364, mz_c29390, mz_c29393, mz_c29394, mz_c29398, mz_c29399, mz_c29400, mz_c29401, nI_add, pk_mul, pk_m1, mz_pp, mz_pq]; done) | omega | (simp only [mz_cm1, mz_c0, mz_c1, mz_c2, mz_c3, mz_c4, mz_c5, mz_c6, mz_c7, mz_c8, mz_c10, mz_c17, mz_c20, mz_c28, mz_c58, mz_c63, mz_c98, mz_c294, mz_c526, mz_c532, mz_c540, mz_c999, mz_c1900, mz_c2403, mz_c29362, mz_c29363, mz_c29364, mz_c29390, mz_c29393, mz_c29394, mz_c29398, mz_c29399, mz_c29400, mz_c29401, nI_add, pk_mul, pk_m1, mz_pp, mz_pq]; congr 1; omega)) ?_
      try simp only [mz_c0, mz_cm1]
      refine mz_Vcv hC tk_X3_playOnMessage rfl md_X4_rowWith lk_RX3_145 rfl (ct_rowWith l E tc 0 name (by omega)) (by show (vwCl[mz_K _ _]?).map _ = _; rw [kc]; rfl) ⟨Nat.le_of_ble_eq_true rfl, Nat.le_of_ble_eq_true rfl⟩ ⟨Nat.le_of_ble_eq_true rfl, Nat.le_of_ble_eq_true rfl⟩ (Nat.le_of_ble_eq_true rfl) (fun v9 G9 sz9 hp9 => ?_)
      obtain ⟨rfl, hG11, hs11⟩ := hp9
      rw [hG11, ← hs11]
      have e1 : mz_fi (fun k => mr_h f (mx_CA m0 b + 2) 4 k 0) name cc = mz_fi (mx_nm f (mx_CA m0 b + 2)) name cc := rfl
      rw [e1]
      unfold mz_fi
      cases hzc : mz_fz (mx_nm f (mx_CA m0 b + 2)) name cc with
      | none => exact absurd hzc (hin he (by rw [hz]; simp))
      | some h =>
        rw [hzc] at hr
        dsimp only at hr ⊢
        obtain ⟨hh, hhn, -⟩ := mz_fz_some hzc
        refine mz_sn_ok hC tk_X3_playOnMessage pk_RX3 5 [β + 1] rfl (by (repeat' apply And.intro) <;> first | exact True.intro | assumption | (simp only [mz_cm1, mz_c0, mz_c1, mz_c2, mz_c3, mz_c4, mz_c5, mz_c6, mz_c7, mz_c8, mz_c10, mz_c17, mz_c20, mz_c28, mz_c58, mz_c63, mz_c98, mz_c294, mz_c526, mz_c532, mz_c540, mz_c999, mz_c1900, mz_c2403, mz_c29362, mz_c29363, mz_c29364, mz_c29390, mz_c29393, mz_c29394, mz_c29398, mz_c29399, mz_c29400, mz_c29401, nI_add, pk_mul, pk_m1, mz_pp, mz_pq]; done) | omega | (simp only [mz_cm1, mz_c0, mz_c1, mz_c2, mz_c3, mz_c4, mz_c5, mz_c6, mz_c7, mz_c8, mz_c10, mz_c17, mz_c20, mz_c28, mz_c58, mz_c63, mz_c98, mz_c294, mz_c526, mz_c532, mz_c540, mz_c999, mz_c1900, mz_c2403, mz_c29362, mz_c29363, mz_c29364, mz_c29390, mz_c29393, mz_c29394, mz_c29398, mz_c29399, mz_c29400, mz_c29401, nI_add, pk_mul, pk_m1, mz_pp, mz_pq]; congr 1; omega)) ?_
        try simp only [mz_c0, mz_cm1]
        refine mz_Vcv hC tk_X3_playOnMessage rfl md_X4_cell lk_RX3_97 rfl (ct_cell l E t1 (nI t) (nI 3)) (by show (vwCl[mz_K _ _]?).map _ = _; rw [k1]; rfl) ⟨Nat.le_of_ble_eq_true rfl, Nat.le_of_ble_eq_true rfl⟩ ⟨Nat.le_of_ble_eq_true rfl, Nat.le_of_ble_eq_true rfl⟩ (Nat.le_of_ble_eq_true rfl) (fun v9 G9 sz9 hp9 => ?_)
        obtain ⟨rfl, hG12, hs12⟩ := hp9
        rw [hG12, ← hs12, mt_c_in ht (by omega) (by omega) (by omega)]
        refine mz_sn_ok hC tk_X3_playOnMessage pk_RX3 4 [γ + 1] rfl (by (repeat' apply And.intro) <;> first | exact True.intro | assumption | (simp only [mz_cm1, mz_c0, mz_c1, mz_c2, mz_c3, mz_c4, mz_c5, mz_c6, mz_c7, mz_c8, mz_c10, mz_c17, mz_c20, mz_c28, mz_c58, mz_c63, mz_c98, mz_c294, mz_c526, mz_c532, mz_c540, mz_c999, mz_c1900, mz_c2403, mz_c29362, mz_c29363, mz_c29364, mz_c29390, mz_c29393, mz_c29394, mz_c29398, mz_c29399, mz_c29400, mz_c29401, nI_add, pk_mul, pk_m1, mz_pp, mz_pq]; done) | omega | (simp only [mz_cm1, mz_c0, mz_c1, mz_c2, mz_c3, mz_c4, mz_c5, mz_c6, mz_c7, mz_c8, mz_c10, mz_c17, mz_c20, mz_c28, mz_c58, mz_c63, mz_c98, mz_c294, mz_c526, mz_c532, mz_c540, mz_c999, mz_c1900, mz_c2403, mz_c29362, mz_c29363, mz_c29364, mz_c29390, mz_c29393, mz_c29394, mz_c29398, mz_c29399, mz_c29400, mz_c29401, nI_add, pk_mul, pk_m1, mz_pp, mz_pq]; congr 1; omega)) ?_
        try simp only [mz_c0, mz_cm1]
        refine mz_Vcv hC tk_X3_playOnMessage rfl md_X4_cell lk_RX3_97 rfl (ct_cell l E tc (nI h) (nI 3)) (by show (vwCl[mz_K _ _]?).map _ = _; rw [kc]; rfl) ⟨Nat.le_of_ble_eq_true rfl, Nat.le_of_ble_eq_true rfl⟩ ⟨Nat.le_of_ble_eq_true rfl, Nat.le_of_ble_eq_true rfl⟩ (Nat.le_of_ble_eq_true rfl) (fun v9 G9 sz9 hp9 => ?_)
        obtain ⟨rfl, hG13, hs13⟩ := hp9
        rw [hG13, ← hs13, mt_c_in hh (by omega) (by omega) (by omega)]
        have htc : mx_tc f m0 b t h ↔ ¬ mr_h f (98 * b + 17) 4 t 3 ≤ mr_h f (mx_CA m0 b + 2) 4 h 3 := Iff.rfl
        unfold mx_d2 at hr
        have ends : ∀ (w : Int32) (G5 : mz_G) (O5 : Nat → Nat) (f5 : Nat → Int32) (l0 : Option Value), (w = if mx_tc f m0 b t h then 1 else 0) → r = (f5, if mx_tc f m0 b t h then 1 else 0) → mr_S G5 O5 sz σ f5 Λ → mt_F (mr_Z σ) G G5 O O5 sz sz → mz_V E p l e (mz_rm 6 0 0) s m args below meth c 8 (0) (0) (mz_Z E below args s 0 0 (fun v' G' sz' => v' = some (.int r.2) ∧ sz = sz' ∧ ∃ O', mr_S G' O' sz σ r.1 Λ ∧ mt_F (mr_Z σ) G G' O O' sz sz)) (G5) (sz) (212) [l0, none, none, none, none, none, none, some (.int w)] [] := by
          intro w G5 O5 f5 l0 hw hr5 hS5 hF5
          rw [hr5]
          refine mz_sn_ok hC tk_X3_playOnMessage pk_RX3 1 [] rfl (by (repeat' apply And.intro) <;> first | exact True.intro | assumption | (simp only [mz_cm1, mz_c0, mz_c1, mz_c2, mz_c3, mz_c4, mz_c5, mz_c6, mz_c7, mz_c8, mz_c10, mz_c17, mz_c20, mz_c28, mz_c58, mz_c63, mz_c98, mz_c294, mz_c526, mz_c532, mz_c540, mz_c999, mz_c1900, mz_c2403, mz_c29362, mz_c29363, mz_c29364, mz_c29390, mz_c29393, mz_c29394, mz_c29398, mz_c29399, mz_c29400, mz_c29401, nI_add, pk_mul, pk_m1, mz_pp, mz_pq]; done) | omega | (simp only [mz_cm1, mz_c0, mz_c1, mz_c2, mz_c3, mz_c4, mz_c5, mz_c6, mz_c7, mz_c8, mz_c10, mz_c17, mz_c20, mz_c28, mz_c58, mz_c63, mz_c98, mz_c294, mz_c526, mz_c532, mz_c540, mz_c999, mz_c1900, mz_c2403, mz_c29362, mz_c29363, mz_c29364, mz_c29390, mz_c29393, mz_c29394, mz_c29398, mz_c29399, mz_c29400, mz_c29401, nI_add, pk_mul, pk_m1, mz_pp, mz_pq]; congr 1; omega)) ?_
          try simp only [mz_c0, mz_cm1]
          by_cases hx : mx_tc f m0 b t h
          · rw [if_pos hx] at hw ⊢
            refine mz_br_f hC tk_X3_playOnMessage rfl ((by show ¬ w = 0; rw [hw]; decide)) ?_
            refine mz_sn_ok hC tk_X3_playOnMessage pk_RX3 2 [] rfl (by (repeat' apply And.intro) <;> first | exact True.intro | assumption | (simp only [mz_cm1, mz_c0, mz_c1, mz_c2, mz_c3, mz_c4, mz_c5, mz_c6, mz_c7, mz_c8, mz_c10, mz_c17, mz_c20, mz_c28, mz_c58, mz_c63, mz_c98, mz_c294, mz_c526, mz_c532, mz_c540, mz_c999, mz_c1900, mz_c2403, mz_c29362, mz_c29363, mz_c29364, mz_c29390, mz_c29393, mz_c29394, mz_c29398, mz_c29399, mz_c29400, mz_c29401, nI_add, pk_mul, pk_m1, mz_pp, mz_pq]; done) | omega | (simp only [mz_cm1, mz_c0, mz_c1, mz_c2, mz_c3, mz_c4, mz_c5, mz_c6, mz_c7, mz_c8, mz_c10, mz_c17, mz_c20, mz_c28, mz_c58, mz_c63, mz_c98, mz_c294, mz_c526, mz_c532, mz_c540, mz_c999, mz_c1900, mz_c2403, mz_c29362, mz_c29363, mz_c29364, mz_c29390, mz_c29393, mz_c29394, mz_c29398, mz_c29399, mz_c29400, mz_c29401, nI_add, pk_mul, pk_m1, mz_pp, mz_pq]; congr 1; omega)) ?_
            try simp only [mz_c0, mz_cm1]
            refine mz_Vireturn hC tk_X3_playOnMessage rfl hret rfl (Nat.le_of_ble_eq_true rfl) (Nat.le_of_ble_eq_true rfl) ?_
            exact ⟨rfl, rfl, O5, hS5, hF5⟩
          · rw [if_neg hx] at hw ⊢
            refine mz_br_t hC tk_X3_playOnMessage rfl ((by show w = 0; exact hw)) ?_
            refine mz_sn_ok hC tk_X3_playOnMessage pk_RX3 1 [] rfl (by (repeat' apply And.intro) <;> first | exact True.intro | assumption | (simp only [mz_cm1, mz_c0, mz_c1, mz_c2, mz_c3, mz_c4, mz_c5, mz_c6, mz_c7, mz_c8, mz_c10, mz_c17, mz_c20, mz_c28, mz_c58, mz_c63, mz_c98, mz_c294, mz_c526, mz_c532, mz_c540, mz_c999, mz_c1900, mz_c2403, mz_c29362, mz_c29363, mz_c29364, mz_c29390, mz_c29393, mz_c29394, mz_c29398, mz_c29399, mz_c29400, mz_c29401, nI_add, pk_mul, pk_m1, mz_pp, mz_pq]; done) | omega | (simp only [mz_cm1, mz_c0, mz_c1, mz_c2, mz_c3, mz_c4, mz_c5, mz_c6, mz_c7, mz_c8, mz_c10, mz_c17, mz_c20, mz_c28, mz_c58, mz_c63, mz_c98, mz_c294, mz_c526, mz_c532, mz_c540, mz_c999, mz_c1900, mz_c2403, mz_c29362, mz_c29363, mz_c29364, mz_c29390, mz_c29393, mz_c29394, mz_c29398, mz_c29399, mz_c29400, mz_c29401, nI_add, pk_mul, pk_m1, mz_pp, mz_pq]; congr 1; omega)) ?_
            try simp only [mz_c0, mz_cm1]
            refine mz_Vireturn hC tk_X3_playOnMessage rfl hret rfl (Nat.le_of_ble_eq_true rfl) (Nat.le_of_ble_eq_true rfl) ?_
            exact ⟨rfl, rfl, O5, hS5, hF5⟩
        have work : ∀ (w : Int32), (w = if mx_tc f m0 b t h then 1 else 0) → ¬ (mx_tc f m0 b t h ∧ f (294 + 58 * m0) = nI 1) → mz_V E p l e (mz_rm 6 0 0) s m args below meth c 8 (0) (0) (mz_Z E below args s 0 0 (fun v' G' sz' => v' = some (.int r.2) ∧ sz = sz' ∧ ∃ O', mr_S G' O' sz σ r.1 Λ ∧ mt_F (mr_Z σ) G G' O O' sz sz)) (G) (sz) (107) [some (.ref κ), some (.int (nI k)), some (.ref β), some (.ref γ), some (.int name), some (.int (nI t)), some (.int (nI h)), some (.int w)] [] := by
          intro w hw hno
          rw [if_neg hno] at hr
          unfold mx_d3 at hr
          refine mz_sn_ok hC tk_X3_playOnMessage pk_RX3 4 [δ] rfl (by (repeat' apply And.intro) <;> first | exact True.intro | assumption | (simp only [mz_cm1, mz_c0, mz_c1, mz_c2, mz_c3, mz_c4, mz_c5, mz_c6, mz_c7, mz_c8, mz_c10, mz_c17, mz_c20, mz_c28, mz_c58, mz_c63, mz_c98, mz_c294, mz_c526, mz_c532, mz_c540, mz_c999, mz_c1900, mz_c2403, mz_c29362, mz_c29363, mz_c29364, mz_c29390, mz_c29393, mz_c29394, mz_c29398, mz_c29399, mz_c29400, mz_c29401, nI_add, pk_mul, pk_m1, mz_pp, mz_pq]; done) | omega | (simp only [mz_cm1, mz_c0, mz_c1, mz_c2, mz_c3, mz_c4, mz_c5, mz_c6, mz_c7, mz_c8, mz_c10, mz_c17, mz_c20, mz_c28, mz_c58, mz_c63, mz_c98, mz_c294, mz_c526, mz_c532, mz_c540, mz_c999, mz_c1900, mz_c2403, mz_c29362, mz_c29363, mz_c29364, mz_c29390, mz_c29393, mz_c29394, mz_c29398, mz_c29399, mz_c29400, mz_c29401, nI_add, pk_mul, pk_m1, mz_pp, mz_pq]; congr 1; omega)) ?_
          try simp only [mz_c0, mz_cm1]
          refine mz_Vcv hC tk_X3_playOnMessage rfl md_X4_cell lk_RX3_97 rfl (ct_cell l E td (nI k) (nI 1)) (by show (vwCl[mz_K _ _]?).map _ = _; rw [kd]; rfl) ⟨Nat.le_of_ble_eq_true rfl, Nat.le_of_ble_eq_true rfl⟩ ⟨Nat.le_of_ble_eq_true rfl, Nat.le_of_ble_eq_true rfl⟩ (Nat.le_of_ble_eq_true rfl) (fun v9 G9 sz9 hp9 => ?_)
          obtain ⟨rfl, hG14, hs14⟩ := hp9
          rw [hG14, ← hs14, mt_c_in hk (by omega) (by omega) (by omega), mr_DA]
          refine mz_sn_ok hC tk_X3_playOnMessage pk_RX3 1 [] rfl (by (repeat' apply And.intro) <;> first | exact True.intro | assumption | (simp only [mz_cm1, mz_c0, mz_c1, mz_c2, mz_c3, mz_c4, mz_c5, mz_c6, mz_c7, mz_c8, mz_c10, mz_c17, mz_c20, mz_c28, mz_c58, mz_c63, mz_c98, mz_c294, mz_c526, mz_c532, mz_c540, mz_c999, mz_c1900, mz_c2403, mz_c29362, mz_c29363, mz_c29364, mz_c29390, mz_c29393, mz_c29394, mz_c29398, mz_c29399, mz_c29400, mz_c29401, nI_add, pk_mul, pk_m1, mz_pp, mz_pq]; done) | omega | (simp only [mz_cm1, mz_c0, mz_c1, mz_c2, mz_c3, mz_c4, mz_c5, mz_c6, mz_c7, mz_c8, mz_c10, mz_c17, mz_c20, mz_c28, mz_c58, mz_c63, mz_c98, mz_c294, mz_c526, mz_c532, mz_c540, mz_c999, mz_c1900, mz_c2403, mz_c29362, mz_c29363, mz_c29364, mz_c29390, mz_c29393, mz_c29394, mz_c29398, mz_c29399, mz_c29400, mz_c29401, nI_add, pk_mul, pk_m1, mz_pp, mz_pq]; congr 1; omega)) ?_
          try simp only [mz_c0, mz_cm1]
          rcases hkd with hkd | hkd
          · -- flags
            rw [hkd, if_pos (show nI 0 = 0 from rfl)] at hr
            refine mz_br_t hC tk_X3_playOnMessage rfl ((by show ¬ f (mx_DA m0 k + 1) = mz_c 2; rw [hkd]; decide)) ?_
            refine mz_sn_ok hC tk_X3_playOnMessage pk_RX3 6 [β + 1] rfl (by (repeat' apply And.intro) <;> first | exact True.intro | assumption | (simp only [mz_cm1, mz_c0, mz_c1, mz_c2, mz_c3, mz_c4, mz_c5, mz_c6, mz_c7, mz_c8, mz_c10, mz_c17, mz_c20, mz_c28, mz_c58, mz_c63, mz_c98, mz_c294, mz_c526, mz_c532, mz_c540, mz_c999, mz_c1900, mz_c2403, mz_c29362, mz_c29363, mz_c29364, mz_c29390, mz_c29393, mz_c29394, mz_c29398, mz_c29399, mz_c29400, mz_c29401, nI_add, pk_mul, pk_m1, mz_pp, mz_pq]; done) | omega | (simp only [mz_cm1, mz_c0, mz_c1, mz_c2, mz_c3, mz_c4, mz_c5, mz_c6, mz_c7, mz_c8, mz_c10, mz_c17, mz_c20, mz_c28, mz_c58, mz_c63, mz_c98, mz_c294, mz_c526, mz_c532, mz_c540, mz_c999, mz_c1900, mz_c2403, mz_c29362, mz_c29363, mz_c29364, mz_c29390, mz_c29393, mz_c29394, mz_c29398, mz_c29399, mz_c29400, mz_c29401, nI_add, pk_mul, pk_m1, mz_pp, mz_pq]; congr 1; omega)) ?_
            try simp only [mz_c0, mz_cm1]
            refine mz_Vcv hC tk_X3_playOnMessage rfl md_X4_cell lk_RX3_97 rfl (ct_cell l E t1 (nI t) (nI 2)) (by show (vwCl[mz_K _ _]?).map _ = _; rw [k1]; rfl) ⟨Nat.le_of_ble_eq_true rfl, Nat.le_of_ble_eq_true rfl⟩ ⟨Nat.le_of_ble_eq_true rfl, Nat.le_of_ble_eq_true rfl⟩ (Nat.le_of_ble_eq_true rfl) (fun v9 G9 sz9 hp9 => ?_)
            obtain ⟨rfl, hG15, hs15⟩ := hp9
            rw [hG15, ← hs15, mt_c_in ht (by omega) (by omega) (by omega)]
            refine mz_sn_ok hC tk_X3_playOnMessage pk_RX3 4 [δ] rfl (by (repeat' apply And.intro) <;> first | exact True.intro | assumption | (simp only [mz_cm1, mz_c0, mz_c1, mz_c2, mz_c3, mz_c4, mz_c5, mz_c6, mz_c7, mz_c8, mz_c10, mz_c17, mz_c20, mz_c28, mz_c58, mz_c63, mz_c98, mz_c294, mz_c526, mz_c532, mz_c540, mz_c999, mz_c1900, mz_c2403, mz_c29362, mz_c29363, mz_c29364, mz_c29390, mz_c29393, mz_c29394, mz_c29398, mz_c29399, mz_c29400, mz_c29401, nI_add, pk_mul, pk_m1, mz_pp, mz_pq]; done) | omega | (simp only [mz_cm1, mz_c0, mz_c1, mz_c2, mz_c3, mz_c4, mz_c5, mz_c6, mz_c7, mz_c8, mz_c10, mz_c17, mz_c20, mz_c28, mz_c58, mz_c63, mz_c98, mz_c294, mz_c526, mz_c532, mz_c540, mz_c999, mz_c1900, mz_c2403, mz_c29362, mz_c29363, mz_c29364, mz_c29390, mz_c29393, mz_c29394, mz_c29398, mz_c29399, mz_c29400, mz_c29401, nI_add, pk_mul, pk_m1, mz_pp, mz_pq]; congr 1; omega)) ?_
            try simp only [mz_c0, mz_cm1]
            refine mz_Vcv hC tk_X3_playOnMessage rfl md_X4_cell lk_RX3_97 rfl (ct_cell l E td (nI k) (nI 4)) (by show (vwCl[mz_K _ _]?).map _ = _; rw [kd]; rfl) ⟨Nat.le_of_ble_eq_true rfl, Nat.le_of_ble_eq_true rfl⟩ ⟨Nat.le_of_ble_eq_true rfl, Nat.le_of_ble_eq_true rfl⟩ (Nat.le_of_ble_eq_true rfl) (fun v9 G9 sz9 hp9 => ?_)
            obtain ⟨rfl, hG16, hs16⟩ := hp9
            rw [hG16, ← hs16, mt_c_in hk (by omega) (by omega) (by omega), mr_DA]
            refine mz_sn_ok hC tk_X3_playOnMessage pk_RX3 4 [δ] rfl (by (repeat' apply And.intro) <;> first | exact True.intro | assumption | (simp only [mz_cm1, mz_c0, mz_c1, mz_c2, mz_c3, mz_c4, mz_c5, mz_c6, mz_c7, mz_c8, mz_c10, mz_c17, mz_c20, mz_c28, mz_c58, mz_c63, mz_c98, mz_c294, mz_c526, mz_c532, mz_c540, mz_c999, mz_c1900, mz_c2403, mz_c29362, mz_c29363, mz_c29364, mz_c29390, mz_c29393, mz_c29394, mz_c29398, mz_c29399, mz_c29400, mz_c29401, nI_add, pk_mul, pk_m1, mz_pp, mz_pq]; done) | omega | (simp only [mz_cm1, mz_c0, mz_c1, mz_c2, mz_c3, mz_c4, mz_c5, mz_c6, mz_c7, mz_c8, mz_c10, mz_c17, mz_c20, mz_c28, mz_c58, mz_c63, mz_c98, mz_c294, mz_c526, mz_c532, mz_c540, mz_c999, mz_c1900, mz_c2403, mz_c29362, mz_c29363, mz_c29364, mz_c29390, mz_c29393, mz_c29394, mz_c29398, mz_c29399, mz_c29400, mz_c29401, nI_add, pk_mul, pk_m1, mz_pp, mz_pq]; congr 1; omega)) ?_
            try simp only [mz_c0, mz_cm1]
            refine mz_Vcv hC tk_X3_playOnMessage rfl md_X4_cell lk_RX3_97 rfl (ct_cell l E td (nI k) (nI 5)) (by show (vwCl[mz_K _ _]?).map _ = _; rw [kd]; rfl) ⟨Nat.le_of_ble_eq_true rfl, Nat.le_of_ble_eq_true rfl⟩ ⟨Nat.le_of_ble_eq_true rfl, Nat.le_of_ble_eq_true rfl⟩ (Nat.le_of_ble_eq_true rfl) (fun v9 G9 sz9 hp9 => ?_)
            obtain ⟨rfl, hG17, hs17⟩ := hp9
            rw [hG17, ← hs17, mt_c_in hk (by omega) (by omega) (by omega), mr_DA]
            obtain ⟨fl, hfl⟩ : ∃ fl, fl = (f (98 * b + 17 + 1 + 4 * t + 2) &&& (f (mx_DA m0 k + 5) ^^^ -1)) ||| f (mx_DA m0 k + 4) := ⟨_, rfl⟩
            refine mz_Vcsn hC tk_X3_playOnMessage rfl md_X5_mixFlags (List.mem_of_getElem? (i := 2) rfl) rfl (cf_mixFlags l E (f (98 * b + 17 + 1 + 4 * t + 2)) (f (mx_DA m0 k + 4)) (f (mx_DA m0 k + 5))) ⟨Nat.le_of_ble_eq_true rfl, Nat.le_of_ble_eq_true rfl⟩ ⟨Nat.le_of_ble_eq_true rfl, Nat.le_of_ble_eq_true rfl⟩ (Nat.le_of_ble_eq_true rfl) (fun v9 G9 sz9 hp9 => ?_)
            obtain ⟨rfl, hG18, hs18⟩ := hp9
            rw [hG18, ← hs18, ← hfl]
            refine mz_Vcv hC tk_X3_playOnMessage rfl md_X0_changeFlags lk_RX3_161 rfl (cb_changeFlags l E hB t ht fl) (by show (vwCl[mz_K _ _]?).map _ = _; rw [hKb]; rfl) ⟨Nat.le_of_ble_eq_true rfl, Nat.le_of_ble_eq_true rfl⟩ ⟨Nat.le_of_ble_eq_true rfl, Nat.le_of_ble_eq_true rfl⟩ (Nat.le_of_ble_eq_true rfl) (fun v1 G1 sz1 hp1 => ?_)
            obtain ⟨rfl, hs19, hB1, hF1⟩ := hp1
            rw [← hs19]
            obtain ⟨f1, hf1⟩ : ∃ f1, f1 = mx_ch f b t fl := ⟨_, rfl⟩
            have o1 : ∀ i, i < 98 * b ∨ 98 * b + 98 ≤ i → f1 i = f i := fun i hi => by rw [hf1]; exact mx_ch_o f b t fl (by omega) (by omega) (by omega)
            rw [← hf1] at hB1
            have ed1 : mx_d1 f (mx_DA m0 k) b t = f1 := by unfold mx_d1; rw [hf1, hfl]
            have hY1 := (hY.fr hF1 (fun z => by rcases z with z | z | z <;> omega) (fun z => by rcases z with z | z | z <;> omega)).cong (f' := f1) (fun i h1 h2 => o1 i (by omega))
            have hF1z : mt_F (mr_Z σ) G G1 O O sz sz := hF1.mono (fun q hq => by unfold mr_Z; rcases hq with hq | hq | hq <;> omega)
            have hS1 : mr_S G1 O sz σ f1 Λ := by
              rw [hβ] at hF1 hB1
              exact hS.box hb hF1 hB1 o1
            obtain ⟨⟨⟨⟨hKb1, -⟩, -⟩, r41, -⟩, ⟨t11, -⟩, -⟩ := id hB1
            obtain ⟨⟨⟨⟨hKc1, -⟩, -⟩, q21⟩, tc1⟩ := id hY1.1
            have k11 := t11.K
            have kc1 := tc1.K
            refine mz_sn_ok hC tk_X3_playOnMessage pk_RX3 8 [γ + 1, β + 1] rfl (by (repeat' apply And.intro) <;> first | exact True.intro | assumption | (simp only [mz_cm1, mz_c0, mz_c1, mz_c2, mz_c3, mz_c4, mz_c5, mz_c6, mz_c7, mz_c8, mz_c10, mz_c17, mz_c20, mz_c28, mz_c58, mz_c63, mz_c98, mz_c294, mz_c526, mz_c532, mz_c540, mz_c999, mz_c1900, mz_c2403, mz_c29362, mz_c29363, mz_c29364, mz_c29390, mz_c29393, mz_c29394, mz_c29398, mz_c29399, mz_c29400, mz_c29401, nI_add, pk_mul, pk_m1, mz_pp, mz_pq]; done) | omega | (simp only [mz_cm1, mz_c0, mz_c1, mz_c2, mz_c3, mz_c4, mz_c5, mz_c6, mz_c7, mz_c8, mz_c10, mz_c17, mz_c20, mz_c28, mz_c58, mz_c63, mz_c98, mz_c294, mz_c526, mz_c532, mz_c540, mz_c999, mz_c1900, mz_c2403, mz_c29362, mz_c29363, mz_c29364, mz_c29390, mz_c29393, mz_c29394, mz_c29398, mz_c29399, mz_c29400, mz_c29401, nI_add, pk_mul, pk_m1, mz_pp, mz_pq]; congr 1; omega)) ?_
            try simp only [mz_c0, mz_cm1]
            refine mz_Vcv hC tk_X3_playOnMessage rfl md_X4_cell lk_RX3_97 rfl (ct_cell l E t11 (nI t) (nI 2)) (by show (vwCl[mz_K _ _]?).map _ = _; rw [k11]; rfl) ⟨Nat.le_of_ble_eq_true rfl, Nat.le_of_ble_eq_true rfl⟩ ⟨Nat.le_of_ble_eq_true rfl, Nat.le_of_ble_eq_true rfl⟩ (Nat.le_of_ble_eq_true rfl) (fun v9 G9 sz9 hp9 => ?_)
            obtain ⟨rfl, hG20, hs20⟩ := hp9
            rw [hG20, ← hs20, mt_c_in ht (by omega) (by omega) (by omega)]
            refine mz_Vcv hC tk_X3_playOnMessage rfl md_X4_put lk_RX3_52 rfl (ct_put l E tc1 h 2 (f1 (98 * b + 17 + 1 + 4 * t + 2)) hh (by omega)) (by show (vwCl[mz_K _ _]?).map _ = _; rw [kc1]; rfl) ⟨Nat.le_of_ble_eq_true rfl, Nat.le_of_ble_eq_true rfl⟩ ⟨Nat.le_of_ble_eq_true rfl, Nat.le_of_ble_eq_true rfl⟩ (Nat.le_of_ble_eq_true rfl) (fun v3 G3 sz3 hp3 => ?_)
            obtain ⟨rfl, hs21, t3, hF3⟩ := hp3
            rw [← hs21]
            have hY3 := hY1.put hF3 hh (by omega) t3
            have hB3 := hB1.fr hF3 (fun z => by omega) (fun z => by omega) (fun z => by omega)
            obtain ⟨⟨⟨⟨hKb3, -⟩, -⟩, r43, -⟩, ⟨t13, -⟩, -⟩ := id hB3
            obtain ⟨⟨⟨⟨hKc3, -⟩, -⟩, q23⟩, tc3⟩ := id hY3.1
            have k13 := t13.K
            have kc3 := tc3.K
            refine mz_sn_ok hC tk_X3_playOnMessage pk_RX3 8 [γ + 1, β + 1] rfl (by (repeat' apply And.intro) <;> first | exact True.intro | assumption | (simp only [mz_cm1, mz_c0, mz_c1, mz_c2, mz_c3, mz_c4, mz_c5, mz_c6, mz_c7, mz_c8, mz_c10, mz_c17, mz_c20, mz_c28, mz_c58, mz_c63, mz_c98, mz_c294, mz_c526, mz_c532, mz_c540, mz_c999, mz_c1900, mz_c2403, mz_c29362, mz_c29363, mz_c29364, mz_c29390, mz_c29393, mz_c29394, mz_c29398, mz_c29399, mz_c29400, mz_c29401, nI_add, pk_mul, pk_m1, mz_pp, mz_pq]; done) | omega | (simp only [mz_cm1, mz_c0, mz_c1, mz_c2, mz_c3, mz_c4, mz_c5, mz_c6, mz_c7, mz_c8, mz_c10, mz_c17, mz_c20, mz_c28, mz_c58, mz_c63, mz_c98, mz_c294, mz_c526, mz_c532, mz_c540, mz_c999, mz_c1900, mz_c2403, mz_c29362, mz_c29363, mz_c29364, mz_c29390, mz_c29393, mz_c29394, mz_c29398, mz_c29399, mz_c29400, mz_c29401, nI_add, pk_mul, pk_m1, mz_pp, mz_pq]; congr 1; omega)) ?_
            try simp only [mz_c0, mz_cm1]
            refine mz_Vcv hC tk_X3_playOnMessage rfl md_X4_cell lk_RX3_97 rfl (ct_cell l E t13 (nI t) (nI 3)) (by show (vwCl[mz_K _ _]?).map _ = _; rw [k13]; rfl) ⟨Nat.le_of_ble_eq_true rfl, Nat.le_of_ble_eq_true rfl⟩ ⟨Nat.le_of_ble_eq_true rfl, Nat.le_of_ble_eq_true rfl⟩ (Nat.le_of_ble_eq_true rfl) (fun v9 G9 sz9 hp9 => ?_)
            obtain ⟨rfl, hG22, hs22⟩ := hp9
            rw [hG22, ← hs22, mt_c_in ht (by omega) (by omega) (by omega)]
            refine mz_Vcv hC tk_X3_playOnMessage rfl md_X4_put lk_RX3_52 rfl (ct_put l E tc3 h 3 (f1 (98 * b + 17 + 1 + 4 * t + 3)) hh (by omega)) (by show (vwCl[mz_K _ _]?).map _ = _; rw [kc3]; rfl) ⟨Nat.le_of_ble_eq_true rfl, Nat.le_of_ble_eq_true rfl⟩ ⟨Nat.le_of_ble_eq_true rfl, Nat.le_of_ble_eq_true rfl⟩ (Nat.le_of_ble_eq_true rfl) (fun v4 G4 sz4 hp4 => ?_)
            obtain ⟨rfl, hs23, t4, hF4⟩ := hp4
            rw [← hs23]
            have hY4 := hY3.put hF4 hh (by omega) t4
            have hF34 : mt_F (mr_Y γ (γ + 1)) G1 G4 O O sz sz := (hF3.mono (fun q hq => Or.inr hq)).tr (hF4.mono (fun q hq => Or.inr hq))
            have hF34z : mt_F (mr_Z σ) G1 G4 O O sz sz := hF34.mono (fun q hq => by unfold mr_Z; rcases hq with hq | hq <;> omega)
            obtain ⟨f4, hf4⟩ : ∃ f4, f4 = mz_u1 (mz_u1 f1 (mx_CA m0 b + 2 + 1 + 4 * h + 2) (f1 (98 * b + 17 + 1 + 4 * t + 2))) (mx_CA m0 b + 2 + 1 + 4 * h + 3) (f1 (98 * b + 17 + 1 + 4 * t + 3)) := ⟨_, rfl⟩
            rw [← hf4] at hY4
            have hS4 : mr_S G4 O sz σ f4 Λ := by
              rw [hγ] at hF34 hY4
              have := hS1.cp hm hb hF34 hY4 hch (fun i hi => by rw [hf4, mz_u1_o _ _ (by omega), mz_u1_o _ _ (by omega)])
              rw [cpid] at this
              exact this
            have hzz : mz_fz (mx_nm f1 (mx_CA m0 b + 2)) name cc = some h := by
              rw [← hzc]
              exact mz_fz_cong (fun j hj => o1 _ (by omega))
            have hpu : mx_pu f1 (mx_CA m0 b + 2) cc name (f1 (mx_CA m0 b + 2 + 1 + 4 * h + 1)) (f1 (98 * b + 17 + 1 + 4 * t + 2)) (f1 (98 * b + 17 + 1 + 4 * t + 3)) = f4 := by
              unfold mx_pu
              rw [hzz, hf4]
              dsimp only
              funext i
              simp only [mx_rw, mz_u1]
              by_cases x3 : i = mx_CA m0 b + 2 + 1 + 4 * h + 3
              · rw [if_pos x3, if_pos x3]
              · rw [if_neg x3, if_neg x3]
                by_cases x2 : i = mx_CA m0 b + 2 + 1 + 4 * h + 2
                · rw [if_pos x2, if_pos x2]
                · rw [if_neg x2, if_neg x2]
                  by_cases x1 : i = mx_CA m0 b + 2 + 1 + 4 * h + 1
                  · rw [if_pos x1, x1]
                  · rw [if_neg x1]
                    by_cases x0 : i = mx_CA m0 b + 2 + 1 + 4 * h
                    · rw [if_pos x0, x0, o1 _ (by omega)]
                      exact hhn.symm
                    · rw [if_neg x0]
            rw [ed1, ← hnm0, hpu] at hr
            refine mz_V.sub (lv' := [some (.ref κ), none, none, none, none, none, none, some (.int w)]) (by (repeat' apply And.intro) <;> first | with_reducible rfl | exact True.intro | (simp only [mz_cm1, mz_c0, mz_c1, mz_c2, mz_c3, mz_c4, mz_c5, mz_c6, mz_c7, mz_c8, mz_c10, mz_c17, mz_c20, mz_c28, mz_c58, mz_c63, mz_c98, mz_c294, mz_c526, mz_c532, mz_c540, mz_c999, mz_c1900, mz_c2403, mz_c29362, mz_c29363, mz_c29364, mz_c29390, mz_c29393, mz_c29394, mz_c29398, mz_c29399, mz_c29400, mz_c29401, nI_add, pk_mul, pk_m1, mz_pp, mz_pq]; done) | rfl) ?_
            exact ends w G4 O f4 _ hw hr.symm hS4 (hF1z.tr hF34z)
          · -- removal
            rw [hkd, if_neg (show ¬ nI 2 = 0 by decide)] at hr
            refine mz_br_f hC tk_X3_playOnMessage rfl ((by show ¬ ¬ f (mx_DA m0 k + 1) = mz_c 2; exact fun z => z hkd)) ?_
            refine mz_sn_ok hC tk_X3_playOnMessage pk_RX3 2 [] rfl (by (repeat' apply And.intro) <;> first | exact True.intro | assumption | (simp only [mz_cm1, mz_c0, mz_c1, mz_c2, mz_c3, mz_c4, mz_c5, mz_c6, mz_c7, mz_c8, mz_c10, mz_c17, mz_c20, mz_c28, mz_c58, mz_c63, mz_c98, mz_c294, mz_c526, mz_c532, mz_c540, mz_c999, mz_c1900, mz_c2403, mz_c29362, mz_c29363, mz_c29364, mz_c29390, mz_c29393, mz_c29394, mz_c29398, mz_c29399, mz_c29400, mz_c29401, nI_add, pk_mul, pk_m1, mz_pp, mz_pq]; done) | omega | (simp only [mz_cm1, mz_c0, mz_c1, mz_c2, mz_c3, mz_c4, mz_c5, mz_c6, mz_c7, mz_c8, mz_c10, mz_c17, mz_c20, mz_c28, mz_c58, mz_c63, mz_c98, mz_c294, mz_c526, mz_c532, mz_c540, mz_c999, mz_c1900, mz_c2403, mz_c29362, mz_c29363, mz_c29364, mz_c29390, mz_c29393, mz_c29394, mz_c29398, mz_c29399, mz_c29400, mz_c29401, nI_add, pk_mul, pk_m1, mz_pp, mz_pq]; congr 1; omega)) ?_
            try simp only [mz_c0, mz_cm1]
            refine mz_Vcv hC tk_X3_playOnMessage rfl md_X0_removeMessage lk_RX3_154 rfl (cb_removeMessage l E hB hb t ht) (by show (vwCl[mz_K _ _]?).map _ = _; rw [hKb]; rfl) ⟨Nat.le_of_ble_eq_true rfl, Nat.le_of_ble_eq_true rfl⟩ ⟨Nat.le_of_ble_eq_true rfl, Nat.le_of_ble_eq_true rfl⟩ (Nat.le_of_ble_eq_true rfl) (fun v1 G1 sz1 hp1 => ?_)
            obtain ⟨rfl, hs15, O1, hB1, hF1⟩ := hp1
            rw [← hs15]
            obtain ⟨f1, hf1⟩ : ∃ f1, f1 = mx_rm f b cnt g t := ⟨_, rfl⟩
            have o1 : ∀ i, i < 98 * b ∨ 98 * b + 98 ≤ i → f1 i = f i := fun i hi => by rw [hf1]; exact mx_rm_o f c20 g6 ht hi
            rw [← hf1] at hB1 hr
            have hY1 := (hY.fr hF1 (fun z => by rcases z with z | z | z <;> omega) (fun z => by rcases z with z | z | z <;> omega)).cong (f' := f1) (fun i h1 h2 => o1 i (by omega))
            have hF1z : mt_F (mr_Z σ) G G1 O O1 sz sz := hF1.mono (fun q hq => by unfold mr_Z; rcases hq with hq | hq | hq <;> omega)
            have hS1 : mr_S G1 O1 sz σ f1 Λ := by
              rw [hβ] at hF1 hB1
              exact hS.box hb hF1 hB1 o1
            have hKc1 := hY1.1.1.1.1.1
            have hzz : mz_fz (mx_nm f1 (mx_CA m0 b + 2)) name cc = some h := by
              rw [← hzc]
              exact mz_fz_cong (fun j hj => o1 _ (by omega))
            refine mz_sn_ok hC tk_X3_playOnMessage pk_RX3 2 [] rfl (by (repeat' apply And.intro) <;> first | exact True.intro | assumption | (simp only [mz_cm1, mz_c0, mz_c1, mz_c2, mz_c3, mz_c4, mz_c5, mz_c6, mz_c7, mz_c8, mz_c10, mz_c17, mz_c20, mz_c28, mz_c58, mz_c63, mz_c98, mz_c294, mz_c526, mz_c532, mz_c540, mz_c999, mz_c1900, mz_c2403, mz_c29362, mz_c29363, mz_c29364, mz_c29390, mz_c29393, mz_c29394, mz_c29398, mz_c29399, mz_c29400, mz_c29401, nI_add, pk_mul, pk_m1, mz_pp, mz_pq]; done) | omega | (simp only [mz_cm1, mz_c0, mz_c1, mz_c2, mz_c3, mz_c4, mz_c5, mz_c6, mz_c7, mz_c8, mz_c10, mz_c17, mz_c20, mz_c28, mz_c58, mz_c63, mz_c98, mz_c294, mz_c526, mz_c532, mz_c540, mz_c999, mz_c1900, mz_c2403, mz_c29362, mz_c29363, mz_c29364, mz_c29390, mz_c29393, mz_c29394, mz_c29398, mz_c29399, mz_c29400, mz_c29401, nI_add, pk_mul, pk_m1, mz_pp, mz_pq]; congr 1; omega)) ?_
            try simp only [mz_c0, mz_cm1]
            refine mz_Vcv hC tk_X3_playOnMessage rfl md_X1_dropMessage lk_RX3_148 rfl (cc_dropMessage l E hY1.1 name (mx_dr f1 (mx_CA m0 b + 2) cc h, cc - 1) (by rw [hzz])) (by show (vwCl[mz_K _ _]?).map _ = _; rw [hKc1]; rfl) ⟨Nat.le_of_ble_eq_true rfl, Nat.le_of_ble_eq_true rfl⟩ ⟨Nat.le_of_ble_eq_true rfl, Nat.le_of_ble_eq_true rfl⟩ (Nat.le_of_ble_eq_true rfl) (fun v2 G2 sz2 hp2 => ?_)
            obtain ⟨rfl, hs16, hY2, hF2⟩ := hp2
            rw [← hs16]
            refine mz_sn_ok hC tk_X3_playOnMessage pk_RX3 1 [] rfl (by (repeat' apply And.intro) <;> first | exact True.intro | assumption | (simp only [mz_cm1, mz_c0, mz_c1, mz_c2, mz_c3, mz_c4, mz_c5, mz_c6, mz_c7, mz_c8, mz_c10, mz_c17, mz_c20, mz_c28, mz_c58, mz_c63, mz_c98, mz_c294, mz_c526, mz_c532, mz_c540, mz_c999, mz_c1900, mz_c2403, mz_c29362, mz_c29363, mz_c29364, mz_c29390, mz_c29393, mz_c29394, mz_c29398, mz_c29399, mz_c29400, mz_c29401, nI_add, pk_mul, pk_m1, mz_pp, mz_pq]; done) | omega | (simp only [mz_cm1, mz_c0, mz_c1, mz_c2, mz_c3, mz_c4, mz_c5, mz_c6, mz_c7, mz_c8, mz_c10, mz_c17, mz_c20, mz_c28, mz_c58, mz_c63, mz_c98, mz_c294, mz_c526, mz_c532, mz_c540, mz_c999, mz_c1900, mz_c2403, mz_c29362, mz_c29363, mz_c29364, mz_c29390, mz_c29393, mz_c29394, mz_c29398, mz_c29399, mz_c29400, mz_c29401, nI_add, pk_mul, pk_m1, mz_pp, mz_pq]; congr 1; omega)) ?_
            try simp only [mz_c0, mz_cm1]
            have hY3 : mr_C G2 O1 sz γ (γ + 1) (mx_dr f1 (mx_CA m0 b + 2) cc h) m0 b (cc - 1) (Λ m0 b) := by
              obtain ⟨⟨⟨hk2, w0, w1⟩, w2⟩, w3⟩ := hY2
              exact ⟨⟨⟨⟨hk2, by rw [mx_dr_o f1 hh (by omega)]; exact w0, by rw [mx_dr_o f1 hh (by omega)]; exact w1⟩, w2⟩, w3⟩, mx_dr_n f1⟩
            have hF2z : mt_F (mr_Z σ) G1 G2 O1 O1 sz sz := hF2.mono (fun q hq => by unfold mr_Z; rcases hq with hq | hq <;> omega)
            have hS2 : mr_S G2 O1 sz σ (mx_dr f1 (mx_CA m0 b + 2) cc h) Λ := by
              rw [hγ] at hF2 hY3
              have := hS1.cp hm hb hF2 hY3 hch (fun i hi => mx_dr_o f1 hh (by omega))
              rw [cpid] at this
              exact this
            refine mz_V.sub (lv' := [some (.ref κ), none, none, none, none, none, none, some (.int w)]) (by (repeat' apply And.intro) <;> first | with_reducible rfl | exact True.intro | (simp only [mz_cm1, mz_c0, mz_c1, mz_c2, mz_c3, mz_c4, mz_c5, mz_c6, mz_c7, mz_c8, mz_c10, mz_c17, mz_c20, mz_c28, mz_c58, mz_c63, mz_c98, mz_c294, mz_c526, mz_c532, mz_c540, mz_c999, mz_c1900, mz_c2403, mz_c29362, mz_c29363, mz_c29364, mz_c29390, mz_c29393, mz_c29394, mz_c29398, mz_c29399, mz_c29400, mz_c29401, nI_add, pk_mul, pk_m1, mz_pp, mz_pq]; done) | rfl) ?_
            exact ends w G2 O1 _ _ hw hr.symm hS2 (hF1z.tr hF2z)
        by_cases hx : mx_tc f m0 b t h
        · refine mz_br_f hC tk_X3_playOnMessage rfl ((by show ¬ mr_h f (98 * b + 17) 4 t 3 ≤ mr_h f (mx_CA m0 b + 2) 4 h 3; exact hx)) ?_
          refine mz_sn_ok hC tk_X3_playOnMessage pk_RX3 4 [] rfl (by (repeat' apply And.intro) <;> first | exact True.intro | assumption | (simp only [mz_cm1, mz_c0, mz_c1, mz_c2, mz_c3, mz_c4, mz_c5, mz_c6, mz_c7, mz_c8, mz_c10, mz_c17, mz_c20, mz_c28, mz_c58, mz_c63, mz_c98, mz_c294, mz_c526, mz_c532, mz_c540, mz_c999, mz_c1900, mz_c2403, mz_c29362, mz_c29363, mz_c29364, mz_c29390, mz_c29393, mz_c29394, mz_c29398, mz_c29399, mz_c29400, mz_c29401, nI_add, pk_mul, pk_m1, mz_pp, mz_pq]; done) | omega | (simp only [mz_cm1, mz_c0, mz_c1, mz_c2, mz_c3, mz_c4, mz_c5, mz_c6, mz_c7, mz_c8, mz_c10, mz_c17, mz_c20, mz_c28, mz_c58, mz_c63, mz_c98, mz_c294, mz_c526, mz_c532, mz_c540, mz_c999, mz_c1900, mz_c2403, mz_c29362, mz_c29363, mz_c29364, mz_c29390, mz_c29393, mz_c29394, mz_c29398, mz_c29399, mz_c29400, mz_c29401, nI_add, pk_mul, pk_m1, mz_pp, mz_pq]; congr 1; omega)) ?_
          try simp only [mz_c0, mz_cm1]
          refine mz_br_f hC tk_X3_playOnMessage rfl ((by show ¬ mz_c 1 = 0; decide)) ?_
          refine mz_sn_ok hC tk_X3_playOnMessage pk_RX3 3 [] rfl (by (repeat' apply And.intro) <;> first | exact True.intro | assumption | (simp only [mz_cm1, mz_c0, mz_c1, mz_c2, mz_c3, mz_c4, mz_c5, mz_c6, mz_c7, mz_c8, mz_c10, mz_c17, mz_c20, mz_c28, mz_c58, mz_c63, mz_c98, mz_c294, mz_c526, mz_c532, mz_c540, mz_c999, mz_c1900, mz_c2403, mz_c29362, mz_c29363, mz_c29364, mz_c29390, mz_c29393, mz_c29394, mz_c29398, mz_c29399, mz_c29400, mz_c29401, nI_add, pk_mul, pk_m1, mz_pp, mz_pq, hpo]; done) | omega | (simp only [mz_cm1, mz_c0, mz_c1, mz_c2, mz_c3, mz_c4, mz_c5, mz_c6, mz_c7, mz_c8, mz_c10, mz_c17, mz_c20, mz_c28, mz_c58, mz_c63, mz_c98, mz_c294, mz_c526, mz_c532, mz_c540, mz_c999, mz_c1900, mz_c2403, mz_c29362, mz_c29363, mz_c29364, mz_c29390, mz_c29393, mz_c29394, mz_c29398, mz_c29399, mz_c29400, mz_c29401, nI_add, pk_mul, pk_m1, mz_pp, mz_pq, hpo]; congr 1; omega)) ?_
          try simp only [mz_c0, mz_cm1, hpo]
          by_cases hp1 : f (294 + 58 * m0) = nI 1
          · refine mz_br_f hC tk_X3_playOnMessage rfl ((by show ¬ ¬ f (294 + 58 * m0) = mz_c 1; exact fun z => z hp1)) ?_
            rw [if_pos ⟨hx, hp1⟩] at hr
            refine mz_sn_ok hC tk_X3_playOnMessage pk_RX3 1 [] rfl (by (repeat' apply And.intro) <;> first | exact True.intro | assumption | (simp only [mz_cm1, mz_c0, mz_c1, mz_c2, mz_c3, mz_c4, mz_c5, mz_c6, mz_c7, mz_c8, mz_c10, mz_c17, mz_c20, mz_c28, mz_c58, mz_c63, mz_c98, mz_c294, mz_c526, mz_c532, mz_c540, mz_c999, mz_c1900, mz_c2403, mz_c29362, mz_c29363, mz_c29364, mz_c29390, mz_c29393, mz_c29394, mz_c29398, mz_c29399, mz_c29400, mz_c29401, nI_add, pk_mul, pk_m1, mz_pp, mz_pq]; done) | omega | (simp only [mz_cm1, mz_c0, mz_c1, mz_c2, mz_c3, mz_c4, mz_c5, mz_c6, mz_c7, mz_c8, mz_c10, mz_c17, mz_c20, mz_c28, mz_c58, mz_c63, mz_c98, mz_c294, mz_c526, mz_c532, mz_c540, mz_c999, mz_c1900, mz_c2403, mz_c29362, mz_c29363, mz_c29364, mz_c29390, mz_c29393, mz_c29394, mz_c29398, mz_c29399, mz_c29400, mz_c29401, nI_add, pk_mul, pk_m1, mz_pp, mz_pq]; congr 1; omega)) ?_
            try simp only [mz_c0, mz_cm1]
            refine mz_Vireturn hC tk_X3_playOnMessage rfl hret rfl (Nat.le_of_ble_eq_true rfl) (Nat.le_of_ble_eq_true rfl) ?_
            rw [← hr]
            exact ⟨rfl, rfl, O, hS, mt_F.rf⟩
          · refine mz_br_t hC tk_X3_playOnMessage rfl ((by show ¬ f (294 + 58 * m0) = mz_c 1; exact hp1)) ?_
            exact work (mz_c 1) (by rw [if_pos hx]; rfl) (fun z => hp1 z.2)
        · refine mz_br_t hC tk_X3_playOnMessage rfl ((by show mr_h f (98 * b + 17) 4 t 3 ≤ mr_h f (mx_CA m0 b + 2) 4 h 3; exact Decidable.not_not.mp hx)) ?_
          refine mz_sn_ok hC tk_X3_playOnMessage pk_RX3 3 [] rfl (by (repeat' apply And.intro) <;> first | exact True.intro | assumption | (simp only [mz_cm1, mz_c0, mz_c1, mz_c2, mz_c3, mz_c4, mz_c5, mz_c6, mz_c7, mz_c8, mz_c10, mz_c17, mz_c20, mz_c28, mz_c58, mz_c63, mz_c98, mz_c294, mz_c526, mz_c532, mz_c540, mz_c999, mz_c1900, mz_c2403, mz_c29362, mz_c29363, mz_c29364, mz_c29390, mz_c29393, mz_c29394, mz_c29398, mz_c29399, mz_c29400, mz_c29401, nI_add, pk_mul, pk_m1, mz_pp, mz_pq]; done) | omega | (simp only [mz_cm1, mz_c0, mz_c1, mz_c2, mz_c3, mz_c4, mz_c5, mz_c6, mz_c7, mz_c8, mz_c10, mz_c17, mz_c20, mz_c28, mz_c58, mz_c63, mz_c98, mz_c294, mz_c526, mz_c532, mz_c540, mz_c999, mz_c1900, mz_c2403, mz_c29362, mz_c29363, mz_c29364, mz_c29390, mz_c29393, mz_c29394, mz_c29398, mz_c29399, mz_c29400, mz_c29401, nI_add, pk_mul, pk_m1, mz_pp, mz_pq]; congr 1; omega)) ?_
          try simp only [mz_c0, mz_cm1]
          refine mz_br_t hC tk_X3_playOnMessage rfl ((by show mz_c 0 = 0; rfl)) ?_
          exact work (mz_c 0) (by rw [if_neg hx]; rfl) (fun z => hx z.1)
  · rw [if_neg he] at hr
    refine mz_br_f hC tk_X3_playOnMessage rfl ((by show ¬ f (mx_CA m0 b) = f (98 * b + 0); exact he)) ?_
    refine mz_sn_ok hC tk_X3_playOnMessage pk_RX3 1 [] rfl (by (repeat' apply And.intro) <;> first | exact True.intro | assumption | (simp only [mz_cm1, mz_c0, mz_c1, mz_c2, mz_c3, mz_c4, mz_c5, mz_c6, mz_c7, mz_c8, mz_c10, mz_c17, mz_c20, mz_c28, mz_c58, mz_c63, mz_c98, mz_c294, mz_c526, mz_c532, mz_c540, mz_c999, mz_c1900, mz_c2403, mz_c29362, mz_c29363, mz_c29364, mz_c29390, mz_c29393, mz_c29394, mz_c29398, mz_c29399, mz_c29400, mz_c29401, nI_add, pk_mul, pk_m1, mz_pp, mz_pq]; done) | omega | (simp only [mz_cm1, mz_c0, mz_c1, mz_c2, mz_c3, mz_c4, mz_c5, mz_c6, mz_c7, mz_c8, mz_c10, mz_c17, mz_c20, mz_c28, mz_c58, mz_c63, mz_c98, mz_c294, mz_c526, mz_c532, mz_c540, mz_c999, mz_c1900, mz_c2403, mz_c29362, mz_c29363, mz_c29364, mz_c29390, mz_c29393, mz_c29394, mz_c29398, mz_c29399, mz_c29400, mz_c29401, nI_add, pk_mul, pk_m1, mz_pp, mz_pq]; congr 1; omega)) ?_
    try simp only [mz_c0, mz_cm1]
    refine mz_Vireturn hC tk_X3_playOnMessage rfl hret rfl (Nat.le_of_ble_eq_true rfl) (Nat.le_of_ble_eq_true rfl) ?_
    rw [← hr]
    exact ⟨rfl, rfl, O, hS, mt_F.rf⟩
end MRS

