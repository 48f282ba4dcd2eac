/-! ===== the class: a deed with a new message, a deed on a message ===== -/
/-- what all copies of a State may still cost -/
def mr_Ph (Λ : Nat → Nat → Nat) : Nat := (mr_ph (Λ 0 0) + mr_ph (Λ 0 1) + mr_ph (Λ 0 2)) + (mr_ph (Λ 1 0) + mr_ph (Λ 1 1) + mr_ph (Λ 1 2)) + (mr_ph (Λ 2 0) + mr_ph (Λ 2 1) + mr_ph (Λ 2 2)) + (mr_ph (Λ 3 0) + mr_ph (Λ 3 1) + mr_ph (Λ 3 2))
theorem mr_Ph_u (Λ : Nat → Nat → Nat) {m b : Nat} (hm : m < 4) (hb : b < 3) (v : Nat) : mr_Ph (mz_u1 Λ m (mz_u1 (Λ m) b v)) + mr_ph (Λ m b) = mr_Ph Λ + mr_ph v := by
  rcases (show m = 0 ∨ m = 1 ∨ m = 2 ∨ m = 3 by omega) with rfl | rfl | rfl | rfl <;> rcases (show b = 0 ∨ b = 1 ∨ b = 2 by omega) with rfl | rfl | rfl <;> (simp only [mr_Ph, mz_u1]; simp only [mz_u1, if_true, show (0 : Nat) ≠ 1 by decide, show (0 : Nat) ≠ 2 by decide, show (0 : Nat) ≠ 3 by decide, show (1 : Nat) ≠ 0 by decide, show (1 : Nat) ≠ 2 by decide, show (1 : Nat) ≠ 3 by decide, show (2 : Nat) ≠ 0 by decide, show (2 : Nat) ≠ 1 by decide, show (2 : Nat) ≠ 3 by decide, show (3 : Nat) ≠ 0 by decide, show (3 : Nat) ≠ 1 by decide, show (3 : Nat) ≠ 2 by decide, if_false]; omega)
theorem mr_lg_id (Λ : Nat → Nat → Nat) {m b N : Nat} (h : N * 4 ≤ Λ m b) : mr_lg Λ m b N = Λ := by
  unfold mr_lg
  rw [mt_gr_id 4 532 h, mz_u1_id, mz_u1_id]
theorem mr_C.put {G G' : mz_G} {O O' : Nat → Nat} {sz sz' γ τ : Nat} {f : Nat → Int32} {m b cc len k j : Nat} {v : Int32} (hY : mr_C G O sz γ τ f m b cc len) (hF : mt_F (fun q => q = τ) G G' O O' sz sz') (hk : k < cc) (hj : j < 4) (ht : mt_T G' O' sz' τ 4 532 cc len (mt_u (mr_h f (mx_CA m b + 2) 4) k j v)) : mr_C G' O' sz' γ τ (mz_u1 f (mx_CA m b + 2 + 1 + 4 * k + j) v) m b cc len := by
  obtain ⟨⟨⟨⟨hk', i0, i1⟩, r2⟩, t⟩, hc⟩ := And.intro (hY.1.msg hF ht) hY.2
  refine ⟨⟨⟨⟨hk', ?_, ?_⟩, r2⟩, t.same (fun k' j' h1 h2 => ?_)⟩, ?_⟩
  · rw [mz_u1_o _ _ (by omega)]; exact i0
  · rw [mz_u1_o _ _ (by omega)]; exact i1
  · simp only [mt_u, mr_h, mz_u1]
    by_cases hh : k' = k ∧ j' = j
    · rw [if_pos hh, if_pos (by omega)]
    · rw [if_neg hh, if_neg (by omega)]
  · rw [mz_u1_o _ _ (by omega)]; exact hc
section MRS
variable (l : Launch) (E : mz_E) {G : mz_G} {O : Nat → Nat} {sz σ : Nat} {f : Nat → Int32} {Λ : Nat → Nat → Nat}
theorem cs_playNew (hS : mr_S G O sz σ f Λ) (m0 b k : Nat) (hm : m0 < 4) (hb : b < 3) (hk : k < mx_nD f m0) (hasc : ∀ k, k < mx_cB f b → mx_nm f (98 * b + 17) k < f (98 * b + 1)) (hso : mr_so f (mx_CA m0 b + 2) (mx_cC f m0 b)) (hcc : mx_cC f m0 b < 532) (f' : Nat → Int32) (oc : Int32) (hf' : (f', oc) = if mx_cB f b < 20 then (mx_gN f m0 (mx_DA m0 k) b (mx_cB f b) (mx_cC f m0 b), 0) else (f, nI 5)) (U : Nat) (hU : U = mr_Ph Λ - mr_Ph (mr_lg Λ m0 b (mx_cC f' m0 b))) : mz_M l E yX3_playNew cX3_playNew 7 (some .int) 7 U U [.ref (σ + 21 + 13 * m0 + 2), .int (nI k), .ref (σ + 6 + 5 * b), .ref (σ + 21 + 13 * m0 + 4 + 3 * b)] G sz (fun v' G' sz' => v' = some (.int oc) ∧ ∃ O', mr_S G' O' sz' σ f' (mr_lg Λ m0 b (mx_cC f' m0 b)) ∧ mt_F (mr_Z σ) G G' O O' sz sz') := by
  have hCA : 526 ≤ mx_CA m0 b ∧ mx_CA m0 b + 2403 ≤ 29362 := by unfold mx_CA; omega
  have hDA : mx_DA m0 k = 294 + 58 * m0 + 2 + 7 * k := rfl
  have hB := hS.2.2.1 b hb
  obtain ⟨hY, hch⟩ := (hS.2.2.2 m0 hm).2.2 b hb
  obtain ⟨⟨hKm, rm2⟩, td⟩ := (hS.2.2.2 m0 hm).d
  have kd := td.K
  have n8 := td.b.1
  have c20 := hB.2.1.1.b.1
  have g6 := hB.2.1.2.b.1
  have c532 := hY.1.2.b.1
  obtain ⟨γ, hγ⟩ : ∃ γ, γ = σ + 21 + 13 * m0 + 4 + 3 * b := ⟨_, rfl⟩
  obtain ⟨β, hβ⟩ : ∃ β, β = σ + 6 + 5 * b := ⟨_, rfl⟩
  obtain ⟨δ, hδ⟩ : ∃ δ, δ = σ + 21 + 13 * m0 + 2 := ⟨_, rfl⟩
  rw [← hγ] at hY ⊢
  rw [← hβ] at hB ⊢
  rw [← hδ] at td kd rm2
  rw [← hδ]
  have hlen : mx_cC f m0 b * 4 ≤ Λ m0 b := by
    obtain ⟨a, -, ⟨b1, -⟩, -⟩ := hY.1.2
    exact b1
  have hKb := hB.1.1.1.1
  refine mz_start (by decide) (Nat.le_of_ble_eq_true rfl) ?_
  intro p e s m args below meth c hC hret hnm
  refine mz_sn_ok hC tk_X3_playNew pk_RX3 1 [] rfl (by (repeat' apply And.intro) <;> first | exact True.intro | assumption | (simp only [mz_cm1, mz_c0, mz_c1, mz_c2, mz_c3, mz_c4, mz_c5, mz_c6, mz_c7, mz_c8, mz_c10, mz_c17, mz_c20, mz_c28, mz_c58, mz_c63, mz_c98, mz_c294, mz_c526, mz_c532, mz_c540, mz_c999, mz_c1900, mz_c2403, mz_c29362, mz_c29363, mz_c29364, mz_c29390, mz_c29393, mz_c29394, mz_c29398, mz_c29399, mz_c29400, mz_c29401, nI_add, pk_mul, pk_m1, mz_pp, mz_pq]; done) | omega | (simp only [mz_cm1, mz_c0, mz_c1, mz_c2, mz_c3, mz_c4, mz_c5, mz_c6, mz_c7, mz_c8, mz_c10, mz_c17, mz_c20, mz_c28, mz_c58, mz_c63, mz_c98, mz_c294, mz_c526, mz_c532, mz_c540, mz_c999, mz_c1900, mz_c2403, mz_c29362, mz_c29363, mz_c29364, mz_c29390, mz_c29393, mz_c29394, mz_c29398, mz_c29399, mz_c29400, mz_c29401, nI_add, pk_mul, pk_m1, mz_pp, mz_pq]; congr 1; omega)) ?_
  try simp only [mz_c0, mz_cm1]
  refine mz_Vcv hC tk_X3_playNew rfl md_X0_isFull lk_RX3_130 rfl (cb_isFull l E hB) (by show (vwCl[mz_K _ _]?).map _ = _; rw [hKb]; rfl) ⟨Nat.le_of_ble_eq_true rfl, Nat.le_of_ble_eq_true rfl⟩ ⟨by simp only [mz_rm]; omega, by simp only [mz_rm]; omega⟩ (Nat.le_of_ble_eq_true rfl) (fun v9 G9 sz9 hp9 => ?_)
  obtain ⟨rfl, hG9, hs9⟩ := hp9
  rw [hG9, ← hs9]
  by_cases h20 : mx_cB f b < 20
  · rw [if_pos h20] at hf' ⊢
    injection hf' with hf1 hf2
    refine mz_br_t hC tk_X3_playNew rfl ((by show (0 : Int32) = 0; rfl)) ?_
    refine mz_sn_ok hC tk_X3_playNew pk_RX3 3 [] rfl (by (repeat' apply And.intro) <;> first | exact True.intro | assumption | (simp only [mz_cm1, mz_c0, mz_c1, mz_c2, mz_c3, mz_c4, mz_c5, mz_c6, mz_c7, mz_c8, mz_c10, mz_c17, mz_c20, mz_c28, mz_c58, mz_c63, mz_c98, mz_c294, mz_c526, mz_c532, mz_c540, mz_c999, mz_c1900, mz_c2403, mz_c29362, mz_c29363, mz_c29364, mz_c29390, mz_c29393, mz_c29394, mz_c29398, mz_c29399, mz_c29400, mz_c29401, nI_add, pk_mul, pk_m1, mz_pp, mz_pq]; done) | omega | (simp only [mz_cm1, mz_c0, mz_c1, mz_c2, mz_c3, mz_c4, mz_c5, mz_c6, mz_c7, mz_c8, mz_c10, mz_c17, mz_c20, mz_c28, mz_c58, mz_c63, mz_c98, mz_c294, mz_c526, mz_c532, mz_c540, mz_c999, mz_c1900, mz_c2403, mz_c29362, mz_c29363, mz_c29364, mz_c29390, mz_c29393, mz_c29394, mz_c29398, mz_c29399, mz_c29400, mz_c29401, nI_add, pk_mul, pk_m1, mz_pp, mz_pq]; congr 1; omega)) ?_
    try simp only [mz_c0, mz_cm1]
    refine mz_Vcv hC tk_X3_playNew rfl md_X4_cell lk_RX3_97 rfl (ct_cell l E td (nI k) (nI 6)) (by show (vwCl[mz_K _ _]?).map _ = _; rw [kd]; rfl) ⟨Nat.le_of_ble_eq_true rfl, Nat.le_of_ble_eq_true rfl⟩ ⟨by simp only [mz_rm]; omega, by simp only [mz_rm]; omega⟩ (Nat.le_of_ble_eq_true rfl) (fun v9 G9 sz9 hp9 => ?_)
    obtain ⟨rfl, hG10, hs10⟩ := hp9
    rw [hG10, ← hs10, mt_c_in hk (by omega) (by omega) (by omega), mr_DA]
    refine mz_sn_ok hC tk_X3_playNew pk_RX3 4 [] rfl (by (repeat' apply And.intro) <;> first | exact True.intro | assumption | (simp only [mz_cm1, mz_c0, mz_c1, mz_c2, mz_c3, mz_c4, mz_c5, mz_c6, mz_c7, mz_c8, mz_c10, mz_c17, mz_c20, mz_c28, mz_c58, mz_c63, mz_c98, mz_c294, mz_c526, mz_c532, mz_c540, mz_c999, mz_c1900, mz_c2403, mz_c29362, mz_c29363, mz_c29364, mz_c29390, mz_c29393, mz_c29394, mz_c29398, mz_c29399, mz_c29400, mz_c29401, nI_add, pk_mul, pk_m1, mz_pp, mz_pq]; done) | omega | (simp only [mz_cm1, mz_c0, mz_c1, mz_c2, mz_c3, mz_c4, mz_c5, mz_c6, mz_c7, mz_c8, mz_c10, mz_c17, mz_c20, mz_c28, mz_c58, mz_c63, mz_c98, mz_c294, mz_c526, mz_c532, mz_c540, mz_c999, mz_c1900, mz_c2403, mz_c29362, mz_c29363, mz_c29364, mz_c29390, mz_c29393, mz_c29394, mz_c29398, mz_c29399, mz_c29400, mz_c29401, nI_add, pk_mul, pk_m1, mz_pp, mz_pq]; congr 1; omega)) ?_
    try simp only [mz_c0, mz_cm1]
    refine mz_Vcv hC tk_X3_playNew rfl md_X4_cell lk_RX3_97 rfl (ct_cell l E td (nI k) (nI 4)) (by show (vwCl[mz_K _ _]?).map _ = _; rw [kd]; rfl) ⟨Nat.le_of_ble_eq_true rfl, Nat.le_of_ble_eq_true rfl⟩ ⟨by simp only [mz_rm]; omega, by simp only [mz_rm]; omega⟩ (Nat.le_of_ble_eq_true rfl) (fun v9 G9 sz9 hp9 => ?_)
    obtain ⟨rfl, hG11, hs11⟩ := hp9
    rw [hG11, ← hs11, mt_c_in hk (by omega) (by omega) (by omega), mr_DA]
    refine mz_sn_ok hC tk_X3_playNew pk_RX3 4 [] rfl (by (repeat' apply And.intro) <;> first | exact True.intro | assumption | (simp only [mz_cm1, mz_c0, mz_c1, mz_c2, mz_c3, mz_c4, mz_c5, mz_c6, mz_c7, mz_c8, mz_c10, mz_c17, mz_c20, mz_c28, mz_c58, mz_c63, mz_c98, mz_c294, mz_c526, mz_c532, mz_c540, mz_c999, mz_c1900, mz_c2403, mz_c29362, mz_c29363, mz_c29364, mz_c29390, mz_c29393, mz_c29394, mz_c29398, mz_c29399, mz_c29400, mz_c29401, nI_add, pk_mul, pk_m1, mz_pp, mz_pq]; done) | omega | (simp only [mz_cm1, mz_c0, mz_c1, mz_c2, mz_c3, mz_c4, mz_c5, mz_c6, mz_c7, mz_c8, mz_c10, mz_c17, mz_c20, mz_c28, mz_c58, mz_c63, mz_c98, mz_c294, mz_c526, mz_c532, mz_c540, mz_c999, mz_c1900, mz_c2403, mz_c29362, mz_c29363, mz_c29364, mz_c29390, mz_c29393, mz_c29394, mz_c29398, mz_c29399, mz_c29400, mz_c29401, nI_add, pk_mul, pk_m1, mz_pp, mz_pq]; congr 1; omega)) ?_
    try simp only [mz_c0, mz_cm1]
    refine mz_Vcv hC tk_X3_playNew rfl md_X0_addMessage lk_RX3_134 rfl (cb_addMessage l E hB (f (mx_DA m0 k + 6)) (f (mx_DA m0 k + 4)) h20 hasc) (by show (vwCl[mz_K _ _]?).map _ = _; rw [hKb]; rfl) ⟨Nat.le_of_ble_eq_true rfl, Nat.le_of_ble_eq_true rfl⟩ ⟨by simp only [mz_rm]; omega, by simp only [mz_rm]; omega⟩ (Nat.le_of_ble_eq_true rfl) (fun v1 G1 sz1 hp1 => ?_)
    obtain ⟨rfl, hs12, O1, hB1, hF1⟩ := hp1
    rw [← hs12]
    obtain ⟨fM, hfM⟩ : ∃ fM, fM = mx_ad f b (mx_cB f b) (f (mx_DA m0 k + 6)) (f (mx_DA m0 k + 4)) := ⟨_, rfl⟩
    have oM : ∀ i, i < 98 * b ∨ 98 * b + 98 ≤ i → fM i = f i := fun i hi => by rw [hfM]; exact mx_ad_o f _ _ h20 hi
    rw [← hfM] at hB1
    have eM : mx_gM f (mx_DA m0 k) b (mx_cB f b) = fM := by unfold mx_gM; rw [hfM]
    have hY1 := (hY.fr hF1 (fun z => by rcases z with z | z | z <;> omega) (fun z => by rcases z with z | z | z <;> omega)).cong (f' := fM) (fun i h1 h2 => oM i (by omega))
    have hFz : mt_F (mr_Z σ) G G1 O O1 sz sz := hF1.mono (fun q hq => by unfold mr_Z; rcases hq with hq | hq | hq <;> omega)
    have hS1 : mr_S G1 O1 sz σ fM Λ := by
      rw [hβ] at hF1 hB1
      exact hS.box hb hF1 hB1 oM
    have e0 : fM (98 * b + 0) = f (98 * b + 0) := by
      rw [hfM, mr_ad f b _ _ _ hasc]
      simp only [mx_rw, mz_u1]
      simp (disch := omega) only [if_pos, if_neg, and_self, if_true, and_true, true_and, and_false, false_and, if_false]
    obtain ⟨⟨⟨⟨⟨hKc1, -⟩, j01, j11⟩, r21⟩, tc1⟩, -⟩ := id hY1
    obtain ⟨⟨⟨⟨hKb1, -⟩, i01, i11, i21, -⟩, -⟩, -⟩ := id hB1
    have kc1 := tc1.K
    rw [e0] at i01
    rw [oM _ (by omega)] at j01
    refine mz_sn_ok hC tk_X3_playNew pk_RX3 5 [] rfl (by (repeat' apply And.intro) <;> first | exact True.intro | assumption | (simp only [mz_cm1, mz_c0, mz_c1, mz_c2, mz_c3, mz_c4, mz_c5, mz_c6, mz_c7, mz_c8, mz_c10, mz_c17, mz_c20, mz_c28, mz_c58, mz_c63, mz_c98, mz_c294, mz_c526, mz_c532, mz_c540, mz_c999, mz_c1900, mz_c2403, mz_c29362, mz_c29363, mz_c29364, mz_c29390, mz_c29393, mz_c29394, mz_c29398, mz_c29399, mz_c29400, mz_c29401, nI_add, pk_mul, pk_m1, mz_pp, mz_pq, j01, i01]; done) | omega | (simp only [mz_cm1, mz_c0, mz_c1, mz_c2, mz_c3, mz_c4, mz_c5, mz_c6, mz_c7, mz_c8, mz_c10, mz_c17, mz_c20, mz_c28, mz_c58, mz_c63, mz_c98, mz_c294, mz_c526, mz_c532, mz_c540, mz_c999, mz_c1900, mz_c2403, mz_c29362, mz_c29363, mz_c29364, mz_c29390, mz_c29393, mz_c29394, mz_c29398, mz_c29399, mz_c29400, mz_c29401, nI_add, pk_mul, pk_m1, mz_pp, mz_pq, j01, i01]; congr 1; omega)) ?_
    try simp only [mz_c0, mz_cm1, j01, i01]
    have hsm : mx_sm f m0 b ↔ f (mx_CA m0 b) = f (98 * b + 0) := Iff.rfl
    by_cases hs : f (mx_CA m0 b) = f (98 * b + 0)
    · have hfe : f' = mx_pu fM (mx_CA m0 b + 2) (mx_cC f m0 b) (f (98 * b + 1)) (f (mx_DA m0 k + 6)) (f (mx_DA m0 k + 4)) (fM (98 * b + 2)) := by
        rw [hf1]
        unfold mx_gN
        rw [if_pos hs, eM, oM _ (by omega), oM _ (by omega)]
      have hso1 : mr_so fM (mx_CA m0 b + 2) (mx_cC f m0 b) := fun i j h1 h2 => by
        show fM _ < fM _
        rw [oM _ (by omega), oM _ (by omega)]
        exact hso i j h1 h2
      have hcf : mx_cC f' m0 b = mx_pn fM (mx_CA m0 b + 2) (mx_cC f m0 b) (f (98 * b + 1)) := by
        have := mx_pn_le fM (mx_CA m0 b + 2) (mx_cC f m0 b) (f (98 * b + 1))
        refine mr_nI_cl ?_ (by omega)
        rw [hfe]
        exact mx_pu_n fM _ _ _ _ hY1.2
      have hpn := mx_pn_le fM (mx_CA m0 b + 2) (mx_cC f m0 b) (f (98 * b + 1))
      rw [hcf] at hU ⊢
      have hph := mr_Ph_u Λ hm hb (mt_gr 4 532 (Λ m0 b) (mx_pn fM (mx_CA m0 b + 2) (mx_cC f m0 b) (f (98 * b + 1))))
      obtain ⟨gch, gle⟩ := mt_gr_ch hch (n := mx_pn fM (mx_CA m0 b + 2) (mx_cC f m0 b) (f (98 * b + 1))) (by omega)
      have hU2 : U = mr_ph (Λ m0 b) - mr_ph (mt_gr 4 532 (Λ m0 b) (mx_pn fM (mx_CA m0 b + 2) (mx_cC f m0 b) (f (98 * b + 1)))) := by
        rw [hU]
        unfold mr_lg
        omega
      refine mz_br_f hC tk_X3_playNew rfl ((by show ¬ ¬ f (mx_CA m0 b) = f (98 * b + 0); exact fun z => z hs)) ?_
      refine mz_sn_ok hC tk_X3_playNew pk_RX3 7 [γ + 1] rfl (by (repeat' apply And.intro) <;> first | exact True.intro | assumption | (simp only [mz_cm1, mz_c0, mz_c1, mz_c2, mz_c3, mz_c4, mz_c5, mz_c6, mz_c7, mz_c8, mz_c10, mz_c17, mz_c20, mz_c28, mz_c58, mz_c63, mz_c98, mz_c294, mz_c526, mz_c532, mz_c540, mz_c999, mz_c1900, mz_c2403, mz_c29362, mz_c29363, mz_c29364, mz_c29390, mz_c29393, mz_c29394, mz_c29398, mz_c29399, mz_c29400, mz_c29401, nI_add, pk_mul, pk_m1, mz_pp, mz_pq, i21]; done) | omega | (simp only [mz_cm1, mz_c0, mz_c1, mz_c2, mz_c3, mz_c4, mz_c5, mz_c6, mz_c7, mz_c8, mz_c10, mz_c17, mz_c20, mz_c28, mz_c58, mz_c63, mz_c98, mz_c294, mz_c526, mz_c532, mz_c540, mz_c999, mz_c1900, mz_c2403, mz_c29362, mz_c29363, mz_c29364, mz_c29390, mz_c29393, mz_c29394, mz_c29398, mz_c29399, mz_c29400, mz_c29401, nI_add, pk_mul, pk_m1, mz_pp, mz_pq, i21]; congr 1; omega)) ?_
      try simp only [mz_c0, mz_cm1, i21]
      have hgid := mt_gr_id 4 532 hlen
      have tc1' := tc1
      rw [← hgid] at tc1'
      rw [← hgid] at hU2
      rw [mt_gr_id 4 532 (show mx_cC f m0 b * 4 ≤ Λ m0 b from hlen)] at hU2
      have hst := cc_store l E hch tc1' hso1 hcc (f (98 * b + 1)) (f (mx_DA m0 k + 6)) (f (mx_DA m0 k + 4)) (fM (98 * b + 2))
      rw [hgid] at hst
      refine mz_Vcv hC tk_X3_playNew rfl md_X4_storeMessage lk_RX3_140 rfl (hst) (by show (vwCl[mz_K _ _]?).map _ = _; rw [kc1]; rfl) ⟨Nat.le_of_ble_eq_true rfl, Nat.le_of_ble_eq_true rfl⟩ ⟨by simp only [mz_rm]; omega, by simp only [mz_rm]; omega⟩ (Nat.le_of_ble_eq_true rfl) (fun v2 G2 sz2 hp2 => ?_)
      obtain ⟨rfl, O2, t2, hF2⟩ := hp2
      rw [← hfe] at t2
      refine mz_V.widen (k' := U) (n' := U) (by omega) (by omega) ?_
      refine mz_sn_ok hC tk_X3_playNew pk_RX3 1 [] rfl (by (repeat' apply And.intro) <;> first | exact True.intro | assumption | (simp only [mz_cm1, mz_c0, mz_c1, mz_c2, mz_c3, mz_c4, mz_c5, mz_c6, mz_c7, mz_c8, mz_c10, mz_c17, mz_c20, mz_c28, mz_c58, mz_c63, mz_c98, mz_c294, mz_c526, mz_c532, mz_c540, mz_c999, mz_c1900, mz_c2403, mz_c29362, mz_c29363, mz_c29364, mz_c29390, mz_c29393, mz_c29394, mz_c29398, mz_c29399, mz_c29400, mz_c29401, nI_add, pk_mul, pk_m1, mz_pp, mz_pq]; done) | omega | (simp only [mz_cm1, mz_c0, mz_c1, mz_c2, mz_c3, mz_c4, mz_c5, mz_c6, mz_c7, mz_c8, mz_c10, mz_c17, mz_c20, mz_c28, mz_c58, mz_c63, mz_c98, mz_c294, mz_c526, mz_c532, mz_c540, mz_c999, mz_c1900, mz_c2403, mz_c29362, mz_c29363, mz_c29364, mz_c29390, mz_c29393, mz_c29394, mz_c29398, mz_c29399, mz_c29400, mz_c29401, nI_add, pk_mul, pk_m1, mz_pp, mz_pq]; congr 1; omega)) ?_
      try simp only [mz_c0, mz_cm1]
      refine mz_Vireturn hC tk_X3_playNew rfl hret rfl (Nat.le_refl _) (Nat.le_refl _) ?_
      have hY2 : mr_C G2 O2 sz2 γ (γ + 1) f' m0 b (mx_pn fM (mx_CA m0 b + 2) (mx_cC f m0 b) (f (98 * b + 1))) (mt_gr 4 532 (Λ m0 b) (mx_pn fM (mx_CA m0 b + 2) (mx_cC f m0 b) (f (98 * b + 1)))) := by
        obtain ⟨⟨⟨hk2, w0, w1⟩, w2⟩, w3⟩ := hY1.1.msg hF2 t2
        refine ⟨⟨⟨⟨hk2, ?_, ?_⟩, w2⟩, w3⟩, ?_⟩
        · rw [w0, hfe, mx_pu_o _ _ _ _ _ (by omega)]
        · rw [w1, hfe, mx_pu_o _ _ _ _ _ (by omega)]
        · rw [hfe]; exact mx_pu_n fM _ _ _ _ hY1.2
      rw [hγ] at hF2 hY2
      refine ⟨by rw [hf2]; rfl, O2, ?_, hFz.tr (hF2.mono (fun q hq => by unfold mr_Z; omega))⟩
      unfold mr_lg
      refine hS1.cp hm hb (hF2.mono (fun q hq => Or.inr hq)) hY2 gch (fun i hi => ?_)
      rw [hfe]
      exact mx_pu_o _ _ _ _ _ (by omega)
    · refine mz_br_t hC tk_X3_playNew rfl ((by show ¬ f (mx_CA m0 b) = f (98 * b + 0); exact hs)) ?_
      have hfe : f' = fM := by
        rw [hf1]
        unfold mx_gN
        rw [if_neg hs, eM]
      have hcf : mx_cC f' m0 b = mx_cC f m0 b := by rw [hfe]; exact mr_cC_cong (oM _ (by omega))
      rw [hcf, mr_lg_id Λ hlen]
      refine mz_V.widen (k' := U) (n' := U) (by omega) (by omega) ?_
      refine mz_sn_ok hC tk_X3_playNew pk_RX3 1 [] rfl (by (repeat' apply And.intro) <;> first | exact True.intro | assumption | (simp only [mz_cm1, mz_c0, mz_c1, mz_c2, mz_c3, mz_c4, mz_c5, mz_c6, mz_c7, mz_c8, mz_c10, mz_c17, mz_c20, mz_c28, mz_c58, mz_c63, mz_c98, mz_c294, mz_c526, mz_c532, mz_c540, mz_c999, mz_c1900, mz_c2403, mz_c29362, mz_c29363, mz_c29364, mz_c29390, mz_c29393, mz_c29394, mz_c29398, mz_c29399, mz_c29400, mz_c29401, nI_add, pk_mul, pk_m1, mz_pp, mz_pq]; done) | omega | (simp only [mz_cm1, mz_c0, mz_c1, mz_c2, mz_c3, mz_c4, mz_c5, mz_c6, mz_c7, mz_c8, mz_c10, mz_c17, mz_c20, mz_c28, mz_c58, mz_c63, mz_c98, mz_c294, mz_c526, mz_c532, mz_c540, mz_c999, mz_c1900, mz_c2403, mz_c29362, mz_c29363, mz_c29364, mz_c29390, mz_c29393, mz_c29394, mz_c29398, mz_c29399, mz_c29400, mz_c29401, nI_add, pk_mul, pk_m1, mz_pp, mz_pq]; congr 1; omega)) ?_
      try simp only [mz_c0, mz_cm1]
      refine mz_Vireturn hC tk_X3_playNew rfl hret rfl (Nat.le_refl _) (Nat.le_refl _) ?_
      exact ⟨by rw [hf2]; rfl, O1, by rw [hfe]; exact hS1, hFz⟩
  · rw [if_neg h20] at hf' ⊢
    injection hf' with hf1 hf2
    refine mz_br_f hC tk_X3_playNew rfl ((by show ¬ (1 : Int32) = 0; decide)) ?_
    refine mz_sn_ok hC tk_X3_playNew pk_RX3 1 [] rfl (by (repeat' apply And.intro) <;> first | exact True.intro | assumption | (simp only [mz_cm1, mz_c0, mz_c1, mz_c2, mz_c3, mz_c4, mz_c5, mz_c6, mz_c7, mz_c8, mz_c10, mz_c17, mz_c20, mz_c28, mz_c58, mz_c63, mz_c98, mz_c294, mz_c526, mz_c532, mz_c540, mz_c999, mz_c1900, mz_c2403, mz_c29362, mz_c29363, mz_c29364, mz_c29390, mz_c29393, mz_c29394, mz_c29398, mz_c29399, mz_c29400, mz_c29401, nI_add, pk_mul, pk_m1, mz_pp, mz_pq]; done) | omega | (simp only [mz_cm1, mz_c0, mz_c1, mz_c2, mz_c3, mz_c4, mz_c5, mz_c6, mz_c7, mz_c8, mz_c10, mz_c17, mz_c20, mz_c28, mz_c58, mz_c63, mz_c98, mz_c294, mz_c526, mz_c532, mz_c540, mz_c999, mz_c1900, mz_c2403, mz_c29362, mz_c29363, mz_c29364, mz_c29390, mz_c29393, mz_c29394, mz_c29398, mz_c29399, mz_c29400, mz_c29401, nI_add, pk_mul, pk_m1, mz_pp, mz_pq]; congr 1; omega)) ?_
    try simp only [mz_c0, mz_cm1]
    refine mz_Vireturn hC tk_X3_playNew rfl hret rfl (by omega) (by omega) ?_
    refine ⟨by rw [hf2]; rfl, O, ?_, mt_F.rf⟩
    rw [hf1, mr_lg_id Λ hlen]
    exact hS
end MRS

