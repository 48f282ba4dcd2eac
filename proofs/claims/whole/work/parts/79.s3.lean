/-! ===== the class: a copy is synced; a deed is begun ===== -/
theorem mr_S.bO {G : mz_G} {O : Nat → Nat} {sz σ : Nat} {f : Nat → Int32} {Λ : Nat → Nat → Nat} (h : mr_S G O sz σ f Λ) {b : Nat} (hb : b < 3) : mx_bO f b := by
  obtain ⟨-, ⟨t1, t2⟩, c1, c2⟩ := h.2.2.1 b hb
  exact ⟨⟨c1, t1.b.1⟩, c2, t2.b.1⟩
theorem mr_S.cO {G : mz_G} {O : Nat → Nat} {sz σ : Nat} {f : Nat → Int32} {Λ : Nat → Nat → Nat} (h : mr_S G O sz σ f Λ) {m b r : Nat} (hm : m < 4) (hb : b < 3) (hr : r ≤ 68) : mx_cO f m b r := by
  obtain ⟨⟨-, t⟩, c⟩ := ((h.2.2.2 m hm).2.2 b hb).1
  exact ⟨c, by have := t.b; omega⟩
theorem mr_S.nO {G : mz_G} {O : Nat → Nat} {sz σ : Nat} {f : Nat → Int32} {Λ : Nat → Nat → Nat} (h : mr_S G O sz σ f Λ) {m : Nat} (hm : m < 4) : mx_nO f m := by
  obtain ⟨-, ⟨t, c⟩, -⟩ := h.2.2.2 m hm
  exact ⟨c, t.b.1⟩
theorem mr_S.qO {G : mz_G} {O : Nat → Nat} {sz σ : Nat} {f : Nat → Int32} {Λ : Nat → Nat → Nat} (h : mr_S G O sz σ f Λ) : mx_qO f := ⟨h.2.1.1.2, h.2.1.1.1.b.1⟩
/-- the rooms after copy (m, b) has had N rows -/
def mr_lg (Λ : Nat → Nat → Nat) (m b N : Nat) : Nat → Nat → Nat := mz_u1 Λ m (mz_u1 (Λ m) b (mt_gr 4 532 (Λ m b) N))
section MRS
variable (l : Launch) (E : mz_E) {G : mz_G} {O : Nat → Nat} {sz σ : Nat} {f : Nat → Int32} {Λ : Nat → Nat → Nat}
theorem cs_syncBox (hS : mr_S G O sz σ f Λ) (m0 b : Nat) (hm : m0 < 4) (hb : b < 3) (hso : mr_so f (mx_CA m0 b + 2) (mx_cC f m0 b)) (hfin : mr_sc f m0 b < 532) (U : Nat) (hU : U = mr_ph (Λ m0 b) - mr_ph (mt_gr 4 532 (Λ m0 b) (mr_sc f m0 b))) : mz_M l E yX3_syncBox cX3_syncBox 7 (some .int) 8 U U [.ref σ, .ref (σ + 21 + 13 * m0), .int (nI b)] G sz (fun v' G' sz' => v' = some (.int (nI (mx_yn f m0 b))) ∧ ∃ O', mr_S G' O' sz' σ (mx_yS f m0 b) (mr_lg Λ m0 b (mr_sc f m0 b)) ∧ mt_F (mr_Z σ) G G' O O' sz sz') := by
  have hbo := hS.bO hb
  have hco : mx_cO f m0 b (mx_cB f b) := hS.cO hm hb (by have := hbo.1.2; omega)
  have hno := hS.nO hm
  have hqo := hS.qO
  have hCA : 526 ≤ mx_CA m0 b ∧ mx_CA m0 b + 2403 ≤ 29362 := by unfold mx_CA; omega
  have hB := hS.2.2.1 b hb
  obtain ⟨hY, hch⟩ := (hS.2.2.2 m0 hm).2.2 b hb
  obtain ⟨⟨⟨hKm, -, rm1, -⟩, ⟨hKa, -, hna, -⟩, hra⟩, -⟩ := hS.2.2.2 m0 hm
  have hrb := hra b hb
  obtain ⟨⟨⟨⟨⟨hK, hO, hs⟩, -⟩, r0, -⟩, ⟨⟨⟨k1, -⟩, n1⟩, hbx⟩, -⟩, -⟩ := id hS
  have hbb := hbx b hb
  have hKm' := hKm.1
  have hKc : mz_K G (σ + 21 + 13 * m0 + 4 + 3 * b) = 1 := hY.1.1.1.1.1
  obtain ⟨γ, hγ⟩ : ∃ γ, γ = σ + 21 + 13 * m0 + 4 + 3 * b := ⟨_, rfl⟩
  obtain ⟨β, hβ⟩ : ∃ β, β = σ + 6 + 5 * b := ⟨_, rfl⟩
  rw [← hγ] at hrb hKc hY
  rw [← hβ] at hbb hB
  obtain ⟨o1, o2, o3⟩ := mr_sA_o f hm hb hbo hco
  have hcs := mx_cs_le f m0 b
  have hyn : mx_yn f m0 b = mx_mc f m0 b (mx_cB f b) + mx_nc f m0 b (mx_cB f b) (mx_gB f b) := rfl
  rw [mr_sy_eq f hm hb hbo hco hno hqo]
  have hgrc := (mt_gr_ch hch (n := mr_sc f m0 b) (by omega)).2
  have hU' : U = mr_ph (Λ m0 b) - mr_ph (mt_gr 4 532 (Λ m0 b) (mr_b2 f m0 b (mx_cB f b) (mx_gB f b) (mx_cC f m0 b)).2) := hU
  refine mz_start (by decide) (Nat.le_of_ble_eq_true rfl) ?_
  intro p e s m args below meth c hC hret hnm
  have fin : ∀ (G3 : mz_G) (O3 : Nat → Nat) (sz3 : Nat), mr_S G3 O3 sz3 σ (mr_sC f m0 b).1 (mr_lg Λ m0 b (mr_sc f m0 b)) → mt_F (mr_Z σ) G G3 O O3 sz sz3 → mz_V E p l e (mz_rm 8 U U) s m args below meth c 7 U U (mz_Z E below args s U U (fun v' G' sz' => v' = some (.int (nI (mx_yn f m0 b))) ∧ ∃ O', mr_S G' O' sz' σ (mr_sD f m0 b) (mr_lg Λ m0 b (mr_sc f m0 b)) ∧ mt_F (mr_Z σ) G G' O O' sz sz')) G3 sz3 71 [some (.ref σ), some (.ref (σ + 21 + 13 * m0)), some (.int (nI b)), some (.ref γ), some (.int (nI (mx_cs f m0 b))), some (.int (nI (mx_mc f m0 b (mx_cB f b)))), some (.int (nI (mx_nc f m0 b (mx_cB f b) (mx_gB f b))))] [] := by
    intro G3 O3 sz3 hS3 hF3
    obtain ⟨f3, hf3⟩ : ∃ f3, f3 = (mr_sC f m0 b).1 := ⟨_, rfl⟩
    rw [← hf3] at hS3
    obtain ⟨⟨⟨⟨⟨hK3, -⟩, -⟩, -, -, -, r33⟩, -⟩, ⟨-, ⟨⟨k53, -⟩, n53⟩, hw3⟩, -⟩ := id hS3
    have w0 : mz_i G3 (σ + 5) 0 = f3 29393 := hw3 0 (by omega)
    obtain ⟨hS4, hF4⟩ := hS3.ct 0 (by omega) (f3 29393 + nI (mx_mc f m0 b (mx_cB f b)))
    refine mz_sn_ok hC tk_X3_syncBox pk_RX3 8 [σ + 5, 0, 0] rfl (by (repeat' apply And.intro) <;> first | exact True.intro | assumption | (simp only [mz_cm1, mz_c0, mz_c1, mz_c2, mz_c3, mz_c4, mz_c5, mz_c6, mz_c7, mz_c8, mz_c10, mz_c17, mz_c20, mz_c28, mz_c58, mz_c63, mz_c98, mz_c294, mz_c526, mz_c532, mz_c540, mz_c999, mz_c1900, mz_c2403, mz_c29362, mz_c29363, mz_c29364, mz_c29390, mz_c29393, mz_c29394, mz_c29398, mz_c29399, mz_c29400, mz_c29401, nI_add, pk_mul, pk_m1, mz_pp, mz_pq, w0]; done) | omega | (simp only [mz_cm1, mz_c0, mz_c1, mz_c2, mz_c3, mz_c4, mz_c5, mz_c6, mz_c7, mz_c8, mz_c10, mz_c17, mz_c20, mz_c28, mz_c58, mz_c63, mz_c98, mz_c294, mz_c526, mz_c532, mz_c540, mz_c999, mz_c1900, mz_c2403, mz_c29362, mz_c29363, mz_c29364, mz_c29390, mz_c29393, mz_c29394, mz_c29398, mz_c29399, mz_c29400, mz_c29401, nI_add, pk_mul, pk_m1, mz_pp, mz_pq, w0]; congr 1; omega)) ?_
    try simp only [mz_c0, mz_cm1, w0]
    obtain ⟨G4, hG4⟩ : ∃ G4, G4 = mz_si G3 (σ + 5) 0 (f3 29393 + nI (mx_mc f m0 b (mx_cB f b))) := ⟨_, rfl⟩
    rw [← hG4] at hS4 hF4 ⊢
    obtain ⟨⟨⟨⟨⟨hK4, -⟩, -⟩, -, -, -, r34⟩, -⟩, ⟨-, ⟨⟨k54, -⟩, n54⟩, hw4⟩, -⟩ := id hS4
    have w1 : mz_i G4 (σ + 5) 1 = f3 29394 := by rw [hw4 1 (by omega), mz_u1_o _ _ (by omega)]
    obtain ⟨hS5, hF5⟩ := hS4.ct 1 (by omega) (f3 29394 + nI (mx_nc f m0 b (mx_cB f b) (mx_gB f b)))
    refine mz_sn_ok hC tk_X3_syncBox pk_RX3 8 [σ + 5, 1, 1] rfl (by (repeat' apply And.intro) <;> first | exact True.intro | assumption | (simp only [mz_cm1, mz_c0, mz_c1, mz_c2, mz_c3, mz_c4, mz_c5, mz_c6, mz_c7, mz_c8, mz_c10, mz_c17, mz_c20, mz_c28, mz_c58, mz_c63, mz_c98, mz_c294, mz_c526, mz_c532, mz_c540, mz_c999, mz_c1900, mz_c2403, mz_c29362, mz_c29363, mz_c29364, mz_c29390, mz_c29393, mz_c29394, mz_c29398, mz_c29399, mz_c29400, mz_c29401, nI_add, pk_mul, pk_m1, mz_pp, mz_pq, w1]; done) | omega | (simp only [mz_cm1, mz_c0, mz_c1, mz_c2, mz_c3, mz_c4, mz_c5, mz_c6, mz_c7, mz_c8, mz_c10, mz_c17, mz_c20, mz_c28, mz_c58, mz_c63, mz_c98, mz_c294, mz_c526, mz_c532, mz_c540, mz_c999, mz_c1900, mz_c2403, mz_c29362, mz_c29363, mz_c29364, mz_c29390, mz_c29393, mz_c29394, mz_c29398, mz_c29399, mz_c29400, mz_c29401, nI_add, pk_mul, pk_m1, mz_pp, mz_pq, w1]; congr 1; omega)) ?_
    try simp only [mz_c0, mz_cm1, w1]
    obtain ⟨G5, hG5⟩ : ∃ G5, G5 = mz_si G4 (σ + 5) 1 (f3 29394 + nI (mx_nc f m0 b (mx_cB f b) (mx_gB f b))) := ⟨_, rfl⟩
    rw [← hG5] at hS5 hF5 ⊢
    obtain ⟨⟨⟨⟨⟨hK5, -⟩, -⟩, -, -, -, r35⟩, -⟩, ⟨-, ⟨⟨k55, -⟩, n55⟩, hw5⟩, -⟩ := id hS5
    have w2 : mz_i G5 (σ + 5) (1 + mx_cs f m0 b) = f3 (29394 + mx_cs f m0 b) := by
      rw [hw5 _ (by omega), mz_u1_o _ _ (by omega), mz_u1_o _ _ (by omega)]
      congr 1
      omega
    obtain ⟨hS6, hF6⟩ := hS5.ct (1 + mx_cs f m0 b) (by omega) (f3 (29394 + mx_cs f m0 b) + mz_c 1)
    have hb7 : 1 + mx_cs f m0 b < mz_n G5 (σ + 5) := by omega
    refine mz_sn_ok hC tk_X3_syncBox pk_RX3 13 [σ + 5, 1 + mx_cs f m0 b, 1 + mx_cs f m0 b] rfl (by (repeat' apply And.intro) <;> first | exact True.intro | assumption | (simp only [mz_cm1, mz_c0, mz_c1, mz_c2, mz_c3, mz_c4, mz_c5, mz_c6, mz_c7, mz_c8, mz_c10, mz_c17, mz_c20, mz_c28, mz_c58, mz_c63, mz_c98, mz_c294, mz_c526, mz_c532, mz_c540, mz_c999, mz_c1900, mz_c2403, mz_c29362, mz_c29363, mz_c29364, mz_c29390, mz_c29393, mz_c29394, mz_c29398, mz_c29399, mz_c29400, mz_c29401, nI_add, pk_mul, pk_m1, mz_pp, mz_pq, w2]; done) | omega | (simp only [mz_cm1, mz_c0, mz_c1, mz_c2, mz_c3, mz_c4, mz_c5, mz_c6, mz_c7, mz_c8, mz_c10, mz_c17, mz_c20, mz_c28, mz_c58, mz_c63, mz_c98, mz_c294, mz_c526, mz_c532, mz_c540, mz_c999, mz_c1900, mz_c2403, mz_c29362, mz_c29363, mz_c29364, mz_c29390, mz_c29393, mz_c29394, mz_c29398, mz_c29399, mz_c29400, mz_c29401, nI_add, pk_mul, pk_m1, mz_pp, mz_pq, w2]; congr 1; omega)) ?_
    try simp only [mz_c0, mz_cm1, w2]
    refine mz_Vireturn hC tk_X3_syncBox rfl hret rfl (Nat.le_refl _) (Nat.le_refl _) ?_
    refine ⟨?_, O3, ?_, hF3.tr ((hF4.mono (fun q hq => ?_)).tr ((hF5.mono (fun q hq => ?_)).tr (hF6.mono (fun q hq => ?_))))⟩
    · rw [nI_add, hyn]
    · have e0 : mr_sD f m0 b = mz_u1 (mz_u1 (mz_u1 f3 (29393 + 0) (f3 29393 + nI (mx_mc f m0 b (mx_cB f b)))) (29393 + 1) (f3 29394 + nI (mx_nc f m0 b (mx_cB f b) (mx_gB f b)))) (29393 + (1 + mx_cs f m0 b)) (f3 (29394 + mx_cs f m0 b) + mz_c 1) := by
        unfold mr_sD mr_u3
        rw [← hf3, show 29393 + (1 + mx_cs f m0 b) = 29394 + mx_cs f m0 b by omega]
        rfl
      rw [e0]
      exact hS6
    · unfold mr_Z; omega
    · unfold mr_Z; omega
    · unfold mr_Z; omega
  have lost : ∀ (G2 : mz_G) (O2 : Nat → Nat) (sz2 : Nat), mr_S G2 O2 sz2 σ (mr_sB f m0 b).1 (mr_lg Λ m0 b (mr_sc f m0 b)) → mx_nD (mr_sB f m0 b).1 m0 = (mr_sB f m0 b).2.1 → mx_nQ (mr_sB f m0 b).1 = (mr_sB f m0 b).2.2 → mx_cC (mr_sB f m0 b).1 m0 b = mr_sc f m0 b → mt_F (mr_Z σ) G G2 O O2 sz sz2 → mz_V E p l e (mz_rm 8 U U) s m args below meth c 7 U U (mz_Z E below args s U U (fun v' G' sz' => v' = some (.int (nI (mx_yn f m0 b))) ∧ ∃ O', mr_S G' O' sz' σ (mr_sD f m0 b) (mr_lg Λ m0 b (mr_sc f m0 b)) ∧ mt_F (mr_Z σ) G G' O O' sz sz')) G2 sz2 65 [some (.ref σ), some (.ref (σ + 21 + 13 * m0)), some (.int (nI b)), some (.ref γ), some (.int (nI (mx_cs f m0 b))), some (.int (nI (mx_mc f m0 b (mx_cB f b)))), some (.int (nI (mx_nc f m0 b (mx_cB f b) (mx_gB f b))))] [] := by
    intro G2 O2 sz2 hS2 e1 e2 e3 hF2
    have hK2 := hS2.1.1.1.1.1
    refine mz_sn_ok hC tk_X3_syncBox pk_RX3 3 [] rfl (by (repeat' apply And.intro) <;> first | exact True.intro | assumption | (simp only [mz_cm1, mz_c0, mz_c1, mz_c2, mz_c3, mz_c4, mz_c5, mz_c6, mz_c7, mz_c8, mz_c10, mz_c17, mz_c20, mz_c28, mz_c58, mz_c63, mz_c98, mz_c294, mz_c526, mz_c532, mz_c540, mz_c999, mz_c1900, mz_c2403, mz_c29362, mz_c29363, mz_c29364, mz_c29390, mz_c29393, mz_c29394, mz_c29398, mz_c29399, mz_c29400, mz_c29401, nI_add, pk_mul, pk_m1, mz_pp, mz_pq]; done) | omega | (simp only [mz_cm1, mz_c0, mz_c1, mz_c2, mz_c3, mz_c4, mz_c5, mz_c6, mz_c7, mz_c8, mz_c10, mz_c17, mz_c20, mz_c28, mz_c58, mz_c63, mz_c98, mz_c294, mz_c526, mz_c532, mz_c540, mz_c999, mz_c1900, mz_c2403, mz_c29362, mz_c29363, mz_c29364, mz_c29390, mz_c29393, mz_c29394, mz_c29398, mz_c29399, mz_c29400, mz_c29401, nI_add, pk_mul, pk_m1, mz_pp, mz_pq]; congr 1; omega)) ?_
    try simp only [mz_c0, mz_cm1]
    refine mz_Vcv hC tk_X3_syncBox rfl md_X3_dropDeedsForLost lk_RX3_83 rfl (cs_dropLost l E hS2 m0 b hm hb (mr_sc f m0 b) e3 (mr_sC f m0 b) (by rw [e1, e2]; rfl)) (by show (vwCl[mz_K _ _]?).map _ = _; rw [hK2]; rfl) ⟨Nat.le_of_ble_eq_true rfl, Nat.le_of_ble_eq_true rfl⟩ ⟨by simp only [mz_rm]; omega, by simp only [mz_rm]; omega⟩ (Nat.le_of_ble_eq_true rfl) (fun v3 G3 sz3 hp3 => ?_)
    obtain ⟨rfl, hs9, O3, hS3, hF3⟩ := hp3
    rw [← hs9]
    exact fin G3 O3 sz2 hS3 (hF2.tr hF3)
  refine mz_sn_ok hC tk_X3_syncBox pk_RX3 10 [σ + 21 + 13 * m0 + 1, b, γ, σ + 1, b, β] rfl (by (repeat' apply And.intro) <;> first | exact True.intro | assumption | (simp only [mz_cm1, mz_c0, mz_c1, mz_c2, mz_c3, mz_c4, mz_c5, mz_c6, mz_c7, mz_c8, mz_c10, mz_c17, mz_c20, mz_c28, mz_c58, mz_c63, mz_c98, mz_c294, mz_c526, mz_c532, mz_c540, mz_c999, mz_c1900, mz_c2403, mz_c29362, mz_c29363, mz_c29364, mz_c29390, mz_c29393, mz_c29394, mz_c29398, mz_c29399, mz_c29400, mz_c29401, nI_add, pk_mul, pk_m1, mz_pp, mz_pq]; done) | omega | (simp only [mz_cm1, mz_c0, mz_c1, mz_c2, mz_c3, mz_c4, mz_c5, mz_c6, mz_c7, mz_c8, mz_c10, mz_c17, mz_c20, mz_c28, mz_c58, mz_c63, mz_c98, mz_c294, mz_c526, mz_c532, mz_c540, mz_c999, mz_c1900, mz_c2403, mz_c29362, mz_c29363, mz_c29364, mz_c29390, mz_c29393, mz_c29394, mz_c29398, mz_c29399, mz_c29400, mz_c29401, nI_add, pk_mul, pk_m1, mz_pp, mz_pq]; congr 1; omega)) ?_
  try simp only [mz_c0, mz_cm1]
  refine mz_Vcv hC tk_X3_syncBox rfl md_X1_caseOfSync lk_RX3_63 rfl (cc_case l E hY hB) (by show (vwCl[mz_K _ _]?).map _ = _; rw [hKc]; rfl) ⟨Nat.le_of_ble_eq_true rfl, Nat.le_of_ble_eq_true rfl⟩ ⟨by simp only [mz_rm]; omega, by simp only [mz_rm]; omega⟩ (Nat.le_of_ble_eq_true rfl) (fun v9 G9 sz9 hp9 => ?_)
  obtain ⟨rfl, hG9, hs9⟩ := hp9
  rw [hG9, ← hs9]
  refine mz_sn_ok hC tk_X3_syncBox pk_RX3 6 [σ + 1, b, β] rfl (by (repeat' apply And.intro) <;> first | exact True.intro | assumption | (simp only [mz_cm1, mz_c0, mz_c1, mz_c2, mz_c3, mz_c4, mz_c5, mz_c6, mz_c7, mz_c8, mz_c10, mz_c17, mz_c20, mz_c28, mz_c58, mz_c63, mz_c98, mz_c294, mz_c526, mz_c532, mz_c540, mz_c999, mz_c1900, mz_c2403, mz_c29362, mz_c29363, mz_c29364, mz_c29390, mz_c29393, mz_c29394, mz_c29398, mz_c29399, mz_c29400, mz_c29401, nI_add, pk_mul, pk_m1, mz_pp, mz_pq]; done) | omega | (simp only [mz_cm1, mz_c0, mz_c1, mz_c2, mz_c3, mz_c4, mz_c5, mz_c6, mz_c7, mz_c8, mz_c10, mz_c17, mz_c20, mz_c28, mz_c58, mz_c63, mz_c98, mz_c294, mz_c526, mz_c532, mz_c540, mz_c999, mz_c1900, mz_c2403, mz_c29362, mz_c29363, mz_c29364, mz_c29390, mz_c29393, mz_c29394, mz_c29398, mz_c29399, mz_c29400, mz_c29401, nI_add, pk_mul, pk_m1, mz_pp, mz_pq]; congr 1; omega)) ?_
  try simp only [mz_c0, mz_cm1]
  refine mz_Vcv hC tk_X3_syncBox rfl md_X1_messagesDue lk_RX3_69 rfl (cc_messagesDue l E hY hB) (by show (vwCl[mz_K _ _]?).map _ = _; rw [hKc]; rfl) ⟨Nat.le_of_ble_eq_true rfl, Nat.le_of_ble_eq_true rfl⟩ ⟨by simp only [mz_rm]; omega, by simp only [mz_rm]; omega⟩ (Nat.le_of_ble_eq_true rfl) (fun v9 G9 sz9 hp9 => ?_)
  obtain ⟨rfl, hG10, hs10⟩ := hp9
  rw [hG10, ← hs10]
  refine mz_sn_ok hC tk_X3_syncBox pk_RX3 6 [σ + 1, b, β] rfl (by (repeat' apply And.intro) <;> first | exact True.intro | assumption | (simp only [mz_cm1, mz_c0, mz_c1, mz_c2, mz_c3, mz_c4, mz_c5, mz_c6, mz_c7, mz_c8, mz_c10, mz_c17, mz_c20, mz_c28, mz_c58, mz_c63, mz_c98, mz_c294, mz_c526, mz_c532, mz_c540, mz_c999, mz_c1900, mz_c2403, mz_c29362, mz_c29363, mz_c29364, mz_c29390, mz_c29393, mz_c29394, mz_c29398, mz_c29399, mz_c29400, mz_c29401, nI_add, pk_mul, pk_m1, mz_pp, mz_pq]; done) | omega | (simp only [mz_cm1, mz_c0, mz_c1, mz_c2, mz_c3, mz_c4, mz_c5, mz_c6, mz_c7, mz_c8, mz_c10, mz_c17, mz_c20, mz_c28, mz_c58, mz_c63, mz_c98, mz_c294, mz_c526, mz_c532, mz_c540, mz_c999, mz_c1900, mz_c2403, mz_c29362, mz_c29363, mz_c29364, mz_c29390, mz_c29393, mz_c29394, mz_c29398, mz_c29399, mz_c29400, mz_c29401, nI_add, pk_mul, pk_m1, mz_pp, mz_pq]; congr 1; omega)) ?_
  try simp only [mz_c0, mz_cm1]
  refine mz_Vcv hC tk_X3_syncBox rfl md_X1_namesDue lk_RX3_72 rfl (cc_namesDue l E hY hB) (by show (vwCl[mz_K _ _]?).map _ = _; rw [hKc]; rfl) ⟨Nat.le_of_ble_eq_true rfl, Nat.le_of_ble_eq_true rfl⟩ ⟨by simp only [mz_rm]; omega, by simp only [mz_rm]; omega⟩ (Nat.le_of_ble_eq_true rfl) (fun v9 G9 sz9 hp9 => ?_)
  obtain ⟨rfl, hG11, hs11⟩ := hp9
  rw [hG11, ← hs11]
  refine mz_sn_ok hC tk_X3_syncBox pk_RX3 6 [σ + 1, b, β] rfl (by (repeat' apply And.intro) <;> first | exact True.intro | assumption | (simp only [mz_cm1, mz_c0, mz_c1, mz_c2, mz_c3, mz_c4, mz_c5, mz_c6, mz_c7, mz_c8, mz_c10, mz_c17, mz_c20, mz_c28, mz_c58, mz_c63, mz_c98, mz_c294, mz_c526, mz_c532, mz_c540, mz_c999, mz_c1900, mz_c2403, mz_c29362, mz_c29363, mz_c29364, mz_c29390, mz_c29393, mz_c29394, mz_c29398, mz_c29399, mz_c29400, mz_c29401, nI_add, pk_mul, pk_m1, mz_pp, mz_pq]; done) | omega | (simp only [mz_cm1, mz_c0, mz_c1, mz_c2, mz_c3, mz_c4, mz_c5, mz_c6, mz_c7, mz_c8, mz_c10, mz_c17, mz_c20, mz_c28, mz_c58, mz_c63, mz_c98, mz_c294, mz_c526, mz_c532, mz_c540, mz_c999, mz_c1900, mz_c2403, mz_c29362, mz_c29363, mz_c29364, mz_c29390, mz_c29393, mz_c29394, mz_c29398, mz_c29399, mz_c29400, mz_c29401, nI_add, pk_mul, pk_m1, mz_pp, mz_pq]; congr 1; omega)) ?_
  try simp only [mz_c0, mz_cm1]
  refine mz_Vcv hC tk_X3_syncBox rfl md_X1_bringUpTo lk_RX3_75 rfl (cc_bringUpTo l E hY hB hb ⟨fun z => by rcases z with z | z <;> omega, fun z => by rcases z with z | z <;> omega, fun z => by rcases z with z | z <;> omega⟩ hch hso (mr_b2 f m0 b (mx_cB f b) (mx_gB f b) (mx_cC f m0 b)) rfl hfin) (by show (vwCl[mz_K _ _]?).map _ = _; rw [hKc]; rfl) ⟨Nat.le_of_ble_eq_true rfl, Nat.le_of_ble_eq_true rfl⟩ ⟨by simp only [mz_rm]; omega, by simp only [mz_rm]; omega⟩ (Nat.le_of_ble_eq_true rfl) (fun v1 G1 sz1 hp1 => ?_)
  obtain ⟨rfl, O1, hY1, hF1⟩ := hp1
  rw [hγ] at hY1 hF1
  have hS1 := hS.cp hm hb hF1 hY1 (mt_gr_ch hch (by show mr_sc f m0 b ≤ 532; omega)).1 o1
  have hF1z := hF1.mono (Y := mr_Z σ) (fun q hq => by unfold mr_Z; rcases hq with hq | hq <;> omega)
  have hS1' : mr_S G1 O1 sz1 σ (mr_sA f m0 b) (mr_lg Λ m0 b (mr_sc f m0 b)) := hS1
  have nA : mx_nD (mr_sA f m0 b) m0 = mx_nD f m0 := mr_nD_cong (o1 _ (by omega))
  have qA : mx_nQ (mr_sA f m0 b) = mx_nQ f := by unfold mx_nQ; rw [o1 _ (by omega)]
  have cA : mx_cC (mr_sA f m0 b) m0 b = mr_sc f m0 b := mr_nI_cl o2 (by omega)
  have hK1 := hS1'.1.1.1.1.1
  refine mz_V.sub (lv' := [some (.ref σ), some (.ref (σ + 21 + 13 * m0)), some (.int (nI b)), some (.ref γ), some (.int (nI (mx_cs f m0 b))), some (.int (nI (mx_mc f m0 b (mx_cB f b)))), some (.int (nI (mx_nc f m0 b (mx_cB f b) (mx_gB f b))))]) (by (repeat' apply And.intro) <;> first | with_reducible rfl | exact True.intro | (simp only [mz_cm1, mz_c0, mz_c1, mz_c2, mz_c3, mz_c4, mz_c5, mz_c6, mz_c7, mz_c8, mz_c10, mz_c17, mz_c20, mz_c28, mz_c58, mz_c63, mz_c98, mz_c294, mz_c526, mz_c532, mz_c540, mz_c999, mz_c1900, mz_c2403, mz_c29362, mz_c29363, mz_c29364, mz_c29390, mz_c29393, mz_c29394, mz_c29398, mz_c29399, mz_c29400, mz_c29401, nI_add, pk_mul, pk_m1, mz_pp, mz_pq]; done) | rfl) ?_
  refine mz_V.widen (k' := U) (n' := U) (by have e9 : (mr_b2 f m0 b (mx_cB f b) (mx_gB f b) (mx_cC f m0 b)).2 = mr_sc f m0 b := rfl; rw [e9]; omega) (by have e9 : (mr_b2 f m0 b (mx_cB f b) (mx_gB f b) (mx_cC f m0 b)).2 = mr_sc f m0 b := rfl; rw [e9]; omega) ?_
  refine mz_sn_ok hC tk_X3_syncBox pk_RX3 2 [] rfl (by (repeat' apply And.intro) <;> first | exact True.intro | assumption | (simp only [mz_cm1, mz_c0, mz_c1, mz_c2, mz_c3, mz_c4, mz_c5, mz_c6, mz_c7, mz_c8, mz_c10, mz_c17, mz_c20, mz_c28, mz_c58, mz_c63, mz_c98, mz_c294, mz_c526, mz_c532, mz_c540, mz_c999, mz_c1900, mz_c2403, mz_c29362, mz_c29363, mz_c29364, mz_c29390, mz_c29393, mz_c29394, mz_c29398, mz_c29399, mz_c29400, mz_c29401, nI_add, pk_mul, pk_m1, mz_pp, mz_pq]; done) | omega | (simp only [mz_cm1, mz_c0, mz_c1, mz_c2, mz_c3, mz_c4, mz_c5, mz_c6, mz_c7, mz_c8, mz_c10, mz_c17, mz_c20, mz_c28, mz_c58, mz_c63, mz_c98, mz_c294, mz_c526, mz_c532, mz_c540, mz_c999, mz_c1900, mz_c2403, mz_c29362, mz_c29363, mz_c29364, mz_c29390, mz_c29393, mz_c29394, mz_c29398, mz_c29399, mz_c29400, mz_c29401, nI_add, pk_mul, pk_m1, mz_pp, mz_pq]; congr 1; omega)) ?_
  try simp only [mz_c0, mz_cm1]
  by_cases hw : mx_cs f m0 b = 1
  · refine mz_br_f hC tk_X3_syncBox rfl ((by show ¬ ¬ nI (mx_cs f m0 b) = mz_c 1; exact fun z => z (by rw [hw]; rfl))) ?_
    refine mz_sn_ok hC tk_X3_syncBox pk_RX3 3 [] rfl (by (repeat' apply And.intro) <;> first | exact True.intro | assumption | (simp only [mz_cm1, mz_c0, mz_c1, mz_c2, mz_c3, mz_c4, mz_c5, mz_c6, mz_c7, mz_c8, mz_c10, mz_c17, mz_c20, mz_c28, mz_c58, mz_c63, mz_c98, mz_c294, mz_c526, mz_c532, mz_c540, mz_c999, mz_c1900, mz_c2403, mz_c29362, mz_c29363, mz_c29364, mz_c29390, mz_c29393, mz_c29394, mz_c29398, mz_c29399, mz_c29400, mz_c29401, nI_add, pk_mul, pk_m1, mz_pp, mz_pq]; done) | omega | (simp only [mz_cm1, mz_c0, mz_c1, mz_c2, mz_c3, mz_c4, mz_c5, mz_c6, mz_c7, mz_c8, mz_c10, mz_c17, mz_c20, mz_c28, mz_c58, mz_c63, mz_c98, mz_c294, mz_c526, mz_c532, mz_c540, mz_c999, mz_c1900, mz_c2403, mz_c29362, mz_c29363, mz_c29364, mz_c29390, mz_c29393, mz_c29394, mz_c29398, mz_c29399, mz_c29400, mz_c29401, nI_add, pk_mul, pk_m1, mz_pp, mz_pq]; congr 1; omega)) ?_
    try simp only [mz_c0, mz_cm1]
    have eB : mr_sB f m0 b = mx_ds (mx_nD f m0) (mr_sA f m0 b) m0 b (mr_sc f m0 b) (nI 3) (mx_nD f m0) (mx_nQ f) 0 := by unfold mr_sB; rw [if_pos hw]
    obtain ⟨d1, d2, d3, d4, d5⟩ := mx_ds_ok m0 b (mr_sc f m0 b) (nI 3) hm (mx_nD f m0) (mr_sA f m0 b) (mx_nD f m0) (mx_nQ f) 0 (by omega) hno.2 hqo.2 (by rw [o1 _ (by omega)]; exact hno.1) (by rw [o1 _ (by omega)]; exact hqo.1)
    rw [← eB] at d1 d2 d3 d4 d5
    have n8 := hno.2
    refine mz_Vcv hC tk_X3_syncBox rfl md_X3_dropDeedsOfOldEra lk_RX3_79 rfl (cs_dropOld l E hS1' m0 b hm hb (mr_sc f m0 b) cA (mr_sB f m0 b) (by rw [nA, qA]; exact eB.symm)) (by show (vwCl[mz_K _ _]?).map _ = _; rw [hK1]; rfl) ⟨Nat.le_of_ble_eq_true rfl, Nat.le_of_ble_eq_true rfl⟩ ⟨by simp only [mz_rm]; omega, by simp only [mz_rm]; omega⟩ (Nat.le_of_ble_eq_true rfl) (fun v2 G2 sz2 hp2 => ?_)
    obtain ⟨rfl, hs12, O2, hS2, hF2⟩ := hp2
    rw [← hs12]
    refine lost G2 O2 sz1 hS2 (mr_nI_cl d1 (by omega)) (mr_nI_cl d2 (by omega)) ?_ (hF1z.tr hF2)
    rw [← cA]
    exact mr_cC_cong (d5 _ (by omega))
  · refine mz_br_t hC tk_X3_syncBox rfl ((by show ¬ nI (mx_cs f m0 b) = mz_c 1; exact fun z => by rcases hcs with h | h | h <;> first | exact hw h | (rw [h] at z; exact absurd z (by decide)))) ?_
    have eB : mr_sB f m0 b = (mr_sA f m0 b, mx_nD f m0, mx_nQ f) := by unfold mr_sB; rw [if_neg hw]
    rw [eB] at lost
    exact lost G1 O1 sz1 hS1' nA qA cA hF1z
theorem cs_appendDeed (hS : mr_S G O sz σ f Λ) (m0 : Nat) (hm : m0 < 4) (kind b name : Int32) (n : Nat) (hn : mx_nD f m0 = n) (hn8 : n < 8) : mz_M l E yX3_appendDeed cX3_appendDeed 7 (some .int) 5 0 0 [.ref σ, .ref (σ + 21 + 13 * m0), .int kind, .int b, .int name] G sz (fun v' G' sz' => v' = some (.int (nI n)) ∧ sz = sz' ∧ ∃ O', mr_S G' O' sz σ (mx_bg f m0 n kind b name 0 0 (-1)) Λ ∧ mt_F (mr_Z σ) G G' O O' sz sz) := by
  obtain ⟨⟨⟨⟨hK, hO, hs⟩, i4⟩, -⟩, -⟩ := hS.1
  obtain ⟨⟨hKm, rm2⟩, td⟩ := (hS.2.2.2 m0 hm).d
  rw [hn] at td
  have kd := td.K
  have sd := td.s
  obtain ⟨gc, gs, gl⟩ := mt_gc56 hn8
  obtain ⟨δ, hδ⟩ : ∃ δ, δ = σ + 21 + 13 * m0 + 2 := ⟨_, rfl⟩
  rw [← hδ] at rm2 td kd sd
  have sne : σ ≠ δ := by omega
  refine mz_start (by decide) (Nat.le_of_ble_eq_true rfl) ?_
  intro p e s m args below meth c hC hret hnm
  refine mz_sn_ok hC tk_X3_appendDeed pk_RX3 8 [δ] rfl (by (repeat' apply And.intro) <;> first | exact True.intro | assumption | (simp only [mz_cm1, mz_c0, mz_c1, mz_c2, mz_c3, mz_c4, mz_c5, mz_c6, mz_c7, mz_c8, mz_c10, mz_c17, mz_c20, mz_c28, mz_c58, mz_c63, mz_c98, mz_c294, mz_c526, mz_c532, mz_c540, mz_c999, mz_c1900, mz_c2403, mz_c29362, mz_c29363, mz_c29364, mz_c29390, mz_c29393, mz_c29394, mz_c29398, mz_c29399, mz_c29400, mz_c29401, nI_add, pk_mul, pk_m1, mz_pp, mz_pq, sd]; done) | omega | (simp only [mz_cm1, mz_c0, mz_c1, mz_c2, mz_c3, mz_c4, mz_c5, mz_c6, mz_c7, mz_c8, mz_c10, mz_c17, mz_c20, mz_c28, mz_c58, mz_c63, mz_c98, mz_c294, mz_c526, mz_c532, mz_c540, mz_c999, mz_c1900, mz_c2403, mz_c29362, mz_c29363, mz_c29364, mz_c29390, mz_c29393, mz_c29394, mz_c29398, mz_c29399, mz_c29400, mz_c29401, nI_add, pk_mul, pk_m1, mz_pp, mz_pq, sd]; congr 1; omega)) ?_
  try simp only [mz_c0, mz_cm1, sd]
  refine mz_Vcv hC tk_X3_appendDeed rfl md_X4_open lk_RX3_48 rfl (ct_open l E td n (Nat.le_refl _) hn8) (by show (vwCl[mz_K _ _]?).map _ = _; rw [kd]; rfl) ⟨Nat.le_of_ble_eq_true rfl, Nat.le_of_ble_eq_true rfl⟩ ⟨by simp only [mz_rm]; omega, by simp only [mz_rm]; omega⟩ (Nat.le_of_ble_eq_true rfl) (fun v1 G1 sz1 hp1 => ?_)
  obtain ⟨rfl, hs1, O1, t1, hF1⟩ := hp1
  have hsz : sz1 = sz := by omega
  rw [hsz] at t1 hF1 ⊢
  rw [gl] at t1
  refine mz_V.widen (k' := 0) (n' := 0) (by omega) (by omega) ?_
  obtain ⟨⟨a1, a2⟩, a3, -, a5, -⟩ := hF1.at hO hs sne
  have hK1 : mz_K G1 σ = 3 := by rw [a3, hK]
  have i41 : mz_i G1 σ 4 = f 29400 + 1 := by rw [a5, i4]
  have kt1 := t1.K
  refine mz_br_t hC tk_X3_appendDeed rfl ((by show ¬ (1 : Int32) = 0; decide)) ?_
  refine mz_V.sub (lv' := [some (.ref σ), none, some (.int kind), some (.int b), some (.int name), some (.ref δ), some (.int (nI n))]) (by (repeat' apply And.intro) <;> first | with_reducible rfl | exact True.intro | (simp only [mz_cm1, mz_c0, mz_c1, mz_c2, mz_c3, mz_c4, mz_c5, mz_c6, mz_c7, mz_c8, mz_c10, mz_c17, mz_c20, mz_c28, mz_c58, mz_c63, mz_c98, mz_c294, mz_c526, mz_c532, mz_c540, mz_c999, mz_c1900, mz_c2403, mz_c29362, mz_c29363, mz_c29364, mz_c29390, mz_c29393, mz_c29394, mz_c29398, mz_c29399, mz_c29400, mz_c29401, nI_add, pk_mul, pk_m1, mz_pp, mz_pq]; done) | rfl) ?_
  refine mz_sn_ok hC tk_X3_appendDeed pk_RX3 5 [] rfl (by (repeat' apply And.intro) <;> first | exact True.intro | assumption | (simp only [mz_cm1, mz_c0, mz_c1, mz_c2, mz_c3, mz_c4, mz_c5, mz_c6, mz_c7, mz_c8, mz_c10, mz_c17, mz_c20, mz_c28, mz_c58, mz_c63, mz_c98, mz_c294, mz_c526, mz_c532, mz_c540, mz_c999, mz_c1900, mz_c2403, mz_c29362, mz_c29363, mz_c29364, mz_c29390, mz_c29393, mz_c29394, mz_c29398, mz_c29399, mz_c29400, mz_c29401, nI_add, pk_mul, pk_m1, mz_pp, mz_pq, i41]; done) | omega | (simp only [mz_cm1, mz_c0, mz_c1, mz_c2, mz_c3, mz_c4, mz_c5, mz_c6, mz_c7, mz_c8, mz_c10, mz_c17, mz_c20, mz_c28, mz_c58, mz_c63, mz_c98, mz_c294, mz_c526, mz_c532, mz_c540, mz_c999, mz_c1900, mz_c2403, mz_c29362, mz_c29363, mz_c29364, mz_c29390, mz_c29393, mz_c29394, mz_c29398, mz_c29399, mz_c29400, mz_c29401, nI_add, pk_mul, pk_m1, mz_pp, mz_pq, i41]; congr 1; omega)) ?_
  try simp only [mz_c0, mz_cm1, i41]
  refine mz_Vcv hC tk_X3_appendDeed rfl md_X4_put lk_RX3_52 rfl (ct_put l E t1 n 0 (f 29400 + 1) (by omega) (by omega)) (by show (vwCl[mz_K _ _]?).map _ = _; rw [kt1]; rfl) ⟨Nat.le_of_ble_eq_true rfl, Nat.le_of_ble_eq_true rfl⟩ ⟨Nat.le_of_ble_eq_true rfl, Nat.le_of_ble_eq_true rfl⟩ (Nat.le_of_ble_eq_true rfl) (fun v2 G2 sz2 hp2 => ?_)
  obtain ⟨rfl, hs2, t2, hF2⟩ := hp2
  rw [← hs2]
  have kt2 := t2.K
  refine mz_sn_ok hC tk_X3_appendDeed pk_RX3 4 [] rfl (by (repeat' apply And.intro) <;> first | exact True.intro | assumption | (simp only [mz_cm1, mz_c0, mz_c1, mz_c2, mz_c3, mz_c4, mz_c5, mz_c6, mz_c7, mz_c8, mz_c10, mz_c17, mz_c20, mz_c28, mz_c58, mz_c63, mz_c98, mz_c294, mz_c526, mz_c532, mz_c540, mz_c999, mz_c1900, mz_c2403, mz_c29362, mz_c29363, mz_c29364, mz_c29390, mz_c29393, mz_c29394, mz_c29398, mz_c29399, mz_c29400, mz_c29401, nI_add, pk_mul, pk_m1, mz_pp, mz_pq]; done) | omega | (simp only [mz_cm1, mz_c0, mz_c1, mz_c2, mz_c3, mz_c4, mz_c5, mz_c6, mz_c7, mz_c8, mz_c10, mz_c17, mz_c20, mz_c28, mz_c58, mz_c63, mz_c98, mz_c294, mz_c526, mz_c532, mz_c540, mz_c999, mz_c1900, mz_c2403, mz_c29362, mz_c29363, mz_c29364, mz_c29390, mz_c29393, mz_c29394, mz_c29398, mz_c29399, mz_c29400, mz_c29401, nI_add, pk_mul, pk_m1, mz_pp, mz_pq]; congr 1; omega)) ?_
  try simp only [mz_c0, mz_cm1]
  refine mz_Vcv hC tk_X3_appendDeed rfl md_X4_put lk_RX3_52 rfl (ct_put l E t2 n 1 kind (by omega) (by omega)) (by show (vwCl[mz_K _ _]?).map _ = _; rw [kt2]; rfl) ⟨Nat.le_of_ble_eq_true rfl, Nat.le_of_ble_eq_true rfl⟩ ⟨Nat.le_of_ble_eq_true rfl, Nat.le_of_ble_eq_true rfl⟩ (Nat.le_of_ble_eq_true rfl) (fun v3 G3 sz3 hp3 => ?_)
  obtain ⟨rfl, hs3, t3, hF3⟩ := hp3
  rw [← hs3]
  have kt3 := t3.K
  refine mz_sn_ok hC tk_X3_appendDeed pk_RX3 4 [] rfl (by (repeat' apply And.intro) <;> first | exact True.intro | assumption | (simp only [mz_cm1, mz_c0, mz_c1, mz_c2, mz_c3, mz_c4, mz_c5, mz_c6, mz_c7, mz_c8, mz_c10, mz_c17, mz_c20, mz_c28, mz_c58, mz_c63, mz_c98, mz_c294, mz_c526, mz_c532, mz_c540, mz_c999, mz_c1900, mz_c2403, mz_c29362, mz_c29363, mz_c29364, mz_c29390, mz_c29393, mz_c29394, mz_c29398, mz_c29399, mz_c29400, mz_c29401, nI_add, pk_mul, pk_m1, mz_pp, mz_pq]; done) | omega | (simp only [mz_cm1, mz_c0, mz_c1, mz_c2, mz_c3, mz_c4, mz_c5, mz_c6, mz_c7, mz_c8, mz_c10, mz_c17, mz_c20, mz_c28, mz_c58, mz_c63, mz_c98, mz_c294, mz_c526, mz_c532, mz_c540, mz_c999, mz_c1900, mz_c2403, mz_c29362, mz_c29363, mz_c29364, mz_c29390, mz_c29393, mz_c29394, mz_c29398, mz_c29399, mz_c29400, mz_c29401, nI_add, pk_mul, pk_m1, mz_pp, mz_pq]; congr 1; omega)) ?_
  try simp only [mz_c0, mz_cm1]
  refine mz_Vcv hC tk_X3_appendDeed rfl md_X4_put lk_RX3_52 rfl (ct_put l E t3 n 2 b (by omega) (by omega)) (by show (vwCl[mz_K _ _]?).map _ = _; rw [kt3]; rfl) ⟨Nat.le_of_ble_eq_true rfl, Nat.le_of_ble_eq_true rfl⟩ ⟨Nat.le_of_ble_eq_true rfl, Nat.le_of_ble_eq_true rfl⟩ (Nat.le_of_ble_eq_true rfl) (fun v4 G4 sz4 hp4 => ?_)
  obtain ⟨rfl, hs4, t4, hF4⟩ := hp4
  rw [← hs4]
  have kt4 := t4.K
  refine mz_sn_ok hC tk_X3_appendDeed pk_RX3 4 [] rfl (by (repeat' apply And.intro) <;> first | exact True.intro | assumption | (simp only [mz_cm1, mz_c0, mz_c1, mz_c2, mz_c3, mz_c4, mz_c5, mz_c6, mz_c7, mz_c8, mz_c10, mz_c17, mz_c20, mz_c28, mz_c58, mz_c63, mz_c98, mz_c294, mz_c526, mz_c532, mz_c540, mz_c999, mz_c1900, mz_c2403, mz_c29362, mz_c29363, mz_c29364, mz_c29390, mz_c29393, mz_c29394, mz_c29398, mz_c29399, mz_c29400, mz_c29401, nI_add, pk_mul, pk_m1, mz_pp, mz_pq]; done) | omega | (simp only [mz_cm1, mz_c0, mz_c1, mz_c2, mz_c3, mz_c4, mz_c5, mz_c6, mz_c7, mz_c8, mz_c10, mz_c17, mz_c20, mz_c28, mz_c58, mz_c63, mz_c98, mz_c294, mz_c526, mz_c532, mz_c540, mz_c999, mz_c1900, mz_c2403, mz_c29362, mz_c29363, mz_c29364, mz_c29390, mz_c29393, mz_c29394, mz_c29398, mz_c29399, mz_c29400, mz_c29401, nI_add, pk_mul, pk_m1, mz_pp, mz_pq]; congr 1; omega)) ?_
  try simp only [mz_c0, mz_cm1]
  refine mz_Vcv hC tk_X3_appendDeed rfl md_X4_put lk_RX3_52 rfl (ct_put l E t4 n 3 name (by omega) (by omega)) (by show (vwCl[mz_K _ _]?).map _ = _; rw [kt4]; rfl) ⟨Nat.le_of_ble_eq_true rfl, Nat.le_of_ble_eq_true rfl⟩ ⟨Nat.le_of_ble_eq_true rfl, Nat.le_of_ble_eq_true rfl⟩ (Nat.le_of_ble_eq_true rfl) (fun v5 G5 sz5 hp5 => ?_)
  obtain ⟨rfl, hs5, t5, hF5⟩ := hp5
  rw [← hs5]
  have kt5 := t5.K
  refine mz_sn_ok hC tk_X3_appendDeed pk_RX3 4 [] rfl (by (repeat' apply And.intro) <;> first | exact True.intro | assumption | (simp only [mz_cm1, mz_c0, mz_c1, mz_c2, mz_c3, mz_c4, mz_c5, mz_c6, mz_c7, mz_c8, mz_c10, mz_c17, mz_c20, mz_c28, mz_c58, mz_c63, mz_c98, mz_c294, mz_c526, mz_c532, mz_c540, mz_c999, mz_c1900, mz_c2403, mz_c29362, mz_c29363, mz_c29364, mz_c29390, mz_c29393, mz_c29394, mz_c29398, mz_c29399, mz_c29400, mz_c29401, nI_add, pk_mul, pk_m1, mz_pp, mz_pq]; done) | omega | (simp only [mz_cm1, mz_c0, mz_c1, mz_c2, mz_c3, mz_c4, mz_c5, mz_c6, mz_c7, mz_c8, mz_c10, mz_c17, mz_c20, mz_c28, mz_c58, mz_c63, mz_c98, mz_c294, mz_c526, mz_c532, mz_c540, mz_c999, mz_c1900, mz_c2403, mz_c29362, mz_c29363, mz_c29364, mz_c29390, mz_c29393, mz_c29394, mz_c29398, mz_c29399, mz_c29400, mz_c29401, nI_add, pk_mul, pk_m1, mz_pp, mz_pq]; congr 1; omega)) ?_
  try simp only [mz_c0, mz_cm1]
  refine mz_Vcv hC tk_X3_appendDeed rfl md_X4_put lk_RX3_52 rfl (ct_put l E t5 n 6 (-1) (by omega) (by omega)) (by show (vwCl[mz_K _ _]?).map _ = _; rw [kt5]; rfl) ⟨Nat.le_of_ble_eq_true rfl, Nat.le_of_ble_eq_true rfl⟩ ⟨Nat.le_of_ble_eq_true rfl, Nat.le_of_ble_eq_true rfl⟩ (Nat.le_of_ble_eq_true rfl) (fun v6 G6 sz6 hp6 => ?_)
  obtain ⟨rfl, hs6, t6, hF6⟩ := hp6
  rw [← hs6]
  have hFF := hF1.tr (hF2.tr (hF3.tr (hF4.tr (hF5.tr hF6))))
  have hb0 : ∀ i, i ≠ 29400 → ¬ (294 + 58 * m0 + 1 ≤ i ∧ i < 294 + 58 * m0 + 58) → mx_bg f m0 n kind b name 0 0 (-1) i = f i := by
    intro i h1 h2
    unfold mx_bg mx_DA
    simp only [mz_u1]
    simp (disch := omega) only [if_pos, if_neg, and_self, if_true, and_true, true_and, and_false, false_and, if_false]
  obtain ⟨fN, hfN⟩ : ∃ fN : Nat → Int32, fN = fun i => if i = 29400 then f 29400 else mx_bg f m0 n kind b name 0 0 (-1) i := ⟨_, rfl⟩
  have hS6 : mr_S G6 O1 sz σ fN Λ := by
    rw [hδ] at hFF t6
    refine hS.dd hm hFF (n' := n + 1) (t6.same (fun k' j' h1 h2 => ?_)) ?_ (fun i hi => ?_)
    · rw [hfN]
      show _ = if 294 + 58 * m0 + 1 + 1 + 7 * k' + j' = 29400 then _ else _
      rw [if_neg (by omega)]
      unfold mt_u mt_o mx_bg mx_DA mr_h
      simp only [mz_u1]
      by_cases hk' : k' = n
      · subst hk'
        rcases (show j' = 0 ∨ j' = 1 ∨ j' = 2 ∨ j' = 3 ∨ j' = 4 ∨ j' = 5 ∨ j' = 6 by omega) with rfl | rfl | rfl | rfl | rfl | rfl | rfl <;> simp (disch := omega) only [if_pos, if_neg, and_self, if_true, and_true, true_and, and_false, false_and, if_false]
      · simp (disch := omega) only [if_pos, if_neg, and_self, if_true, and_true, true_and, and_false, false_and, if_false]
    · rw [hfN]
      show (if 294 + 58 * m0 + 1 = 29400 then _ else _) = _
      rw [if_neg (by omega)]
      unfold mx_bg
      rw [mz_u1_s]
    · rw [hfN]
      dsimp only
      by_cases h1 : i = 29400
      · rw [if_pos h1, h1]
      · rw [if_neg h1]
        exact hb0 i h1 hi
  obtain ⟨⟨⟨⟨hK6, hO6, hs6'⟩, i46⟩, -⟩, -⟩ := hS6.1
  have i46' : mz_i G6 σ 4 = f 29400 + 1 := by rw [i46, hfN]; rfl
  obtain ⟨hS7, hF7⟩ := hS6.nx (f 29400 + 1)
  refine mz_sn_ok hC tk_X3_appendDeed pk_RX3 7 [] rfl (by (repeat' apply And.intro) <;> first | exact True.intro | assumption | (simp only [mz_cm1, mz_c0, mz_c1, mz_c2, mz_c3, mz_c4, mz_c5, mz_c6, mz_c7, mz_c8, mz_c10, mz_c17, mz_c20, mz_c28, mz_c58, mz_c63, mz_c98, mz_c294, mz_c526, mz_c532, mz_c540, mz_c999, mz_c1900, mz_c2403, mz_c29362, mz_c29363, mz_c29364, mz_c29390, mz_c29393, mz_c29394, mz_c29398, mz_c29399, mz_c29400, mz_c29401, nI_add, pk_mul, pk_m1, mz_pp, mz_pq, i46']; done) | omega | (simp only [mz_cm1, mz_c0, mz_c1, mz_c2, mz_c3, mz_c4, mz_c5, mz_c6, mz_c7, mz_c8, mz_c10, mz_c17, mz_c20, mz_c28, mz_c58, mz_c63, mz_c98, mz_c294, mz_c526, mz_c532, mz_c540, mz_c999, mz_c1900, mz_c2403, mz_c29362, mz_c29363, mz_c29364, mz_c29390, mz_c29393, mz_c29394, mz_c29398, mz_c29399, mz_c29400, mz_c29401, nI_add, pk_mul, pk_m1, mz_pp, mz_pq, i46']; congr 1; omega)) ?_
  try simp only [mz_c0, mz_cm1, i46']
  refine mz_Vireturn hC tk_X3_appendDeed rfl hret rfl (Nat.le_of_ble_eq_true rfl) (Nat.le_of_ble_eq_true rfl) ?_
  refine ⟨rfl, rfl, O1, ?_, (hFF.mono (fun q hq => ?_)).tr (hF7.mono (fun q hq => ?_))⟩
  · have e0 : mx_bg f m0 n kind b name 0 0 (-1) = mz_u1 fN 29400 (f 29400 + 1) := by
      funext i
      rw [hfN]
      simp only [mz_u1]
      by_cases h1 : i = 29400
      · rw [if_pos h1, h1]
        unfold mx_bg mx_DA
        simp only [mz_u1]
        simp (disch := omega) only [if_pos, if_neg, and_self, if_true, and_true, true_and, and_false, false_and, if_false]
      · rw [if_neg h1, if_neg h1]
    rw [e0]
    exact hS7
  · unfold mr_Z; omega
  · unfold mr_Z; omega
end MRS

