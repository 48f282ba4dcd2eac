/-! ===== the class: deeds are played back ===== -/
/-- the class can do deed k of machine m -/
def mr_gI (f : Nat → Int32) (m k : Nat) : Prop :=
  ((mx_dB f (mx_DA m k) < 3 ∧ f (mx_DA m k + 2) = nI (mx_dB f (mx_DA m k))) ∧ (f (mx_DA m k + 1) = nI 0 ∨ f (mx_DA m k + 1) = nI 1 ∨ f (mx_DA m k + 1) = nI 2)) ∧
  (∀ j, j < mx_cB f (mx_dB f (mx_DA m k)) → mx_nm f (98 * mx_dB f (mx_DA m k) + 17) j < f (98 * mx_dB f (mx_DA m k) + 1)) ∧
  (mr_so f (mx_CA m (mx_dB f (mx_DA m k)) + 2) (mx_cC f m (mx_dB f (mx_DA m k))) ∧ mx_cC f m (mx_dB f (mx_DA m k)) < 532) ∧ mx_hO f m (mx_DA m k) (mx_dB f (mx_DA m k))
theorem mr_gE_eq (f : Nat → Int32) {m at_ b q : Nat} (hm : m < 4) (hb : b < 3) (hq : q ≤ 10) (hat : 293 < at_ ∧ at_ < 526) (r : (Nat → Int32) × Int32 × Int32) : mx_gE f m at_ b q r = mx_nt (if mx_lv f m b then mz_u1 r.1 (mx_CA m b + 1) (r.1 (98 * b + 2)) else r.1) q (r.1 at_) r.2.1 r.2.2 := by
  have hCA : 526 ≤ mx_CA m b ∧ mx_CA m b + 2403 ≤ 29362 := by unfold mx_CA; omega
  unfold mx_gE mx_gF
  by_cases h : mx_lv f m b
  · rw [if_pos h, if_pos h, mx_nt_o _ _ _ _ _ hq (by omega)]
    funext i
    by_cases hi : i < 29362 ∨ 29399 < i
    · rw [mx_nt_o _ _ _ _ _ hq hi]
      simp only [mz_u1]
      by_cases h1 : i = mx_CA m b + 1
      · rw [if_pos h1, if_pos h1]
      · rw [if_neg h1, if_neg h1]
        exact mx_nt_o _ _ _ _ _ hq hi
    · rw [mz_u1_o _ _ (by omega)]
      rw [mr_nt_0, mr_nt_0]
      simp only [mr_nt0, mz_sf, mz_u1]
      rw [if_neg (show ¬ (29398 : Nat) = mx_CA m b + 1 by omega), if_neg (show ¬ (29399 : Nat) = mx_CA m b + 1 by omega)]
      by_cases h10 : q = 10
      · simp only [if_pos h10]
        simp only [mz_u1, mz_sf, if_neg (show ¬ i + 3 = mx_CA m b + 1 by omega), if_neg (show ¬ i = mx_CA m b + 1 by omega)]
      · simp only [if_neg h10]
        simp only [mz_u1, if_neg (show ¬ i = mx_CA m b + 1 by omega)]
  · rw [if_neg h, if_neg h, mz_u1_id]
theorem mr_C.mk1 {G : mz_G} {O : Nat → Nat} {sz γ τ : Nat} {f : Nat → Int32} {m b cc len : Nat} (hY : mr_C G O sz γ τ f m b cc len) (v : Int32) : mr_C (mz_si G γ 1 v) O sz γ τ (mz_u1 f (mx_CA m b + 1) v) m b cc len ∧ mt_F (fun q => q = γ) G (mz_si G γ 1 v) O O sz sz := by
  obtain ⟨h1, hF⟩ := hY.1.s1 v
  obtain ⟨⟨⟨hk, w0, w1⟩, w2⟩, w3⟩ := h1
  refine ⟨⟨⟨⟨⟨hk, by rw [mz_u1_o _ _ (by omega)]; exact w0, by rw [mz_u1_s]; exact w1⟩, w2⟩, w3.same (fun k j h1 h2 => ?_)⟩, by rw [mz_u1_o _ _ (by omega)]; exact hY.2⟩, hF⟩
  show f _ = mz_u1 f _ v _
  rw [mz_u1_o _ _ (by omega)]
section MRS
variable (l : Launch) (E : mz_E) {G : mz_G} {O : Nat → Nat} {sz σ : Nat} {f : Nat → Int32} {Λ : Nat → Nat → Nat}
theorem cs_playDeed (hS : mr_S G O sz σ f Λ) (m0 k b : Nat) (hm : m0 < 4) (hk : k < mx_nD f m0) (hI : mr_gI f m0 k) (hbe : b = mx_dB f (mx_DA m0 k)) (r : (Nat → Int32) × Int32 × Int32) (hr : r = mx_gR f m0 (mx_DA m0 k)) (U : Nat) (hU : U = mr_Ph Λ - mr_Ph (mr_lg Λ m0 b (mx_cC r.1 m0 b))) : mz_M l E yX3_playDeed cX3_playDeed 11 (some .int) 8 U U [.ref σ, .ref (σ + 21 + 13 * m0), .int (nI k)] G sz (fun v' G' sz' => v' = some (.int r.2.1) ∧ ∃ O', mr_S G' O' sz' σ (mx_gS f m0 (mx_DA m0 k)) (mr_lg Λ m0 b (mx_cC r.1 m0 b)) ∧ mt_F (mr_Z σ) G G' O O' sz sz') := by
  obtain ⟨⟨⟨hb, hb2⟩, hkind⟩, hasc, ⟨hso, hcc⟩, hin⟩ := hI
  have hr0 : r = mx_gA f m0 (mx_DA m0 k) b (mx_cB f b) (mx_gB f b) (mx_cC f m0 b) := by rw [hr, hbe]; rfl
  rw [← hbe] at hb hb2 hasc hso hcc hin
  have hqo := hS.qO
  have hbo := hS.bO hb
  have hCA : 526 ≤ mx_CA m0 b ∧ mx_CA m0 b + 2403 ≤ 29362 := by unfold mx_CA; omega
  have hDA : mx_DA m0 k = 294 + 58 * m0 + 2 + 7 * k := rfl
  have hgS : mx_gS f m0 (mx_DA m0 k) = mx_nt (if mx_lv f m0 b then mz_u1 r.1 (mx_CA m0 b + 1) (r.1 (98 * b + 2)) else r.1) (mx_nQ f) (r.1 (mx_DA m0 k)) r.2.1 r.2.2 := by
    rw [← mr_gE_eq f hm hb hqo.2 (by have := (hS.nO hm).2; omega) r]
    unfold mx_gS
    rw [← hr, ← hbe]
  have ro : ∀ i, i < 98 * b ∨ 98 * b + 98 ≤ i → i < mx_CA m0 b + 2 ∨ mx_CA m0 b + 2 + 1 + 4 * (mx_cC f m0 b + 1) ≤ i → r.1 i = f i := fun i h1 h2 => by rw [hr0]; exact mx_gA_o f hbo.1.2 hbo.2.2 h1 h2
  have hB := hS.2.2.1 b hb
  obtain ⟨hY, hch⟩ := (hS.2.2.2 m0 hm).2.2 b hb
  obtain ⟨⟨⟨hKm, -, rm1, rm2⟩, ⟨hKa, -, hna, -⟩, hra⟩, ⟨td, hnD⟩, -⟩ := hS.2.2.2 m0 hm
  have hrb := hra b hb
  have n8 := td.b.1
  obtain ⟨⟨⟨⟨⟨hK, hO, hs⟩, -⟩, r0, -⟩, ⟨⟨⟨k1, -⟩, n1⟩, hbx⟩, -⟩, -⟩ := id hS
  have hbb := hbx b hb
  have hKm' := hKm.1
  have kd := td.K
  obtain ⟨⟨⟨⟨⟨hKc, hOc, hsc⟩, j0, j1⟩, q2⟩, tc⟩, hccn⟩ := id hY
  obtain ⟨⟨⟨⟨hKb, hOb, hsb⟩, i0, i1, i2, i3⟩, r4, r5, hne⟩, ⟨t1, t2⟩, hc1, hc2⟩ := id hB
  have hlen : mx_cC f m0 b * 4 ≤ Λ m0 b := by
    obtain ⟨a, -, ⟨b1, -⟩, -⟩ := tc
    exact b1
  obtain ⟨κ, hκ⟩ : ∃ κ, κ = σ + 21 + 13 * m0 := ⟨_, rfl⟩
  rw [← hκ] at hKm' rm1 rm2 hKa hna hrb td kd ⊢
  obtain ⟨γ, hγ⟩ : ∃ γ, γ = κ + 4 + 3 * b := ⟨_, rfl⟩
  obtain ⟨β, hβ⟩ : ∃ β, β = σ + 6 + 5 * b := ⟨_, rfl⟩
  rw [← hγ] at hrb
  rw [← hκ, ← hγ] at hKc j0 j1
  rw [← hβ] at hbb hKb i0 i1 i2
  refine mz_start (by decide) (Nat.le_of_ble_eq_true rfl) ?_
  intro p e s m args below meth c hC hret hnm
  have tail : ∀ (lev nw : Int32) (G1 : mz_G) (O1 : Nat → Nat) (sz1 : Nat), (lev = if mx_lv f m0 b then 1 else 0) → (nw = if f (mx_DA m0 k + 1) = nI 1 then 1 else 0) → (r.2.2 = if f (mx_DA m0 k + 1) = nI 1 ∧ r.2.1 = 0 then f (98 * b + 1) else -1) → mr_S G1 O1 sz1 σ r.1 (mr_lg Λ m0 b (mx_cC r.1 m0 b)) → mt_F (mr_Z σ) G G1 O O1 sz sz1 → mz_V E p l e (mz_rm 8 U U) s m args below meth c 11 (U) (U) (mz_Z E below args s U U (fun v' G' sz' => v' = some (.int r.2.1) ∧ ∃ O', mr_S G' O' sz' σ (mx_gS f m0 (mx_DA m0 k)) (mr_lg Λ m0 b (mx_cC r.1 m0 b)) ∧ mt_F (mr_Z σ) G G' O O' sz sz')) (G1) (sz1) (126) [some (.ref σ), some (.ref κ), some (.int (nI k)), some (.int (nI b)), some (.ref β), some (.ref γ), some (.int lev), some (.int nw), some (.int (f (98 * b + 1)))] [.int r.2.1] := by
    intro lev nw G1 O1 sz1 hlev hnw hname hS1 hF1
    have rq : mx_nQ r.1 = mx_nQ f := by unfold mx_nQ; rw [ro _ (by omega) (by omega)]
    have rn : mx_nD r.1 m0 = mx_nD f m0 := mr_nD_cong (ro _ (by omega) (by omega))
    have note : ∀ (G2 : mz_G) (O2 : Nat → Nat) (f2 : Nat → Int32), f2 = (if mx_lv f m0 b then mz_u1 r.1 (mx_CA m0 b + 1) (r.1 (98 * b + 2)) else r.1) → mr_S G2 O2 sz1 σ f2 (mr_lg Λ m0 b (mx_cC r.1 m0 b)) → mt_F (mr_Z σ) G G2 O O2 sz sz1 → mz_V E p l e (mz_rm 8 U U) s m args below meth c 11 (U) (U) (mz_Z E below args s U U (fun v' G' sz' => v' = some (.int r.2.1) ∧ ∃ O', mr_S G' O' sz' σ (mx_gS f m0 (mx_DA m0 k)) (mr_lg Λ m0 b (mx_cC r.1 m0 b)) ∧ mt_F (mr_Z σ) G G' O O' sz sz')) (G2) (sz1) (143) [some (.ref σ), some (.ref κ), some (.int (nI k)), none, none, none, none, some (.int nw), some (.int (f (98 * b + 1))), some (.int r.2.1)] [] := by
      intro G2 O2 f2 hf2 hS2 hF2
      have o2 : ∀ i, ¬ i = mx_CA m0 b + 1 → f2 i = r.1 i := by
        intro i hi
        rw [hf2]
        split
        · rw [mz_u1_o _ _ hi]
        · rfl
      have f2q : mx_nQ f2 = mx_nQ f := by rw [← rq]; unfold mx_nQ; rw [o2 _ (by omega)]
      have f2n : mx_nD f2 m0 = mx_nD f m0 := by rw [← rn]; exact mr_nD_cong (o2 _ (by omega))
      have f2d : f2 (mx_DA m0 k) = r.1 (mx_DA m0 k) := o2 _ (by omega)
      obtain ⟨⟨hKm2, rm22⟩, td2⟩ := (hS2.2.2.2 m0 hm).d
      rw [f2n] at td2
      have kd2 := td2.K
      have hK2 := hS2.1.1.1.1.1
      rw [← hκ] at hKm2 rm22 td2 kd2
      have last : ∀ (ad : Int32), (if ad = 0 then -1 else f (98 * b + 1)) = r.2.2 → mz_V E p l e (mz_rm 8 U U) s m args below meth c 11 (U) (U) (mz_Z E below args s U U (fun v' G' sz' => v' = some (.int r.2.1) ∧ ∃ O', mr_S G' O' sz' σ (mx_gS f m0 (mx_DA m0 k)) (mr_lg Λ m0 b (mx_cC r.1 m0 b)) ∧ mt_F (mr_Z σ) G G' O O' sz sz')) (G2) (sz1) (158) [some (.ref σ), some (.ref κ), some (.int (nI k)), none, none, none, none, some (.int nw), some (.int (f (98 * b + 1))), some (.int r.2.1)] [.int ad] := by
        intro ad had
        refine mz_sn_ok hC tk_X3_playDeed pk_RX3 6 [κ + 2] rfl (by (repeat' apply And.intro) <;> first | exact True.intro | assumption | (simp only [mz_cm1, mz_c0, mz_c1, mz_c2, mz_c3, mz_c4, mz_c5, mz_c6, mz_c7, mz_c8, mz_c10, mz_c17, mz_c20, mz_c28, mz_c58, mz_c63, mz_c98, mz_c294, mz_c526, mz_c532, mz_c540, mz_c999, mz_c1900, mz_c2403, mz_c29362, mz_c29363, mz_c29364, mz_c29390, mz_c29393, mz_c29394, mz_c29398, mz_c29399, mz_c29400, mz_c29401, nI_add, pk_mul, pk_m1, mz_pp, mz_pq]; done) | omega | (simp only [mz_cm1, mz_c0, mz_c1, mz_c2, mz_c3, mz_c4, mz_c5, mz_c6, mz_c7, mz_c8, mz_c10, mz_c17, mz_c20, mz_c28, mz_c58, mz_c63, mz_c98, mz_c294, mz_c526, mz_c532, mz_c540, mz_c999, mz_c1900, mz_c2403, mz_c29362, mz_c29363, mz_c29364, mz_c29390, mz_c29393, mz_c29394, mz_c29398, mz_c29399, mz_c29400, mz_c29401, nI_add, pk_mul, pk_m1, mz_pp, mz_pq]; congr 1; omega)) ?_
        try simp only [mz_c0, mz_cm1]
        refine mz_Vcv hC tk_X3_playDeed rfl md_X4_cell lk_RX3_97 rfl (ct_cell l E td2 (nI k) (nI 0)) (by show (vwCl[mz_K _ _]?).map _ = _; rw [kd2]; rfl) ⟨Nat.le_of_ble_eq_true rfl, Nat.le_of_ble_eq_true rfl⟩ ⟨by simp only [mz_rm]; omega, by simp only [mz_rm]; omega⟩ (Nat.le_of_ble_eq_true rfl) (fun v9 G9 sz9 hp9 => ?_)
        obtain ⟨rfl, hG9, hs9⟩ := hp9
        rw [hG9, ← hs9, mt_c_in hk (by omega) (by omega) (by omega), mr_DA, show f2 (mx_DA m0 k + 0) = r.1 (mx_DA m0 k) from f2d]
        refine mz_sn_ok hC tk_X3_playDeed pk_RX3 2 [] rfl (by (repeat' apply And.intro) <;> first | exact True.intro | assumption | (simp only [mz_cm1, mz_c0, mz_c1, mz_c2, mz_c3, mz_c4, mz_c5, mz_c6, mz_c7, mz_c8, mz_c10, mz_c17, mz_c20, mz_c28, mz_c58, mz_c63, mz_c98, mz_c294, mz_c526, mz_c532, mz_c540, mz_c999, mz_c1900, mz_c2403, mz_c29362, mz_c29363, mz_c29364, mz_c29390, mz_c29393, mz_c29394, mz_c29398, mz_c29399, mz_c29400, mz_c29401, nI_add, pk_mul, pk_m1, mz_pp, mz_pq]; done) | omega | (simp only [mz_cm1, mz_c0, mz_c1, mz_c2, mz_c3, mz_c4, mz_c5, mz_c6, mz_c7, mz_c8, mz_c10, mz_c17, mz_c20, mz_c28, mz_c58, mz_c63, mz_c98, mz_c294, mz_c526, mz_c532, mz_c540, mz_c999, mz_c1900, mz_c2403, mz_c29362, mz_c29363, mz_c29364, mz_c29390, mz_c29393, mz_c29394, mz_c29398, mz_c29399, mz_c29400, mz_c29401, nI_add, pk_mul, pk_m1, mz_pp, mz_pq]; congr 1; omega)) ?_
        try simp only [mz_c0, mz_cm1]
        by_cases h0 : ad = 0
        · rw [if_pos h0] at had
          refine mz_br_t hC tk_X3_playDeed rfl ((by show ad = 0; exact h0)) ?_
          refine mz_sn_ok hC tk_X3_playDeed pk_RX3 1 [] rfl (by (repeat' apply And.intro) <;> first | exact True.intro | assumption | (simp only [mz_cm1, mz_c0, mz_c1, mz_c2, mz_c3, mz_c4, mz_c5, mz_c6, mz_c7, mz_c8, mz_c10, mz_c17, mz_c20, mz_c28, mz_c58, mz_c63, mz_c98, mz_c294, mz_c526, mz_c532, mz_c540, mz_c999, mz_c1900, mz_c2403, mz_c29362, mz_c29363, mz_c29364, mz_c29390, mz_c29393, mz_c29394, mz_c29398, mz_c29399, mz_c29400, mz_c29401, nI_add, pk_mul, pk_m1, mz_pp, mz_pq]; done) | omega | (simp only [mz_cm1, mz_c0, mz_c1, mz_c2, mz_c3, mz_c4, mz_c5, mz_c6, mz_c7, mz_c8, mz_c10, mz_c17, mz_c20, mz_c28, mz_c58, mz_c63, mz_c98, mz_c294, mz_c526, mz_c532, mz_c540, mz_c999, mz_c1900, mz_c2403, mz_c29362, mz_c29363, mz_c29364, mz_c29390, mz_c29393, mz_c29394, mz_c29398, mz_c29399, mz_c29400, mz_c29401, nI_add, pk_mul, pk_m1, mz_pp, mz_pq]; congr 1; omega)) ?_
          try simp only [mz_c0, mz_cm1]
          rw [had]
          refine mz_Vcv hC tk_X3_playDeed rfl md_X3_note lk_RX3_101 rfl (cs_note l E hS2 (r.1 (mx_DA m0 k)) r.2.1 r.2.2 (mx_nQ f) f2q) (by show (vwCl[mz_K _ _]?).map _ = _; rw [hK2]; rfl) ⟨Nat.le_of_ble_eq_true rfl, Nat.le_of_ble_eq_true rfl⟩ ⟨by simp only [mz_rm]; omega, by simp only [mz_rm]; omega⟩ (Nat.le_of_ble_eq_true rfl) (fun v3 G3 sz3 hp3 => ?_)
          obtain ⟨rfl, hs10, O3, hS3, hF3⟩ := hp3
          rw [← hs10]
          refine mz_sn_ok hC tk_X3_playDeed pk_RX3 1 [] rfl (by (repeat' apply And.intro) <;> first | exact True.intro | assumption | (simp only [mz_cm1, mz_c0, mz_c1, mz_c2, mz_c3, mz_c4, mz_c5, mz_c6, mz_c7, mz_c8, mz_c10, mz_c17, mz_c20, mz_c28, mz_c58, mz_c63, mz_c98, mz_c294, mz_c526, mz_c532, mz_c540, mz_c999, mz_c1900, mz_c2403, mz_c29362, mz_c29363, mz_c29364, mz_c29390, mz_c29393, mz_c29394, mz_c29398, mz_c29399, mz_c29400, mz_c29401, nI_add, pk_mul, pk_m1, mz_pp, mz_pq]; done) | omega | (simp only [mz_cm1, mz_c0, mz_c1, mz_c2, mz_c3, mz_c4, mz_c5, mz_c6, mz_c7, mz_c8, mz_c10, mz_c17, mz_c20, mz_c28, mz_c58, mz_c63, mz_c98, mz_c294, mz_c526, mz_c532, mz_c540, mz_c999, mz_c1900, mz_c2403, mz_c29362, mz_c29363, mz_c29364, mz_c29390, mz_c29393, mz_c29394, mz_c29398, mz_c29399, mz_c29400, mz_c29401, nI_add, pk_mul, pk_m1, mz_pp, mz_pq]; congr 1; omega)) ?_
          try simp only [mz_c0, mz_cm1]
          refine mz_Vireturn hC tk_X3_playDeed rfl hret rfl (Nat.le_refl _) (Nat.le_refl _) ?_
          refine ⟨rfl, O3, ?_, hF2.tr (hF3.mono (fun q hq => by unfold mr_Z; rcases hq with hq | hq <;> omega))⟩
          rw [hgS, ← hf2]
          exact hS3
        · rw [if_neg h0] at had
          refine mz_br_f hC tk_X3_playDeed rfl ((by show ¬ ad = 0; exact h0)) ?_
          refine mz_sn_ok hC tk_X3_playDeed pk_RX3 2 [] rfl (by (repeat' apply And.intro) <;> first | exact True.intro | assumption | (simp only [mz_cm1, mz_c0, mz_c1, mz_c2, mz_c3, mz_c4, mz_c5, mz_c6, mz_c7, mz_c8, mz_c10, mz_c17, mz_c20, mz_c28, mz_c58, mz_c63, mz_c98, mz_c294, mz_c526, mz_c532, mz_c540, mz_c999, mz_c1900, mz_c2403, mz_c29362, mz_c29363, mz_c29364, mz_c29390, mz_c29393, mz_c29394, mz_c29398, mz_c29399, mz_c29400, mz_c29401, nI_add, pk_mul, pk_m1, mz_pp, mz_pq]; done) | omega | (simp only [mz_cm1, mz_c0, mz_c1, mz_c2, mz_c3, mz_c4, mz_c5, mz_c6, mz_c7, mz_c8, mz_c10, mz_c17, mz_c20, mz_c28, mz_c58, mz_c63, mz_c98, mz_c294, mz_c526, mz_c532, mz_c540, mz_c999, mz_c1900, mz_c2403, mz_c29362, mz_c29363, mz_c29364, mz_c29390, mz_c29393, mz_c29394, mz_c29398, mz_c29399, mz_c29400, mz_c29401, nI_add, pk_mul, pk_m1, mz_pp, mz_pq]; congr 1; omega)) ?_
          try simp only [mz_c0, mz_cm1]
          rw [had]
          refine mz_Vcv hC tk_X3_playDeed rfl md_X3_note lk_RX3_101 rfl (cs_note l E hS2 (r.1 (mx_DA m0 k)) r.2.1 r.2.2 (mx_nQ f) f2q) (by show (vwCl[mz_K _ _]?).map _ = _; rw [hK2]; rfl) ⟨Nat.le_of_ble_eq_true rfl, Nat.le_of_ble_eq_true rfl⟩ ⟨by simp only [mz_rm]; omega, by simp only [mz_rm]; omega⟩ (Nat.le_of_ble_eq_true rfl) (fun v3 G3 sz3 hp3 => ?_)
          obtain ⟨rfl, hs10, O3, hS3, hF3⟩ := hp3
          rw [← hs10]
          refine mz_sn_ok hC tk_X3_playDeed pk_RX3 1 [] rfl (by (repeat' apply And.intro) <;> first | exact True.intro | assumption | (simp only [mz_cm1, mz_c0, mz_c1, mz_c2, mz_c3, mz_c4, mz_c5, mz_c6, mz_c7, mz_c8, mz_c10, mz_c17, mz_c20, mz_c28, mz_c58, mz_c63, mz_c98, mz_c294, mz_c526, mz_c532, mz_c540, mz_c999, mz_c1900, mz_c2403, mz_c29362, mz_c29363, mz_c29364, mz_c29390, mz_c29393, mz_c29394, mz_c29398, mz_c29399, mz_c29400, mz_c29401, nI_add, pk_mul, pk_m1, mz_pp, mz_pq]; done) | omega | (simp only [mz_cm1, mz_c0, mz_c1, mz_c2, mz_c3, mz_c4, mz_c5, mz_c6, mz_c7, mz_c8, mz_c10, mz_c17, mz_c20, mz_c28, mz_c58, mz_c63, mz_c98, mz_c294, mz_c526, mz_c532, mz_c540, mz_c999, mz_c1900, mz_c2403, mz_c29362, mz_c29363, mz_c29364, mz_c29390, mz_c29393, mz_c29394, mz_c29398, mz_c29399, mz_c29400, mz_c29401, nI_add, pk_mul, pk_m1, mz_pp, mz_pq]; congr 1; omega)) ?_
          try simp only [mz_c0, mz_cm1]
          refine mz_Vireturn hC tk_X3_playDeed rfl hret rfl (Nat.le_refl _) (Nat.le_refl _) ?_
          refine ⟨rfl, O3, ?_, hF2.tr (hF3.mono (fun q hq => by unfold mr_Z; rcases hq with hq | hq <;> omega))⟩
          rw [hgS, ← hf2]
          exact hS3
      refine mz_sn_ok hC tk_X3_playDeed pk_RX3 1 [] rfl (by (repeat' apply And.intro) <;> first | exact True.intro | assumption | (simp only [mz_cm1, mz_c0, mz_c1, mz_c2, mz_c3, mz_c4, mz_c5, mz_c6, mz_c7, mz_c8, mz_c10, mz_c17, mz_c20, mz_c28, mz_c58, mz_c63, mz_c98, mz_c294, mz_c526, mz_c532, mz_c540, mz_c999, mz_c1900, mz_c2403, mz_c29362, mz_c29363, mz_c29364, mz_c29390, mz_c29393, mz_c29394, mz_c29398, mz_c29399, mz_c29400, mz_c29401, nI_add, pk_mul, pk_m1, mz_pp, mz_pq]; done) | omega | (simp only [mz_cm1, mz_c0, mz_c1, mz_c2, mz_c3, mz_c4, mz_c5, mz_c6, mz_c7, mz_c8, mz_c10, mz_c17, mz_c20, mz_c28, mz_c58, mz_c63, mz_c98, mz_c294, mz_c526, mz_c532, mz_c540, mz_c999, mz_c1900, mz_c2403, mz_c29362, mz_c29363, mz_c29364, mz_c29390, mz_c29393, mz_c29394, mz_c29398, mz_c29399, mz_c29400, mz_c29401, nI_add, pk_mul, pk_m1, mz_pp, mz_pq]; congr 1; omega)) ?_
      try simp only [mz_c0, mz_cm1]
      by_cases hn1 : f (mx_DA m0 k + 1) = nI 1
      · rw [if_pos hn1] at hnw
        refine mz_br_f hC tk_X3_playDeed rfl ((by show ¬ nw = 0; rw [hnw]; decide)) ?_
        refine mz_sn_ok hC tk_X3_playDeed pk_RX3 1 [] rfl (by (repeat' apply And.intro) <;> first | exact True.intro | assumption | (simp only [mz_cm1, mz_c0, mz_c1, mz_c2, mz_c3, mz_c4, mz_c5, mz_c6, mz_c7, mz_c8, mz_c10, mz_c17, mz_c20, mz_c28, mz_c58, mz_c63, mz_c98, mz_c294, mz_c526, mz_c532, mz_c540, mz_c999, mz_c1900, mz_c2403, mz_c29362, mz_c29363, mz_c29364, mz_c29390, mz_c29393, mz_c29394, mz_c29398, mz_c29399, mz_c29400, mz_c29401, nI_add, pk_mul, pk_m1, mz_pp, mz_pq]; done) | omega | (simp only [mz_cm1, mz_c0, mz_c1, mz_c2, mz_c3, mz_c4, mz_c5, mz_c6, mz_c7, mz_c8, mz_c10, mz_c17, mz_c20, mz_c28, mz_c58, mz_c63, mz_c98, mz_c294, mz_c526, mz_c532, mz_c540, mz_c999, mz_c1900, mz_c2403, mz_c29362, mz_c29363, mz_c29364, mz_c29390, mz_c29393, mz_c29394, mz_c29398, mz_c29399, mz_c29400, mz_c29401, nI_add, pk_mul, pk_m1, mz_pp, mz_pq]; congr 1; omega)) ?_
        try simp only [mz_c0, mz_cm1]
        by_cases ho : r.2.1 = 0
        · refine mz_br_f hC tk_X3_playDeed rfl ((by show ¬ ¬ r.2.1 = 0; exact fun z => z ho)) ?_
          refine mz_sn_ok hC tk_X3_playDeed pk_RX3 2 [] rfl (by (repeat' apply And.intro) <;> first | exact True.intro | assumption | (simp only [mz_cm1, mz_c0, mz_c1, mz_c2, mz_c3, mz_c4, mz_c5, mz_c6, mz_c7, mz_c8, mz_c10, mz_c17, mz_c20, mz_c28, mz_c58, mz_c63, mz_c98, mz_c294, mz_c526, mz_c532, mz_c540, mz_c999, mz_c1900, mz_c2403, mz_c29362, mz_c29363, mz_c29364, mz_c29390, mz_c29393, mz_c29394, mz_c29398, mz_c29399, mz_c29400, mz_c29401, nI_add, pk_mul, pk_m1, mz_pp, mz_pq]; done) | omega | (simp only [mz_cm1, mz_c0, mz_c1, mz_c2, mz_c3, mz_c4, mz_c5, mz_c6, mz_c7, mz_c8, mz_c10, mz_c17, mz_c20, mz_c28, mz_c58, mz_c63, mz_c98, mz_c294, mz_c526, mz_c532, mz_c540, mz_c999, mz_c1900, mz_c2403, mz_c29362, mz_c29363, mz_c29364, mz_c29390, mz_c29393, mz_c29394, mz_c29398, mz_c29399, mz_c29400, mz_c29401, nI_add, pk_mul, pk_m1, mz_pp, mz_pq]; congr 1; omega)) ?_
          try simp only [mz_c0, mz_cm1]
          rw [if_pos ⟨hn1, ho⟩] at hname
          exact last (mz_c 1) (by rw [if_neg (by decide), hname])
        · refine mz_br_t hC tk_X3_playDeed rfl ((by show ¬ r.2.1 = 0; exact ho)) ?_
          refine mz_sn_ok hC tk_X3_playDeed pk_RX3 1 [] rfl (by (repeat' apply And.intro) <;> first | exact True.intro | assumption | (simp only [mz_cm1, mz_c0, mz_c1, mz_c2, mz_c3, mz_c4, mz_c5, mz_c6, mz_c7, mz_c8, mz_c10, mz_c17, mz_c20, mz_c28, mz_c58, mz_c63, mz_c98, mz_c294, mz_c526, mz_c532, mz_c540, mz_c999, mz_c1900, mz_c2403, mz_c29362, mz_c29363, mz_c29364, mz_c29390, mz_c29393, mz_c29394, mz_c29398, mz_c29399, mz_c29400, mz_c29401, nI_add, pk_mul, pk_m1, mz_pp, mz_pq]; done) | omega | (simp only [mz_cm1, mz_c0, mz_c1, mz_c2, mz_c3, mz_c4, mz_c5, mz_c6, mz_c7, mz_c8, mz_c10, mz_c17, mz_c20, mz_c28, mz_c58, mz_c63, mz_c98, mz_c294, mz_c526, mz_c532, mz_c540, mz_c999, mz_c1900, mz_c2403, mz_c29362, mz_c29363, mz_c29364, mz_c29390, mz_c29393, mz_c29394, mz_c29398, mz_c29399, mz_c29400, mz_c29401, nI_add, pk_mul, pk_m1, mz_pp, mz_pq]; congr 1; omega)) ?_
          try simp only [mz_c0, mz_cm1]
          rw [if_neg (fun z => ho z.2)] at hname
          exact last (mz_c 0) (by rw [if_pos (show mz_c 0 = 0 from rfl), hname])
      · rw [if_neg hn1] at hnw
        refine mz_br_t hC tk_X3_playDeed rfl ((by show nw = 0; exact hnw)) ?_
        refine mz_sn_ok hC tk_X3_playDeed pk_RX3 1 [] rfl (by (repeat' apply And.intro) <;> first | exact True.intro | assumption | (simp only [mz_cm1, mz_c0, mz_c1, mz_c2, mz_c3, mz_c4, mz_c5, mz_c6, mz_c7, mz_c8, mz_c10, mz_c17, mz_c20, mz_c28, mz_c58, mz_c63, mz_c98, mz_c294, mz_c526, mz_c532, mz_c540, mz_c999, mz_c1900, mz_c2403, mz_c29362, mz_c29363, mz_c29364, mz_c29390, mz_c29393, mz_c29394, mz_c29398, mz_c29399, mz_c29400, mz_c29401, nI_add, pk_mul, pk_m1, mz_pp, mz_pq]; done) | omega | (simp only [mz_cm1, mz_c0, mz_c1, mz_c2, mz_c3, mz_c4, mz_c5, mz_c6, mz_c7, mz_c8, mz_c10, mz_c17, mz_c20, mz_c28, mz_c58, mz_c63, mz_c98, mz_c294, mz_c526, mz_c532, mz_c540, mz_c999, mz_c1900, mz_c2403, mz_c29362, mz_c29363, mz_c29364, mz_c29390, mz_c29393, mz_c29394, mz_c29398, mz_c29399, mz_c29400, mz_c29401, nI_add, pk_mul, pk_m1, mz_pp, mz_pq]; congr 1; omega)) ?_
        try simp only [mz_c0, mz_cm1]
        rw [if_neg (fun z => hn1 z.1)] at hname
        exact last (mz_c 0) (by rw [if_pos (show mz_c 0 = 0 from rfl), hname])
    refine mz_sn_ok hC tk_X3_playDeed pk_RX3 2 [] rfl (by (repeat' apply And.intro) <;> first | exact True.intro | assumption | (simp only [mz_cm1, mz_c0, mz_c1, mz_c2, mz_c3, mz_c4, mz_c5, mz_c6, mz_c7, mz_c8, mz_c10, mz_c17, mz_c20, mz_c28, mz_c58, mz_c63, mz_c98, mz_c294, mz_c526, mz_c532, mz_c540, mz_c999, mz_c1900, mz_c2403, mz_c29362, mz_c29363, mz_c29364, mz_c29390, mz_c29393, mz_c29394, mz_c29398, mz_c29399, mz_c29400, mz_c29401, nI_add, pk_mul, pk_m1, mz_pp, mz_pq]; done) | omega | (simp only [mz_cm1, mz_c0, mz_c1, mz_c2, mz_c3, mz_c4, mz_c5, mz_c6, mz_c7, mz_c8, mz_c10, mz_c17, mz_c20, mz_c28, mz_c58, mz_c63, mz_c98, mz_c294, mz_c526, mz_c532, mz_c540, mz_c999, mz_c1900, mz_c2403, mz_c29362, mz_c29363, mz_c29364, mz_c29390, mz_c29393, mz_c29394, mz_c29398, mz_c29399, mz_c29400, mz_c29401, nI_add, pk_mul, pk_m1, mz_pp, mz_pq]; congr 1; omega)) ?_
    try simp only [mz_c0, mz_cm1]
    by_cases hl : mx_lv f m0 b
    · rw [if_pos hl] at hlev
      refine mz_br_f hC tk_X3_playDeed rfl ((by show ¬ lev = 0; rw [hlev]; decide)) ?_
      have hY1 := ((hS1.2.2.2 m0 hm).2.2 b hb).1
      have hB1 := hS1.2.2.1 b hb
      rw [← hκ, ← hγ] at hY1
      rw [← hβ] at hB1
      have hKc1 := hY1.1.1.1.1.1
      have hKb1 := hB1.1.1.1.1
      have i21 := hB1.1.1.2.2.2.1
      refine mz_sn_ok hC tk_X3_playDeed pk_RX3 4 [] rfl (by (repeat' apply And.intro) <;> first | exact True.intro | assumption | (simp only [mz_cm1, mz_c0, mz_c1, mz_c2, mz_c3, mz_c4, mz_c5, mz_c6, mz_c7, mz_c8, mz_c10, mz_c17, mz_c20, mz_c28, mz_c58, mz_c63, mz_c98, mz_c294, mz_c526, mz_c532, mz_c540, mz_c999, mz_c1900, mz_c2403, mz_c29362, mz_c29363, mz_c29364, mz_c29390, mz_c29393, mz_c29394, mz_c29398, mz_c29399, mz_c29400, mz_c29401, nI_add, pk_mul, pk_m1, mz_pp, mz_pq, i21]; done) | omega | (simp only [mz_cm1, mz_c0, mz_c1, mz_c2, mz_c3, mz_c4, mz_c5, mz_c6, mz_c7, mz_c8, mz_c10, mz_c17, mz_c20, mz_c28, mz_c58, mz_c63, mz_c98, mz_c294, mz_c526, mz_c532, mz_c540, mz_c999, mz_c1900, mz_c2403, mz_c29362, mz_c29363, mz_c29364, mz_c29390, mz_c29393, mz_c29394, mz_c29398, mz_c29399, mz_c29400, mz_c29401, nI_add, pk_mul, pk_m1, mz_pp, mz_pq, i21]; congr 1; omega)) ?_
      try simp only [mz_c0, mz_cm1, i21]
      obtain ⟨hY2, hF2⟩ := hY1.mk1 (r.1 (98 * b + 2))
      obtain ⟨-, hch1⟩ := (hS1.2.2.2 m0 hm).2.2 b hb
      have hS2 : mr_S (mz_si G1 γ 1 (r.1 (98 * b + 2))) O1 sz1 σ (mz_u1 r.1 (mx_CA m0 b + 1) (r.1 (98 * b + 2))) (mr_lg Λ m0 b (mx_cC r.1 m0 b)) := by
        rw [hγ, hκ] at hF2 hY2 ⊢
        have := hS1.cp hm hb (hF2.mono (fun q hq => Or.inl hq)) hY2 hch1 (fun i hi => mz_u1_o _ _ (by omega))
        rw [mz_u1_id, mz_u1_id] at this
        exact this
      refine mz_V.sub (lv' := [some (.ref σ), some (.ref κ), some (.int (nI k)), none, none, none, none, some (.int nw), some (.int (f (98 * b + 1))), some (.int r.2.1)]) (by (repeat' apply And.intro) <;> first | with_reducible rfl | exact True.intro | (simp only [mz_cm1, mz_c0, mz_c1, mz_c2, mz_c3, mz_c4, mz_c5, mz_c6, mz_c7, mz_c8, mz_c10, mz_c17, mz_c20, mz_c28, mz_c58, mz_c63, mz_c98, mz_c294, mz_c526, mz_c532, mz_c540, mz_c999, mz_c1900, mz_c2403, mz_c29362, mz_c29363, mz_c29364, mz_c29390, mz_c29393, mz_c29394, mz_c29398, mz_c29399, mz_c29400, mz_c29401, nI_add, pk_mul, pk_m1, mz_pp, mz_pq]; done) | rfl) ?_
      refine note _ O1 _ (by rw [if_pos hl]) hS2 (hF1.tr (hF2.mono (fun q hq => by unfold mr_Z; omega)))
    · rw [if_neg hl] at hlev
      refine mz_br_t hC tk_X3_playDeed rfl ((by show lev = 0; exact hlev)) ?_
      refine mz_V.sub (lv' := [some (.ref σ), some (.ref κ), some (.int (nI k)), none, none, none, none, some (.int nw), some (.int (f (98 * b + 1))), some (.int r.2.1)]) (by (repeat' apply And.intro) <;> first | with_reducible rfl | exact True.intro | (simp only [mz_cm1, mz_c0, mz_c1, mz_c2, mz_c3, mz_c4, mz_c5, mz_c6, mz_c7, mz_c8, mz_c10, mz_c17, mz_c20, mz_c28, mz_c58, mz_c63, mz_c98, mz_c294, mz_c526, mz_c532, mz_c540, mz_c999, mz_c1900, mz_c2403, mz_c29362, mz_c29363, mz_c29364, mz_c29390, mz_c29393, mz_c29394, mz_c29398, mz_c29399, mz_c29400, mz_c29401, nI_add, pk_mul, pk_m1, mz_pp, mz_pq]; done) | rfl) ?_
      exact note G1 O1 _ (by rw [if_neg hl]) hS1 hF1
  have kindp : ∀ (lev : Int32), (lev = if mx_lv f m0 b then 1 else 0) → mz_V E p l e (mz_rm 8 U U) s m args below meth c 11 (0) (0) (mz_Z E below args s U U (fun v' G' sz' => v' = some (.int r.2.1) ∧ ∃ O', mr_S G' O' sz' σ (mx_gS f m0 (mx_DA m0 k)) (mr_lg Λ m0 b (mx_cC r.1 m0 b)) ∧ mt_F (mr_Z σ) G G' O O' sz sz')) (G) (sz) (68) [some (.ref σ), some (.ref κ), some (.int (nI k)), some (.int (nI b)), some (.ref β), some (.ref γ)] [.int lev] := by
    intro lev hlev
    refine mz_sn_ok hC tk_X3_playDeed pk_RX3 5 [κ + 2] rfl (by (repeat' apply And.intro) <;> first | exact True.intro | assumption | (simp only [mz_cm1, mz_c0, mz_c1, mz_c2, mz_c3, mz_c4, mz_c5, mz_c6, mz_c7, mz_c8, mz_c10, mz_c17, mz_c20, mz_c28, mz_c58, mz_c63, mz_c98, mz_c294, mz_c526, mz_c532, mz_c540, mz_c999, mz_c1900, mz_c2403, mz_c29362, mz_c29363, mz_c29364, mz_c29390, mz_c29393, mz_c29394, mz_c29398, mz_c29399, mz_c29400, mz_c29401, nI_add, pk_mul, pk_m1, mz_pp, mz_pq]; done) | omega | (simp only [mz_cm1, mz_c0, mz_c1, mz_c2, mz_c3, mz_c4, mz_c5, mz_c6, mz_c7, mz_c8, mz_c10, mz_c17, mz_c20, mz_c28, mz_c58, mz_c63, mz_c98, mz_c294, mz_c526, mz_c532, mz_c540, mz_c999, mz_c1900, mz_c2403, mz_c29362, mz_c29363, mz_c29364, mz_c29390, mz_c29393, mz_c29394, mz_c29398, mz_c29399, mz_c29400, mz_c29401, nI_add, pk_mul, pk_m1, mz_pp, mz_pq]; congr 1; omega)) ?_
    try simp only [mz_c0, mz_cm1]
    refine mz_Vcv hC tk_X3_playDeed rfl md_X4_cell lk_RX3_97 rfl (ct_cell l E td (nI k) (nI 1)) (by show (vwCl[mz_K _ _]?).map _ = _; rw [kd]; rfl) ⟨Nat.le_of_ble_eq_true rfl, Nat.le_of_ble_eq_true rfl⟩ ⟨by simp only [mz_rm]; omega, by simp only [mz_rm]; omega⟩ (Nat.le_of_ble_eq_true rfl) (fun v9 G9 sz9 hp9 => ?_)
    obtain ⟨rfl, hG9, hs9⟩ := hp9
    rw [hG9, ← hs9, mt_c_in hk (by omega) (by omega) (by omega), mr_DA]
    refine mz_sn_ok hC tk_X3_playDeed pk_RX3 1 [] rfl (by (repeat' apply And.intro) <;> first | exact True.intro | assumption | (simp only [mz_cm1, mz_c0, mz_c1, mz_c2, mz_c3, mz_c4, mz_c5, mz_c6, mz_c7, mz_c8, mz_c10, mz_c17, mz_c20, mz_c28, mz_c58, mz_c63, mz_c98, mz_c294, mz_c526, mz_c532, mz_c540, mz_c999, mz_c1900, mz_c2403, mz_c29362, mz_c29363, mz_c29364, mz_c29390, mz_c29393, mz_c29394, mz_c29398, mz_c29399, mz_c29400, mz_c29401, nI_add, pk_mul, pk_m1, mz_pp, mz_pq]; done) | omega | (simp only [mz_cm1, mz_c0, mz_c1, mz_c2, mz_c3, mz_c4, mz_c5, mz_c6, mz_c7, mz_c8, mz_c10, mz_c17, mz_c20, mz_c28, mz_c58, mz_c63, mz_c98, mz_c294, mz_c526, mz_c532, mz_c540, mz_c999, mz_c1900, mz_c2403, mz_c29362, mz_c29363, mz_c29364, mz_c29390, mz_c29393, mz_c29394, mz_c29398, mz_c29399, mz_c29400, mz_c29401, nI_add, pk_mul, pk_m1, mz_pp, mz_pq]; congr 1; omega)) ?_
    try simp only [mz_c0, mz_cm1]
    by_cases hn1 : f (mx_DA m0 k + 1) = nI 1
    · refine mz_br_f hC tk_X3_playDeed rfl ((by show ¬ ¬ f (mx_DA m0 k + 1) = mz_c 1; exact fun z => z hn1)) ?_
      refine mz_sn_ok hC tk_X3_playDeed pk_RX3 7 [] rfl (by (repeat' apply And.intro) <;> first | exact True.intro | assumption | (simp only [mz_cm1, mz_c0, mz_c1, mz_c2, mz_c3, mz_c4, mz_c5, mz_c6, mz_c7, mz_c8, mz_c10, mz_c17, mz_c20, mz_c28, mz_c58, mz_c63, mz_c98, mz_c294, mz_c526, mz_c532, mz_c540, mz_c999, mz_c1900, mz_c2403, mz_c29362, mz_c29363, mz_c29364, mz_c29390, mz_c29393, mz_c29394, mz_c29398, mz_c29399, mz_c29400, mz_c29401, nI_add, pk_mul, pk_m1, mz_pp, mz_pq, i1]; done) | omega | (simp only [mz_cm1, mz_c0, mz_c1, mz_c2, mz_c3, mz_c4, mz_c5, mz_c6, mz_c7, mz_c8, mz_c10, mz_c17, mz_c20, mz_c28, mz_c58, mz_c63, mz_c98, mz_c294, mz_c526, mz_c532, mz_c540, mz_c999, mz_c1900, mz_c2403, mz_c29362, mz_c29363, mz_c29364, mz_c29390, mz_c29393, mz_c29394, mz_c29398, mz_c29399, mz_c29400, mz_c29401, nI_add, pk_mul, pk_m1, mz_pp, mz_pq, i1]; congr 1; omega)) ?_
      try simp only [mz_c0, mz_cm1, i1]
      refine mz_br_f hC tk_X3_playDeed rfl ((by show ¬ mz_c 1 = 0; decide)) ?_
      refine mz_sn_ok hC tk_X3_playDeed pk_RX3 5 [κ + 2] rfl (by (repeat' apply And.intro) <;> first | exact True.intro | assumption | (simp only [mz_cm1, mz_c0, mz_c1, mz_c2, mz_c3, mz_c4, mz_c5, mz_c6, mz_c7, mz_c8, mz_c10, mz_c17, mz_c20, mz_c28, mz_c58, mz_c63, mz_c98, mz_c294, mz_c526, mz_c532, mz_c540, mz_c999, mz_c1900, mz_c2403, mz_c29362, mz_c29363, mz_c29364, mz_c29390, mz_c29393, mz_c29394, mz_c29398, mz_c29399, mz_c29400, mz_c29401, nI_add, pk_mul, pk_m1, mz_pp, mz_pq]; done) | omega | (simp only [mz_cm1, mz_c0, mz_c1, mz_c2, mz_c3, mz_c4, mz_c5, mz_c6, mz_c7, mz_c8, mz_c10, mz_c17, mz_c20, mz_c28, mz_c58, mz_c63, mz_c98, mz_c294, mz_c526, mz_c532, mz_c540, mz_c999, mz_c1900, mz_c2403, mz_c29362, mz_c29363, mz_c29364, mz_c29390, mz_c29393, mz_c29394, mz_c29398, mz_c29399, mz_c29400, mz_c29401, nI_add, pk_mul, pk_m1, mz_pp, mz_pq]; congr 1; omega)) ?_
      try simp only [mz_c0, mz_cm1]
      have hrr : (r.1, r.2.1) = if mx_cB f b < 20 then (mx_gN f m0 (mx_DA m0 k) b (mx_cB f b) (mx_cC f m0 b), 0) else (f, nI 5) := by
        rw [hr0]
        unfold mx_gA
        rw [if_pos hn1]
        split <;> rfl
      have hcon := cs_playNew l E hS m0 b k hm hb hk hasc hso hcc r.1 r.2.1 hrr U hU
      rw [← hκ, ← hγ, ← hβ] at hcon
      refine mz_Vcs hC tk_X3_playDeed rfl md_X3_playNew lk_RX3_122 rfl (hcon) ⟨Nat.le_of_ble_eq_true rfl, Nat.le_of_ble_eq_true rfl⟩ ⟨by simp only [mz_rm]; omega, by simp only [mz_rm]; omega⟩ (Nat.le_of_ble_eq_true rfl) (fun v1 G1 sz1 hp1 => ?_)
      obtain ⟨rfl, O1, hS1, hF1⟩ := hp1
      refine mz_sn_ok hC tk_X3_playDeed pk_RX3 1 [] rfl (by (repeat' apply And.intro) <;> first | exact True.intro | assumption | (simp only [mz_cm1, mz_c0, mz_c1, mz_c2, mz_c3, mz_c4, mz_c5, mz_c6, mz_c7, mz_c8, mz_c10, mz_c17, mz_c20, mz_c28, mz_c58, mz_c63, mz_c98, mz_c294, mz_c526, mz_c532, mz_c540, mz_c999, mz_c1900, mz_c2403, mz_c29362, mz_c29363, mz_c29364, mz_c29390, mz_c29393, mz_c29394, mz_c29398, mz_c29399, mz_c29400, mz_c29401, nI_add, pk_mul, pk_m1, mz_pp, mz_pq]; done) | omega | (simp only [mz_cm1, mz_c0, mz_c1, mz_c2, mz_c3, mz_c4, mz_c5, mz_c6, mz_c7, mz_c8, mz_c10, mz_c17, mz_c20, mz_c28, mz_c58, mz_c63, mz_c98, mz_c294, mz_c526, mz_c532, mz_c540, mz_c999, mz_c1900, mz_c2403, mz_c29362, mz_c29363, mz_c29364, mz_c29390, mz_c29393, mz_c29394, mz_c29398, mz_c29399, mz_c29400, mz_c29401, nI_add, pk_mul, pk_m1, mz_pp, mz_pq]; congr 1; omega)) ?_
      try simp only [mz_c0, mz_cm1]
      refine mz_V.widen (k' := U) (n' := U) (by omega) (by omega) ?_
      refine mz_V.sub (lv' := [some (.ref σ), some (.ref κ), some (.int (nI k)), some (.int (nI b)), some (.ref β), some (.ref γ), some (.int lev), some (.int (mz_c 1)), some (.int (f (98 * b + 1)))]) (by (repeat' apply And.intro) <;> first | with_reducible rfl | exact True.intro | (simp only [mz_cm1, mz_c0, mz_c1, mz_c2, mz_c3, mz_c4, mz_c5, mz_c6, mz_c7, mz_c8, mz_c10, mz_c17, mz_c20, mz_c28, mz_c58, mz_c63, mz_c98, mz_c294, mz_c526, mz_c532, mz_c540, mz_c999, mz_c1900, mz_c2403, mz_c29362, mz_c29363, mz_c29364, mz_c29390, mz_c29393, mz_c29394, mz_c29398, mz_c29399, mz_c29400, mz_c29401, nI_add, pk_mul, pk_m1, mz_pp, mz_pq]; done) | rfl) ?_
      refine tail lev (mz_c 1) G1 O1 sz1 hlev (by rw [if_pos hn1]; rfl) ?_ hS1 hF1
      rw [hr0]
      unfold mx_gA
      rw [if_pos hn1]
      by_cases h20 : mx_cB f b < 20
      · rw [if_pos h20, if_pos ⟨hn1, rfl⟩]
      · rw [if_neg h20, if_neg (fun z => absurd (show nI 5 = 0 from z.2) (by decide))]
    · refine mz_br_t hC tk_X3_playDeed rfl ((by show ¬ f (mx_DA m0 k + 1) = mz_c 1; exact hn1)) ?_
      refine mz_sn_ok hC tk_X3_playDeed pk_RX3 6 [] rfl (by (repeat' apply And.intro) <;> first | exact True.intro | assumption | (simp only [mz_cm1, mz_c0, mz_c1, mz_c2, mz_c3, mz_c4, mz_c5, mz_c6, mz_c7, mz_c8, mz_c10, mz_c17, mz_c20, mz_c28, mz_c58, mz_c63, mz_c98, mz_c294, mz_c526, mz_c532, mz_c540, mz_c999, mz_c1900, mz_c2403, mz_c29362, mz_c29363, mz_c29364, mz_c29390, mz_c29393, mz_c29394, mz_c29398, mz_c29399, mz_c29400, mz_c29401, nI_add, pk_mul, pk_m1, mz_pp, mz_pq, i1]; done) | omega | (simp only [mz_cm1, mz_c0, mz_c1, mz_c2, mz_c3, mz_c4, mz_c5, mz_c6, mz_c7, mz_c8, mz_c10, mz_c17, mz_c20, mz_c28, mz_c58, mz_c63, mz_c98, mz_c294, mz_c526, mz_c532, mz_c540, mz_c999, mz_c1900, mz_c2403, mz_c29362, mz_c29363, mz_c29364, mz_c29390, mz_c29393, mz_c29394, mz_c29398, mz_c29399, mz_c29400, mz_c29401, nI_add, pk_mul, pk_m1, mz_pp, mz_pq, i1]; congr 1; omega)) ?_
      try simp only [mz_c0, mz_cm1, i1]
      refine mz_br_t hC tk_X3_playDeed rfl ((by show mz_c 0 = 0; rfl)) ?_
      refine mz_sn_ok hC tk_X3_playDeed pk_RX3 4 [] rfl (by (repeat' apply And.intro) <;> first | exact True.intro | assumption | (simp only [mz_cm1, mz_c0, mz_c1, mz_c2, mz_c3, mz_c4, mz_c5, mz_c6, mz_c7, mz_c8, mz_c10, mz_c17, mz_c20, mz_c28, mz_c58, mz_c63, mz_c98, mz_c294, mz_c526, mz_c532, mz_c540, mz_c999, mz_c1900, mz_c2403, mz_c29362, mz_c29363, mz_c29364, mz_c29390, mz_c29393, mz_c29394, mz_c29398, mz_c29399, mz_c29400, mz_c29401, nI_add, pk_mul, pk_m1, mz_pp, mz_pq]; done) | omega | (simp only [mz_cm1, mz_c0, mz_c1, mz_c2, mz_c3, mz_c4, mz_c5, mz_c6, mz_c7, mz_c8, mz_c10, mz_c17, mz_c20, mz_c28, mz_c58, mz_c63, mz_c98, mz_c294, mz_c526, mz_c532, mz_c540, mz_c999, mz_c1900, mz_c2403, mz_c29362, mz_c29363, mz_c29364, mz_c29390, mz_c29393, mz_c29394, mz_c29398, mz_c29399, mz_c29400, mz_c29401, nI_add, pk_mul, pk_m1, mz_pp, mz_pq]; congr 1; omega)) ?_
      try simp only [mz_c0, mz_cm1]
      have hrr : r = ((mx_do f m0 (mx_DA m0 k) b (mx_cB f b) (mx_gB f b) (mx_cC f m0 b)).1, (mx_do f m0 (mx_DA m0 k) b (mx_cB f b) (mx_gB f b) (mx_cC f m0 b)).2, -1) := by
        rw [hr0]
        unfold mx_gA
        rw [if_neg hn1]
      have hkd : f (mx_DA m0 k + 1) = nI 0 ∨ f (mx_DA m0 k + 1) = nI 2 := by
        rcases hkind with h | h | h
        · exact Or.inl h
        · exact absurd h hn1
        · exact Or.inr h
      have hcon := cs_playOn l E hS m0 b k hm hb hk hkd (fun h1 h2 => hin hn1 h1 h2) (r.1, r.2.1) (by rw [hrr])
      rw [← hκ, ← hγ, ← hβ] at hcon
      refine mz_Vcs hC tk_X3_playDeed rfl md_X3_playOnMessage lk_RX3_126 rfl (hcon) ⟨Nat.le_of_ble_eq_true rfl, Nat.le_of_ble_eq_true rfl⟩ ⟨by simp only [mz_rm]; omega, by simp only [mz_rm]; omega⟩ (Nat.le_of_ble_eq_true rfl) (fun v1 G1 sz1 hp1 => ?_)
      obtain ⟨rfl, hs10, O1, hS1, hF1⟩ := hp1
      rw [← hs10]
      refine mz_V.widen (k' := U) (n' := U) (by omega) (by omega) ?_
      refine mz_V.sub (lv' := [some (.ref σ), some (.ref κ), some (.int (nI k)), some (.int (nI b)), some (.ref β), some (.ref γ), some (.int lev), some (.int (mz_c 0)), some (.int (f (98 * b + 1)))]) (by (repeat' apply And.intro) <;> first | with_reducible rfl | exact True.intro | (simp only [mz_cm1, mz_c0, mz_c1, mz_c2, mz_c3, mz_c4, mz_c5, mz_c6, mz_c7, mz_c8, mz_c10, mz_c17, mz_c20, mz_c28, mz_c58, mz_c63, mz_c98, mz_c294, mz_c526, mz_c532, mz_c540, mz_c999, mz_c1900, mz_c2403, mz_c29362, mz_c29363, mz_c29364, mz_c29390, mz_c29393, mz_c29394, mz_c29398, mz_c29399, mz_c29400, mz_c29401, nI_add, pk_mul, pk_m1, mz_pp, mz_pq]; done) | rfl) ?_
      refine tail lev (mz_c 0) G1 O1 sz hlev (by rw [if_neg hn1]; rfl) (by rw [if_neg (fun z => hn1 z.1), hrr]) ?_ hF1
      have hcle : mx_cC r.1 m0 b * 4 ≤ Λ m0 b := by
        obtain ⟨a, -, ⟨b1, -⟩, -⟩ := ((hS1.2.2.2 m0 hm).2.2 b hb).1.1.2
        exact b1
      rw [mr_lg_id Λ hcle]
      exact hS1
  refine mz_sn_ok hC tk_X3_playDeed pk_RX3 4 [κ + 2] rfl (by (repeat' apply And.intro) <;> first | exact True.intro | assumption | (simp only [mz_cm1, mz_c0, mz_c1, mz_c2, mz_c3, mz_c4, mz_c5, mz_c6, mz_c7, mz_c8, mz_c10, mz_c17, mz_c20, mz_c28, mz_c58, mz_c63, mz_c98, mz_c294, mz_c526, mz_c532, mz_c540, mz_c999, mz_c1900, mz_c2403, mz_c29362, mz_c29363, mz_c29364, mz_c29390, mz_c29393, mz_c29394, mz_c29398, mz_c29399, mz_c29400, mz_c29401, nI_add, pk_mul, pk_m1, mz_pp, mz_pq]; done) | omega | (simp only [mz_cm1, mz_c0, mz_c1, mz_c2, mz_c3, mz_c4, mz_c5, mz_c6, mz_c7, mz_c8, mz_c10, mz_c17, mz_c20, mz_c28, mz_c58, mz_c63, mz_c98, mz_c294, mz_c526, mz_c532, mz_c540, mz_c999, mz_c1900, mz_c2403, mz_c29362, mz_c29363, mz_c29364, mz_c29390, mz_c29393, mz_c29394, mz_c29398, mz_c29399, mz_c29400, mz_c29401, nI_add, pk_mul, pk_m1, mz_pp, mz_pq]; congr 1; omega)) ?_
  try simp only [mz_c0, mz_cm1]
  refine mz_Vcv hC tk_X3_playDeed rfl md_X4_cell lk_RX3_97 rfl (ct_cell l E td (nI k) (nI 2)) (by show (vwCl[mz_K _ _]?).map _ = _; rw [kd]; rfl) ⟨Nat.le_of_ble_eq_true rfl, Nat.le_of_ble_eq_true rfl⟩ ⟨by simp only [mz_rm]; omega, by simp only [mz_rm]; omega⟩ (Nat.le_of_ble_eq_true rfl) (fun v9 G9 sz9 hp9 => ?_)
  obtain ⟨rfl, hG9, hs9⟩ := hp9
  rw [hG9, ← hs9, mt_c_in hk (by omega) (by omega) (by omega), mr_DA, hb2]
  refine mz_sn_ok hC tk_X3_playDeed pk_RX3 2 [] rfl (by (repeat' apply And.intro) <;> first | exact True.intro | assumption | (simp only [mz_cm1, mz_c0, mz_c1, mz_c2, mz_c3, mz_c4, mz_c5, mz_c6, mz_c7, mz_c8, mz_c10, mz_c17, mz_c20, mz_c28, mz_c58, mz_c63, mz_c98, mz_c294, mz_c526, mz_c532, mz_c540, mz_c999, mz_c1900, mz_c2403, mz_c29362, mz_c29363, mz_c29364, mz_c29390, mz_c29393, mz_c29394, mz_c29398, mz_c29399, mz_c29400, mz_c29401, nI_add, pk_mul, pk_m1, mz_pp, mz_pq]; done) | omega | (simp only [mz_cm1, mz_c0, mz_c1, mz_c2, mz_c3, mz_c4, mz_c5, mz_c6, mz_c7, mz_c8, mz_c10, mz_c17, mz_c20, mz_c28, mz_c58, mz_c63, mz_c98, mz_c294, mz_c526, mz_c532, mz_c540, mz_c999, mz_c1900, mz_c2403, mz_c29362, mz_c29363, mz_c29364, mz_c29390, mz_c29393, mz_c29394, mz_c29398, mz_c29399, mz_c29400, mz_c29401, nI_add, pk_mul, pk_m1, mz_pp, mz_pq]; congr 1; omega)) ?_
  try simp only [mz_c0, mz_cm1]
  refine mz_br_f hC tk_X3_playDeed rfl ((by show ¬ nI b < 0; exact mz_n_lt (mz_nn b (by omega)))) ?_
  refine mz_sn_ok hC tk_X3_playDeed pk_RX3 2 [] rfl (by (repeat' apply And.intro) <;> first | exact True.intro | assumption | (simp only [mz_cm1, mz_c0, mz_c1, mz_c2, mz_c3, mz_c4, mz_c5, mz_c6, mz_c7, mz_c8, mz_c10, mz_c17, mz_c20, mz_c28, mz_c58, mz_c63, mz_c98, mz_c294, mz_c526, mz_c532, mz_c540, mz_c999, mz_c1900, mz_c2403, mz_c29362, mz_c29363, mz_c29364, mz_c29390, mz_c29393, mz_c29394, mz_c29398, mz_c29399, mz_c29400, mz_c29401, nI_add, pk_mul, pk_m1, mz_pp, mz_pq]; done) | omega | (simp only [mz_cm1, mz_c0, mz_c1, mz_c2, mz_c3, mz_c4, mz_c5, mz_c6, mz_c7, mz_c8, mz_c10, mz_c17, mz_c20, mz_c28, mz_c58, mz_c63, mz_c98, mz_c294, mz_c526, mz_c532, mz_c540, mz_c999, mz_c1900, mz_c2403, mz_c29362, mz_c29363, mz_c29364, mz_c29390, mz_c29393, mz_c29394, mz_c29398, mz_c29399, mz_c29400, mz_c29401, nI_add, pk_mul, pk_m1, mz_pp, mz_pq]; congr 1; omega)) ?_
  try simp only [mz_c0, mz_cm1]
  refine mz_br_t hC tk_X3_playDeed rfl ((by show nI b < nI 3; exact nI_lt (by omega) (by omega))) ?_
  refine mz_sn_ok hC tk_X3_playDeed pk_RX3 14 [σ + 1, b, β, κ + 1, b, γ] rfl (by (repeat' apply And.intro) <;> first | exact True.intro | assumption | (simp only [mz_cm1, mz_c0, mz_c1, mz_c2, mz_c3, mz_c4, mz_c5, mz_c6, mz_c7, mz_c8, mz_c10, mz_c17, mz_c20, mz_c28, mz_c58, mz_c63, mz_c98, mz_c294, mz_c526, mz_c532, mz_c540, mz_c999, mz_c1900, mz_c2403, mz_c29362, mz_c29363, mz_c29364, mz_c29390, mz_c29393, mz_c29394, mz_c29398, mz_c29399, mz_c29400, mz_c29401, nI_add, pk_mul, pk_m1, mz_pp, mz_pq, j0, i0]; done) | omega | (simp only [mz_cm1, mz_c0, mz_c1, mz_c2, mz_c3, mz_c4, mz_c5, mz_c6, mz_c7, mz_c8, mz_c10, mz_c17, mz_c20, mz_c28, mz_c58, mz_c63, mz_c98, mz_c294, mz_c526, mz_c532, mz_c540, mz_c999, mz_c1900, mz_c2403, mz_c29362, mz_c29363, mz_c29364, mz_c29390, mz_c29393, mz_c29394, mz_c29398, mz_c29399, mz_c29400, mz_c29401, nI_add, pk_mul, pk_m1, mz_pp, mz_pq, j0, i0]; congr 1; omega)) ?_
  try simp only [mz_c0, mz_cm1, j0, i0]
  by_cases hsm : f (mx_CA m0 b) = f (98 * b + 0)
  · refine mz_br_f hC tk_X3_playDeed rfl ((by show ¬ ¬ f (mx_CA m0 b) = f (98 * b + 0); exact fun z => z hsm)) ?_
    refine mz_sn_ok hC tk_X3_playDeed pk_RX3 4 [] rfl (by (repeat' apply And.intro) <;> first | exact True.intro | assumption | (simp only [mz_cm1, mz_c0, mz_c1, mz_c2, mz_c3, mz_c4, mz_c5, mz_c6, mz_c7, mz_c8, mz_c10, mz_c17, mz_c20, mz_c28, mz_c58, mz_c63, mz_c98, mz_c294, mz_c526, mz_c532, mz_c540, mz_c999, mz_c1900, mz_c2403, mz_c29362, mz_c29363, mz_c29364, mz_c29390, mz_c29393, mz_c29394, mz_c29398, mz_c29399, mz_c29400, mz_c29401, nI_add, pk_mul, pk_m1, mz_pp, mz_pq, j1, i2]; done) | omega | (simp only [mz_cm1, mz_c0, mz_c1, mz_c2, mz_c3, mz_c4, mz_c5, mz_c6, mz_c7, mz_c8, mz_c10, mz_c17, mz_c20, mz_c28, mz_c58, mz_c63, mz_c98, mz_c294, mz_c526, mz_c532, mz_c540, mz_c999, mz_c1900, mz_c2403, mz_c29362, mz_c29363, mz_c29364, mz_c29390, mz_c29393, mz_c29394, mz_c29398, mz_c29399, mz_c29400, mz_c29401, nI_add, pk_mul, pk_m1, mz_pp, mz_pq, j1, i2]; congr 1; omega)) ?_
    try simp only [mz_c0, mz_cm1, j1, i2]
    by_cases hmk : f (mx_CA m0 b + 1) = f (98 * b + 2)
    · refine mz_br_f hC tk_X3_playDeed rfl ((by show ¬ ¬ f (mx_CA m0 b + 1) = f (98 * b + 2); exact fun z => z hmk)) ?_
      refine mz_sn_ok hC tk_X3_playDeed pk_RX3 2 [] rfl (by (repeat' apply And.intro) <;> first | exact True.intro | assumption | (simp only [mz_cm1, mz_c0, mz_c1, mz_c2, mz_c3, mz_c4, mz_c5, mz_c6, mz_c7, mz_c8, mz_c10, mz_c17, mz_c20, mz_c28, mz_c58, mz_c63, mz_c98, mz_c294, mz_c526, mz_c532, mz_c540, mz_c999, mz_c1900, mz_c2403, mz_c29362, mz_c29363, mz_c29364, mz_c29390, mz_c29393, mz_c29394, mz_c29398, mz_c29399, mz_c29400, mz_c29401, nI_add, pk_mul, pk_m1, mz_pp, mz_pq]; done) | omega | (simp only [mz_cm1, mz_c0, mz_c1, mz_c2, mz_c3, mz_c4, mz_c5, mz_c6, mz_c7, mz_c8, mz_c10, mz_c17, mz_c20, mz_c28, mz_c58, mz_c63, mz_c98, mz_c294, mz_c526, mz_c532, mz_c540, mz_c999, mz_c1900, mz_c2403, mz_c29362, mz_c29363, mz_c29364, mz_c29390, mz_c29393, mz_c29394, mz_c29398, mz_c29399, mz_c29400, mz_c29401, nI_add, pk_mul, pk_m1, mz_pp, mz_pq]; congr 1; omega)) ?_
      try simp only [mz_c0, mz_cm1]
      exact kindp (mz_c 1) (by rw [if_pos ⟨hsm, hmk⟩]; rfl)
    · refine mz_br_t hC tk_X3_playDeed rfl ((by show ¬ f (mx_CA m0 b + 1) = f (98 * b + 2); exact hmk)) ?_
      refine mz_sn_ok hC tk_X3_playDeed pk_RX3 1 [] rfl (by (repeat' apply And.intro) <;> first | exact True.intro | assumption | (simp only [mz_cm1, mz_c0, mz_c1, mz_c2, mz_c3, mz_c4, mz_c5, mz_c6, mz_c7, mz_c8, mz_c10, mz_c17, mz_c20, mz_c28, mz_c58, mz_c63, mz_c98, mz_c294, mz_c526, mz_c532, mz_c540, mz_c999, mz_c1900, mz_c2403, mz_c29362, mz_c29363, mz_c29364, mz_c29390, mz_c29393, mz_c29394, mz_c29398, mz_c29399, mz_c29400, mz_c29401, nI_add, pk_mul, pk_m1, mz_pp, mz_pq]; done) | omega | (simp only [mz_cm1, mz_c0, mz_c1, mz_c2, mz_c3, mz_c4, mz_c5, mz_c6, mz_c7, mz_c8, mz_c10, mz_c17, mz_c20, mz_c28, mz_c58, mz_c63, mz_c98, mz_c294, mz_c526, mz_c532, mz_c540, mz_c999, mz_c1900, mz_c2403, mz_c29362, mz_c29363, mz_c29364, mz_c29390, mz_c29393, mz_c29394, mz_c29398, mz_c29399, mz_c29400, mz_c29401, nI_add, pk_mul, pk_m1, mz_pp, mz_pq]; congr 1; omega)) ?_
      try simp only [mz_c0, mz_cm1]
      exact kindp (mz_c 0) (by rw [if_neg (fun z => hmk z.2)]; rfl)
  · refine mz_br_t hC tk_X3_playDeed rfl ((by show ¬ f (mx_CA m0 b) = f (98 * b + 0); exact hsm)) ?_
    refine mz_sn_ok hC tk_X3_playDeed pk_RX3 1 [] rfl (by (repeat' apply And.intro) <;> first | exact True.intro | assumption | (simp only [mz_cm1, mz_c0, mz_c1, mz_c2, mz_c3, mz_c4, mz_c5, mz_c6, mz_c7, mz_c8, mz_c10, mz_c17, mz_c20, mz_c28, mz_c58, mz_c63, mz_c98, mz_c294, mz_c526, mz_c532, mz_c540, mz_c999, mz_c1900, mz_c2403, mz_c29362, mz_c29363, mz_c29364, mz_c29390, mz_c29393, mz_c29394, mz_c29398, mz_c29399, mz_c29400, mz_c29401, nI_add, pk_mul, pk_m1, mz_pp, mz_pq]; done) | omega | (simp only [mz_cm1, mz_c0, mz_c1, mz_c2, mz_c3, mz_c4, mz_c5, mz_c6, mz_c7, mz_c8, mz_c10, mz_c17, mz_c20, mz_c28, mz_c58, mz_c63, mz_c98, mz_c294, mz_c526, mz_c532, mz_c540, mz_c999, mz_c1900, mz_c2403, mz_c29362, mz_c29363, mz_c29364, mz_c29390, mz_c29393, mz_c29394, mz_c29398, mz_c29399, mz_c29400, mz_c29401, nI_add, pk_mul, pk_m1, mz_pp, mz_pq]; congr 1; omega)) ?_
    try simp only [mz_c0, mz_cm1]
    exact kindp (mz_c 0) (by rw [if_neg (fun z => hsm z.1)]; rfl)
end MRS

