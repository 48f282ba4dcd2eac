/-! ===== the calls, one by one: the others ===== -/
theorem jt_swp {α : Type} (F : Nat → α) {s j : Nat} (h0 : 0 < j + 1) (h : ¬ j + 1 = s + 1) : mr_swp F (s + 1) (j + 1) = F (j + 1) := by
  unfold mr_swp
  rw [if_neg (by omega), if_neg h]
theorem jt_swpP (Λ : Nat → Nat → Nat → Nat) {s : Nat} (hs : s < 4) : mr_Pt (mr_swp Λ (s + 1)) = mr_Pt Λ := by
  have e : ∀ i, mr_swp Λ (s + 1) i = if i = 0 then Λ (s + 1) else if i = s + 1 then Λ 0 else Λ i := fun i => rfl
  unfold mr_Pt
  rw [e 0, e 1, e 2, e 3, e 4]
  rcases (show s = 0 ∨ s = 1 ∨ s = 2 ∨ s = 3 by omega) with rfl | rfl | rfl | rfl <;> simp <;> omega
section JT
variable (l : Launch) (E : mz_E) {G : mz_G} {sz ω o : Nat} {A : mx_A} {x : mx_S} {t kc ks : Nat}
theorem st_copyOf (hJ : jJ A ω o t kc ks G sz x) (ht : t < 512) (hl : l.stackTraces = false) (p1 p2 p3 : Int32) : jSt l E A ω o t kc ks yL_copyOf cL_copyOf 6 [(0, 12, 15, 13), (0, 12, 19, 15)] 8 yX6_copyOf cX6_copyOf 4 (some .int) 5 [.int p1, .int p2, .int p3] Int32.toInt64 G sz x := by
  obtain ⟨O, B, sv, F, Λ, v1, v2, hC, hR, hK⟩ := hJ
  obtain ⟨hZ, U, hU⟩ := hC.sizes
  have hM := hC.1.1
  have hA := hC.1.2.1
  have kω := hM.1.1.1.1.1
  have h4 := hM.1.1.2.2
  have e0 := hR.1.1
  have hs := hR.1.2
  have iv := hR.2.2.1
  have hZx := e0 ▸ hZ
  obtain ⟨zB, zC, zN, zQ⟩ := id hZx
  by_cases hm : 0 ≤ p1 ∧ p1 ≤ nI 3
  rotate_left
  · exact j_R l E hC hR hK ht 1 (by omega) (cw_copyOf_x1 l E p1 p2 p3 (cf_copyOf_x1 l E hl hM p1 hm p2 p3) kω) (fun sz1 => cm_copyOf_1 l E sz1 x hA p1 p2 p3 (fun z => hm z.1))
  obtain ⟨m0, hm4, rfl⟩ := mz_mN hm
  by_cases hb : 0 ≤ p2 ∧ p2 ≤ nI 2
  rotate_left
  · exact j_R l E hC hR hK ht 1 (by omega) (cw_copyOf_x1 l E (nI m0) p2 p3 (cf_copyOf_x2 l E hl hM m0 hm4 p2 hb p3) kω) (fun sz1 => cm_copyOf_1 l E sz1 x hA (nI m0) p2 p3 (fun z => hb z.2))
  obtain ⟨b, hb3, rfl⟩ := mz_bxN hb
  by_cases h1 : 0 ≤ p3 ∧ p3 ≤ nI 3
  rotate_left
  · exact j_R l E hC hR hK ht 2 (by omega) (cw_copyOf_x2 l E (nI m0) (nI b) p3 (cf_copyOf_x3 l E hl hM m0 hm4 b hb3 p3 h1) kω) (fun sz1 => cm_copyOf_2 l E sz1 x hA (nI m0) (nI b) p3 ⟨hm, hb⟩ h1)
  obtain ⟨w, hw, rfl⟩ := mz_nat63 (by omega) h1
  obtain ⟨S, hS⟩ : ∃ S, S = mx_vw (F 0) m0 b (mx_cC (F 0) m0 b) (mx_nD (F 0) m0) (mx_view x) := ⟨_, rfl⟩
  have hSx : mx_vw (mx_now x) m0 b (mx_cC (mx_now x) m0 b) (mx_nD (mx_now x) m0) (mx_view x) = S := by rw [hS, e0]
  have hcc := iv.cc (by omega) hm4 hb3
  have hSle : S.2 ≤ 540 := by
    have := mx_vw_le (F 0) m0 b (mx_cC (F 0) m0 b) (mx_nD (F 0) m0) (mx_view x)
    have := (hZ.2.2.1 m0 hm4).2
    rw [← hS] at *
    omega
  have hgv := mt_gr_cv hM.2.2.2.1.2 hSle
  obtain ⟨Uv, hUv⟩ : ∃ Uv, Uv + mr_pv (mt_gr 3 540 v1 S.2) = mr_pv v1 := ⟨_, Nat.sub_add_cancel hgv.2⟩
  have hcm : ∀ G1 sz1, mx_Ok A G1 → mx_M l E A G1 sz1 yX6_copyOf cX6_copyOf 4 (some .int) 5 [.int (nI m0), .int (nI b), .int (nI w)] x (some (.int (mx_ct (F 0) m0 b w S.2))) (mx_lay (mx_wrf x 0) S) := fun G1 sz1 hA1 => by
    have := cm_copyOf l E sz1 x hA1 m0 b (mx_cC (mx_now x) m0 b) (mx_nD (mx_now x) m0) w hm4 hb3 hw (zC m0 b hm4 hb3).1 (by have := (zC m0 b hm4 hb3).2; omega) (zN m0 hm4).1 (zN m0 hm4).2
    rw [hSx] at this
    rw [e0]
    exact this
  by_cases h3 : w < 3
  · have ect : mx_ct (F 0) m0 b w S.2 = F 0 (mx_CA m0 b + w) := by
      unfold mx_ct
      by_cases h2 : w < 2
      · rw [if_pos h2]
      · rw [if_neg h2, if_pos (show w = 2 by omega), show w = 2 by omega]
    rw [ect] at hcm
    exact j_V0 l E hC hR hK ht (x' := mx_lay (mx_wrf x 0) S) (F 0 (mx_CA m0 b + w)) (cf_copyOf l E hM m0 hm4 b hb3 w h3) (fun _ _ _ h hp => cw_copyOf l E (nI m0) (nI b) (nI w) h kω hp) hcm rfl rfl rfl rfl
  · obtain rfl : w = 3 := by omega
    exact j_V l E hC hR hK ht (x' := mx_lay (mx_wrf x 0) S) (mc := Uv) (v1' := mt_gr 3 540 v1 S.2) (v2' := v2) (by omega) (nI S.2) (cf_copyOf_3 l E hM m0 hm4 b hb3 (mx_view x) S hS hcc Uv hUv) (fun _ _ _ h hp => cw_copyOf l E (nI m0) (nI b) (nI 3) h kω hp) hcm rfl rfl rfl rfl
theorem st_copied (hJ : jJ A ω o t kc ks G sz x) (ht : t < 512) (hl : l.stackTraces = false) (p1 p2 p3 p4 : Int32) : jSt l E A ω o t kc ks yL_copied cL_copied 7 [(0, 14, 17, 13), (0, 14, 21, 15)] 8 yX6_copied cX6_copied 5 (some .int) 4 [.int p1, .int p2, .int p3, .int p4] Int32.toInt64 G sz x := by
  obtain ⟨O, B, sv, F, Λ, v1, v2, hC, hR, hK⟩ := hJ
  obtain ⟨hZ, U, hU⟩ := hC.sizes
  have hM := hC.1.1
  have hA := hC.1.2.1
  have kω := hM.1.1.1.1.1
  have h4 := hM.1.1.2.2
  have e0 := hR.1.1
  have hs := hR.1.2
  have iv := hR.2.2.1
  have hZx := e0 ▸ hZ
  obtain ⟨zB, zC, zN, zQ⟩ := id hZx
  by_cases hm : 0 ≤ p1 ∧ p1 ≤ nI 3
  rotate_left
  · exact j_R l E hC hR hK ht 1 (by omega) (cw_copied_x1 l E p1 p2 p3 p4 (cf_copied_x1 l E hl hM p1 hm p2 p3 p4) kω) (fun sz1 => cm_copied_1 l E sz1 x hA p1 p2 p3 p4 (fun z => hm z.1))
  obtain ⟨m0, hm4, rfl⟩ := mz_mN hm
  by_cases hb : 0 ≤ p2 ∧ p2 ≤ nI 2
  rotate_left
  · exact j_R l E hC hR hK ht 1 (by omega) (cw_copied_x1 l E (nI m0) p2 p3 p4 (cf_copied_x2 l E hl hM m0 hm4 p2 hb p3 p4) kω) (fun sz1 => cm_copied_1 l E sz1 x hA (nI m0) p2 p3 p4 (fun z => hb z.2))
  obtain ⟨b, hb3, rfl⟩ := mz_bxN hb
  by_cases h1 : 0 ≤ p4 ∧ p4 ≤ nI 3
  rotate_left
  · exact j_R l E hC hR hK ht 2 (by omega) (cw_copied_x2 l E (nI m0) (nI b) p3 p4 (cf_copied_x3 l E hl hM m0 hm4 b hb3 p4 h1 p3) kω) (fun sz1 => cm_copied_2 l E sz1 x hA (nI m0) (nI b) p3 p4 ⟨hm, hb⟩ h1)
  obtain ⟨w, hw, rfl⟩ := mz_nat63 (by omega) h1
  have eq1 : mt_c (mx_cC (F 0) m0 b) 4 (mr_h (F 0) (mx_CA m0 b + 2) 4) p3 (nI w) = mx_td (F 0) (mx_CA m0 b + 2) (mx_cC (F 0) m0 b) p3 w := jt_c (by omega) (by omega)
  have hcf := cf_copied l E hM m0 hm4 b hb3 p3 (nI w) h1
  rw [eq1] at hcf
  exact j_V0 l E hC hR hK ht (x' := mx_wrf x 0) (mx_td (F 0) (mx_CA m0 b + 2) (mx_cC (F 0) m0 b) p3 w) (hcf) (fun _ _ _ h hp => cw_copied l E (nI m0) (nI b) p3 (nI w) h kω hp) (fun G1 sz1 hA1 => by rw [e0]; exact cm_copied l E sz1 x hA1 m0 b (mx_cC (mx_now x) m0 b) w p3 hm4 hb3 hw (zC m0 b hm4 hb3).1 (by have := (zC m0 b hm4 hb3).2; omega)) rfl rfl rfl rfl
theorem st_view (hJ : jJ A ω o t kc ks G sz x) (ht : t < 512) (hl : l.stackTraces = false) (p1 p2 p3 p4 : Int32) : jSt l E A ω o t kc ks yL_view cL_view 7 [(0, 14, 17, 13), (0, 14, 21, 15)] 8 yX6_view cX6_view 5 (some .int) 4 [.int p1, .int p2, .int p3, .int p4] Int32.toInt64 G sz x := by
  obtain ⟨O, B, sv, F, Λ, v1, v2, hC, hR, hK⟩ := hJ
  obtain ⟨hZ, U, hU⟩ := hC.sizes
  have hM := hC.1.1
  have hA := hC.1.2.1
  have kω := hM.1.1.1.1.1
  have h4 := hM.1.1.2.2
  have e0 := hR.1.1
  have hs := hR.1.2
  have iv := hR.2.2.1
  have hZx := e0 ▸ hZ
  obtain ⟨zB, zC, zN, zQ⟩ := id hZx
  by_cases hm : 0 ≤ p1 ∧ p1 ≤ nI 3
  rotate_left
  · exact j_R l E hC hR hK ht 1 (by omega) (cw_view_x1 l E p1 p2 p3 p4 (cf_view_x1 l E hl hM p1 hm p2 p3 p4) kω) (fun sz1 => cm_view_1 l E sz1 x hA p1 p2 p3 p4 (fun z => hm z.1))
  obtain ⟨m0, hm4, rfl⟩ := mz_mN hm
  by_cases hb : 0 ≤ p2 ∧ p2 ≤ nI 2
  rotate_left
  · exact j_R l E hC hR hK ht 1 (by omega) (cw_view_x1 l E (nI m0) p2 p3 p4 (cf_view_x2 l E hl hM m0 hm4 p2 hb p3 p4) kω) (fun sz1 => cm_view_1 l E sz1 x hA (nI m0) p2 p3 p4 (fun z => hb z.2))
  obtain ⟨b, hb3, rfl⟩ := mz_bxN hb
  by_cases h1 : 0 ≤ p4 ∧ p4 ≤ nI 2
  rotate_left
  · exact j_R l E hC hR hK ht 2 (by omega) (cw_view_x2 l E (nI m0) (nI b) p3 p4 (cf_view_x3 l E hl hM m0 hm4 b hb3 p4 h1 p3) kω) (fun sz1 => cm_view_2 l E sz1 x hA (nI m0) (nI b) p3 p4 ⟨hm, hb⟩ h1)
  obtain ⟨w, hw, rfl⟩ := mz_nat63 (by omega) h1
  obtain ⟨S, hS⟩ : ∃ S, S = mx_vw (F 0) m0 b (mx_cC (F 0) m0 b) (mx_nD (F 0) m0) (mx_view x) := ⟨_, rfl⟩
  have hSx : mx_vw (mx_now x) m0 b (mx_cC (mx_now x) m0 b) (mx_nD (mx_now x) m0) (mx_view x) = S := by rw [hS, e0]
  have hcc := iv.cc (by omega) hm4 hb3
  have hSle : S.2 ≤ 540 := by
    have := mx_vw_le (F 0) m0 b (mx_cC (F 0) m0 b) (mx_nD (F 0) m0) (mx_view x)
    have := (hZ.2.2.1 m0 hm4).2
    rw [← hS] at *
    omega
  have hgv := mt_gr_cv hM.2.2.2.1.2 hSle
  obtain ⟨Uv, hUv⟩ : ∃ Uv, Uv + mr_pv (mt_gr 3 540 v1 S.2) = mr_pv v1 := ⟨_, Nat.sub_add_cancel hgv.2⟩
  have eq1 : mt_c S.2 3 (fun k j => S.1 (3 * k + j)) p3 (nI w) = mx_vt S p3 w := jt_c (by omega) (by omega)
  have hcf := cf_view l E hM m0 hm4 b hb3 p3 (nI w) h1 (mx_view x) S hS hcc Uv hUv
  rw [eq1] at hcf
  refine j_V l E hC hR hK ht (x' := mx_lay (mx_wrf x 0) S) (mc := Uv) (v1' := mt_gr 3 540 v1 S.2) (v2' := v2) (by omega) (mx_vt S p3 w) hcf (fun _ _ _ h hp => cw_view l E (nI m0) (nI b) p3 (nI w) h kω hp) (fun G1 sz1 hA1 => ?_) rfl rfl rfl rfl
  have := cm_view l E sz1 x hA1 m0 b (mx_cC (mx_now x) m0 b) (mx_nD (mx_now x) m0) w p3 hm4 hb3 hw (zC m0 b hm4 hb3).1 (by have := (zC m0 b hm4 hb3).2; omega) (zN m0 hm4).1 (zN m0 hm4).2
  rw [hSx] at this
  exact this
theorem st_different (hJ : jJ A ω o t kc ks G sz x) (ht : t < 512) (hl : l.stackTraces = false) (p1 p2 : Int32) : jSt l E A ω o t kc ks yL_different cL_different 5 [(0, 10, 13, 13)] 8 yX6_different cX6_different 8 (some .int) 4 [.int p1, .int p2] Int32.toInt64 G sz x := by
  obtain ⟨O, B, sv, F, Λ, v1, v2, hC, hR, hK⟩ := hJ
  obtain ⟨hZ, U, hU⟩ := hC.sizes
  have hM := hC.1.1
  have hA := hC.1.2.1
  have kω := hM.1.1.1.1.1
  have h4 := hM.1.1.2.2
  have e0 := hR.1.1
  have hs := hR.1.2
  have iv := hR.2.2.1
  have hZx := e0 ▸ hZ
  obtain ⟨zB, zC, zN, zQ⟩ := id hZx
  by_cases hm : 0 ≤ p1 ∧ p1 ≤ nI 3
  rotate_left
  · exact j_R l E hC hR hK ht 1 (by omega) (cw_different_x1 l E p1 p2 (cf_different_x1 l E hl hM p1 hm p2) kω) (fun sz1 => cm_different_1 l E sz1 x hA p1 p2 (fun z => hm z.1))
  obtain ⟨m0, hm4, rfl⟩ := mz_mN hm
  by_cases hb : 0 ≤ p2 ∧ p2 ≤ nI 2
  rotate_left
  · exact j_R l E hC hR hK ht 1 (by omega) (cw_different_x1 l E (nI m0) p2 (cf_different_x2 l E hl hM m0 hm4 p2 hb ) kω) (fun sz1 => cm_different_1 l E sz1 x hA (nI m0) p2 (fun z => hb z.2))
  obtain ⟨b, hb3, rfl⟩ := mz_bxN hb
  obtain ⟨S, hS⟩ : ∃ S, S = mx_vw (F 0) m0 b (mx_cC (F 0) m0 b) (mx_nD (F 0) m0) (mx_view x) := ⟨_, rfl⟩
  have hSx : mx_vw (mx_now x) m0 b (mx_cC (mx_now x) m0 b) (mx_nD (mx_now x) m0) (mx_view x) = S := by rw [hS, e0]
  have hcc := iv.cc (by omega) hm4 hb3
  have hSle : S.2 ≤ 540 := by
    have := mx_vw_le (F 0) m0 b (mx_cC (F 0) m0 b) (mx_nD (F 0) m0) (mx_view x)
    have := (hZ.2.2.1 m0 hm4).2
    rw [← hS] at *
    omega
  have hgv := mt_gr_cv hM.2.2.2.1.2 hSle
  obtain ⟨Uv, hUv⟩ : ∃ Uv, Uv + mr_pv (mt_gr 3 540 v1 S.2) = mr_pv v1 := ⟨_, Nat.sub_add_cancel hgv.2⟩
  have hdd : mx_dm (F 0) S.1 b S.2 (mx_cB (F 0) b) + mx_db (F 0) S.1 b (mx_cB (F 0) b) S.2 = mx_cB (F 0) b := by
    obtain ⟨K, i1, -⟩ := iv
    rw [hS]
    exact jq_view i1 hZ (by omega) hm4 hb3 (mx_view x)
  have ean : nI (mx_dl (F 0) S.1 b (mx_cB (F 0) b) S.2) + nI (mx_cB (F 0) b) - nI (mx_db (F 0) S.1 b (mx_cB (F 0) b) S.2) = nI (mx_dl (F 0) S.1 b (mx_cB (F 0) b) S.2 + mx_dm (F 0) S.1 b S.2 (mx_cB (F 0) b)) := by
    rw [nI_add, mz_subI (by omega)]
    congr 1
    omega
  refine j_V l E hC hR hK ht (x' := mx_lay (mx_wrf x 0) S) (mc := Uv) (v1' := mt_gr 3 540 v1 S.2) (v2' := v2) (by omega) _ (cf_different l E hM m0 hm4 b hb3 (mx_view x) S hS hcc Uv hUv) (fun _ _ _ h hp => cw_different l E (nI m0) (nI b) h kω hp) (fun G1 sz1 hA1 => ?_) rfl rfl rfl rfl
  rw [← ean, e0]
  exact cm_different l E sz1 x hA1 m0 b (mx_cC (mx_now x) m0 b) (mx_nD (mx_now x) m0) (mx_cB (mx_now x) b) hm4 hb3 (zB b hb3).1.1 (zB b hb3).1.2 (zC m0 b hm4 hb3).1 (by have := (zC m0 b hm4 hb3).2; omega) (zN m0 hm4).1 (zN m0 hm4).2 S hSx
theorem st_areAlike (hJ : jJ A ω o t kc ks G sz x) (ht : t < 512) (hl : l.stackTraces = false) (p1 p2 p3 : Int32) : jSt l E A ω o t kc ks yL_areAlike cL_areAlike 6 [(0, 19, 22, 13)] 8 yX6_areAlike cX6_areAlike 6 (some .boolean) 6 [.int p1, .int p2, .int p3] (fun z => if z = 0 then lN 0 else lN 1) G sz x := by
  obtain ⟨O, B, sv, F, Λ, v1, v2, hC, hR, hK⟩ := hJ
  obtain ⟨hZ, U, hU⟩ := hC.sizes
  have hM := hC.1.1
  have hA := hC.1.2.1
  have kω := hM.1.1.1.1.1
  have h4 := hM.1.1.2.2
  have e0 := hR.1.1
  have hs := hR.1.2
  have iv := hR.2.2.1
  have hZx := e0 ▸ hZ
  obtain ⟨zB, zC, zN, zQ⟩ := id hZx
  by_cases hm : 0 ≤ p1 ∧ p1 ≤ nI 3
  rotate_left
  · exact j_R l E hC hR hK ht 1 (by omega) (cw_areAlike_x1 l E p1 p2 p3 (cf_areAlike_x1 l E hl hM p1 hm p2 p3) kω) (fun sz1 => cm_areAlike_1 l E sz1 x hA p1 p2 p3 (fun z => hm z.1.1))
  obtain ⟨m0, hm4, rfl⟩ := mz_mN hm
  by_cases hn : 0 ≤ p2 ∧ p2 ≤ nI 3
  rotate_left
  · exact j_R l E hC hR hK ht 1 (by omega) (cw_areAlike_x1 l E (nI m0) p2 p3 (cf_areAlike_x2 l E hl hM m0 hm4 p2 hn p3) kω) (fun sz1 => cm_areAlike_1 l E sz1 x hA (nI m0) p2 p3 (fun z => hn z.2.1))
  obtain ⟨m1, hn4, rfl⟩ := mz_mN hn
  by_cases hb : 0 ≤ p3 ∧ p3 ≤ nI 2
  rotate_left
  · exact j_R l E hC hR hK ht 1 (by omega) (cw_areAlike_x1 l E (nI m0) (nI m1) p3 (cf_areAlike_x3 l E hl hM m0 hm4 m1 hn4 p3 hb) kω) (fun sz1 => cm_areAlike_1 l E sz1 x hA (nI m0) (nI m1) p3 (fun z => hb z.1.2))
  obtain ⟨b, hb3, rfl⟩ := mz_bxN hb
  obtain ⟨S, hS⟩ : ∃ S, S = mx_vw (F 0) m0 b (mx_cC (F 0) m0 b) (mx_nD (F 0) m0) (mx_view x) := ⟨_, rfl⟩
  have hSx : mx_vw (mx_now x) m0 b (mx_cC (mx_now x) m0 b) (mx_nD (mx_now x) m0) (mx_view x) = S := by rw [hS, e0]
  have hcc := iv.cc (by omega) hm4 hb3
  have hSle : S.2 ≤ 540 := by
    have := mx_vw_le (F 0) m0 b (mx_cC (F 0) m0 b) (mx_nD (F 0) m0) (mx_view x)
    have := (hZ.2.2.1 m0 hm4).2
    rw [← hS] at *
    omega
  have hgv := mt_gr_cv hM.2.2.2.1.2 hSle
  obtain ⟨Uv, hUv⟩ : ∃ Uv, Uv + mr_pv (mt_gr 3 540 v1 S.2) = mr_pv v1 := ⟨_, Nat.sub_add_cancel hgv.2⟩
  obtain ⟨S2, hS2⟩ : ∃ S2, S2 = mx_vw (F 0) m1 b (mx_cC (F 0) m1 b) (mx_nD (F 0) m1) S.1 := ⟨_, rfl⟩
  have hSx2 : mx_vw (mx_now x) m1 b (mx_cC (mx_now x) m1 b) (mx_nD (mx_now x) m1) S.1 = S2 := by rw [hS2, e0]
  have hcc2 := iv.cc (by omega) hn4 hb3
  have hSle2 : S2.2 ≤ 540 := by
    have := mx_vw_le (F 0) m1 b (mx_cC (F 0) m1 b) (mx_nD (F 0) m1) S.1
    have := (hZ.2.2.1 m1 hn4).2
    rw [← hS2] at *
    omega
  have hgv2 := mt_gr_cv hM.2.2.2.2.2 hSle2
  obtain ⟨Uw, hUw⟩ : ∃ Uw, Uw + mr_pv (mt_gr 3 540 v2 S2.2) = mr_pv v2 := ⟨_, Nat.sub_add_cancel hgv2.2⟩
  have eqb : mx_eqv S2.1 (mx_bc (mx_bef x) S.1 (3 * S.2)) (3 * S.2) = mx_eqv S2.1 S.1 (3 * S.2) := jq_eqv (fun i hi => if_pos hi)
  refine j_V l E hC hR hK ht (x' := mx_lay (mx_wbef (mx_lay (mx_wrf x 0) S) (mx_bc (mx_bef x) S.1 (3 * S.2))) S2) (mc := Uv + Uw) (v1' := mt_gr 3 540 v1 S.2) (v2' := mt_gr 3 540 v2 S2.2) (by omega) _ (cf_areAlike l E hM m0 hm4 m1 hn4 b hb3 (mx_view x) S.1 S S2 hS hS2 hcc hcc2 Uv Uw hUv hUw) (fun _ _ _ h hp => cw_areAlike l E (nI m0) (nI m1) (nI b) h kω hp) (fun G1 sz1 hA1 => ?_) rfl rfl rfl rfl
  have := cm_areAlike l E sz1 x hA1 m0 m1 b (mx_cC (mx_now x) m0 b) (mx_nD (mx_now x) m0) (mx_cC (mx_now x) m1 b) (mx_nD (mx_now x) m1) hm4 hn4 hb3 (zC m0 b hm4 hb3).1 (by have := (zC m0 b hm4 hb3).2; omega) (zN m0 hm4).1 (zN m0 hm4).2 (zC m1 b hn4 hb3).1 (by have := (zC m1 b hn4 hb3).2; omega) (zN m1 hn4).1 (zN m1 hn4).2 S S2 hSx hSx2
  rw [eqb] at this
  exact this
theorem st_plan (hJ : jJ A ω o t kc ks G sz x) (ht : t < 512) (hl : l.stackTraces = false) (p1 p2 p3 p4 p5 : Int32) : jSt l E A ω o t kc ks yL_plan cL_plan 8 [(0, 16, 19, 13), (0, 16, 23, 15), (0, 16, 27, 17)] 9 yX6_plan cX6_plan 12 (some .int) 5 [.int p1, .int p2, .int p3, .int p4, .int p5] Int32.toInt64 G sz x := by
  obtain ⟨O, B, sv, F, Λ, v1, v2, hC, hR, hK⟩ := hJ
  obtain ⟨hZ, U, hU⟩ := hC.sizes
  have hM := hC.1.1
  have hA := hC.1.2.1
  have kω := hM.1.1.1.1.1
  have h4 := hM.1.1.2.2
  have e0 := hR.1.1
  have hs := hR.1.2
  have iv := hR.2.2.1
  have hZx := e0 ▸ hZ
  obtain ⟨zB, zC, zN, zQ⟩ := id hZx
  by_cases hm : 0 ≤ p1 ∧ p1 ≤ nI 3
  rotate_left
  · exact j_R l E hC hR hK ht 1 (by omega) (cw_plan_x1 l E p1 p2 p3 p4 p5 (cf_plan_x1 l E hl hM p1 hm p2 p3 p4 p5) kω) (fun sz1 => cm_plan_1 l E sz1 x hA p1 p2 p3 p4 p5 (fun z => hm z.1))
  obtain ⟨m0, hm4, rfl⟩ := mz_mN hm
  by_cases hb : 0 ≤ p2 ∧ p2 ≤ nI 2
  rotate_left
  · exact j_R l E hC hR hK ht 1 (by omega) (cw_plan_x1 l E (nI m0) p2 p3 p4 p5 (cf_plan_x2 l E hl hM m0 hm4 p2 hb p3 p4 p5) kω) (fun sz1 => cm_plan_1 l E sz1 x hA (nI m0) p2 p3 p4 p5 (fun z => hb z.2))
  obtain ⟨b, hb3, rfl⟩ := mz_bxN hb
  by_cases h1 : 0 ≤ p4 ∧ p4 ≤ nI 2
  rotate_left
  · exact j_R l E hC hR hK ht 2 (by omega) (cw_plan_x2 l E (nI m0) (nI b) p3 p4 p5 (cf_plan_x3 l E hl hM m0 hm4 b hb3 p4 h1 p3 p5) kω) (fun sz1 => cm_plan_2 l E sz1 x hA (nI m0) (nI b) p3 p4 p5 ⟨hm, hb⟩ (fun z => h1 z.1))
  by_cases h2 : 0 ≤ p5 ∧ p5 ≤ nI 63
  rotate_left
  · exact j_R l E hC hR hK ht 2 (by omega) (cw_plan_x2 l E (nI m0) (nI b) p3 p4 p5 (cf_plan_x4 l E hl hM m0 hm4 b hb3 p4 h1 p5 h2 p3) kω) (fun sz1 => cm_plan_2 l E sz1 x hA (nI m0) (nI b) p3 p4 p5 ⟨hm, hb⟩ (fun z => h2 z.2))
  by_cases hz : mz_fz (mx_nm (F 0) (mx_CA m0 b + 2)) p3 (mx_cC (F 0) m0 b) = none
  · exact j_R l E hC hR hK ht 3 (by omega) (cw_plan_x3 l E (nI m0) (nI b) p3 p4 p5 (cf_plan_x5 l E hl hM m0 hm4 b hb3 p4 h1 p5 h2 p3 (Or.inl hz)) kω) (fun sz1 => cm_plan_3 l E sz1 x hA m0 b (mx_cC (mx_now x) m0 b) (mx_nD (mx_now x) m0) p3 p4 p5 hm4 hb3 ⟨h1, h2⟩ (zC m0 b hm4 hb3).1 (by have := (zC m0 b hm4 hb3).2; omega) (zN m0 hm4).1 (zN m0 hm4).2 (by rw [← e0]; exact fun z => z.1.1 hz))
  by_cases hd : mz_fp (mx_dp (F 0) m0 (nI 2) (nI b) p3) (mx_nD (F 0) m0) = none
  rotate_left
  · exact j_R l E hC hR hK ht 3 (by omega) (cw_plan_x3 l E (nI m0) (nI b) p3 p4 p5 (cf_plan_x5 l E hl hM m0 hm4 b hb3 p4 h1 p5 h2 p3 (Or.inr hd)) kω) (fun sz1 => cm_plan_3 l E sz1 x hA m0 b (mx_cC (mx_now x) m0 b) (mx_nD (mx_now x) m0) p3 p4 p5 hm4 hb3 ⟨h1, h2⟩ (zC m0 b hm4 hb3).1 (by have := (zC m0 b hm4 hb3).2; omega) (zN m0 hm4).1 (zN m0 hm4).2 (by rw [← e0]; exact fun z => hd z.1.2))
  by_cases hq : mz_fp (mx_dp (F 0) m0 0 (nI b) p3) (mx_nD (F 0) m0) = none ∧ ¬ mx_nD (F 0) m0 < 8
  · exact j_R l E hC hR hK ht 3 (by omega) (cw_plan_x3 l E (nI m0) (nI b) p3 p4 p5 (cf_plan_x6 l E hl hM m0 hm4 b hb3 p4 h1 p5 h2 p3 hz hd hq.1 hq.2) kω) (fun sz1 => cm_plan_3 l E sz1 x hA m0 b (mx_cC (mx_now x) m0 b) (mx_nD (mx_now x) m0) p3 p4 p5 hm4 hb3 ⟨h1, h2⟩ (zC m0 b hm4 hb3).1 (by have := (zC m0 b hm4 hb3).2; omega) (zN m0 hm4).1 (zN m0 hm4).2 (by rw [← e0]; exact fun z => z.2.elim (fun q => q hq.1) hq.2))
  have h8 : mz_fp (mx_dp (F 0) m0 0 (nI b) p3) (mx_nD (F 0) m0) = none → mx_nD (F 0) m0 < 8 := fun q => Decidable.byContradiction (fun z => hq ⟨q, z⟩)
  have hcP : mx_cP (mx_now x) m0 b (mx_cC (mx_now x) m0 b) (mx_nD (mx_now x) m0) p3 := by
    rw [← e0]
    refine ⟨⟨hz, hd⟩, ?_⟩
    by_cases q : mz_fp (mx_dp (F 0) m0 0 (nI b) p3) (mx_nD (F 0) m0) = none
    · exact Or.inr (h8 q)
    · exact Or.inl q
  exact j_S l E hC hR hK ht ((mx_pl (F 0) m0 b (mx_nD (F 0) m0) p3 (mx_on p4 p5) (mx_off p4 p5)).2) ((mx_pl (F 0) m0 b (mx_nD (F 0) m0) p3 (mx_on p4 p5) (mx_off p4 p5)).1) (Λ 0) U 0 hU (Nat.zero_add _) (iv.pl hZ ht hm4 hb3 p3 _ _ h8 (jt_on h1 h2) (iv_fz.1 hz)) (cf_plan l E hM U hU m0 hm4 b hb3 p3 p4 p5 h1 h2 hz hd h8) (fun _ _ _ h hp => cw_plan l E (nI m0) (nI b) p3 p4 p5 h kω hp) (fun G1 sz1 hA1 => by rw [e0]; exact cm_plan l E sz1 x hA1 m0 b (mx_cC (mx_now x) m0 b) (mx_nD (mx_now x) m0) sv p3 p4 p5 hm4 hb3 ⟨h1, h2⟩ (zC m0 b hm4 hb3).1 (by have := (zC m0 b hm4 hb3).2; omega) (zN m0 hm4).1 (zN m0 hm4).2 hcP hs h4)
theorem st_planNew (hJ : jJ A ω o t kc ks G sz x) (ht : t < 512) (hl : l.stackTraces = false) (p1 p2 p3 p4 : Int32) : jSt l E A ω o t kc ks yL_planNew cL_planNew 7 [(0, 14, 17, 13), (0, 14, 21, 15), (0, 14, 25, 17)] 9 yX6_planNew cX6_planNew 7 (some .int) 4 [.int p1, .int p2, .int p3, .int p4] Int32.toInt64 G sz x := by
  obtain ⟨O, B, sv, F, Λ, v1, v2, hC, hR, hK⟩ := hJ
  obtain ⟨hZ, U, hU⟩ := hC.sizes
  have hM := hC.1.1
  have hA := hC.1.2.1
  have kω := hM.1.1.1.1.1
  have h4 := hM.1.1.2.2
  have e0 := hR.1.1
  have hs := hR.1.2
  have iv := hR.2.2.1
  have hZx := e0 ▸ hZ
  obtain ⟨zB, zC, zN, zQ⟩ := id hZx
  by_cases hm : 0 ≤ p1 ∧ p1 ≤ nI 3
  rotate_left
  · exact j_R l E hC hR hK ht 1 (by omega) (cw_planNew_x1 l E p1 p2 p3 p4 (cf_planNew_x1 l E hl hM p1 hm p2 p3 p4) kω) (fun sz1 => cm_planNew_1 l E sz1 x hA p1 p2 p3 p4 (fun z => hm z.1))
  obtain ⟨m0, hm4, rfl⟩ := mz_mN hm
  by_cases hb : 0 ≤ p2 ∧ p2 ≤ nI 2
  rotate_left
  · exact j_R l E hC hR hK ht 1 (by omega) (cw_planNew_x1 l E (nI m0) p2 p3 p4 (cf_planNew_x2 l E hl hM m0 hm4 p2 hb p3 p4) kω) (fun sz1 => cm_planNew_1 l E sz1 x hA (nI m0) p2 p3 p4 (fun z => hb z.2))
  obtain ⟨b, hb3, rfl⟩ := mz_bxN hb
  by_cases h1 : 0 ≤ p3 ∧ p3 ≤ nI 999
  rotate_left
  · exact j_R l E hC hR hK ht 2 (by omega) (cw_planNew_x2 l E (nI m0) (nI b) p3 p4 (cf_planNew_x3 l E hl hM m0 hm4 b hb3 p3 h1 p4) kω) (fun sz1 => cm_planNew_2 l E sz1 x hA (nI m0) (nI b) p3 p4 ⟨hm, hb⟩ (fun z => h1 z.1))
  by_cases h2 : 0 ≤ p4 ∧ p4 ≤ nI 63
  rotate_left
  · exact j_R l E hC hR hK ht 2 (by omega) (cw_planNew_x2 l E (nI m0) (nI b) p3 p4 (cf_planNew_x4 l E hl hM m0 hm4 b hb3 p3 h1 p4 h2) kω) (fun sz1 => cm_planNew_2 l E sz1 x hA (nI m0) (nI b) p3 p4 ⟨hm, hb⟩ (fun z => h2 z.2))
  by_cases h8 : mx_nD (F 0) m0 < 8
  rotate_left
  · exact j_R l E hC hR hK ht 3 (by omega) (cw_planNew_x3 l E (nI m0) (nI b) p3 p4 (cf_planNew_x5 l E hl hM m0 hm4 b hb3 p3 h1 p4 h2 h8) kω) (fun sz1 => cm_planNew_3 l E sz1 x hA m0 b (mx_nD (mx_now x) m0) p3 p4 hm4 hb3 ⟨h1, h2⟩ (zN m0 hm4).1 (by have := (zN m0 hm4).2; rw [e0] at h8; omega))
  exact j_S l E hC hR hK ht (F 0 29400 + 1) (mx_bg (F 0) m0 (mx_nD (F 0) m0) (nI 1) (nI b) (-1) p4 0 p3) (Λ 0) U 0 hU (Nat.zero_add _) (iv.bg hZ ht hm4 hb3 h8 _ _ _ _ _ (Or.inr (Or.inl rfl)) (iv_fl h2) (fun z => absurd rfl z)) (cf_planNew l E hM U hU m0 hm4 b hb3 p3 p4 h1 h2 (mx_nD (F 0) m0) rfl h8) (fun _ _ _ h hp => cw_planNew l E (nI m0) (nI b) p3 p4 h kω hp) (fun G1 sz1 hA1 => by rw [e0]; exact cm_planNew l E sz1 x hA1 m0 b (mx_nD (mx_now x) m0) sv p3 p4 hm4 hb3 ⟨h1, h2⟩ (zN m0 hm4).1 (by rw [← e0]; exact h8) hs h4)
theorem st_planRemoval (hJ : jJ A ω o t kc ks G sz x) (ht : t < 512) (hl : l.stackTraces = false) (p1 p2 p3 : Int32) : jSt l E A ω o t kc ks yL_planRemoval cL_planRemoval 6 [(0, 12, 15, 13), (0, 12, 19, 17)] 9 yX6_planRemoval cX6_planRemoval 6 (some .int) 4 [.int p1, .int p2, .int p3] Int32.toInt64 G sz x := by
  obtain ⟨O, B, sv, F, Λ, v1, v2, hC, hR, hK⟩ := hJ
  obtain ⟨hZ, U, hU⟩ := hC.sizes
  have hM := hC.1.1
  have hA := hC.1.2.1
  have kω := hM.1.1.1.1.1
  have h4 := hM.1.1.2.2
  have e0 := hR.1.1
  have hs := hR.1.2
  have iv := hR.2.2.1
  have hZx := e0 ▸ hZ
  obtain ⟨zB, zC, zN, zQ⟩ := id hZx
  by_cases hm : 0 ≤ p1 ∧ p1 ≤ nI 3
  rotate_left
  · exact j_R l E hC hR hK ht 1 (by omega) (cw_planRemoval_x1 l E p1 p2 p3 (cf_planRemoval_x1 l E hl hM p1 hm p2 p3) kω) (fun sz1 => cm_planRemoval_1 l E sz1 x hA p1 p2 p3 (fun z => hm z.1))
  obtain ⟨m0, hm4, rfl⟩ := mz_mN hm
  by_cases hb : 0 ≤ p2 ∧ p2 ≤ nI 2
  rotate_left
  · exact j_R l E hC hR hK ht 1 (by omega) (cw_planRemoval_x1 l E (nI m0) p2 p3 (cf_planRemoval_x2 l E hl hM m0 hm4 p2 hb p3) kω) (fun sz1 => cm_planRemoval_1 l E sz1 x hA (nI m0) p2 p3 (fun z => hb z.2))
  obtain ⟨b, hb3, rfl⟩ := mz_bxN hb
  by_cases hz : mz_fz (mx_nm (F 0) (mx_CA m0 b + 2)) p3 (mx_cC (F 0) m0 b) = none
  · exact j_R l E hC hR hK ht 2 (by omega) (cw_planRemoval_x2 l E (nI m0) (nI b) p3 (cf_planRemoval_x3 l E hl hM m0 hm4 b hb3 p3 (Or.inl hz)) kω) (fun sz1 => cm_planRemoval_2 l E sz1 x hA m0 b (mx_cC (mx_now x) m0 b) (mx_nD (mx_now x) m0) p3 hm4 hb3 (zC m0 b hm4 hb3).1 (by have := (zC m0 b hm4 hb3).2; omega) (zN m0 hm4).1 (zN m0 hm4).2 (by rw [← e0]; exact fun z => z.1.1 hz))
  by_cases hd : mz_fp (mx_dp (F 0) m0 (nI 2) (nI b) p3) (mx_nD (F 0) m0) = none
  rotate_left
  · exact j_R l E hC hR hK ht 2 (by omega) (cw_planRemoval_x2 l E (nI m0) (nI b) p3 (cf_planRemoval_x3 l E hl hM m0 hm4 b hb3 p3 (Or.inr hd)) kω) (fun sz1 => cm_planRemoval_2 l E sz1 x hA m0 b (mx_cC (mx_now x) m0 b) (mx_nD (mx_now x) m0) p3 hm4 hb3 (zC m0 b hm4 hb3).1 (by have := (zC m0 b hm4 hb3).2; omega) (zN m0 hm4).1 (zN m0 hm4).2 (by rw [← e0]; exact fun z => hd z.1.2))
  by_cases h8 : mx_nD (F 0) m0 < 8
  rotate_left
  · exact j_R l E hC hR hK ht 2 (by omega) (cw_planRemoval_x2 l E (nI m0) (nI b) p3 (cf_planRemoval_x4 l E hl hM m0 hm4 b hb3 p3 hz hd h8) kω) (fun sz1 => cm_planRemoval_2 l E sz1 x hA m0 b (mx_cC (mx_now x) m0 b) (mx_nD (mx_now x) m0) p3 hm4 hb3 (zC m0 b hm4 hb3).1 (by have := (zC m0 b hm4 hb3).2; omega) (zN m0 hm4).1 (zN m0 hm4).2 (by rw [← e0]; exact fun z => h8 z.2))
  exact j_S l E hC hR hK ht (F 0 29400 + 1) (mx_bg (F 0) m0 (mx_nD (F 0) m0) (nI 2) (nI b) p3 0 0 (-1)) (Λ 0) U 0 hU (Nat.zero_add _) (iv.bg hZ ht hm4 hb3 h8 _ _ _ _ _ (Or.inr (Or.inr rfl)) ⟨0, by omega, rfl⟩ (fun _ => iv_fz.1 hz)) (cf_planRemoval l E hM U hU m0 hm4 b hb3 p3 hz hd h8) (fun _ _ _ h hp => cw_planRemoval l E (nI m0) (nI b) p3 h kω hp) (fun G1 sz1 hA1 => by rw [e0]; exact cm_planRemoval l E sz1 x hA1 m0 b (mx_cC (mx_now x) m0 b) (mx_nD (mx_now x) m0) sv p3 hm4 hb3 (zC m0 b hm4 hb3).1 (by have := (zC m0 b hm4 hb3).2; omega) (zN m0 hm4).1 (by rw [← e0]; exact ⟨⟨hz, hd⟩, h8⟩) hs h4)
theorem st_takeBack (hJ : jJ A ω o t kc ks G sz x) (ht : t < 512) (hl : l.stackTraces = false) (p1 p2 : Int32) : jSt l E A ω o t kc ks yL_takeBack cL_takeBack 5 [(0, 10, 13, 13), (0, 10, 17, 17)] 9 yX6_takeBack cX6_takeBack 5 (some .int) 3 [.int p1, .int p2] Int32.toInt64 G sz x := by
  obtain ⟨O, B, sv, F, Λ, v1, v2, hC, hR, hK⟩ := hJ
  obtain ⟨hZ, U, hU⟩ := hC.sizes
  have hM := hC.1.1
  have hA := hC.1.2.1
  have kω := hM.1.1.1.1.1
  have h4 := hM.1.1.2.2
  have e0 := hR.1.1
  have hs := hR.1.2
  have iv := hR.2.2.1
  have hZx := e0 ▸ hZ
  obtain ⟨zB, zC, zN, zQ⟩ := id hZx
  by_cases hm : 0 ≤ p1 ∧ p1 ≤ nI 3
  rotate_left
  · exact j_R l E hC hR hK ht 1 (by omega) (cw_takeBack_x1 l E p1 p2 (cf_takeBack_x1 l E hl hM p1 hm p2) kω) (fun sz1 => cm_takeBack_1 l E sz1 x hA p1 p2 hm)
  obtain ⟨m0, hm4, rfl⟩ := mz_mN hm
  have efn : (fun k => mr_h (F 0) (294 + 58 * m0 + 1) 7 k 0) = mx_dn (F 0) m0 := by
    funext k
    rw [mr_DA]
    rfl
  have elf : mz_lf (mx_dn (F 0) m0) p2 (mx_nD (F 0) m0) = mz_fz (mx_dn (F 0) m0) p2 (mx_nD (F 0) m0) := by
    obtain ⟨K, i1, -⟩ := iv
    exact jq_lf (i1.2.1.2 m0 hm4).2
  rcases mz_sor (mz_fz (mx_dn (F 0) m0) p2 (mx_nD (F 0) m0)) with q | ⟨j, q⟩
  · exact j_R l E hC hR hK ht 2 (by omega) (cw_takeBack_x2 l E (nI m0) p2 (cf_takeBack_x2 l E hl hM m0 hm4 p2 (by rw [efn]; exact q)) kω) (fun sz1 => cm_takeBack_2 l E sz1 x hA m0 (mx_nD (mx_now x) m0) p2 hm4 (zN m0 hm4).1 (zN m0 hm4).2 (by rw [← e0, elf]; exact q))
  have hj := (mz_fz_some q).1
  exact j_S l E hC hR hK ht (nI (mx_nD (F 0) m0 - 1)) (mx_dd (F 0) m0 (mx_nD (F 0) m0) j) (Λ 0) U 0 hU (Nat.zero_add _) (iv.dd hZ hm4 hj) (cf_takeBack l E hM U hU m0 hm4 p2 j (by rw [efn]; exact q)) (fun _ _ _ h hp => cw_takeBack l E (nI m0) p2 h kω hp) (fun G1 sz1 hA1 => by rw [e0]; exact cm_takeBack l E sz1 x hA1 m0 (mx_nD (mx_now x) m0) j sv p2 hm4 (zN m0 hm4).1 (zN m0 hm4).2 (by rw [← e0, elf]; exact q) hs h4)
theorem st_deed (hJ : jJ A ω o t kc ks G sz x) (ht : t < 512) (hl : l.stackTraces = false) (p1 p2 p3 : Int32) : jSt l E A ω o t kc ks yL_deed cL_deed 6 [(0, 12, 15, 13), (0, 12, 19, 15)] 8 yX6_deed cX6_deed 4 (some .int) 3 [.int p1, .int p2, .int p3] Int32.toInt64 G sz x := by
  obtain ⟨O, B, sv, F, Λ, v1, v2, hC, hR, hK⟩ := hJ
  obtain ⟨hZ, U, hU⟩ := hC.sizes
  have hM := hC.1.1
  have hA := hC.1.2.1
  have kω := hM.1.1.1.1.1
  have h4 := hM.1.1.2.2
  have e0 := hR.1.1
  have hs := hR.1.2
  have iv := hR.2.2.1
  have hZx := e0 ▸ hZ
  obtain ⟨zB, zC, zN, zQ⟩ := id hZx
  by_cases hm : 0 ≤ p1 ∧ p1 ≤ nI 3
  rotate_left
  · exact j_R l E hC hR hK ht 1 (by omega) (cw_deed_x1 l E p1 p2 p3 (cf_deed_x1 l E hl hM p1 hm p2 p3) kω) (fun sz1 => cm_deed_1 l E sz1 x hA p1 p2 p3 hm)
  obtain ⟨m0, hm4, rfl⟩ := mz_mN hm
  by_cases h1 : 0 ≤ p3 ∧ p3 ≤ nI 6
  rotate_left
  · exact j_R l E hC hR hK ht 2 (by omega) (cw_deed_x2 l E (nI m0) p2 p3 (cf_deed_x2 l E hl hM m0 hm4 p3 h1 p2) kω) (fun sz1 => cm_deed_2 l E sz1 x hA (nI m0) p2 p3 hm h1)
  obtain ⟨w, hw, rfl⟩ := mz_nat63 (by omega) h1
  have eq1 : mt_c (mx_nD (F 0) m0) 7 (mr_h (F 0) (294 + 58 * m0 + 1) 7) p2 (nI w) = mx_dt (F 0) m0 (mx_nD (F 0) m0) p2 w := by
    rw [jt_c (by omega) (by omega), mr_DA]
    rfl
  have hcf := cf_deed l E hM m0 hm4 p2 (nI w) h1
  rw [eq1] at hcf
  exact j_V0 l E hC hR hK ht (x' := mx_wrf x 0) (mx_dt (F 0) m0 (mx_nD (F 0) m0) p2 w) (hcf) (fun _ _ _ h hp => cw_deed l E (nI m0) p2 (nI w) h kω hp) (fun G1 sz1 hA1 => by rw [e0]; exact cm_deed l E sz1 x hA1 m0 (mx_nD (mx_now x) m0) w p2 hm4 (zN m0 hm4).1 (zN m0 hm4).2 hw) rfl rfl rfl rfl
theorem st_playBack (hJ : jJ A ω o t kc ks G sz x) (ht : t < 512) (hl : l.stackTraces = false) (p1 : Int32) : jSt l E A ω o t kc ks yL_playBack cL_playBack 4 [(0, 9, 12, 13)] 11 yX6_playBack cX6_playBack 2 (some .int) 7 [.int p1] Int32.toInt64 G sz x := by
  obtain ⟨O, B, sv, F, Λ, v1, v2, hC, hR, hK⟩ := hJ
  obtain ⟨hZ, U, hU⟩ := hC.sizes
  have hM := hC.1.1
  have hA := hC.1.2.1
  have kω := hM.1.1.1.1.1
  have h4 := hM.1.1.2.2
  have e0 := hR.1.1
  have hs := hR.1.2
  have iv := hR.2.2.1
  have hZx := e0 ▸ hZ
  obtain ⟨zB, zC, zN, zQ⟩ := id hZx
  by_cases hm : 0 ≤ p1 ∧ p1 ≤ nI 3
  rotate_left
  · exact j_R l E hC hR hK ht 1 (by omega) (cw_playBack_x1 l E p1 (cf_playBack_x1 l E hl hM p1 hm) kω) (fun sz1 => cm_playBack_1 l E sz1 x hA p1 hm)
  obtain ⟨m0, hm4, rfl⟩ := mz_mN hm
  obtain ⟨⟨y1, y2⟩, y3, y4⟩ := iv.pB hZ (by omega) hm4
  have hcl := (hM.2.2.1 0 (by omega)).cL
  have hle : mr_Ph (mr_pL (F 0) m0 (Λ 0) (mx_nD (F 0) m0)) ≤ mr_Ph (Λ 0) := by
    have := mr_pL_mo hm4 hcl y3 (mx_nD (F 0) m0) 0 (by omega)
    rw [Nat.zero_add] at this
    exact this
  obtain ⟨U2, hU2⟩ : ∃ U2, U2 + mr_Ph (mr_pL (F 0) m0 (Λ 0) (mx_nD (F 0) m0)) = mr_Ph (Λ 0) := ⟨_, Nat.sub_add_cancel hle⟩
  rw [e0] at y4
  exact j_S l E hC hR hK ht (nI (mx_pb (F 0) m0 (mx_nD (F 0) m0)).2) (mx_pB (F 0) m0) (mr_pL (F 0) m0 (Λ 0) (mx_nD (F 0) m0)) U U2 hU (hU2) (y1.mono (by omega)) (cf_playBack l E hM U U2 hU m0 (mx_nD (F 0) m0) hm4 rfl y3 (by omega)) (fun _ _ _ h hp => cw_playBack l E (nI m0) h kω hp) (fun G1 sz1 hA1 => by rw [e0]; exact cm_playBack l E sz1 x hA1 m0 sv hm4 y4 hs h4)
theorem st_told (hJ : jJ A ω o t kc ks G sz x) (ht : t < 512) (hl : l.stackTraces = false) (p1 : Int32) : jSt l E A ω o t kc ks yL_told cL_told 4 [(0, 9, 12, 15)] 8 yX6_told_ cX6_told_ 2 (some .int) 2 [.int p1] Int32.toInt64 G sz x := by
  obtain ⟨O, B, sv, F, Λ, v1, v2, hC, hR, hK⟩ := hJ
  obtain ⟨hZ, U, hU⟩ := hC.sizes
  have hM := hC.1.1
  have hA := hC.1.2.1
  have kω := hM.1.1.1.1.1
  have h4 := hM.1.1.2.2
  have e0 := hR.1.1
  have hs := hR.1.2
  have iv := hR.2.2.1
  have hZx := e0 ▸ hZ
  obtain ⟨zB, zC, zN, zQ⟩ := id hZx
  by_cases h1 : 0 ≤ p1 ∧ p1 ≤ nI 6
  rotate_left
  · exact j_R l E hC hR hK ht 1 (by omega) (cw_told_x1 l E p1 (cf_told_x1 l E hl hM p1 h1) kω) (fun sz1 => cm_told__1 l E sz1 x hA p1 h1)
  obtain ⟨w, hw, rfl⟩ := mz_nat63 (by omega) h1
  exact j_V0 l E hC hR hK ht (x' := mx_wrf x 0) (F 0 (29393 + w)) (cf_told l E hM w (by omega)) (fun _ _ _ h hp => cw_told l E (nI w) h kω hp) (fun G1 sz1 hA1 => by rw [e0]; exact cm_told_ l E sz1 x hA1 w hw) rfl rfl rfl rfl
theorem st_undo (hJ : jJ A ω o t kc ks G sz x) (ht : t < 512) (hl : l.stackTraces = false) : jSt l E A ω o t kc ks yL_undo cL_undo 3 [(0, 8, 11, 17)] 7 yX6_undo cX6_undo 2 (some .int) 2 [] Int32.toInt64 G sz x := by
  obtain ⟨O, B, sv, F, Λ, v1, v2, hC, hR, hK⟩ := hJ
  obtain ⟨hZ, U, hU⟩ := hC.sizes
  have hM := hC.1.1
  have hA := hC.1.2.1
  have kω := hM.1.1.1.1.1
  have h4 := hM.1.1.2.2
  have e0 := hR.1.1
  have hs := hR.1.2
  have iv := hR.2.2.1
  have hZx := e0 ▸ hZ
  obtain ⟨zB, zC, zN, zQ⟩ := id hZx
  by_cases h0 : sv = 0
  · subst h0
    refine j_R l E hC hR hK ht 1 (by omega) (cw_undo_x1 l E (cf_undo_x1 l E hl hM rfl) kω) (fun sz1 => ?_)
    exact cm_undo l E sz1 x hA 0 hs (by omega)
  obtain ⟨s1, rfl⟩ : ∃ s1, sv = s1 + 1 := ⟨sv - 1, by omega⟩
  obtain ⟨K1, K2⟩ := hK
  have hPt := jt_swpP Λ (show s1 < 4 by omega)
  have hcf := cf_undo l E s1 hM
  obtain ⟨x', hx'⟩ : ∃ x', x' = mx_und x (s1 + 1) := ⟨_, rfl⟩
  have nx : ∀ i, i < 29401 → mx_now x' i = F (s1 + 1) i := fun i hi => by
    rw [hx']
    unfold mx_und
    rw [if_neg (by omega)]
    show mz_cy (mx_now x) (fun i => mx_past x (29401 * (s1 + 1 - 1) + i)) 0 29401 i = _
    unfold mz_cy
    rw [if_pos (by omega), hR.2.1 s1 (by omega) i hi]
    rfl
  have hN := cw_undo l E (o := o) hcf kω (by
    rintro v G' sz' ⟨rfl, q1, q2⟩
    exact ⟨nI s1, rfl, (hC.cls q2 q1).2.2.1⟩)
  refine ⟨0, 0, _, 0, hN, ⟨by omega, by omega⟩, ?_⟩
  rintro v G1 sz1 ⟨rfl, z, G2, ⟨ez, q1, q2⟩, rfl⟩
  have q3 := q1.cF (F' := mz_u1 (mr_swp F (s1 + 1)) 0 (mx_now x')) (fun i hi j hj => by
    by_cases e : i = 0
    · rw [e, mz_u1_s, nx j hj]
      rfl
    · rw [mz_u1_o _ _ e])
  have hC1 := (hC.cls q2 q3).out (z.toInt64)
  have ez : z = nI s1 := by injection ez with e; injection e
  subst ez
  have hcm := cm_undo l E sz1 x hC1.1.2.1 (s1 + 1) hs h4
  rw [← hx'] at hcm
  refine ⟨rfl, hC1.1.2, x', nI s1, hcm, ⟨?_, fun _ => ?_⟩, O, _, s1, _, _, v1, v2, hC1.ref x', ?_, ?_⟩
  · rw [hx']
    unfold mx_und
    rw [if_neg (by omega)]
    rfl
  · show mz_u2 (mz_l G2) o 0 _ o 0 = _
    rw [mz_u2_s]
  · refine ⟨⟨mz_u1_s _ _ _, ?_⟩, fun j hj i hi => ?_, ?_, fun j hj => ?_⟩
    · rw [hx']
      unfold mx_und
      rw [if_neg (by omega)]
      rfl
    · rw [mz_u1_o _ _ (by omega), jt_swp F (by omega) (by omega), hR.2.1 j (by omega) i hi, hx']
      unfold mx_und
      rw [if_neg (by omega)]
      rfl
    · rw [mz_u1_s]
      exact ((hR.2.2.2 s1 (by omega)).cong ((hM.2.2.1 (s1 + 1) (by omega)).Z) nx).mono (by omega)
    · rw [mz_u1_o _ _ (by omega), jt_swp F (by omega) (by omega)]
      exact (hR.2.2.2 j (by omega)).mono (by omega)
  · unfold jK
    rw [hPt]
    omega
end JT

