/-! ===== the calls, one by one ===== -/
theorem jt_c {n W : Nat} {h : Nat → Nat → Int32} {k : Int32} {w : Nat} (hw : w < W) (hW : W < 1000) : mt_c n W h k (nI w) = if 0 ≤ k ∧ k < nI n then h k.toNatClampNeg w else -1 := by
  unfold mt_c
  have h1 : 0 ≤ nI w ∧ nI w < nI W := ⟨mz_nn w (by omega), nI_lt hw (by omega)⟩
  by_cases hk : 0 ≤ k ∧ k < nI n
  · rw [if_pos ⟨hk, h1⟩, if_pos hk, nI_clamp (by omega)]
  · rw [if_neg (fun z => hk z.1), if_neg hk]
theorem jt_on {how fl : Int32} (h1 : 0 ≤ how ∧ how ≤ nI 2) (h2 : 0 ≤ fl ∧ fl ≤ nI 63) : ∃ v, v < 64 ∧ mx_on how fl = nI v := by
  unfold mx_on
  split
  · exact ⟨0, by omega, rfl⟩
  · exact iv_fl h2
theorem jt_rn0 {f : Nat → Int32} {b : Nat} (zB : mx_cB f b ≤ 20) : mx_rn f b (mx_cB f b) (98 * b + 0) = f (98 * b + 0) + 1 := by
  unfold mx_rn
  simp only [mz_u1]
  simp (disch := omega) only [if_pos, if_neg, and_self, if_true, and_true, true_and, and_false, false_and, if_false]
  rw [mx_rl_p _ _ _ _ (by omega)]
  simp only [mz_u1]
  simp (disch := omega) only [if_pos, if_neg, and_self, if_true, and_true, true_and, and_false, false_and, if_false]
section JT
variable (l : Launch) (E : mz_E) {G : mz_G} {sz ω o : Nat} {A : mx_A} {x : mx_S} {t kc ks : Nat}
theorem st_add (hJ : jJ A ω o t kc ks G sz x) (ht : t < 512) (hl : l.stackTraces = false) (p1 p2 p3 : Int32) : jSt l E A ω o t kc ks yL_add cL_add 6 [(0, 12, 15, 13), (0, 12, 19, 15), (0, 12, 23, 17)] 9 yX6_add cX6_add 5 (some .int) 5 [.int p1, .int p2, .int p3] Int32.toInt64 G sz x := by
  obtain ⟨O, B, sv, F, Λ, v1, v2, hC, hR, hK⟩ := hJ
  obtain ⟨hZ, U, hU⟩ := hC.sizes
  have hM := hC.1.1
  have hA := hC.1.2.1
  have kω := hM.1.1.1.1.1
  have h4 := hM.1.1.2.2
  have e0 := hR.1.1
  have hs := hR.1.2
  have iv := hR.2.2.1
  have hZx := e0 ▸ hZ
  obtain ⟨zB, zC, zN, zQ⟩ := id hZx
  by_cases hb : 0 ≤ p1 ∧ p1 ≤ nI 2
  rotate_left
  · exact j_R l E hC hR hK ht 1 (by omega) (cw_add_x1 l E p1 p2 p3 (cf_add_x1 l E hl hM p1 hb p2 p3) kω) (fun sz1 => cm_add_1 l E sz1 x hA p1 p2 p3 hb)
  obtain ⟨b, hb3, rfl⟩ := mz_bxN hb
  by_cases h1 : 0 ≤ p2 ∧ p2 ≤ nI 999
  rotate_left
  · exact j_R l E hC hR hK ht 2 (by omega) (cw_add_x2 l E (nI b) p2 p3 (cf_add_x2 l E hl hM b hb3 p2 h1 p3) kω) (fun sz1 => cm_add_2 l E sz1 x hA b p2 p3 hb3 (fun z => h1 z.1))
  by_cases h2 : 0 ≤ p3 ∧ p3 ≤ nI 63
  rotate_left
  · exact j_R l E hC hR hK ht 2 (by omega) (cw_add_x2 l E (nI b) p2 p3 (cf_add_x3 l E hl hM b hb3 p2 h1 p3 h2) kω) (fun sz1 => cm_add_2 l E sz1 x hA b p2 p3 hb3 (fun z => h2 z.2))
  by_cases h3 : mx_cB (F 0) b < 20
  rotate_left
  · exact j_R l E hC hR hK ht 3 (by omega) (cw_add_x3 l E (nI b) p2 p3 (cf_add_x4 l E hl hM b hb3 p2 h1 p3 h2 h3) kω) (fun sz1 => cm_add_3 l E sz1 x hA b (mx_cB (mx_now x) b) p2 p3 hb3 ⟨h1, h2⟩ (zB b hb3).1.1 (by have := (zB b hb3).1.2; omega) (by rw [← e0]; exact h3))
  exact j_S l E hC hR hK ht (F 0 (98 * b + 1)) (mx_ad (F 0) b (mx_cB (F 0) b) p2 p3) (Λ 0) U 0 hU (Nat.zero_add _) (iv.ad hZ ht hb3 h3 p2 p3 (iv_fl h2)) (cf_add l E hM U hU b hb3 p2 p3 h1 h2 h3 (by obtain ⟨K, i1, -⟩ := iv; exact (i1.1.1 b hb3).asc)) (fun _ _ _ h hp => cw_add l E (nI b) p2 p3 h kω hp) (fun G1 sz1 hA1 => by rw [e0]; exact cm_add l E sz1 x hA1 b (mx_cB (mx_now x) b) sv p2 p3 hb3 ⟨h1, h2⟩ (zB b hb3).1.1 (by rw [← e0]; exact h3) hs h4)
theorem st_change (hJ : jJ A ω o t kc ks G sz x) (ht : t < 512) (hl : l.stackTraces = false) (p1 p2 p3 p4 p5 : Int32) : jSt l E A ω o t kc ks yL_change cL_change 8 [(0, 16, 19, 13), (0, 16, 23, 15), (0, 16, 27, 17)] 9 yX6_change cX6_change 9 (some .int) 4 [.int p1, .int p2, .int p3, .int p4, .int p5] Int32.toInt64 G sz x := by
  obtain ⟨O, B, sv, F, Λ, v1, v2, hC, hR, hK⟩ := hJ
  obtain ⟨hZ, U, hU⟩ := hC.sizes
  have hM := hC.1.1
  have hA := hC.1.2.1
  have kω := hM.1.1.1.1.1
  have h4 := hM.1.1.2.2
  have e0 := hR.1.1
  have hs := hR.1.2
  have iv := hR.2.2.1
  have hZx := e0 ▸ hZ
  obtain ⟨zB, zC, zN, zQ⟩ := id hZx
  by_cases hb : 0 ≤ p1 ∧ p1 ≤ nI 2
  rotate_left
  · exact j_R l E hC hR hK ht 1 (by omega) (cw_change_x1 l E p1 p2 p3 p4 p5 (cf_change_x1 l E hl hM p1 hb p2 p3 p4 p5) kω) (fun sz1 => cm_change_0 l E sz1 x hA p1 p2 p3 p4 p5 hb)
  obtain ⟨b, hb3, rfl⟩ := mz_bxN hb
  rcases mz_sor (mz_fz (mx_nm (F 0) (98 * b + 17)) p2 (mx_cB (F 0) b)) with q | ⟨k, q⟩
  · exact j_R l E hC hR hK ht 1 (by omega) (cw_change_x1 l E (nI b) p2 p3 p4 p5 (cf_change_x2 l E hl hM b hb3 p2 q p3 p4 p5) kω) (fun sz1 => cm_change_1 l E sz1 x hA b (mx_cB (mx_now x) b) p2 p3 p4 p5 hb3 (zB b hb3).1.1 (zB b hb3).1.2 (by rw [← e0]; exact q))
  have hk := (mz_fz_some q).1
  have fl : mr_fl (F 0) (98 * b + 17) (mx_cB (F 0) b) := by obtain ⟨K, i1, -⟩ := iv; exact (i1.1.1 b hb3).2.2.2.2
  have qx : mz_fz (mx_nm (mx_now x) (98 * b + 17)) p2 (mx_cB (mx_now x) b) = some k := by rw [← e0]; exact q
  by_cases h1 : 0 ≤ p3 ∧ p3 ≤ nI 2
  rotate_left
  · exact j_R l E hC hR hK ht 2 (by omega) (cw_change_x2 l E (nI b) p2 p3 p4 p5 (cf_change_x3 l E hl hM b hb3 p2 k q p3 h1 p4 p5) kω) (fun sz1 => cm_change_2 l E sz1 x hA b (mx_cB (mx_now x) b) k p2 p3 p4 p5 hb3 (zB b hb3).1.1 (zB b hb3).1.2 qx (fun z => h1 z.1.1))
  by_cases h2 : 0 ≤ p4 ∧ p4 ≤ nI 63
  rotate_left
  · exact j_R l E hC hR hK ht 2 (by omega) (cw_change_x2 l E (nI b) p2 p3 p4 p5 (cf_change_x4 l E hl hM b hb3 p2 k q p3 h1 p4 h2 p5) kω) (fun sz1 => cm_change_2 l E sz1 x hA b (mx_cB (mx_now x) b) k p2 p3 p4 p5 hb3 (zB b hb3).1.1 (zB b hb3).1.2 qx (fun z => h2 z.1.2))
  by_cases h3 : p5 < -1
  · exact j_R l E hC hR hK ht 2 (by omega) (cw_change_x2 l E (nI b) p2 p3 p4 p5 (cf_change_x5 l E hl hM b hb3 p2 k q p3 h1 p4 h2 p5 h3) kω) (fun sz1 => cm_change_2 l E sz1 x hA b (mx_cB (mx_now x) b) k p2 p3 p4 p5 hb3 (zB b hb3).1.1 (zB b hb3).1.2 qx (fun z => z.2 h3))
  by_cases h5 : mx_st (F 0) b k p5
  · exact j_R l E hC hR hK ht 3 (by omega) (cw_change_x3 l E (nI b) p2 p3 p4 p5 (cf_change_x6 l E hl hM b hb3 p2 k q p3 h1 p4 h2 p5 h3 h5) kω) (fun sz1 => cm_change_3 l E sz1 x hA b (mx_cB (mx_now x) b) k p2 p3 p4 p5 hb3 (zB b hb3).1.1 (zB b hb3).1.2 qx ⟨⟨h1, h2⟩, h3⟩ (by rw [← e0]; exact h5))
  have hv : ∃ v, v < 64 ∧ mx_mx (F 0 (98 * b + 17 + 1 + 4 * k + 2)) p3 p4 = nI v := by
    rw [← mx_mx_eq (fl k hk) h1 h2]
    exact iv_mix (fl k hk) (jt_on h1 h2)
  exact j_S l E hC hR hK ht (mx_mx (F 0 (98 * b + 17 + 1 + 4 * k + 2)) p3 p4) (mx_ch (F 0) b k (mx_mx (F 0 (98 * b + 17 + 1 + 4 * k + 2)) p3 p4)) (Λ 0) U 0 hU (Nat.zero_add _) (iv.ch hZ hb3 hk _ hv) (cf_change l E hM U hU b hb3 fl p2 p3 p4 p5 k q ⟨⟨h1, h2⟩, h3⟩ h5) (fun _ _ _ h hp => cw_change l E (nI b) p2 p3 p4 p5 h kω hp) (fun G1 sz1 hA1 => by rw [e0]; exact cm_change l E sz1 x hA1 b (mx_cB (mx_now x) b) k sv p2 p3 p4 p5 hb3 (zB b hb3).1.1 (zB b hb3).1.2 qx ⟨⟨h1, h2⟩, h3⟩ (by rw [← e0]; exact h5) hs h4)
theorem st_remove (hJ : jJ A ω o t kc ks G sz x) (ht : t < 512) (hl : l.stackTraces = false) (p1 p2 : Int32) : jSt l E A ω o t kc ks yL_remove cL_remove 5 [(0, 10, 13, 13), (0, 10, 17, 17)] 9 yX6_remove cX6_remove 5 (some .int) 4 [.int p1, .int p2] Int32.toInt64 G sz x := by
  obtain ⟨O, B, sv, F, Λ, v1, v2, hC, hR, hK⟩ := hJ
  obtain ⟨hZ, U, hU⟩ := hC.sizes
  have hM := hC.1.1
  have hA := hC.1.2.1
  have kω := hM.1.1.1.1.1
  have h4 := hM.1.1.2.2
  have e0 := hR.1.1
  have hs := hR.1.2
  have iv := hR.2.2.1
  have hZx := e0 ▸ hZ
  obtain ⟨zB, zC, zN, zQ⟩ := id hZx
  by_cases hb : 0 ≤ p1 ∧ p1 ≤ nI 2
  rotate_left
  · exact j_R l E hC hR hK ht 1 (by omega) (cw_remove_x1 l E p1 p2 (cf_remove_x1 l E hl hM p1 hb p2) kω) (fun sz1 => cm_remove_0 l E sz1 x hA p1 p2 hb)
  obtain ⟨b, hb3, rfl⟩ := mz_bxN hb
  rcases mz_sor (mz_fz (mx_nm (F 0) (98 * b + 17)) p2 (mx_cB (F 0) b)) with q | ⟨k, q⟩
  · exact j_R l E hC hR hK ht 1 (by omega) (cw_remove_x1 l E (nI b) p2 (cf_remove_x2 l E hl hM b hb3 p2 q) kω) (fun sz1 => cm_remove_1 l E sz1 x hA b (mx_cB (mx_now x) b) p2 hb3 (zB b hb3).1.1 (zB b hb3).1.2 (by rw [← e0]; exact q))
  have hk := (mz_fz_some q).1
  have fl : mr_fl (F 0) (98 * b + 17) (mx_cB (F 0) b) := by obtain ⟨K, i1, -⟩ := iv; exact (i1.1.1 b hb3).2.2.2.2
  have qx : mz_fz (mx_nm (mx_now x) (98 * b + 17)) p2 (mx_cB (mx_now x) b) = some k := by rw [← e0]; exact q
  obtain ⟨w, w1, w2⟩ := fl k hk
  have bt := (mz_bit w w1).2
  rw [← w2] at bt
  by_cases h1 : F 0 (98 * b + 17 + 1 + 4 * k + 2) &&& nI 1 = 0
  · exact j_R l E hC hR hK ht 2 (by omega) (cw_remove_x2 l E (nI b) p2 (cf_remove_x3 l E hl hM b hb3 p2 k q h1) kω) (fun sz1 => cm_remove_2 l E sz1 x hA b (mx_cB (mx_now x) b) k p2 hb3 (zB b hb3).1.1 (zB b hb3).1.2 qx (by rw [← e0]; exact bt.2 h1))
  exact j_S l E hC hR hK ht (nI (mx_cB (F 0) b - 1)) (mx_rm (F 0) b (mx_cB (F 0) b) (mx_gB (F 0) b) k) (Λ 0) U 0 hU (Nat.zero_add _) (iv.rm hZ hb3 hk) (cf_remove l E hM U hU b hb3 p2 k q h1) (fun _ _ _ h hp => cw_remove l E (nI b) p2 h kω hp) (fun G1 sz1 hA1 => by rw [e0]; exact cm_remove l E sz1 x hA1 b (mx_cB (mx_now x) b) (mx_gB (mx_now x) b) k sv p2 hb3 (zB b hb3).1.1 (zB b hb3).1.2 (zB b hb3).2.1 (zB b hb3).2.2 qx (by rw [← e0]; exact fun z => h1 (bt.1 z)) hs h4)
theorem st_clean (hJ : jJ A ω o t kc ks G sz x) (ht : t < 512) (hl : l.stackTraces = false) (p1 : Int32) : jSt l E A ω o t kc ks yL_clean cL_clean 4 [(0, 9, 12, 13)] 9 yX6_clean cX6_clean 4 (some .int) 3 [.int p1] Int32.toInt64 G sz x := by
  obtain ⟨O, B, sv, F, Λ, v1, v2, hC, hR, hK⟩ := hJ
  obtain ⟨hZ, U, hU⟩ := hC.sizes
  have hM := hC.1.1
  have hA := hC.1.2.1
  have kω := hM.1.1.1.1.1
  have h4 := hM.1.1.2.2
  have e0 := hR.1.1
  have hs := hR.1.2
  have iv := hR.2.2.1
  have hZx := e0 ▸ hZ
  obtain ⟨zB, zC, zN, zQ⟩ := id hZx
  by_cases hb : 0 ≤ p1 ∧ p1 ≤ nI 2
  rotate_left
  · exact j_R l E hC hR hK ht 1 (by omega) (cw_clean_x1 l E p1 (cf_clean_x1 l E hl hM p1 hb) kω) (fun sz1 => cm_clean_1 l E sz1 x hA p1 hb)
  obtain ⟨b, hb3, rfl⟩ := mz_bxN hb
  have fl : mr_fl (F 0) (98 * b + 17) (mx_cB (F 0) b) := by obtain ⟨K, i1, -⟩ := iv; exact (i1.1.1 b hb3).2.2.2.2
  exact j_S l E hC hR hK ht (nI (mx_cl (mx_cB (F 0) b) (F 0) b (mx_cB (F 0) b) (mx_gB (F 0) b) 0 0).2) ((mx_cl (mx_cB (F 0) b) (F 0) b (mx_cB (F 0) b) (mx_gB (F 0) b) 0 0).1) (Λ 0) U 0 hU (Nat.zero_add _) (iv.cl hZ hb3) (cf_clean l E hM U hU b hb3 fl) (fun _ _ _ h hp => cw_clean l E (nI b) h kω hp) (fun G1 sz1 hA1 => by rw [e0]; exact cm_clean l E sz1 x hA1 b (mx_cB (mx_now x) b) (mx_gB (mx_now x) b) sv hb3 (zB b hb3).1.1 (zB b hb3).1.2 (zB b hb3).2.1 (zB b hb3).2.2 hs h4)
theorem st_copy (hJ : jJ A ω o t kc ks G sz x) (ht : t < 512) (hl : l.stackTraces = false) (p1 p2 p3 : Int32) : jSt l E A ω o t kc ks yL_copy cL_copy 6 [(0, 12, 15, 13), (0, 12, 19, 17)] 9 yX6_copy cX6_copy 6 (some .int) 5 [.int p1, .int p2, .int p3] Int32.toInt64 G sz x := by
  obtain ⟨O, B, sv, F, Λ, v1, v2, hC, hR, hK⟩ := hJ
  obtain ⟨hZ, U, hU⟩ := hC.sizes
  have hM := hC.1.1
  have hA := hC.1.2.1
  have kω := hM.1.1.1.1.1
  have h4 := hM.1.1.2.2
  have e0 := hR.1.1
  have hs := hR.1.2
  have iv := hR.2.2.1
  have hZx := e0 ▸ hZ
  obtain ⟨zB, zC, zN, zQ⟩ := id hZx
  by_cases hb : 0 ≤ p1 ∧ p1 ≤ nI 2
  rotate_left
  · by_cases h1 : 0 ≤ p3 ∧ p3 ≤ nI 2
    · exact j_R l E hC hR hK ht 1 (by omega) (cw_copy_x1 l E p1 p2 p3 (cf_copy_x1 l E hl hM p1 hb p2 p3) kω) (fun sz1 => cm_copy_1 l E sz1 x hA p1 p2 p3 h1 hb)
    · exact j_R l E hC hR hK ht 1 (by omega) (cw_copy_x1 l E p1 p2 p3 (cf_copy_x1 l E hl hM p1 hb p2 p3) kω) (fun sz1 => cm_copy_0 l E sz1 x hA p1 p2 p3 h1)
  obtain ⟨b, hb3, rfl⟩ := mz_bxN hb
  by_cases h1 : 0 ≤ p3 ∧ p3 ≤ nI 2
  rotate_left
  · exact j_R l E hC hR hK ht 1 (by omega) (cw_copy_x1 l E (nI b) p2 p3 (cf_copy_x2 l E hl hM b hb3 p3 h1 p2) kω) (fun sz1 => cm_copy_0 l E sz1 x hA (nI b) p2 p3 h1)
  obtain ⟨t1, ht3, rfl⟩ := mz_bxN h1
  rcases mz_sor (mz_fz (mx_nm (F 0) (98 * b + 17)) p2 (mx_cB (F 0) b)) with q | ⟨k, q⟩
  · exact j_R l E hC hR hK ht 1 (by omega) (cw_copy_x1 l E (nI b) p2 (nI t1) (cf_copy_x3 l E hl hM b hb3 t1 ht3 p2 q) kω) (fun sz1 => cm_copy_2 l E sz1 x hA b (mx_cB (mx_now x) b) p2 (nI t1) h1 hb3 (zB b hb3).1.1 (zB b hb3).1.2 (by rw [← e0]; exact q))
  have hk := (mz_fz_some q).1
  have fl : mr_fl (F 0) (98 * b + 17) (mx_cB (F 0) b) := by obtain ⟨K, i1, -⟩ := iv; exact (i1.1.1 b hb3).2.2.2.2
  have qx : mz_fz (mx_nm (mx_now x) (98 * b + 17)) p2 (mx_cB (mx_now x) b) = some k := by rw [← e0]; exact q
  by_cases h3 : mx_cB (F 0) t1 < 20
  rotate_left
  · exact j_R l E hC hR hK ht 2 (by omega) (cw_copy_x2 l E (nI b) p2 (nI t1) (cf_copy_x4 l E hl hM b hb3 t1 ht3 p2 k q h3) kω) (fun sz1 => cm_copy_3 l E sz1 x hA b (mx_cB (mx_now x) b) k t1 (mx_cB (mx_now x) t1) p2 ht3 hb3 (zB b hb3).1.1 (zB b hb3).1.2 qx (zB t1 ht3).1.1 (by have := (zB t1 ht3).1.2; omega) (by rw [← e0]; exact h3))
  exact j_S l E hC hR hK ht (F 0 (98 * t1 + 1)) (mx_ad (F 0) t1 (mx_cB (F 0) t1) (F 0 (98 * b + 17 + 1 + 4 * k + 1)) (F 0 (98 * b + 17 + 1 + 4 * k + 2))) (Λ 0) U 0 hU (Nat.zero_add _) (iv.ad hZ ht ht3 h3 _ _ (fl k hk)) (cf_copy l E hM U hU b hb3 t1 ht3 p2 k q h3 (by obtain ⟨K, i1, -⟩ := iv; exact (i1.1.1 t1 ht3).asc)) (fun _ _ _ h hp => cw_copy l E (nI b) p2 (nI t1) h kω hp) (fun G1 sz1 hA1 => by rw [e0]; exact cm_copy l E sz1 x hA1 b (mx_cB (mx_now x) b) k t1 (mx_cB (mx_now x) t1) sv p2 ht3 hb3 (zB b hb3).1.1 (zB b hb3).1.2 qx (zB t1 ht3).1.1 (by rw [← e0]; exact h3) hs h4)
theorem st_renew (hJ : jJ A ω o t kc ks G sz x) (ht : t < 512) (hl : l.stackTraces = false) (p1 : Int32) : jSt l E A ω o t kc ks yL_renew cL_renew 4 [(0, 9, 12, 13)] 9 yX6_renew cX6_renew 5 (some .int) 3 [.int p1] Int32.toInt64 G sz x := by
  obtain ⟨O, B, sv, F, Λ, v1, v2, hC, hR, hK⟩ := hJ
  obtain ⟨hZ, U, hU⟩ := hC.sizes
  have hM := hC.1.1
  have hA := hC.1.2.1
  have kω := hM.1.1.1.1.1
  have h4 := hM.1.1.2.2
  have e0 := hR.1.1
  have hs := hR.1.2
  have iv := hR.2.2.1
  have hZx := e0 ▸ hZ
  obtain ⟨zB, zC, zN, zQ⟩ := id hZx
  by_cases hb : 0 ≤ p1 ∧ p1 ≤ nI 2
  rotate_left
  · exact j_R l E hC hR hK ht 1 (by omega) (cw_renew_x1 l E p1 (cf_renew_x1 l E hl hM p1 hb) kω) (fun sz1 => cm_renew_1 l E sz1 x hA p1 hb)
  obtain ⟨b, hb3, rfl⟩ := mz_bxN hb
  have er : mx_rn (F 0) b (mx_cB (F 0) b) (98 * b + 0) = F 0 (98 * b + 0) + 1 := jt_rn0 (zB := (hZ.1 b hb3).1.2)
  exact j_S l E hC hR hK ht (mx_rn (F 0) b (mx_cB (F 0) b) (98 * b + 0)) (mx_rn (F 0) b (mx_cB (F 0) b)) (Λ 0) U 0 hU (Nat.zero_add _) (iv.rn hZ ht hb3) (cf_renew l E hM U hU b hb3) (fun _ _ _ h hp => cw_renew l E (nI b) h kω hp) (fun G1 sz1 hA1 => by rw [e0]; exact by rw [← e0, er, e0]; exact cm_renew l E sz1 x hA1 b (mx_cB (mx_now x) b) sv hb3 (zB b hb3).1.1 (zB b hb3).1.2 hs h4)
theorem st_box (hJ : jJ A ω o t kc ks G sz x) (ht : t < 512) (hl : l.stackTraces = false) (p1 p2 : Int32) : jSt l E A ω o t kc ks yL_box cL_box 5 [(0, 10, 13, 13), (0, 10, 17, 15)] 8 yX6_box cX6_box 3 (some .int) 3 [.int p1, .int p2] Int32.toInt64 G sz x := by
  obtain ⟨O, B, sv, F, Λ, v1, v2, hC, hR, hK⟩ := hJ
  obtain ⟨hZ, U, hU⟩ := hC.sizes
  have hM := hC.1.1
  have hA := hC.1.2.1
  have kω := hM.1.1.1.1.1
  have h4 := hM.1.1.2.2
  have e0 := hR.1.1
  have hs := hR.1.2
  have iv := hR.2.2.1
  have hZx := e0 ▸ hZ
  obtain ⟨zB, zC, zN, zQ⟩ := id hZx
  by_cases hb : 0 ≤ p1 ∧ p1 ≤ nI 2
  rotate_left
  · exact j_R l E hC hR hK ht 1 (by omega) (cw_box_x1 l E p1 p2 (cf_box_x1 l E hl hM p1 hb p2) kω) (fun sz1 => cm_box_1 l E sz1 x hA p1 p2 hb)
  obtain ⟨b, hb3, rfl⟩ := mz_bxN hb
  by_cases h1 : 0 ≤ p2 ∧ p2 ≤ nI 5
  rotate_left
  · exact j_R l E hC hR hK ht 2 (by omega) (cw_box_x2 l E (nI b) p2 (cf_box_x2 l E hl hM b hb3 p2 h1) kω) (fun sz1 => cm_box_2 l E sz1 x hA b p2 hb3 h1)
  obtain ⟨w, hw, rfl⟩ := mz_nat63 (by omega) h1
  exact j_V0 l E hC hR hK ht (x' := mx_wrf x 0) (mx_bt (F 0) b w) (cf_box l E hM b hb3 w (by omega)) (fun _ _ _ h hp => cw_box l E (nI b) (nI w) h kω hp) (fun G1 sz1 hA1 => by rw [e0]; exact cm_box l E sz1 x hA1 b w hb3 hw) rfl rfl rfl rfl
theorem st_message (hJ : jJ A ω o t kc ks G sz x) (ht : t < 512) (hl : l.stackTraces = false) (p1 p2 p3 : Int32) : jSt l E A ω o t kc ks yL_message cL_message 6 [(0, 12, 15, 13), (0, 12, 19, 15)] 8 yX6_message cX6_message 4 (some .int) 3 [.int p1, .int p2, .int p3] Int32.toInt64 G sz x := by
  obtain ⟨O, B, sv, F, Λ, v1, v2, hC, hR, hK⟩ := hJ
  obtain ⟨hZ, U, hU⟩ := hC.sizes
  have hM := hC.1.1
  have hA := hC.1.2.1
  have kω := hM.1.1.1.1.1
  have h4 := hM.1.1.2.2
  have e0 := hR.1.1
  have hs := hR.1.2
  have iv := hR.2.2.1
  have hZx := e0 ▸ hZ
  obtain ⟨zB, zC, zN, zQ⟩ := id hZx
  by_cases hb : 0 ≤ p1 ∧ p1 ≤ nI 2
  rotate_left
  · exact j_R l E hC hR hK ht 1 (by omega) (cw_message_x1 l E p1 p2 p3 (cf_message_x1 l E hl hM p1 hb p2 p3) kω) (fun sz1 => cm_message_1 l E sz1 x hA p1 p2 p3 hb)
  obtain ⟨b, hb3, rfl⟩ := mz_bxN hb
  by_cases h1 : 0 ≤ p3 ∧ p3 ≤ nI 3
  rotate_left
  · exact j_R l E hC hR hK ht 2 (by omega) (cw_message_x2 l E (nI b) p2 p3 (cf_message_x2 l E hl hM b hb3 p3 h1 p2) kω) (fun sz1 => cm_message_2 l E sz1 x hA b p2 p3 hb3 h1)
  obtain ⟨w, hw, rfl⟩ := mz_nat63 (by omega) h1
  have eq1 : mt_c (mx_cB (F 0) b) 4 (mr_h (F 0) (98 * b + 17) 4) p2 (nI w) = mx_td (F 0) (98 * b + 17) (mx_cB (F 0) b) p2 w := jt_c (by omega) (by omega)
  have hcf := cf_message l E hM b hb3 p2 (nI w) h1
  rw [eq1] at hcf
  exact j_V0 l E hC hR hK ht (x' := mx_wrf x 0) (mx_td (F 0) (98 * b + 17) (mx_cB (F 0) b) p2 w) (hcf) (fun _ _ _ h hp => cw_message l E (nI b) p2 (nI w) h kω hp) (fun G1 sz1 hA1 => by rw [e0]; exact cm_message l E sz1 x hA1 b (mx_cB (mx_now x) b) w p2 hb3 hw (zB b hb3).1.1 (zB b hb3).1.2) rfl rfl rfl rfl
theorem st_vanished (hJ : jJ A ω o t kc ks G sz x) (ht : t < 512) (hl : l.stackTraces = false) (p1 p2 p3 : Int32) (h01 : ∃ w, w ≤ 1 ∧ p3 = nI w) : jSt l E A ω o t kc ks yL_vanished cL_vanished 6 [(0, 12, 15, 13)] 8 yX6_vanished cX6_vanished 4 (some .int) 3 [.int p1, .int p2, .int p3] Int32.toInt64 G sz x := by
  obtain ⟨O, B, sv, F, Λ, v1, v2, hC, hR, hK⟩ := hJ
  obtain ⟨hZ, U, hU⟩ := hC.sizes
  have hM := hC.1.1
  have hA := hC.1.2.1
  have kω := hM.1.1.1.1.1
  have h4 := hM.1.1.2.2
  have e0 := hR.1.1
  have hs := hR.1.2
  have iv := hR.2.2.1
  have hZx := e0 ▸ hZ
  obtain ⟨zB, zC, zN, zQ⟩ := id hZx
  by_cases hb : 0 ≤ p1 ∧ p1 ≤ nI 2
  rotate_left
  · exact j_R l E hC hR hK ht 1 (by omega) (cw_vanished_x1 l E p1 p2 p3 (cf_vanished_x1 l E hl hM p1 hb p2 p3) kω) (fun sz1 => cm_vanished_1 l E sz1 x hA p1 p2 p3 hb)
  obtain ⟨b, hb3, rfl⟩ := mz_bxN hb
  obtain ⟨w, hw, rfl⟩ := h01
  have hif : (if nI w = 0 then nI 0 else nI 1) = nI w := by
    rcases (show w = 0 ∨ w = 1 by omega) with rfl | rfl <;> decide
  have eq1 : mt_c (mx_gB (F 0) b) 2 (mr_h (F 0) (98 * b + 4) 2) p2 (nI w) = mx_vd (F 0) b (mx_gB (F 0) b) p2 w := jt_c (by omega) (by omega)
  have hcf := cf_vanished l E hM b hb3 p2 (nI w)
  rw [hif, eq1] at hcf
  exact j_V0 l E hC hR hK ht (x' := mx_wrf x 0) (mx_vd (F 0) b (mx_gB (F 0) b) p2 w) (hcf) (fun _ _ _ h hp => cw_vanished l E (nI b) p2 (nI w) h kω hp) (fun G1 sz1 hA1 => by rw [e0]; exact cm_vanished l E sz1 x hA1 b (mx_gB (mx_now x) b) w p2 hb3 hw (zB b hb3).2.1 (zB b hb3).2.2) rfl rfl rfl rfl
theorem st_atMost (hJ : jJ A ω o t kc ks G sz x) (ht : t < 512) (hl : l.stackTraces = false) (p1 p2 : Int32) : jSt l E A ω o t kc ks yL_atMost cL_atMost 5 [(0, 10, 13, 13)] 8 yX6_atMost cX6_atMost 5 (some .int) 3 [.int p1, .int p2] Int32.toInt64 G sz x := by
  obtain ⟨O, B, sv, F, Λ, v1, v2, hC, hR, hK⟩ := hJ
  obtain ⟨hZ, U, hU⟩ := hC.sizes
  have hM := hC.1.1
  have hA := hC.1.2.1
  have kω := hM.1.1.1.1.1
  have h4 := hM.1.1.2.2
  have e0 := hR.1.1
  have hs := hR.1.2
  have iv := hR.2.2.1
  have hZx := e0 ▸ hZ
  obtain ⟨zB, zC, zN, zQ⟩ := id hZx
  by_cases hb : 0 ≤ p1 ∧ p1 ≤ nI 2
  rotate_left
  · exact j_R l E hC hR hK ht 1 (by omega) (cw_atMost_x1 l E p1 p2 (cf_atMost_x1 l E hl hM p1 hb p2) kω) (fun sz1 => cm_atMost_1 l E sz1 x hA p1 p2 hb)
  obtain ⟨b, hb3, rfl⟩ := mz_bxN hb
  exact j_V0 l E hC hR hK ht (x' := mx_wrf x 0) (mx_am (mx_nm (F 0) (98 * b + 17)) p2 (mx_cB (F 0) b)) (cf_atMost l E hM b hb3 p2) (fun _ _ _ h hp => cw_atMost l E (nI b) p2 h kω hp) (fun G1 sz1 hA1 => by rw [e0]; exact cm_atMost l E sz1 x hA1 b (mx_cB (mx_now x) b) p2 hb3 (zB b hb3).1.1 (zB b hb3).1.2) rfl rfl rfl rfl
theorem st_changedAfter (hJ : jJ A ω o t kc ks G sz x) (ht : t < 512) (hl : l.stackTraces = false) (p1 p2 : Int32) : jSt l E A ω o t kc ks yL_changedAfter cL_changedAfter 5 [(0, 10, 13, 13)] 8 yX6_changedAfter cX6_changedAfter 6 (some .int) 3 [.int p1, .int p2] Int32.toInt64 G sz x := by
  obtain ⟨O, B, sv, F, Λ, v1, v2, hC, hR, hK⟩ := hJ
  obtain ⟨hZ, U, hU⟩ := hC.sizes
  have hM := hC.1.1
  have hA := hC.1.2.1
  have kω := hM.1.1.1.1.1
  have h4 := hM.1.1.2.2
  have e0 := hR.1.1
  have hs := hR.1.2
  have iv := hR.2.2.1
  have hZx := e0 ▸ hZ
  obtain ⟨zB, zC, zN, zQ⟩ := id hZx
  by_cases hb : 0 ≤ p1 ∧ p1 ≤ nI 2
  rotate_left
  · exact j_R l E hC hR hK ht 1 (by omega) (cw_changedAfter_x1 l E p1 p2 (cf_changedAfter_x1 l E hl hM p1 hb p2) kω) (fun sz1 => cm_changedAfter_1 l E sz1 x hA p1 p2 hb)
  obtain ⟨b, hb3, rfl⟩ := mz_bxN hb
  exact j_V0 l E hC hR hK ht (x' := mx_wrf x 0) (mx_cr (F 0) (98 * b + 17) (mx_ca (mx_mk (F 0) (98 * b + 17)) p2 (mx_cB (F 0) b))) (cf_changedAfter l E hM b hb3 p2) (fun _ _ _ h hp => cw_changedAfter l E (nI b) p2 h kω hp) (fun G1 sz1 hA1 => by rw [e0]; exact cm_changedAfter l E sz1 x hA1 b (mx_cB (mx_now x) b) p2 hb3 (zB b hb3).1.1 (zB b hb3).1.2) rfl rfl rfl rfl
theorem st_setPolicy (hJ : jJ A ω o t kc ks G sz x) (ht : t < 512) (hl : l.stackTraces = false) (p1 p2 : Int32) : jSt l E A ω o t kc ks yL_setPolicy cL_setPolicy 5 [(0, 10, 13, 13), (0, 10, 17, 15)] 9 yX6_setPolicy cX6_setPolicy 4 (some .int) 2 [.int p1, .int p2] Int32.toInt64 G sz x := by
  obtain ⟨O, B, sv, F, Λ, v1, v2, hC, hR, hK⟩ := hJ
  obtain ⟨hZ, U, hU⟩ := hC.sizes
  have hM := hC.1.1
  have hA := hC.1.2.1
  have kω := hM.1.1.1.1.1
  have h4 := hM.1.1.2.2
  have e0 := hR.1.1
  have hs := hR.1.2
  have iv := hR.2.2.1
  have hZx := e0 ▸ hZ
  obtain ⟨zB, zC, zN, zQ⟩ := id hZx
  by_cases hm : 0 ≤ p1 ∧ p1 ≤ nI 3
  rotate_left
  · exact j_R l E hC hR hK ht 1 (by omega) (cw_setPolicy_x1 l E p1 p2 (cf_setPolicy_x1 l E hl hM p1 hm p2) kω) (fun sz1 => cm_setPolicy_1 l E sz1 x hA p1 p2 hm)
  obtain ⟨m0, hm4, rfl⟩ := mz_mN hm
  by_cases h1 : 0 ≤ p2 ∧ p2 ≤ nI 1
  rotate_left
  · exact j_R l E hC hR hK ht 2 (by omega) (cw_setPolicy_x2 l E (nI m0) p2 (cf_setPolicy_x2 l E hl hM m0 hm4 p2 h1) kω) (fun sz1 => cm_setPolicy_2 l E sz1 x hA (nI m0) p2 hm h1)
  exact j_S l E hC hR hK ht (F 0 (294 + 58 * m0)) (mz_u1 (F 0) (294 + 58 * m0) p2) (Λ 0) U 0 hU (Nat.zero_add _) (iv.pol hZ hm4 p2) (cf_setPolicy l E hM U hU m0 hm4 p2 h1) (fun _ _ _ h hp => cw_setPolicy l E (nI m0) p2 h kω hp) (fun G1 sz1 hA1 => by rw [e0]; exact cm_setPolicy l E sz1 x hA1 m0 sv p2 hm4 h1 hs h4)
theorem st_sync (hJ : jJ A ω o t kc ks G sz x) (ht : t < 512) (hl : l.stackTraces = false) (p1 p2 : Int32) : jSt l E A ω o t kc ks yL_sync cL_sync 5 [(0, 10, 13, 13)] 10 yX6_sync cX6_sync 3 (some .int) 5 [.int p1, .int p2] Int32.toInt64 G sz x := by
  obtain ⟨O, B, sv, F, Λ, v1, v2, hC, hR, hK⟩ := hJ
  obtain ⟨hZ, U, hU⟩ := hC.sizes
  have hM := hC.1.1
  have hA := hC.1.2.1
  have kω := hM.1.1.1.1.1
  have h4 := hM.1.1.2.2
  have e0 := hR.1.1
  have hs := hR.1.2
  have iv := hR.2.2.1
  have hZx := e0 ▸ hZ
  obtain ⟨zB, zC, zN, zQ⟩ := id hZx
  by_cases hm : 0 ≤ p1 ∧ p1 ≤ nI 3
  rotate_left
  · exact j_R l E hC hR hK ht 1 (by omega) (cw_sync_x1 l E p1 p2 (cf_sync_x1 l E hl hM p1 hm p2) kω) (fun sz1 => cm_sync_1 l E sz1 x hA p1 p2 (fun z => hm z.1))
  obtain ⟨m0, hm4, rfl⟩ := mz_mN hm
  by_cases hb : 0 ≤ p2 ∧ p2 ≤ nI 2
  rotate_left
  · exact j_R l E hC hR hK ht 1 (by omega) (cw_sync_x1 l E (nI m0) p2 (cf_sync_x2 l E hl hM m0 hm4 p2 hb ) kω) (fun sz1 => cm_sync_1 l E sz1 x hA (nI m0) p2 (fun z => hb z.2))
  obtain ⟨b, hb3, rfl⟩ := mz_bxN hb
  obtain ⟨⟨y1, y2⟩, ⟨y3, y4⟩, y5, y6, y7, y8⟩ := iv.yS hZ (by omega) hm4 hb3
  obtain ⟨U2, hU2⟩ : ∃ U2, U2 + mr_Ph (mr_lg (Λ 0) m0 b (mr_sc (F 0) m0 b)) = mr_Ph (Λ 0) := ⟨_, Nat.sub_add_cancel (mr_lg_ok (hM.2.2.1 0 (by omega)).cL hm4 hb3 _).2⟩
  have hPu := mr_Ph_u (Λ 0) hm4 hb3 (mt_gr 4 532 (Λ 0 m0 b) (mr_sc (F 0) m0 b))
  have hU3 : U2 = mr_ph (Λ 0 m0 b) - mr_ph (mt_gr 4 532 (Λ 0 m0 b) (mr_sc (F 0) m0 b)) := by
    unfold mr_lg at hU2
    omega
  rw [e0] at y6 y7 y8
  exact j_S l E hC hR hK ht (nI (mx_yn (F 0) m0 b)) (mx_yS (F 0) m0 b) (mr_lg (Λ 0) m0 b (mr_sc (F 0) m0 b)) U U2 hU (hU2) (y1.mono (by omega)) (cf_sync l E hM U U2 hU m0 hm4 b hb3 y3 y4 hU3) (fun _ _ _ h hp => cw_sync l E (nI m0) (nI b) h kω hp) (fun G1 sz1 hA1 => by rw [e0]; exact cm_sync l E sz1 x hA1 m0 b (mx_cB (mx_now x) b) (mx_gB (mx_now x) b) (mx_cC (mx_now x) m0 b) (mx_nD (mx_now x) m0) (mx_nQ (mx_now x)) sv hm4 hb3 (zB b hb3).1.1 (zB b hb3).1.2 (zB b hb3).2.1 (zB b hb3).2.2 y6.1 y6.2 y7.1 y7.2 y8.1 y8.2 hs h4)
theorem st_syncCost (hJ : jJ A ω o t kc ks G sz x) (ht : t < 512) (hl : l.stackTraces = false) (p1 p2 : Int32) : jSt l E A ω o t kc ks yL_syncCost cL_syncCost 5 [(0, 10, 13, 13)] 8 yX6_syncCost cX6_syncCost 3 (some .int) 4 [.int p1, .int p2] Int32.toInt64 G sz x := by
  obtain ⟨O, B, sv, F, Λ, v1, v2, hC, hR, hK⟩ := hJ
  obtain ⟨hZ, U, hU⟩ := hC.sizes
  have hM := hC.1.1
  have hA := hC.1.2.1
  have kω := hM.1.1.1.1.1
  have h4 := hM.1.1.2.2
  have e0 := hR.1.1
  have hs := hR.1.2
  have iv := hR.2.2.1
  have hZx := e0 ▸ hZ
  obtain ⟨zB, zC, zN, zQ⟩ := id hZx
  by_cases hm : 0 ≤ p1 ∧ p1 ≤ nI 3
  rotate_left
  · exact j_R l E hC hR hK ht 1 (by omega) (cw_syncCost_x1 l E p1 p2 (cf_syncCost_x1 l E hl hM p1 hm p2) kω) (fun sz1 => cm_syncCost_1 l E sz1 x hA p1 p2 (fun z => hm z.1))
  obtain ⟨m0, hm4, rfl⟩ := mz_mN hm
  by_cases hb : 0 ≤ p2 ∧ p2 ≤ nI 2
  rotate_left
  · exact j_R l E hC hR hK ht 1 (by omega) (cw_syncCost_x1 l E (nI m0) p2 (cf_syncCost_x2 l E hl hM m0 hm4 p2 hb ) kω) (fun sz1 => cm_syncCost_1 l E sz1 x hA (nI m0) p2 (fun z => hb z.2))
  obtain ⟨b, hb3, rfl⟩ := mz_bxN hb
  have hcf := cf_syncCost l E hM m0 hm4 b hb3
  rw [nI_add] at hcf
  exact j_V0 l E hC hR hK ht (x' := mx_wrf x 0) (nI (mx_mc (F 0) m0 b (mx_cB (F 0) b) + mx_nc (F 0) m0 b (mx_cB (F 0) b) (mx_gB (F 0) b))) (hcf) (fun _ _ _ h hp => cw_syncCost l E (nI m0) (nI b) h kω hp) (fun G1 sz1 hA1 => by rw [e0]; exact cm_syncCost l E sz1 x hA1 m0 b (mx_cB (mx_now x) b) (mx_gB (mx_now x) b) hm4 hb3 (zB b hb3).1.1 (zB b hb3).1.2 (zB b hb3).2.1 (zB b hb3).2.2) rfl rfl rfl rfl
end JT

