/-! ===== syncing keeps it ===== -/
section IV
variable {f f' : Nat → Int32} {T T' K K' m b k : Nat}
theorem iv_cnt {L n : Nat} (hs : mr_so f L n) (hb : ∀ j, j < n → 1 ≤ (mx_nm f L j).toInt ∧ (mx_nm f L j).toInt ≤ T) : n ≤ T := by
  have : ∀ j, j < n → (j : Int) + 1 ≤ (mx_nm f L j).toInt := by
    intro j
    induction j with
    | zero => intro hj; have := (hb 0 hj).1; omega
    | succ j ih =>
      intro hj
      have h1 := ih (by omega)
      have h2 := hs j (j + 1) (by omega) hj
      rw [mz_ltI] at h2
      omega
  by_cases hn : n = 0
  · omega
  · have h1 := this (n - 1) (by omega)
    have h2 := (hb (n - 1) (by omega)).2
    omega
theorem iv_C.cnt (h : iv_C f T m b) : mx_cC f m b ≤ T := iv_cnt h.2.1 (fun j hj => h.2.2.1 _ ⟨j, hj, rfl⟩)
theorem iv_yO (h : iv T K f) (hZ : iv_Z f) (hT : T ≤ 512) (hm : m < 4) (hb : b < 3) : mx_yO f m b := by
  have h1 := (h.1.2 m b hm hb).cnt
  have h2 := (hZ.1 b hb).1.2
  exact ⟨hZ.1 b hb, ⟨(hZ.2.1 m b hm hb).1, by omega⟩, hZ.2.2.1 m hm, hZ.2.2.2⟩
/-- the copy after its sync -/
theorem iv_sA (h : iv T K f) (hZ : iv_Z f) (hT : T ≤ 512) (hK : K ≤ T) (hm : m < 4) (hb : b < 3) : (mr_so (mr_sA f m b) (mx_CA m b + 2) (mr_sc f m b) ∧ mr_sc f m b ≤ T) ∧ (mr_sA f m b (mx_CA m b) = f (98 * b + 0)) ∧ ∀ v, (∃ j, j < mr_sc f m b ∧ mx_nm (mr_sA f m b) (mx_CA m b + 2) j = v) → (1 ≤ v.toInt ∧ v.toInt ≤ T) ∧ v.toInt < (f (98 * b + 1)).toInt := by
  have hC := h.1.2 m b hm hb
  have hB := h.1.1 b hb
  obtain ⟨⟨-, h20⟩, -, h6⟩ := hZ.1 b hb
  have hCA : 526 ≤ mx_CA m b ∧ mx_CA m b + 2403 ≤ 29362 := by unfold mx_CA; omega
  obtain ⟨l1, l2, l3⟩ := iv_l1 (mx_CA m b + 2) b (mx_cs f m b) (mx_gB f b) (mx_cB f b) (f (mx_CA m b + 1)) (by omega) h20 h6 (mx_cC f m b) f (mx_cC f m b) 0 (by omega) hC.2.1
  obtain ⟨-, -, o1⟩ := mx_l1_ok (mx_CA m b + 2) b (mx_cs f m b) (mx_gB f b) (mx_cB f b) (f (mx_CA m b + 1)) (mx_cC f m b) f (mx_cC f m b) 0 (by omega) (hZ.2.1 m b hm hb).1
  obtain ⟨k1, k2⟩ := iv_l2 (mx_CA m b + 2) b (mx_cs f m b) (f (mx_CA m b + 1)) (by omega) (mx_cB f b) (mr_b1 f m b (mx_cB f b) (mx_gB f b) (mx_cC f m b)).1 (mr_b1 f m b (mx_cB f b) (mx_gB f b) (mx_cC f m b)).2 0 (by omega) l1
  have enm : ∀ j, mx_nm (mr_sA f m b) (mx_CA m b + 2) j = mx_nm (mr_b2 f m b (mx_cB f b) (mx_gB f b) (mx_cC f m b)).1 (mx_CA m b + 2) j := fun j => by
    show mr_sA f m b _ = _
    unfold mr_sA mr_bu
    rw [mz_u1_o _ _ (by omega), mz_u1_o _ _ (by omega)]
    rfl
  have hso : mr_so (mr_sA f m b) (mx_CA m b + 2) (mr_sc f m b) := iv_so_cong (fun j _ => enm j) k1
  have hnm : ∀ v, (∃ j, j < mr_sc f m b ∧ mx_nm (mr_sA f m b) (mx_CA m b + 2) j = v) → (1 ≤ v.toInt ∧ v.toInt ≤ T) ∧ v.toInt < (f (98 * b + 1)).toInt := by
    rintro v ⟨j, hj, e⟩
    rw [enm] at e
    rcases k2 v ⟨j, hj, e⟩ with ⟨i, hi, ei⟩ | ⟨i, -, hi, ei⟩
    · by_cases hw : mx_cs f m b = 1
      · have := l3 hw
        exact absurd hi (by show ¬ i < (mx_l1 _ _ _ _ _ _ _ _ _ _).2; omega)
      · have he : f (mx_CA m b) = f (98 * b + 0) := by
          unfold mx_cs at hw
          by_cases z : f (mx_CA m b) = f (98 * b + 0)
          · exact z
          · rw [if_neg z] at hw; exact absurd rfl hw
        obtain ⟨i', q1, q2⟩ := l2 v ⟨i, hi, ei⟩
        exact ⟨hC.2.2.1 v ⟨i', q1, q2⟩, hC.2.2.2 he v ⟨i', q1, q2⟩⟩
    · have ei' : mx_nm f (98 * b + 17) i = v := by
        rw [← ei]
        exact (o1 _ (Or.inl (by omega))).symm
      have := hB.2.2.1 v ⟨i, by omega, ei'⟩
      have := hB.1.2
      omega
  refine ⟨⟨hso, iv_cnt hso (fun j hj => (hnm _ ⟨j, hj, rfl⟩).1)⟩, ?_, hnm⟩
  unfold mr_sA mr_bu
  rw [mz_u1_o _ _ (by omega), mz_u1_s]
theorem iv_yS (h : iv T K f) (hZ : iv_Z f) (hT : T ≤ 512) (hK : K ≤ T) (hm : m < 4) (hb : b < 3) : (iv T K (mx_yS f m b) ∧ iv_Z (mx_yS f m b)) ∧ iv_s (mx_yS f m b) ≤ iv_s f := by
  obtain ⟨⟨aso, asc⟩, aera, anm⟩ := iv_sA h hZ hT hK hm hb
  obtain ⟨yb, yc, yn, yq⟩ := iv_yO h hZ hT hm hb
  obtain ⟨o1, o2, o3⟩ := mr_sA_o f hm hb yb yc
  have hCA : 526 ≤ mx_CA m b ∧ mx_CA m b + 2403 ≤ 29362 := by unfold mx_CA; omega
  have n8 := yn.2
  have q10 := yq.2
  rw [mr_sy_eq f hm hb yb yc yn yq]
  -- first dropping
  have hB : ∃ φ : Nat → Nat, ((mr_sB f m b).1 (294 + 58 * m + 1) = nI (mr_sB f m b).2.1 ∧ (mr_sB f m b).1 29362 = nI (mr_sB f m b).2.2 ∧ (mr_sB f m b).2.1 ≤ mx_nD f m ∧ (mr_sB f m b).2.2 ≤ 10) ∧ (∀ i, (i < 294 + 58 * m + 1 ∨ (294 + 58 * m + 58 ≤ i ∧ i < 29362) ∨ 29399 < i) → (mr_sB f m b).1 i = mr_sA f m b i) ∧ (∀ i j, i < j → φ i < φ j) ∧ ∀ i, i < (mr_sB f m b).2.1 → φ i < mx_nD f m ∧ ∀ j, j < 7 → (mr_sB f m b).1 (mx_DA m i + j) = mr_sA f m b (mx_DA m (φ i) + j) := by
    unfold mr_sB
    by_cases hw : mx_cs f m b = 1
    · rw [if_pos hw]
      obtain ⟨a1, a2, a3, a4, a5⟩ := mx_ds_ok m b (mr_sc f m b) (nI 3) hm (mx_nD f m) (mr_sA f m b) (mx_nD f m) (mx_nQ f) 0 (by omega) n8 q10 (by rw [o1 _ (by omega)]; exact yn.1) (by rw [o1 _ (by omega)]; exact yq.1)
      obtain ⟨φ, p1, -, -, p4⟩ := iv_ds m b (mr_sc f m b) (nI 3) hm hb (by omega) (mx_nD f m) (mr_sA f m b) (mx_nD f m) (mx_nQ f) 0 (by omega) n8 q10
      exact ⟨φ, ⟨a1, a2, a3, a4⟩, a5, p1, fun i hi => ⟨(p4 i hi).1, (p4 i hi).2.1⟩⟩
    · rw [if_neg hw]
      exact ⟨fun i => i, ⟨(o1 _ (by omega)).trans yn.1, (o1 _ (by omega)).trans yq.1, Nat.le_refl _, q10⟩, fun _ _ => rfl, fun i j h => h, fun i hi => ⟨hi, fun _ _ => rfl⟩⟩
  obtain ⟨φ1, ⟨b1, b2, b3, b4⟩, b5, b6, b7⟩ := hB
  -- second dropping
  obtain ⟨c1, c2, c3, c4, c5⟩ := mx_ds_ok m b (mr_sc f m b) (nI 2) hm (mr_sB f m b).2.1 (mr_sB f m b).1 (mr_sB f m b).2.1 (mr_sB f m b).2.2 0 (by omega) (by omega) b4 b1 b2
  obtain ⟨φ2, p1, -, -, p4⟩ := iv_ds m b (mr_sc f m b) (nI 2) hm hb (by omega) (mr_sB f m b).2.1 (mr_sB f m b).1 (mr_sB f m b).2.1 (mr_sB f m b).2.2 0 (by omega) (by omega) b4
  have eC : mr_sC f m b = mx_ds (mr_sB f m b).2.1 (mr_sB f m b).1 m b (mr_sc f m b) (nI 2) (mr_sB f m b).2.1 (mr_sB f m b).2.2 0 := rfl
  rw [← eC] at c1 c2 c3 c4 c5 p4
  have hcs := mx_cs_le f m b
  have hD : ∀ i, (i < 29393 ∨ 29397 < i) → mr_sD f m b i = (mr_sC f m b).1 i := fun i hi => by
    unfold mr_sD mr_u3
    rw [mz_u1_o _ _ (by omega), mz_u1_o _ _ (by omega), mz_u1_o _ _ (by omega)]
  generalize mr_sD f m b = g at hD ⊢
  generalize mr_sC f m b = C at c1 c2 c3 c4 c5 p4 hD
  -- where nothing changed
  have out : ∀ i, (i < 294 + 58 * m + 1 ∨ (294 + 58 * m + 58 ≤ i ∧ i < 29362) ∨ 29399 < i) → g i = mr_sA f m b i := fun i hi => by
    rw [hD i (by omega), c5 i hi, b5 i hi]
  have outf : ∀ i, (i < 294 + 58 * m + 1 ∨ (294 + 58 * m + 58 ≤ i ∧ i < 29362) ∨ 29399 < i) → ¬ (mx_CA m b ≤ i ∧ i < mx_CA m b + 2403) → g i = f i := fun i hi h2 => by
    rw [out i hi, o1 i h2]
  have gn : mx_nD g m = C.2.1 := mr_nI_cl (by rw [hD _ (by omega)]; exact c1) (by omega)
  have rows : ∀ i, i < C.2.1 → φ1 (φ2 i) < mx_nD f m ∧ (∀ j, j < 7 → g (mx_DA m i + j) = f (mx_DA m (φ1 (φ2 i)) + j)) := fun i hi => by
    obtain ⟨w1, w2, -⟩ := p4 i hi
    obtain ⟨x1, x2⟩ := b7 (φ2 i) w1
    refine ⟨x1, fun j hj => ?_⟩
    rw [hD _ (by unfold mx_DA; omega), w2 j hj, x2 j hj]
    exact o1 _ (by unfold mx_DA; omega)
  have gc : mx_cC g m b = mr_sc f m b := mr_nI_cl (by rw [out _ (by omega)]; exact o2) (by omega)
  have gnm : ∀ j, j < mr_sc f m b → mx_nm g (mx_CA m b + 2) j = mx_nm (mr_sA f m b) (mx_CA m b + 2) j := fun j hj => out _ (by omega)
  have gin : ∀ v, iv_iC g m b v → ∃ j, j < mr_sc f m b ∧ mx_nm (mr_sA f m b) (mx_CA m b + 2) j = v := by
    rintro v ⟨j, hj, e⟩
    rw [gc] at hj
    exact ⟨j, hj, by rw [← gnm j hj]; exact e⟩
  have gera : g (mx_CA m b) = f (98 * b + 0) := by rw [out _ (by omega)]; exact aera
  have gbox : ∀ b', b' < 3 → ∀ i, 98 * b' ≤ i → i < 98 * b' + 98 → g i = f i := fun b' hb' i h1 h2 => outf i (by omega) (by omega)
  have gcpy : ∀ m' b', m' < 4 → b' < 3 → ¬ (m' = m ∧ b' = b) → ∀ i, mx_CA m' b' ≤ i → i < mx_CA m' b' + 2403 → g i = f i := fun m' b' hm' hb' hne i h1 h2 => outf i (by unfold mx_CA at h1 h2; omega) (by unfold mx_CA at *; omega)
  have gdd : ∀ m', m' < 4 → ¬ m' = m → ∀ i, 294 + 58 * m' ≤ i → i < 294 + 58 * m' + 58 → g i = f i := fun m' hm' hne i h1 h2 => outf i (by omega) (by omega)
  have stay : ∀ i, i < C.2.1 → ¬ g (mx_DA m i + 1) = nI 1 → g (mx_DA m i + 2) = nI b → iv_iC g m b (g (mx_DA m i + 3)) := by
    intro i hi h1 h2
    obtain ⟨w1, w2, w3⟩ := p4 i hi
    have h3 := w3 (by omega)
    unfold mx_isd at h3
    rw [← w2 1 (by omega), ← w2 2 (by omega), ← w2 3 (by omega), ← hD _ (by unfold mx_DA; omega), ← hD _ (by unfold mx_DA; omega), ← hD _ (by unfold mx_DA; omega)] at h3
    have h4 : ¬ mz_fz (mx_nm (mr_sB f m b).1 (mx_CA m b + 2)) (g (mx_DA m i + 3)) (mr_sc f m b) = none := fun z => h3 ⟨h1, h2, Or.inr z⟩
    obtain ⟨j, hj, e⟩ := iv_fz.1 h4
    exact ⟨j, by rw [gc]; exact hj, by rw [gnm j hj, ← e]; exact (b5 _ (by omega)).symm⟩
  obtain ⟨⟨hB, hC⟩, ⟨hDd, hN⟩, l0, l1⟩ := h
  obtain ⟨zB, zC, zN, zQ⟩ := hZ
  have hCg : iv_C g T m b := by
    refine ⟨?_, ?_, fun v hv => (anm v (gin v hv)).1, fun _ v hv => ?_⟩
    · rw [gera, gbox b hb (98 * b + 0) (by omega) (by omega)]; exact Int.le_refl _
    · rw [gc]; exact iv_so_cong gnm aso
    · rw [gbox b hb (98 * b + 1) (by omega) (by omega)]; exact (anm v (gin v hv)).2
  refine ⟨⟨⟨⟨fun b' hb' => (hB b' hb').cong (zB b' hb').1.2 (gbox b' hb'), fun m' b' hm' hb' => ?_⟩, ⟨fun m' hm' k hk => ?_, fun m' hm' => ?_⟩, ?_⟩, ?_⟩, ?_⟩
  · by_cases e : m' = m ∧ b' = b
    · rw [e.1, e.2]; exact hCg
    · exact (hC m' b' hm' hb').step (zC m' b' hm' hb').2 (gcpy m' b' hm' hb' e) (Or.inl ⟨gbox b' hb' _ (by omega) (by omega), by rw [gbox b' hb' (98 * b' + 1) (by omega) (by omega)]; exact Int.le_refl _⟩)
  · by_cases e : m' = m
    · subst e
      rw [gn] at hk
      obtain ⟨r1, r2⟩ := rows k hk
      refine (hDd m' hm _ r1).step r2 ?_
      intro b' eb' hb' h1 h2 x
      by_cases e2 : b' = b
      · subst e2
        have hin := stay k hk (by rw [r2 1 (by omega)]; exact h1) (by rw [r2 2 (by omega), (hDd m' hm _ r1).1.1.2, ← eb'])
        rw [r2 3 (by omega)] at hin
        exact ⟨hCg.2.2.2 h2 _ hin, fun _ => hin⟩
      · have hne : ¬ (m' = m' ∧ b' = b) := fun z => e2 z.2
        rw [gcpy m' b' hm hb' hne (mx_CA m' b') (by omega) (by omega), gbox b' hb' (98 * b' + 0) (by omega) (by omega)] at h2
        obtain ⟨x1, x2⟩ := x h2
        rw [gbox b' hb' (98 * b' + 1) (by omega) (by omega)]
        exact ⟨x1, fun hv => (iv_iC_cong (zC m' b' hm hb').2 (fun i h1 h2 => gcpy m' b' hm hb' hne i (by omega) h2) _).2 (x2 ((iv_iB_cong (zB b' hb').1.2 (gbox b' hb') _).1 hv))⟩
    · rw [mr_nD_cong (gdd m' hm' e _ (by omega) (by omega))] at hk
      have h8 := (zN m' hm').2
      refine (hDd m' hm' k hk).step (fun j hj => gdd m' hm' e _ (by unfold mx_DA; omega) (by unfold mx_DA; omega)) ?_
      intro b' eb' hb' h1 h2 x
      have hne : ¬ (m' = m ∧ b' = b) := fun z => e z.1
      rw [gcpy m' b' hm' hb' hne (mx_CA m' b') (by omega) (by omega), gbox b' hb' (98 * b' + 0) (by omega) (by omega)] at h2
      obtain ⟨x1, x2⟩ := x h2
      rw [gbox b' hb' (98 * b' + 1) (by omega) (by omega)]
      exact ⟨x1, fun hv => (iv_iC_cong (zC m' b' hm' hb').2 (fun i h1 h2 => gcpy m' b' hm' hb' hne i (by omega) h2) _).2 (x2 ((iv_iB_cong (zB b' hb').1.2 (gbox b' hb') _).1 hv))⟩
  · have hl : g 29400 = f 29400 := outf _ (by omega) (by omega)
    by_cases e : m' = m
    · subst e
      obtain ⟨y1, y2⟩ := hN m' hm
      unfold iv_N
      rw [gn, hl]
      refine ⟨fun k hk => ?_, fun i j hij hj => ?_⟩
      · obtain ⟨r1, r2⟩ := rows k hk
        have := r2 0 (by omega)
        rw [Nat.add_zero, Nat.add_zero] at this
        rw [this]
        exact y1 _ r1
      · obtain ⟨r1, r2⟩ := rows i (by omega)
        obtain ⟨r3, r4⟩ := rows j hj
        have e1 := r2 0 (by omega)
        have e2 := r4 0 (by omega)
        rw [Nat.add_zero, Nat.add_zero] at e1 e2
        rw [e1, e2]
        exact y2 _ _ (b6 _ _ (p1 _ _ hij)) r3
    · exact (hN m' hm').cong (zN m' hm').2 (fun i h1 h2 => gdd m' hm' e i (by omega) h2) hl
  · rw [outf 29400 (by omega) (by omega)]
    exact ⟨l0, l1⟩
  · refine ⟨fun b' hb' => ?_, fun m' b' hm' hb' => ?_, fun m' hm' => ?_, ?_, ?_⟩
    · unfold mx_bO mx_cB mx_gB
      rw [gbox b' hb' (98 * b' + 17) (by omega) (by omega), gbox b' hb' (98 * b' + 4) (by omega) (by omega)]
      exact zB b' hb'
    · by_cases e : m' = m ∧ b' = b
      · rw [e.1, e.2, gc, out _ (by omega)]
        exact ⟨o2, by omega⟩
      · have := gcpy m' b' hm' hb' e (mx_CA m' b' + 2) (by omega) (by omega)
        unfold mx_cC
        rw [this]
        exact zC m' b' hm' hb'
    · by_cases e : m' = m
      · subst e
        unfold mx_nO
        rw [gn]
        exact ⟨by rw [hD _ (by omega)]; exact c1, by omega⟩
      · unfold mx_nO mx_nD
        rw [gdd m' hm' e _ (by omega) (by omega)]
        exact zN m' hm'
    · have : mx_nQ g = C.2.2 := mr_nI_cl (by rw [hD _ (by omega)]; exact c2) (by omega)
      rw [this, hD _ (by omega)]; exact c2
    · have : mx_nQ g = C.2.2 := mr_nI_cl (by rw [hD _ (by omega)]; exact c2) (by omega)
      rw [this]; exact c4
  · have hle : ∀ m', m' < 4 → mx_nD g m' ≤ mx_nD f m' := fun m' hm' => by
      by_cases e : m' = m
      · rw [e, gn]; omega
      · rw [mr_nD_cong (gdd m' hm' e _ (by omega) (by omega))]; exact Nat.le_refl _
    have w0 := hle 0 (by omega); have w1 := hle 1 (by omega); have w2 := hle 2 (by omega); have w3 := hle 3 (by omega)
    unfold iv_s
    omega
end IV

