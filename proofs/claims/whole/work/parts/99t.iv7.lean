/-! ===== deeds planned and taken back; all calls keep it ===== -/
section IV
variable {f f' : Nat → Int32} {T T' K K' m b k : Nat}
theorem iv_D.same {k' : Nat} (hD : iv_D f m k) (hZ : iv_Z f) (hm : m < 4) (hr : ∀ j, j < 4 → f' (mx_DA m k' + j) = f (mx_DA m k + j)) (h4 : ∃ v, v < 64 ∧ f' (mx_DA m k' + 4) = nI v) (ho : ∀ i, i < 294 ∨ (526 ≤ i ∧ i < 29362) → f' i = f i) : iv_D f' m k' := by
  obtain ⟨⟨⟨d1, d2⟩, kd⟩, fl, x⟩ := hD
  have e2 : mx_dB f' (mx_DA m k') = mx_dB f (mx_DA m k) := by unfold mx_dB; rw [hr 2 (by omega)]
  obtain ⟨zB, zC, zN, -⟩ := hZ
  have hiB := fun v => iv_iB_cong (f' := f') (zB _ d1).1.2 (fun i h1 h2 => ho i (by omega)) v
  have hiC := fun v => iv_iC_cong (f' := f') (m := m) (zC m _ hm d1).2 (fun i h1 h2 => ho i (by unfold mx_CA at *; omega)) v
  unfold iv_D
  rw [e2, hr 1 (by omega), hr 2 (by omega), hr 3 (by omega), ho (mx_CA m (mx_dB f (mx_DA m k))) (by unfold mx_CA; omega), ho (98 * mx_dB f (mx_DA m k) + 0) (by omega), ho (98 * mx_dB f (mx_DA m k) + 1) (by omega)]
  exact ⟨⟨⟨d1, d2⟩, kd⟩, h4, fun h1 h2 => ⟨(x h1 h2).1, fun hv => (hiC _).2 ((x h1 h2).2 ((hiB _).1 hv))⟩⟩
/-- one machine's deeds changed -/
theorem iv.deeds (h : iv T K f) (hZ : iv_Z f) (hm : m < 4) (hT : T ≤ T') (ho : ∀ i, ¬ (294 + 58 * m + 1 ≤ i ∧ i < 294 + 58 * m + 58) → ¬ i = 29400 → f' i = f i) (hl : (f 29400).toInt ≤ (f' 29400).toInt ∧ (f' 29400).toInt ≤ T') (hn : mx_nO f' m) (hD' : ∀ k, k < mx_nD f' m → iv_D f' m k) (hN' : iv_N f' T' m) : iv T' K f' ∧ iv_Z f' := by
  obtain ⟨⟨hB, hC⟩, ⟨hD, hN⟩, l0, l1⟩ := h
  have hZ0 := hZ
  obtain ⟨zB, zC, zN, zQ⟩ := hZ
  have gbox : ∀ b', b' < 3 → ∀ i, 98 * b' ≤ i → i < 98 * b' + 98 → f' i = f i := fun b' hb' i h1 h2 => ho i (by omega) (by omega)
  have gcpy : ∀ m' b', m' < 4 → b' < 3 → ∀ i, mx_CA m' b' ≤ i → i < mx_CA m' b' + 2403 → f' i = f i := fun m' b' hm' hb' i h1 h2 => ho i (by unfold mx_CA at *; omega) (by unfold mx_CA at *; omega)
  have gdd : ∀ m', m' < 4 → ¬ m' = m → ∀ i, 294 + 58 * m' ≤ i → i < 294 + 58 * m' + 58 → f' i = f i := fun m' hm' hne i h1 h2 => ho i (by omega) (by omega)
  refine ⟨⟨⟨fun b' hb' => ((hB b' hb').mono hT (Nat.le_refl _)).cong (zB b' hb').1.2 (gbox b' hb'), fun m' b' hm' hb' => ((hC m' b' hm' hb').mono hT).step (zC m' b' hm' hb').2 (gcpy m' b' hm' hb') (Or.inl ⟨gbox b' hb' _ (by omega) (by omega), by rw [gbox b' hb' (98 * b' + 1) (by omega) (by omega)]; exact Int.le_refl _⟩)⟩, ⟨fun m' hm' k hk => ?_, fun m' hm' => ?_⟩, by omega, hl.2⟩, fun b' hb' => ?_, fun m' b' hm' hb' => ?_, fun m' hm' => ?_, ?_⟩
  · by_cases e : m' = m
    · subst e; exact hD' k hk
    · rw [mr_nD_cong (gdd m' hm' e _ (by omega) (by omega))] at hk
      have h8 := (zN m' hm').2
      have hr : ∀ j, j < 7 → f' (mx_DA m' k + j) = f (mx_DA m' k + j) := fun j hj => gdd m' hm' e _ (by unfold mx_DA; omega) (by unfold mx_DA; omega)
      refine (hD m' hm' k hk).same hZ0 hm' (fun j hj => hr j (by omega)) (by rw [hr 4 (by omega)]; exact (hD m' hm' k hk).2.1) (fun i hi => ho i (by omega) (by omega))
  · by_cases e : m' = m
    · subst e; exact hN'
    · obtain ⟨y1, y2⟩ := hN m' hm'
      have h8 := (zN m' hm').2
      have er : ∀ k, k < mx_nD f m' → f' (mx_DA m' k) = f (mx_DA m' k) := fun k hk => gdd m' hm' e _ (by unfold mx_DA; omega) (by unfold mx_DA; omega)
      unfold iv_N
      rw [mr_nD_cong (gdd m' hm' e _ (by omega) (by omega))]
      exact ⟨fun k hk => by rw [er k hk]; have := y1 k hk; omega, fun i j hij hj => by rw [er i (by omega), er j hj]; exact y2 i j hij hj⟩
  · unfold mx_bO mx_cB mx_gB
    rw [gbox b' hb' (98 * b' + 17) (by omega) (by omega), gbox b' hb' (98 * b' + 4) (by omega) (by omega)]
    exact zB b' hb'
  · have := gcpy m' b' hm' hb' (mx_CA m' b' + 2) (by omega) (by omega)
    unfold mx_cC
    rw [this]
    exact zC m' b' hm' hb'
  · by_cases e : m' = m
    · subst e; exact hn
    · unfold mx_nO mx_nD
      rw [gdd m' hm' e _ (by omega) (by omega)]
      exact zN m' hm'
  · unfold mx_qO mx_nQ
    rw [ho 29362 (by omega) (by omega)]
    exact zQ
theorem iv_bg (h : iv T K f) (hZ : iv_Z f) (hT : T < 512) (hm : m < 4) (hb : b < 3) (h8 : mx_nD f m < 8) (kind name on off ct : Int32) (hkd : kind = nI 0 ∨ kind = nI 1 ∨ kind = nI 2) (hon : ∃ v, v < 64 ∧ on = nI v) (hx : ¬ kind = nI 1 → iv_iC f m b name) : (iv (T + 1) K (mx_bg f m (mx_nD f m) kind (nI b) name on off ct) ∧ iv_Z (mx_bg f m (mx_nD f m) kind (nI b) name on off ct)) ∧ iv_s (mx_bg f m (mx_nD f m) kind (nI b) name on off ct) = iv_s f + 1 := by
  obtain ⟨n, hn⟩ : ∃ n, n = mx_nD f m := ⟨_, rfl⟩
  rw [← hn] at h8 ⊢
  obtain ⟨g, hg⟩ : ∃ g, g = mx_bg f m n kind (nI b) name on off ct := ⟨_, rfl⟩
  have gN : mx_nD g m = n + 1 := by rw [hg]; exact mx_bg_n f h8 kind (nI b) name on off ct
  have gl : g 29400 = f 29400 + 1 := by
    rw [hg]; unfold mx_bg mx_DA; simp only [mz_u1]; simp (disch := omega) only [if_pos, if_neg, and_self, if_true, and_true, true_and, and_false, false_and, if_false]
  have go : ∀ i, ¬ (294 + 58 * m + 1 = i ∨ (mx_DA m n ≤ i ∧ i < mx_DA m n + 7)) → ¬ i = 29400 → g i = f i := fun i h1 h2 => by
    rw [hg]; unfold mx_bg; simp only [mz_u1]; simp (disch := omega) only [if_pos, if_neg, and_self, if_true, and_true, true_and, and_false, false_and, if_false]
  have r0 : g (mx_DA m n) = f 29400 + 1 := by rw [hg]; unfold mx_bg mx_DA; simp only [mz_u1]; simp (disch := omega) only [if_pos, if_neg, and_self, if_true, and_true, true_and, and_false, false_and, if_false]
  have r1 : g (mx_DA m n + 1) = kind := by rw [hg]; unfold mx_bg mx_DA; simp only [mz_u1]; simp (disch := omega) only [if_pos, if_neg, and_self, if_true, and_true, true_and, and_false, false_and, if_false]
  have r2 : g (mx_DA m n + 2) = nI b := by rw [hg]; unfold mx_bg mx_DA; simp only [mz_u1]; simp (disch := omega) only [if_pos, if_neg, and_self, if_true, and_true, true_and, and_false, false_and, if_false]
  have r3 : g (mx_DA m n + 3) = name := by rw [hg]; unfold mx_bg mx_DA; simp only [mz_u1]; simp (disch := omega) only [if_pos, if_neg, and_self, if_true, and_true, true_and, and_false, false_and, if_false]
  have r4 : g (mx_DA m n + 4) = on := by rw [hg]; unfold mx_bg mx_DA; simp only [mz_u1]; simp (disch := omega) only [if_pos, if_neg, and_self, if_true, and_true, true_and, and_false, false_and, if_false]
  have l0 := h.2.2
  have z1 : (f 29400 + 1).toInt = (f 29400).toInt + 1 := iv_z1 (by omega) (by omega)
  have hdn : mx_DA m n = 294 + 58 * m + 2 + 7 * n := rfl
  have old : ∀ k, k < n → ∀ j, j < 7 → g (mx_DA m k + j) = f (mx_DA m k + j) := fun k hk j hj => go _ (by unfold mx_DA; omega) (by unfold mx_DA; omega)
  have gob : ∀ i, i < 294 ∨ (526 ≤ i ∧ i < 29362) → g i = f i := fun i hi => go i (by omega) (by omega)
  rw [← hg]
  have key := h.deeds (f' := g) hZ hm (show T ≤ T + 1 by omega) (fun i h1 h2 => go i (by omega) h2) (by rw [gl, z1]; omega) ?_ ?_ ?_
  · refine ⟨key, ?_⟩
    have no : ∀ m', m' < 4 → ¬ m' = m → mx_nD g m' = mx_nD f m' := fun m' hm' hne => mr_nD_cong (go _ (by omega) (by omega))
    unfold iv_s
    rcases (show m = 0 ∨ m = 1 ∨ m = 2 ∨ m = 3 by omega) with rfl | rfl | rfl | rfl
    · rw [gN, no 1 (by omega) (by omega), no 2 (by omega) (by omega), no 3 (by omega) (by omega)]; omega
    · rw [gN, no 0 (by omega) (by omega), no 2 (by omega) (by omega), no 3 (by omega) (by omega)]; omega
    · rw [gN, no 0 (by omega) (by omega), no 1 (by omega) (by omega), no 3 (by omega) (by omega)]; omega
    · rw [gN, no 0 (by omega) (by omega), no 1 (by omega) (by omega), no 2 (by omega) (by omega)]; omega
  · unfold mx_nO
    rw [gN]
    refine ⟨?_, by omega⟩
    rw [hg]; unfold mx_bg; exact mz_u1_s _ _ _
  · intro k hk
    rw [gN] at hk
    by_cases e : k < n
    · exact (h.2.1.1 m hm k (by omega)).same hZ hm (fun j hj => old k e j (by omega)) (by rw [old k e 4 (by omega)]; exact (h.2.1.1 m hm k (by omega)).2.1) gob
    · obtain rfl : k = n := by omega
      have eb : mx_dB g (mx_DA m k) = b := by unfold mx_dB; rw [r2]; exact nI_clamp (by omega)
      unfold iv_D
      rw [eb, r1, r2, r3, r4]
      refine ⟨⟨⟨hb, rfl⟩, hkd⟩, hon, fun q1 q2 => ?_⟩
      rw [gob (mx_CA m b) (by unfold mx_CA; omega), gob (98 * b + 0) (by omega)] at q2
      rw [gob (98 * b + 1) (by omega)]
      have hin := hx q1
      exact ⟨(h.1.2 m b hm hb).2.2.2 q2 _ hin, fun _ => (iv_iC_cong (f' := g) (hZ.2.1 m b hm hb).2 (fun i h1 h2 => gob i (by unfold mx_CA at *; omega)) _).2 hin⟩
  · obtain ⟨y1, y2⟩ := h.2.1.2 m hm
    unfold iv_N
    rw [gN, gl, z1]
    have er : ∀ k, k < n → g (mx_DA m k) = f (mx_DA m k) := fun k hk => old k hk 0 (by omega)
    refine ⟨fun k hk => ?_, fun i j hij hj => ?_⟩
    · by_cases e : k < n
      · rw [er k e]; have := y1 k (by omega); omega
      · rw [show k = n by omega, r0, z1]; omega
    · by_cases e : j < n
      · rw [er i (by omega), er j e]; exact y2 i j hij (by omega)
      · rw [show j = n by omega, r0, er i (by omega), mz_ltI, z1]
        have := y1 i (by omega); omega
theorem iv_pl (h : iv T K f) (hZ : iv_Z f) (hT : T < 512) (hm : m < 4) (hb : b < 3) (name on off : Int32) (h8 : mz_fp (mx_dp f m 0 (nI b) name) (mx_nD f m) = none → mx_nD f m < 8) (hon : ∃ v, v < 64 ∧ on = nI v) (hx : iv_iC f m b name) : (iv (T + 1) K (mx_pl f m b (mx_nD f m) name on off).1 ∧ iv_Z (mx_pl f m b (mx_nD f m) name on off).1) ∧ iv_s (mx_pl f m b (mx_nD f m) name on off).1 ≤ iv_s f + 1 := by
  unfold mx_pl
  rcases mz_sor (mz_fp (mx_dp f m 0 (nI b) name) (mx_nD f m)) with q | ⟨j, q⟩
  · rw [q]
    obtain ⟨a, e⟩ := iv_bg h hZ hT hm hb (h8 q) 0 name on off (-1) (Or.inl rfl) hon (fun _ => hx)
    exact ⟨a, by dsimp only; omega⟩
  · rw [q]
    dsimp only
    obtain ⟨hj, -⟩ := mz_fp_some q
    have n8 := (hZ.2.2.1 m hm).2
    obtain ⟨g, hg⟩ : ∃ g, g = mz_u1 (mz_u1 f (mx_DA m j + 4) ((f (mx_DA m j + 4) &&& (off ^^^ -1)) ||| on)) (mx_DA m j + 5) ((f (mx_DA m j + 5) &&& (on ^^^ -1)) ||| off) := ⟨_, rfl⟩
    have go : ∀ i, ¬ i = mx_DA m j + 4 → ¬ i = mx_DA m j + 5 → g i = f i := fun i h1 h2 => by rw [hg, mz_u1_o _ _ h2, mz_u1_o _ _ h1]
    have g4 : g (mx_DA m j + 4) = (f (mx_DA m j + 4) &&& (off ^^^ -1)) ||| on := by rw [hg, mz_u1_o _ _ (by omega), mz_u1_s]
    have hdj : mx_DA m j = 294 + 58 * m + 2 + 7 * j := rfl
    have gN : mx_nD g m = mx_nD f m := mr_nD_cong (go _ (by omega) (by omega))
    have gl : g 29400 = f 29400 := go _ (by omega) (by omega)
    rw [← hg]
    have l0 := h.2.2
    have rr : ∀ k j', j' < 4 → g (mx_DA m k + j') = f (mx_DA m k + j') := fun k j' hj' => go _ (by unfold mx_DA; omega) (by unfold mx_DA; omega)
    have key := h.deeds (f' := g) hZ hm (show T ≤ T + 1 by omega) (fun i h1 h2 => go i (by omega) (by omega)) (by rw [gl]; omega) ?_ ?_ ?_
    · refine ⟨key, ?_⟩
      rw [iv_s_cong (f := f) (f' := g) (fun m' hm' => go _ (by omega) (by omega))]
      omega
    · unfold mx_nO
      rw [gN, go _ (by omega) (by omega)]
      exact hZ.2.2.1 m hm
    · intro k hk
      rw [gN] at hk
      refine (h.2.1.1 m hm k hk).same hZ hm (fun j' hj' => rr k j' hj') ?_ (fun i hi => go i (by omega) (by omega))
      by_cases e : k = j
      · rw [e, g4]
        exact iv_mix (h.2.1.1 m hm j hj).2.1 hon
      · rw [go _ (by unfold mx_DA; omega) (by unfold mx_DA; omega)]
        exact (h.2.1.1 m hm k hk).2.1
    · obtain ⟨y1, y2⟩ := h.2.1.2 m hm
      unfold iv_N
      rw [gN, gl]
      have er : ∀ k, g (mx_DA m k) = f (mx_DA m k) := fun k => rr k 0 (by omega)
      exact ⟨fun k hk => by rw [er k]; exact y1 k hk, fun i j hij hj => by rw [er i, er j]; exact y2 i j hij hj⟩
theorem iv_dd (h : iv T K f) (hZ : iv_Z f) (hm : m < 4) {j : Nat} (hj : j < mx_nD f m) : (iv T K (mx_dd f m (mx_nD f m) j) ∧ iv_Z (mx_dd f m (mx_nD f m) j)) ∧ iv_s (mx_dd f m (mx_nD f m) j) ≤ iv_s f := by
  obtain ⟨n, hn⟩ : ∃ n, n = mx_nD f m := ⟨_, rfl⟩
  have n8 := (hZ.2.2.1 m hm).2
  rw [← hn] at hj n8 ⊢
  obtain ⟨g, hg⟩ : ∃ g, g = mx_dd f m n j := ⟨_, rfl⟩
  have go : ∀ i, ¬ (294 + 58 * m + 1 ≤ i ∧ i < 294 + 58 * m + 58) → g i = f i := fun i hi => by rw [hg]; exact mr_dd_o f n8 hj hi
  have en : g (294 + 58 * m + 1) = nI (n - 1) := by rw [hg]; exact mx_dd_n f m n j
  have gN : mx_nD g m = n - 1 := mr_nI_cl en (by omega)
  have rr : ∀ i j', i < n - 1 → j' < 7 → g (mx_DA m i + j') = f (mx_DA m (if i < j then i else i + 1) + j') := fun i j' hi hj' => by
    have e1 := mr_dd_m f (m := m) (n := n) (k := j) n8 hj i j' hi hj'
    rw [hg, show mx_DA m i + j' = 294 + 58 * m + 1 + 1 + 7 * i + j' by unfold mx_DA; omega, e1]
    unfold mt_e
    split <;> rw [mr_DA]
  have gl : g 29400 = f 29400 := go _ (by omega)
  rw [← hg]
  have l0 := h.2.2
  have key := h.deeds (f' := g) hZ hm (Nat.le_refl T) (fun i h1 h2 => go i h1) (by rw [gl]; omega) ⟨by rw [gN]; exact en, by omega⟩ ?_ ?_
  · refine ⟨key, ?_⟩
    have hle : ∀ m', m' < 4 → mx_nD g m' ≤ mx_nD f m' := fun m' hm' => by
      by_cases e : m' = m
      · rw [e, gN]; omega
      · rw [mr_nD_cong (go (294 + 58 * m' + 1) (by omega))]; exact Nat.le_refl _
    have w0 := hle 0 (by omega); have w1 := hle 1 (by omega); have w2 := hle 2 (by omega); have w3 := hle 3 (by omega)
    unfold iv_s
    omega
  · intro k hk
    rw [gN] at hk
    have hlt : (if k < j then k else k + 1) < mx_nD f m := by split <;> omega
    refine (h.2.1.1 m hm _ hlt).same hZ hm (fun j' hj' => rr k j' hk (by omega)) (by rw [rr k 4 hk (by omega)]; exact (h.2.1.1 m hm _ hlt).2.1) (fun i hi => go i (by omega))
  · obtain ⟨y1, y2⟩ := h.2.1.2 m hm
    unfold iv_N
    rw [gN, gl]
    have er : ∀ k, k < n - 1 → g (mx_DA m k) = f (mx_DA m (if k < j then k else k + 1)) := fun k hk => rr k 0 hk (by omega)
    refine ⟨fun k hk => by rw [er k hk]; exact y1 _ (by split <;> omega), fun i j' hij hj' => ?_⟩
    rw [er i (by omega), er j' hj']
    exact y2 _ _ (by split <;> split <;> omega) (by split <;> omega)
end IV

