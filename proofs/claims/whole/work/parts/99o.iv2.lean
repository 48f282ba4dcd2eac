/-! ===== the boxes' changes keep it ===== -/
section IV
variable {f f' : Nat → Int32} {T T' K K' m b k : Nat}
theorem iv_B.asc (h : iv_B f T K b) : ∀ k, k < mx_cB f b → mx_nm f (98 * b + 17) k < f (98 * b + 1) := fun k hk => by
  rw [mz_ltI]
  exact (h.2.2.1 _ ⟨k, hk, rfl⟩).2
theorem iv_fl {fl : Int32} (h : 0 ≤ fl ∧ fl ≤ nI 63) : ∃ v, v < 64 ∧ fl = nI v := by
  obtain ⟨n, hn, e⟩ := mz_nat63 (by omega) h
  exact ⟨n, by omega, e⟩
theorem iv_ad_at (hb : b < 3) (hB : iv_B f T K b) (ct fl : Int32) : (mx_ad f b (mx_cB f b) ct fl (98 * b + 17) = nI (mx_cB f b + 1) ∧ mx_ad f b (mx_cB f b) ct fl (98 * b + 1) = f (98 * b + 1) + 1 ∧ mx_ad f b (mx_cB f b) ct fl (98 * b + 0) = f (98 * b + 0)) ∧ (∀ j c, j < mx_cB f b → c < 4 → mx_ad f b (mx_cB f b) ct fl (98 * b + 17 + 1 + 4 * j + c) = f (98 * b + 17 + 1 + 4 * j + c)) ∧ mx_ad f b (mx_cB f b) ct fl (98 * b + 17 + 1 + 4 * mx_cB f b) = f (98 * b + 1) ∧ mx_ad f b (mx_cB f b) ct fl (98 * b + 17 + 1 + 4 * mx_cB f b + 2) = fl := by
  rw [mr_ad f b (mx_cB f b) ct fl hB.asc]
  unfold mx_rw
  simp only [mz_u1]
  refine ⟨⟨?_, ?_, ?_⟩, fun j c hj hc => ?_, ?_, ?_⟩ <;> simp (disch := omega) only [if_pos, if_neg, and_self, if_true, and_true, true_and, and_false, false_and, if_false]
theorem iv_ad (h : iv T K f) (hZ : iv_Z f) (hb : b < 3) (h20 : mx_cB f b < 20) (hK : K < 1000) (ct fl : Int32) (hfl : ∃ v, v < 64 ∧ fl = nI v) : iv T (K + 1) (mx_ad f b (mx_cB f b) ct fl) := by
  have hB := h.1.1 b hb
  obtain ⟨⟨e17, e1, e0⟩, er, en, ef⟩ := iv_ad_at hb hB ct fl
  obtain ⟨⟨a1, a2⟩, ⟨b1, b2⟩, n, s, g⟩ := id hB
  have z1 : (f (98 * b + 1) + 1).toInt = (f (98 * b + 1)).toInt + 1 := iv_z1 (by omega) (by omega)
  have ec : mx_cB (mx_ad f b (mx_cB f b) ct fl) b = mx_cB f b + 1 := mr_nI_cl e17 (by omega)
  have hin : ∀ v, iv_iB (mx_ad f b (mx_cB f b) ct fl) b v → iv_iB f b v ∨ v = f (98 * b + 1) := by
    rintro v ⟨j, hj, e⟩
    rw [ec] at hj
    by_cases hl : j < mx_cB f b
    · exact Or.inl ⟨j, hl, by rw [← e]; exact (er j 0 hl (by omega)).symm⟩
    · rw [show j = mx_cB f b by omega] at e
      exact Or.inr (by rw [← e]; exact en)
  have hnm : ∀ j, j < mx_cB f b → mx_nm (mx_ad f b (mx_cB f b) ct fl) (98 * b + 17) j = mx_nm f (98 * b + 17) j := fun j hj => er j 0 hj (by omega)
  refine h.box hZ hb (fun i hi _ => mx_ad_o f ct fl h20 hi) (by omega) (by omega) ⟨⟨by rw [e1, z1]; omega, by rw [e1, z1]; omega⟩, ⟨by rw [e0]; exact b1, by rw [e0]; omega⟩, fun v hv => ?_, fun i j hij hj => ?_, fun j hj => ?_⟩ (Or.inl ⟨e0, by rw [e1, z1]; omega, fun v hv => ?_⟩)
  · rw [e1, z1]
    rcases hin v hv with q | q
    · have := n v q; omega
    · rw [q]; omega
  · rw [ec] at hj
    rw [hnm i (by omega)]
    by_cases hl : j < mx_cB f b
    · rw [hnm j hl]; exact s i j hij hl
    · rw [show j = mx_cB f b by omega]
      show _ < mx_ad f b (mx_cB f b) ct fl (98 * b + 17 + 1 + 4 * mx_cB f b)
      rw [en]
      exact hB.asc i (by omega)
  · rw [ec] at hj
    by_cases hl : j < mx_cB f b
    · obtain ⟨w, w1, w2⟩ := g j hl
      exact ⟨w, w1, (er j 2 hl (by omega)).trans w2⟩
    · rw [show j = mx_cB f b by omega, ef]
      exact hfl
  · rcases hin v hv with q | q
    · exact Or.inl q
    · exact Or.inr (by rw [q]; exact Int.le_refl _)
theorem iv_ch (h : iv T K f) (hZ : iv_Z f) (hb : b < 3) (hk : k < mx_cB f b) (fl : Int32) (hfl : ∃ v, v < 64 ∧ fl = nI v) : iv T K (mx_ch f b k fl) := by
  have hB := h.1.1 b hb
  have h20 := (hZ.1 b hb).1.2
  obtain ⟨a, e, n, s, g⟩ := id hB
  have e0 : mx_ch f b k fl (98 * b + 0) = f (98 * b + 0) := mx_ch_o _ _ _ _ (by omega) (by omega) (by omega)
  have e1 : mx_ch f b k fl (98 * b + 1) = f (98 * b + 1) := mx_ch_o _ _ _ _ (by omega) (by omega) (by omega)
  have ec : mx_cB (mx_ch f b k fl) b = mx_cB f b := iv_cB (mx_ch_o _ _ _ _ (by omega) (by omega) (by omega))
  have hnm : ∀ j, mx_nm (mx_ch f b k fl) (98 * b + 17) j = mx_nm f (98 * b + 17) j := fun j => mx_ch_o _ _ _ _ (by omega) (by omega) (by omega)
  have hin : ∀ v, iv_iB (mx_ch f b k fl) b v → iv_iB f b v := by
    rintro v ⟨j, hj, e⟩
    rw [ec] at hj
    exact ⟨j, hj, by rw [← e, hnm]⟩
  refine h.box hZ hb (fun i hi _ => mx_ch_o _ _ _ _ (by omega) (by omega) (by omega)) (by omega) (by omega) ⟨by rw [e1]; exact a, by rw [e0]; exact e, fun v hv => by rw [e1]; exact n v (hin v hv), by rw [ec]; exact iv_so_cong (fun j _ => hnm j) s, fun j hj => ?_⟩ (Or.inl ⟨e0, by rw [e1]; exact Int.le_refl _, fun v hv => Or.inl (hin v hv)⟩)
  rw [ec] at hj
  by_cases hjk : j = k
  · rw [hjk, mx_ch_f]; exact hfl
  · obtain ⟨w, w1, w2⟩ := g j hj
    exact ⟨w, w1, (mx_ch_o _ _ _ _ (by omega) (by omega) (by omega)).trans w2⟩
theorem iv_rm (h : iv T K f) (hZ : iv_Z f) (hb : b < 3) (hk : k < mx_cB f b) : iv T K (mx_rm f b (mx_cB f b) (mx_gB f b) k) ∧ (mx_cB (mx_rm f b (mx_cB f b) (mx_gB f b) k) b = mx_cB f b - 1 ∧ mx_gB (mx_rm f b (mx_cB f b) (mx_gB f b) k) b = mx_g1 (mx_gB f b)) ∧ ∀ v, iv_iB (mx_rm f b (mx_cB f b) (mx_gB f b) k) b v ↔ iv_iB f b v ∧ ¬ v = mx_nm f (98 * b + 17) k := by
  have hB := h.1.1 b hb
  obtain ⟨⟨-, h20⟩, -, h6⟩ := hZ.1 b hb
  obtain ⟨a, e, n, s, g⟩ := id hB
  obtain ⟨e0, e1, -, -⟩ := mr_rm_z f h20 h6 hk
  have ec : mx_cB (mx_rm f b (mx_cB f b) (mx_gB f b) k) b = mx_cB f b - 1 := mr_nI_cl (mx_rm_cnt f hb h20 h6 hk) (by omega)
  have eg : mx_gB (mx_rm f b (mx_cB f b) (mx_gB f b) k) b = mx_g1 (mx_gB f b) := mr_nI_cl (mx_rm_g f) (by unfold mx_g1; split <;> omega)
  have hnm : ∀ j, j < mx_cB f b - 1 → mx_nm (mx_rm f b (mx_cB f b) (mx_gB f b) k) (98 * b + 17) j = mx_nm f (98 * b + 17) (if j < k then j else j + 1) := fun j hj => by
    refine (mr_rm_m f h20 h6 hk j 0 hj (by omega)).trans ?_
    unfold mt_e
    split <;> rfl
  have hin : ∀ v, iv_iB (mx_rm f b (mx_cB f b) (mx_gB f b) k) b v ↔ iv_iB f b v ∧ ¬ v = mx_nm f (98 * b + 17) k := by
    intro v
    constructor
    · rintro ⟨j, hj, ej⟩
      rw [ec] at hj
      rw [hnm j hj] at ej
      refine ⟨⟨_, by split <;> omega, ej⟩, fun z => ?_⟩
      rw [z] at ej
      by_cases hjk : j < k
      · rw [if_pos hjk] at ej
        exact mz_lt_ne (s j k hjk hk) ej
      · rw [if_neg hjk] at ej
        exact mz_lt_ne (s k (j + 1) (by omega) (by omega)) ej.symm
    · rintro ⟨⟨j, hj, ej⟩, hne⟩
      by_cases hjk : j < k
      · exact ⟨j, by rw [ec]; omega, by rw [hnm j (by omega), if_pos hjk]; exact ej⟩
      · have : ¬ j = k := fun z => hne (by rw [← ej, z])
        refine ⟨j - 1, by rw [ec]; omega, ?_⟩
        rw [hnm (j - 1) (by omega), if_neg (by omega), show j - 1 + 1 = j by omega]
        exact ej
  refine ⟨h.box hZ hb (fun i hi _ => mx_rm_o f h20 h6 hk hi) (by omega) (by omega) ⟨by rw [e1]; exact a, by rw [e0]; exact e, fun v hv => by rw [e1]; exact n v ((hin v).1 hv).1, fun i j hij hj => ?_, by rw [ec]; exact mr_rm_fl h20 h6 hk g⟩ (Or.inl ⟨e0, by rw [e1]; exact Int.le_refl _, fun v hv => Or.inl ((hin v).1 hv).1⟩), ⟨ec, eg⟩, hin⟩
  rw [ec] at hj
  rw [hnm i (by omega), hnm j hj]
  refine s _ _ ?_ ?_
  · split <;> split <;> omega
  · split <;> omega
theorem iv_Z.box (hZ : iv_Z f) (hb : b < 3) (ho : ∀ i, (i < 98 * b ∨ 98 * b + 98 ≤ i) → i < 29401 → f' i = f i) (hbO : mx_bO f' b) : iv_Z f' := by
  obtain ⟨zB, zC, zN, zQ⟩ := hZ
  refine ⟨fun b' hb' => ?_, fun m b' hm hb' => ?_, fun m hm => ?_, ?_⟩
  · by_cases e : b' = b
    · rw [e]; exact hbO
    · unfold mx_bO mx_cB mx_gB
      rw [ho (98 * b' + 17) (by omega) (by omega), ho (98 * b' + 4) (by omega) (by omega)]
      exact zB b' hb'
  · have := ho (mx_CA m b' + 2) (by unfold mx_CA; omega) (by unfold mx_CA; omega)
    unfold mx_cC
    rw [this]
    exact zC m b' hm hb'
  · unfold mx_nO mx_nD
    rw [ho _ (by omega) (by omega)]
    exact zN m hm
  · unfold mx_qO mx_nQ
    rw [ho _ (by omega) (by omega)]
    exact zQ
theorem iv_rm_Z (hZ : iv_Z f) (hb : b < 3) (hk : k < mx_cB f b) (ec : mx_cB (mx_rm f b (mx_cB f b) (mx_gB f b) k) b = mx_cB f b - 1 ∧ mx_gB (mx_rm f b (mx_cB f b) (mx_gB f b) k) b = mx_g1 (mx_gB f b)) : iv_Z (mx_rm f b (mx_cB f b) (mx_gB f b) k) := by
  obtain ⟨⟨-, h20⟩, -, h6⟩ := hZ.1 b hb
  refine hZ.box hb (fun i hi _ => mx_rm_o f h20 h6 hk hi) ⟨⟨?_, ?_⟩, ?_, ?_⟩
  · rw [ec.1, mx_rm_cnt f hb h20 h6 hk]
  · rw [ec.1]; omega
  · rw [ec.2, mx_rm_g f]
  · rw [ec.2]; unfold mx_g1; split <;> omega
theorem iv_cl (hb : b < 3) : ∀ (d : Nat) (f : Nat → Int32) (k n : Nat), iv T K f → iv_Z f → k + d = mx_cB f b → iv T K (mx_cl d f b (mx_cB f b) (mx_gB f b) k n).1
  | 0, f, k, n, h, _, _ => h
  | d + 1, f, k, n, h, hZ, hk => by
    simp only [mx_cl]
    split
    · obtain ⟨h1, ⟨e1, e2⟩, -⟩ := iv_rm h hZ hb (show k < mx_cB f b by omega)
      have := iv_cl hb d _ k (n + 1) h1 (iv_rm_Z hZ hb (by omega) ⟨e1, e2⟩) (by rw [e1]; omega)
      rw [e1, e2] at this
      exact this
    · exact iv_cl hb d f (k + 1) n h hZ (by omega)
theorem iv_rl_nm (f : Nat → Int32) (L : Nat) (mk : Int32) : ∀ n j, j < n → mx_rl f L mk n (L + 1 + 4 * j) = nI (j + 1) ∧ mx_rl f L mk n (L + 1 + 4 * j + 2) = f (L + 1 + 4 * j + 2)
  | 0, j, h => absurd h (by omega)
  | n + 1, j, h => by
    simp only [mx_rl, mz_u1]
    by_cases e : j = n
    · subst e
      have := mx_rl_p f L mk (i := L + 1 + 4 * j + 2) j (by omega)
      simp (disch := omega) only [if_pos, if_neg, and_self, if_true, and_true, true_and, and_false, false_and, if_false]
      exact this
    · have := iv_rl_nm f L mk n j (by omega)
      simp (disch := omega) only [if_pos, if_neg, and_self, if_true, and_true, true_and, and_false, false_and, if_false]
      exact this
theorem iv_rn (h : iv T K f) (hZ : iv_Z f) (hb : b < 3) (hT : T < 1000) : iv (T + 1) K (mx_rn f b (mx_cB f b)) := by
  have hB := h.1.1 b hb
  obtain ⟨⟨-, h20⟩, -, h6⟩ := hZ.1 b hb
  obtain ⟨⟨a1, a2⟩, ⟨b1, b2⟩, n, s, g⟩ := id hB
  have z0 : (f (98 * b + 0) + 1).toInt = (f (98 * b + 0)).toInt + 1 := iv_z1 (by omega) (by omega)
  have e0 : mx_rn f b (mx_cB f b) (98 * b + 0) = f (98 * b + 0) + 1 := by
    unfold mx_rn
    simp only [mz_u1]
    simp (disch := omega) only [if_pos, if_neg, and_self, if_true, and_true, true_and, and_false, false_and, if_false]
    rw [mx_rl_p _ _ _ _ (by omega)]
    simp only [mz_u1]
    simp (disch := omega) only [if_pos, if_neg, and_self, if_true, and_true, true_and, and_false, false_and, if_false]
  have e1 : mx_rn f b (mx_cB f b) (98 * b + 1) = nI (mx_cB f b + 1) := by
    unfold mx_rn
    simp only [mz_u1]
    simp (disch := omega) only [if_pos, if_neg, and_self, if_true, and_true, true_and, and_false, false_and, if_false]
  have e17 : mx_rn f b (mx_cB f b) (98 * b + 17) = f (98 * b + 17) := by
    unfold mx_rn
    simp only [mz_u1]
    simp (disch := omega) only [if_pos, if_neg, and_self, if_true, and_true, true_and, and_false, false_and, if_false]
    rw [mx_rl_p _ _ _ _ (by omega)]
    simp only [mz_u1]
    simp (disch := omega) only [if_pos, if_neg, and_self, if_true, and_true, true_and, and_false, false_and, if_false]
  have ec : mx_cB (mx_rn f b (mx_cB f b)) b = mx_cB f b := iv_cB e17
  have hrow : ∀ j, j < mx_cB f b → mx_rn f b (mx_cB f b) (98 * b + 17 + 1 + 4 * j) = nI (j + 1) ∧ mx_rn f b (mx_cB f b) (98 * b + 17 + 1 + 4 * j + 2) = f (98 * b + 17 + 1 + 4 * j + 2) := by
    intro j hj
    unfold mx_rn
    simp only [mz_u1]
    simp (disch := omega) only [if_pos, if_neg, and_self, if_true, and_true, true_and, and_false, false_and, if_false]
    obtain ⟨q1, q2⟩ := iv_rl_nm (mz_u1 (mz_u1 f (98 * b + 0) (f (98 * b + 0) + 1)) (98 * b + 2) (f (98 * b + 2) + 1)) (98 * b + 17) (f (98 * b + 2) + 1) (mx_cB f b) j hj
    refine ⟨q1, q2.trans ?_⟩
    simp only [mz_u1]
    simp (disch := omega) only [if_pos, if_neg, and_self, if_true, and_true, true_and, and_false, false_and, if_false]
  have zn : ∀ j, j < 1000 → (nI j).toInt = j := fun j hj => nI_toInt (by omega)
  -- how many names there are
  have hcnt : (mx_cB f b : Int) + 1 ≤ (f (98 * b + 1)).toInt := by
    have : ∀ j, j < mx_cB f b → (j : Int) + 1 ≤ (mx_nm f (98 * b + 17) j).toInt := by
      intro j
      induction j with
      | zero => intro hj; have := (n _ ⟨0, hj, rfl⟩).1; omega
      | succ j ih =>
        intro hj
        have h1 := ih (by omega)
        have h2 := s j (j + 1) (by omega) hj
        rw [mz_ltI] at h2
        omega
    by_cases hc : mx_cB f b = 0
    · rw [hc]; omega
    · have h1 := this (mx_cB f b - 1) (by omega)
      have h2 := (n _ ⟨mx_cB f b - 1, by omega, rfl⟩).2
      omega
  refine h.box hZ hb (fun i hi _ => mx_rn_o f h20 hi) (by omega) (Nat.le_refl _) ⟨⟨by rw [e1, zn _ (by omega)]; omega, by rw [e1, zn _ (by omega)]; omega⟩, ⟨by rw [e0, z0]; omega, by rw [e0, z0]; omega⟩, ?_, ?_, ?_⟩ (Or.inr (by rw [e0, z0]; omega))
  · rintro v ⟨j, hj, ej⟩
    rw [ec] at hj
    rw [e1, zn _ (by omega), ← ej, show mx_nm (mx_rn f b (mx_cB f b)) (98 * b + 17) j = nI (j + 1) from (hrow j hj).1, zn _ (by omega)]
    omega
  · intro i j hij hj
    rw [ec] at hj
    rw [show mx_nm (mx_rn f b (mx_cB f b)) (98 * b + 17) j = nI (j + 1) from (hrow j hj).1, show mx_nm (mx_rn f b (mx_cB f b)) (98 * b + 17) i = nI (i + 1) from (hrow i (by omega)).1]
    exact nI_lt (by omega) (by omega)
  · intro j hj
    rw [ec] at hj
    rw [(hrow j hj).2]
    exact g j hj
end IV

