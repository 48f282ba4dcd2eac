/-! ===== playing a deed keeps it ===== -/
section IV
variable {f f' : Nat → Int32} {T T' K K' m b k : Nat}
theorem iv_B.eq (hB : iv_B f T K b) (hZ : mx_cB f b ≤ 20) (h : ∀ i, i < 294 → f' i = f i) (hb : b < 3) : iv_B f' T K b := hB.cong hZ (fun i h1 h2 => h i (by omega))
/-- one copy's list changed -/
theorem iv.copy (h : iv T K f) (hZ : iv_Z f) (hm : m < 4) (hb : b < 3) (ho : ∀ i, ¬ (mx_CA m b + 2 ≤ i ∧ i < mx_CA m b + 2403) → i < 29401 → f' i = f i) (hC' : iv_C f' T m b) (hs : f (mx_CA m b) = f (98 * b + 0) → ∀ v, iv_iB f b v → iv_iC f m b v → iv_iC f' m b v) : iv T K f' := by
  obtain ⟨⟨hB, hC⟩, ⟨hD, hN⟩, l0, l1⟩ := h
  obtain ⟨zB, zC, zN, -⟩ := hZ
  have hCA : 526 ≤ mx_CA m b ∧ mx_CA m b + 2403 ≤ 29362 := by unfold mx_CA; omega
  have gbox : ∀ b', b' < 3 → ∀ i, 98 * b' ≤ i → i < 98 * b' + 98 → f' i = f i := fun b' hb' i h1 h2 => ho i (by omega) (by omega)
  have gcpy : ∀ m' b', m' < 4 → b' < 3 → ¬ (m' = m ∧ b' = b) → ∀ i, mx_CA m' b' ≤ i → i < mx_CA m' b' + 2403 → f' i = f i := fun m' b' hm' hb' hne i h1 h2 => ho i (by unfold mx_CA at *; omega) (by unfold mx_CA at *; omega)
  have gdd : ∀ m', m' < 4 → ∀ i, 294 + 58 * m' ≤ i → i < 294 + 58 * m' + 58 → f' i = f i := fun m' hm' i h1 h2 => ho i (by omega) (by omega)
  have gera : f' (mx_CA m b) = f (mx_CA m b) := ho _ (by omega) (by omega)
  refine ⟨⟨fun b' hb' => (hB b' hb').cong (zB b' hb').1.2 (gbox b' hb'), fun m' b' hm' hb' => ?_⟩, ⟨fun m' hm' k hk => ?_, fun m' hm' => ?_⟩, ?_⟩
  · by_cases e : m' = m ∧ b' = b
    · rw [e.1, e.2]; exact hC'
    · exact (hC m' b' hm' hb').step (zC m' b' hm' hb').2 (gcpy m' b' hm' hb' e) (Or.inl ⟨gbox b' hb' _ (by omega) (by omega), by rw [gbox b' hb' (98 * b' + 1) (by omega) (by omega)]; exact Int.le_refl _⟩)
  · rw [mr_nD_cong (gdd m' hm' _ (by omega) (by omega))] at hk
    have h8 := (zN m' hm').2
    refine (hD m' hm' k hk).step (fun j hj => gdd m' hm' _ (by unfold mx_DA; omega) (by unfold mx_DA; omega)) ?_
    intro b' eb' hb' h1 h2 x
    rw [gbox b' hb' (98 * b' + 0) (by omega) (by omega)] at h2
    rw [gbox b' hb' (98 * b' + 1) (by omega) (by omega)]
    have hiB := fun v => iv_iB_cong (zB b' hb').1.2 (gbox b' hb') v
    by_cases e : m' = m ∧ b' = b
    · obtain ⟨rfl, rfl⟩ := e
      rw [gera] at h2
      obtain ⟨x1, x2⟩ := x h2
      exact ⟨x1, fun hv => hs h2 _ ((hiB _).1 hv) (x2 ((hiB _).1 hv))⟩
    · rw [gcpy m' b' hm' hb' e (mx_CA m' b') (by omega) (by omega)] at h2
      obtain ⟨x1, x2⟩ := x h2
      exact ⟨x1, fun hv => (iv_iC_cong (zC m' b' hm' hb').2 (fun i h1 h2 => gcpy m' b' hm' hb' e i (by omega) h2) _).2 (x2 ((hiB _).1 hv))⟩
  · exact (hN m' hm').cong (zN m' hm').2 (fun i h1 h2 => gdd m' hm' i (by omega) h2) (ho _ (by omega) (by omega))
  · rw [ho 29400 (by omega) (by omega)]
    exact ⟨l0, l1⟩
theorem iv_Z.copy (hZ : iv_Z f) (hm : m < 4) (hb : b < 3) (ho : ∀ i, ¬ (mx_CA m b + 2 ≤ i ∧ i < mx_CA m b + 2403) → i < 29401 → f' i = f i) (hc : f' (mx_CA m b + 2) = nI (mx_cC f' m b) ∧ mx_cC f' m b ≤ 532) : iv_Z f' := by
  obtain ⟨zB, zC, zN, zQ⟩ := hZ
  have hCA : 526 ≤ mx_CA m b ∧ mx_CA m b + 2403 ≤ 29362 := by unfold mx_CA; omega
  refine ⟨fun b' hb' => ?_, fun m' b' hm' hb' => ?_, fun m' hm' => ?_, ?_⟩
  · unfold mx_bO mx_cB mx_gB
    rw [ho (98 * b' + 17) (by omega) (by omega), ho (98 * b' + 4) (by omega) (by omega)]
    exact zB b' hb'
  · by_cases e : m' = m ∧ b' = b
    · rw [e.1, e.2]; exact hc
    · have := ho (mx_CA m' b' + 2) (by unfold mx_CA; omega) (by unfold mx_CA; omega)
      unfold mx_cC
      rw [this]
      exact zC m' b' hm' hb'
  · unfold mx_nO mx_nD
    rw [ho _ (by omega) (by omega)]
    exact zN m' hm'
  · unfold mx_qO mx_nQ
    rw [ho _ (by omega) (by omega)]
    exact zQ
/-- numbers that don't matter: what is noted and told, the marks of the copies, the policies -/
theorem iv.cong (h : iv T K f) (hZ : iv_Z f) (ho : ∀ i, (i < 29362 ∨ i = 29400) → (∀ m b, m < 4 → b < 3 → ¬ i = mx_CA m b + 1) → (∀ m, m < 4 → ¬ i = 294 + 58 * m) → f' i = f i) : iv T K f' := by
  obtain ⟨⟨hB, hC⟩, ⟨hD, hN⟩, l0, l1⟩ := h
  obtain ⟨zB, zC, zN, -⟩ := hZ
  have gbox : ∀ b', b' < 3 → ∀ i, 98 * b' ≤ i → i < 98 * b' + 98 → f' i = f i := fun b' hb' i h1 h2 => ho i (by omega) (fun m b _ _ z => by unfold mx_CA at z; omega) (fun m _ z => by omega)
  have gera : ∀ m' b', m' < 4 → b' < 3 → f' (mx_CA m' b') = f (mx_CA m' b') := fun m' b' hm' hb' => ho _ (by unfold mx_CA; omega) (fun m b _ _ z => by unfold mx_CA at z; omega) (fun m _ z => by unfold mx_CA at z; omega)
  have gcpy : ∀ m' b', m' < 4 → b' < 3 → ∀ i, mx_CA m' b' + 2 ≤ i → i < mx_CA m' b' + 2403 → f' i = f i := fun m' b' hm' hb' i h1 h2 => ho i (by unfold mx_CA at *; omega) (fun m b _ _ z => by unfold mx_CA at *; omega) (fun m _ z => by unfold mx_CA at *; omega)
  have gdd : ∀ m', m' < 4 → ∀ i, 294 + 58 * m' + 1 ≤ i → i < 294 + 58 * m' + 58 → f' i = f i := fun m' hm' i h1 h2 => ho i (by omega) (fun m b _ _ z => by unfold mx_CA at z; omega) (fun m _ z => by omega)
  have hl : f' 29400 = f 29400 := ho _ (by omega) (fun m b _ _ z => by unfold mx_CA at z; omega) (fun m _ z => by omega)
  refine ⟨⟨fun b' hb' => (hB b' hb').cong (zB b' hb').1.2 (gbox b' hb'), fun m' b' hm' hb' => ?_⟩, ⟨fun m' hm' k hk => ?_, fun m' hm' => ?_⟩, ?_⟩
  · obtain ⟨a, s, n, e⟩ := hC m' b' hm' hb'
    have hi := fun v => iv_iC_cong (zC m' b' hm' hb').2 (gcpy m' b' hm' hb') v
    unfold iv_C
    rw [gera m' b' hm' hb', gbox b' hb' (98 * b' + 0) (by omega) (by omega), gbox b' hb' (98 * b' + 1) (by omega) (by omega), mr_cC_cong (gcpy m' b' hm' hb' _ (by omega) (by omega))]
    have z532 := (zC m' b' hm' hb').2
    exact ⟨a, iv_so_cong (fun j hj => gcpy m' b' hm' hb' _ (by omega) (by omega)) s, fun v hv => n v ((hi v).1 hv), fun he v hv => e he v ((hi v).1 hv)⟩
  · rw [mr_nD_cong (gdd m' hm' _ (by omega) (by omega))] at hk
    have h8 := (zN m' hm').2
    refine (hD m' hm' k hk).step (fun j hj => gdd m' hm' _ (by unfold mx_DA; omega) (by unfold mx_DA; omega)) ?_
    intro b' eb' hb' h1 h2 x
    rw [gera m' b' hm' hb', gbox b' hb' (98 * b' + 0) (by omega) (by omega)] at h2
    rw [gbox b' hb' (98 * b' + 1) (by omega) (by omega)]
    obtain ⟨x1, x2⟩ := x h2
    exact ⟨x1, fun hv => (iv_iC_cong (zC m' b' hm' hb').2 (gcpy m' b' hm' hb') _).2 (x2 ((iv_iB_cong (zB b' hb').1.2 (gbox b' hb') _).1 hv))⟩
  · exact (hN m' hm').cong (zN m' hm').2 (gdd m' hm') hl
  · rw [hl]
    exact ⟨l0, l1⟩
theorem iv_Z.cong (hZ : iv_Z f) (ho : ∀ i, i < 29362 → (∀ m b, m < 4 → b < 3 → ¬ i = mx_CA m b + 1) → (∀ m, m < 4 → ¬ i = 294 + 58 * m) → f' i = f i) (hq : mx_qO f') : iv_Z f' := by
  obtain ⟨zB, zC, zN, -⟩ := hZ
  refine ⟨fun b' hb' => ?_, fun m' b' hm' hb' => ?_, fun m' hm' => ?_, hq⟩
  · unfold mx_bO mx_cB mx_gB
    rw [ho (98 * b' + 17) (by omega) (fun m b _ _ z => by unfold mx_CA at z; omega) (fun m _ z => by omega), ho (98 * b' + 4) (by omega) (fun m b _ _ z => by unfold mx_CA at z; omega) (fun m _ z => by omega)]
    exact zB b' hb'
  · have := ho (mx_CA m' b' + 2) (by unfold mx_CA; omega) (fun m b _ _ z => by unfold mx_CA at z; omega) (fun m _ z => by unfold mx_CA at z; omega)
    unfold mx_cC
    rw [this]
    exact zC m' b' hm' hb'
  · unfold mx_nO mx_nD
    rw [ho _ (by omega) (fun m b _ _ z => by unfold mx_CA at z; omega) (fun m _ z => by omega)]
    exact zN m' hm'
theorem iv_and6 : ∀ w, w < 64 → ∀ (t : Int32), ∃ v, v < 64 ∧ nI w &&& t = nI v := by
  intro w hw t
  have h1 : 0 ≤ nI w := mz_nn w (by omega)
  refine ⟨(nI w &&& t).toNatClampNeg, ?_, ?_⟩
  · have : (nI w &&& t).toBitVec.toNat ≤ (nI w).toBitVec.toNat := by
      rw [Int32.toBitVec_and, BitVec.toNat_and]
      exact Nat.and_le_left
    have e : (nI w).toBitVec.toNat = w := by
      show (BitVec.ofNat 32 w).toNat = w
      rw [BitVec.toNat_ofNat]; omega
    rw [e] at this
    have : (nI w &&& t).toInt < 64 ∧ 0 ≤ (nI w &&& t).toInt := by
      show (nI w &&& t).toBitVec.toInt < 64 ∧ 0 ≤ (nI w &&& t).toBitVec.toInt
      rw [BitVec.toInt_eq_toNat_of_lt (by omega)]
      omega
    show (nI w &&& t).toInt.toNat < 64
    omega
  · have : (nI w &&& t).toBitVec.toNat ≤ (nI w).toBitVec.toNat := by
      rw [Int32.toBitVec_and, BitVec.toNat_and]
      exact Nat.and_le_left
    have e : (nI w).toBitVec.toNat = w := by
      show (BitVec.ofNat 32 w).toNat = w
      rw [BitVec.toNat_ofNat]; omega
    rw [e] at this
    have z : 0 ≤ (nI w &&& t).toInt ∧ (nI w &&& t).toInt < 64 := by
      show 0 ≤ (nI w &&& t).toBitVec.toInt ∧ (nI w &&& t).toBitVec.toInt < 64
      rw [BitVec.toInt_eq_toNat_of_lt (by omega)]
      omega
    refine Int32.toInt_inj.1 ?_
    have hc : (nI w &&& t).toNatClampNeg = (nI w &&& t).toInt.toNat := rfl
    rw [nI_toInt (by rw [hc]; omega), hc]
    omega
theorem iv_or6 : ∀ w, w < 64 → ∀ v, v < 64 → ∃ u, u < 64 ∧ nI w ||| nI v = nI u := by
  have : ∀ w, w < 64 → ∀ v, v < 64 → nI w ||| nI v = nI (w ||| v) ∧ w ||| v < 64 := by decide +kernel
  intro w hw v hv
  exact ⟨_, (this w hw v hv).2, (this w hw v hv).1⟩
theorem iv_mix {a t d : Int32} (ha : ∃ v, v < 64 ∧ a = nI v) (hd : ∃ v, v < 64 ∧ d = nI v) : ∃ v, v < 64 ∧ (a &&& t) ||| d = nI v := by
  obtain ⟨w, w1, rfl⟩ := ha
  obtain ⟨v, v1, rfl⟩ := hd
  obtain ⟨u, u1, e⟩ := iv_and6 w w1 t
  rw [e]
  exact iv_or6 u u1 v v1
end IV

