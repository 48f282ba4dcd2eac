/-! ===== what holds of the numbers between calls ===== -/
theorem iv_z1 {v : Int32} (h0 : 0 ≤ v.toInt) (h1 : v.toInt < 1000000) : (v + 1).toInt = v.toInt + 1 := by
  rw [Int32.toInt_add]
  have : (1 : Int32).toInt = 1 := by decide
  rw [this, Int.bmod_def]
  omega
theorem iv_nI {v : Int32} {n : Nat} (h : v = nI n) (hn : n < 2147483648) : v.toInt = n := by rw [h, nI_toInt hn]
theorem iv_fz {g : Nat → Int32} {v : Int32} {n : Nat} : ¬ mz_fz g v n = none ↔ ∃ j, j < n ∧ g j = v := by
  constructor
  · intro h
    obtain ⟨j, hj⟩ := Option.ne_none_iff_exists'.1 h
    obtain ⟨a, b, -⟩ := mz_fz_some hj
    exact ⟨j, a, b⟩
  · rintro ⟨j, a, b⟩ h
    exact mz_fz_none h j a b
/-- the sizes -/
def iv_Z (f : Nat → Int32) : Prop := (∀ b, b < 3 → mx_bO f b) ∧ (∀ m b, m < 4 → b < 3 → f (mx_CA m b + 2) = nI (mx_cC f m b) ∧ mx_cC f m b ≤ 532) ∧ (∀ m, m < 4 → mx_nO f m) ∧ mx_qO f
def iv_iB (f : Nat → Int32) (b : Nat) (v : Int32) : Prop := ∃ j, j < mx_cB f b ∧ mx_nm f (98 * b + 17) j = v
def iv_iC (f : Nat → Int32) (m b : Nat) (v : Int32) : Prop := ∃ j, j < mx_cC f m b ∧ mx_nm f (mx_CA m b + 2) j = v
def iv_B (f : Nat → Int32) (T K b : Nat) : Prop :=
  (1 ≤ (f (98 * b + 1)).toInt ∧ (f (98 * b + 1)).toInt ≤ K + 1) ∧ (0 ≤ (f (98 * b + 0)).toInt ∧ (f (98 * b + 0)).toInt ≤ T + 1) ∧ (∀ v, iv_iB f b v → 1 ≤ v.toInt ∧ v.toInt < (f (98 * b + 1)).toInt) ∧ mr_so f (98 * b + 17) (mx_cB f b) ∧ mr_fl f (98 * b + 17) (mx_cB f b)
def iv_C (f : Nat → Int32) (T m b : Nat) : Prop :=
  (f (mx_CA m b)).toInt ≤ (f (98 * b + 0)).toInt ∧ mr_so f (mx_CA m b + 2) (mx_cC f m b) ∧ (∀ v, iv_iC f m b v → 1 ≤ v.toInt ∧ v.toInt ≤ T) ∧ (f (mx_CA m b) = f (98 * b + 0) → ∀ v, iv_iC f m b v → v.toInt < (f (98 * b + 1)).toInt)
def iv_D (f : Nat → Int32) (m k : Nat) : Prop :=
  ((mx_dB f (mx_DA m k) < 3 ∧ f (mx_DA m k + 2) = nI (mx_dB f (mx_DA m k))) ∧ (f (mx_DA m k + 1) = nI 0 ∨ f (mx_DA m k + 1) = nI 1 ∨ f (mx_DA m k + 1) = nI 2)) ∧ (∃ v, v < 64 ∧ f (mx_DA m k + 4) = nI v) ∧
  (¬ f (mx_DA m k + 1) = nI 1 → f (mx_CA m (mx_dB f (mx_DA m k))) = f (98 * mx_dB f (mx_DA m k) + 0) → (f (mx_DA m k + 3)).toInt < (f (98 * mx_dB f (mx_DA m k) + 1)).toInt ∧ (iv_iB f (mx_dB f (mx_DA m k)) (f (mx_DA m k + 3)) → iv_iC f m (mx_dB f (mx_DA m k)) (f (mx_DA m k + 3))))
def iv_N (f : Nat → Int32) (T m : Nat) : Prop := (∀ k, k < mx_nD f m → 1 ≤ (f (mx_DA m k)).toInt ∧ (f (mx_DA m k)).toInt ≤ (f 29400).toInt) ∧ ∀ i j, i < j → j < mx_nD f m → f (mx_DA m i) < f (mx_DA m j)
def iv (T K : Nat) (f : Nat → Int32) : Prop :=
  ((∀ b, b < 3 → iv_B f T K b) ∧ (∀ m b, m < 4 → b < 3 → iv_C f T m b)) ∧ ((∀ m, m < 4 → ∀ k, k < mx_nD f m → iv_D f m k) ∧ (∀ m, m < 4 → iv_N f T m)) ∧ (0 ≤ (f 29400).toInt ∧ (f 29400).toInt ≤ T)
def iv_s (f : Nat → Int32) : Nat := mx_nD f 0 + mx_nD f 1 + mx_nD f 2 + mx_nD f 3
/-- between calls -/
def iv_T (T : Nat) (f : Nat → Int32) : Prop := ∃ K, iv T K f ∧ K + iv_s f ≤ T
section IV
variable {f f' : Nat → Int32} {T T' K K' m b k : Nat}
theorem iv_B.mono (h : iv_B f T K b) (hT : T ≤ T') (hK : K ≤ K') : iv_B f T' K' b := by
  obtain ⟨⟨a1, a2⟩, ⟨b1, b2⟩, h⟩ := h
  exact ⟨⟨a1, by omega⟩, ⟨b1, by omega⟩, h⟩
theorem iv_C.mono (h : iv_C f T m b) (hT : T ≤ T') : iv_C f T' m b := by
  obtain ⟨a, s, n, e⟩ := h
  exact ⟨a, s, fun v hv => by have := n v hv; omega, e⟩
theorem iv.mono (h : iv T K f) (hT : T ≤ T') (hK : K ≤ K') : iv T' K' f := by
  obtain ⟨⟨hB, hC⟩, ⟨hD, hN⟩, l0, l1⟩ := h
  exact ⟨⟨fun b hb => (hB b hb).mono hT hK, fun m b hm hb => (hC m b hm hb).mono hT⟩, ⟨hD, fun m hm => hN m hm⟩, l0, by omega⟩
theorem iv_T.mono (h : iv_T T f) (hT : T ≤ T') : iv_T T' f := by
  obtain ⟨K, h1, h2⟩ := h
  exact ⟨K, h1.mono hT (Nat.le_refl _), by omega⟩
theorem iv_cB (h : f' (98 * b + 17) = f (98 * b + 17)) : mx_cB f' b = mx_cB f b := by unfold mx_cB; rw [h]
theorem iv_iB_cong (hZ : mx_cB f b ≤ 20) (h : ∀ i, 98 * b ≤ i → i < 98 * b + 98 → f' i = f i) (v : Int32) : iv_iB f' b v ↔ iv_iB f b v := by
  unfold iv_iB
  rw [iv_cB (h _ (by omega) (by omega))]
  constructor
  · rintro ⟨j, hj, e⟩; exact ⟨j, hj, by rw [← e]; exact (h _ (by omega) (by omega)).symm⟩
  · rintro ⟨j, hj, e⟩; exact ⟨j, hj, by rw [← e]; exact h _ (by omega) (by omega)⟩
theorem iv_so_cong {L n : Nat} (h : ∀ j, j < n → mx_nm f' L j = mx_nm f L j) (hs : mr_so f L n) : mr_so f' L n := fun i j hij hj => by rw [h i (by omega), h j hj]; exact hs i j hij hj
theorem iv_B.cong (hB : iv_B f T K b) (hZ : mx_cB f b ≤ 20) (h : ∀ i, 98 * b ≤ i → i < 98 * b + 98 → f' i = f i) : iv_B f' T K b := by
  obtain ⟨a, e, n, s, fl⟩ := hB
  have h1 := h (98 * b + 1) (by omega) (by omega)
  have h0 := h (98 * b + 0) (by omega) (by omega)
  unfold iv_B
  rw [h1, h0, iv_cB (h _ (by omega) (by omega))]
  exact ⟨a, e, fun v hv => n v ((iv_iB_cong hZ h v).1 hv), iv_so_cong (fun j hj => h _ (by omega) (by omega)) s, fun j hj => by obtain ⟨w, w1, w2⟩ := fl j hj; exact ⟨w, w1, (h _ (by omega) (by omega)).trans w2⟩⟩
theorem iv_iC_cong (hZ : mx_cC f m b ≤ 532) (h : ∀ i, mx_CA m b + 2 ≤ i → i < mx_CA m b + 2403 → f' i = f i) (v : Int32) : iv_iC f' m b v ↔ iv_iC f m b v := by
  unfold iv_iC
  rw [mr_cC_cong (h _ (by omega) (by omega))]
  constructor
  · rintro ⟨j, hj, e⟩; exact ⟨j, hj, by rw [← e]; exact (h _ (by omega) (by omega)).symm⟩
  · rintro ⟨j, hj, e⟩; exact ⟨j, hj, by rw [← e]; exact h _ (by omega) (by omega)⟩
/-- the copy as it was; the box of the same era goes on, or a later era -/
theorem iv_C.step (hC : iv_C f T m b) (hZ : mx_cC f m b ≤ 532) (h : ∀ i, mx_CA m b ≤ i → i < mx_CA m b + 2403 → f' i = f i) (hb : (f' (98 * b + 0) = f (98 * b + 0) ∧ (f (98 * b + 1)).toInt ≤ (f' (98 * b + 1)).toInt) ∨ (f (98 * b + 0)).toInt < (f' (98 * b + 0)).toInt) : iv_C f' T m b := by
  obtain ⟨a, s, n, e⟩ := hC
  have h0 := h (mx_CA m b) (by omega) (by omega)
  have hi := fun v => iv_iC_cong hZ (fun i h1 h2 => h i (by omega) h2) v
  unfold iv_C
  rw [h0, mr_cC_cong (h _ (by omega) (by omega))]
  have ha' : (f (mx_CA m b)).toInt ≤ (f' (98 * b + 0)).toInt := by
    rcases hb with ⟨z1, z2⟩ | z
    · rw [z1]; exact a
    · omega
  refine ⟨ha', iv_so_cong (fun j hj => h _ (by omega) (by omega)) s, fun v hv => n v ((hi v).1 hv), fun he v hv => ?_⟩
  rcases hb with ⟨z1, z2⟩ | z
  · rw [z1] at he
    have := e he v ((hi v).1 hv)
    omega
  · rw [he] at a
    omega
/-- a deed's row as it was; its box and its copy went on -/
theorem iv_D.step {k' : Nat} (hD : iv_D f m k) (hr : ∀ j, j < 7 → f' (mx_DA m k' + j) = f (mx_DA m k + j)) (hb : ∀ b, b = mx_dB f (mx_DA m k) → b < 3 → ¬ f (mx_DA m k + 1) = nI 1 → f' (mx_CA m b) = f' (98 * b + 0) → (f (mx_CA m b) = f (98 * b + 0) → (f (mx_DA m k + 3)).toInt < (f (98 * b + 1)).toInt ∧ (iv_iB f b (f (mx_DA m k + 3)) → iv_iC f m b (f (mx_DA m k + 3)))) → (f (mx_DA m k + 3)).toInt < (f' (98 * b + 1)).toInt ∧ (iv_iB f' b (f (mx_DA m k + 3)) → iv_iC f' m b (f (mx_DA m k + 3)))) : iv_D f' m k' := by
  obtain ⟨⟨⟨d1, d2⟩, kd⟩, fl, x⟩ := hD
  have e2 : mx_dB f' (mx_DA m k') = mx_dB f (mx_DA m k) := by unfold mx_dB; rw [hr 2 (by omega)]
  unfold iv_D
  rw [e2, hr 1 (by omega), hr 2 (by omega), hr 3 (by omega), hr 4 (by omega)]
  exact ⟨⟨⟨d1, d2⟩, kd⟩, fl, fun h1 h2 => hb _ rfl d1 h1 h2 (x h1)⟩
theorem iv_N.cong (hN : iv_N f T m) (h8 : mx_nD f m ≤ 8) (h : ∀ i, 294 + 58 * m + 1 ≤ i → i < 294 + 58 * m + 58 → f' i = f i) (hl : f' 29400 = f 29400) : iv_N f' T m := by
  obtain ⟨h1, h2⟩ := hN
  unfold iv_N
  rw [mr_nD_cong (h _ (by omega) (by omega)), hl]
  have e : ∀ k, k < mx_nD f m → f' (mx_DA m k) = f (mx_DA m k) := fun k hk => h _ (by unfold mx_DA; omega) (by unfold mx_DA; omega)
  exact ⟨fun k hk => by rw [e k hk]; exact h1 k hk, fun i j hij hj => by rw [e i (by omega), e j hj]; exact h2 i j hij hj⟩
/-- a box went on, all else is as it was -/
theorem iv.box (h : iv T K f) (hZ : iv_Z f) (hb : b < 3) (ho : ∀ i, (i < 98 * b ∨ 98 * b + 98 ≤ i) → i < 29401 → f' i = f i) (hT : T ≤ T') (hK : K ≤ K') (hB' : iv_B f' T' K' b) (hs : (f' (98 * b + 0) = f (98 * b + 0) ∧ (f (98 * b + 1)).toInt ≤ (f' (98 * b + 1)).toInt ∧ ∀ v, iv_iB f' b v → iv_iB f b v ∨ (f (98 * b + 1)).toInt ≤ v.toInt) ∨ (f (98 * b + 0)).toInt < (f' (98 * b + 0)).toInt) : iv T' K' f' := by
  obtain ⟨⟨hB, hC⟩, ⟨hD, hN⟩, l0, l1⟩ := h
  obtain ⟨zB, zC, zN, -⟩ := hZ
  have hcp : ∀ m b', m < 4 → b' < 3 → ∀ i, mx_CA m b' ≤ i → i < mx_CA m b' + 2403 → f' i = f i := fun m b' hm hb' i h1 h2 => ho i (by unfold mx_CA at h1; omega) (by unfold mx_CA at h2; omega)
  have hbx : ∀ b', b' < 3 → ¬ b' = b → ∀ i, 98 * b' ≤ i → i < 98 * b' + 98 → f' i = f i := fun b' hb' hne i h1 h2 => ho i (by omega) (by omega)
  have hdd : ∀ m, m < 4 → ∀ i, 294 + 58 * m ≤ i → i < 294 + 58 * m + 58 → f' i = f i := fun m hm i h1 h2 => ho i (by omega) (by omega)
  have nDe : ∀ m, m < 4 → mx_nD f' m = mx_nD f m := fun m hm => mr_nD_cong (hdd m hm _ (by omega) (by omega))
  refine ⟨⟨fun b' hb' => ?_, fun m b' hm hb' => ?_⟩, ⟨fun m hm k hk => ?_, fun m hm => ?_⟩, ?_⟩
  · by_cases e : b' = b
    · rw [e]; exact hB'
    · exact ((hB b' hb').mono hT hK).cong (zB b' hb').1.2 (hbx b' hb' e)
  · by_cases e : b' = b
    · subst e
      exact ((hC m b' hm hb').mono hT).step (zC m b' hm hb').2 (hcp m b' hm hb') (hs.elim (fun z => Or.inl ⟨z.1, z.2.1⟩) Or.inr)
    · exact ((hC m b' hm hb').mono hT).step (zC m b' hm hb').2 (hcp m b' hm hb') (Or.inl ⟨hbx b' hb' e _ (by omega) (by omega), by rw [hbx b' hb' e (98 * b' + 1) (by omega) (by omega)]; exact Int.le_refl _⟩)
  · rw [nDe m hm] at hk
    have h8 := (zN m hm).2
    refine (hD m hm k hk).step (fun j hj => hdd m hm _ (by unfold mx_DA; omega) (by unfold mx_DA; omega)) ?_
    intro b' eb' hb' h1 h2 x
    have c0 := hcp m b' hm hb' (mx_CA m b') (by omega) (by omega)
    have hiC := fun v => iv_iC_cong (zC m b' hm hb').2 (fun i h1 h2 => hcp m b' hm hb' i (by omega) h2) v
    by_cases e : b' = b
    · subst e
      rcases hs with ⟨z1, z2, z3⟩ | z
      · rw [c0, z1] at h2
        obtain ⟨x1, x2⟩ := x h2
        refine ⟨by omega, fun hv => (hiC _).2 (x2 ?_)⟩
        rcases z3 _ hv with q | q
        · exact q
        · omega
      · have := (hC m b' hm hb').1
        rw [c0] at h2
        rw [h2] at this
        omega
    · rw [c0, hbx b' hb' e (98 * b' + 0) (by omega) (by omega)] at h2
      obtain ⟨x1, x2⟩ := x h2
      rw [hbx b' hb' e (98 * b' + 1) (by omega) (by omega)]
      exact ⟨x1, fun hv => (hiC _).2 (x2 ((iv_iB_cong (zB b' hb').1.2 (hbx b' hb' e) _).1 hv))⟩
  · exact (hN m hm).cong (zN m hm).2 (fun i h1 h2 => hdd m hm i (by omega) h2) (ho _ (by omega) (by omega))
  · rw [ho 29400 (by omega) (by omega)]
    exact ⟨l0, by omega⟩
theorem iv_s_cong (h : ∀ m, m < 4 → f' (294 + 58 * m + 1) = f (294 + 58 * m + 1)) : iv_s f' = iv_s f := by
  have e : ∀ m, m < 4 → mx_nD f' m = mx_nD f m := fun m hm => mr_nD_cong (h m hm)
  unfold iv_s
  rw [e 0 (by omega), e 1 (by omega), e 2 (by omega), e 3 (by omega)]
end IV

