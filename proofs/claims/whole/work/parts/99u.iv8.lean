/-! ===== between calls: each call's step ===== -/
section IV
variable {f f' : Nat → Int32} {T T' K K' m b k : Nat}
theorem mr_S.Z {G : mz_G} {O : Nat → Nat} {sz σ : Nat} {f : Nat → Int32} {Λ : Nat → Nat → Nat} (h : mr_S G O sz σ f Λ) : iv_Z f :=
  ⟨fun b hb => h.bO hb, fun m b hm hb => by
    have := h.cO (r := 68) hm hb (by omega)
    exact ⟨this.1, by have := this.2; omega⟩, fun m hm => h.nO hm, h.qO⟩
theorem iv_T.ad (h : iv_T T f) (hZ : iv_Z f) (hT : T < 512) (hb : b < 3) (h20 : mx_cB f b < 20) (ct fl : Int32) (hfl : ∃ v, v < 64 ∧ fl = nI v) : iv_T (T + 1) (mx_ad f b (mx_cB f b) ct fl) := by
  obtain ⟨K, h1, h2⟩ := h
  refine ⟨K + 1, (iv_ad h1 hZ hb h20 (by omega) ct fl hfl).mono (by omega) (Nat.le_refl _), ?_⟩
  rw [iv_s_cong (f := f) (fun m hm => mx_ad_o f ct fl h20 (by omega))]
  omega
theorem iv_T.ch (h : iv_T T f) (hZ : iv_Z f) (hb : b < 3) (hk : k < mx_cB f b) (fl : Int32) (hfl : ∃ v, v < 64 ∧ fl = nI v) : iv_T (T + 1) (mx_ch f b k fl) := by
  obtain ⟨K, h1, h2⟩ := h
  have h20 := (hZ.1 b hb).1.2
  refine ⟨K, (iv_ch h1 hZ hb hk fl hfl).mono (by omega) (Nat.le_refl _), ?_⟩
  rw [iv_s_cong (f := f) (fun m hm => mx_ch_o _ _ _ _ (by omega) (by omega) (by omega))]
  omega
theorem iv_T.rm (h : iv_T T f) (hZ : iv_Z f) (hb : b < 3) (hk : k < mx_cB f b) : iv_T (T + 1) (mx_rm f b (mx_cB f b) (mx_gB f b) k) := by
  obtain ⟨K, h1, h2⟩ := h
  obtain ⟨⟨-, h20⟩, -, h6⟩ := hZ.1 b hb
  refine ⟨K, (iv_rm h1 hZ hb hk).1.mono (by omega) (Nat.le_refl _), ?_⟩
  rw [iv_s_cong (f := f) (fun m hm => mx_rm_o f h20 h6 hk (by omega))]
  omega
theorem iv_T.cl (h : iv_T T f) (hZ : iv_Z f) (hb : b < 3) : iv_T (T + 1) (mx_cl (mx_cB f b) f b (mx_cB f b) (mx_gB f b) 0 0).1 := by
  obtain ⟨K, h1, h2⟩ := h
  obtain ⟨⟨-, h20⟩, -, h6⟩ := hZ.1 b hb
  refine ⟨K, (iv_cl hb (mx_cB f b) f 0 0 h1 hZ (by omega)).mono (by omega) (Nat.le_refl _), ?_⟩
  rw [iv_s_cong (f := f) (fun m hm => mx_cl_o (by omega) (mx_cB f b) f (mx_cB f b) (mx_gB f b) 0 0 h20 h6 (by omega))]
  omega
theorem iv_T.rn (h : iv_T T f) (hZ : iv_Z f) (hT : T < 512) (hb : b < 3) : iv_T (T + 1) (mx_rn f b (mx_cB f b)) := by
  obtain ⟨K, h1, h2⟩ := h
  have h20 := (hZ.1 b hb).1.2
  refine ⟨K, iv_rn h1 hZ hb (by omega), ?_⟩
  rw [iv_s_cong (f := f) (fun m hm => mx_rn_o f h20 (by omega))]
  omega
theorem iv_T.pol (h : iv_T T f) (hZ : iv_Z f) (hm : m < 4) (v : Int32) : iv_T (T + 1) (mz_u1 f (294 + 58 * m) v) := by
  obtain ⟨K, h1, h2⟩ := h
  refine ⟨K, (h1.cong hZ (fun i _ _ hp => mz_u1_o _ _ (hp m hm))).mono (by omega) (Nat.le_refl _), ?_⟩
  rw [iv_s_cong (f := f) (fun m' hm' => mz_u1_o _ _ (by omega))]
  omega
theorem iv_T.le (h : iv_T T f) : ∃ K, iv T K f ∧ K ≤ T ∧ K + iv_s f ≤ T := by
  obtain ⟨K, h1, h2⟩ := h
  exact ⟨K, h1, by omega, h2⟩
theorem iv_T.yS (h : iv_T T f) (hZ : iv_Z f) (hT : T ≤ 512) (hm : m < 4) (hb : b < 3) : (iv_T T (mx_yS f m b) ∧ iv_Z (mx_yS f m b)) ∧ (mr_so f (mx_CA m b + 2) (mx_cC f m b) ∧ mr_sc f m b < 532) ∧ mx_yO f m b := by
  obtain ⟨K, h1, h2, h3⟩ := h.le
  obtain ⟨⟨a1, a2⟩, a3⟩ := iv_yS h1 hZ hT h2 hm hb
  have := (iv_sA h1 hZ hT h2 hm hb).1.2
  exact ⟨⟨⟨K, a1, by omega⟩, a2⟩, ⟨(h1.1.2 m b hm hb).2.1, by omega⟩, iv_yO h1 hZ hT hm hb⟩
theorem iv_T.pB (h : iv_T T f) (hZ : iv_Z f) (hT : T ≤ 512) (hm : m < 4) : (iv_T T (mx_pB f m) ∧ iv_Z (mx_pB f m)) ∧ (∀ k, k < mx_nD f m → mr_gI (mx_pb f m k).1 m k) ∧ mx_pO f m := by
  obtain ⟨K, h1, h2⟩ := h
  obtain ⟨⟨⟨a1, a2⟩, a3⟩, a4⟩ := iv_pB h1 hZ hT hm h2
  exact ⟨⟨⟨_, a1, a3⟩, a2⟩, a4⟩
theorem iv_T.bg (h : iv_T T f) (hZ : iv_Z f) (hT : T < 512) (hm : m < 4) (hb : b < 3) (h8 : mx_nD f m < 8) (kind name on off ct : Int32) (hk : kind = nI 0 ∨ kind = nI 1 ∨ kind = nI 2) (hon : ∃ v, v < 64 ∧ on = nI v) (hx : ¬ kind = nI 1 → iv_iC f m b name) : iv_T (T + 1) (mx_bg f m (mx_nD f m) kind (nI b) name on off ct) := by
  obtain ⟨K, h1, h2⟩ := h
  obtain ⟨⟨a1, -⟩, a3⟩ := iv_bg h1 hZ hT hm hb h8 kind name on off ct hk hon hx
  exact ⟨K, a1, by omega⟩
theorem iv_T.pl (h : iv_T T f) (hZ : iv_Z f) (hT : T < 512) (hm : m < 4) (hb : b < 3) (name on off : Int32) (h8 : mz_fp (mx_dp f m 0 (nI b) name) (mx_nD f m) = none → mx_nD f m < 8) (hon : ∃ v, v < 64 ∧ on = nI v) (hx : iv_iC f m b name) : iv_T (T + 1) (mx_pl f m b (mx_nD f m) name on off).1 := by
  obtain ⟨K, h1, h2⟩ := h
  obtain ⟨⟨a1, -⟩, a3⟩ := iv_pl h1 hZ hT hm hb name on off h8 hon hx
  exact ⟨K, a1, by omega⟩
theorem iv_T.dd (h : iv_T T f) (hZ : iv_Z f) (hm : m < 4) {j : Nat} (hj : j < mx_nD f m) : iv_T (T + 1) (mx_dd f m (mx_nD f m) j) := by
  obtain ⟨K, h1, h2⟩ := h
  obtain ⟨⟨a1, -⟩, a3⟩ := iv_dd h1 hZ hm hj
  exact ⟨K, a1.mono (by omega) (Nat.le_refl _), by omega⟩
theorem iv_T.cc (h : iv_T T f) (hT : T ≤ 512) (hm : m < 4) (hb : b < 3) : mx_cC f m b < 532 := by
  obtain ⟨K, h1, -⟩ := h
  have := (h1.1.2 m b hm hb).cnt
  omega
/-- only the numbers below 29401 matter -/
theorem iv_T.cong (h : iv_T T f) (hZ : iv_Z f) (ho : ∀ i, i < 29401 → f' i = f i) : iv_T T f' := by
  obtain ⟨K, h1, h2⟩ := h
  refine ⟨K, h1.cong hZ (fun i hi _ _ => ho i (by omega)), ?_⟩
  rw [iv_s_cong (f := f) (fun m hm => ho _ (by omega))]
  exact h2
theorem iv_Z.cong0 (hZ : iv_Z f) (ho : ∀ i, i < 29401 → f' i = f i) : iv_Z f' := hZ.cong (fun i hi _ _ => ho i (by omega)) (by
  unfold mx_qO mx_nQ
  rw [ho _ (by omega)]
  exact hZ.2.2.2)
theorem iv_T0 : iv_T 0 mr_f0 := by
  have c0 : ∀ m b, mx_cC mr_f0 m b = 0 := fun m b => mr_f0_c m b
  have z0 : (nI 0).toInt = 0 := by decide
  have z1 : (nI 1).toInt = 1 := by decide
  refine ⟨0, ⟨⟨fun b hb => ?_, fun m b hm hb => ?_⟩, ⟨fun m hm k hk => ?_, fun m hm => ?_⟩, ?_⟩, ?_⟩
  · obtain ⟨e0, e1⟩ := mr_f0_b hb
    have ec := (mr_f0_s hb).1
    unfold iv_B
    rw [e0, e1, ec, z1]
    refine ⟨by omega, by omega, ?_, fun i j _ hj => absurd hj (by omega), fun j hj => absurd hj (by omega)⟩
    rintro v ⟨j, hj, -⟩
    rw [ec] at hj
    omega
  · obtain ⟨e0, e1⟩ := mr_f0_b hb
    have ea : mr_f0 (mx_CA m b) = nI 0 := mr_f0_z (by unfold mx_CA; omega)
    unfold iv_C
    rw [e0, ea, c0, z0, z1]
    refine ⟨by omega, fun i j _ hj => absurd hj (by omega), ?_, fun h => absurd h (by decide)⟩
    rintro v ⟨j, hj, -⟩
    rw [c0] at hj
    omega
  · rw [mr_f0_d] at hk; omega
  · unfold iv_N
    rw [mr_f0_d]
    exact ⟨fun k hk => absurd hk (by omega), fun i j _ hj => absurd hj (by omega)⟩
  · rw [mr_f0_z (i := 29400) (by omega), z0]
    omega
  · unfold iv_s
    rw [mr_f0_d, mr_f0_d, mr_f0_d, mr_f0_d]
    omega
/-- settling, step by step -/
def iv_Q (f : Nat → Int32) : Nat → (Nat → Int32)
  | 0 => f
  | m + 1 => mx_pB (iv_Q f m) m
def iv_L (f : Nat → Int32) (L0 : Nat → Nat → Nat) : Nat → (Nat → Nat → Nat)
  | 0 => L0
  | m + 1 => mr_pL (iv_Q f m) m (iv_L f L0 m) (mx_nD (iv_Q f m) m)
def iv_Sq (f : Nat → Int32) : Nat → (Nat → Int32) × Nat
  | 0 => (iv_Q f 4, 0)
  | t + 1 => (mx_yS (iv_Sq f t).1 (t / 3) (t % 3), (iv_Sq f t).2 + mx_yn (iv_Sq f t).1 (t / 3) (t % 3))
def iv_Rq (f : Nat → Int32) (L0 : Nat → Nat → Nat) : Nat → (Nat → Nat → Nat)
  | 0 => iv_L f L0 4
  | t + 1 => mr_lg (iv_Rq f L0 t) (t / 3) (t % 3) (mr_sc (iv_Sq f t).1 (t / 3) (t % 3))
theorem iv_Q_ok (h : iv_T T f) (hZ : iv_Z f) (hT : T ≤ 512) : ∀ m, m ≤ 4 → iv_T T (iv_Q f m) ∧ iv_Z (iv_Q f m)
  | 0, _ => ⟨h, hZ⟩
  | m + 1, hm => by
    obtain ⟨a, b⟩ := iv_Q_ok h hZ hT m (by omega)
    exact (a.pB b hT (by omega)).1
theorem iv_Sq_ok (h : iv_T T f) (hZ : iv_Z f) (hT : T ≤ 512) : ∀ t, t ≤ 12 → iv_T T (iv_Sq f t).1 ∧ iv_Z (iv_Sq f t).1
  | 0, _ => iv_Q_ok h hZ hT 4 (by omega)
  | t + 1, ht => by
    obtain ⟨a, b⟩ := iv_Sq_ok h hZ hT t (by omega)
    exact (a.yS b hT (by omega) (by omega)).1
theorem iv_settle (h : iv_T T f) (hZ : iv_Z f) (hT : T ≤ 512) (L0 : Nat → Nat → Nat) : mr_Se f L0 (iv_Q f) (iv_L f L0) (fun m b => iv_Sq f (3 * m + b)) (fun m b => iv_Rq f L0 (3 * m + b)) ∧ (∀ m, m < 4 → mx_pO (iv_Q f m) m ∧ iv_Q f (m + 1) = mx_pB (iv_Q f m) m) ∧ (∀ m, m < 4 → iv_Sq f (3 * (m + 1) + 0) = iv_Sq f (3 * m + 3) ∧ ∀ b, b < 3 → mx_yO (iv_Sq f (3 * m + b)).1 m b ∧ (iv_Sq f (3 * m + (b + 1))).1 = mx_yS (iv_Sq f (3 * m + b)).1 m b ∧ (iv_Sq f (3 * m + (b + 1))).2 = (iv_Sq f (3 * m + b)).2 + mx_yn (iv_Sq f (3 * m + b)).1 m b) := by
  have e3 : ∀ m b, b < 3 → (3 * m + b) / 3 = m ∧ (3 * m + b) % 3 = b := fun m b hb => by omega
  have st : ∀ m b, b < 3 → iv_Sq f (3 * m + (b + 1)) = (mx_yS (iv_Sq f (3 * m + b)).1 m b, (iv_Sq f (3 * m + b)).2 + mx_yn (iv_Sq f (3 * m + b)).1 m b) := fun m b hb => by
    show iv_Sq f (3 * m + b + 1) = _
    obtain ⟨a1, a2⟩ := e3 m b hb
    simp only [iv_Sq, a1, a2]
  have rt : ∀ m b, b < 3 → iv_Rq f L0 (3 * m + (b + 1)) = mr_lg (iv_Rq f L0 (3 * m + b)) m b (mr_sc (iv_Sq f (3 * m + b)).1 m b) := fun m b hb => by
    show iv_Rq f L0 (3 * m + b + 1) = _
    obtain ⟨a1, a2⟩ := e3 m b hb
    simp only [iv_Rq, a1, a2]
  refine ⟨⟨⟨rfl, rfl, fun m hm => ?_⟩, rfl, rfl, fun m hm => ⟨?_, ?_, fun b hb => ?_⟩⟩, fun m hm => ?_, fun m hm => ⟨?_, fun b hb => ?_⟩⟩
  · obtain ⟨a, b⟩ := iv_Q_ok h hZ hT m (by omega)
    exact ⟨(a.pB b hT hm).2.1, rfl, rfl⟩
  · show iv_Sq f (3 * (m + 1) + 0) = iv_Sq f (3 * m + 3)
    congr 1
  · show iv_Rq f L0 (3 * (m + 1) + 0) = iv_Rq f L0 (3 * m + 3)
    congr 1
  · obtain ⟨a, z⟩ := iv_Sq_ok h hZ hT (3 * m + b) (by omega)
    exact ⟨(a.yS z hT hm hb).2.1, st m b hb, rt m b hb⟩
  · obtain ⟨a, b⟩ := iv_Q_ok h hZ hT m (by omega)
    exact ⟨(a.pB b hT hm).2.2, rfl⟩
  · congr 1
  · obtain ⟨a, z⟩ := iv_Sq_ok h hZ hT (3 * m + b) (by omega)
    exact ⟨(a.yS z hT hm hb).2.2, by rw [st m b hb], by rw [st m b hb]⟩
theorem mr_Se.le {f : Nat → Int32} {L0 : Nat → Nat → Nat} {P : Nat → Nat → Int32} {L : Nat → Nat → Nat → Nat} {S : Nat → Nat → (Nat → Int32) × Nat} {R : Nat → Nat → Nat → Nat → Nat} (h : mr_Se f L0 P L S R) (hc : mr_cL L0) : mr_Ph (R 4 0) ≤ mr_Ph L0 ∧ mr_cL (R 4 0) := by
  obtain ⟨lc, lm, rc, rm⟩ := h.lo hc
  obtain ⟨⟨h0, h1, hm⟩, s0, r0, hs⟩ := h
  have R0 : ∀ m, m < 4 → mr_Ph (R (m + 1) 0) ≤ mr_Ph (R m 3) := fun m h => by rw [(hs m h).2.1]; exact Nat.le_refl _
  have z1 := R0 0 (by omega); have z2 := R0 1 (by omega); have z3 := R0 2 (by omega); have z4 := R0 3 (by omega)
  have w1 := rm 0 0 (by omega) (by omega); have w2 := rm 0 1 (by omega) (by omega); have w3 := rm 0 2 (by omega) (by omega)
  have w4 := rm 1 0 (by omega) (by omega); have w5 := rm 1 1 (by omega) (by omega); have w6 := rm 1 2 (by omega) (by omega)
  have w7 := rm 2 0 (by omega) (by omega); have w8 := rm 2 1 (by omega) (by omega); have w9 := rm 2 2 (by omega) (by omega)
  have wa := rm 3 0 (by omega) (by omega); have wb := rm 3 1 (by omega) (by omega); have wc := rm 3 2 (by omega) (by omega)
  have y1 := lm 0 (by omega); have y2 := lm 1 (by omega); have y3 := lm 2 (by omega); have y4 := lm 3 (by omega)
  have hr0 : mr_Ph (R 0 0) = mr_Ph (L 4) := by rw [r0]
  have hl0 : mr_Ph (L 0) = mr_Ph L0 := by rw [h1]
  simp only [Nat.zero_add, Nat.reduceAdd] at z1 z2 z3 z4 w1 w2 w3 w4 w5 w6 w7 w8 w9 wa wb wc y1 y2 y3 y4
  exact ⟨by omega, rc 4 (by omega) 0 (by simp)⟩
end IV

