/-! ===== playing back keeps it ===== -/
section IV
variable {f f' : Nat → Int32} {T T' K K' m b k : Nat}
theorem iv_gI (h : iv T K f) (hZ : iv_Z f) (hT : T ≤ 512) (hm : m < 4) (hk : k < mx_nD f m) : mr_gI f m k ∧ mx_gO f m (mx_DA m k) := by
  obtain ⟨⟨d1, d2⟩, fl, x⟩ := h.1.2 |> fun _ => h.2.1.1 m hm k hk
  have hC := h.1.2 m _ hm d1.1
  have hcnt := hC.cnt
  have hO : mx_hO f m (mx_DA m k) (mx_dB f (mx_DA m k)) := fun h1 h2 h3 => by
    have := (x h1 h2).2 (iv_fz.1 h3)
    exact iv_fz.2 this
  exact ⟨⟨⟨d1, d2⟩, (h.1.1 _ d1.1).asc, ⟨hC.2.1, by omega⟩, hO⟩, d1, hZ.1 _ d1.1, ⟨(hZ.2.1 m _ hm d1.1).1, by omega⟩, hZ.2.2.2, hO⟩
/-- the copy loses a name that its box has not -/
theorem iv_drC (h : iv T K f) (hZ : iv_Z f) (hm : m < 4) (hb : b < 3) {j : Nat} (hj : j < mx_cC f m b) (hn : ¬ iv_iB f b (mx_nm f (mx_CA m b + 2) j)) : iv T K (mx_dr f (mx_CA m b + 2) (mx_cC f m b) j) ∧ iv_Z (mx_dr f (mx_CA m b + 2) (mx_cC f m b) j) := by
  have hC := h.1.2 m b hm hb
  have z := (hZ.2.1 m b hm hb).2
  have hCA : 526 ≤ mx_CA m b ∧ mx_CA m b + 2403 ≤ 29362 := by unfold mx_CA; omega
  have ho : ∀ i, ¬ (mx_CA m b + 2 ≤ i ∧ i < mx_CA m b + 2403) → i < 29401 → mx_dr f (mx_CA m b + 2) (mx_cC f m b) j i = f i := fun i hi _ => mx_dr_o f hj (by omega)
  have ec : mx_cC (mx_dr f (mx_CA m b + 2) (mx_cC f m b) j) m b = mx_cC f m b - 1 := mr_nI_cl (mx_dr_n f) (by omega)
  obtain ⟨s1, s2⟩ := iv_dr_so f hj hC.2.1
  have hin : ∀ v, iv_iC (mx_dr f (mx_CA m b + 2) (mx_cC f m b) j) m b v ↔ iv_iC f m b v ∧ ¬ v = mx_nm f (mx_CA m b + 2) j := fun v => by
    unfold iv_iC
    rw [ec]
    exact s2 v
  refine ⟨h.copy hZ hm hb ho ⟨?_, ?_, fun v hv => hC.2.2.1 v ((hin v).1 hv).1, fun he v hv => ?_⟩ (fun _ v h1 h2 => (hin v).2 ⟨h2, fun e => hn (by rw [← e]; exact h1)⟩), hZ.copy hm hb ho ⟨by rw [ec]; exact mx_dr_n f, by omega⟩⟩
  · rw [ho _ (by omega) (by omega), ho _ (by omega) (by omega)]; exact hC.1
  · rw [ec]; exact s1
  · rw [ho _ (by omega) (by omega), ho _ (by omega) (by omega)] at he
    rw [ho _ (by omega) (by omega)]
    exact hC.2.2.2 he v ((hin v).1 hv).1
/-- the copy gets a name, or has it -/
theorem iv_puC (h : iv T K f) (hZ : iv_Z f) (hT : T ≤ 512) (hm : m < 4) (hb : b < 3) (name x y w : Int32) (h1 : 1 ≤ name.toInt ∧ name.toInt ≤ T) (h2 : f (mx_CA m b) = f (98 * b + 0) → name.toInt < (f (98 * b + 1)).toInt) : iv T K (mx_pu f (mx_CA m b + 2) (mx_cC f m b) name x y w) ∧ iv_Z (mx_pu f (mx_CA m b + 2) (mx_cC f m b) name x y w) := by
  have hC := h.1.2 m b hm hb
  have hcnt := hC.cnt
  have hCA : 526 ≤ mx_CA m b ∧ mx_CA m b + 2403 ≤ 29362 := by unfold mx_CA; omega
  have hpn := mx_pn_le f (mx_CA m b + 2) (mx_cC f m b) name
  have ho : ∀ i, ¬ (mx_CA m b + 2 ≤ i ∧ i < mx_CA m b + 2403) → i < 29401 → mx_pu f (mx_CA m b + 2) (mx_cC f m b) name x y w i = f i := fun i hi _ => mx_pu_o f _ _ _ _ (by omega)
  have en := mx_pu_n f name x y w (hZ.2.1 m b hm hb).1
  have ec : mx_cC (mx_pu f (mx_CA m b + 2) (mx_cC f m b) name x y w) m b = mx_pn f (mx_CA m b + 2) (mx_cC f m b) name := mr_nI_cl en (by omega)
  have hin : ∀ v, iv_iC (mx_pu f (mx_CA m b + 2) (mx_cC f m b) name x y w) m b v ↔ iv_iC f m b v ∨ v = name := fun v => by
    unfold iv_iC
    rw [ec]
    exact iv_pu_in f name x y w v
  refine ⟨h.copy hZ hm hb ho ⟨?_, ?_, fun v hv => ?_, fun he v hv => ?_⟩ (fun _ v _ q => (hin v).2 (Or.inl q)), hZ.copy hm hb ho ⟨by rw [ec]; exact en, by omega⟩⟩
  · rw [ho _ (by omega) (by omega), ho _ (by omega) (by omega)]; exact hC.1
  · rw [ec]; exact mr_so_pu hC.2.1 _ _ _ _
  · rcases (hin v).1 hv with q | q
    · exact hC.2.2.1 v q
    · rw [q]; exact h1
  · rw [ho _ (by omega) (by omega), ho _ (by omega) (by omega)] at he
    rw [ho _ (by omega) (by omega)]
    rcases (hin v).1 hv with q | q
    · exact hC.2.2.2 he v q
    · rw [q]; exact h2 he
theorem iv_ad_Z (h : iv T K f) (hZ : iv_Z f) (hb : b < 3) (h20 : mx_cB f b < 20) (ct fl : Int32) : iv_Z (mx_ad f b (mx_cB f b) ct fl) := by
  obtain ⟨⟨e17, -⟩, -⟩ := iv_ad_at hb (h.1.1 b hb) ct fl
  have e4 : mx_ad f b (mx_cB f b) ct fl (98 * b + 4) = f (98 * b + 4) := by
    rw [mr_ad f b (mx_cB f b) ct fl (h.1.1 b hb).asc]
    unfold mx_rw
    simp only [mz_u1]
    simp (disch := omega) only [if_pos, if_neg, and_self, if_true, and_true, true_and, and_false, false_and, if_false]
  have ec : mx_cB (mx_ad f b (mx_cB f b) ct fl) b = mx_cB f b + 1 := mr_nI_cl e17 (by omega)
  refine hZ.box hb (fun i hi _ => mx_ad_o f ct fl h20 hi) ⟨⟨by rw [ec]; exact e17, by omega⟩, ?_⟩
  unfold mx_gB
  rw [e4]
  exact (hZ.1 b hb).2
theorem iv_ch_Z (hZ : iv_Z f) (hb : b < 3) (hk : k < mx_cB f b) (fl : Int32) : iv_Z (mx_ch f b k fl) := by
  have h20 := (hZ.1 b hb).1.2
  refine hZ.box hb (fun i hi _ => mx_ch_o _ _ _ _ (by omega) (by omega) (by omega)) ?_
  unfold mx_bO mx_cB mx_gB
  rw [mx_ch_o f b k fl (i := 98 * b + 17) (by omega) (by omega) (by omega), mx_ch_o f b k fl (i := 98 * b + 4) (by omega) (by omega) (by omega)]
  exact hZ.1 b hb
theorem iv_gR (h : iv T K f) (hZ : iv_Z f) (hT : T ≤ 512) (hK : K + 1 ≤ T) (hm : m < 4) (hk : k < mx_nD f m) : iv T (K + 1) (mx_gR f m (mx_DA m k)).1 ∧ iv_Z (mx_gR f m (mx_DA m k)).1 := by
  obtain ⟨⟨d1, d2⟩, fl, x⟩ := id (h.2.1.1 m hm k hk)
  obtain ⟨b, hbe⟩ : ∃ b, b = mx_dB f (mx_DA m k) := ⟨_, rfl⟩
  have h8 := (hZ.2.2.1 m hm).2
  unfold mx_gR
  rw [← hbe] at d1 x ⊢
  have hb := d1.1
  have hup := h.mono (Nat.le_refl T) (Nat.le_add_right K 1)
  have hB := h.1.1 b hb
  have hC := h.1.2 m b hm hb
  have hdl : 294 ≤ mx_DA m k ∧ mx_DA m k + 7 ≤ 526 := by unfold mx_DA; omega
  have hCA : 526 ≤ mx_CA m b ∧ mx_CA m b + 2403 ≤ 29362 := by unfold mx_CA; omega
  unfold mx_gA
  by_cases hk1 : f (mx_DA m k + 1) = nI 1
  · rw [if_pos hk1]
    by_cases h20 : mx_cB f b < 20
    · rw [if_pos h20]
      show iv T (K + 1) (mx_gN f m (mx_DA m k) b (mx_cB f b) (mx_cC f m b)) ∧ iv_Z (mx_gN f m (mx_DA m k) b (mx_cB f b) (mx_cC f m b))
      have ha := iv_ad h hZ hb h20 (by omega) (f (mx_DA m k + 6)) (f (mx_DA m k + 4)) fl
      have hz := iv_ad_Z h hZ hb h20 (f (mx_DA m k + 6)) (f (mx_DA m k + 4))
      obtain ⟨⟨-, e1, e0⟩, -⟩ := iv_ad_at hb hB (f (mx_DA m k + 6)) (f (mx_DA m k + 4))
      unfold mx_gN
      by_cases hsm : mx_sm f m b
      · rw [if_pos hsm]
        unfold mx_gM
        have ec : mx_cC (mx_ad f b (mx_cB f b) (f (mx_DA m k + 6)) (f (mx_DA m k + 4))) m b = mx_cC f m b := mr_cC_cong (mx_ad_o f _ _ h20 (by omega))
        have := iv_puC ha hz hT hm hb (f (98 * b + 1)) (mx_ad f b (mx_cB f b) (f (mx_DA m k + 6)) (f (mx_DA m k + 4)) (mx_DA m k + 6)) (mx_ad f b (mx_cB f b) (f (mx_DA m k + 6)) (f (mx_DA m k + 4)) (mx_DA m k + 4)) (mx_ad f b (mx_cB f b) (f (mx_DA m k + 6)) (f (mx_DA m k + 4)) (98 * b + 2)) (by have := hB.1; omega) (fun _ => by
          have := hB.1
          rw [e1, iv_z1 (by omega) (by omega)]; omega)
        rw [ec] at this
        exact this
      · rw [if_neg hsm]
        exact ⟨ha, hz⟩
    · rw [if_neg h20]
      exact ⟨hup, hZ⟩
  · rw [if_neg hk1]
    show iv T (K + 1) (mx_do f m (mx_DA m k) b (mx_cB f b) (mx_gB f b) (mx_cC f m b)).1 ∧ iv_Z (mx_do f m (mx_DA m k) b (mx_cB f b) (mx_gB f b) (mx_cC f m b)).1
    unfold mx_do
    by_cases he : f (mx_CA m b) = f (98 * b + 0)
    · rw [if_pos he]
      obtain ⟨x1, x2⟩ := x hk1 he
      rcases mz_sor (mz_fz (mx_nm f (98 * b + 17)) (f (mx_DA m k + 3)) (mx_cB f b)) with q | ⟨t, q⟩
      · rw [q]
        show iv T (K + 1) (mx_d0 f m (mx_DA m k) b (mx_cC f m b)) ∧ iv_Z (mx_d0 f m (mx_DA m k) b (mx_cC f m b))
        unfold mx_d0
        rcases mz_sor (mz_fz (mx_nm f (mx_CA m b + 2)) (f (mx_DA m k + 3)) (mx_cC f m b)) with p | ⟨j, p⟩
        · rw [p]; exact ⟨hup, hZ⟩
        · rw [p]
          obtain ⟨p1, p2, -⟩ := mz_fz_some p
          exact iv_drC hup hZ hm hb p1 (by rw [p2]; rintro ⟨i, hi, ei⟩; exact mz_fz_none q i hi ei)
      · rw [q]
        obtain ⟨q1, q2, -⟩ := mz_fz_some q
        dsimp only
        obtain ⟨j0, hj0, ej0⟩ := x2 ⟨t, q1, q2⟩
        rcases mz_sor (mz_fz (mx_nm f (mx_CA m b + 2)) (f (mx_DA m k + 3)) (mx_cC f m b)) with p | ⟨j, p⟩
        · exact absurd ej0 (mz_fz_none p j0 hj0)
        · rw [p]
          obtain ⟨p1, p2, -⟩ := mz_fz_some p
          show iv T (K + 1) (mx_d2 f m (mx_DA m k) b (mx_cB f b) (mx_gB f b) (mx_cC f m b) t j).1 ∧ iv_Z (mx_d2 f m (mx_DA m k) b (mx_cB f b) (mx_gB f b) (mx_cC f m b) t j).1
          unfold mx_d2
          split
          · exact ⟨hup, hZ⟩
          · show iv T (K + 1) (mx_d3 f m (mx_DA m k) b (mx_cB f b) (mx_gB f b) (mx_cC f m b) t j) ∧ iv_Z (mx_d3 f m (mx_DA m k) b (mx_cB f b) (mx_gB f b) (mx_cC f m b) t j)
            unfold mx_d3
            split
            · unfold mx_d1
              have hfl := iv_mix (t := f (mx_DA m k + 5) ^^^ -1) (hB.2.2.2.2 t q1) fl
              have a1 := iv_ch hup hZ hb q1 _ hfl
              have a2 := iv_ch_Z hZ hb q1 ((f (98 * b + 17 + 1 + 4 * t + 2) &&& (f (mx_DA m k + 5) ^^^ -1)) ||| f (mx_DA m k + 4))
              generalize hg : mx_ch f b t ((f (98 * b + 17 + 1 + 4 * t + 2) &&& (f (mx_DA m k + 5) ^^^ -1)) ||| f (mx_DA m k + 4)) = g at a1 a2 ⊢
              have h20 := (hZ.1 b hb).1.2
              have hgo : ∀ i, i ≤ 98 * b + 1 ∨ 98 * b + 98 ≤ i → g i = f i := fun i hi => by rw [← hg]; exact mx_ch_o _ _ _ _ (by omega) (by omega) (by omega)
              have ec : mx_cC g m b = mx_cC f m b := mr_cC_cong (hgo _ (by omega))
              have := iv_puC a1 a2 hT hm hb (f (mx_DA m k + 3)) (g (mx_CA m b + 2 + 1 + 4 * j + 1)) (g (98 * b + 17 + 1 + 4 * t + 2)) (g (98 * b + 17 + 1 + 4 * t + 3)) (hC.2.2.1 _ ⟨j, p1, p2⟩) (fun _ => by rw [hgo _ (by omega)]; exact x1)
              rw [ec] at this
              exact this
            · obtain ⟨a1, ⟨a2, a3⟩, a4⟩ := iv_rm hup hZ hb q1
              have a5 := iv_rm_Z hZ hb q1 ⟨a2, a3⟩
              generalize hg : mx_rm f b (mx_cB f b) (mx_gB f b) t = g at a1 a2 a3 a4 a5 ⊢
              obtain ⟨⟨-, h20⟩, -, h6⟩ := hZ.1 b hb
              have hgo : ∀ i, 98 * b + 98 ≤ i → g i = f i := fun i hi => by rw [← hg]; exact mx_rm_o f h20 h6 q1 (by omega)
              have ec : mx_cC g m b = mx_cC f m b := mr_cC_cong (hgo _ (by omega))
              have en : mx_nm g (mx_CA m b + 2) j = mx_nm f (mx_CA m b + 2) j := hgo _ (by omega)
              have := iv_drC a1 a5 hm hb (j := j) (by rw [ec]; exact p1) (by rw [en, p2, ← q2]; exact fun z => ((a4 _).1 z).2 rfl)
              rw [ec] at this
              exact this
    · rw [if_neg he]
      exact ⟨hup, hZ⟩
theorem iv_gS (h : iv T K f) (hZ : iv_Z f) (hT : T ≤ 512) (hK : K + 1 ≤ T) (hm : m < 4) (hk : k < mx_nD f m) : iv T (K + 1) (mx_gS f m (mx_DA m k)) ∧ iv_Z (mx_gS f m (mx_DA m k)) := by
  obtain ⟨a1, a2⟩ := iv_gR h hZ hT hK hm hk
  obtain ⟨⟨d1, -⟩, -⟩ := id (h.2.1.1 m hm k hk)
  have h8 := (hZ.2.2.1 m hm).2
  have q10 := hZ.2.2.2.2
  have hCA : ∀ b, b < 3 → 526 ≤ mx_CA m b ∧ mx_CA m b + 2403 ≤ 29362 := fun b hb => by unfold mx_CA; omega
  unfold mx_gS
  rw [mr_gE_eq f hm d1.1 q10 (by unfold mx_DA; omega)]
  generalize mx_gR f m (mx_DA m k) = r at a1 a2 ⊢
  have q10' := q10
  have hh : ∀ i, (i < 29362 ∨ i = 29400) → (∀ m b, m < 4 → b < 3 → ¬ i = mx_CA m b + 1) → mx_nt (if mx_lv f m (mx_dB f (mx_DA m k)) then mz_u1 r.1 (mx_CA m (mx_dB f (mx_DA m k)) + 1) (r.1 (98 * mx_dB f (mx_DA m k) + 2)) else r.1) (mx_nQ f) (r.1 (mx_DA m k)) r.2.1 r.2.2 i = r.1 i := by
    intro i hi hne
    rw [mx_nt_o _ _ _ _ _ q10 (by omega)]
    split
    · rw [mz_u1_o _ _ (hne m _ hm d1.1)]
    · rfl
  refine ⟨a1.cong a2 (fun i hi hne _ => hh i hi hne), a2.cong (fun i hi hne _ => hh i (Or.inl hi) hne) ?_⟩
  have e := mx_nt_n (if mx_lv f m (mx_dB f (mx_DA m k)) then mz_u1 r.1 (mx_CA m (mx_dB f (mx_DA m k)) + 1) (r.1 (98 * mx_dB f (mx_DA m k) + 2)) else r.1) (mx_nQ f) (r.1 (mx_DA m k)) r.2.1 r.2.2
  have hn1 : mx_n1 (mx_nQ f) ≤ 10 := by unfold mx_n1; split <;> omega
  have hq : ∀ g : Nat → Int32, g 29362 = nI (mx_n1 (mx_nQ f)) → mx_qO g := fun g e => by
    have e2 : mx_nQ g = mx_n1 (mx_nQ f) := mr_nI_cl e (by omega)
    unfold mx_qO
    rw [e2]
    exact ⟨e, hn1⟩
  exact hq _ e
theorem iv_pb (h : iv T K f) (hZ : iv_Z f) (hT : T ≤ 512) (hm : m < 4) (hK : K + mx_nD f m ≤ T) : ∀ k, k ≤ mx_nD f m → (iv T (K + k) (mx_pb f m k).1 ∧ iv_Z (mx_pb f m k).1) ∧ ∀ i, 294 ≤ i ∧ i < 526 → (mx_pb f m k).1 i = f i
  | 0, _ => ⟨⟨h, hZ⟩, fun _ _ => rfl⟩
  | k + 1, hk => by
    obtain ⟨⟨a1, a2⟩, a3⟩ := iv_pb h hZ hT hm hK k (by omega)
    have en : mx_nD (mx_pb f m k).1 m = mx_nD f m := mr_nD_cong (a3 _ (by omega))
    have hk' : k < mx_nD (mx_pb f m k).1 m := by omega
    obtain ⟨b1, b2⟩ := iv_gS a1 a2 hT (by omega) hm hk'
    exact ⟨⟨b1, b2⟩, fun i hi => (mx_gS_o _ (iv_gI a1 a2 hT hm hk').2 hm hi).trans (a3 i hi)⟩
theorem iv_nod (h : iv T K f) (hZ : iv_Z f) (hm : m < 4) : iv T K (mz_u1 f (294 + 58 * m + 1) 0) ∧ iv_Z (mz_u1 f (294 + 58 * m + 1) 0) := by
  obtain ⟨⟨hB, hC⟩, ⟨hD, hN⟩, l0, l1⟩ := h
  obtain ⟨zB, zC, zN, zQ⟩ := hZ
  have ho : ∀ i, ¬ i = 294 + 58 * m + 1 → mz_u1 f (294 + 58 * m + 1) 0 i = f i := fun i hi => mz_u1_o _ _ hi
  have gbox : ∀ b', b' < 3 → ∀ i, 98 * b' ≤ i → i < 98 * b' + 98 → mz_u1 f (294 + 58 * m + 1) 0 i = f i := fun b' hb' i h1 h2 => ho i (by omega)
  have gcpy : ∀ m' b', m' < 4 → b' < 3 → ∀ i, mx_CA m' b' ≤ i → i < mx_CA m' b' + 2403 → mz_u1 f (294 + 58 * m + 1) 0 i = f i := fun m' b' hm' hb' i h1 h2 => ho i (by unfold mx_CA at *; omega)
  have n0 : mx_nD (mz_u1 f (294 + 58 * m + 1) 0) m = 0 := mr_nI_cl (n := 0) (by rw [mz_u1_s]; rfl) (by omega)
  have gdd : ∀ m', m' < 4 → ¬ m' = m → ∀ i, 294 + 58 * m' ≤ i → i < 294 + 58 * m' + 58 → mz_u1 f (294 + 58 * m + 1) 0 i = f i := fun m' hm' hne i h1 h2 => ho i (by omega)
  refine ⟨⟨⟨fun b' hb' => (hB b' hb').cong (zB b' hb').1.2 (gbox b' hb'), fun m' b' hm' hb' => (hC m' b' hm' hb').step (zC m' b' hm' hb').2 (gcpy m' b' hm' hb') (Or.inl ⟨gbox b' hb' _ (by omega) (by omega), by rw [gbox b' hb' (98 * b' + 1) (by omega) (by omega)]; exact Int.le_refl _⟩)⟩, ⟨fun m' hm' k hk => ?_, fun m' hm' => ?_⟩, ?_⟩, fun b' hb' => ?_, fun m' b' hm' hb' => ?_, fun m' hm' => ?_, ?_⟩
  · by_cases e : m' = m
    · rw [e, n0] at hk; omega
    · rw [mr_nD_cong (gdd m' hm' e _ (by omega) (by omega))] at hk
      have h8 := (zN m' hm').2
      refine (hD m' hm' k hk).step (fun j hj => gdd m' hm' e _ (by unfold mx_DA; omega) (by unfold mx_DA; omega)) ?_
      intro b' eb' hb' h1 h2 x
      rw [gcpy m' b' hm' hb' (mx_CA m' b') (by omega) (by omega), gbox b' hb' (98 * b' + 0) (by omega) (by omega)] at h2
      obtain ⟨x1, x2⟩ := x h2
      rw [gbox b' hb' (98 * b' + 1) (by omega) (by omega)]
      exact ⟨x1, fun hv => (iv_iC_cong (zC m' b' hm' hb').2 (fun i h1 h2 => gcpy m' b' hm' hb' i (by omega) h2) _).2 (x2 ((iv_iB_cong (zB b' hb').1.2 (gbox b' hb') _).1 hv))⟩
  · by_cases e : m' = m
    · subst e
      unfold iv_N
      rw [n0]
      exact ⟨fun k hk => absurd hk (by omega), fun i j _ hj => absurd hj (by omega)⟩
    · exact (hN m' hm').cong (zN m' hm').2 (fun i h1 h2 => gdd m' hm' e i (by omega) h2) (ho _ (by omega))
  · rw [ho 29400 (by omega)]; exact ⟨l0, l1⟩
  · unfold mx_bO mx_cB mx_gB
    rw [ho (98 * b' + 17) (by omega), ho (98 * b' + 4) (by omega)]
    exact zB b' hb'
  · have := ho (mx_CA m' b' + 2) (by unfold mx_CA; omega)
    unfold mx_cC
    rw [this]
    exact zC m' b' hm' hb'
  · by_cases e : m' = m
    · subst e
      unfold mx_nO
      rw [n0]
      exact ⟨by rw [mz_u1_s]; rfl, by omega⟩
    · unfold mx_nO mx_nD
      rw [gdd m' hm' e _ (by omega) (by omega)]
      exact zN m' hm'
  · unfold mx_qO mx_nQ
    rw [ho 29362 (by omega)]
    exact zQ
/-- a machine plays back -/
theorem iv_pB (h : iv T K f) (hZ : iv_Z f) (hT : T ≤ 512) (hm : m < 4) (hK : K + iv_s f ≤ T) : ((iv T (K + mx_nD f m) (mx_pB f m) ∧ iv_Z (mx_pB f m)) ∧ K + mx_nD f m + iv_s (mx_pB f m) ≤ T) ∧ (∀ k, k < mx_nD f m → mr_gI (mx_pb f m k).1 m k) ∧ mx_pO f m := by
  have hs : mx_nD f m ≤ iv_s f := by
    unfold iv_s
    rcases (show m = 0 ∨ m = 1 ∨ m = 2 ∨ m = 3 by omega) with rfl | rfl | rfl | rfl <;> omega
  have hpb := iv_pb h hZ hT hm (by omega)
  obtain ⟨⟨a1, a2⟩, a3⟩ := hpb (mx_nD f m) (Nat.le_refl _)
  obtain ⟨b1, b2⟩ := iv_nod a1 a2 hm
  have hgI : ∀ k, k < mx_nD f m → mr_gI (mx_pb f m k).1 m k ∧ mx_gO (mx_pb f m k).1 m (mx_DA m k) := fun k hk => by
    obtain ⟨⟨c1, c2⟩, c3⟩ := hpb k (by omega)
    exact iv_gI c1 c2 hT hm (by rw [mr_nD_cong (c3 _ (by omega))]; exact hk)
  refine ⟨⟨⟨b1, b2⟩, ?_⟩, fun k hk => (hgI k hk).1, hZ.2.2.1 m hm, fun k hk => (hgI k hk).2⟩
  have n0 : mx_nD (mx_pB f m) m = 0 := mr_nI_cl (n := 0) (by unfold mx_pB; rw [mz_u1_s]; rfl) (by omega)
  have no : ∀ m', m' < 4 → ¬ m' = m → mx_nD (mx_pB f m) m' = mx_nD f m' := fun m' hm' hne => mr_nD_cong (by unfold mx_pB; rw [mz_u1_o _ _ (by omega)]; exact a3 _ (by omega))
  unfold iv_s at hK ⊢
  rcases (show m = 0 ∨ m = 1 ∨ m = 2 ∨ m = 3 by omega) with rfl | rfl | rfl | rfl
  · rw [n0, no 1 (by omega) (by omega), no 2 (by omega) (by omega), no 3 (by omega) (by omega)]; omega
  · rw [n0, no 0 (by omega) (by omega), no 2 (by omega) (by omega), no 3 (by omega) (by omega)]; omega
  · rw [n0, no 0 (by omega) (by omega), no 1 (by omega) (by omega), no 3 (by omega) (by omega)]; omega
  · rw [n0, no 0 (by omega) (by omega), no 1 (by omega) (by omega), no 2 (by omega) (by omega)]; omega
end IV

