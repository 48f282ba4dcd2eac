/-! ===== the class: a State takes another's ===== -/
theorem mt_F_sa {G : mz_G} {O : Nat → Nat} {sz a : Nat} {g : Nat → Int32} (hO : O a = a) : mt_F (fun q => q = a) G (mz_sa G a g) O O sz sz :=
  ⟨Nat.le_refl _, fun q _ => ⟨rfl, fun hX => ⟨rfl, rfl, mz_u1_o _ _ (fun z => hX (by rw [z]; exact hO)), rfl, rfl⟩⟩⟩
theorem mr_S.cts {G : mz_G} {O : Nat → Nat} {sz σ : Nat} {f f' : Nat → Int32} {Λ : Nat → Nat → Nat} (h : mr_S G O sz σ f Λ) (g : Nat → Int32) (hg : ∀ w, w < 7 → g w = f' (29393 + w)) (e : ∀ i, i < 29393 ∨ 29400 ≤ i → f' i = f i) : mr_S (mz_sa G (σ + 5) g) O sz σ f' Λ ∧ mt_F (fun q => q = σ + 5) G (mz_sa G (σ + 5) g) O O sz sz := by
  obtain ⟨⟨⟨⟨⟨k0, o0, z0⟩, i4⟩, r0, r1, r2, r3⟩, ⟨⟨⟨k1, o1, z1⟩, n1⟩, hb⟩, ⟨⟨⟨k2, o2, z2⟩, n2⟩, hm⟩⟩, ⟨⟨t, hq⟩, ⟨⟨k5, o5, z5⟩, n5⟩, hw⟩, -⟩ := id h
  have hF : mt_F (fun q => q = σ + 5) G (mz_sa G (σ + 5) g) O O sz sz := mt_F_sa o5
  have en : mx_nQ f' = mx_nQ f := by unfold mx_nQ; rw [e _ (by omega)]
  obtain ⟨n10, -, -⟩ := t.b
  refine ⟨⟨⟨⟨⟨⟨k0, o0, z0⟩, ?_⟩, r0, r1, r2, r3⟩, ⟨⟨⟨k1, o1, z1⟩, n1⟩, hb⟩, ⟨⟨⟨k2, o2, z2⟩, n2⟩, hm⟩⟩, ⟨⟨?_, by rw [en, e _ (by omega)]; exact hq⟩, ⟨⟨k5, o5, z5⟩, n5⟩, fun w' h' => ?_⟩, fun c hc => h.bx hF c hc (fun q h1 h2 z => by omega) (fun i h1 h2 => e i (by omega)), fun k hk => h.mc hF k hk (fun q h1 h2 z => by omega) (fun i h1 h2 => e i (by omega)) (fun i h1 h2 => e i (by omega))⟩, hF⟩
  · show mz_u1 (mz_i G) (σ + 5) g σ 4 = _
    rw [mz_u1_o _ _ (by omega), i4, e _ (by omega)]
  · rw [en]
    exact (t.fr hF (fun z => by omega)).same (fun k j h1 h2 => (e (29362 + 1 + 3 * k + j) (by omega)).symm)
  · show mz_u1 (mz_i G) (σ + 5) g (σ + 5) w' = _
    rw [mz_u1_s]
    exact hg w' h'
/-- the rooms of a State that took another's -/
def mr_tS (f' : Nat → Int32) (Λ Λ' : Nat → Nat → Nat) : Nat → Nat → Nat := fun m => mr_tk f' m (Λ m) (Λ' m) 3
def mr_tN (f' : Nat → Int32) (Λ Λ' : Nat → Nat → Nat) (n : Nat) : Nat → Nat → Nat := fun m => if m < n then mr_tS f' Λ Λ' m else Λ m
theorem mr_Ph4 (Λ : Nat → Nat → Nat) : mr_Ph Λ = mr_p3 (Λ 0) + mr_p3 (Λ 1) + mr_p3 (Λ 2) + mr_p3 (Λ 3) := rfl
theorem mr_tk3_le {f' : Nat → Int32} {m : Nat} {Λ Λ' : Nat → Nat} (hle : ∀ b, b < 3 → mr_ph (mt_tl 4 (mx_cC f' m b) (Λ b) (Λ' b)) ≤ mr_ph (Λ b)) : mr_p3 (mr_tk f' m Λ Λ' 3) ≤ mr_p3 Λ := by
  have l0 := hle 0 (by omega)
  have l1 := hle 1 (by omega)
  have l2 := hle 2 (by omega)
  simp only [mr_p3, mr_tk]
  rw [if_pos (by omega), if_pos (by omega), if_pos (by omega)]
  omega
section MRS
variable (l : Launch) (E : mz_E) {G : mz_G} {O : Nat → Nat} {sz σ σ' : Nat} {f f' : Nat → Int32} {Λ Λ' : Nat → Nat → Nat}
theorem mr_tS_le (hS : mr_S G O sz σ f Λ) (hS' : mr_S G O sz σ' f' Λ') (m b : Nat) (hm : m < 4) (hb : b < 3) : mr_ph (mt_tl 4 (mx_cC f' m b) (Λ m b) (Λ' m b)) ≤ mr_ph (Λ m b) ∧ mr_ch (mt_tl 4 (mx_cC f' m b) (Λ m b) (Λ' m b)) := by
  obtain ⟨hY', hch'⟩ := (hS'.2.2.2 m hm).2.2 b hb
  have hlen : mx_cC f' m b * 4 ≤ Λ' m b := by
    obtain ⟨a, -, ⟨b1, -⟩, -⟩ := hY'.1.2
    exact b1
  obtain ⟨p1, p2, -⟩ := mr_ch_tl (hS.cL m b hm hb) hch' hlen
  exact ⟨by omega, p1⟩
theorem cs_takeFrom (hS : mr_S G O sz σ f Λ) (hS' : mr_S G O sz σ' f' Λ') (hd : σ + 73 ≤ σ' ∨ σ' + 73 ≤ σ) (U : Nat) (hU : U = mr_Ph Λ - mr_Ph (mr_tS f' Λ Λ')) : mz_M l E yX3_takeFrom cX3_takeFrom 3 none 6 U U [.ref σ, .ref σ'] G sz (fun v' G' sz' => v' = none ∧ ∃ O', mr_S G' O' sz' σ f' (mr_tS f' Λ Λ') ∧ mt_F (mr_Z σ) G G' O O' sz sz') := by
  have hle := mr_tS_le hS hS'
  have h3 : ∀ m, m < 4 → mr_p3 (mr_tS f' Λ Λ' m) ≤ mr_p3 (Λ m) := fun m hm => mr_tk3_le (fun b hb => (hle m b hm hb).1)
  have a0 := h3 0 (by omega)
  have a1 := h3 1 (by omega)
  have a2 := h3 2 (by omega)
  have a3 := h3 3 (by omega)
  have t0 : ∀ n, mr_Ph (mr_tN f' Λ Λ' n) = mr_p3 (mr_tN f' Λ Λ' n 0) + mr_p3 (mr_tN f' Λ Λ' n 1) + mr_p3 (mr_tN f' Λ Λ' n 2) + mr_p3 (mr_tN f' Λ Λ' n 3) := fun n => rfl
  have e4 : ∀ m, m < 4 → mr_tN f' Λ Λ' 4 m = mr_tS f' Λ Λ' m := fun m hm => if_pos hm
  have hsum : mr_Ph (mr_tN f' Λ Λ' 4) = mr_Ph (mr_tS f' Λ Λ') := by rw [t0, e4 0 (by omega), e4 1 (by omega), e4 2 (by omega), e4 3 (by omega)]; rfl
  obtain ⟨FB, hFB⟩ : ∃ F : Nat → Nat → Int32, F = fun b i => if i < 98 * b then f' i else f i := ⟨_, rfl⟩
  obtain ⟨FM, hFM⟩ : ∃ F : Nat → Nat → Int32, F = fun m i => if i < 294 + 58 * m ∨ (526 ≤ i ∧ i < 526 + 7209 * m) then f' i else f i := ⟨_, rfl⟩
  have hK := hS.1.1.1.1.1
  have hK' := hS'.1.1.1.1.1
  refine mz_start (by decide) (Nat.le_of_ble_eq_true rfl) ?_
  intro p e s m args below meth c hC hret hnm
  have fin : ∀ (G1 : mz_G) (O1 : Nat → Nat) (sz1 kn : Nat), kn ≤ U → mr_S G1 O1 sz1 σ (FM 4) (mr_tN f' Λ Λ' 4) → mt_F (mr_Z σ) G G1 O O1 sz sz1 → mz_V E p l e (mz_rm 6 U U) s m args below meth c 3 (kn) (kn) (mz_Z E below args s U U (fun v' G' sz' => v' = none ∧ ∃ O', mr_S G' O' sz' σ f' (mr_tS f' Λ Λ') ∧ mt_F (mr_Z σ) G G' O O' sz sz')) (G1) (sz1) (56) [some (.ref σ), some (.ref σ')] [] := by
    intro G1 O1 sz1 kn hkn hS1 hF1
    have hS1' := hS'.fr hF1 (fun q h1 h2 z => by unfold mr_Z at z; omega) (fun _ _ => rfl)
    obtain ⟨⟨⟨⟨⟨hK1, -⟩, -⟩, -, -, r21, r31⟩, -⟩, ⟨⟨tq, hq⟩, ⟨⟨k5, -⟩, n5⟩, -⟩, -⟩ := id hS1
    obtain ⟨⟨⟨⟨⟨hK1', -⟩, -⟩, -, -, r21', r31'⟩, -⟩, ⟨⟨tq', hq'⟩, -⟩, -⟩ := id hS1'
    have kq := tq.K
    have q10 := tq'.b.1
    have u2 : mt_tc 3 (mx_nQ f') 30 = 0 ∧ mt_ts 3 (mx_nQ f') 30 30 = 0 ∧ mt_tl 3 (mx_nQ f') 30 30 = 30 := by unfold mt_tc mt_ts mt_tl; rw [if_pos (by omega), if_pos (by omega), if_pos (by omega)]; exact ⟨rfl, rfl, rfl⟩
    obtain ⟨q1, q2, q3⟩ := u2
    refine mz_sn_ok hC tk_X3_takeFrom pk_RX3 4 [σ + 3, σ' + 3] rfl (by (repeat' apply And.intro) <;> first | exact True.intro | assumption | (simp only [mz_cm1, mz_c0, mz_c1, mz_c2, mz_c3, mz_c4, mz_c5, mz_c6, mz_c7, mz_c8, mz_c10, mz_c17, mz_c20, mz_c28, mz_c58, mz_c63, mz_c98, mz_c294, mz_c526, mz_c532, mz_c540, mz_c999, mz_c1900, mz_c2403, mz_c29362, mz_c29363, mz_c29364, mz_c29390, mz_c29393, mz_c29394, mz_c29398, mz_c29399, mz_c29400, mz_c29401, nI_add, pk_mul, pk_m1, mz_pp, mz_pq]; done) | omega | (simp only [mz_cm1, mz_c0, mz_c1, mz_c2, mz_c3, mz_c4, mz_c5, mz_c6, mz_c7, mz_c8, mz_c10, mz_c17, mz_c20, mz_c28, mz_c58, mz_c63, mz_c98, mz_c294, mz_c526, mz_c532, mz_c540, mz_c999, mz_c1900, mz_c2403, mz_c29362, mz_c29363, mz_c29364, mz_c29390, mz_c29393, mz_c29394, mz_c29398, mz_c29399, mz_c29400, mz_c29401, nI_add, pk_mul, pk_m1, mz_pp, mz_pq]; congr 1; omega)) ?_
    try simp only [mz_c0, mz_cm1]
    refine mz_Vcv hC tk_X3_takeFrom rfl md_X4_takeFrom lk_RX3_171 rfl (ct_takeFrom l E tq tq' (by omega)) (by show (vwCl[mz_K _ _]?).map _ = _; rw [kq]; rfl) ⟨Nat.le_of_ble_eq_true rfl, Nat.le_of_ble_eq_true rfl⟩ ⟨by simp only [mz_rm]; omega, by simp only [mz_rm]; omega⟩ (Nat.le_of_ble_eq_true rfl) (fun v2 G2 sz2 hp2 => ?_)
    obtain ⟨rfl, hs2, O2, t2, hF2⟩ := hp2
    have hsz : sz2 = sz1 := by omega
    rw [hsz] at t2 hF2 ⊢
    rw [q3] at t2
    refine mz_V.widen (k' := kn) (n' := kn) (by omega) (by omega) ?_
    have hS2 : mr_S G2 O2 sz1 σ (fun i => if i < 29393 then f' i else f i) (mr_tN f' Λ Λ' 4) := by
      refine hS1.nt (q' := mx_nQ f') hF2 (t2.same (fun k j h1 h2 => ?_)) ?_ (fun i hi => ?_)
      · show f' (29362 + 1 + 3 * k + j) = if 29362 + 1 + 3 * k + j < 29393 then _ else _
        rw [if_pos (by omega)]
      · show (if 29362 < 29393 then f' 29362 else f 29362) = _
        rw [if_pos (by omega)]
        exact hS'.2.1.1.2
      · rw [hFM]
        show (if i < 29393 then f' i else f i) = if i < 294 + 58 * 4 ∨ (526 ≤ i ∧ i < 526 + 7209 * 4) then f' i else f i
        by_cases h1 : i < 29362
        · rw [if_pos (by omega), if_pos (by omega)]
        · rw [if_neg (by omega), if_neg (by omega)]
    have hS2' := hS1'.fr hF2 (fun q h1 h2 z => by omega) (fun _ _ => rfl)
    obtain ⟨⟨⟨⟨⟨hK2, -⟩, i42⟩, -, -, r22, r32⟩, -⟩, ⟨-, ⟨⟨k52, -⟩, n52⟩, -⟩, -⟩ := id hS2
    obtain ⟨⟨⟨⟨⟨hK2', -⟩, i42'⟩, -, -, r22', r32'⟩, -⟩, ⟨-, ⟨⟨k52', -⟩, n52'⟩, hw2'⟩, -⟩ := id hS2'
    refine mz_sn_ok hC tk_X3_takeFrom pk_RX3 7 [σ' + 5, σ + 5] rfl (by (repeat' apply And.intro) <;> first | exact True.intro | assumption | (simp only [mz_cm1, mz_c0, mz_c1, mz_c2, mz_c3, mz_c4, mz_c5, mz_c6, mz_c7, mz_c8, mz_c10, mz_c17, mz_c20, mz_c28, mz_c58, mz_c63, mz_c98, mz_c294, mz_c526, mz_c532, mz_c540, mz_c999, mz_c1900, mz_c2403, mz_c29362, mz_c29363, mz_c29364, mz_c29390, mz_c29393, mz_c29394, mz_c29398, mz_c29399, mz_c29400, mz_c29401, nI_add, pk_mul, pk_m1, mz_pp, mz_pq]; done) | omega | (simp only [mz_cm1, mz_c0, mz_c1, mz_c2, mz_c3, mz_c4, mz_c5, mz_c6, mz_c7, mz_c8, mz_c10, mz_c17, mz_c20, mz_c28, mz_c58, mz_c63, mz_c98, mz_c294, mz_c526, mz_c532, mz_c540, mz_c999, mz_c1900, mz_c2403, mz_c29362, mz_c29363, mz_c29364, mz_c29390, mz_c29393, mz_c29394, mz_c29398, mz_c29399, mz_c29400, mz_c29401, nI_add, pk_mul, pk_m1, mz_pp, mz_pq]; congr 1; omega)) ?_
    try simp only [mz_c0, mz_cm1]
    refine mz_Vacopy hC tk_X3_takeFrom rfl lk_RX3_174 0 0 7 rfl rfl rfl k52' k52 (by omega) (by omega) (by omega) (by omega) (Nat.le_of_ble_eq_true rfl) (Nat.le_of_ble_eq_true rfl) ?_
    obtain ⟨g, hg⟩ : ∃ g, g = va_cpy (mz_i G2 (σ' + 5)) (mz_i G2 (σ + 5)) 0 0 7 := ⟨_, rfl⟩
    rw [← hg]
    obtain ⟨hS3, hF3⟩ := hS2.cts (f' := fun i => if i < 29400 then f' i else f i) g (fun w hw => by
      rw [hg]
      simp only [va_cpy]
      rw [if_pos (by omega), show 0 + (w - 0) = w by omega, hw2' w hw, if_pos (by omega)]) (fun i hi => by
      by_cases h1 : i < 29393
      · rw [if_pos (by omega), if_pos h1]
      · rw [if_neg (by omega), if_neg h1])
    have hS3' := hS2'.fr hF3 (fun q h1 h2 z => by omega) (fun _ _ => rfl)
    obtain ⟨G3, hG3⟩ : ∃ G3, G3 = mz_sa G2 (σ + 5) g := ⟨_, rfl⟩
    rw [← hG3] at hS3 hF3 hS3' ⊢
    have hK3 := hS3.1.1.1.1.1
    have hK3' := hS3'.1.1.1.1.1
    have i43' : mz_i G3 σ' 4 = f' 29400 + 1 := hS3'.1.1.1.2
    refine mz_sn_ok hC tk_X3_takeFrom pk_RX3 4 [] rfl (by (repeat' apply And.intro) <;> first | exact True.intro | assumption | (simp only [mz_cm1, mz_c0, mz_c1, mz_c2, mz_c3, mz_c4, mz_c5, mz_c6, mz_c7, mz_c8, mz_c10, mz_c17, mz_c20, mz_c28, mz_c58, mz_c63, mz_c98, mz_c294, mz_c526, mz_c532, mz_c540, mz_c999, mz_c1900, mz_c2403, mz_c29362, mz_c29363, mz_c29364, mz_c29390, mz_c29393, mz_c29394, mz_c29398, mz_c29399, mz_c29400, mz_c29401, nI_add, pk_mul, pk_m1, mz_pp, mz_pq, i43']; done) | omega | (simp only [mz_cm1, mz_c0, mz_c1, mz_c2, mz_c3, mz_c4, mz_c5, mz_c6, mz_c7, mz_c8, mz_c10, mz_c17, mz_c20, mz_c28, mz_c58, mz_c63, mz_c98, mz_c294, mz_c526, mz_c532, mz_c540, mz_c999, mz_c1900, mz_c2403, mz_c29362, mz_c29363, mz_c29364, mz_c29390, mz_c29393, mz_c29394, mz_c29398, mz_c29399, mz_c29400, mz_c29401, nI_add, pk_mul, pk_m1, mz_pp, mz_pq, i43']; congr 1; omega)) ?_
    try simp only [mz_c0, mz_cm1, i43']
    refine mz_Vreturn hC tk_X3_takeFrom rfl hret hkn hkn ?_
    obtain ⟨hS4, hF4⟩ := hS3.nx (f' 29400)
    refine ⟨rfl, O2, (hS4.cong (fun i hi => ?_)).lam (fun m b hm hb => by rw [e4 m hm]), hF1.tr ((hF2.mono (fun q hq => ?_)).tr ((hF3.mono (fun q hq => ?_)).tr (hF4.mono (fun q hq => ?_))))⟩
    · simp only [mz_u1]
      by_cases h1 : i = 29400
      · rw [if_pos h1, h1]
      · rw [if_neg h1, if_pos (by omega)]
    · unfold mr_Z; omega
    · unfold mr_Z; omega
    · unfold mr_Z; omega
  have machs : ∀ (d j : Nat) (G1 : mz_G) (O1 : Nat → Nat) (sz1 kn : Nat), j + d = 4 → mr_S G1 O1 sz1 σ (FM j) (mr_tN f' Λ Λ' j) → mt_F (mr_Z σ) G G1 O O1 sz sz1 → kn ≤ mr_Ph Λ - mr_Ph (mr_tN f' Λ Λ' j) → mz_V E p l e (mz_rm 6 U U) s m args below meth c 3 (kn) (kn) (mz_Z E below args s U U (fun v' G' sz' => v' = none ∧ ∃ O', mr_S G' O' sz' σ f' (mr_tS f' Λ Λ') ∧ mt_F (mr_Z σ) G G' O O' sz sz')) (G1) (sz1) (30) [some (.ref σ), some (.ref σ'), some (.int (nI j))] [] := by
    intro d
    induction d with
    | zero =>
      intro j G1 O1 sz1 kn hj hS1 hF1 hkn
      rw [show j = 4 by omega] at hS1 hkn ⊢
      refine mz_sn_ok hC tk_X3_takeFrom pk_RX3 2 [] rfl (by (repeat' apply And.intro) <;> first | exact True.intro | assumption | (simp only [mz_cm1, mz_c0, mz_c1, mz_c2, mz_c3, mz_c4, mz_c5, mz_c6, mz_c7, mz_c8, mz_c10, mz_c17, mz_c20, mz_c28, mz_c58, mz_c63, mz_c98, mz_c294, mz_c526, mz_c532, mz_c540, mz_c999, mz_c1900, mz_c2403, mz_c29362, mz_c29363, mz_c29364, mz_c29390, mz_c29393, mz_c29394, mz_c29398, mz_c29399, mz_c29400, mz_c29401, nI_add, pk_mul, pk_m1, mz_pp, mz_pq]; done) | omega | (simp only [mz_cm1, mz_c0, mz_c1, mz_c2, mz_c3, mz_c4, mz_c5, mz_c6, mz_c7, mz_c8, mz_c10, mz_c17, mz_c20, mz_c28, mz_c58, mz_c63, mz_c98, mz_c294, mz_c526, mz_c532, mz_c540, mz_c999, mz_c1900, mz_c2403, mz_c29362, mz_c29363, mz_c29364, mz_c29390, mz_c29393, mz_c29394, mz_c29398, mz_c29399, mz_c29400, mz_c29401, nI_add, pk_mul, pk_m1, mz_pp, mz_pq]; congr 1; omega)) ?_
      try simp only [mz_c0, mz_cm1]
      refine mz_br_t hC tk_X3_takeFrom rfl ((by show nI 4 ≤ nI 4; decide)) ?_
      refine mz_V.sub (lv' := [some (.ref σ), some (.ref σ')]) (by (repeat' apply And.intro) <;> first | with_reducible rfl | exact True.intro | (simp only [mz_cm1, mz_c0, mz_c1, mz_c2, mz_c3, mz_c4, mz_c5, mz_c6, mz_c7, mz_c8, mz_c10, mz_c17, mz_c20, mz_c28, mz_c58, mz_c63, mz_c98, mz_c294, mz_c526, mz_c532, mz_c540, mz_c999, mz_c1900, mz_c2403, mz_c29362, mz_c29363, mz_c29364, mz_c29390, mz_c29393, mz_c29394, mz_c29398, mz_c29399, mz_c29400, mz_c29401, nI_add, pk_mul, pk_m1, mz_pp, mz_pq]; done) | rfl) ?_
      exact fin G1 O1 sz1 kn (by omega) hS1 hF1
    | succ d ih =>
      intro j G1 O1 sz1 kn hj hS1 hF1 hkn
      have hj4 : j < 4 := by omega
      have hS1' := hS'.fr hF1 (fun q h1 h2 z => by unfold mr_Z at z; omega) (fun _ _ => rfl)
      obtain ⟨⟨⟨⟨⟨hK1, -⟩, -⟩, -, r11, -⟩, -, ⟨⟨⟨k2, -⟩, n2⟩, hrm⟩⟩, -, -, hmc⟩ := id hS1
      obtain ⟨⟨⟨⟨⟨hK1', -⟩, -⟩, -, r11', -⟩, -, ⟨⟨⟨k2', -⟩, n2'⟩, hrm'⟩⟩, -, -, hmc'⟩ := id hS1'
      have hrj := hrm j hj4
      have hrj' := hrm' j hj4
      have hMj := hmc j hj4
      have hMj' := hmc' j hj4
      rw [show mr_tN f' Λ Λ' j j = Λ j from if_neg (by omega)] at hMj
      have hKj := hMj.1.1.1.1
      have hdec : mr_Ph (mr_tN f' Λ Λ' (j + 1)) + mr_p3 (Λ j) = mr_Ph (mr_tN f' Λ Λ' j) + mr_p3 (mr_tS f' Λ Λ' j) := by
        rw [t0, t0]
        unfold mr_tN
        rcases (show j = 0 ∨ j = 1 ∨ j = 2 ∨ j = 3 by omega) with rfl | rfl | rfl | rfl <;> (simp (disch := omega) only [if_pos, if_neg, and_self, if_true, and_true, true_and, and_false, false_and, if_false]; omega)
      have hdn : ∀ n, n ≤ 4 → mr_Ph (mr_tN f' Λ Λ' 4) ≤ mr_Ph (mr_tN f' Λ Λ' n) ∧ mr_Ph (mr_tN f' Λ Λ' n) ≤ mr_Ph Λ := by
        intro n hn
        rw [t0, t0, mr_Ph4 Λ]
        unfold mr_tN
        rcases (show n = 0 ∨ n = 1 ∨ n = 2 ∨ n = 3 ∨ n = 4 by omega) with rfl | rfl | rfl | rfl | rfl <;> (simp (disch := omega) only [if_pos, if_neg, and_self, if_true, and_true, true_and, and_false, false_and, if_false]; omega)
      have d1 := hdn (j + 1) (by omega)
      have d2 := hdn j (by omega)
      have d3 := h3 j hj4
      refine mz_sn_ok hC tk_X3_takeFrom pk_RX3 2 [] rfl (by (repeat' apply And.intro) <;> first | exact True.intro | assumption | (simp only [mz_cm1, mz_c0, mz_c1, mz_c2, mz_c3, mz_c4, mz_c5, mz_c6, mz_c7, mz_c8, mz_c10, mz_c17, mz_c20, mz_c28, mz_c58, mz_c63, mz_c98, mz_c294, mz_c526, mz_c532, mz_c540, mz_c999, mz_c1900, mz_c2403, mz_c29362, mz_c29363, mz_c29364, mz_c29390, mz_c29393, mz_c29394, mz_c29398, mz_c29399, mz_c29400, mz_c29401, nI_add, pk_mul, pk_m1, mz_pp, mz_pq]; done) | omega | (simp only [mz_cm1, mz_c0, mz_c1, mz_c2, mz_c3, mz_c4, mz_c5, mz_c6, mz_c7, mz_c8, mz_c10, mz_c17, mz_c20, mz_c28, mz_c58, mz_c63, mz_c98, mz_c294, mz_c526, mz_c532, mz_c540, mz_c999, mz_c1900, mz_c2403, mz_c29362, mz_c29363, mz_c29364, mz_c29390, mz_c29393, mz_c29394, mz_c29398, mz_c29399, mz_c29400, mz_c29401, nI_add, pk_mul, pk_m1, mz_pp, mz_pq]; congr 1; omega)) ?_
      try simp only [mz_c0, mz_cm1]
      refine mz_br_f hC tk_X3_takeFrom rfl ((by show ¬ nI 4 ≤ nI j; exact nI_ge (by omega) (by omega))) ?_
      refine mz_sn_ok hC tk_X3_takeFrom pk_RX3 8 [σ + 2, j, σ + 21 + 13 * j, σ' + 2, j, σ' + 21 + 13 * j] rfl (by (repeat' apply And.intro) <;> first | exact True.intro | assumption | (simp only [mz_cm1, mz_c0, mz_c1, mz_c2, mz_c3, mz_c4, mz_c5, mz_c6, mz_c7, mz_c8, mz_c10, mz_c17, mz_c20, mz_c28, mz_c58, mz_c63, mz_c98, mz_c294, mz_c526, mz_c532, mz_c540, mz_c999, mz_c1900, mz_c2403, mz_c29362, mz_c29363, mz_c29364, mz_c29390, mz_c29393, mz_c29394, mz_c29398, mz_c29399, mz_c29400, mz_c29401, nI_add, pk_mul, pk_m1, mz_pp, mz_pq]; done) | omega | (simp only [mz_cm1, mz_c0, mz_c1, mz_c2, mz_c3, mz_c4, mz_c5, mz_c6, mz_c7, mz_c8, mz_c10, mz_c17, mz_c20, mz_c28, mz_c58, mz_c63, mz_c98, mz_c294, mz_c526, mz_c532, mz_c540, mz_c999, mz_c1900, mz_c2403, mz_c29362, mz_c29363, mz_c29364, mz_c29390, mz_c29393, mz_c29394, mz_c29398, mz_c29399, mz_c29400, mz_c29401, nI_add, pk_mul, pk_m1, mz_pp, mz_pq]; congr 1; omega)) ?_
      try simp only [mz_c0, mz_cm1]
      refine mz_Vcv hC tk_X3_takeFrom rfl md_X2_takeFrom lk_RX3_168 rfl (ck_takeFrom l E hMj hMj' hj4 (by omega) (fun b hb => (hle j b hj4 hb).1) (mr_p3 (Λ j) - mr_p3 (mr_tS f' Λ Λ' j)) rfl) (by show (vwCl[mz_K _ _]?).map _ = _; rw [hKj]; rfl) ⟨Nat.le_of_ble_eq_true rfl, Nat.le_of_ble_eq_true rfl⟩ ⟨by simp only [mz_rm]; omega, by simp only [mz_rm]; omega⟩ (Nat.le_of_ble_eq_true rfl) (fun v2 G2 sz2 hp2 => ?_)
      obtain ⟨rfl, O2, hK2, hF2⟩ := hp2
      refine mz_sn_ok hC tk_X3_takeFrom pk_RX3 2 [] rfl (by (repeat' apply And.intro) <;> first | exact True.intro | assumption | (simp only [mz_cm1, mz_c0, mz_c1, mz_c2, mz_c3, mz_c4, mz_c5, mz_c6, mz_c7, mz_c8, mz_c10, mz_c17, mz_c20, mz_c28, mz_c58, mz_c63, mz_c98, mz_c294, mz_c526, mz_c532, mz_c540, mz_c999, mz_c1900, mz_c2403, mz_c29362, mz_c29363, mz_c29364, mz_c29390, mz_c29393, mz_c29394, mz_c29398, mz_c29399, mz_c29400, mz_c29401, nI_add, pk_mul, pk_m1, mz_pp, mz_pq]; done) | omega | (simp only [mz_cm1, mz_c0, mz_c1, mz_c2, mz_c3, mz_c4, mz_c5, mz_c6, mz_c7, mz_c8, mz_c10, mz_c17, mz_c20, mz_c28, mz_c58, mz_c63, mz_c98, mz_c294, mz_c526, mz_c532, mz_c540, mz_c999, mz_c1900, mz_c2403, mz_c29362, mz_c29363, mz_c29364, mz_c29390, mz_c29393, mz_c29394, mz_c29398, mz_c29399, mz_c29400, mz_c29401, nI_add, pk_mul, pk_m1, mz_pp, mz_pq]; congr 1; omega)) ?_
      try simp only [mz_c0, mz_cm1]
      refine mz_V.sub (lv' := [some (.ref σ), some (.ref σ'), some (.int (nI (j + 1)))]) (by (repeat' apply And.intro) <;> first | with_reducible rfl | exact True.intro | (simp only [mz_cm1, mz_c0, mz_c1, mz_c2, mz_c3, mz_c4, mz_c5, mz_c6, mz_c7, mz_c8, mz_c10, mz_c17, mz_c20, mz_c28, mz_c58, mz_c63, mz_c98, mz_c294, mz_c526, mz_c532, mz_c540, mz_c999, mz_c1900, mz_c2403, mz_c29362, mz_c29363, mz_c29364, mz_c29390, mz_c29393, mz_c29394, mz_c29398, mz_c29399, mz_c29400, mz_c29401, nI_add, pk_mul, pk_m1, mz_pp, mz_pq]; done) | rfl) ?_
      have hS2 : mr_S G2 O2 sz2 σ (FM (j + 1)) (mr_tN f' Λ Λ' (j + 1)) := by
        have hK2' := hK2.cong (f' := FM (j + 1)) hj4 (fun i h1 h2 => by rw [hFM]; exact if_pos (by omega)) (fun b i hb h1 h2 => by rw [hFM]; exact if_pos (by unfold mx_CA at h1 h2; omega))
        have := hS1.mac hj4 hF2 hK2' (fun i h1 h2 => by
          rw [hFM]
          dsimp only
          by_cases h5 : i < 294 + 58 * j ∨ (526 ≤ i ∧ i < 526 + 7209 * j)
          · rw [if_pos (by omega), if_pos h5]
          · rw [if_neg (by omega), if_neg h5])
        refine this.lam (fun m b hm hb => ?_)
        unfold mr_tN
        simp only [mz_u1]
        by_cases hmj : m = j
        · rw [if_pos hmj, if_pos (by omega), hmj]
          rfl
        · rw [if_neg hmj]
          by_cases hlt : m < j
          · rw [if_pos (by omega), if_pos hlt]
          · rw [if_neg (by omega), if_neg hlt]
      exact ih (j + 1) G2 O2 sz2 _ (by omega) hS2 (hF1.tr (hF2.mono (fun q hq => by unfold mr_Z; omega))) (by omega)
  have boxes : ∀ (d j : Nat) (G1 : mz_G) (O1 : Nat → Nat), j + d = 3 → mr_S G1 O1 sz σ (FB j) Λ → mt_F (mr_Z σ) G G1 O O1 sz sz → mz_V E p l e (mz_rm 6 U U) s m args below meth c 3 (0) (0) (mz_Z E below args s U U (fun v' G' sz' => v' = none ∧ ∃ O', mr_S G' O' sz' σ f' (mr_tS f' Λ Λ') ∧ mt_F (mr_Z σ) G G' O O' sz sz')) (G1) (sz) (2) [some (.ref σ), some (.ref σ'), some (.int (nI j))] [] := by
    intro d
    induction d with
    | zero =>
      intro j G1 O1 hj hS1 hF1
      rw [show j = 3 by omega] at hS1 ⊢
      refine mz_sn_ok hC tk_X3_takeFrom pk_RX3 2 [] rfl (by (repeat' apply And.intro) <;> first | exact True.intro | assumption | (simp only [mz_cm1, mz_c0, mz_c1, mz_c2, mz_c3, mz_c4, mz_c5, mz_c6, mz_c7, mz_c8, mz_c10, mz_c17, mz_c20, mz_c28, mz_c58, mz_c63, mz_c98, mz_c294, mz_c526, mz_c532, mz_c540, mz_c999, mz_c1900, mz_c2403, mz_c29362, mz_c29363, mz_c29364, mz_c29390, mz_c29393, mz_c29394, mz_c29398, mz_c29399, mz_c29400, mz_c29401, nI_add, pk_mul, pk_m1, mz_pp, mz_pq]; done) | omega | (simp only [mz_cm1, mz_c0, mz_c1, mz_c2, mz_c3, mz_c4, mz_c5, mz_c6, mz_c7, mz_c8, mz_c10, mz_c17, mz_c20, mz_c28, mz_c58, mz_c63, mz_c98, mz_c294, mz_c526, mz_c532, mz_c540, mz_c999, mz_c1900, mz_c2403, mz_c29362, mz_c29363, mz_c29364, mz_c29390, mz_c29393, mz_c29394, mz_c29398, mz_c29399, mz_c29400, mz_c29401, nI_add, pk_mul, pk_m1, mz_pp, mz_pq]; congr 1; omega)) ?_
      try simp only [mz_c0, mz_cm1]
      refine mz_br_t hC tk_X3_takeFrom rfl ((by show nI 3 ≤ nI 3; decide)) ?_
      refine mz_sn_ok hC tk_X3_takeFrom pk_RX3 2 [] rfl (by (repeat' apply And.intro) <;> first | exact True.intro | assumption | (simp only [mz_cm1, mz_c0, mz_c1, mz_c2, mz_c3, mz_c4, mz_c5, mz_c6, mz_c7, mz_c8, mz_c10, mz_c17, mz_c20, mz_c28, mz_c58, mz_c63, mz_c98, mz_c294, mz_c526, mz_c532, mz_c540, mz_c999, mz_c1900, mz_c2403, mz_c29362, mz_c29363, mz_c29364, mz_c29390, mz_c29393, mz_c29394, mz_c29398, mz_c29399, mz_c29400, mz_c29401, nI_add, pk_mul, pk_m1, mz_pp, mz_pq]; done) | omega | (simp only [mz_cm1, mz_c0, mz_c1, mz_c2, mz_c3, mz_c4, mz_c5, mz_c6, mz_c7, mz_c8, mz_c10, mz_c17, mz_c20, mz_c28, mz_c58, mz_c63, mz_c98, mz_c294, mz_c526, mz_c532, mz_c540, mz_c999, mz_c1900, mz_c2403, mz_c29362, mz_c29363, mz_c29364, mz_c29390, mz_c29393, mz_c29394, mz_c29398, mz_c29399, mz_c29400, mz_c29401, nI_add, pk_mul, pk_m1, mz_pp, mz_pq]; congr 1; omega)) ?_
      try simp only [mz_c0, mz_cm1]
      refine mz_V.sub (lv' := [some (.ref σ), some (.ref σ'), some (.int (nI 0))]) (by (repeat' apply And.intro) <;> first | with_reducible rfl | exact True.intro | (simp only [mz_cm1, mz_c0, mz_c1, mz_c2, mz_c3, mz_c4, mz_c5, mz_c6, mz_c7, mz_c8, mz_c10, mz_c17, mz_c20, mz_c28, mz_c58, mz_c63, mz_c98, mz_c294, mz_c526, mz_c532, mz_c540, mz_c999, mz_c1900, mz_c2403, mz_c29362, mz_c29363, mz_c29364, mz_c29390, mz_c29393, mz_c29394, mz_c29398, mz_c29399, mz_c29400, mz_c29401, nI_add, pk_mul, pk_m1, mz_pp, mz_pq]; done) | rfl) ?_
      refine machs 4 0 G1 O1 sz 0 (by omega) ?_ hF1 (Nat.zero_le _)
      refine (hS1.cong (fun i hi => ?_)).lam (fun m b hm hb => by rw [show mr_tN f' Λ Λ' 0 m = Λ m from if_neg (by omega)])
      rw [hFM, hFB]
      dsimp only
      by_cases h1 : i < 294
      · rw [if_pos (by omega), if_pos (by omega)]
      · rw [if_neg (by omega), if_neg (by omega)]
    | succ d ih =>
      intro j G1 O1 hj hS1 hF1
      have hj3 : j < 3 := by omega
      have hS1' := hS'.fr hF1 (fun q h1 h2 z => by unfold mr_Z at z; omega) (fun _ _ => rfl)
      obtain ⟨⟨⟨⟨⟨hK1, -⟩, -⟩, r01, -⟩, ⟨⟨⟨k1, -⟩, n1⟩, hrb⟩, -⟩, -, hbx, -⟩ := id hS1
      obtain ⟨⟨⟨⟨⟨hK1', -⟩, -⟩, r01', -⟩, ⟨⟨⟨k1', -⟩, n1'⟩, hrb'⟩, -⟩, -, hbx', -⟩ := id hS1'
      have hrj := hrb j hj3
      have hrj' := hrb' j hj3
      have hBj := hbx j hj3
      have hBj' := hbx' j hj3
      have hKj := hBj.1.1.1.1
      refine mz_sn_ok hC tk_X3_takeFrom pk_RX3 2 [] rfl (by (repeat' apply And.intro) <;> first | exact True.intro | assumption | (simp only [mz_cm1, mz_c0, mz_c1, mz_c2, mz_c3, mz_c4, mz_c5, mz_c6, mz_c7, mz_c8, mz_c10, mz_c17, mz_c20, mz_c28, mz_c58, mz_c63, mz_c98, mz_c294, mz_c526, mz_c532, mz_c540, mz_c999, mz_c1900, mz_c2403, mz_c29362, mz_c29363, mz_c29364, mz_c29390, mz_c29393, mz_c29394, mz_c29398, mz_c29399, mz_c29400, mz_c29401, nI_add, pk_mul, pk_m1, mz_pp, mz_pq]; done) | omega | (simp only [mz_cm1, mz_c0, mz_c1, mz_c2, mz_c3, mz_c4, mz_c5, mz_c6, mz_c7, mz_c8, mz_c10, mz_c17, mz_c20, mz_c28, mz_c58, mz_c63, mz_c98, mz_c294, mz_c526, mz_c532, mz_c540, mz_c999, mz_c1900, mz_c2403, mz_c29362, mz_c29363, mz_c29364, mz_c29390, mz_c29393, mz_c29394, mz_c29398, mz_c29399, mz_c29400, mz_c29401, nI_add, pk_mul, pk_m1, mz_pp, mz_pq]; congr 1; omega)) ?_
      try simp only [mz_c0, mz_cm1]
      refine mz_br_f hC tk_X3_takeFrom rfl ((by show ¬ nI 3 ≤ nI j; exact nI_ge (by omega) (by omega))) ?_
      refine mz_sn_ok hC tk_X3_takeFrom pk_RX3 8 [σ + 1, j, σ + 6 + 5 * j, σ' + 1, j, σ' + 6 + 5 * j] rfl (by (repeat' apply And.intro) <;> first | exact True.intro | assumption | (simp only [mz_cm1, mz_c0, mz_c1, mz_c2, mz_c3, mz_c4, mz_c5, mz_c6, mz_c7, mz_c8, mz_c10, mz_c17, mz_c20, mz_c28, mz_c58, mz_c63, mz_c98, mz_c294, mz_c526, mz_c532, mz_c540, mz_c999, mz_c1900, mz_c2403, mz_c29362, mz_c29363, mz_c29364, mz_c29390, mz_c29393, mz_c29394, mz_c29398, mz_c29399, mz_c29400, mz_c29401, nI_add, pk_mul, pk_m1, mz_pp, mz_pq]; done) | omega | (simp only [mz_cm1, mz_c0, mz_c1, mz_c2, mz_c3, mz_c4, mz_c5, mz_c6, mz_c7, mz_c8, mz_c10, mz_c17, mz_c20, mz_c28, mz_c58, mz_c63, mz_c98, mz_c294, mz_c526, mz_c532, mz_c540, mz_c999, mz_c1900, mz_c2403, mz_c29362, mz_c29363, mz_c29364, mz_c29390, mz_c29393, mz_c29394, mz_c29398, mz_c29399, mz_c29400, mz_c29401, nI_add, pk_mul, pk_m1, mz_pp, mz_pq]; congr 1; omega)) ?_
      try simp only [mz_c0, mz_cm1]
      refine mz_Vcv hC tk_X3_takeFrom rfl md_X0_takeFrom lk_RX3_165 rfl (cb_takeFrom l E hBj hBj' (by omega) ⟨by omega, by omega⟩ ⟨by omega, by omega⟩) (by show (vwCl[mz_K _ _]?).map _ = _; rw [hKj]; rfl) ⟨Nat.le_of_ble_eq_true rfl, Nat.le_of_ble_eq_true rfl⟩ ⟨by simp only [mz_rm]; omega, by simp only [mz_rm]; omega⟩ (Nat.le_of_ble_eq_true rfl) (fun v2 G2 sz2 hp2 => ?_)
      obtain ⟨rfl, hs2, O2, hB2, hF2⟩ := hp2
      rw [← hs2]
      refine mz_sn_ok hC tk_X3_takeFrom pk_RX3 2 [] rfl (by (repeat' apply And.intro) <;> first | exact True.intro | assumption | (simp only [mz_cm1, mz_c0, mz_c1, mz_c2, mz_c3, mz_c4, mz_c5, mz_c6, mz_c7, mz_c8, mz_c10, mz_c17, mz_c20, mz_c28, mz_c58, mz_c63, mz_c98, mz_c294, mz_c526, mz_c532, mz_c540, mz_c999, mz_c1900, mz_c2403, mz_c29362, mz_c29363, mz_c29364, mz_c29390, mz_c29393, mz_c29394, mz_c29398, mz_c29399, mz_c29400, mz_c29401, nI_add, pk_mul, pk_m1, mz_pp, mz_pq]; done) | omega | (simp only [mz_cm1, mz_c0, mz_c1, mz_c2, mz_c3, mz_c4, mz_c5, mz_c6, mz_c7, mz_c8, mz_c10, mz_c17, mz_c20, mz_c28, mz_c58, mz_c63, mz_c98, mz_c294, mz_c526, mz_c532, mz_c540, mz_c999, mz_c1900, mz_c2403, mz_c29362, mz_c29363, mz_c29364, mz_c29390, mz_c29393, mz_c29394, mz_c29398, mz_c29399, mz_c29400, mz_c29401, nI_add, pk_mul, pk_m1, mz_pp, mz_pq]; congr 1; omega)) ?_
      try simp only [mz_c0, mz_cm1]
      refine mz_V.sub (lv' := [some (.ref σ), some (.ref σ'), some (.int (nI (j + 1)))]) (by (repeat' apply And.intro) <;> first | with_reducible rfl | exact True.intro | (simp only [mz_cm1, mz_c0, mz_c1, mz_c2, mz_c3, mz_c4, mz_c5, mz_c6, mz_c7, mz_c8, mz_c10, mz_c17, mz_c20, mz_c28, mz_c58, mz_c63, mz_c98, mz_c294, mz_c526, mz_c532, mz_c540, mz_c999, mz_c1900, mz_c2403, mz_c29362, mz_c29363, mz_c29364, mz_c29390, mz_c29393, mz_c29394, mz_c29398, mz_c29399, mz_c29400, mz_c29401, nI_add, pk_mul, pk_m1, mz_pp, mz_pq]; done) | rfl) ?_
      refine ih (j + 1) G2 O2 (by omega) ?_ (hF1.tr (hF2.mono (fun q hq => by unfold mr_Z; rcases hq with hq | hq | hq <;> omega)))
      refine hS1.box hj3 hF2 (hB2.cong (f' := FB (j + 1)) (fun i h1 h2 => by rw [hFB]; exact if_pos (by omega))) (fun i hi => ?_)
      rw [hFB]
      dsimp only
      by_cases h5 : i < 98 * j
      · rw [if_pos (by omega), if_pos h5]
      · rw [if_neg (by omega), if_neg h5]
  refine mz_sn_ok hC tk_X3_takeFrom pk_RX3 2 [] rfl (by (repeat' apply And.intro) <;> first | exact True.intro | assumption | (simp only [mz_cm1, mz_c0, mz_c1, mz_c2, mz_c3, mz_c4, mz_c5, mz_c6, mz_c7, mz_c8, mz_c10, mz_c17, mz_c20, mz_c28, mz_c58, mz_c63, mz_c98, mz_c294, mz_c526, mz_c532, mz_c540, mz_c999, mz_c1900, mz_c2403, mz_c29362, mz_c29363, mz_c29364, mz_c29390, mz_c29393, mz_c29394, mz_c29398, mz_c29399, mz_c29400, mz_c29401, nI_add, pk_mul, pk_m1, mz_pp, mz_pq]; done) | omega | (simp only [mz_cm1, mz_c0, mz_c1, mz_c2, mz_c3, mz_c4, mz_c5, mz_c6, mz_c7, mz_c8, mz_c10, mz_c17, mz_c20, mz_c28, mz_c58, mz_c63, mz_c98, mz_c294, mz_c526, mz_c532, mz_c540, mz_c999, mz_c1900, mz_c2403, mz_c29362, mz_c29363, mz_c29364, mz_c29390, mz_c29393, mz_c29394, mz_c29398, mz_c29399, mz_c29400, mz_c29401, nI_add, pk_mul, pk_m1, mz_pp, mz_pq]; congr 1; omega)) ?_
  try simp only [mz_c0, mz_cm1]
  refine mz_V.sub (lv' := [some (.ref σ), some (.ref σ'), some (.int (nI 0))]) (by (repeat' apply And.intro) <;> first | with_reducible rfl | exact True.intro | (simp only [mz_cm1, mz_c0, mz_c1, mz_c2, mz_c3, mz_c4, mz_c5, mz_c6, mz_c7, mz_c8, mz_c10, mz_c17, mz_c20, mz_c28, mz_c58, mz_c63, mz_c98, mz_c294, mz_c526, mz_c532, mz_c540, mz_c999, mz_c1900, mz_c2403, mz_c29362, mz_c29363, mz_c29364, mz_c29390, mz_c29393, mz_c29394, mz_c29398, mz_c29399, mz_c29400, mz_c29401, nI_add, pk_mul, pk_m1, mz_pp, mz_pq]; done) | rfl) ?_
  refine boxes 3 0 G O (by omega) (hS.cong (fun i hi => ?_)) mt_F.rf
  rw [hFB]
  exact if_neg (by omega)
end MRS

