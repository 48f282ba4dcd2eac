/-! ===== the class: all deeds of a machine are played back ===== -/
theorem mt_gr_chN {len : Nat} (h : mr_ch len) (n : Nat) : mr_ch (mt_gr 4 532 len n) ∧ mr_ph (mt_gr 4 532 len n) ≤ mr_ph len := by
  by_cases hn : n ≤ 532
  · exact mt_gr_ch h hn
  · have big : ∀ d, mt_gr 4 532 len (532 + d) = 2128 := by
      intro d
      induction d with
      | zero =>
        have h1 := (mt_gr_ch h (n := 532) (by omega)).1
        have h2 : 532 * 4 ≤ mt_gr 4 532 len 532 := by
          rcases mt_gr_ge 4 532 len 532 (by omega) with q | q
          · exact q
          · omega
        unfold mr_ch at h1
        show mt_gr 4 532 len 532 = 2128
        omega
      | succ d ih =>
        show mt_gl 4 532 (532 + d) (mt_gr 4 532 len (532 + d)) = 2128
        rw [ih]
        unfold mt_gl
        rw [if_neg (by omega), Nat.min_eq_left (by omega)]
    obtain ⟨d, rfl⟩ := Nat.exists_eq_add_of_le (show 532 ≤ n by omega)
    rw [big d]
    exact ⟨by unfold mr_ch; omega, Nat.zero_le _⟩
def mr_cL (Λ : Nat → Nat → Nat) : Prop := ∀ m b, m < 4 → b < 3 → mr_ch (Λ m b)
theorem mr_S.cL {G : mz_G} {O : Nat → Nat} {sz σ : Nat} {f : Nat → Int32} {Λ : Nat → Nat → Nat} (h : mr_S G O sz σ f Λ) : mr_cL Λ := fun m b hm hb => ((h.2.2.2 m hm).2.2 b hb).2
theorem mr_lg_ok {Λ : Nat → Nat → Nat} (h : mr_cL Λ) {m b : Nat} (hm : m < 4) (hb : b < 3) (N : Nat) : mr_cL (mr_lg Λ m b N) ∧ mr_Ph (mr_lg Λ m b N) ≤ mr_Ph Λ := by
  obtain ⟨h1, h2⟩ := mt_gr_chN (h m b hm hb) N
  refine ⟨fun m' b' hm' hb' => ?_, ?_⟩
  · unfold mr_lg
    by_cases e1 : m' = m
    · subst e1
      rw [mz_u1_s]
      by_cases e2 : b' = b
      · subst e2
        rw [mz_u1_s]
        exact h1
      · rw [mz_u1_o _ _ e2]
        exact h _ _ hm' hb'
    · rw [mz_u1_o _ _ e1]
      exact h _ _ hm' hb'
  · have := mr_Ph_u Λ hm hb (mt_gr 4 532 (Λ m b) N)
    unfold mr_lg
    omega
/-- the rooms, deed by deed -/
def mr_pL (f : Nat → Int32) (m : Nat) (Λ : Nat → Nat → Nat) : Nat → (Nat → Nat → Nat)
  | 0 => Λ
  | k + 1 => mr_lg (mr_pL f m Λ k) m (mx_dB (mx_pb f m k).1 (mx_DA m k)) (mx_cC (mx_gR (mx_pb f m k).1 m (mx_DA m k)).1 m (mx_dB (mx_pb f m k).1 (mx_DA m k)))
theorem mr_pL_ok {f : Nat → Int32} {m n : Nat} (hm : m < 4) {Λ : Nat → Nat → Nat} (h : mr_cL Λ) (hP : ∀ k, k < n → mr_gI (mx_pb f m k).1 m k) : ∀ k, k ≤ n → mr_cL (mr_pL f m Λ k)
  | 0, _ => h
  | k + 1, hk => (mr_lg_ok (mr_pL_ok hm h hP k (by omega)) hm (hP k (by omega)).1.1.1 _).1
theorem mr_pL_mo {f : Nat → Int32} {m n : Nat} (hm : m < 4) {Λ : Nat → Nat → Nat} (h : mr_cL Λ) (hP : ∀ k, k < n → mr_gI (mx_pb f m k).1 m k) : ∀ (d k : Nat), k + d ≤ n → mr_Ph (mr_pL f m Λ (k + d)) ≤ mr_Ph (mr_pL f m Λ k)
  | 0, k, _ => Nat.le_refl _
  | d + 1, k, hk => Nat.le_trans (mr_lg_ok (mr_pL_ok hm h hP (k + d) (by omega)) hm (hP (k + d) (by omega)).1.1.1 _).2 (mr_pL_mo hm h hP d k (by omega))
section MRS
variable (l : Launch) (E : mz_E) {G : mz_G} {O : Nat → Nat} {sz σ : Nat} {f : Nat → Int32} {Λ : Nat → Nat → Nat}
theorem mr_S.gO (h : mr_S G O sz σ f Λ) {m k : Nat} (hm : m < 4) (hI : mr_gI f m k) : mx_gO f m (mx_DA m k) := ⟨hI.1.1, h.bO hI.1.1.1, h.cO hm hI.1.1.1 (by omega), h.qO, hI.2.2.2⟩
theorem cs_playDeeds (hS : mr_S G O sz σ f Λ) (m0 n : Nat) (hm : m0 < 4) (hn : n = mx_nD f m0) (hP : ∀ k, k < n → mr_gI (mx_pb f m0 k).1 m0 k) (U : Nat) (hU : U = mr_Ph Λ - mr_Ph (mr_pL f m0 Λ n)) : mz_M l E yX3_playDeeds cX3_playDeeds 4 (some .int) 9 U U [.ref σ, .ref (σ + 21 + 13 * m0)] G sz (fun v' G' sz' => v' = some (.int (nI (mx_pb f m0 n).2)) ∧ ∃ O', mr_S G' O' sz' σ (mx_pB f m0) (mr_pL f m0 Λ n) ∧ mt_F (mr_Z σ) G G' O O' sz sz') := by
  have hcL := hS.cL
  have n8 := (hS.nO hm).2
  rw [← hn] at n8
  have hall := mr_pL_mo hm hcL hP
  refine mz_start (by decide) (Nat.le_of_ble_eq_true rfl) ?_
  intro p e s m args below meth c hC hret hnm
  have loop : ∀ (d k : Nat) (G1 : mz_G) (O1 : Nat → Nat) (sz1 kn : Nat), k + d = n → mr_S G1 O1 sz1 σ (mx_pb f m0 k).1 (mr_pL f m0 Λ k) → mx_nD (mx_pb f m0 k).1 m0 = n → mt_F (mr_Z σ) G G1 O O1 sz sz1 → kn ≤ mr_Ph Λ - mr_Ph (mr_pL f m0 Λ k) → mz_V E p l e (mz_rm 9 U U) s m args below meth c 4 (kn) (kn) (mz_Z E below args s U U (fun v' G' sz' => v' = some (.int (nI (mx_pb f m0 n).2)) ∧ ∃ O', mr_S G' O' sz' σ (mx_pB f m0) (mr_pL f m0 Λ n) ∧ mt_F (mr_Z σ) G G' O O' sz sz')) (G1) (sz1) (4) [some (.ref σ), some (.ref (σ + 21 + 13 * m0)), some (.int (nI (mx_pb f m0 k).2)), some (.int (nI k))] [] := by
    intro d
    induction d with
    | zero =>
      intro k G1 O1 sz1 kn hk hS1 hn1 hF1 hkn
      rw [show k = n by omega] at hS1 hn1 hkn ⊢
      obtain ⟨⟨hKm, rm2⟩, td⟩ := (hS1.2.2.2 m0 hm).d
      rw [hn1] at td
      have kd := td.K
      have sd := td.s
      refine mz_sn_ok hC tk_X3_playDeeds pk_RX3 4 [σ + 21 + 13 * m0 + 2] rfl (by (repeat' apply And.intro) <;> first | exact True.intro | assumption | (simp only [mz_cm1, mz_c0, mz_c1, mz_c2, mz_c3, mz_c4, mz_c5, mz_c6, mz_c7, mz_c8, mz_c10, mz_c17, mz_c20, mz_c28, mz_c58, mz_c63, mz_c98, mz_c294, mz_c526, mz_c532, mz_c540, mz_c999, mz_c1900, mz_c2403, mz_c29362, mz_c29363, mz_c29364, mz_c29390, mz_c29393, mz_c29394, mz_c29398, mz_c29399, mz_c29400, mz_c29401, nI_add, pk_mul, pk_m1, mz_pp, mz_pq, sd]; done) | omega | (simp only [mz_cm1, mz_c0, mz_c1, mz_c2, mz_c3, mz_c4, mz_c5, mz_c6, mz_c7, mz_c8, mz_c10, mz_c17, mz_c20, mz_c28, mz_c58, mz_c63, mz_c98, mz_c294, mz_c526, mz_c532, mz_c540, mz_c999, mz_c1900, mz_c2403, mz_c29362, mz_c29363, mz_c29364, mz_c29390, mz_c29393, mz_c29394, mz_c29398, mz_c29399, mz_c29400, mz_c29401, nI_add, pk_mul, pk_m1, mz_pp, mz_pq, sd]; congr 1; omega)) ?_
      try simp only [mz_c0, mz_cm1, sd]
      refine mz_br_t hC tk_X3_playDeeds rfl ((by show nI n ≤ nI n; exact nI_le (by omega) (by omega))) ?_
      refine mz_sn_ok hC tk_X3_playDeeds pk_RX3 2 [σ + 21 + 13 * m0 + 2] rfl (by (repeat' apply And.intro) <;> first | exact True.intro | assumption | (simp only [mz_cm1, mz_c0, mz_c1, mz_c2, mz_c3, mz_c4, mz_c5, mz_c6, mz_c7, mz_c8, mz_c10, mz_c17, mz_c20, mz_c28, mz_c58, mz_c63, mz_c98, mz_c294, mz_c526, mz_c532, mz_c540, mz_c999, mz_c1900, mz_c2403, mz_c29362, mz_c29363, mz_c29364, mz_c29390, mz_c29393, mz_c29394, mz_c29398, mz_c29399, mz_c29400, mz_c29401, nI_add, pk_mul, pk_m1, mz_pp, mz_pq]; done) | omega | (simp only [mz_cm1, mz_c0, mz_c1, mz_c2, mz_c3, mz_c4, mz_c5, mz_c6, mz_c7, mz_c8, mz_c10, mz_c17, mz_c20, mz_c28, mz_c58, mz_c63, mz_c98, mz_c294, mz_c526, mz_c532, mz_c540, mz_c999, mz_c1900, mz_c2403, mz_c29362, mz_c29363, mz_c29364, mz_c29390, mz_c29393, mz_c29394, mz_c29398, mz_c29399, mz_c29400, mz_c29401, nI_add, pk_mul, pk_m1, mz_pp, mz_pq]; congr 1; omega)) ?_
      try simp only [mz_c0, mz_cm1]
      refine mz_Vcv hC tk_X3_playDeeds rfl md_X4_eraseAll lk_RX3_108 rfl (ct_eraseAll l E td) (by show (vwCl[mz_K _ _]?).map _ = _; rw [kd]; rfl) ⟨Nat.le_of_ble_eq_true rfl, Nat.le_of_ble_eq_true rfl⟩ ⟨by simp only [mz_rm]; omega, by simp only [mz_rm]; omega⟩ (Nat.le_of_ble_eq_true rfl) (fun v2 G2 sz2 hp2 => ?_)
      obtain ⟨rfl, hs9, t2, hF2⟩ := hp2
      rw [← hs9]
      refine mz_sn_ok hC tk_X3_playDeeds pk_RX3 1 [] rfl (by (repeat' apply And.intro) <;> first | exact True.intro | assumption | (simp only [mz_cm1, mz_c0, mz_c1, mz_c2, mz_c3, mz_c4, mz_c5, mz_c6, mz_c7, mz_c8, mz_c10, mz_c17, mz_c20, mz_c28, mz_c58, mz_c63, mz_c98, mz_c294, mz_c526, mz_c532, mz_c540, mz_c999, mz_c1900, mz_c2403, mz_c29362, mz_c29363, mz_c29364, mz_c29390, mz_c29393, mz_c29394, mz_c29398, mz_c29399, mz_c29400, mz_c29401, nI_add, pk_mul, pk_m1, mz_pp, mz_pq]; done) | omega | (simp only [mz_cm1, mz_c0, mz_c1, mz_c2, mz_c3, mz_c4, mz_c5, mz_c6, mz_c7, mz_c8, mz_c10, mz_c17, mz_c20, mz_c28, mz_c58, mz_c63, mz_c98, mz_c294, mz_c526, mz_c532, mz_c540, mz_c999, mz_c1900, mz_c2403, mz_c29362, mz_c29363, mz_c29364, mz_c29390, mz_c29393, mz_c29394, mz_c29398, mz_c29399, mz_c29400, mz_c29401, nI_add, pk_mul, pk_m1, mz_pp, mz_pq]; congr 1; omega)) ?_
      try simp only [mz_c0, mz_cm1]
      refine mz_Vireturn hC tk_X3_playDeeds rfl hret rfl (by omega) (by omega) ?_
      refine ⟨rfl, O1, ?_, hF1.tr (hF2.mono (fun q hq => by unfold mr_Z; omega))⟩
      unfold mx_pB
      rw [← hn]
      exact hS1.dd hm hF2 (n' := 0) (t2.same (fun k' j' h1 h2 => absurd h1 (by omega))) (by rw [mz_u1_s]; rfl) (fun i hi => mz_u1_o _ _ (by omega))
    | succ d ih =>
      intro k G1 O1 sz1 kn hk hS1 hn1 hF1 hkn
      obtain ⟨⟨hKm, rm2⟩, td⟩ := (hS1.2.2.2 m0 hm).d
      rw [hn1] at td
      have kd := td.K
      have sd := td.s
      have hK1 := hS1.1.1.1.1.1
      have hIk := hP k (by omega)
      have m1 := hall (d + 1) k (by omega)
      have m2 := hall d (k + 1) (by omega)
      have m3 := hall k 0 (by omega)
      have m4 := hall 1 k (by omega)
      rw [show k + (d + 1) = n by omega] at m1
      rw [show k + 1 + d = n by omega] at m2
      rw [Nat.zero_add] at m3
      have eL : mr_pL f m0 Λ (k + 1) = mr_lg (mr_pL f m0 Λ k) m0 (mx_dB (mx_pb f m0 k).1 (mx_DA m0 k)) (mx_cC (mx_gR (mx_pb f m0 k).1 m0 (mx_DA m0 k)).1 m0 (mx_dB (mx_pb f m0 k).1 (mx_DA m0 k))) := rfl
      have e0 : mr_pL f m0 Λ 0 = Λ := rfl
      rw [e0] at m3
      refine mz_sn_ok hC tk_X3_playDeeds pk_RX3 4 [σ + 21 + 13 * m0 + 2] rfl (by (repeat' apply And.intro) <;> first | exact True.intro | assumption | (simp only [mz_cm1, mz_c0, mz_c1, mz_c2, mz_c3, mz_c4, mz_c5, mz_c6, mz_c7, mz_c8, mz_c10, mz_c17, mz_c20, mz_c28, mz_c58, mz_c63, mz_c98, mz_c294, mz_c526, mz_c532, mz_c540, mz_c999, mz_c1900, mz_c2403, mz_c29362, mz_c29363, mz_c29364, mz_c29390, mz_c29393, mz_c29394, mz_c29398, mz_c29399, mz_c29400, mz_c29401, nI_add, pk_mul, pk_m1, mz_pp, mz_pq, sd]; done) | omega | (simp only [mz_cm1, mz_c0, mz_c1, mz_c2, mz_c3, mz_c4, mz_c5, mz_c6, mz_c7, mz_c8, mz_c10, mz_c17, mz_c20, mz_c28, mz_c58, mz_c63, mz_c98, mz_c294, mz_c526, mz_c532, mz_c540, mz_c999, mz_c1900, mz_c2403, mz_c29362, mz_c29363, mz_c29364, mz_c29390, mz_c29393, mz_c29394, mz_c29398, mz_c29399, mz_c29400, mz_c29401, nI_add, pk_mul, pk_m1, mz_pp, mz_pq, sd]; congr 1; omega)) ?_
      try simp only [mz_c0, mz_cm1, sd]
      refine mz_br_f hC tk_X3_playDeeds rfl ((by show ¬ nI n ≤ nI k; exact nI_ge (by omega) (by omega))) ?_
      refine mz_sn_ok hC tk_X3_playDeeds pk_RX3 3 [] rfl (by (repeat' apply And.intro) <;> first | exact True.intro | assumption | (simp only [mz_cm1, mz_c0, mz_c1, mz_c2, mz_c3, mz_c4, mz_c5, mz_c6, mz_c7, mz_c8, mz_c10, mz_c17, mz_c20, mz_c28, mz_c58, mz_c63, mz_c98, mz_c294, mz_c526, mz_c532, mz_c540, mz_c999, mz_c1900, mz_c2403, mz_c29362, mz_c29363, mz_c29364, mz_c29390, mz_c29393, mz_c29394, mz_c29398, mz_c29399, mz_c29400, mz_c29401, nI_add, pk_mul, pk_m1, mz_pp, mz_pq]; done) | omega | (simp only [mz_cm1, mz_c0, mz_c1, mz_c2, mz_c3, mz_c4, mz_c5, mz_c6, mz_c7, mz_c8, mz_c10, mz_c17, mz_c20, mz_c28, mz_c58, mz_c63, mz_c98, mz_c294, mz_c526, mz_c532, mz_c540, mz_c999, mz_c1900, mz_c2403, mz_c29362, mz_c29363, mz_c29364, mz_c29390, mz_c29393, mz_c29394, mz_c29398, mz_c29399, mz_c29400, mz_c29401, nI_add, pk_mul, pk_m1, mz_pp, mz_pq]; congr 1; omega)) ?_
      try simp only [mz_c0, mz_cm1]
      refine mz_Vcv hC tk_X3_playDeeds rfl md_X3_playDeed lk_RX3_104 rfl (cs_playDeed l E hS1 m0 k (mx_dB (mx_pb f m0 k).1 (mx_DA m0 k)) hm (by omega) hIk rfl (mx_gR (mx_pb f m0 k).1 m0 (mx_DA m0 k)) rfl (mr_Ph (mr_pL f m0 Λ k) - mr_Ph (mr_pL f m0 Λ (k + 1))) rfl) (by show (vwCl[mz_K _ _]?).map _ = _; rw [hK1]; rfl) ⟨Nat.le_of_ble_eq_true rfl, Nat.le_of_ble_eq_true rfl⟩ ⟨by simp only [mz_rm]; omega, by simp only [mz_rm]; omega⟩ (Nat.le_of_ble_eq_true rfl) (fun v2 G2 sz2 hp2 => ?_)
      obtain ⟨rfl, O2, hS2, hF2⟩ := hp2
      rw [← eL] at hS2
      have hS2' : mr_S G2 O2 sz2 σ (mx_pb f m0 (k + 1)).1 (mr_pL f m0 Λ (k + 1)) := hS2
      have hn2 : mx_nD (mx_pb f m0 (k + 1)).1 m0 = n := by
        rw [← hn1]
        exact mr_nD_cong (mx_gS_o _ (hS1.gO hm hIk) hm (by omega))
      have en : (mx_pb f m0 (k + 1)).2 = (mx_pb f m0 k).2 + mx_gn (mx_pb f m0 k).1 m0 (mx_DA m0 k) := rfl
      have := ih (k + 1) G2 O2 sz2 (kn + (mr_Ph (mr_pL f m0 Λ k) - mr_Ph (mr_pL f m0 Λ (k + 1)))) (by omega) hS2' hn2 (hF1.tr hF2) (by omega)
      rw [en] at this
      unfold mx_gn at this
      refine mz_sn_ok hC tk_X3_playDeeds pk_RX3 1 [] rfl (by (repeat' apply And.intro) <;> first | exact True.intro | assumption | (simp only [mz_cm1, mz_c0, mz_c1, mz_c2, mz_c3, mz_c4, mz_c5, mz_c6, mz_c7, mz_c8, mz_c10, mz_c17, mz_c20, mz_c28, mz_c58, mz_c63, mz_c98, mz_c294, mz_c526, mz_c532, mz_c540, mz_c999, mz_c1900, mz_c2403, mz_c29362, mz_c29363, mz_c29364, mz_c29390, mz_c29393, mz_c29394, mz_c29398, mz_c29399, mz_c29400, mz_c29401, nI_add, pk_mul, pk_m1, mz_pp, mz_pq]; done) | omega | (simp only [mz_cm1, mz_c0, mz_c1, mz_c2, mz_c3, mz_c4, mz_c5, mz_c6, mz_c7, mz_c8, mz_c10, mz_c17, mz_c20, mz_c28, mz_c58, mz_c63, mz_c98, mz_c294, mz_c526, mz_c532, mz_c540, mz_c999, mz_c1900, mz_c2403, mz_c29362, mz_c29363, mz_c29364, mz_c29390, mz_c29393, mz_c29394, mz_c29398, mz_c29399, mz_c29400, mz_c29401, nI_add, pk_mul, pk_m1, mz_pp, mz_pq]; congr 1; omega)) ?_
      try simp only [mz_c0, mz_cm1]
      by_cases ho : nI 2 ≤ (mx_gR (mx_pb f m0 k).1 m0 (mx_DA m0 k)).2.1
      · rw [if_pos ho] at this
        refine mz_br_t hC tk_X3_playDeeds rfl ((by show mz_c 1 < (mx_gR (mx_pb f m0 k).1 m0 (mx_DA m0 k)).2.1; show nI 1 < _; rw [mz_leI, nI_toInt (by omega)] at ho; rw [mz_ltI, nI_toInt (by omega)]; omega)) ?_
        refine mz_sn_ok hC tk_X3_playDeeds pk_RX3 2 [] rfl (by (repeat' apply And.intro) <;> first | exact True.intro | assumption | (simp only [mz_cm1, mz_c0, mz_c1, mz_c2, mz_c3, mz_c4, mz_c5, mz_c6, mz_c7, mz_c8, mz_c10, mz_c17, mz_c20, mz_c28, mz_c58, mz_c63, mz_c98, mz_c294, mz_c526, mz_c532, mz_c540, mz_c999, mz_c1900, mz_c2403, mz_c29362, mz_c29363, mz_c29364, mz_c29390, mz_c29393, mz_c29394, mz_c29398, mz_c29399, mz_c29400, mz_c29401, nI_add, pk_mul, pk_m1, mz_pp, mz_pq]; done) | omega | (simp only [mz_cm1, mz_c0, mz_c1, mz_c2, mz_c3, mz_c4, mz_c5, mz_c6, mz_c7, mz_c8, mz_c10, mz_c17, mz_c20, mz_c28, mz_c58, mz_c63, mz_c98, mz_c294, mz_c526, mz_c532, mz_c540, mz_c999, mz_c1900, mz_c2403, mz_c29362, mz_c29363, mz_c29364, mz_c29390, mz_c29393, mz_c29394, mz_c29398, mz_c29399, mz_c29400, mz_c29401, nI_add, pk_mul, pk_m1, mz_pp, mz_pq]; congr 1; omega)) ?_
        try simp only [mz_c0, mz_cm1]
        refine mz_V.sub (lv' := [some (.ref σ), some (.ref (σ + 21 + 13 * m0)), some (.int (nI ((mx_pb f m0 k).2 + 0))), some (.int (nI (k + 1)))]) (by (repeat' apply And.intro) <;> first | with_reducible rfl | exact True.intro | (simp only [mz_cm1, mz_c0, mz_c1, mz_c2, mz_c3, mz_c4, mz_c5, mz_c6, mz_c7, mz_c8, mz_c10, mz_c17, mz_c20, mz_c28, mz_c58, mz_c63, mz_c98, mz_c294, mz_c526, mz_c532, mz_c540, mz_c999, mz_c1900, mz_c2403, mz_c29362, mz_c29363, mz_c29364, mz_c29390, mz_c29393, mz_c29394, mz_c29398, mz_c29399, mz_c29400, mz_c29401, nI_add, pk_mul, pk_m1, mz_pp, mz_pq]; done) | rfl) ?_
        exact this
      · rw [if_neg ho] at this
        refine mz_br_f hC tk_X3_playDeeds rfl ((by show ¬ mz_c 1 < (mx_gR (mx_pb f m0 k).1 m0 (mx_DA m0 k)).2.1; show ¬ nI 1 < _; rw [mz_leI, nI_toInt (by omega)] at ho; rw [mz_ltI, nI_toInt (by omega)]; omega)) ?_
        refine mz_sn_ok hC tk_X3_playDeeds pk_RX3 3 [] rfl (by (repeat' apply And.intro) <;> first | exact True.intro | assumption | (simp only [mz_cm1, mz_c0, mz_c1, mz_c2, mz_c3, mz_c4, mz_c5, mz_c6, mz_c7, mz_c8, mz_c10, mz_c17, mz_c20, mz_c28, mz_c58, mz_c63, mz_c98, mz_c294, mz_c526, mz_c532, mz_c540, mz_c999, mz_c1900, mz_c2403, mz_c29362, mz_c29363, mz_c29364, mz_c29390, mz_c29393, mz_c29394, mz_c29398, mz_c29399, mz_c29400, mz_c29401, nI_add, pk_mul, pk_m1, mz_pp, mz_pq]; done) | omega | (simp only [mz_cm1, mz_c0, mz_c1, mz_c2, mz_c3, mz_c4, mz_c5, mz_c6, mz_c7, mz_c8, mz_c10, mz_c17, mz_c20, mz_c28, mz_c58, mz_c63, mz_c98, mz_c294, mz_c526, mz_c532, mz_c540, mz_c999, mz_c1900, mz_c2403, mz_c29362, mz_c29363, mz_c29364, mz_c29390, mz_c29393, mz_c29394, mz_c29398, mz_c29399, mz_c29400, mz_c29401, nI_add, pk_mul, pk_m1, mz_pp, mz_pq]; congr 1; omega)) ?_
        try simp only [mz_c0, mz_cm1]
        refine mz_V.sub (lv' := [some (.ref σ), some (.ref (σ + 21 + 13 * m0)), some (.int (nI ((mx_pb f m0 k).2 + 1))), some (.int (nI (k + 1)))]) (by (repeat' apply And.intro) <;> first | with_reducible rfl | exact True.intro | (simp only [mz_cm1, mz_c0, mz_c1, mz_c2, mz_c3, mz_c4, mz_c5, mz_c6, mz_c7, mz_c8, mz_c10, mz_c17, mz_c20, mz_c28, mz_c58, mz_c63, mz_c98, mz_c294, mz_c526, mz_c532, mz_c540, mz_c999, mz_c1900, mz_c2403, mz_c29362, mz_c29363, mz_c29364, mz_c29390, mz_c29393, mz_c29394, mz_c29398, mz_c29399, mz_c29400, mz_c29401, nI_add, pk_mul, pk_m1, mz_pp, mz_pq]; done) | rfl) ?_
        exact this
  refine mz_sn_ok hC tk_X3_playDeeds pk_RX3 4 [] rfl (by (repeat' apply And.intro) <;> first | exact True.intro | assumption | (simp only [mz_cm1, mz_c0, mz_c1, mz_c2, mz_c3, mz_c4, mz_c5, mz_c6, mz_c7, mz_c8, mz_c10, mz_c17, mz_c20, mz_c28, mz_c58, mz_c63, mz_c98, mz_c294, mz_c526, mz_c532, mz_c540, mz_c999, mz_c1900, mz_c2403, mz_c29362, mz_c29363, mz_c29364, mz_c29390, mz_c29393, mz_c29394, mz_c29398, mz_c29399, mz_c29400, mz_c29401, nI_add, pk_mul, pk_m1, mz_pp, mz_pq]; done) | omega | (simp only [mz_cm1, mz_c0, mz_c1, mz_c2, mz_c3, mz_c4, mz_c5, mz_c6, mz_c7, mz_c8, mz_c10, mz_c17, mz_c20, mz_c28, mz_c58, mz_c63, mz_c98, mz_c294, mz_c526, mz_c532, mz_c540, mz_c999, mz_c1900, mz_c2403, mz_c29362, mz_c29363, mz_c29364, mz_c29390, mz_c29393, mz_c29394, mz_c29398, mz_c29399, mz_c29400, mz_c29401, nI_add, pk_mul, pk_m1, mz_pp, mz_pq]; congr 1; omega)) ?_
  try simp only [mz_c0, mz_cm1]
  refine mz_V.sub (lv' := [some (.ref σ), some (.ref (σ + 21 + 13 * m0)), some (.int (nI 0)), some (.int (nI 0))]) (by (repeat' apply And.intro) <;> first | with_reducible rfl | exact True.intro | (simp only [mz_cm1, mz_c0, mz_c1, mz_c2, mz_c3, mz_c4, mz_c5, mz_c6, mz_c7, mz_c8, mz_c10, mz_c17, mz_c20, mz_c28, mz_c58, mz_c63, mz_c98, mz_c294, mz_c526, mz_c532, mz_c540, mz_c999, mz_c1900, mz_c2403, mz_c29362, mz_c29363, mz_c29364, mz_c29390, mz_c29393, mz_c29394, mz_c29398, mz_c29399, mz_c29400, mz_c29401, nI_add, pk_mul, pk_m1, mz_pp, mz_pq]; done) | rfl) ?_
  exact loop n 0 G O sz 0 (by omega) hS hn.symm mt_F.rf (Nat.zero_le _)
end MRS

