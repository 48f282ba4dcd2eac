/-! ===== the class: a copy is brought up to its box ===== -/
theorem mt_T.R {G : mz_G} {O : Nat → Nat} {sz t lim n n' len : Nat} {h h' : Nat → Nat → Int32} (hT : mt_T G O sz t 4 lim n len h) (e : mr_R h n = mr_R h' n') : mt_T G O sz t 4 lim n' len h' := by
  have hn : n = n' := by
    have := congrArg List.length e
    rw [mr_R_len, mr_R_len] at this
    exact this
  subst hn
  exact hT.same (fun k j hk hj => mr_R_ext e k j hk hj)
theorem mr_nm_pu (f : Nat → Int32) {L cnt : Nat} (name a b c : Int32) (k : Nat) (hk : k < mx_pn f L cnt name) : mx_nm (mx_pu f L cnt name a b c) L k = (match mz_fz (mx_nm f L) name cnt with
    | some q => if k = q then name else mx_nm f L k
    | none => if k < mx_ps (mx_nm f L) name cnt then mx_nm f L k else if k = mx_ps (mx_nm f L) name cnt then name else mx_nm f L (k - 1)) := by
  have := mr_pu_m f (L := L) (cnt := cnt) name a b c k 0 hk (by omega)
  show mx_pu f L cnt name a b c (L + 1 + 4 * k + 0) = _
  rw [this]
  cases hz : mz_fz (mx_nm f L) name cnt with
  | some q =>
    dsimp only
    simp only [mt_w, mt_u]
    by_cases hq : k = q
    · subst hq
      simp (disch := omega) only [if_pos, if_neg, and_self, if_true, and_true, true_and, and_false, false_and, if_false]
    · simp (disch := omega) only [if_pos, if_neg, and_self, if_true, and_true, true_and, and_false, false_and, if_false]
      rfl
  | none =>
    dsimp only
    obtain ⟨q, hq0⟩ : ∃ q, q = mx_ps (mx_nm f L) name cnt := ⟨_, rfl⟩
    rw [← hq0]
    simp only [mt_w, mt_u, mt_o]
    by_cases hq : k = q
    · subst hq
      simp (disch := omega) only [if_pos, if_neg, and_self, if_true, and_true, true_and, and_false, false_and, if_false]
    · by_cases hlt : k < q
      · simp (disch := omega) only [if_pos, if_neg, and_self, if_true, and_true, true_and, and_false, false_and, if_false]
        rfl
      · simp (disch := omega) only [if_pos, if_neg, and_self, if_true, and_true, true_and, and_false, false_and, if_false]
        rfl
theorem mr_so_pu {f : Nat → Int32} {L cnt : Nat} (hs : mr_so f L cnt) (name a b c : Int32) : mr_so (mx_pu f L cnt name a b c) L (mx_pn f L cnt name) := by
  intro i j hij hj
  rw [mr_nm_pu f name a b c i (by omega), mr_nm_pu f name a b c j hj]
  unfold mx_pn at hj
  cases hz : mz_fz (mx_nm f L) name cnt with
  | some q =>
    rw [hz] at hj
    obtain ⟨h1, h2, -⟩ := mz_fz_some hz
    dsimp only at hj ⊢
    by_cases hi : i = q
    · by_cases hjq : j = q
      · omega
      · rw [if_pos hi, if_neg hjq, ← h2, ← hi]
        exact hs i j hij hj
    · by_cases hjq : j = q
      · rw [if_neg hi, if_pos hjq, ← h2, ← hjq]
        exact hs i j hij hj
      · rw [if_neg hi, if_neg hjq]
        exact hs i j hij hj
  | none =>
    rw [hz] at hj
    obtain ⟨q1, q2⟩ := mr_ps_lo hs (mz_fz_none hz)
    have hle := mx_ps_le (mx_nm f L) name cnt
    obtain ⟨q, hq0⟩ : ∃ q, q = mx_ps (mx_nm f L) name cnt := ⟨_, rfl⟩
    rw [← hq0] at q1 q2 hle ⊢
    dsimp only at hj ⊢
    by_cases hi : i < q
    · rw [if_pos hi]
      by_cases hjq : j < q
      · rw [if_pos hjq]
        exact hs i j hij (by omega)
      · rw [if_neg hjq]
        by_cases hje : j = q
        · rw [if_pos hje]
          have := q1 i hi
          rw [mz_leI] at this
          rw [mz_ltI]
          omega
        · rw [if_neg hje]
          exact hs i (j - 1) (by omega) (by omega)
    · rw [if_neg hi, if_neg (show ¬ j < q by omega), if_neg (show ¬ j = q by omega)]
      by_cases hie : i = q
      · rw [if_pos hie]
        have h3 := q2 (by omega)
        by_cases hj1 : j - 1 = q
        · rw [hj1]; exact h3
        · exact mz_lt_tr h3 (hs q (j - 1) (by omega) (by omega))
      · rw [if_neg hie]
        exact hs (i - 1) (j - 1) (by omega) (by omega)
theorem mr_l2_ge (L b w : Nat) (mark : Int32) : ∀ (d : Nat) (f : Nat → Int32) (cc i : Nat), cc ≤ (mx_l2 d f L b w mark cc i).2
  | 0, _, _, _ => Nat.le_refl _
  | d + 1, f, cc, i => by
    simp only [mx_l2]
    split
    · exact Nat.le_trans (mx_pn_le f L cc _).1 (mr_l2_ge L b w mark d _ _ _)
    · exact mr_l2_ge L b w mark d _ _ _
theorem mr_ch_tl {len len' n : Nat} (h : mr_ch len) (h' : mr_ch len') (hn : n * 4 ≤ len') : mr_ch (mt_tl 4 n len len') ∧ mt_ts 4 n len len' + mr_ph (mt_tl 4 n len len') ≤ mr_ph len ∧ mt_tc 4 n len ≤ mt_ts 4 n len len' := by
  unfold mt_tl mt_ts mt_tc
  by_cases hg : n * 4 ≤ len
  · rw [if_pos hg, if_pos hg, if_pos hg]
    exact ⟨h, by omega, by omega⟩
  · rw [if_neg hg, if_neg hg, if_neg hg]
    refine ⟨h', ?_, ?_⟩
    · unfold mr_ch at h h'
      rcases h with rfl | rfl | rfl | rfl | rfl | rfl <;> rcases h' with rfl | rfl | rfl | rfl | rfl | rfl <;> first | omega | decide
    · omega
/-- what a copy is, brought up to its box -/
def mr_b1 (f : Nat → Int32) (m b cnt g cc : Nat) : (Nat → Int32) × Nat := mx_l1 cc f (mx_CA m b + 2) b (mx_cs f m b) g cnt (f (mx_CA m b + 1)) cc 0
def mr_b2 (f : Nat → Int32) (m b cnt g cc : Nat) : (Nat → Int32) × Nat := mx_l2 cnt (mr_b1 f m b cnt g cc).1 (mx_CA m b + 2) b (mx_cs f m b) (f (mx_CA m b + 1)) (mr_b1 f m b cnt g cc).2 0
def mr_bu (f : Nat → Int32) (m b cnt g cc : Nat) : Nat → Int32 := mz_u1 (mz_u1 (mr_b2 f m b cnt g cc).1 (mx_CA m b) (f (98 * b + 0))) (mx_CA m b + 1) (f (98 * b + 2))
section MRC
variable (l : Launch) (E : mz_E) {G : mz_G} {O : Nat → Nat} {sz γ τ β μ ν : Nat} {f : Nat → Int32} {m0 b cnt g cc len : Nat}
theorem cc_takeMessage {z0 z1 : Int32} {f1 : Nat → Int32} {L len0 : Nat} (hch : mr_ch len0) (hY : mr_Cn G O sz γ τ z0 z1 cc (mt_gr 4 532 len0 cc) (mr_h f1 L 4)) (hB : mr_B G O sz β μ ν f b cnt g) (hs : mr_so f1 L cc) (hcc : cc < 532) (i : Nat) (hi : i < cnt) : mz_M l E yX1_takeMessage cX1_takeMessage 4 none 6 (mr_ph (mt_gr 4 532 len0 cc) - mr_ph (mt_gr 4 532 len0 (mx_pn f1 L cc (mx_nm f (98 * b + 17) i)))) (mr_ph (mt_gr 4 532 len0 cc) - mr_ph (mt_gr 4 532 len0 (mx_pn f1 L cc (mx_nm f (98 * b + 17) i)))) [.ref γ, .ref β, .int (nI i)] G sz (fun v' G' sz' => v' = none ∧ ∃ O', mr_Cn G' O' sz' γ τ z0 z1 (mx_pn f1 L cc (mx_nm f (98 * b + 17) i)) (mt_gr 4 532 len0 (mx_pn f1 L cc (mx_nm f (98 * b + 17) i))) (mr_h (mx_pu f1 L cc (mx_nm f (98 * b + 17) i) (f (98 * b + 17 + 1 + 4 * i + 1)) (f (98 * b + 17 + 1 + 4 * i + 2)) (mx_mk f (98 * b + 17) i)) L 4) ∧ mt_F (mr_Y γ τ) G G' O O' sz sz') := by
  have hY0 := hY
  obtain ⟨⟨⟨⟨hK, hO, hsg⟩, i0, i1⟩, r2⟩, tc⟩ := hY
  obtain ⟨⟨⟨⟨hKb, hOb, hsb⟩, j0, j1, j2, j3⟩, r4, r5, hne⟩, ⟨t1, t2⟩, hc1, hc2⟩ := hB
  have k1 := t1.K
  have kc := tc.K
  obtain ⟨c20, -, -⟩ := t1.b
  refine mz_start (by decide) (Nat.le_of_ble_eq_true rfl) ?_
  intro p e s m args below meth c hC hret hnm
  refine mz_sn_ok hC tk_X1_takeMessage pk_RX1 8 [μ, τ] rfl (by (repeat' apply And.intro) <;> first | exact True.intro | assumption | (simp only [mz_cm1, mz_c0, mz_c1, mz_c2, mz_c3, mz_c4, mz_c5, mz_c6, mz_c7, mz_c8, mz_c10, mz_c17, mz_c20, mz_c28, mz_c58, mz_c63, mz_c98, mz_c294, mz_c526, mz_c532, mz_c540, mz_c999, mz_c1900, mz_c2403, mz_c29362, mz_c29363, mz_c29364, mz_c29390, mz_c29393, mz_c29394, mz_c29398, mz_c29399, mz_c29400, mz_c29401, nI_add, pk_mul, pk_m1, mz_pp, mz_pq]; done) | omega | (simp only [mz_cm1, mz_c0, mz_c1, mz_c2, mz_c3, mz_c4, mz_c5, mz_c6, mz_c7, mz_c8, mz_c10, mz_c17, mz_c20, mz_c28, mz_c58, mz_c63, mz_c98, mz_c294, mz_c526, mz_c532, mz_c540, mz_c999, mz_c1900, mz_c2403, mz_c29362, mz_c29363, mz_c29364, mz_c29390, mz_c29393, mz_c29394, mz_c29398, mz_c29399, mz_c29400, mz_c29401, nI_add, pk_mul, pk_m1, mz_pp, mz_pq]; congr 1; omega)) ?_
  try simp only [mz_c0, mz_cm1]
  refine mz_Vcv hC tk_X1_takeMessage rfl md_X4_cell lk_RX1_34 rfl (ct_cell l E t1 (nI i) (nI 0)) (by show (vwCl[mz_K _ _]?).map _ = _; rw [k1]; rfl) ⟨Nat.le_of_ble_eq_true rfl, Nat.le_of_ble_eq_true rfl⟩ ⟨by simp only [mz_rm]; omega, by simp only [mz_rm]; omega⟩ (Nat.le_of_ble_eq_true rfl) (fun v9 G9 sz9 hp9 => ?_)
  obtain ⟨rfl, hG9, hs9⟩ := hp9
  rw [hG9, ← hs9, mt_c_in hi (by omega) (by omega) (by omega)]
  refine mz_sn_ok hC tk_X1_takeMessage pk_RX1 3 [] rfl (by (repeat' apply And.intro) <;> first | exact True.intro | assumption | (simp only [mz_cm1, mz_c0, mz_c1, mz_c2, mz_c3, mz_c4, mz_c5, mz_c6, mz_c7, mz_c8, mz_c10, mz_c17, mz_c20, mz_c28, mz_c58, mz_c63, mz_c98, mz_c294, mz_c526, mz_c532, mz_c540, mz_c999, mz_c1900, mz_c2403, mz_c29362, mz_c29363, mz_c29364, mz_c29390, mz_c29393, mz_c29394, mz_c29398, mz_c29399, mz_c29400, mz_c29401, nI_add, pk_mul, pk_m1, mz_pp, mz_pq]; done) | omega | (simp only [mz_cm1, mz_c0, mz_c1, mz_c2, mz_c3, mz_c4, mz_c5, mz_c6, mz_c7, mz_c8, mz_c10, mz_c17, mz_c20, mz_c28, mz_c58, mz_c63, mz_c98, mz_c294, mz_c526, mz_c532, mz_c540, mz_c999, mz_c1900, mz_c2403, mz_c29362, mz_c29363, mz_c29364, mz_c29390, mz_c29393, mz_c29394, mz_c29398, mz_c29399, mz_c29400, mz_c29401, nI_add, pk_mul, pk_m1, mz_pp, mz_pq]; congr 1; omega)) ?_
  try simp only [mz_c0, mz_cm1]
  refine mz_Vcv hC tk_X1_takeMessage rfl md_X4_cell lk_RX1_34 rfl (ct_cell l E t1 (nI i) (nI 1)) (by show (vwCl[mz_K _ _]?).map _ = _; rw [k1]; rfl) ⟨Nat.le_of_ble_eq_true rfl, Nat.le_of_ble_eq_true rfl⟩ ⟨by simp only [mz_rm]; omega, by simp only [mz_rm]; omega⟩ (Nat.le_of_ble_eq_true rfl) (fun v9 G9 sz9 hp9 => ?_)
  obtain ⟨rfl, hG10, hs10⟩ := hp9
  rw [hG10, ← hs10, mt_c_in hi (by omega) (by omega) (by omega)]
  refine mz_sn_ok hC tk_X1_takeMessage pk_RX1 3 [] rfl (by (repeat' apply And.intro) <;> first | exact True.intro | assumption | (simp only [mz_cm1, mz_c0, mz_c1, mz_c2, mz_c3, mz_c4, mz_c5, mz_c6, mz_c7, mz_c8, mz_c10, mz_c17, mz_c20, mz_c28, mz_c58, mz_c63, mz_c98, mz_c294, mz_c526, mz_c532, mz_c540, mz_c999, mz_c1900, mz_c2403, mz_c29362, mz_c29363, mz_c29364, mz_c29390, mz_c29393, mz_c29394, mz_c29398, mz_c29399, mz_c29400, mz_c29401, nI_add, pk_mul, pk_m1, mz_pp, mz_pq]; done) | omega | (simp only [mz_cm1, mz_c0, mz_c1, mz_c2, mz_c3, mz_c4, mz_c5, mz_c6, mz_c7, mz_c8, mz_c10, mz_c17, mz_c20, mz_c28, mz_c58, mz_c63, mz_c98, mz_c294, mz_c526, mz_c532, mz_c540, mz_c999, mz_c1900, mz_c2403, mz_c29362, mz_c29363, mz_c29364, mz_c29390, mz_c29393, mz_c29394, mz_c29398, mz_c29399, mz_c29400, mz_c29401, nI_add, pk_mul, pk_m1, mz_pp, mz_pq]; congr 1; omega)) ?_
  try simp only [mz_c0, mz_cm1]
  refine mz_Vcv hC tk_X1_takeMessage rfl md_X4_cell lk_RX1_34 rfl (ct_cell l E t1 (nI i) (nI 2)) (by show (vwCl[mz_K _ _]?).map _ = _; rw [k1]; rfl) ⟨Nat.le_of_ble_eq_true rfl, Nat.le_of_ble_eq_true rfl⟩ ⟨by simp only [mz_rm]; omega, by simp only [mz_rm]; omega⟩ (Nat.le_of_ble_eq_true rfl) (fun v9 G9 sz9 hp9 => ?_)
  obtain ⟨rfl, hG11, hs11⟩ := hp9
  rw [hG11, ← hs11, mt_c_in hi (by omega) (by omega) (by omega)]
  refine mz_sn_ok hC tk_X1_takeMessage pk_RX1 3 [] rfl (by (repeat' apply And.intro) <;> first | exact True.intro | assumption | (simp only [mz_cm1, mz_c0, mz_c1, mz_c2, mz_c3, mz_c4, mz_c5, mz_c6, mz_c7, mz_c8, mz_c10, mz_c17, mz_c20, mz_c28, mz_c58, mz_c63, mz_c98, mz_c294, mz_c526, mz_c532, mz_c540, mz_c999, mz_c1900, mz_c2403, mz_c29362, mz_c29363, mz_c29364, mz_c29390, mz_c29393, mz_c29394, mz_c29398, mz_c29399, mz_c29400, mz_c29401, nI_add, pk_mul, pk_m1, mz_pp, mz_pq]; done) | omega | (simp only [mz_cm1, mz_c0, mz_c1, mz_c2, mz_c3, mz_c4, mz_c5, mz_c6, mz_c7, mz_c8, mz_c10, mz_c17, mz_c20, mz_c28, mz_c58, mz_c63, mz_c98, mz_c294, mz_c526, mz_c532, mz_c540, mz_c999, mz_c1900, mz_c2403, mz_c29362, mz_c29363, mz_c29364, mz_c29390, mz_c29393, mz_c29394, mz_c29398, mz_c29399, mz_c29400, mz_c29401, nI_add, pk_mul, pk_m1, mz_pp, mz_pq]; congr 1; omega)) ?_
  try simp only [mz_c0, mz_cm1]
  refine mz_Vcv hC tk_X1_takeMessage rfl md_X4_cell lk_RX1_34 rfl (ct_cell l E t1 (nI i) (nI 3)) (by show (vwCl[mz_K _ _]?).map _ = _; rw [k1]; rfl) ⟨Nat.le_of_ble_eq_true rfl, Nat.le_of_ble_eq_true rfl⟩ ⟨by simp only [mz_rm]; omega, by simp only [mz_rm]; omega⟩ (Nat.le_of_ble_eq_true rfl) (fun v9 G9 sz9 hp9 => ?_)
  obtain ⟨rfl, hG12, hs12⟩ := hp9
  rw [hG12, ← hs12, mt_c_in hi (by omega) (by omega) (by omega)]
  refine mz_Vcv hC tk_X1_takeMessage rfl md_X4_storeMessage lk_RX1_70 rfl (cc_store l E hch tc hs hcc (mx_nm f (98 * b + 17) i) (f (98 * b + 17 + 1 + 4 * i + 1)) (f (98 * b + 17 + 1 + 4 * i + 2)) (mx_mk f (98 * b + 17) i)) (by show (vwCl[mz_K _ _]?).map _ = _; rw [kc]; rfl) ⟨Nat.le_of_ble_eq_true rfl, Nat.le_of_ble_eq_true rfl⟩ ⟨by simp only [mz_rm]; omega, by simp only [mz_rm]; omega⟩ (Nat.le_of_ble_eq_true rfl) (fun v9 G9 sz9 hp9 => ?_)
  obtain ⟨rfl, O', t3, hF3⟩ := hp9
  refine mz_Vreturn hC tk_X1_takeMessage rfl hret (by omega) (by omega) ?_
  exact ⟨rfl, O', hY0.msg hF3 t3, hF3.mono (fun q hq => Or.inr hq)⟩
theorem cc_bringUpTo (hY : mr_C G O sz γ τ f m0 b cc len) (hB : mr_B G O sz β μ ν f b cnt g) (hb : b < 3) (hd : ¬ mr_Y γ τ β ∧ ¬ mr_Y γ τ μ ∧ ¬ mr_Y γ τ ν) (hch : mr_ch len) (hso : mr_so f (mx_CA m0 b + 2) cc) (S2 : (Nat → Int32) × Nat) (hS2 : S2 = mr_b2 f m0 b cnt g cc) (hfin : S2.2 < 532) : mz_M l E yX1_bringUpTo cX1_bringUpTo 3 none 7 (mr_ph len - mr_ph (mt_gr 4 532 len S2.2)) (mr_ph len - mr_ph (mt_gr 4 532 len S2.2)) [.ref γ, .ref β] G sz (fun v' G' sz' => v' = none ∧ ∃ O', mr_C G' O' sz' γ τ (mr_bu f m0 b cnt g cc) m0 b S2.2 (mt_gr 4 532 len S2.2) ∧ mt_F (mr_Y γ τ) G G' O O' sz sz') := by
  have hYc := hY
  have hY0 := hY.1
  have hB0 := hB
  obtain ⟨L, hL⟩ : ∃ L, L = mx_CA m0 b + 2 := ⟨_, rfl⟩
  have hLb : 98 * b + 98 ≤ L := by rw [hL]; unfold mx_CA; omega
  obtain ⟨S1, hS1⟩ : ∃ S1, S1 = mr_b1 f m0 b cnt g cc := ⟨_, rfl⟩
  have hbu : mr_bu f m0 b cnt g cc = mz_u1 (mz_u1 S2.1 (mx_CA m0 b) (f (98 * b + 0))) (mx_CA m0 b + 1) (f (98 * b + 2)) := by unfold mr_bu; rw [hS2]
  have hS12 : mx_l2 cnt S1.1 L b (mx_cs f m0 b) (f (mx_CA m0 b + 1)) S1.2 0 = S2 := by rw [hS2, hS1, hL]; rfl
  obtain ⟨⟨⟨⟨⟨hK, hO, hs⟩, i0, i1⟩, r2⟩, tc⟩, hcc⟩ := hY
  obtain ⟨⟨⟨⟨hKb, hOb, hsb⟩, j0, j1, j2, j3⟩, r4, r5, hne⟩, ⟨t1, t2⟩, hc1, hc2⟩ := hB
  have kc := tc.K
  obtain ⟨c20, -, -⟩ := t1.b
  obtain ⟨g6, -, -⟩ := t2.b
  have hlen : cc * 4 ≤ len := by
    obtain ⟨a, -, ⟨b1, -⟩, -⟩ := tc
    exact b1
  have hS1L : S1 = mx_l1 cc f L b (mx_cs f m0 b) g cnt (f (mx_CA m0 b + 1)) cc 0 := by rw [hS1, hL]; rfl
  have hR : mr_R (mr_h S1.1 L 4) S1.2 = (mr_R (mr_h f L 4) cc).filter (fun x => !decide (mr_go f b (mx_cs f m0 b) g cnt (f (mx_CA m0 b + 1)) x.1)) := by
    have := mr_l1_R L b (mx_cs f m0 b) g cnt (f (mx_CA m0 b + 1)) hLb c20 g6 f cc f cc 0 (by omega) (fun _ _ => rfl)
    rw [← hS1L, List.take_zero, List.nil_append, List.drop_zero] at this
    exact this
  have hsoL : mr_so f L cc := by rw [hL]; exact hso
  have hso1 : mr_so S1.1 L S1.2 := by rw [mr_so_sl, hR]; exact (mr_so_sl.mp hsoL).filter _
  obtain ⟨ok1, ok2, ok3⟩ := mx_l1_ok L b (mx_cs f m0 b) g cnt (f (mx_CA m0 b + 1)) cc f cc 0 (by omega) (by rw [hL]; exact hcc)
  rw [← hS1L] at ok1 ok2 ok3
  obtain ⟨ok4, ok5, ok6⟩ := mx_l2_ok L b (mx_cs f m0 b) (f (mx_CA m0 b + 1)) cnt S1.1 S1.2 0 ok1
  rw [hS12] at ok4 ok5 ok6
  have hge := mr_l2_ge L b (mx_cs f m0 b) (f (mx_CA m0 b + 1)) cnt S1.1 S1.2 0
  rw [hS12] at hge
  refine mz_start (by decide) (Nat.le_of_ble_eq_true rfl) ?_
  intro p e s m args below meth c hC hret hnm
  have loop : ∀ (d i : Nat) (f1 : Nat → Int32) (c1 : Nat) (G1 : mz_G) (O1 : Nat → Nat) (sz1 kn : Nat), i + d = cnt → (∀ j, j < L → f1 j = f j) → mx_l2 d f1 L b (mx_cs f m0 b) (f (mx_CA m0 b + 1)) c1 i = S2 → mr_so f1 L c1 → mr_Cn G1 O1 sz1 γ τ (f (mx_CA m0 b)) (f (mx_CA m0 b + 1)) c1 (mt_gr 4 532 len c1) (mr_h f1 L 4) → mt_F (mr_Y γ τ) G G1 O O1 sz sz1 → kn ≤ mr_ph len - mr_ph (mt_gr 4 532 len c1) → mz_V E p l e (mz_rm 7 (mr_ph len - mr_ph (mt_gr 4 532 len S2.2)) (mr_ph len - mr_ph (mt_gr 4 532 len S2.2))) s m args below meth c 3 (kn) (kn) (mz_Z E below args s (mr_ph len - mr_ph (mt_gr 4 532 len S2.2)) (mr_ph len - mr_ph (mt_gr 4 532 len S2.2)) (fun v' G' sz' => v' = none ∧ ∃ O', mr_C G' O' sz' γ τ (mr_bu f m0 b cnt g cc) m0 b S2.2 (mt_gr 4 532 len S2.2) ∧ mt_F (mr_Y γ τ) G G' O O' sz sz')) (G1) (sz1) (57) [some (.ref γ), some (.ref β), some (.int (nI i))] [] := by
    intro d
    induction d with
    | zero =>
      intro i f1 c1 G1 O1 sz1 kn hi hf hl hs1 hY1 hF1 hkn
      rw [show i = cnt by omega]
      have hl' : (f1, c1) = S2 := hl
      have hf1 : f1 = S2.1 := by rw [← hl']
      have hc1' : c1 = S2.2 := by rw [← hl']
      rw [hf1, hc1'] at hY1
      rw [hc1'] at hkn
      have hY1c := hY1
      obtain ⟨⟨⟨⟨hK1, -⟩, -⟩, -⟩, -⟩ := hY1c
      have hB1 := hB0.fr hF1 hd.1 hd.2.1 hd.2.2
      obtain ⟨⟨⟨⟨hKb1, -⟩, j01, -, j21, -⟩, r41, -⟩, ⟨t11, -⟩, -⟩ := hB1
      have k11 := t11.K
      have s11 := t11.s
      have j22 : ∀ v, mz_i (mz_si G1 γ 0 v) β 2 = f (98 * b + 2) := fun v => by show mz_u2 (mz_i G1) γ 0 v β 2 = _; rw [mz_u2_a _ _ _ _ (fun z => by rw [z] at hKb1; omega), j21]
      refine mz_sn_ok hC tk_X1_bringUpTo pk_RX1 4 [μ] rfl (by (repeat' apply And.intro) <;> first | exact True.intro | assumption | (simp only [mz_cm1, mz_c0, mz_c1, mz_c2, mz_c3, mz_c4, mz_c5, mz_c6, mz_c7, mz_c8, mz_c10, mz_c17, mz_c20, mz_c28, mz_c58, mz_c63, mz_c98, mz_c294, mz_c526, mz_c532, mz_c540, mz_c999, mz_c1900, mz_c2403, mz_c29362, mz_c29363, mz_c29364, mz_c29390, mz_c29393, mz_c29394, mz_c29398, mz_c29399, mz_c29400, mz_c29401, nI_add, pk_mul, pk_m1, mz_pp, mz_pq, s11]; done) | omega | (simp only [mz_cm1, mz_c0, mz_c1, mz_c2, mz_c3, mz_c4, mz_c5, mz_c6, mz_c7, mz_c8, mz_c10, mz_c17, mz_c20, mz_c28, mz_c58, mz_c63, mz_c98, mz_c294, mz_c526, mz_c532, mz_c540, mz_c999, mz_c1900, mz_c2403, mz_c29362, mz_c29363, mz_c29364, mz_c29390, mz_c29393, mz_c29394, mz_c29398, mz_c29399, mz_c29400, mz_c29401, nI_add, pk_mul, pk_m1, mz_pp, mz_pq, s11]; congr 1; omega)) ?_
      try simp only [mz_c0, mz_cm1, s11]
      refine mz_br_t hC tk_X1_bringUpTo rfl ((by show nI cnt ≤ nI cnt; exact nI_le (by omega) (by omega))) ?_
      obtain ⟨hY2, hF2⟩ := hY1.s0 (f (98 * b + 0))
      obtain ⟨hY3, hF3⟩ := hY2.s1 (f (98 * b + 2))
      refine mz_sn_ok hC tk_X1_bringUpTo pk_RX1 8 [] rfl (by (repeat' apply And.intro) <;> first | exact True.intro | assumption | (simp only [mz_cm1, mz_c0, mz_c1, mz_c2, mz_c3, mz_c4, mz_c5, mz_c6, mz_c7, mz_c8, mz_c10, mz_c17, mz_c20, mz_c28, mz_c58, mz_c63, mz_c98, mz_c294, mz_c526, mz_c532, mz_c540, mz_c999, mz_c1900, mz_c2403, mz_c29362, mz_c29363, mz_c29364, mz_c29390, mz_c29393, mz_c29394, mz_c29398, mz_c29399, mz_c29400, mz_c29401, nI_add, pk_mul, pk_m1, mz_pp, mz_pq, j01, j22]; done) | omega | (simp only [mz_cm1, mz_c0, mz_c1, mz_c2, mz_c3, mz_c4, mz_c5, mz_c6, mz_c7, mz_c8, mz_c10, mz_c17, mz_c20, mz_c28, mz_c58, mz_c63, mz_c98, mz_c294, mz_c526, mz_c532, mz_c540, mz_c999, mz_c1900, mz_c2403, mz_c29362, mz_c29363, mz_c29364, mz_c29390, mz_c29393, mz_c29394, mz_c29398, mz_c29399, mz_c29400, mz_c29401, nI_add, pk_mul, pk_m1, mz_pp, mz_pq, j01, j22]; congr 1; omega)) ?_
      try simp only [mz_c0, mz_cm1, j01, j22]
      refine mz_Vreturn hC tk_X1_bringUpTo rfl hret hkn hkn ?_
      refine ⟨rfl, O1, ⟨?_, ?_⟩, hF1.tr ((hF2.mono (fun q hq => Or.inl hq)).tr (hF3.mono (fun q hq => Or.inl hq)))⟩
      · rw [hbu]
        obtain ⟨⟨⟨hk3, w0, w1⟩, r3⟩, t3⟩ := hY3
        refine ⟨⟨⟨hk3, ?_, ?_⟩, r3⟩, t3.same (fun k j h1 h2 => ?_)⟩
        · rw [w0, mz_u1_o _ _ (by omega), mz_u1_s]
        · rw [w1, mz_u1_s]
        · show S2.1 (L + 1 + 4 * k + j) = mz_u1 _ _ _ (mx_CA m0 b + 2 + 1 + 4 * k + j)
          rw [mz_u1_o _ _ (by omega), mz_u1_o _ _ (by omega), hL]
      · rw [hbu, mz_u1_o _ _ (by omega), mz_u1_o _ _ (by omega), ← hL]
        exact ok4
    | succ d ih =>
      intro i f1 c1 G1 O1 sz1 kn hi hf hl hs1 hY1 hF1 hkn
      have hY1c := hY1
      obtain ⟨⟨⟨⟨hK1, -⟩, -⟩, -⟩, -⟩ := hY1c
      have hB1 := hB0.fr hF1 hd.1 hd.2.1 hd.2.2
      have hB1c := hB1
      obtain ⟨⟨⟨⟨hKb1, -⟩, -⟩, r41, -⟩, ⟨t11, -⟩, -⟩ := hB1c
      have k11 := t11.K
      have s11 := t11.s
      have hgc := mr_l2_ge L b (mx_cs f m0 b) (f (mx_CA m0 b + 1)) (d + 1) f1 c1 i
      rw [hl] at hgc
      have m0' := mt_gr_mo hch hgc (by omega)
      have m3 := (mt_gr_ch hch (n := c1) (by omega)).2
      refine mz_sn_ok hC tk_X1_bringUpTo pk_RX1 4 [μ] rfl (by (repeat' apply And.intro) <;> first | exact True.intro | assumption | (simp only [mz_cm1, mz_c0, mz_c1, mz_c2, mz_c3, mz_c4, mz_c5, mz_c6, mz_c7, mz_c8, mz_c10, mz_c17, mz_c20, mz_c28, mz_c58, mz_c63, mz_c98, mz_c294, mz_c526, mz_c532, mz_c540, mz_c999, mz_c1900, mz_c2403, mz_c29362, mz_c29363, mz_c29364, mz_c29390, mz_c29393, mz_c29394, mz_c29398, mz_c29399, mz_c29400, mz_c29401, nI_add, pk_mul, pk_m1, mz_pp, mz_pq, s11]; done) | omega | (simp only [mz_cm1, mz_c0, mz_c1, mz_c2, mz_c3, mz_c4, mz_c5, mz_c6, mz_c7, mz_c8, mz_c10, mz_c17, mz_c20, mz_c28, mz_c58, mz_c63, mz_c98, mz_c294, mz_c526, mz_c532, mz_c540, mz_c999, mz_c1900, mz_c2403, mz_c29362, mz_c29363, mz_c29364, mz_c29390, mz_c29393, mz_c29394, mz_c29398, mz_c29399, mz_c29400, mz_c29401, nI_add, pk_mul, pk_m1, mz_pp, mz_pq, s11]; congr 1; omega)) ?_
      try simp only [mz_c0, mz_cm1, s11]
      refine mz_br_f hC tk_X1_bringUpTo rfl ((by show ¬ nI cnt ≤ nI i; exact nI_ge (by omega) (by omega))) ?_
      refine mz_sn_ok hC tk_X1_bringUpTo pk_RX1 3 [] rfl (by (repeat' apply And.intro) <;> first | exact True.intro | assumption | (simp only [mz_cm1, mz_c0, mz_c1, mz_c2, mz_c3, mz_c4, mz_c5, mz_c6, mz_c7, mz_c8, mz_c10, mz_c17, mz_c20, mz_c28, mz_c58, mz_c63, mz_c98, mz_c294, mz_c526, mz_c532, mz_c540, mz_c999, mz_c1900, mz_c2403, mz_c29362, mz_c29363, mz_c29364, mz_c29390, mz_c29393, mz_c29394, mz_c29398, mz_c29399, mz_c29400, mz_c29401, nI_add, pk_mul, pk_m1, mz_pp, mz_pq]; done) | omega | (simp only [mz_cm1, mz_c0, mz_c1, mz_c2, mz_c3, mz_c4, mz_c5, mz_c6, mz_c7, mz_c8, mz_c10, mz_c17, mz_c20, mz_c28, mz_c58, mz_c63, mz_c98, mz_c294, mz_c526, mz_c532, mz_c540, mz_c999, mz_c1900, mz_c2403, mz_c29362, mz_c29363, mz_c29364, mz_c29390, mz_c29393, mz_c29394, mz_c29398, mz_c29399, mz_c29400, mz_c29401, nI_add, pk_mul, pk_m1, mz_pp, mz_pq]; congr 1; omega)) ?_
      try simp only [mz_c0, mz_cm1]
      refine mz_Vcv hC tk_X1_bringUpTo rfl md_X1_isDue lk_RX1_41 rfl (cc_isDue l E hY1 hB1 i (by omega)) (by show (vwCl[mz_K _ _]?).map _ = _; rw [hK1]; rfl) ⟨Nat.le_of_ble_eq_true rfl, Nat.le_of_ble_eq_true rfl⟩ ⟨by simp only [mz_rm]; omega, by simp only [mz_rm]; omega⟩ (Nat.le_of_ble_eq_true rfl) (fun v9 G9 sz9 hp9 => ?_)
      obtain ⟨rfl, hG9, hs9⟩ := hp9
      rw [hG9, ← hs9]
      have e2 : (¬ f (mx_CA m0 b) = f (98 * b + 0) ∨ f (mx_CA m0 b + 1) < mx_mk f (98 * b + 17) i) ↔ (mx_cs f m0 b = 1 ∨ f (mx_CA m0 b + 1) < mx_mk f1 (98 * b + 17) i) := by
        rw [mr_cs1, show mx_mk f1 (98 * b + 17) i = mx_mk f (98 * b + 17) i from hf _ (by omega)]
      have hl' : (if mx_cs f m0 b = 1 ∨ f (mx_CA m0 b + 1) < mx_mk f1 (98 * b + 17) i then mx_l2 d (mx_pu f1 L c1 (mx_nm f1 (98 * b + 17) i) (f1 (98 * b + 17 + 1 + 4 * i + 1)) (f1 (98 * b + 17 + 1 + 4 * i + 2)) (mx_mk f1 (98 * b + 17) i)) L b (mx_cs f m0 b) (f (mx_CA m0 b + 1)) (mx_pn f1 L c1 (mx_nm f1 (98 * b + 17) i)) (i + 1) else mx_l2 d f1 L b (mx_cs f m0 b) (f (mx_CA m0 b + 1)) c1 (i + 1)) = S2 := hl
      by_cases hdue : mx_cs f m0 b = 1 ∨ f (mx_CA m0 b + 1) < mx_mk f1 (98 * b + 17) i
      · rw [if_pos (e2.mpr hdue)]
        rw [if_pos hdue, show mx_nm f1 (98 * b + 17) i = mx_nm f (98 * b + 17) i from hf _ (by omega), show mx_mk f1 (98 * b + 17) i = mx_mk f (98 * b + 17) i from hf _ (by omega), hf (98 * b + 17 + 1 + 4 * i + 1) (by omega), hf (98 * b + 17 + 1 + 4 * i + 2) (by omega)] at hl'
        refine mz_br_f hC tk_X1_bringUpTo rfl ((by show ¬ (1 : Int32) = 0; decide)) ?_
        refine mz_sn_ok hC tk_X1_bringUpTo pk_RX1 3 [] rfl (by (repeat' apply And.intro) <;> first | exact True.intro | assumption | (simp only [mz_cm1, mz_c0, mz_c1, mz_c2, mz_c3, mz_c4, mz_c5, mz_c6, mz_c7, mz_c8, mz_c10, mz_c17, mz_c20, mz_c28, mz_c58, mz_c63, mz_c98, mz_c294, mz_c526, mz_c532, mz_c540, mz_c999, mz_c1900, mz_c2403, mz_c29362, mz_c29363, mz_c29364, mz_c29390, mz_c29393, mz_c29394, mz_c29398, mz_c29399, mz_c29400, mz_c29401, nI_add, pk_mul, pk_m1, mz_pp, mz_pq]; done) | omega | (simp only [mz_cm1, mz_c0, mz_c1, mz_c2, mz_c3, mz_c4, mz_c5, mz_c6, mz_c7, mz_c8, mz_c10, mz_c17, mz_c20, mz_c28, mz_c58, mz_c63, mz_c98, mz_c294, mz_c526, mz_c532, mz_c540, mz_c999, mz_c1900, mz_c2403, mz_c29362, mz_c29363, mz_c29364, mz_c29390, mz_c29393, mz_c29394, mz_c29398, mz_c29399, mz_c29400, mz_c29401, nI_add, pk_mul, pk_m1, mz_pp, mz_pq]; congr 1; omega)) ?_
        try simp only [mz_c0, mz_cm1]
        have hg2 := mr_l2_ge L b (mx_cs f m0 b) (f (mx_CA m0 b + 1)) d (mx_pu f1 L c1 (mx_nm f (98 * b + 17) i) (f (98 * b + 17 + 1 + 4 * i + 1)) (f (98 * b + 17 + 1 + 4 * i + 2)) (mx_mk f (98 * b + 17) i)) (mx_pn f1 L c1 (mx_nm f (98 * b + 17) i)) (i + 1)
        rw [hl'] at hg2
        have hpn := mx_pn_le f1 L c1 (mx_nm f (98 * b + 17) i)
        have m1 := mt_gr_mo hch hpn.1 (by omega)
        have m2 := mt_gr_mo hch hg2 (by omega)
        refine mz_Vcv hC tk_X1_bringUpTo rfl md_X1_takeMessage lk_RX1_65 rfl (cc_takeMessage l E hch hY1 hB1 hs1 (by omega) i (by omega)) (by show (vwCl[mz_K _ _]?).map _ = _; rw [hK1]; rfl) ⟨Nat.le_of_ble_eq_true rfl, Nat.le_of_ble_eq_true rfl⟩ ⟨by simp only [mz_rm]; omega, by simp only [mz_rm]; omega⟩ (Nat.le_of_ble_eq_true rfl) (fun v9 G9 sz9 hp9 => ?_)
        obtain ⟨rfl, O2, hY2, hF2⟩ := hp9
        refine mz_sn_ok hC tk_X1_bringUpTo pk_RX1 2 [] rfl (by (repeat' apply And.intro) <;> first | exact True.intro | assumption | (simp only [mz_cm1, mz_c0, mz_c1, mz_c2, mz_c3, mz_c4, mz_c5, mz_c6, mz_c7, mz_c8, mz_c10, mz_c17, mz_c20, mz_c28, mz_c58, mz_c63, mz_c98, mz_c294, mz_c526, mz_c532, mz_c540, mz_c999, mz_c1900, mz_c2403, mz_c29362, mz_c29363, mz_c29364, mz_c29390, mz_c29393, mz_c29394, mz_c29398, mz_c29399, mz_c29400, mz_c29401, nI_add, pk_mul, pk_m1, mz_pp, mz_pq]; done) | omega | (simp only [mz_cm1, mz_c0, mz_c1, mz_c2, mz_c3, mz_c4, mz_c5, mz_c6, mz_c7, mz_c8, mz_c10, mz_c17, mz_c20, mz_c28, mz_c58, mz_c63, mz_c98, mz_c294, mz_c526, mz_c532, mz_c540, mz_c999, mz_c1900, mz_c2403, mz_c29362, mz_c29363, mz_c29364, mz_c29390, mz_c29393, mz_c29394, mz_c29398, mz_c29399, mz_c29400, mz_c29401, nI_add, pk_mul, pk_m1, mz_pp, mz_pq]; congr 1; omega)) ?_
        try simp only [mz_c0, mz_cm1]
        refine mz_V.sub (lv' := [some (.ref γ), some (.ref β), some (.int (nI (i + 1)))]) (by (repeat' apply And.intro) <;> first | with_reducible rfl | exact True.intro | (simp only [mz_cm1, mz_c0, mz_c1, mz_c2, mz_c3, mz_c4, mz_c5, mz_c6, mz_c7, mz_c8, mz_c10, mz_c17, mz_c20, mz_c28, mz_c58, mz_c63, mz_c98, mz_c294, mz_c526, mz_c532, mz_c540, mz_c999, mz_c1900, mz_c2403, mz_c29362, mz_c29363, mz_c29364, mz_c29390, mz_c29393, mz_c29394, mz_c29398, mz_c29399, mz_c29400, mz_c29401, nI_add, pk_mul, pk_m1, mz_pp, mz_pq]; done) | rfl) ?_
        exact ih (i + 1) _ _ _ O2 _ _ (by omega) (fun j hj => by rw [mx_pu_o f1 _ _ _ _ (Or.inl hj)]; exact hf j hj) hl' (mr_so_pu hs1 _ _ _ _) hY2 (hF1.tr hF2) (by omega)
      · rw [if_neg (fun z => hdue (e2.mp z))]
        rw [if_neg hdue] at hl'
        refine mz_br_t hC tk_X1_bringUpTo rfl ((by show (0 : Int32) = 0; rfl)) ?_
        refine mz_sn_ok hC tk_X1_bringUpTo pk_RX1 2 [] rfl (by (repeat' apply And.intro) <;> first | exact True.intro | assumption | (simp only [mz_cm1, mz_c0, mz_c1, mz_c2, mz_c3, mz_c4, mz_c5, mz_c6, mz_c7, mz_c8, mz_c10, mz_c17, mz_c20, mz_c28, mz_c58, mz_c63, mz_c98, mz_c294, mz_c526, mz_c532, mz_c540, mz_c999, mz_c1900, mz_c2403, mz_c29362, mz_c29363, mz_c29364, mz_c29390, mz_c29393, mz_c29394, mz_c29398, mz_c29399, mz_c29400, mz_c29401, nI_add, pk_mul, pk_m1, mz_pp, mz_pq]; done) | omega | (simp only [mz_cm1, mz_c0, mz_c1, mz_c2, mz_c3, mz_c4, mz_c5, mz_c6, mz_c7, mz_c8, mz_c10, mz_c17, mz_c20, mz_c28, mz_c58, mz_c63, mz_c98, mz_c294, mz_c526, mz_c532, mz_c540, mz_c999, mz_c1900, mz_c2403, mz_c29362, mz_c29363, mz_c29364, mz_c29390, mz_c29393, mz_c29394, mz_c29398, mz_c29399, mz_c29400, mz_c29401, nI_add, pk_mul, pk_m1, mz_pp, mz_pq]; congr 1; omega)) ?_
        try simp only [mz_c0, mz_cm1]
        refine mz_V.sub (lv' := [some (.ref γ), some (.ref β), some (.int (nI (i + 1)))]) (by (repeat' apply And.intro) <;> first | with_reducible rfl | exact True.intro | (simp only [mz_cm1, mz_c0, mz_c1, mz_c2, mz_c3, mz_c4, mz_c5, mz_c6, mz_c7, mz_c8, mz_c10, mz_c17, mz_c20, mz_c28, mz_c58, mz_c63, mz_c98, mz_c294, mz_c526, mz_c532, mz_c540, mz_c999, mz_c1900, mz_c2403, mz_c29362, mz_c29363, mz_c29364, mz_c29390, mz_c29393, mz_c29394, mz_c29398, mz_c29399, mz_c29400, mz_c29401, nI_add, pk_mul, pk_m1, mz_pp, mz_pq]; done) | rfl) ?_
        exact ih (i + 1) f1 c1 G1 O1 sz1 kn (by omega) hf hl' hs1 hY1 hF1 hkn
  have begin_ : ∀ (G1 : mz_G), mr_Cn G1 O sz γ τ (f (mx_CA m0 b)) (f (mx_CA m0 b + 1)) S1.2 len (mr_h S1.1 L 4) → mt_F (mr_Y γ τ) G G1 O O sz sz → mz_V E p l e (mz_rm 7 (mr_ph len - mr_ph (mt_gr 4 532 len S2.2)) (mr_ph len - mr_ph (mt_gr 4 532 len S2.2))) s m args below meth c 3 (0) (0) (mz_Z E below args s (mr_ph len - mr_ph (mt_gr 4 532 len S2.2)) (mr_ph len - mr_ph (mt_gr 4 532 len S2.2)) (fun v' G' sz' => v' = none ∧ ∃ O', mr_C G' O' sz' γ τ (mr_bu f m0 b cnt g cc) m0 b S2.2 (mt_gr 4 532 len S2.2) ∧ mt_F (mr_Y γ τ) G G' O O' sz sz')) (G1) (sz) (55) [some (.ref γ), some (.ref β)] [] := by
    intro G1 hY1 hF1
    refine mz_sn_ok hC tk_X1_bringUpTo pk_RX1 2 [] rfl (by (repeat' apply And.intro) <;> first | exact True.intro | assumption | (simp only [mz_cm1, mz_c0, mz_c1, mz_c2, mz_c3, mz_c4, mz_c5, mz_c6, mz_c7, mz_c8, mz_c10, mz_c17, mz_c20, mz_c28, mz_c58, mz_c63, mz_c98, mz_c294, mz_c526, mz_c532, mz_c540, mz_c999, mz_c1900, mz_c2403, mz_c29362, mz_c29363, mz_c29364, mz_c29390, mz_c29393, mz_c29394, mz_c29398, mz_c29399, mz_c29400, mz_c29401, nI_add, pk_mul, pk_m1, mz_pp, mz_pq]; done) | omega | (simp only [mz_cm1, mz_c0, mz_c1, mz_c2, mz_c3, mz_c4, mz_c5, mz_c6, mz_c7, mz_c8, mz_c10, mz_c17, mz_c20, mz_c28, mz_c58, mz_c63, mz_c98, mz_c294, mz_c526, mz_c532, mz_c540, mz_c999, mz_c1900, mz_c2403, mz_c29362, mz_c29363, mz_c29364, mz_c29390, mz_c29393, mz_c29394, mz_c29398, mz_c29399, mz_c29400, mz_c29401, nI_add, pk_mul, pk_m1, mz_pp, mz_pq]; congr 1; omega)) ?_
    try simp only [mz_c0, mz_cm1]
    refine mz_V.sub (lv' := [some (.ref γ), some (.ref β), some (.int (nI 0))]) (by (repeat' apply And.intro) <;> first | with_reducible rfl | exact True.intro | (simp only [mz_cm1, mz_c0, mz_c1, mz_c2, mz_c3, mz_c4, mz_c5, mz_c6, mz_c7, mz_c8, mz_c10, mz_c17, mz_c20, mz_c28, mz_c58, mz_c63, mz_c98, mz_c294, mz_c526, mz_c532, mz_c540, mz_c999, mz_c1900, mz_c2403, mz_c29362, mz_c29363, mz_c29364, mz_c29390, mz_c29393, mz_c29394, mz_c29398, mz_c29399, mz_c29400, mz_c29401, nI_add, pk_mul, pk_m1, mz_pp, mz_pq]; done) | rfl) ?_
    refine loop cnt 0 S1.1 S1.2 G1 O sz 0 (by omega) (fun j hj => ok3 j (Or.inl hj)) hS12 hso1 ?_ hF1 (Nat.zero_le _)
    rw [mt_gr_id 4 532 (show S1.2 * 4 ≤ len by omega)]
    exact hY1
  refine mz_sn_ok hC tk_X1_bringUpTo pk_RX1 2 [] rfl (by (repeat' apply And.intro) <;> first | exact True.intro | assumption | (simp only [mz_cm1, mz_c0, mz_c1, mz_c2, mz_c3, mz_c4, mz_c5, mz_c6, mz_c7, mz_c8, mz_c10, mz_c17, mz_c20, mz_c28, mz_c58, mz_c63, mz_c98, mz_c294, mz_c526, mz_c532, mz_c540, mz_c999, mz_c1900, mz_c2403, mz_c29362, mz_c29363, mz_c29364, mz_c29390, mz_c29393, mz_c29394, mz_c29398, mz_c29399, mz_c29400, mz_c29401, nI_add, pk_mul, pk_m1, mz_pp, mz_pq]; done) | omega | (simp only [mz_cm1, mz_c0, mz_c1, mz_c2, mz_c3, mz_c4, mz_c5, mz_c6, mz_c7, mz_c8, mz_c10, mz_c17, mz_c20, mz_c28, mz_c58, mz_c63, mz_c98, mz_c294, mz_c526, mz_c532, mz_c540, mz_c999, mz_c1900, mz_c2403, mz_c29362, mz_c29363, mz_c29364, mz_c29390, mz_c29393, mz_c29394, mz_c29398, mz_c29399, mz_c29400, mz_c29401, nI_add, pk_mul, pk_m1, mz_pp, mz_pq]; congr 1; omega)) ?_
  try simp only [mz_c0, mz_cm1]
  refine mz_Vcv hC tk_X1_bringUpTo rfl md_X1_caseOfSync lk_RX1_45 rfl (cc_case l E hYc hB0) (by show (vwCl[mz_K _ _]?).map _ = _; rw [hK]; rfl) ⟨Nat.le_of_ble_eq_true rfl, Nat.le_of_ble_eq_true rfl⟩ ⟨by simp only [mz_rm]; omega, by simp only [mz_rm]; omega⟩ (Nat.le_of_ble_eq_true rfl) (fun v9 G9 sz9 hp9 => ?_)
  obtain ⟨rfl, hG9, hs9⟩ := hp9
  rw [hG9, ← hs9]
  rcases mx_cs_le f m0 b with h | h | h
  · refine mz_Vlook (tgt := 32) (off := 27) hC tk_X1_bringUpTo 1 rfl (by rw [h]) (by omega) (by decide) (by decide) (by decide) ?_
    refine mz_sn_ok hC tk_X1_bringUpTo pk_RX1 2 [τ] rfl (by (repeat' apply And.intro) <;> first | exact True.intro | assumption | (simp only [mz_cm1, mz_c0, mz_c1, mz_c2, mz_c3, mz_c4, mz_c5, mz_c6, mz_c7, mz_c8, mz_c10, mz_c17, mz_c20, mz_c28, mz_c58, mz_c63, mz_c98, mz_c294, mz_c526, mz_c532, mz_c540, mz_c999, mz_c1900, mz_c2403, mz_c29362, mz_c29363, mz_c29364, mz_c29390, mz_c29393, mz_c29394, mz_c29398, mz_c29399, mz_c29400, mz_c29401, nI_add, pk_mul, pk_m1, mz_pp, mz_pq]; done) | omega | (simp only [mz_cm1, mz_c0, mz_c1, mz_c2, mz_c3, mz_c4, mz_c5, mz_c6, mz_c7, mz_c8, mz_c10, mz_c17, mz_c20, mz_c28, mz_c58, mz_c63, mz_c98, mz_c294, mz_c526, mz_c532, mz_c540, mz_c999, mz_c1900, mz_c2403, mz_c29362, mz_c29363, mz_c29364, mz_c29390, mz_c29393, mz_c29394, mz_c29398, mz_c29399, mz_c29400, mz_c29401, nI_add, pk_mul, pk_m1, mz_pp, mz_pq]; congr 1; omega)) ?_
    try simp only [mz_c0, mz_cm1]
    refine mz_Vcv hC tk_X1_bringUpTo rfl md_X4_eraseAll lk_RX1_55 rfl (ct_eraseAll l E tc) (by show (vwCl[mz_K _ _]?).map _ = _; rw [kc]; rfl) ⟨Nat.le_of_ble_eq_true rfl, Nat.le_of_ble_eq_true rfl⟩ ⟨by simp only [mz_rm]; omega, by simp only [mz_rm]; omega⟩ (Nat.le_of_ble_eq_true rfl) (fun v9 G9 sz9 hp9 => ?_)
    obtain ⟨rfl, hs10, t3, hF3⟩ := hp9
    rw [← hs10]
    refine mz_sn_ok hC tk_X1_bringUpTo pk_RX1 1 [] rfl (by (repeat' apply And.intro) <;> first | exact True.intro | assumption | (simp only [mz_cm1, mz_c0, mz_c1, mz_c2, mz_c3, mz_c4, mz_c5, mz_c6, mz_c7, mz_c8, mz_c10, mz_c17, mz_c20, mz_c28, mz_c58, mz_c63, mz_c98, mz_c294, mz_c526, mz_c532, mz_c540, mz_c999, mz_c1900, mz_c2403, mz_c29362, mz_c29363, mz_c29364, mz_c29390, mz_c29393, mz_c29394, mz_c29398, mz_c29399, mz_c29400, mz_c29401, nI_add, pk_mul, pk_m1, mz_pp, mz_pq]; done) | omega | (simp only [mz_cm1, mz_c0, mz_c1, mz_c2, mz_c3, mz_c4, mz_c5, mz_c6, mz_c7, mz_c8, mz_c10, mz_c17, mz_c20, mz_c28, mz_c58, mz_c63, mz_c98, mz_c294, mz_c526, mz_c532, mz_c540, mz_c999, mz_c1900, mz_c2403, mz_c29362, mz_c29363, mz_c29364, mz_c29390, mz_c29393, mz_c29394, mz_c29398, mz_c29399, mz_c29400, mz_c29401, nI_add, pk_mul, pk_m1, mz_pp, mz_pq]; congr 1; omega)) ?_
    try simp only [mz_c0, mz_cm1]
    refine begin_ _ (hY0.msg hF3 (t3.R ?_)) (hF3.mono (fun q hq => Or.inr hq))
    rw [hR, List.filter_eq_nil_iff.mpr (fun x _ => by rw [decide_eq_true (Or.inl h)]; decide)]
    rfl
  · refine mz_Vlook (tgt := 42) (off := 37) hC tk_X1_bringUpTo 2 rfl (by rw [h]) (by omega) (by decide) (by decide) (by decide) ?_
    refine mz_sn_ok hC tk_X1_bringUpTo pk_RX1 2 [] rfl (by (repeat' apply And.intro) <;> first | exact True.intro | assumption | (simp only [mz_cm1, mz_c0, mz_c1, mz_c2, mz_c3, mz_c4, mz_c5, mz_c6, mz_c7, mz_c8, mz_c10, mz_c17, mz_c20, mz_c28, mz_c58, mz_c63, mz_c98, mz_c294, mz_c526, mz_c532, mz_c540, mz_c999, mz_c1900, mz_c2403, mz_c29362, mz_c29363, mz_c29364, mz_c29390, mz_c29393, mz_c29394, mz_c29398, mz_c29399, mz_c29400, mz_c29401, nI_add, pk_mul, pk_m1, mz_pp, mz_pq]; done) | omega | (simp only [mz_cm1, mz_c0, mz_c1, mz_c2, mz_c3, mz_c4, mz_c5, mz_c6, mz_c7, mz_c8, mz_c10, mz_c17, mz_c20, mz_c28, mz_c58, mz_c63, mz_c98, mz_c294, mz_c526, mz_c532, mz_c540, mz_c999, mz_c1900, mz_c2403, mz_c29362, mz_c29363, mz_c29364, mz_c29390, mz_c29393, mz_c29394, mz_c29398, mz_c29399, mz_c29400, mz_c29401, nI_add, pk_mul, pk_m1, mz_pp, mz_pq]; congr 1; omega)) ?_
    try simp only [mz_c0, mz_cm1]
    refine mz_Vcv hC tk_X1_bringUpTo rfl md_X1_dropLost lk_RX1_58 rfl (cc_dropLost l E hYc hB0 hd L hL) (by show (vwCl[mz_K _ _]?).map _ = _; rw [hK]; rfl) ⟨Nat.le_of_ble_eq_true rfl, Nat.le_of_ble_eq_true rfl⟩ ⟨by simp only [mz_rm]; omega, by simp only [mz_rm]; omega⟩ (Nat.le_of_ble_eq_true rfl) (fun v9 G9 sz9 hp9 => ?_)
    obtain ⟨rfl, hs10, hY3, hF3⟩ := hp9
    rw [← hs10]
    refine mz_sn_ok hC tk_X1_bringUpTo pk_RX1 1 [] rfl (by (repeat' apply And.intro) <;> first | exact True.intro | assumption | (simp only [mz_cm1, mz_c0, mz_c1, mz_c2, mz_c3, mz_c4, mz_c5, mz_c6, mz_c7, mz_c8, mz_c10, mz_c17, mz_c20, mz_c28, mz_c58, mz_c63, mz_c98, mz_c294, mz_c526, mz_c532, mz_c540, mz_c999, mz_c1900, mz_c2403, mz_c29362, mz_c29363, mz_c29364, mz_c29390, mz_c29393, mz_c29394, mz_c29398, mz_c29399, mz_c29400, mz_c29401, nI_add, pk_mul, pk_m1, mz_pp, mz_pq]; done) | omega | (simp only [mz_cm1, mz_c0, mz_c1, mz_c2, mz_c3, mz_c4, mz_c5, mz_c6, mz_c7, mz_c8, mz_c10, mz_c17, mz_c20, mz_c28, mz_c58, mz_c63, mz_c98, mz_c294, mz_c526, mz_c532, mz_c540, mz_c999, mz_c1900, mz_c2403, mz_c29362, mz_c29363, mz_c29364, mz_c29390, mz_c29393, mz_c29394, mz_c29398, mz_c29399, mz_c29400, mz_c29401, nI_add, pk_mul, pk_m1, mz_pp, mz_pq]; congr 1; omega)) ?_
    try simp only [mz_c0, mz_cm1]
    refine begin_ _ ⟨hY3.1, hY3.2.R ?_⟩ hF3
    rw [hR, mr_k1_R f (f (mx_CA m0 b + 1)) hsoL g]
    congr 1
    funext x
    congr 1
    by_cases hv : mx_hv f b x.1 (f (mx_CA m0 b + 1)) g = true
    · exact hv.trans (decide_eq_true (Or.inr (Or.inl ⟨h, hv⟩))).symm
    · refine (Bool.eq_false_iff.mpr hv).trans (decide_eq_false (fun z => ?_)).symm
      rcases z with z | z | z
      · omega
      · exact hv z.2
      · omega
  · refine mz_Vlook (tgt := 50) (off := 45) hC tk_X1_bringUpTo 3 rfl (by rw [h]) (by omega) (by decide) (by decide) (by decide) ?_
    refine mz_sn_ok hC tk_X1_bringUpTo pk_RX1 2 [] rfl (by (repeat' apply And.intro) <;> first | exact True.intro | assumption | (simp only [mz_cm1, mz_c0, mz_c1, mz_c2, mz_c3, mz_c4, mz_c5, mz_c6, mz_c7, mz_c8, mz_c10, mz_c17, mz_c20, mz_c28, mz_c58, mz_c63, mz_c98, mz_c294, mz_c526, mz_c532, mz_c540, mz_c999, mz_c1900, mz_c2403, mz_c29362, mz_c29363, mz_c29364, mz_c29390, mz_c29393, mz_c29394, mz_c29398, mz_c29399, mz_c29400, mz_c29401, nI_add, pk_mul, pk_m1, mz_pp, mz_pq]; done) | omega | (simp only [mz_cm1, mz_c0, mz_c1, mz_c2, mz_c3, mz_c4, mz_c5, mz_c6, mz_c7, mz_c8, mz_c10, mz_c17, mz_c20, mz_c28, mz_c58, mz_c63, mz_c98, mz_c294, mz_c526, mz_c532, mz_c540, mz_c999, mz_c1900, mz_c2403, mz_c29362, mz_c29363, mz_c29364, mz_c29390, mz_c29393, mz_c29394, mz_c29398, mz_c29399, mz_c29400, mz_c29401, nI_add, pk_mul, pk_m1, mz_pp, mz_pq]; congr 1; omega)) ?_
    try simp only [mz_c0, mz_cm1]
    refine mz_Vcv hC tk_X1_bringUpTo rfl md_X1_dropAllThatBoxLacks lk_RX1_62 rfl (cc_dropAll l E hYc hB0 hb hd L hL) (by show (vwCl[mz_K _ _]?).map _ = _; rw [hK]; rfl) ⟨Nat.le_of_ble_eq_true rfl, Nat.le_of_ble_eq_true rfl⟩ ⟨by simp only [mz_rm]; omega, by simp only [mz_rm]; omega⟩ (Nat.le_of_ble_eq_true rfl) (fun v9 G9 sz9 hp9 => ?_)
    obtain ⟨rfl, hs10, hY3, hF3⟩ := hp9
    rw [← hs10]
    refine begin_ _ ⟨hY3.1, hY3.2.R ?_⟩ hF3
    rw [hR, mr_k3_R b cnt L hLb c20 f cc f cc (Nat.le_refl _) (fun _ _ => rfl), List.take_of_length_le (by rw [mr_R_len]; omega), List.drop_of_length_le (by rw [mr_R_len]; omega), List.append_nil]
    congr 1
    funext x
    congr 1
    refine decide_eq_decide.mpr ⟨fun z => Or.inr (Or.inr ⟨h, z⟩), fun z => ?_⟩
    rcases z with z | z | z
    · omega
    · omega
    · exact z.2
theorem cc_takeFrom (hY : mr_C G O sz γ τ f m0 b cc len) {γ' τ' cc' len' : Nat} {f' : Nat → Int32} (hY' : mr_C G O sz γ' τ' f' m0 b cc' len') (h1 : γ ≠ γ') (h2 : τ ≠ τ') (hch : mr_ch len) (hch' : mr_ch len') : mz_M l E yX1_takeFrom cX1_takeFrom 2 none 4 (mr_ph len - mr_ph (mt_tl 4 cc' len len')) (mr_ph len - mr_ph (mt_tl 4 cc' len len')) [.ref γ, .ref γ'] G sz (fun v' G' sz' => v' = none ∧ ∃ O', mr_C G' O' sz' γ τ f' m0 b cc' (mt_tl 4 cc' len len') ∧ mt_F (mr_Y γ τ) G G' O O' sz sz') := by
  have hY0 := hY.1
  obtain ⟨⟨⟨⟨⟨hK, hO, hs⟩, i0, i1⟩, r2⟩, tc⟩, hcc⟩ := hY
  have hYc' := hY'
  obtain ⟨⟨⟨⟨⟨hK', hO', hs'⟩, i0', i1'⟩, r2'⟩, tc'⟩, hcc'⟩ := hY'
  have hlen : cc' * 4 ≤ len' := by
    obtain ⟨a, -, ⟨b1, -⟩, -⟩ := tc'
    exact b1
  obtain ⟨p1, p2, p3⟩ := mr_ch_tl hch hch' hlen
  have e1 : ∀ u, mz_i (mz_si G γ 0 u) γ' 1 = f' (mx_CA m0 b + 1) := fun u => by show mz_u2 (mz_i G) γ 0 u γ' 1 = _; rw [mz_u2_a _ _ _ _ (Ne.symm h1), i1']
  refine mz_start (by decide) (Nat.le_of_ble_eq_true rfl) ?_
  intro p e s m args below meth c hC hret hnm
  refine mz_sn_ok hC tk_X1_takeFrom pk_RX1 8 [] rfl (by (repeat' apply And.intro) <;> first | exact True.intro | assumption | (simp only [mz_cm1, mz_c0, mz_c1, mz_c2, mz_c3, mz_c4, mz_c5, mz_c6, mz_c7, mz_c8, mz_c10, mz_c17, mz_c20, mz_c28, mz_c58, mz_c63, mz_c98, mz_c294, mz_c526, mz_c532, mz_c540, mz_c999, mz_c1900, mz_c2403, mz_c29362, mz_c29363, mz_c29364, mz_c29390, mz_c29393, mz_c29394, mz_c29398, mz_c29399, mz_c29400, mz_c29401, nI_add, pk_mul, pk_m1, mz_pp, mz_pq, i0', e1]; done) | omega | (simp only [mz_cm1, mz_c0, mz_c1, mz_c2, mz_c3, mz_c4, mz_c5, mz_c6, mz_c7, mz_c8, mz_c10, mz_c17, mz_c20, mz_c28, mz_c58, mz_c63, mz_c98, mz_c294, mz_c526, mz_c532, mz_c540, mz_c999, mz_c1900, mz_c2403, mz_c29362, mz_c29363, mz_c29364, mz_c29390, mz_c29393, mz_c29394, mz_c29398, mz_c29399, mz_c29400, mz_c29401, nI_add, pk_mul, pk_m1, mz_pp, mz_pq, i0', e1]; congr 1; omega)) ?_
  try simp only [mz_c0, mz_cm1, i0', e1]
  obtain ⟨hY1, hF1⟩ := hY0.s0 (f' (mx_CA m0 b))
  obtain ⟨hY2, hF2⟩ := hY1.s1 (f' (mx_CA m0 b + 1))
  obtain ⟨G2, hG2⟩ : ∃ G2, G2 = mz_si (mz_si G γ 0 (f' (mx_CA m0 b))) γ 1 (f' (mx_CA m0 b + 1)) := ⟨_, rfl⟩
  rw [← hG2] at hY2 hF2 ⊢
  have hF12 := hF1.tr hF2
  have hY2' := hYc'.fr hF12 (Ne.symm h1) (fun z => by have q := tc'.K; rw [z] at q; omega)
  have hY2c := hY2
  obtain ⟨⟨⟨⟨hK2, -⟩, -⟩, r22⟩, tc2⟩ := hY2c
  obtain ⟨⟨⟨⟨⟨hK2', -⟩, -⟩, r22'⟩, tc2'⟩, -⟩ := hY2'
  have kc2 := tc2.K
  refine mz_sn_ok hC tk_X1_takeFrom pk_RX1 4 [τ, τ'] rfl (by (repeat' apply And.intro) <;> first | exact True.intro | assumption | (simp only [mz_cm1, mz_c0, mz_c1, mz_c2, mz_c3, mz_c4, mz_c5, mz_c6, mz_c7, mz_c8, mz_c10, mz_c17, mz_c20, mz_c28, mz_c58, mz_c63, mz_c98, mz_c294, mz_c526, mz_c532, mz_c540, mz_c999, mz_c1900, mz_c2403, mz_c29362, mz_c29363, mz_c29364, mz_c29390, mz_c29393, mz_c29394, mz_c29398, mz_c29399, mz_c29400, mz_c29401, nI_add, pk_mul, pk_m1, mz_pp, mz_pq]; done) | omega | (simp only [mz_cm1, mz_c0, mz_c1, mz_c2, mz_c3, mz_c4, mz_c5, mz_c6, mz_c7, mz_c8, mz_c10, mz_c17, mz_c20, mz_c28, mz_c58, mz_c63, mz_c98, mz_c294, mz_c526, mz_c532, mz_c540, mz_c999, mz_c1900, mz_c2403, mz_c29362, mz_c29363, mz_c29364, mz_c29390, mz_c29393, mz_c29394, mz_c29398, mz_c29399, mz_c29400, mz_c29401, nI_add, pk_mul, pk_m1, mz_pp, mz_pq]; congr 1; omega)) ?_
  try simp only [mz_c0, mz_cm1]
  refine mz_Vcv hC tk_X1_takeFrom rfl md_X4_takeFrom lk_RX1_84 rfl (ct_takeFrom l E tc2 tc2' h2) (by show (vwCl[mz_K _ _]?).map _ = _; rw [kc2]; rfl) ⟨Nat.le_of_ble_eq_true rfl, Nat.le_of_ble_eq_true rfl⟩ ⟨by simp only [mz_rm]; omega, by simp only [mz_rm]; omega⟩ (Nat.le_of_ble_eq_true rfl) (fun v9 G9 sz9 hp9 => ?_)
  obtain ⟨rfl, hs3, O3, t3, hF3⟩ := hp9
  refine mz_Vreturn hC tk_X1_takeFrom rfl hret (by omega) (by omega) ?_
  exact ⟨rfl, O3, ⟨hY2.msg hF3 t3, hcc'⟩, (hF12.mono (fun q hq => Or.inl hq)).tr (hF3.mono (fun q hq => Or.inr hq))⟩
end MRC

