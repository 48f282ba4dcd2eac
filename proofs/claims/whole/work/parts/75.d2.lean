/-! ===== the class: a machine; what it shows; it takes another's state ===== -/
/-- a machine of the class holds machine m of f: its object at κ, copies' array κ + 1, deeds κ + 2, copy b at κ + 4 + 3 b, its table behind it; Λ: the rooms of the copies -/
def mr_K (G : mz_G) (O : Nat → Nat) (sz κ : Nat) (f : Nat → Int32) (m : Nat) (Λ : Nat → Nat) : Prop :=
  (((mz_K G κ = 2 ∧ O κ = κ ∧ κ < sz) ∧ mz_i G κ 0 = f (294 + 58 * m) ∧ (mz_r G κ 1 = some (κ + 1) ∧ mz_r G κ 2 = some (κ + 2))) ∧
  ((mz_K G (κ + 1) = 9 ∧ O (κ + 1) = κ + 1 ∧ mz_n G (κ + 1) = 3 ∧ κ + 1 < sz) ∧ ∀ b, b < 3 → mz_r G (κ + 1) b = some (κ + 4 + 3 * b))) ∧
  (mt_T G O sz (κ + 2) 7 8 (mx_nD f m) 56 (mr_h f (294 + 58 * m + 1) 7) ∧ f (294 + 58 * m + 1) = nI (mx_nD f m)) ∧
  ∀ b, b < 3 → mr_C G O sz (κ + 4 + 3 * b) (κ + 4 + 3 * b + 1) f m b (mx_cC f m b) (Λ b) ∧ mr_ch (Λ b)
theorem mr_K.d {G : mz_G} {O : Nat → Nat} {sz κ : Nat} {f : Nat → Int32} {m : Nat} {Λ : Nat → Nat} (h : mr_K G O sz κ f m Λ) : mr_Kd G O sz κ (κ + 2) f m (mx_nD f m) := by
  obtain ⟨⟨⟨⟨hK, -⟩, -, -, r2⟩, -⟩, ⟨t, -⟩, -⟩ := h
  exact ⟨⟨hK, r2⟩, t⟩
section MRK
variable {X : Nat → Prop} {G G' : mz_G} {O O' : Nat → Nat} {sz sz' κ : Nat} {f f' : Nat → Int32} {m : Nat} {Λ : Nat → Nat}
theorem mr_K.ob (h : mr_K G O sz κ f m Λ) (hF : mt_F X G G' O O' sz sz') (h1 : ¬ X κ) (h2 : ¬ X (κ + 1)) : ((mz_K G' κ = 2 ∧ O' κ = κ ∧ κ < sz') ∧ mz_i G' κ 0 = f (294 + 58 * m) ∧ (mz_r G' κ 1 = some (κ + 1) ∧ mz_r G' κ 2 = some (κ + 2))) ∧ ((mz_K G' (κ + 1) = 9 ∧ O' (κ + 1) = κ + 1 ∧ mz_n G' (κ + 1) = 3 ∧ κ + 1 < sz') ∧ ∀ b, b < 3 → mz_r G' (κ + 1) b = some (κ + 4 + 3 * b)) := by
  obtain ⟨⟨⟨⟨hK, hO, hs⟩, i0, r1, r2⟩, ⟨hK1, hO1, hn1, hs1⟩, hr⟩, -⟩ := h
  obtain ⟨o1, f1⟩ := hF.2 κ hs
  obtain ⟨e1, e2, e3, e4, e5⟩ := f1 (by rw [hO]; exact h1)
  obtain ⟨o2, f2⟩ := hF.2 (κ + 1) hs1
  obtain ⟨d1, d2, d3, d4, d5⟩ := f2 (by rw [hO1]; exact h2)
  have := hF.1
  exact ⟨⟨⟨by rw [e1, hK], by rw [o1, hO], by omega⟩, by rw [e3, i0], by rw [e4, r1], by rw [e4, r2]⟩, ⟨by rw [d1, hK1], by rw [o2, hO1], by rw [d2, hn1], by omega⟩, fun b hb => by rw [d4]; exact hr b hb⟩
theorem mr_K.fr (h : mr_K G O sz κ f m Λ) (hF : mt_F X G G' O O' sz sz') (hX : ∀ q, κ ≤ q → q < κ + 13 → ¬ X q) : mr_K G' O' sz' κ f m Λ := by
  have ho := h.ob hF (hX κ (by omega) (by omega)) (hX (κ + 1) (by omega) (by omega))
  obtain ⟨-, ⟨t, hn⟩, hc⟩ := h
  exact ⟨ho, ⟨t.fr hF (hX _ (by omega) (by omega)), hn⟩, fun b hb => ⟨(hc b hb).1.fr hF (hX _ (by omega) (by omega)) (hX _ (by omega) (by omega)), (hc b hb).2⟩⟩
theorem mr_nD_cong (h : f' (294 + 58 * m + 1) = f (294 + 58 * m + 1)) : mx_nD f' m = mx_nD f m := by unfold mx_nD; rw [h]
theorem mr_cC_cong {b : Nat} (h : f' (mx_CA m b + 2) = f (mx_CA m b + 2)) : mx_cC f' m b = mx_cC f m b := by unfold mx_cC; rw [h]
theorem mr_nI_cl {v : Int32} {n : Nat} (h : v = nI n) (hn : n < 2147483648) : v.toNatClampNeg = n := by rw [h, nI_clamp hn]
theorem mr_K.cong (h : mr_K G O sz κ f m Λ) (hm : m < 4) (e1 : ∀ i, 294 + 58 * m ≤ i → i < 294 + 58 * m + 58 → f' i = f i) (e2 : ∀ b i, b < 3 → mx_CA m b ≤ i → i < mx_CA m b + 2403 → f' i = f i) : mr_K G O sz κ f' m Λ := by
  obtain ⟨⟨⟨hk, i0, hr⟩, ha⟩, ⟨t, hn⟩, hc⟩ := h
  have en : mx_nD f' m = mx_nD f m := mr_nD_cong (e1 _ (by omega) (by omega))
  obtain ⟨n8, -, -⟩ := t.b
  refine ⟨⟨⟨hk, by rw [e1 _ (by omega) (by omega)]; exact i0, hr⟩, ha⟩, ⟨?_, by rw [en, e1 _ (by omega) (by omega)]; exact hn⟩, fun b hb => ⟨?_, (hc b hb).2⟩⟩
  · rw [en]
    exact t.same (fun k j h1 h2 => (e1 (294 + 58 * m + 1 + 1 + 7 * k + j) (by omega) (by omega)).symm)
  · rw [mr_cC_cong (e2 b _ hb (by omega) (by omega))]
    exact (hc b hb).1.cong (fun i h1 h2 => e2 b i hb h1 h2)
end MRK
section MRD
variable (l : Launch) (E : mz_E) {G : mz_G} {O : Nat → Nat} {sz κ : Nat} {f : Nat → Int32} {m0 : Nat} {Λ : Nat → Nat}
theorem cd_lacks (hM : mr_K G O sz κ f m0 Λ) (k b : Nat) (hk : k < mx_nD f m0) (hb : b < 3) : mz_M l E yX2_lacksMessageOf cX2_lacksMessageOf 3 (some .boolean) 3 0 0 [.ref κ, .int (nI k), .int (nI b)] G sz (fun v' G' sz' => v' = some (.int (if mz_fz (mx_nm f (mx_CA m0 b + 2)) (f (mx_DA m0 k + 3)) (mx_cC f m0 b) = none then 1 else 0)) ∧ G' = G ∧ sz = sz') := by
  obtain ⟨⟨⟨⟨hK, hO, hs⟩, i0, r1, r2⟩, ⟨hK1, hO1, hn1, hs1⟩, hr⟩, ⟨td, hnD⟩, hcp⟩ := hM
  have kd := td.K
  have sd := td.s
  obtain ⟨n8, -, -⟩ := td.b
  obtain ⟨⟨⟨⟨⟨hKc, hOc, hsc⟩, j0, j1⟩, q2⟩, tc⟩, hcc⟩ := (hcp b hb).1
  have kc := tc.K
  obtain ⟨c532, -, -⟩ := tc.b
  have hrb := hr b hb
  have hx1 : 8 ≤ mz_K G (κ + 1) := by omega
  have hx2 : mz_K G (κ + 1) < 12 := by omega
  have hx3 : b < mz_n G (κ + 1) := by omega
  have hx4 : mz_n G (κ + 1) < 2147483648 := by omega
  refine mz_start (by decide) (Nat.le_of_ble_eq_true rfl) ?_
  intro p e s m args below meth c hC hret hnm
  refine mz_sn_ok hC tk_X2_lacksMessageOf pk_RX2 10 [κ + 1, b, κ + 4 + 3 * b, κ + 4 + 3 * b + 1, κ + 2] rfl (by (repeat' apply And.intro) <;> first | exact True.intro | assumption | (simp only [mz_cm1, mz_c0, mz_c1, mz_c2, mz_c3, mz_c4, mz_c5, mz_c6, mz_c7, mz_c8, mz_c10, mz_c17, mz_c20, mz_c28, mz_c58, mz_c63, mz_c98, mz_c294, mz_c526, mz_c532, mz_c540, mz_c999, mz_c1900, mz_c2403, mz_c29362, mz_c29363, mz_c29364, mz_c29390, mz_c29393, mz_c29394, mz_c29398, mz_c29399, mz_c29400, mz_c29401, nI_add, pk_mul, pk_m1, mz_pp, mz_pq]; done) | omega | (simp only [mz_cm1, mz_c0, mz_c1, mz_c2, mz_c3, mz_c4, mz_c5, mz_c6, mz_c7, mz_c8, mz_c10, mz_c17, mz_c20, mz_c28, mz_c58, mz_c63, mz_c98, mz_c294, mz_c526, mz_c532, mz_c540, mz_c999, mz_c1900, mz_c2403, mz_c29362, mz_c29363, mz_c29364, mz_c29390, mz_c29393, mz_c29394, mz_c29398, mz_c29399, mz_c29400, mz_c29401, nI_add, pk_mul, pk_m1, mz_pp, mz_pq]; congr 1; omega)) ?_
  try simp only [mz_c0, mz_cm1]
  refine mz_Vcv hC tk_X2_lacksMessageOf rfl md_X4_cell lk_RX2_34 rfl (ct_cell l E td (nI k) (nI 3)) (by show (vwCl[mz_K _ _]?).map _ = _; rw [kd]; rfl) ⟨Nat.le_of_ble_eq_true rfl, Nat.le_of_ble_eq_true rfl⟩ ⟨Nat.le_of_ble_eq_true rfl, Nat.le_of_ble_eq_true rfl⟩ (Nat.le_of_ble_eq_true rfl) (fun v9 G9 sz9 hp9 => ?_)
  obtain ⟨rfl, hG9, hs9⟩ := hp9
  rw [hG9, ← hs9, mt_c_in hk (by omega) (by omega) (by omega), mr_DA]
  refine mz_Vcv hC tk_X2_lacksMessageOf rfl md_X4_rowWith lk_RX2_41 rfl (ct_rowWith l E tc 0 (f (mx_DA m0 k + 3)) (by omega)) (by show (vwCl[mz_K _ _]?).map _ = _; rw [kc]; rfl) ⟨Nat.le_of_ble_eq_true rfl, Nat.le_of_ble_eq_true rfl⟩ ⟨Nat.le_of_ble_eq_true rfl, Nat.le_of_ble_eq_true rfl⟩ (Nat.le_of_ble_eq_true rfl) (fun v9 G9 sz9 hp9 => ?_)
  obtain ⟨rfl, hG10, hs10⟩ := hp9
  rw [hG10, ← hs10]
  have e0 : mz_fi (fun k => mr_h f (mx_CA m0 b + 2) 4 k 0) (f (mx_DA m0 k + 3)) (mx_cC f m0 b) = mz_fi (mx_nm f (mx_CA m0 b + 2)) (f (mx_DA m0 k + 3)) (mx_cC f m0 b) := rfl
  rw [e0]
  unfold mz_fi
  refine mz_sn_ok hC tk_X2_lacksMessageOf pk_RX2 1 [] rfl (by (repeat' apply And.intro) <;> first | exact True.intro | assumption | (simp only [mz_cm1, mz_c0, mz_c1, mz_c2, mz_c3, mz_c4, mz_c5, mz_c6, mz_c7, mz_c8, mz_c10, mz_c17, mz_c20, mz_c28, mz_c58, mz_c63, mz_c98, mz_c294, mz_c526, mz_c532, mz_c540, mz_c999, mz_c1900, mz_c2403, mz_c29362, mz_c29363, mz_c29364, mz_c29390, mz_c29393, mz_c29394, mz_c29398, mz_c29399, mz_c29400, mz_c29401, nI_add, pk_mul, pk_m1, mz_pp, mz_pq]; done) | omega | (simp only [mz_cm1, mz_c0, mz_c1, mz_c2, mz_c3, mz_c4, mz_c5, mz_c6, mz_c7, mz_c8, mz_c10, mz_c17, mz_c20, mz_c28, mz_c58, mz_c63, mz_c98, mz_c294, mz_c526, mz_c532, mz_c540, mz_c999, mz_c1900, mz_c2403, mz_c29362, mz_c29363, mz_c29364, mz_c29390, mz_c29393, mz_c29394, mz_c29398, mz_c29399, mz_c29400, mz_c29401, nI_add, pk_mul, pk_m1, mz_pp, mz_pq]; congr 1; omega)) ?_
  try simp only [mz_c0, mz_cm1]
  cases hz : mz_fz (mx_nm f (mx_CA m0 b + 2)) (f (mx_DA m0 k + 3)) (mx_cC f m0 b) with
  | none =>
    dsimp only
    refine mz_br_f hC tk_X2_lacksMessageOf rfl ((by show ¬ ¬ (-1 : Int32) = mz_c (-1); rw [mz_cm1]; exact fun z => z rfl)) ?_
    refine mz_sn_ok hC tk_X2_lacksMessageOf pk_RX2 2 [] rfl (by (repeat' apply And.intro) <;> first | exact True.intro | assumption | (simp only [mz_cm1, mz_c0, mz_c1, mz_c2, mz_c3, mz_c4, mz_c5, mz_c6, mz_c7, mz_c8, mz_c10, mz_c17, mz_c20, mz_c28, mz_c58, mz_c63, mz_c98, mz_c294, mz_c526, mz_c532, mz_c540, mz_c999, mz_c1900, mz_c2403, mz_c29362, mz_c29363, mz_c29364, mz_c29390, mz_c29393, mz_c29394, mz_c29398, mz_c29399, mz_c29400, mz_c29401, nI_add, pk_mul, pk_m1, mz_pp, mz_pq]; done) | omega | (simp only [mz_cm1, mz_c0, mz_c1, mz_c2, mz_c3, mz_c4, mz_c5, mz_c6, mz_c7, mz_c8, mz_c10, mz_c17, mz_c20, mz_c28, mz_c58, mz_c63, mz_c98, mz_c294, mz_c526, mz_c532, mz_c540, mz_c999, mz_c1900, mz_c2403, mz_c29362, mz_c29363, mz_c29364, mz_c29390, mz_c29393, mz_c29394, mz_c29398, mz_c29399, mz_c29400, mz_c29401, nI_add, pk_mul, pk_m1, mz_pp, mz_pq]; congr 1; omega)) ?_
    try simp only [mz_c0, mz_cm1]
    refine mz_Vireturn hC tk_X2_lacksMessageOf rfl hret mz_nb1 (Nat.le_of_ble_eq_true rfl) (Nat.le_of_ble_eq_true rfl) ?_
    exact ⟨by first | rfl | (rw [if_pos True.intro]; rfl), rfl, rfl⟩
  | some h =>
    dsimp only
    obtain ⟨h1, -, -⟩ := mz_fz_some hz
    refine mz_br_t hC tk_X2_lacksMessageOf rfl ((by show ¬ nI h = mz_c (-1); rw [mz_cm1]; exact fun z => by have h0 := mz_nn h (by omega); rw [z] at h0; exact absurd h0 (by decide))) ?_
    refine mz_sn_ok hC tk_X2_lacksMessageOf pk_RX2 1 [] rfl (by (repeat' apply And.intro) <;> first | exact True.intro | assumption | (simp only [mz_cm1, mz_c0, mz_c1, mz_c2, mz_c3, mz_c4, mz_c5, mz_c6, mz_c7, mz_c8, mz_c10, mz_c17, mz_c20, mz_c28, mz_c58, mz_c63, mz_c98, mz_c294, mz_c526, mz_c532, mz_c540, mz_c999, mz_c1900, mz_c2403, mz_c29362, mz_c29363, mz_c29364, mz_c29390, mz_c29393, mz_c29394, mz_c29398, mz_c29399, mz_c29400, mz_c29401, nI_add, pk_mul, pk_m1, mz_pp, mz_pq]; done) | omega | (simp only [mz_cm1, mz_c0, mz_c1, mz_c2, mz_c3, mz_c4, mz_c5, mz_c6, mz_c7, mz_c8, mz_c10, mz_c17, mz_c20, mz_c28, mz_c58, mz_c63, mz_c98, mz_c294, mz_c526, mz_c532, mz_c540, mz_c999, mz_c1900, mz_c2403, mz_c29362, mz_c29363, mz_c29364, mz_c29390, mz_c29393, mz_c29394, mz_c29398, mz_c29399, mz_c29400, mz_c29401, nI_add, pk_mul, pk_m1, mz_pp, mz_pq]; congr 1; omega)) ?_
    try simp only [mz_c0, mz_cm1]
    refine mz_Vireturn hC tk_X2_lacksMessageOf rfl hret mz_nb0 (Nat.le_of_ble_eq_true rfl) (Nat.le_of_ble_eq_true rfl) ?_
    exact ⟨by rw [if_neg (by simp)]; rfl, rfl, rfl⟩
theorem cd_fillView (hM : mr_K G O sz κ f m0 Λ) (b : Nat) (hb : b < 3) {υ len0 vn : Nat} {vh : Nat → Nat → Int32} (hv : mr_cv len0) (hV : mt_T G O sz υ 3 540 vn len0 vh) (hυ : υ < κ ∨ κ + 13 ≤ υ) (v0 : Nat → Int32) (S : (Nat → Int32) × Nat) (hS : S = mx_vw f m0 b (mx_cC f m0 b) (mx_nD f m0) v0) (hcc : mx_cC f m0 b < 532) : mz_M l E yX2_fillView cX2_fillView 7 none 6 (mr_pv len0 - mr_pv (mt_gr 3 540 len0 S.2)) (mr_pv len0 - mr_pv (mt_gr 3 540 len0 S.2)) [.ref κ, .int (nI b), .ref υ] G sz (fun v' G' sz' => v' = none ∧ ∃ O', mr_V G' O' sz' υ S (mt_gr 3 540 len0 S.2) ∧ mt_F (fun q => q = υ) G G' O O' sz sz') := by
  have hM0 := hM
  obtain ⟨⟨⟨⟨hK, hO, hs⟩, i0, r1, r2⟩, ⟨hK1, hO1, hn1, hs1⟩, hr⟩, ⟨td, hnD⟩, hcp⟩ := hM
  have kd := td.K
  have sd := td.s
  obtain ⟨n8, -, -⟩ := td.b
  have kv := hV.K
  obtain ⟨cc, hcce⟩ : ∃ cc, cc = mx_cC f m0 b := ⟨_, rfl⟩
  obtain ⟨n, hne⟩ : ∃ n, n = mx_nD f m0 := ⟨_, rfl⟩
  have hS0 : S = mx_w2 f m0 b (mx_w1 f m0 b n v0 cc) n := by rw [hS, hcce, hne]; rfl
  rw [← hne] at n8
  rw [← hcce] at hcc
  have hw1 := mx_w1_le f m0 b n v0 cc
  have hw2 := mx_w2_le f m0 b (mx_w1 f m0 b n v0 cc) n
  rw [← hS0] at hw2
  have mo1 : ∀ k, (mx_w1 f m0 b n v0 k).2 ≤ (mx_w1 f m0 b n v0 (k + 1)).2 := by
    intro k
    conv => rhs; unfold mx_w1
    split
    · simp only [mx_vp]; omega
    · exact Nat.le_refl _
  have mo2 : ∀ k, (mx_w2 f m0 b (mx_w1 f m0 b n v0 cc) k).2 ≤ (mx_w2 f m0 b (mx_w1 f m0 b n v0 cc) (k + 1)).2 := by
    intro k
    conv => rhs; unfold mx_w2
    split
    · simp only [mx_vp]; omega
    · exact Nat.le_refl _
  have up1 : ∀ d k, k + d = cc → (mx_w1 f m0 b n v0 k).2 ≤ (mx_w1 f m0 b n v0 cc).2 := by
    intro d
    induction d with
    | zero => intro k hk; rw [show k = cc by omega]; exact Nat.le_refl _
    | succ d ih => intro k hk; exact Nat.le_trans (mo1 k) (ih (k + 1) (by omega))
  have up2 : ∀ d k, k + d = n → (mx_w2 f m0 b (mx_w1 f m0 b n v0 cc) k).2 ≤ S.2 := by
    intro d
    induction d with
    | zero => intro k hk; rw [show k = n by omega, ← hS0]; exact Nat.le_refl _
    | succ d ih => intro k hk; exact Nat.le_trans (mo2 k) (ih (k + 1) (by omega))
  have hS1 : (mx_w1 f m0 b n v0 cc).2 ≤ S.2 := up2 n 0 (by omega)
  have hSm := (mt_gr_cv hv (n := S.2) (by omega)).2
  refine mz_start (by decide) (Nat.le_of_ble_eq_true rfl) ?_
  intro p e s m args below meth c hC hret hnm
  have two : ∀ (d k : Nat) (G1 : mz_G) (O1 : Nat → Nat) (sz1 kn : Nat) (l3 l5 l6 : Option Value), k + d = n → mr_V G1 O1 sz1 υ (mx_w2 f m0 b (mx_w1 f m0 b n v0 cc) k) (mt_gr 3 540 len0 (mx_w2 f m0 b (mx_w1 f m0 b n v0 cc) k).2) → mt_F (fun q => q = υ) G G1 O O1 sz sz1 → kn ≤ mr_pv len0 - mr_pv (mt_gr 3 540 len0 (mx_w2 f m0 b (mx_w1 f m0 b n v0 cc) k).2) → mz_V E p l e (mz_rm 6 (mr_pv len0 - mr_pv (mt_gr 3 540 len0 S.2)) (mr_pv len0 - mr_pv (mt_gr 3 540 len0 S.2))) s m args below meth c 7 (kn) (kn) (mz_Z E below args s (mr_pv len0 - mr_pv (mt_gr 3 540 len0 S.2)) (mr_pv len0 - mr_pv (mt_gr 3 540 len0 S.2)) (fun v' G' sz' => v' = none ∧ ∃ O', mr_V G' O' sz' υ S (mt_gr 3 540 len0 S.2) ∧ mt_F (fun q => q = υ) G G' O O' sz sz')) (G1) (sz1) (87) [some (.ref κ), some (.int (nI b)), some (.ref υ), l3, some (.int (nI k)), l5, l6] [] := by
    intro d
    induction d with
    | zero =>
      intro k G1 O1 sz1 kn l3 l5 l6 hk hV1 hF1 hkn
      rw [show k = n by omega, ← hS0] at hV1 hkn
      rw [show k = n by omega]
      have hM1 := hM0.fr hF1 (fun q h1 h2 z => by omega)
      obtain ⟨⟨⟨⟨hK1', -⟩, -, -, r21⟩, -⟩, ⟨td1, -⟩, -⟩ := hM1
      rw [← hne] at td1
      have kd1 := td1.K
      have sd1 := td1.s
      refine mz_sn_ok hC tk_X2_fillView pk_RX2 4 [κ + 2] rfl (by (repeat' apply And.intro) <;> first | exact True.intro | assumption | (simp only [mz_cm1, mz_c0, mz_c1, mz_c2, mz_c3, mz_c4, mz_c5, mz_c6, mz_c7, mz_c8, mz_c10, mz_c17, mz_c20, mz_c28, mz_c58, mz_c63, mz_c98, mz_c294, mz_c526, mz_c532, mz_c540, mz_c999, mz_c1900, mz_c2403, mz_c29362, mz_c29363, mz_c29364, mz_c29390, mz_c29393, mz_c29394, mz_c29398, mz_c29399, mz_c29400, mz_c29401, nI_add, pk_mul, pk_m1, mz_pp, mz_pq, sd1]; done) | omega | (simp only [mz_cm1, mz_c0, mz_c1, mz_c2, mz_c3, mz_c4, mz_c5, mz_c6, mz_c7, mz_c8, mz_c10, mz_c17, mz_c20, mz_c28, mz_c58, mz_c63, mz_c98, mz_c294, mz_c526, mz_c532, mz_c540, mz_c999, mz_c1900, mz_c2403, mz_c29362, mz_c29363, mz_c29364, mz_c29390, mz_c29393, mz_c29394, mz_c29398, mz_c29399, mz_c29400, mz_c29401, nI_add, pk_mul, pk_m1, mz_pp, mz_pq, sd1]; congr 1; omega)) ?_
      try simp only [mz_c0, mz_cm1, sd1]
      refine mz_br_t hC tk_X2_fillView rfl ((by show nI n ≤ nI n; exact nI_le (by omega) (by omega))) ?_
      refine mz_Vreturn hC tk_X2_fillView rfl hret hkn hkn ?_
      exact ⟨rfl, O1, hV1, hF1⟩
    | succ d ih =>
      intro k G1 O1 sz1 kn l3 l5 l6 hk hV1 hF1 hkn
      have hM1 := hM0.fr hF1 (fun q h1 h2 z => by omega)
      obtain ⟨⟨⟨⟨hK1', -⟩, -, -, r21⟩, -⟩, ⟨td1, -⟩, -⟩ := hM1
      rw [← hne] at td1
      have kd1 := td1.K
      have sd1 := td1.s
      have u1 := up2 (d + 1) k hk
      have u2 := up2 d (k + 1) (by omega)
      have m1 := mt_gr_mv hv u1 (by omega)
      have m2 := mt_gr_mv hv u2 (by omega)
      have m3 := (mt_gr_cv hv (n := (mx_w2 f m0 b (mx_w1 f m0 b n v0 cc) k).2) (by omega)).2
      have next : ∀ (G2 : mz_G) (O2 : Nat → Nat) (sz2 kn2 : Nat), mr_V G2 O2 sz2 υ (mx_w2 f m0 b (mx_w1 f m0 b n v0 cc) (k + 1)) (mt_gr 3 540 len0 (mx_w2 f m0 b (mx_w1 f m0 b n v0 cc) (k + 1)).2) → mt_F (fun q => q = υ) G G2 O O2 sz sz2 → kn2 ≤ mr_pv len0 - mr_pv (mt_gr 3 540 len0 (mx_w2 f m0 b (mx_w1 f m0 b n v0 cc) (k + 1)).2) → mz_V E p l e (mz_rm 6 (mr_pv len0 - mr_pv (mt_gr 3 540 len0 S.2)) (mr_pv len0 - mr_pv (mt_gr 3 540 len0 S.2))) s m args below meth c 7 (kn2) (kn2) (mz_Z E below args s (mr_pv len0 - mr_pv (mt_gr 3 540 len0 S.2)) (mr_pv len0 - mr_pv (mt_gr 3 540 len0 S.2)) (fun v' G' sz' => v' = none ∧ ∃ O', mr_V G' O' sz' υ S (mt_gr 3 540 len0 S.2) ∧ mt_F (fun q => q = υ) G G' O O' sz sz')) (G2) (sz2) (163) [some (.ref κ), some (.int (nI b)), some (.ref υ), l3, some (.int (nI k)), l5, l6] [] := by
        intro G2 O2 sz2 kn2 hV2 hF2 hkn2
        refine mz_sn_ok hC tk_X2_fillView pk_RX2 2 [] rfl (by (repeat' apply And.intro) <;> first | exact True.intro | assumption | (simp only [mz_cm1, mz_c0, mz_c1, mz_c2, mz_c3, mz_c4, mz_c5, mz_c6, mz_c7, mz_c8, mz_c10, mz_c17, mz_c20, mz_c28, mz_c58, mz_c63, mz_c98, mz_c294, mz_c526, mz_c532, mz_c540, mz_c999, mz_c1900, mz_c2403, mz_c29362, mz_c29363, mz_c29364, mz_c29390, mz_c29393, mz_c29394, mz_c29398, mz_c29399, mz_c29400, mz_c29401, nI_add, pk_mul, pk_m1, mz_pp, mz_pq]; done) | omega | (simp only [mz_cm1, mz_c0, mz_c1, mz_c2, mz_c3, mz_c4, mz_c5, mz_c6, mz_c7, mz_c8, mz_c10, mz_c17, mz_c20, mz_c28, mz_c58, mz_c63, mz_c98, mz_c294, mz_c526, mz_c532, mz_c540, mz_c999, mz_c1900, mz_c2403, mz_c29362, mz_c29363, mz_c29364, mz_c29390, mz_c29393, mz_c29394, mz_c29398, mz_c29399, mz_c29400, mz_c29401, nI_add, pk_mul, pk_m1, mz_pp, mz_pq]; congr 1; omega)) ?_
        try simp only [mz_c0, mz_cm1]
        refine mz_V.sub (lv' := [some (.ref κ), some (.int (nI b)), some (.ref υ), none, some (.int (nI (k + 1))), none, none]) (by (repeat' apply And.intro) <;> first | with_reducible rfl | exact True.intro | (simp only [mz_cm1, mz_c0, mz_c1, mz_c2, mz_c3, mz_c4, mz_c5, mz_c6, mz_c7, mz_c8, mz_c10, mz_c17, mz_c20, mz_c28, mz_c58, mz_c63, mz_c98, mz_c294, mz_c526, mz_c532, mz_c540, mz_c999, mz_c1900, mz_c2403, mz_c29362, mz_c29363, mz_c29364, mz_c29390, mz_c29393, mz_c29394, mz_c29398, mz_c29399, mz_c29400, mz_c29401, nI_add, pk_mul, pk_m1, mz_pp, mz_pq]; done) | rfl) ?_
        exact ih (k + 1) G2 O2 sz2 kn2 none none none (by omega) hV2 hF2 hkn2
      have same : ¬ (f (mx_DA m0 k + 1) = nI 1 ∧ f (mx_DA m0 k + 2) = nI b) → mx_w2 f m0 b (mx_w1 f m0 b n v0 cc) (k + 1) = mx_w2 f m0 b (mx_w1 f m0 b n v0 cc) k := by
        intro h
        conv => lhs; unfold mx_w2
        rw [if_neg h]
      refine mz_sn_ok hC tk_X2_fillView pk_RX2 4 [κ + 2] rfl (by (repeat' apply And.intro) <;> first | exact True.intro | assumption | (simp only [mz_cm1, mz_c0, mz_c1, mz_c2, mz_c3, mz_c4, mz_c5, mz_c6, mz_c7, mz_c8, mz_c10, mz_c17, mz_c20, mz_c28, mz_c58, mz_c63, mz_c98, mz_c294, mz_c526, mz_c532, mz_c540, mz_c999, mz_c1900, mz_c2403, mz_c29362, mz_c29363, mz_c29364, mz_c29390, mz_c29393, mz_c29394, mz_c29398, mz_c29399, mz_c29400, mz_c29401, nI_add, pk_mul, pk_m1, mz_pp, mz_pq, sd1]; done) | omega | (simp only [mz_cm1, mz_c0, mz_c1, mz_c2, mz_c3, mz_c4, mz_c5, mz_c6, mz_c7, mz_c8, mz_c10, mz_c17, mz_c20, mz_c28, mz_c58, mz_c63, mz_c98, mz_c294, mz_c526, mz_c532, mz_c540, mz_c999, mz_c1900, mz_c2403, mz_c29362, mz_c29363, mz_c29364, mz_c29390, mz_c29393, mz_c29394, mz_c29398, mz_c29399, mz_c29400, mz_c29401, nI_add, pk_mul, pk_m1, mz_pp, mz_pq, sd1]; congr 1; omega)) ?_
      try simp only [mz_c0, mz_cm1, sd1]
      refine mz_br_f hC tk_X2_fillView rfl ((by show ¬ nI n ≤ nI k; exact nI_ge (by omega) (by omega))) ?_
      refine mz_sn_ok hC tk_X2_fillView pk_RX2 4 [κ + 2] rfl (by (repeat' apply And.intro) <;> first | exact True.intro | assumption | (simp only [mz_cm1, mz_c0, mz_c1, mz_c2, mz_c3, mz_c4, mz_c5, mz_c6, mz_c7, mz_c8, mz_c10, mz_c17, mz_c20, mz_c28, mz_c58, mz_c63, mz_c98, mz_c294, mz_c526, mz_c532, mz_c540, mz_c999, mz_c1900, mz_c2403, mz_c29362, mz_c29363, mz_c29364, mz_c29390, mz_c29393, mz_c29394, mz_c29398, mz_c29399, mz_c29400, mz_c29401, nI_add, pk_mul, pk_m1, mz_pp, mz_pq]; done) | omega | (simp only [mz_cm1, mz_c0, mz_c1, mz_c2, mz_c3, mz_c4, mz_c5, mz_c6, mz_c7, mz_c8, mz_c10, mz_c17, mz_c20, mz_c28, mz_c58, mz_c63, mz_c98, mz_c294, mz_c526, mz_c532, mz_c540, mz_c999, mz_c1900, mz_c2403, mz_c29362, mz_c29363, mz_c29364, mz_c29390, mz_c29393, mz_c29394, mz_c29398, mz_c29399, mz_c29400, mz_c29401, nI_add, pk_mul, pk_m1, mz_pp, mz_pq]; congr 1; omega)) ?_
      try simp only [mz_c0, mz_cm1]
      refine mz_Vcv hC tk_X2_fillView rfl md_X4_cell lk_RX2_34 rfl (ct_cell l E td1 (nI k) (nI 2)) (by show (vwCl[mz_K _ _]?).map _ = _; rw [kd1]; rfl) ⟨Nat.le_of_ble_eq_true rfl, Nat.le_of_ble_eq_true rfl⟩ ⟨by simp only [mz_rm]; omega, by simp only [mz_rm]; omega⟩ (Nat.le_of_ble_eq_true rfl) (fun v9 G9 sz9 hp9 => ?_)
      obtain ⟨rfl, hG9, hs9⟩ := hp9
      rw [hG9, ← hs9, mt_c_in (show k < n by omega) (by omega) (by omega) (by omega), mr_DA]
      refine mz_sn_ok hC tk_X2_fillView pk_RX2 1 [] rfl (by (repeat' apply And.intro) <;> first | exact True.intro | assumption | (simp only [mz_cm1, mz_c0, mz_c1, mz_c2, mz_c3, mz_c4, mz_c5, mz_c6, mz_c7, mz_c8, mz_c10, mz_c17, mz_c20, mz_c28, mz_c58, mz_c63, mz_c98, mz_c294, mz_c526, mz_c532, mz_c540, mz_c999, mz_c1900, mz_c2403, mz_c29362, mz_c29363, mz_c29364, mz_c29390, mz_c29393, mz_c29394, mz_c29398, mz_c29399, mz_c29400, mz_c29401, nI_add, pk_mul, pk_m1, mz_pp, mz_pq]; done) | omega | (simp only [mz_cm1, mz_c0, mz_c1, mz_c2, mz_c3, mz_c4, mz_c5, mz_c6, mz_c7, mz_c8, mz_c10, mz_c17, mz_c20, mz_c28, mz_c58, mz_c63, mz_c98, mz_c294, mz_c526, mz_c532, mz_c540, mz_c999, mz_c1900, mz_c2403, mz_c29362, mz_c29363, mz_c29364, mz_c29390, mz_c29393, mz_c29394, mz_c29398, mz_c29399, mz_c29400, mz_c29401, nI_add, pk_mul, pk_m1, mz_pp, mz_pq]; congr 1; omega)) ?_
      try simp only [mz_c0, mz_cm1]
      by_cases h2 : f (mx_DA m0 k + 2) = nI b
      · refine mz_br_f hC tk_X2_fillView rfl ((by show ¬ ¬ f (mx_DA m0 k + 2) = nI b; exact fun z => z h2)) ?_
        refine mz_sn_ok hC tk_X2_fillView pk_RX2 4 [κ + 2] rfl (by (repeat' apply And.intro) <;> first | exact True.intro | assumption | (simp only [mz_cm1, mz_c0, mz_c1, mz_c2, mz_c3, mz_c4, mz_c5, mz_c6, mz_c7, mz_c8, mz_c10, mz_c17, mz_c20, mz_c28, mz_c58, mz_c63, mz_c98, mz_c294, mz_c526, mz_c532, mz_c540, mz_c999, mz_c1900, mz_c2403, mz_c29362, mz_c29363, mz_c29364, mz_c29390, mz_c29393, mz_c29394, mz_c29398, mz_c29399, mz_c29400, mz_c29401, nI_add, pk_mul, pk_m1, mz_pp, mz_pq]; done) | omega | (simp only [mz_cm1, mz_c0, mz_c1, mz_c2, mz_c3, mz_c4, mz_c5, mz_c6, mz_c7, mz_c8, mz_c10, mz_c17, mz_c20, mz_c28, mz_c58, mz_c63, mz_c98, mz_c294, mz_c526, mz_c532, mz_c540, mz_c999, mz_c1900, mz_c2403, mz_c29362, mz_c29363, mz_c29364, mz_c29390, mz_c29393, mz_c29394, mz_c29398, mz_c29399, mz_c29400, mz_c29401, nI_add, pk_mul, pk_m1, mz_pp, mz_pq]; congr 1; omega)) ?_
        try simp only [mz_c0, mz_cm1]
        refine mz_Vcv hC tk_X2_fillView rfl md_X4_cell lk_RX2_34 rfl (ct_cell l E td1 (nI k) (nI 1)) (by show (vwCl[mz_K _ _]?).map _ = _; rw [kd1]; rfl) ⟨Nat.le_of_ble_eq_true rfl, Nat.le_of_ble_eq_true rfl⟩ ⟨by simp only [mz_rm]; omega, by simp only [mz_rm]; omega⟩ (Nat.le_of_ble_eq_true rfl) (fun v9 G9 sz9 hp9 => ?_)
        obtain ⟨rfl, hG10, hs10⟩ := hp9
        rw [hG10, ← hs10, mt_c_in (show k < n by omega) (by omega) (by omega) (by omega), mr_DA]
        refine mz_sn_ok hC tk_X2_fillView pk_RX2 1 [] rfl (by (repeat' apply And.intro) <;> first | exact True.intro | assumption | (simp only [mz_cm1, mz_c0, mz_c1, mz_c2, mz_c3, mz_c4, mz_c5, mz_c6, mz_c7, mz_c8, mz_c10, mz_c17, mz_c20, mz_c28, mz_c58, mz_c63, mz_c98, mz_c294, mz_c526, mz_c532, mz_c540, mz_c999, mz_c1900, mz_c2403, mz_c29362, mz_c29363, mz_c29364, mz_c29390, mz_c29393, mz_c29394, mz_c29398, mz_c29399, mz_c29400, mz_c29401, nI_add, pk_mul, pk_m1, mz_pp, mz_pq]; done) | omega | (simp only [mz_cm1, mz_c0, mz_c1, mz_c2, mz_c3, mz_c4, mz_c5, mz_c6, mz_c7, mz_c8, mz_c10, mz_c17, mz_c20, mz_c28, mz_c58, mz_c63, mz_c98, mz_c294, mz_c526, mz_c532, mz_c540, mz_c999, mz_c1900, mz_c2403, mz_c29362, mz_c29363, mz_c29364, mz_c29390, mz_c29393, mz_c29394, mz_c29398, mz_c29399, mz_c29400, mz_c29401, nI_add, pk_mul, pk_m1, mz_pp, mz_pq]; congr 1; omega)) ?_
        try simp only [mz_c0, mz_cm1]
        by_cases h1 : f (mx_DA m0 k + 1) = nI 1
        · refine mz_br_f hC tk_X2_fillView rfl ((by show ¬ ¬ f (mx_DA m0 k + 1) = mz_c 1; exact fun z => z h1)) ?_
          have e2 : mx_w2 f m0 b (mx_w1 f m0 b n v0 cc) (k + 1) = mx_vp (mx_w2 f m0 b (mx_w1 f m0 b n v0 cc) k) (-f (mx_DA m0 k)) (f (mx_DA m0 k + 6)) (f (mx_DA m0 k + 4)) := by
            conv => lhs; unfold mx_w2
            rw [if_pos ⟨h1, h2⟩]
          have e3 : (mx_w2 f m0 b (mx_w1 f m0 b n v0 cc) (k + 1)).2 = (mx_w2 f m0 b (mx_w1 f m0 b n v0 cc) k).2 + 1 := by rw [e2]; rfl
          refine mz_sn_ok hC tk_X2_fillView pk_RX2 5 [κ + 2] rfl (by (repeat' apply And.intro) <;> first | exact True.intro | assumption | (simp only [mz_cm1, mz_c0, mz_c1, mz_c2, mz_c3, mz_c4, mz_c5, mz_c6, mz_c7, mz_c8, mz_c10, mz_c17, mz_c20, mz_c28, mz_c58, mz_c63, mz_c98, mz_c294, mz_c526, mz_c532, mz_c540, mz_c999, mz_c1900, mz_c2403, mz_c29362, mz_c29363, mz_c29364, mz_c29390, mz_c29393, mz_c29394, mz_c29398, mz_c29399, mz_c29400, mz_c29401, nI_add, pk_mul, pk_m1, mz_pp, mz_pq]; done) | omega | (simp only [mz_cm1, mz_c0, mz_c1, mz_c2, mz_c3, mz_c4, mz_c5, mz_c6, mz_c7, mz_c8, mz_c10, mz_c17, mz_c20, mz_c28, mz_c58, mz_c63, mz_c98, mz_c294, mz_c526, mz_c532, mz_c540, mz_c999, mz_c1900, mz_c2403, mz_c29362, mz_c29363, mz_c29364, mz_c29390, mz_c29393, mz_c29394, mz_c29398, mz_c29399, mz_c29400, mz_c29401, nI_add, pk_mul, pk_m1, mz_pp, mz_pq]; congr 1; omega)) ?_
          try simp only [mz_c0, mz_cm1]
          refine mz_Vcv hC tk_X2_fillView rfl md_X4_cell lk_RX2_34 rfl (ct_cell l E td1 (nI k) (nI 0)) (by show (vwCl[mz_K _ _]?).map _ = _; rw [kd1]; rfl) ⟨Nat.le_of_ble_eq_true rfl, Nat.le_of_ble_eq_true rfl⟩ ⟨by simp only [mz_rm]; omega, by simp only [mz_rm]; omega⟩ (Nat.le_of_ble_eq_true rfl) (fun v9 G9 sz9 hp9 => ?_)
          obtain ⟨rfl, hG11, hs11⟩ := hp9
          rw [hG11, ← hs11, mt_c_in (show k < n by omega) (by omega) (by omega) (by omega), mr_DA]
          refine mz_sn_ok hC tk_X2_fillView pk_RX2 5 [κ + 2] rfl (by (repeat' apply And.intro) <;> first | exact True.intro | assumption | (simp only [mz_cm1, mz_c0, mz_c1, mz_c2, mz_c3, mz_c4, mz_c5, mz_c6, mz_c7, mz_c8, mz_c10, mz_c17, mz_c20, mz_c28, mz_c58, mz_c63, mz_c98, mz_c294, mz_c526, mz_c532, mz_c540, mz_c999, mz_c1900, mz_c2403, mz_c29362, mz_c29363, mz_c29364, mz_c29390, mz_c29393, mz_c29394, mz_c29398, mz_c29399, mz_c29400, mz_c29401, nI_add, pk_mul, pk_m1, mz_pp, mz_pq]; done) | omega | (simp only [mz_cm1, mz_c0, mz_c1, mz_c2, mz_c3, mz_c4, mz_c5, mz_c6, mz_c7, mz_c8, mz_c10, mz_c17, mz_c20, mz_c28, mz_c58, mz_c63, mz_c98, mz_c294, mz_c526, mz_c532, mz_c540, mz_c999, mz_c1900, mz_c2403, mz_c29362, mz_c29363, mz_c29364, mz_c29390, mz_c29393, mz_c29394, mz_c29398, mz_c29399, mz_c29400, mz_c29401, nI_add, pk_mul, pk_m1, mz_pp, mz_pq]; congr 1; omega)) ?_
          try simp only [mz_c0, mz_cm1]
          refine mz_Vcv hC tk_X2_fillView rfl md_X4_cell lk_RX2_34 rfl (ct_cell l E td1 (nI k) (nI 6)) (by show (vwCl[mz_K _ _]?).map _ = _; rw [kd1]; rfl) ⟨Nat.le_of_ble_eq_true rfl, Nat.le_of_ble_eq_true rfl⟩ ⟨by simp only [mz_rm]; omega, by simp only [mz_rm]; omega⟩ (Nat.le_of_ble_eq_true rfl) (fun v9 G9 sz9 hp9 => ?_)
          obtain ⟨rfl, hG12, hs12⟩ := hp9
          rw [hG12, ← hs12, mt_c_in (show k < n by omega) (by omega) (by omega) (by omega), mr_DA]
          refine mz_sn_ok hC tk_X2_fillView pk_RX2 4 [κ + 2] rfl (by (repeat' apply And.intro) <;> first | exact True.intro | assumption | (simp only [mz_cm1, mz_c0, mz_c1, mz_c2, mz_c3, mz_c4, mz_c5, mz_c6, mz_c7, mz_c8, mz_c10, mz_c17, mz_c20, mz_c28, mz_c58, mz_c63, mz_c98, mz_c294, mz_c526, mz_c532, mz_c540, mz_c999, mz_c1900, mz_c2403, mz_c29362, mz_c29363, mz_c29364, mz_c29390, mz_c29393, mz_c29394, mz_c29398, mz_c29399, mz_c29400, mz_c29401, nI_add, pk_mul, pk_m1, mz_pp, mz_pq]; done) | omega | (simp only [mz_cm1, mz_c0, mz_c1, mz_c2, mz_c3, mz_c4, mz_c5, mz_c6, mz_c7, mz_c8, mz_c10, mz_c17, mz_c20, mz_c28, mz_c58, mz_c63, mz_c98, mz_c294, mz_c526, mz_c532, mz_c540, mz_c999, mz_c1900, mz_c2403, mz_c29362, mz_c29363, mz_c29364, mz_c29390, mz_c29393, mz_c29394, mz_c29398, mz_c29399, mz_c29400, mz_c29401, nI_add, pk_mul, pk_m1, mz_pp, mz_pq]; congr 1; omega)) ?_
          try simp only [mz_c0, mz_cm1]
          refine mz_Vcv hC tk_X2_fillView rfl md_X4_cell lk_RX2_34 rfl (ct_cell l E td1 (nI k) (nI 4)) (by show (vwCl[mz_K _ _]?).map _ = _; rw [kd1]; rfl) ⟨Nat.le_of_ble_eq_true rfl, Nat.le_of_ble_eq_true rfl⟩ ⟨by simp only [mz_rm]; omega, by simp only [mz_rm]; omega⟩ (Nat.le_of_ble_eq_true rfl) (fun v9 G9 sz9 hp9 => ?_)
          obtain ⟨rfl, hG13, hs13⟩ := hp9
          rw [hG13, ← hs13, mt_c_in (show k < n by omega) (by omega) (by omega) (by omega), mr_DA]
          rw [e3] at u2 m2 next
          have m4 := mt_gr_mv hv (Nat.le_succ (mx_w2 f m0 b (mx_w1 f m0 b n v0 cc) k).2) (by omega)
          simp only [Nat.succ_eq_add_one] at m4
          refine mz_Vcs hC tk_X2_fillView rfl md_X2_appendToView lk_RX2_60 rfl (cd_append l E hv hV1 (by omega) (-f (mx_DA m0 k)) (f (mx_DA m0 k + 6)) (f (mx_DA m0 k + 4))) ⟨Nat.le_of_ble_eq_true rfl, Nat.le_of_ble_eq_true rfl⟩ ⟨by simp only [mz_rm]; omega, by simp only [mz_rm]; omega⟩ (Nat.le_of_ble_eq_true rfl) (fun v9 G9 sz9 hp9 => ?_)
          obtain ⟨rfl, O2, hV2, hF2⟩ := hp9
          rw [← e2] at hV2
          exact next _ O2 _ _ hV2 (hF1.tr hF2) (by omega)
        · refine mz_br_t hC tk_X2_fillView rfl ((by show ¬ f (mx_DA m0 k + 1) = mz_c 1; exact h1)) ?_
          have e2 := same (fun z => h1 z.1)
          rw [e2] at next
          exact next G1 O1 sz1 _ hV1 hF1 hkn
      · refine mz_br_t hC tk_X2_fillView rfl ((by show ¬ f (mx_DA m0 k + 2) = nI b; exact h2)) ?_
        have e2 := same (fun z => h2 z.2)
        rw [e2] at next
        exact next G1 O1 sz1 _ hV1 hF1 hkn
  obtain ⟨τ, hτ⟩ : ∃ τ, τ = κ + 4 + 3 * b + 1 := ⟨_, rfl⟩
  obtain ⟨⟨⟨⟨⟨hKc, hOc, hsc⟩, j0, j1⟩, q2⟩, tc⟩, hccn⟩ := (hcp b hb).1
  rw [← hτ] at tc q2
  rw [← hcce] at tc
  have one : ∀ (d k : Nat) (G1 : mz_G) (O1 : Nat → Nat) (sz1 kn : Nat) (l5 l6 : Option Value), k + d = cc → mr_V G1 O1 sz1 υ (mx_w1 f m0 b n v0 k) (mt_gr 3 540 len0 (mx_w1 f m0 b n v0 k).2) → mt_F (fun q => q = υ) G G1 O O1 sz sz1 → kn ≤ mr_pv len0 - mr_pv (mt_gr 3 540 len0 (mx_w1 f m0 b n v0 k).2) → mz_V E p l e (mz_rm 6 (mr_pv len0 - mr_pv (mt_gr 3 540 len0 S.2)) (mr_pv len0 - mr_pv (mt_gr 3 540 len0 S.2))) s m args below meth c 7 (kn) (kn) (mz_Z E below args s (mr_pv len0 - mr_pv (mt_gr 3 540 len0 S.2)) (mr_pv len0 - mr_pv (mt_gr 3 540 len0 S.2)) (fun v' G' sz' => v' = none ∧ ∃ O', mr_V G' O' sz' υ S (mt_gr 3 540 len0 S.2) ∧ mt_F (fun q => q = υ) G G' O O' sz sz')) (G1) (sz1) (17) [some (.ref κ), some (.int (nI b)), some (.ref υ), some (.ref τ), some (.int (nI k)), l5, l6] [] := by
    intro d
    induction d with
    | zero =>
      intro k G1 O1 sz1 kn l5 l6 hk hV1 hF1 hkn
      rw [show k = cc by omega] at hV1 hkn
      rw [show k = cc by omega]
      have tc1 := tc.fr hF1 (fun z => by omega)
      have kc1 := tc1.K
      have sc1 := tc1.s
      refine mz_sn_ok hC tk_X2_fillView pk_RX2 3 [] rfl (by (repeat' apply And.intro) <;> first | exact True.intro | assumption | (simp only [mz_cm1, mz_c0, mz_c1, mz_c2, mz_c3, mz_c4, mz_c5, mz_c6, mz_c7, mz_c8, mz_c10, mz_c17, mz_c20, mz_c28, mz_c58, mz_c63, mz_c98, mz_c294, mz_c526, mz_c532, mz_c540, mz_c999, mz_c1900, mz_c2403, mz_c29362, mz_c29363, mz_c29364, mz_c29390, mz_c29393, mz_c29394, mz_c29398, mz_c29399, mz_c29400, mz_c29401, nI_add, pk_mul, pk_m1, mz_pp, mz_pq, sc1]; done) | omega | (simp only [mz_cm1, mz_c0, mz_c1, mz_c2, mz_c3, mz_c4, mz_c5, mz_c6, mz_c7, mz_c8, mz_c10, mz_c17, mz_c20, mz_c28, mz_c58, mz_c63, mz_c98, mz_c294, mz_c526, mz_c532, mz_c540, mz_c999, mz_c1900, mz_c2403, mz_c29362, mz_c29363, mz_c29364, mz_c29390, mz_c29393, mz_c29394, mz_c29398, mz_c29399, mz_c29400, mz_c29401, nI_add, pk_mul, pk_m1, mz_pp, mz_pq, sc1]; congr 1; omega)) ?_
      try simp only [mz_c0, mz_cm1, sc1]
      refine mz_br_t hC tk_X2_fillView rfl ((by show nI cc ≤ nI cc; exact nI_le (by omega) (by omega))) ?_
      refine mz_sn_ok hC tk_X2_fillView pk_RX2 2 [] rfl (by (repeat' apply And.intro) <;> first | exact True.intro | assumption | (simp only [mz_cm1, mz_c0, mz_c1, mz_c2, mz_c3, mz_c4, mz_c5, mz_c6, mz_c7, mz_c8, mz_c10, mz_c17, mz_c20, mz_c28, mz_c58, mz_c63, mz_c98, mz_c294, mz_c526, mz_c532, mz_c540, mz_c999, mz_c1900, mz_c2403, mz_c29362, mz_c29363, mz_c29364, mz_c29390, mz_c29393, mz_c29394, mz_c29398, mz_c29399, mz_c29400, mz_c29401, nI_add, pk_mul, pk_m1, mz_pp, mz_pq]; done) | omega | (simp only [mz_cm1, mz_c0, mz_c1, mz_c2, mz_c3, mz_c4, mz_c5, mz_c6, mz_c7, mz_c8, mz_c10, mz_c17, mz_c20, mz_c28, mz_c58, mz_c63, mz_c98, mz_c294, mz_c526, mz_c532, mz_c540, mz_c999, mz_c1900, mz_c2403, mz_c29362, mz_c29363, mz_c29364, mz_c29390, mz_c29393, mz_c29394, mz_c29398, mz_c29399, mz_c29400, mz_c29401, nI_add, pk_mul, pk_m1, mz_pp, mz_pq]; congr 1; omega)) ?_
      try simp only [mz_c0, mz_cm1]
      refine mz_V.sub (lv' := [some (.ref κ), some (.int (nI b)), some (.ref υ), none, some (.int (nI 0)), none, none]) (by (repeat' apply And.intro) <;> first | with_reducible rfl | exact True.intro | (simp only [mz_cm1, mz_c0, mz_c1, mz_c2, mz_c3, mz_c4, mz_c5, mz_c6, mz_c7, mz_c8, mz_c10, mz_c17, mz_c20, mz_c28, mz_c58, mz_c63, mz_c98, mz_c294, mz_c526, mz_c532, mz_c540, mz_c999, mz_c1900, mz_c2403, mz_c29362, mz_c29363, mz_c29364, mz_c29390, mz_c29393, mz_c29394, mz_c29398, mz_c29399, mz_c29400, mz_c29401, nI_add, pk_mul, pk_m1, mz_pp, mz_pq]; done) | rfl) ?_
      exact two n 0 G1 O1 sz1 kn none none none (by omega) hV1 hF1 hkn
    | succ d ih =>
      intro k G1 O1 sz1 kn l5 l6 hk hV1 hF1 hkn
      have hM1 := hM0.fr hF1 (fun q h1 h2 z => by omega)
      have hD1 := hM1.d
      rw [← hne] at hD1
      have hK1' := hD1.1.1
      have tc1 := tc.fr hF1 (fun z => by omega)
      have kc1 := tc1.K
      have sc1 := tc1.s
      have u1 := Nat.le_trans (up1 (d + 1) k hk) hS1
      have u2 := Nat.le_trans (up1 d (k + 1) (by omega)) hS1
      have m1 := mt_gr_mv hv u1 (by omega)
      have m2 := mt_gr_mv hv u2 (by omega)
      have m3 := (mt_gr_cv hv (n := (mx_w1 f m0 b n v0 k).2) (by omega)).2
      have wk := mx_w1_le f m0 b n v0 k
      have next : ∀ (G2 : mz_G) (O2 : Nat → Nat) (sz2 kn2 : Nat) (l5 l6 : Option Value), mr_V G2 O2 sz2 υ (mx_w1 f m0 b n v0 (k + 1)) (mt_gr 3 540 len0 (mx_w1 f m0 b n v0 (k + 1)).2) → mt_F (fun q => q = υ) G G2 O O2 sz sz2 → kn2 ≤ mr_pv len0 - mr_pv (mt_gr 3 540 len0 (mx_w1 f m0 b n v0 (k + 1)).2) → mz_V E p l e (mz_rm 6 (mr_pv len0 - mr_pv (mt_gr 3 540 len0 S.2)) (mr_pv len0 - mr_pv (mt_gr 3 540 len0 S.2))) s m args below meth c 7 (kn2) (kn2) (mz_Z E below args s (mr_pv len0 - mr_pv (mt_gr 3 540 len0 S.2)) (mr_pv len0 - mr_pv (mt_gr 3 540 len0 S.2)) (fun v' G' sz' => v' = none ∧ ∃ O', mr_V G' O' sz' υ S (mt_gr 3 540 len0 S.2) ∧ mt_F (fun q => q = υ) G G' O O' sz sz')) (G2) (sz2) (78) [some (.ref κ), some (.int (nI b)), some (.ref υ), some (.ref τ), some (.int (nI k)), l5, l6] [] := by
        intro G2 O2 sz2 kn2 l5 l6 hV2 hF2 hkn2
        refine mz_sn_ok hC tk_X2_fillView pk_RX2 2 [] rfl (by (repeat' apply And.intro) <;> first | exact True.intro | assumption | (simp only [mz_cm1, mz_c0, mz_c1, mz_c2, mz_c3, mz_c4, mz_c5, mz_c6, mz_c7, mz_c8, mz_c10, mz_c17, mz_c20, mz_c28, mz_c58, mz_c63, mz_c98, mz_c294, mz_c526, mz_c532, mz_c540, mz_c999, mz_c1900, mz_c2403, mz_c29362, mz_c29363, mz_c29364, mz_c29390, mz_c29393, mz_c29394, mz_c29398, mz_c29399, mz_c29400, mz_c29401, nI_add, pk_mul, pk_m1, mz_pp, mz_pq]; done) | omega | (simp only [mz_cm1, mz_c0, mz_c1, mz_c2, mz_c3, mz_c4, mz_c5, mz_c6, mz_c7, mz_c8, mz_c10, mz_c17, mz_c20, mz_c28, mz_c58, mz_c63, mz_c98, mz_c294, mz_c526, mz_c532, mz_c540, mz_c999, mz_c1900, mz_c2403, mz_c29362, mz_c29363, mz_c29364, mz_c29390, mz_c29393, mz_c29394, mz_c29398, mz_c29399, mz_c29400, mz_c29401, nI_add, pk_mul, pk_m1, mz_pp, mz_pq]; congr 1; omega)) ?_
        try simp only [mz_c0, mz_cm1]
        refine mz_V.sub (lv' := [some (.ref κ), some (.int (nI b)), some (.ref υ), some (.ref τ), some (.int (nI (k + 1))), none, none]) (by (repeat' apply And.intro) <;> first | with_reducible rfl | exact True.intro | (simp only [mz_cm1, mz_c0, mz_c1, mz_c2, mz_c3, mz_c4, mz_c5, mz_c6, mz_c7, mz_c8, mz_c10, mz_c17, mz_c20, mz_c28, mz_c58, mz_c63, mz_c98, mz_c294, mz_c526, mz_c532, mz_c540, mz_c999, mz_c1900, mz_c2403, mz_c29362, mz_c29363, mz_c29364, mz_c29390, mz_c29393, mz_c29394, mz_c29398, mz_c29399, mz_c29400, mz_c29401, nI_add, pk_mul, pk_m1, mz_pp, mz_pq]; done) | rfl) ?_
        exact ih (k + 1) G2 O2 sz2 kn2 none none (by omega) hV2 hF2 hkn2
      refine mz_sn_ok hC tk_X2_fillView pk_RX2 3 [] rfl (by (repeat' apply And.intro) <;> first | exact True.intro | assumption | (simp only [mz_cm1, mz_c0, mz_c1, mz_c2, mz_c3, mz_c4, mz_c5, mz_c6, mz_c7, mz_c8, mz_c10, mz_c17, mz_c20, mz_c28, mz_c58, mz_c63, mz_c98, mz_c294, mz_c526, mz_c532, mz_c540, mz_c999, mz_c1900, mz_c2403, mz_c29362, mz_c29363, mz_c29364, mz_c29390, mz_c29393, mz_c29394, mz_c29398, mz_c29399, mz_c29400, mz_c29401, nI_add, pk_mul, pk_m1, mz_pp, mz_pq, sc1]; done) | omega | (simp only [mz_cm1, mz_c0, mz_c1, mz_c2, mz_c3, mz_c4, mz_c5, mz_c6, mz_c7, mz_c8, mz_c10, mz_c17, mz_c20, mz_c28, mz_c58, mz_c63, mz_c98, mz_c294, mz_c526, mz_c532, mz_c540, mz_c999, mz_c1900, mz_c2403, mz_c29362, mz_c29363, mz_c29364, mz_c29390, mz_c29393, mz_c29394, mz_c29398, mz_c29399, mz_c29400, mz_c29401, nI_add, pk_mul, pk_m1, mz_pp, mz_pq, sc1]; congr 1; omega)) ?_
      try simp only [mz_c0, mz_cm1, sc1]
      refine mz_br_f hC tk_X2_fillView rfl ((by show ¬ nI cc ≤ nI k; exact nI_ge (by omega) (by omega))) ?_
      refine mz_sn_ok hC tk_X2_fillView pk_RX2 3 [] rfl (by (repeat' apply And.intro) <;> first | exact True.intro | assumption | (simp only [mz_cm1, mz_c0, mz_c1, mz_c2, mz_c3, mz_c4, mz_c5, mz_c6, mz_c7, mz_c8, mz_c10, mz_c17, mz_c20, mz_c28, mz_c58, mz_c63, mz_c98, mz_c294, mz_c526, mz_c532, mz_c540, mz_c999, mz_c1900, mz_c2403, mz_c29362, mz_c29363, mz_c29364, mz_c29390, mz_c29393, mz_c29394, mz_c29398, mz_c29399, mz_c29400, mz_c29401, nI_add, pk_mul, pk_m1, mz_pp, mz_pq]; done) | omega | (simp only [mz_cm1, mz_c0, mz_c1, mz_c2, mz_c3, mz_c4, mz_c5, mz_c6, mz_c7, mz_c8, mz_c10, mz_c17, mz_c20, mz_c28, mz_c58, mz_c63, mz_c98, mz_c294, mz_c526, mz_c532, mz_c540, mz_c999, mz_c1900, mz_c2403, mz_c29362, mz_c29363, mz_c29364, mz_c29390, mz_c29393, mz_c29394, mz_c29398, mz_c29399, mz_c29400, mz_c29401, nI_add, pk_mul, pk_m1, mz_pp, mz_pq]; congr 1; omega)) ?_
      try simp only [mz_c0, mz_cm1]
      refine mz_Vcv hC tk_X2_fillView rfl md_X4_cell lk_RX2_34 rfl (ct_cell l E tc1 (nI k) (nI 0)) (by show (vwCl[mz_K _ _]?).map _ = _; rw [kc1]; rfl) ⟨Nat.le_of_ble_eq_true rfl, Nat.le_of_ble_eq_true rfl⟩ ⟨by simp only [mz_rm]; omega, by simp only [mz_rm]; omega⟩ (Nat.le_of_ble_eq_true rfl) (fun v9 G9 sz9 hp9 => ?_)
      obtain ⟨rfl, hG9, hs9⟩ := hp9
      rw [hG9, ← hs9, mt_c_in (show k < cc by omega) (by omega) (by omega) (by omega)]
      refine mz_sn_ok hC tk_X2_fillView pk_RX2 5 [] rfl (by (repeat' apply And.intro) <;> first | exact True.intro | assumption | (simp only [mz_cm1, mz_c0, mz_c1, mz_c2, mz_c3, mz_c4, mz_c5, mz_c6, mz_c7, mz_c8, mz_c10, mz_c17, mz_c20, mz_c28, mz_c58, mz_c63, mz_c98, mz_c294, mz_c526, mz_c532, mz_c540, mz_c999, mz_c1900, mz_c2403, mz_c29362, mz_c29363, mz_c29364, mz_c29390, mz_c29393, mz_c29394, mz_c29398, mz_c29399, mz_c29400, mz_c29401, nI_add, pk_mul, pk_m1, mz_pp, mz_pq]; done) | omega | (simp only [mz_cm1, mz_c0, mz_c1, mz_c2, mz_c3, mz_c4, mz_c5, mz_c6, mz_c7, mz_c8, mz_c10, mz_c17, mz_c20, mz_c28, mz_c58, mz_c63, mz_c98, mz_c294, mz_c526, mz_c532, mz_c540, mz_c999, mz_c1900, mz_c2403, mz_c29362, mz_c29363, mz_c29364, mz_c29390, mz_c29393, mz_c29394, mz_c29398, mz_c29399, mz_c29400, mz_c29401, nI_add, pk_mul, pk_m1, mz_pp, mz_pq]; congr 1; omega)) ?_
      try simp only [mz_c0, mz_cm1]
      refine mz_Vcv hC tk_X2_fillView rfl md_X2_deedFor lk_RX2_54 rfl (cd_deedFor l E hD1 (nI 2) (nI b) (mx_nm f (mx_CA m0 b + 2) k)) (by show (vwCl[mz_K _ _]?).map _ = _; rw [hK1']; rfl) ⟨Nat.le_of_ble_eq_true rfl, Nat.le_of_ble_eq_true rfl⟩ ⟨by simp only [mz_rm]; omega, by simp only [mz_rm]; omega⟩ (Nat.le_of_ble_eq_true rfl) (fun v9 G9 sz9 hp9 => ?_)
      obtain ⟨rfl, hG10, hs10⟩ := hp9
      rw [hG10, ← hs10]
      refine mz_sn_ok hC tk_X2_fillView pk_RX2 1 [] rfl (by (repeat' apply And.intro) <;> first | exact True.intro | assumption | (simp only [mz_cm1, mz_c0, mz_c1, mz_c2, mz_c3, mz_c4, mz_c5, mz_c6, mz_c7, mz_c8, mz_c10, mz_c17, mz_c20, mz_c28, mz_c58, mz_c63, mz_c98, mz_c294, mz_c526, mz_c532, mz_c540, mz_c999, mz_c1900, mz_c2403, mz_c29362, mz_c29363, mz_c29364, mz_c29390, mz_c29393, mz_c29394, mz_c29398, mz_c29399, mz_c29400, mz_c29401, nI_add, pk_mul, pk_m1, mz_pp, mz_pq]; done) | omega | (simp only [mz_cm1, mz_c0, mz_c1, mz_c2, mz_c3, mz_c4, mz_c5, mz_c6, mz_c7, mz_c8, mz_c10, mz_c17, mz_c20, mz_c28, mz_c58, mz_c63, mz_c98, mz_c294, mz_c526, mz_c532, mz_c540, mz_c999, mz_c1900, mz_c2403, mz_c29362, mz_c29363, mz_c29364, mz_c29390, mz_c29393, mz_c29394, mz_c29398, mz_c29399, mz_c29400, mz_c29401, nI_add, pk_mul, pk_m1, mz_pp, mz_pq]; congr 1; omega)) ?_
      try simp only [mz_c0, mz_cm1]
      cases hz : mz_fp (mx_dp f m0 (nI 2) (nI b) (mx_nm f (mx_CA m0 b + 2) k)) n with
      | some q =>
        obtain ⟨hq, -⟩ := mz_fp_some hz
        refine mz_br_t hC tk_X2_fillView rfl ((by show ¬ nI q = mz_c (-1); rw [mz_cm1]; exact fun z => by have h0 := mz_nn q (by omega); rw [z] at h0; exact absurd h0 (by decide))) ?_
        have e2 : mx_w1 f m0 b n v0 (k + 1) = mx_w1 f m0 b n v0 k := by
          conv => lhs; unfold mx_w1
          rw [if_neg (by rw [hz]; simp)]
        rw [e2] at next
        refine mz_V.sub (lv' := [some (.ref κ), some (.int (nI b)), some (.ref υ), some (.ref τ), some (.int (nI k)), none, none]) (by (repeat' apply And.intro) <;> first | with_reducible rfl | exact True.intro | (simp only [mz_cm1, mz_c0, mz_c1, mz_c2, mz_c3, mz_c4, mz_c5, mz_c6, mz_c7, mz_c8, mz_c10, mz_c17, mz_c20, mz_c28, mz_c58, mz_c63, mz_c98, mz_c294, mz_c526, mz_c532, mz_c540, mz_c999, mz_c1900, mz_c2403, mz_c29362, mz_c29363, mz_c29364, mz_c29390, mz_c29393, mz_c29394, mz_c29398, mz_c29399, mz_c29400, mz_c29401, nI_add, pk_mul, pk_m1, mz_pp, mz_pq]; done) | rfl) ?_
        exact next G1 O1 sz1 _ none none hV1 hF1 hkn
      | none =>
        refine mz_br_f hC tk_X2_fillView rfl ((by show ¬ ¬ (-1 : Int32) = mz_c (-1); rw [mz_cm1]; exact fun z => z rfl)) ?_
        have e2 : mx_w1 f m0 b n v0 (k + 1) = mx_vp (mx_w1 f m0 b n v0 k) (mx_nm f (mx_CA m0 b + 2) k) (f (mx_CA m0 b + 2 + 1 + 4 * k + 1)) (mx_vf f m0 b n (mx_nm f (mx_CA m0 b + 2) k) (f (mx_CA m0 b + 2 + 1 + 4 * k + 2))) := by
          conv => lhs; unfold mx_w1
          rw [if_pos hz]
        have e3 : (mx_w1 f m0 b n v0 (k + 1)).2 = (mx_w1 f m0 b n v0 k).2 + 1 := by rw [e2]; rfl
        refine mz_V.sub (lv' := [some (.ref κ), some (.int (nI b)), some (.ref υ), some (.ref τ), some (.int (nI k)), some (.int (mx_nm f (mx_CA m0 b + 2) k)), none]) (by (repeat' apply And.intro) <;> first | with_reducible rfl | exact True.intro | (simp only [mz_cm1, mz_c0, mz_c1, mz_c2, mz_c3, mz_c4, mz_c5, mz_c6, mz_c7, mz_c8, mz_c10, mz_c17, mz_c20, mz_c28, mz_c58, mz_c63, mz_c98, mz_c294, mz_c526, mz_c532, mz_c540, mz_c999, mz_c1900, mz_c2403, mz_c29362, mz_c29363, mz_c29364, mz_c29390, mz_c29393, mz_c29394, mz_c29398, mz_c29399, mz_c29400, mz_c29401, nI_add, pk_mul, pk_m1, mz_pp, mz_pq]; done) | rfl) ?_
        refine mz_sn_ok hC tk_X2_fillView pk_RX2 6 [] rfl (by (repeat' apply And.intro) <;> first | exact True.intro | assumption | (simp only [mz_cm1, mz_c0, mz_c1, mz_c2, mz_c3, mz_c4, mz_c5, mz_c6, mz_c7, mz_c8, mz_c10, mz_c17, mz_c20, mz_c28, mz_c58, mz_c63, mz_c98, mz_c294, mz_c526, mz_c532, mz_c540, mz_c999, mz_c1900, mz_c2403, mz_c29362, mz_c29363, mz_c29364, mz_c29390, mz_c29393, mz_c29394, mz_c29398, mz_c29399, mz_c29400, mz_c29401, nI_add, pk_mul, pk_m1, mz_pp, mz_pq]; done) | omega | (simp only [mz_cm1, mz_c0, mz_c1, mz_c2, mz_c3, mz_c4, mz_c5, mz_c6, mz_c7, mz_c8, mz_c10, mz_c17, mz_c20, mz_c28, mz_c58, mz_c63, mz_c98, mz_c294, mz_c526, mz_c532, mz_c540, mz_c999, mz_c1900, mz_c2403, mz_c29362, mz_c29363, mz_c29364, mz_c29390, mz_c29393, mz_c29394, mz_c29398, mz_c29399, mz_c29400, mz_c29401, nI_add, pk_mul, pk_m1, mz_pp, mz_pq]; congr 1; omega)) ?_
        try simp only [mz_c0, mz_cm1]
        refine mz_Vcv hC tk_X2_fillView rfl md_X4_cell lk_RX2_34 rfl (ct_cell l E tc1 (nI k) (nI 2)) (by show (vwCl[mz_K _ _]?).map _ = _; rw [kc1]; rfl) ⟨Nat.le_of_ble_eq_true rfl, Nat.le_of_ble_eq_true rfl⟩ ⟨by simp only [mz_rm]; omega, by simp only [mz_rm]; omega⟩ (Nat.le_of_ble_eq_true rfl) (fun v9 G9 sz9 hp9 => ?_)
        obtain ⟨rfl, hG11, hs11⟩ := hp9
        rw [hG11, ← hs11, mt_c_in (show k < cc by omega) (by omega) (by omega) (by omega)]
        refine mz_Vcv hC tk_X2_fillView rfl md_X2_flagsInView lk_RX2_57 rfl (cd_flagsInView l E hD1 b (mx_nm f (mx_CA m0 b + 2) k) (f (mx_CA m0 b + 2 + 1 + 4 * k + 2))) (by show (vwCl[mz_K _ _]?).map _ = _; rw [hK1']; rfl) ⟨Nat.le_of_ble_eq_true rfl, Nat.le_of_ble_eq_true rfl⟩ ⟨by simp only [mz_rm]; omega, by simp only [mz_rm]; omega⟩ (Nat.le_of_ble_eq_true rfl) (fun v9 G9 sz9 hp9 => ?_)
        obtain ⟨rfl, hG12, hs12⟩ := hp9
        rw [hG12, ← hs12]
        refine mz_sn_ok hC tk_X2_fillView pk_RX2 6 [] rfl (by (repeat' apply And.intro) <;> first | exact True.intro | assumption | (simp only [mz_cm1, mz_c0, mz_c1, mz_c2, mz_c3, mz_c4, mz_c5, mz_c6, mz_c7, mz_c8, mz_c10, mz_c17, mz_c20, mz_c28, mz_c58, mz_c63, mz_c98, mz_c294, mz_c526, mz_c532, mz_c540, mz_c999, mz_c1900, mz_c2403, mz_c29362, mz_c29363, mz_c29364, mz_c29390, mz_c29393, mz_c29394, mz_c29398, mz_c29399, mz_c29400, mz_c29401, nI_add, pk_mul, pk_m1, mz_pp, mz_pq]; done) | omega | (simp only [mz_cm1, mz_c0, mz_c1, mz_c2, mz_c3, mz_c4, mz_c5, mz_c6, mz_c7, mz_c8, mz_c10, mz_c17, mz_c20, mz_c28, mz_c58, mz_c63, mz_c98, mz_c294, mz_c526, mz_c532, mz_c540, mz_c999, mz_c1900, mz_c2403, mz_c29362, mz_c29363, mz_c29364, mz_c29390, mz_c29393, mz_c29394, mz_c29398, mz_c29399, mz_c29400, mz_c29401, nI_add, pk_mul, pk_m1, mz_pp, mz_pq]; congr 1; omega)) ?_
        try simp only [mz_c0, mz_cm1]
        refine mz_Vcv hC tk_X2_fillView rfl md_X4_cell lk_RX2_34 rfl (ct_cell l E tc1 (nI k) (nI 1)) (by show (vwCl[mz_K _ _]?).map _ = _; rw [kc1]; rfl) ⟨Nat.le_of_ble_eq_true rfl, Nat.le_of_ble_eq_true rfl⟩ ⟨by simp only [mz_rm]; omega, by simp only [mz_rm]; omega⟩ (Nat.le_of_ble_eq_true rfl) (fun v9 G9 sz9 hp9 => ?_)
        obtain ⟨rfl, hG13, hs13⟩ := hp9
        rw [hG13, ← hs13, mt_c_in (show k < cc by omega) (by omega) (by omega) (by omega)]
        refine mz_sn_ok hC tk_X2_fillView pk_RX2 1 [] rfl (by (repeat' apply And.intro) <;> first | exact True.intro | assumption | (simp only [mz_cm1, mz_c0, mz_c1, mz_c2, mz_c3, mz_c4, mz_c5, mz_c6, mz_c7, mz_c8, mz_c10, mz_c17, mz_c20, mz_c28, mz_c58, mz_c63, mz_c98, mz_c294, mz_c526, mz_c532, mz_c540, mz_c999, mz_c1900, mz_c2403, mz_c29362, mz_c29363, mz_c29364, mz_c29390, mz_c29393, mz_c29394, mz_c29398, mz_c29399, mz_c29400, mz_c29401, nI_add, pk_mul, pk_m1, mz_pp, mz_pq]; done) | omega | (simp only [mz_cm1, mz_c0, mz_c1, mz_c2, mz_c3, mz_c4, mz_c5, mz_c6, mz_c7, mz_c8, mz_c10, mz_c17, mz_c20, mz_c28, mz_c58, mz_c63, mz_c98, mz_c294, mz_c526, mz_c532, mz_c540, mz_c999, mz_c1900, mz_c2403, mz_c29362, mz_c29363, mz_c29364, mz_c29390, mz_c29393, mz_c29394, mz_c29398, mz_c29399, mz_c29400, mz_c29401, nI_add, pk_mul, pk_m1, mz_pp, mz_pq]; congr 1; omega)) ?_
        try simp only [mz_c0, mz_cm1]
        rw [e3] at u2 m2 next
        have m4 := mt_gr_mv hv (Nat.le_succ (mx_w1 f m0 b n v0 k).2) (by omega)
        simp only [Nat.succ_eq_add_one] at m4
        refine mz_Vcs hC tk_X2_fillView rfl md_X2_appendToView lk_RX2_60 rfl (cd_append l E hv hV1 (by omega) (mx_nm f (mx_CA m0 b + 2) k) (f (mx_CA m0 b + 2 + 1 + 4 * k + 1)) (mx_vf f m0 b n (mx_nm f (mx_CA m0 b + 2) k) (f (mx_CA m0 b + 2 + 1 + 4 * k + 2)))) ⟨Nat.le_of_ble_eq_true rfl, Nat.le_of_ble_eq_true rfl⟩ ⟨by simp only [mz_rm]; omega, by simp only [mz_rm]; omega⟩ (Nat.le_of_ble_eq_true rfl) (fun v9 G9 sz9 hp9 => ?_)
        obtain ⟨rfl, O2, hV2, hF2⟩ := hp9
        rw [← e2] at hV2
        refine mz_V.sub (lv' := [some (.ref κ), some (.int (nI b)), some (.ref υ), some (.ref τ), some (.int (nI k)), none, none]) (by (repeat' apply And.intro) <;> first | with_reducible rfl | exact True.intro | (simp only [mz_cm1, mz_c0, mz_c1, mz_c2, mz_c3, mz_c4, mz_c5, mz_c6, mz_c7, mz_c8, mz_c10, mz_c17, mz_c20, mz_c28, mz_c58, mz_c63, mz_c98, mz_c294, mz_c526, mz_c532, mz_c540, mz_c999, mz_c1900, mz_c2403, mz_c29362, mz_c29363, mz_c29364, mz_c29390, mz_c29393, mz_c29394, mz_c29398, mz_c29399, mz_c29400, mz_c29401, nI_add, pk_mul, pk_m1, mz_pp, mz_pq]; done) | rfl) ?_
        exact next _ O2 _ _ none none hV2 (hF1.tr hF2) (by omega)
  refine mz_sn_ok hC tk_X2_fillView pk_RX2 1 [] rfl (by (repeat' apply And.intro) <;> first | exact True.intro | assumption | (simp only [mz_cm1, mz_c0, mz_c1, mz_c2, mz_c3, mz_c4, mz_c5, mz_c6, mz_c7, mz_c8, mz_c10, mz_c17, mz_c20, mz_c28, mz_c58, mz_c63, mz_c98, mz_c294, mz_c526, mz_c532, mz_c540, mz_c999, mz_c1900, mz_c2403, mz_c29362, mz_c29363, mz_c29364, mz_c29390, mz_c29393, mz_c29394, mz_c29398, mz_c29399, mz_c29400, mz_c29401, nI_add, pk_mul, pk_m1, mz_pp, mz_pq]; done) | omega | (simp only [mz_cm1, mz_c0, mz_c1, mz_c2, mz_c3, mz_c4, mz_c5, mz_c6, mz_c7, mz_c8, mz_c10, mz_c17, mz_c20, mz_c28, mz_c58, mz_c63, mz_c98, mz_c294, mz_c526, mz_c532, mz_c540, mz_c999, mz_c1900, mz_c2403, mz_c29362, mz_c29363, mz_c29364, mz_c29390, mz_c29393, mz_c29394, mz_c29398, mz_c29399, mz_c29400, mz_c29401, nI_add, pk_mul, pk_m1, mz_pp, mz_pq]; congr 1; omega)) ?_
  try simp only [mz_c0, mz_cm1]
  refine mz_Vcv hC tk_X2_fillView rfl md_X4_eraseAll lk_RX2_51 rfl (ct_eraseAll l E hV) (by show (vwCl[mz_K _ _]?).map _ = _; rw [kv]; rfl) ⟨Nat.le_of_ble_eq_true rfl, Nat.le_of_ble_eq_true rfl⟩ ⟨by simp only [mz_rm]; omega, by simp only [mz_rm]; omega⟩ (Nat.le_of_ble_eq_true rfl) (fun v9 G9 sz9 hp9 => ?_)
  obtain ⟨rfl, hs9, t1, hF1⟩ := hp9
  rw [← hs9]
  have hM1 := hM0.fr hF1 (fun q h1 h2 z => by omega)
  obtain ⟨⟨⟨⟨hK2, -⟩, -, r12, -⟩, ⟨hK12, -, hn12, -⟩, hr2⟩, -, hcp2⟩ := hM1
  obtain ⟨⟨⟨⟨⟨hKc2, -⟩, -⟩, q22⟩, -⟩, -⟩ := (hcp2 b hb).1
  rw [← hτ] at q22
  have hrb := hr2 b hb
  have hx1 : 8 ≤ mz_K G9 (κ + 1) := by omega
  have hx2 : mz_K G9 (κ + 1) < 12 := by omega
  have hx3 : b < mz_n G9 (κ + 1) := by omega
  have hx4 : mz_n G9 (κ + 1) < 2147483648 := by omega
  refine mz_sn_ok hC tk_X2_fillView pk_RX2 8 [κ + 1, b, κ + 4 + 3 * b, τ] rfl (by (repeat' apply And.intro) <;> first | exact True.intro | assumption | (simp only [mz_cm1, mz_c0, mz_c1, mz_c2, mz_c3, mz_c4, mz_c5, mz_c6, mz_c7, mz_c8, mz_c10, mz_c17, mz_c20, mz_c28, mz_c58, mz_c63, mz_c98, mz_c294, mz_c526, mz_c532, mz_c540, mz_c999, mz_c1900, mz_c2403, mz_c29362, mz_c29363, mz_c29364, mz_c29390, mz_c29393, mz_c29394, mz_c29398, mz_c29399, mz_c29400, mz_c29401, nI_add, pk_mul, pk_m1, mz_pp, mz_pq]; done) | omega | (simp only [mz_cm1, mz_c0, mz_c1, mz_c2, mz_c3, mz_c4, mz_c5, mz_c6, mz_c7, mz_c8, mz_c10, mz_c17, mz_c20, mz_c28, mz_c58, mz_c63, mz_c98, mz_c294, mz_c526, mz_c532, mz_c540, mz_c999, mz_c1900, mz_c2403, mz_c29362, mz_c29363, mz_c29364, mz_c29390, mz_c29393, mz_c29394, mz_c29398, mz_c29399, mz_c29400, mz_c29401, nI_add, pk_mul, pk_m1, mz_pp, mz_pq]; congr 1; omega)) ?_
  try simp only [mz_c0, mz_cm1]
  refine mz_V.sub (lv' := [some (.ref κ), some (.int (nI b)), some (.ref υ), some (.ref τ), some (.int (nI 0)), none, none]) (by (repeat' apply And.intro) <;> first | with_reducible rfl | exact True.intro | (simp only [mz_cm1, mz_c0, mz_c1, mz_c2, mz_c3, mz_c4, mz_c5, mz_c6, mz_c7, mz_c8, mz_c10, mz_c17, mz_c20, mz_c28, mz_c58, mz_c63, mz_c98, mz_c294, mz_c526, mz_c532, mz_c540, mz_c999, mz_c1900, mz_c2403, mz_c29362, mz_c29363, mz_c29364, mz_c29390, mz_c29393, mz_c29394, mz_c29398, mz_c29399, mz_c29400, mz_c29401, nI_add, pk_mul, pk_m1, mz_pp, mz_pq]; done) | rfl) ?_
  exact one cc 0 _ O sz _ none none (by omega) (t1.same (fun k j h1 _ => absurd h1 (Nat.not_lt_zero _))) hF1 (by omega)
end MRD

