/-! ===== the class: a State's constructor ===== -/
section MRI
variable (l : Launch) (E : mz_E) {G : mz_G} {O : Nat → Nat} {sz : Nat}
/-- what a State's constructor has made when b boxes and n machines stand -/
def mr_Si (G : mz_G) (O : Nat → Nat) (sz σ nb nm : Nat) : Prop :=
  ((((mz_K G σ = 3 ∧ O σ = σ ∧ σ < sz) ∧ mz_i G σ 4 = nI 1) ∧ (mz_r G σ 0 = some (σ + 1) ∧ mz_r G σ 1 = some (σ + 2) ∧ mz_r G σ 2 = some (σ + 3) ∧ mz_r G σ 3 = some (σ + 5))) ∧
  (((mz_K G (σ + 1) = 8 ∧ O (σ + 1) = σ + 1 ∧ σ + 1 < sz) ∧ mz_n G (σ + 1) = 3) ∧ ∀ b, b < nb → mz_r G (σ + 1) b = some (σ + 6 + 5 * b)) ∧
  (((mz_K G (σ + 2) = 10 ∧ O (σ + 2) = σ + 2 ∧ σ + 2 < sz) ∧ mz_n G (σ + 2) = 4) ∧ ∀ m, m < nm → mz_r G (σ + 2) m = some (σ + 21 + 13 * m))) ∧
  ((mt_T G O sz (σ + 3) 3 10 0 30 (mr_h mr_f0 29362 3)) ∧ (((mz_K G (σ + 5) = 7 ∧ O (σ + 5) = σ + 5 ∧ σ + 5 < sz) ∧ mz_n G (σ + 5) = 7) ∧ ∀ w, w < 7 → mz_i G (σ + 5) w = nI 0)) ∧
  (∀ b, b < nb → mr_B G O sz (σ + 6 + 5 * b) (σ + 6 + 5 * b + 1) (σ + 6 + 5 * b + 3) mr_f0 b 0 0) ∧
  (∀ m, m < nm → mr_K G O sz (σ + 21 + 13 * m) mr_f0 m mr_L0)
theorem mr_Si.fr {X : Nat → Prop} {G' : mz_G} {O' : Nat → Nat} {sz' σ nb nm : Nat} (h : mr_Si G O sz σ nb nm) (hF : mt_F X G G' O O' sz sz') (hX : ∀ q, σ ≤ q → q < σ + 6 → ¬ X q) (hb : ∀ b, b < nb → ∀ q, σ + 6 + 5 * b ≤ q → q < σ + 6 + 5 * b + 5 → ¬ X q) (hm : ∀ m, m < nm → ∀ q, σ + 21 + 13 * m ≤ q → q < σ + 21 + 13 * m + 13 → ¬ X q) : mr_Si G' O' sz' σ nb nm := by
  obtain ⟨⟨⟨⟨⟨k0, o0, z0⟩, i4⟩, r0, r1, r2, r3⟩, ⟨⟨⟨k1, o1, z1⟩, n1⟩, hrb⟩, ⟨⟨⟨k2, o2, z2⟩, n2⟩, hrm⟩⟩, ⟨t, ⟨⟨k5, o5, z5⟩, n5⟩, hw⟩, hbx, hmc⟩ := h
  obtain ⟨⟨a1, a2⟩, a3, a4, a5, a6⟩ := hF.at o0 z0 (hX _ (by omega) (by omega))
  obtain ⟨⟨b1, b2⟩, b3, b4, b5, b6⟩ := hF.at o1 z1 (hX _ (by omega) (by omega))
  obtain ⟨⟨c1, c2⟩, c3, c4, c5, c6⟩ := hF.at o2 z2 (hX _ (by omega) (by omega))
  obtain ⟨⟨d1, d2⟩, d3, d4, d5, d6⟩ := hF.at o5 z5 (hX _ (by omega) (by omega))
  exact ⟨⟨⟨⟨⟨by rw [a3, k0], a1, a2⟩, by rw [a5, i4]⟩, by rw [a6, r0], by rw [a6, r1], by rw [a6, r2], by rw [a6, r3]⟩, ⟨⟨⟨by rw [b3, k1], b1, b2⟩, by rw [b4, n1]⟩, fun b h => by rw [b6]; exact hrb b h⟩, ⟨⟨⟨by rw [c3, k2], c1, c2⟩, by rw [c4, n2]⟩, fun m h => by rw [c6]; exact hrm m h⟩⟩, ⟨t.fr hF (hX _ (by omega) (by omega)), ⟨⟨by rw [d3, k5], d1, d2⟩, by rw [d4, n5]⟩, fun w h => by rw [d5]; exact hw w h⟩, fun b h => (hbx b h).fr hF (hb b h _ (by omega) (by omega)) (hb b h _ (by omega) (by omega)) (hb b h _ (by omega) (by omega)), fun m h => (hmc m h).fr hF (hm m h)⟩
theorem mr_Si.S {σ : Nat} (h : mr_Si G O sz σ 3 4) : mr_S G O sz σ mr_f0 (fun _ => mr_L0) := by
  obtain ⟨⟨⟨⟨h1, i4⟩, h2⟩, h3, h4⟩, ⟨t, h5, hw⟩, hbx, hmc⟩ := h
  refine ⟨⟨⟨⟨h1, ?_⟩, h2⟩, h3, h4⟩, ⟨⟨?_, ?_⟩, h5, fun w hw7 => ?_⟩, fun b hb => ?_, hmc⟩
  · rw [i4, mr_f0_z (by omega)]; rfl
  · rw [mr_f0_q]; exact t
  · rw [mr_f0_q]; exact mr_f0_z (by omega)
  · rw [hw w hw7, mr_f0_z (by omega)]
  · obtain ⟨e1, e2⟩ := mr_f0_s hb
    rw [e1, e2]
    exact hbx b hb
set_option maxHeartbeats 4000000 in
theorem cs_machs {p : Program} {e : Env} {s : State} {m : MethodId} {args : Array Value} {below : List Frame} {meth : Method} {c : Code} (hC : mz_C E p s m args meth c cX3_init yX3_init.cls 2) (hret : meth.sig.returnType = none) {σ : Nat} (hσ : σ + 1 = sz) (hW : mt_W O sz) : ∀ (d j : Nat) (G1 : mz_G) (O1 : Nat → Nat), j + d = 4 → mr_Si G1 O1 (σ + 21 + 13 * j) σ 3 j → mt_W O1 (σ + 21 + 13 * j) → mt_F (fun q => q = σ) G G1 O O1 sz (σ + 21 + 13 * j) → mz_V E p l e (mz_rm 6 72 2100) s m args below meth c 2 (20 + 13 * j) (48 + 318 + 403 * j) (mz_Z E below args s 72 2100 (fun v' G' sz' => v' = none ∧ sz' = σ + 73 ∧ ∃ O', mr_S G' O' sz' σ mr_f0 (fun _ => mr_L0) ∧ mt_F (fun q => q = σ) G G' O O' sz sz' ∧ mt_W O' sz')) (G1) (σ + 21 + 13 * j) (77) [some (.ref σ), some (.int (nI j))] [] := by
  intro d
  induction d with
  | zero =>
    intro j G1 O1 hj hS1 hW1 hF1
    rw [show j = 4 by omega] at hS1 hW1 hF1 ⊢
    refine mz_sn_ok hC tk_X3_init pk_RX3 2 [] rfl (by (repeat' apply And.intro) <;> first | exact True.intro | assumption | (simp only [mz_cm1, mz_c0, mz_c1, mz_c2, mz_c3, mz_c4, mz_c5, mz_c6, mz_c7, mz_c8, mz_c10, mz_c17, mz_c20, mz_c28, mz_c58, mz_c63, mz_c98, mz_c294, mz_c526, mz_c532, mz_c540, mz_c999, mz_c1900, mz_c2403, mz_c29362, mz_c29363, mz_c29364, mz_c29390, mz_c29393, mz_c29394, mz_c29398, mz_c29399, mz_c29400, mz_c29401, nI_add, pk_mul, pk_m1, mz_pp, mz_pq]; done) | omega | (simp only [mz_cm1, mz_c0, mz_c1, mz_c2, mz_c3, mz_c4, mz_c5, mz_c6, mz_c7, mz_c8, mz_c10, mz_c17, mz_c20, mz_c28, mz_c58, mz_c63, mz_c98, mz_c294, mz_c526, mz_c532, mz_c540, mz_c999, mz_c1900, mz_c2403, mz_c29362, mz_c29363, mz_c29364, mz_c29390, mz_c29393, mz_c29394, mz_c29398, mz_c29399, mz_c29400, mz_c29401, nI_add, pk_mul, pk_m1, mz_pp, mz_pq]; congr 1; omega)) ?_
    try simp only [mz_c0, mz_cm1]
    refine mz_br_t hC tk_X3_init rfl ((by show nI 4 ≤ nI 4; decide)) ?_
    refine mz_Vreturn hC tk_X3_init rfl hret (by omega) (by omega) ?_
    exact ⟨rfl, by omega, O1, hS1.S, hF1, hW1⟩
  | succ d ih =>
    intro j G1 O1 hj hS1 hW1 hF1
    obtain ⟨Z, hZ⟩ : ∃ Z, Z = σ + 21 + 13 * j := ⟨_, rfl⟩
    rw [← hZ] at hS1 hW1 hF1 ⊢
    obtain ⟨⟨⟨⟨⟨k0, o0, z0⟩, -⟩, -, r1, -⟩, -, ⟨⟨k2, o2, z2⟩, n2⟩, -⟩, -⟩ := id hS1
    refine mz_sn_ok hC tk_X3_init pk_RX3 2 [] rfl (by (repeat' apply And.intro) <;> first | exact True.intro | assumption | (simp only [mz_cm1, mz_c0, mz_c1, mz_c2, mz_c3, mz_c4, mz_c5, mz_c6, mz_c7, mz_c8, mz_c10, mz_c17, mz_c20, mz_c28, mz_c58, mz_c63, mz_c98, mz_c294, mz_c526, mz_c532, mz_c540, mz_c999, mz_c1900, mz_c2403, mz_c29362, mz_c29363, mz_c29364, mz_c29390, mz_c29393, mz_c29394, mz_c29398, mz_c29399, mz_c29400, mz_c29401, nI_add, pk_mul, pk_m1, mz_pp, mz_pq]; done) | omega | (simp only [mz_cm1, mz_c0, mz_c1, mz_c2, mz_c3, mz_c4, mz_c5, mz_c6, mz_c7, mz_c8, mz_c10, mz_c17, mz_c20, mz_c28, mz_c58, mz_c63, mz_c98, mz_c294, mz_c526, mz_c532, mz_c540, mz_c999, mz_c1900, mz_c2403, mz_c29362, mz_c29363, mz_c29364, mz_c29390, mz_c29393, mz_c29394, mz_c29398, mz_c29399, mz_c29400, mz_c29401, nI_add, pk_mul, pk_m1, mz_pp, mz_pq]; congr 1; omega)) ?_
    try simp only [mz_c0, mz_cm1]
    refine mz_br_f hC tk_X3_init rfl ((by show ¬ nI 4 ≤ nI j; exact nI_ge (by omega) (by omega))) ?_
    refine mz_sn_ok hC tk_X3_init pk_RX3 3 [σ + 2] rfl (by (repeat' apply And.intro) <;> first | exact True.intro | assumption | (simp only [mz_cm1, mz_c0, mz_c1, mz_c2, mz_c3, mz_c4, mz_c5, mz_c6, mz_c7, mz_c8, mz_c10, mz_c17, mz_c20, mz_c28, mz_c58, mz_c63, mz_c98, mz_c294, mz_c526, mz_c532, mz_c540, mz_c999, mz_c1900, mz_c2403, mz_c29362, mz_c29363, mz_c29364, mz_c29390, mz_c29393, mz_c29394, mz_c29398, mz_c29399, mz_c29400, mz_c29401, nI_add, pk_mul, pk_m1, mz_pp, mz_pq]; done) | omega | (simp only [mz_cm1, mz_c0, mz_c1, mz_c2, mz_c3, mz_c4, mz_c5, mz_c6, mz_c7, mz_c8, mz_c10, mz_c17, mz_c20, mz_c28, mz_c58, mz_c63, mz_c98, mz_c294, mz_c526, mz_c532, mz_c540, mz_c999, mz_c1900, mz_c2403, mz_c29362, mz_c29363, mz_c29364, mz_c29390, mz_c29393, mz_c29394, mz_c29398, mz_c29399, mz_c29400, mz_c29401, nI_add, pk_mul, pk_m1, mz_pp, mz_pq]; congr 1; omega)) ?_
    try simp only [mz_c0, mz_cm1]
    refine mz_Vnew2 hC tk_X3_init rfl ck_RX3_17 ⟨by simp only [mz_rm]; omega, by simp only [mz_rm]; omega⟩ ?_
    have hF8 : mt_F (fun _ => False) G1 (mz_nw G1 Z 2 0) O1 (mz_u1 O1 Z Z) Z (Z + 1) := mt_F_nw
    have hW8 := hW1.nw (v := Z) (Nat.le_refl _)
    have kS : mz_K (mz_nw G1 Z 2 0) Z = 2 := mz_nw_K G1 Z 2 0
    obtain ⟨G8, hG8⟩ : ∃ G8, G8 = mz_nw G1 Z 2 0 := ⟨_, rfl⟩
    obtain ⟨O8, hO8⟩ : ∃ O8, O8 = mz_u1 O1 Z Z := ⟨_, rfl⟩
    have oS : O8 Z = Z := by rw [hO8]; exact mz_u1_s _ _ _
    rw [← hG8, ← hO8] at hF8
    rw [← hO8] at hW8
    rw [← hG8] at kS ⊢
    refine mz_sn_ok hC tk_X3_init pk_RX3 1 [] rfl (by (repeat' apply And.intro) <;> first | exact True.intro | assumption | (simp only [mz_cm1, mz_c0, mz_c1, mz_c2, mz_c3, mz_c4, mz_c5, mz_c6, mz_c7, mz_c8, mz_c10, mz_c17, mz_c20, mz_c28, mz_c58, mz_c63, mz_c98, mz_c294, mz_c526, mz_c532, mz_c540, mz_c999, mz_c1900, mz_c2403, mz_c29362, mz_c29363, mz_c29364, mz_c29390, mz_c29393, mz_c29394, mz_c29398, mz_c29399, mz_c29400, mz_c29401, nI_add, pk_mul, pk_m1, mz_pp, mz_pq]; done) | omega | (simp only [mz_cm1, mz_c0, mz_c1, mz_c2, mz_c3, mz_c4, mz_c5, mz_c6, mz_c7, mz_c8, mz_c10, mz_c17, mz_c20, mz_c28, mz_c58, mz_c63, mz_c98, mz_c294, mz_c526, mz_c532, mz_c540, mz_c999, mz_c1900, mz_c2403, mz_c29362, mz_c29363, mz_c29364, mz_c29390, mz_c29393, mz_c29394, mz_c29398, mz_c29399, mz_c29400, mz_c29401, nI_add, pk_mul, pk_m1, mz_pp, mz_pq]; congr 1; omega)) ?_
    try simp only [mz_c0, mz_cm1]
    refine mz_Vci hC tk_X3_init rfl md_X2_init lk_RX3_41 rfl (ck_init l E kS rfl oS hW8 j (by omega)) ⟨Nat.le_of_ble_eq_true rfl, Nat.le_of_ble_eq_true rfl⟩ ⟨by simp only [mz_rm]; omega, by simp only [mz_rm]; omega⟩ (Nat.le_of_ble_eq_true rfl) (fun v9 G9 sz9 hp9 => ?_)
    obtain ⟨rfl, hs9, O9, hM9, hF9, hW9⟩ := hp9
    rw [hs9] at hM9 hF9 hW9 ⊢
    have hS8 := hS1.fr hF8 (fun q _ _ z => z) (fun b _ q _ _ z => z) (fun m _ q _ _ z => z)
    have hS9 := hS8.fr hF9 (fun q _ _ z => by omega) (fun b _ q _ _ z => by omega) (fun m _ q _ _ z => by omega)
    obtain ⟨⟨⟨⟨⟨k09, o09, z09⟩, -⟩, -, r19, -⟩, -, ⟨⟨k29, o29, z29⟩, n29⟩, -⟩, -⟩ := id hS9
    have kZ9 : mz_K G9 Z = 2 := hM9.1.1.1.1
    have x1 : mz_K G9 Z < 4 := by omega
    have x2 : mz_K G9 (σ + 2) = 8 + mz_K G9 Z := by omega
    refine mz_sn_ok hC tk_X3_init pk_RX3 3 [j] rfl (by (repeat' apply And.intro) <;> first | exact True.intro | assumption | (simp only [mz_cm1, mz_c0, mz_c1, mz_c2, mz_c3, mz_c4, mz_c5, mz_c6, mz_c7, mz_c8, mz_c10, mz_c17, mz_c20, mz_c28, mz_c58, mz_c63, mz_c98, mz_c294, mz_c526, mz_c532, mz_c540, mz_c999, mz_c1900, mz_c2403, mz_c29362, mz_c29363, mz_c29364, mz_c29390, mz_c29393, mz_c29394, mz_c29398, mz_c29399, mz_c29400, mz_c29401, nI_add, pk_mul, pk_m1, mz_pp, mz_pq]; done) | omega | (simp only [mz_cm1, mz_c0, mz_c1, mz_c2, mz_c3, mz_c4, mz_c5, mz_c6, mz_c7, mz_c8, mz_c10, mz_c17, mz_c20, mz_c28, mz_c58, mz_c63, mz_c98, mz_c294, mz_c526, mz_c532, mz_c540, mz_c999, mz_c1900, mz_c2403, mz_c29362, mz_c29363, mz_c29364, mz_c29390, mz_c29393, mz_c29394, mz_c29398, mz_c29399, mz_c29400, mz_c29401, nI_add, pk_mul, pk_m1, mz_pp, mz_pq]; congr 1; omega)) ?_
    try simp only [mz_c0, mz_cm1]
    have hF10 : mt_F (fun q => q = σ + 2) G9 (mz_sr G9 (σ + 2) j (some Z)) O9 O9 (Z + 1 + 12) (Z + 1 + 12) := mt_F_sr o29
    obtain ⟨G10, hG10⟩ : ∃ G10, G10 = mz_sr G9 (σ + 2) j (some Z) := ⟨_, rfl⟩
    have r10 : ∀ c, mz_r G10 (σ + 2) c = if c = j then some Z else mz_r G9 (σ + 2) c := fun c => by rw [hG10]; show mz_u2 (mz_r G9) (σ + 2) j _ (σ + 2) c = _; simp only [mz_u2, if_true]
    have kk10 : mz_K G10 = mz_K G9 := by rw [hG10]; rfl
    have nn10 : mz_n G10 = mz_n G9 := by rw [hG10]; rfl
    have ii10 : mz_i G10 = mz_i G9 := by rw [hG10]; rfl
    rw [← hG10] at hF10 ⊢
    refine mz_V.sub (lv' := [some (.ref σ), some (.int (nI (j + 1)))]) (by (repeat' apply And.intro) <;> first | with_reducible rfl | exact True.intro | (simp only [mz_cm1, mz_c0, mz_c1, mz_c2, mz_c3, mz_c4, mz_c5, mz_c6, mz_c7, mz_c8, mz_c10, mz_c17, mz_c20, mz_c28, mz_c58, mz_c63, mz_c98, mz_c294, mz_c526, mz_c532, mz_c540, mz_c999, mz_c1900, mz_c2403, mz_c29362, mz_c29363, mz_c29364, mz_c29390, mz_c29393, mz_c29394, mz_c29398, mz_c29399, mz_c29400, mz_c29401, nI_add, pk_mul, pk_m1, mz_pp, mz_pq]; done) | rfl) ?_
    have eZ : Z + 1 + 12 = σ + 21 + 13 * (j + 1) := by omega
    have hM10 := hM9.fr hF10 (fun q h1 h2 z => by omega)
    have hS10 : mr_Si G10 O9 (Z + 1 + 12) σ 3 (j + 1) := by
      obtain ⟨⟨⟨⟨⟨k0, o0, z0⟩, i4⟩, r0, r1, r2, r3⟩, ⟨⟨⟨k1, o1, z1⟩, n1⟩, hrb⟩, ⟨⟨⟨k2, o2, z2⟩, n2⟩, hrm⟩⟩, ⟨t, ⟨⟨k5, o5, z5⟩, n5⟩, hw⟩, hbx, hmc⟩ := id hS9
      obtain ⟨⟨a1, a2⟩, a3, a4, a5, a6⟩ := hF10.at o0 z0 (by omega)
      obtain ⟨⟨b1, b2⟩, b3, b4, b5, b6⟩ := hF10.at o1 z1 (by omega)
      obtain ⟨⟨d1, d2⟩, d3, d4, d5, d6⟩ := hF10.at o5 z5 (by omega)
      refine ⟨⟨⟨⟨⟨by rw [a3, k0], a1, a2⟩, by rw [a5, i4]⟩, by rw [a6, r0], by rw [a6, r1], by rw [a6, r2], by rw [a6, r3]⟩, ⟨⟨⟨by rw [b3, k1], b1, b2⟩, by rw [b4, n1]⟩, fun b h => by rw [b6]; exact hrb b h⟩, ⟨⟨⟨by rw [kk10]; exact k2, o2, z2⟩, by rw [nn10]; exact n2⟩, fun c hc => ?_⟩⟩, ⟨t.fr hF10 (by omega), ⟨⟨by rw [d3, k5], d1, d2⟩, by rw [d4, n5]⟩, fun w h => by rw [d5]; exact hw w h⟩, fun b h => (hbx b h).fr hF10 (by omega) (by omega) (by omega), fun c hc => ?_⟩
      · rw [r10]
        by_cases hcb : c = j
        · rw [if_pos hcb, hcb, hZ]
        · rw [if_neg hcb]
          exact hrm c (by omega)
      · by_cases hcb : c = j
        · subst hcb
          rw [← hZ]
          exact hM10
        · exact (hmc c (by omega)).fr hF10 (fun q h1 h2 z => by omega)
    have hFb : mt_F (fun q => q = σ) G G10 O O9 sz (Z + 1 + 12) := ((hF1.nx hF8 (fun q _ _ z => z)).nx hF9 (fun q hq _ => by have := hW q hq; omega)).nx hF10 (fun q hq _ => by have := hW q hq; omega)
    rw [eZ] at hS10 hFb hW9 ⊢
    refine mz_V.widen (k' := 20 + 13 * (j + 1)) (n' := 48 + 318 + 403 * (j + 1)) (by omega) (by omega) ?_
    exact ih (j + 1) G10 O9 (by omega) hS10 hW9 hFb
set_option maxHeartbeats 4000000 in
theorem cs_boxes {p : Program} {e : Env} {s : State} {m : MethodId} {args : Array Value} {below : List Frame} {meth : Method} {c : Code} (hC : mz_C E p s m args meth c cX3_init yX3_init.cls 2) (hret : meth.sig.returnType = none) {σ : Nat} (hσ : σ + 1 = sz) (hW : mt_W O sz) : ∀ (d j : Nat) (G1 : mz_G) (O1 : Nat → Nat), j + d = 3 → mr_Si G1 O1 (σ + 6 + 5 * j) σ j 0 → mt_W O1 (σ + 6 + 5 * j) → mt_F (fun q => q = σ) G G1 O O1 sz (σ + 6 + 5 * j) → mz_V E p l e (mz_rm 6 72 2100) s m args below meth c 2 (5 + 5 * j) (48 + 106 * j) (mz_Z E below args s 72 2100 (fun v' G' sz' => v' = none ∧ sz' = σ + 73 ∧ ∃ O', mr_S G' O' sz' σ mr_f0 (fun _ => mr_L0) ∧ mt_F (fun q => q = σ) G G' O O' sz sz' ∧ mt_W O' sz')) (G1) (σ + 6 + 5 * j) (51) [some (.ref σ), some (.int (nI j))] [] := by
  intro d
  induction d with
  | zero =>
    intro j G1 O1 hj hS1 hW1 hF1
    rw [show j = 3 by omega] at hS1 hW1 hF1 ⊢
    refine mz_sn_ok hC tk_X3_init pk_RX3 2 [] rfl (by (repeat' apply And.intro) <;> first | exact True.intro | assumption | (simp only [mz_cm1, mz_c0, mz_c1, mz_c2, mz_c3, mz_c4, mz_c5, mz_c6, mz_c7, mz_c8, mz_c10, mz_c17, mz_c20, mz_c28, mz_c58, mz_c63, mz_c98, mz_c294, mz_c526, mz_c532, mz_c540, mz_c999, mz_c1900, mz_c2403, mz_c29362, mz_c29363, mz_c29364, mz_c29390, mz_c29393, mz_c29394, mz_c29398, mz_c29399, mz_c29400, mz_c29401, nI_add, pk_mul, pk_m1, mz_pp, mz_pq]; done) | omega | (simp only [mz_cm1, mz_c0, mz_c1, mz_c2, mz_c3, mz_c4, mz_c5, mz_c6, mz_c7, mz_c8, mz_c10, mz_c17, mz_c20, mz_c28, mz_c58, mz_c63, mz_c98, mz_c294, mz_c526, mz_c532, mz_c540, mz_c999, mz_c1900, mz_c2403, mz_c29362, mz_c29363, mz_c29364, mz_c29390, mz_c29393, mz_c29394, mz_c29398, mz_c29399, mz_c29400, mz_c29401, nI_add, pk_mul, pk_m1, mz_pp, mz_pq]; congr 1; omega)) ?_
    try simp only [mz_c0, mz_cm1]
    refine mz_br_t hC tk_X3_init rfl ((by show nI 3 ≤ nI 3; decide)) ?_
    refine mz_sn_ok hC tk_X3_init pk_RX3 2 [] rfl (by (repeat' apply And.intro) <;> first | exact True.intro | assumption | (simp only [mz_cm1, mz_c0, mz_c1, mz_c2, mz_c3, mz_c4, mz_c5, mz_c6, mz_c7, mz_c8, mz_c10, mz_c17, mz_c20, mz_c28, mz_c58, mz_c63, mz_c98, mz_c294, mz_c526, mz_c532, mz_c540, mz_c999, mz_c1900, mz_c2403, mz_c29362, mz_c29363, mz_c29364, mz_c29390, mz_c29393, mz_c29394, mz_c29398, mz_c29399, mz_c29400, mz_c29401, nI_add, pk_mul, pk_m1, mz_pp, mz_pq]; done) | omega | (simp only [mz_cm1, mz_c0, mz_c1, mz_c2, mz_c3, mz_c4, mz_c5, mz_c6, mz_c7, mz_c8, mz_c10, mz_c17, mz_c20, mz_c28, mz_c58, mz_c63, mz_c98, mz_c294, mz_c526, mz_c532, mz_c540, mz_c999, mz_c1900, mz_c2403, mz_c29362, mz_c29363, mz_c29364, mz_c29390, mz_c29393, mz_c29394, mz_c29398, mz_c29399, mz_c29400, mz_c29401, nI_add, pk_mul, pk_m1, mz_pp, mz_pq]; congr 1; omega)) ?_
    try simp only [mz_c0, mz_cm1]
    refine mz_V.sub (lv' := [some (.ref σ), some (.int (nI 0))]) (by (repeat' apply And.intro) <;> first | with_reducible rfl | exact True.intro | (simp only [mz_cm1, mz_c0, mz_c1, mz_c2, mz_c3, mz_c4, mz_c5, mz_c6, mz_c7, mz_c8, mz_c10, mz_c17, mz_c20, mz_c28, mz_c58, mz_c63, mz_c98, mz_c294, mz_c526, mz_c532, mz_c540, mz_c999, mz_c1900, mz_c2403, mz_c29362, mz_c29363, mz_c29364, mz_c29390, mz_c29393, mz_c29394, mz_c29398, mz_c29399, mz_c29400, mz_c29401, nI_add, pk_mul, pk_m1, mz_pp, mz_pq]; done) | rfl) ?_
    rw [show σ + 6 + 5 * 3 = σ + 21 + 13 * 0 by omega] at hS1 hW1 hF1 ⊢
    exact cs_machs l E hC hret hσ hW 4 0 G1 O1 (by omega) hS1 hW1 hF1
  | succ d ih =>
    intro j G1 O1 hj hS1 hW1 hF1
    obtain ⟨Z, hZ⟩ : ∃ Z, Z = σ + 6 + 5 * j := ⟨_, rfl⟩
    rw [← hZ] at hS1 hW1 hF1 ⊢
    obtain ⟨⟨⟨⟨⟨k0, o0, z0⟩, -⟩, r0, -⟩, ⟨⟨⟨k1, o1, z1⟩, n1⟩, -⟩, -⟩, -⟩ := id hS1
    refine mz_sn_ok hC tk_X3_init pk_RX3 2 [] rfl (by (repeat' apply And.intro) <;> first | exact True.intro | assumption | (simp only [mz_cm1, mz_c0, mz_c1, mz_c2, mz_c3, mz_c4, mz_c5, mz_c6, mz_c7, mz_c8, mz_c10, mz_c17, mz_c20, mz_c28, mz_c58, mz_c63, mz_c98, mz_c294, mz_c526, mz_c532, mz_c540, mz_c999, mz_c1900, mz_c2403, mz_c29362, mz_c29363, mz_c29364, mz_c29390, mz_c29393, mz_c29394, mz_c29398, mz_c29399, mz_c29400, mz_c29401, nI_add, pk_mul, pk_m1, mz_pp, mz_pq]; done) | omega | (simp only [mz_cm1, mz_c0, mz_c1, mz_c2, mz_c3, mz_c4, mz_c5, mz_c6, mz_c7, mz_c8, mz_c10, mz_c17, mz_c20, mz_c28, mz_c58, mz_c63, mz_c98, mz_c294, mz_c526, mz_c532, mz_c540, mz_c999, mz_c1900, mz_c2403, mz_c29362, mz_c29363, mz_c29364, mz_c29390, mz_c29393, mz_c29394, mz_c29398, mz_c29399, mz_c29400, mz_c29401, nI_add, pk_mul, pk_m1, mz_pp, mz_pq]; congr 1; omega)) ?_
    try simp only [mz_c0, mz_cm1]
    refine mz_br_f hC tk_X3_init rfl ((by show ¬ nI 3 ≤ nI j; exact nI_ge (by omega) (by omega))) ?_
    refine mz_sn_ok hC tk_X3_init pk_RX3 3 [σ + 1] rfl (by (repeat' apply And.intro) <;> first | exact True.intro | assumption | (simp only [mz_cm1, mz_c0, mz_c1, mz_c2, mz_c3, mz_c4, mz_c5, mz_c6, mz_c7, mz_c8, mz_c10, mz_c17, mz_c20, mz_c28, mz_c58, mz_c63, mz_c98, mz_c294, mz_c526, mz_c532, mz_c540, mz_c999, mz_c1900, mz_c2403, mz_c29362, mz_c29363, mz_c29364, mz_c29390, mz_c29393, mz_c29394, mz_c29398, mz_c29399, mz_c29400, mz_c29401, nI_add, pk_mul, pk_m1, mz_pp, mz_pq]; done) | omega | (simp only [mz_cm1, mz_c0, mz_c1, mz_c2, mz_c3, mz_c4, mz_c5, mz_c6, mz_c7, mz_c8, mz_c10, mz_c17, mz_c20, mz_c28, mz_c58, mz_c63, mz_c98, mz_c294, mz_c526, mz_c532, mz_c540, mz_c999, mz_c1900, mz_c2403, mz_c29362, mz_c29363, mz_c29364, mz_c29390, mz_c29393, mz_c29394, mz_c29398, mz_c29399, mz_c29400, mz_c29401, nI_add, pk_mul, pk_m1, mz_pp, mz_pq]; congr 1; omega)) ?_
    try simp only [mz_c0, mz_cm1]
    refine mz_Vnew0 hC tk_X3_init rfl ck_RX3_9 ⟨by simp only [mz_rm]; omega, by simp only [mz_rm]; omega⟩ ?_
    have hF8 : mt_F (fun _ => False) G1 (mz_nw G1 Z 0 0) O1 (mz_u1 O1 Z Z) Z (Z + 1) := mt_F_nw
    have hW8 := hW1.nw (v := Z) (Nat.le_refl _)
    have kS : mz_K (mz_nw G1 Z 0 0) Z = 0 := mz_nw_K G1 Z 0 0
    obtain ⟨G8, hG8⟩ : ∃ G8, G8 = mz_nw G1 Z 0 0 := ⟨_, rfl⟩
    obtain ⟨O8, hO8⟩ : ∃ O8, O8 = mz_u1 O1 Z Z := ⟨_, rfl⟩
    have oS : O8 Z = Z := by rw [hO8]; exact mz_u1_s _ _ _
    rw [← hG8, ← hO8] at hF8
    rw [← hO8] at hW8
    rw [← hG8] at kS ⊢
    refine mz_sn_ok hC tk_X3_init pk_RX3 1 [] rfl (by (repeat' apply And.intro) <;> first | exact True.intro | assumption | (simp only [mz_cm1, mz_c0, mz_c1, mz_c2, mz_c3, mz_c4, mz_c5, mz_c6, mz_c7, mz_c8, mz_c10, mz_c17, mz_c20, mz_c28, mz_c58, mz_c63, mz_c98, mz_c294, mz_c526, mz_c532, mz_c540, mz_c999, mz_c1900, mz_c2403, mz_c29362, mz_c29363, mz_c29364, mz_c29390, mz_c29393, mz_c29394, mz_c29398, mz_c29399, mz_c29400, mz_c29401, nI_add, pk_mul, pk_m1, mz_pp, mz_pq]; done) | omega | (simp only [mz_cm1, mz_c0, mz_c1, mz_c2, mz_c3, mz_c4, mz_c5, mz_c6, mz_c7, mz_c8, mz_c10, mz_c17, mz_c20, mz_c28, mz_c58, mz_c63, mz_c98, mz_c294, mz_c526, mz_c532, mz_c540, mz_c999, mz_c1900, mz_c2403, mz_c29362, mz_c29363, mz_c29364, mz_c29390, mz_c29393, mz_c29394, mz_c29398, mz_c29399, mz_c29400, mz_c29401, nI_add, pk_mul, pk_m1, mz_pp, mz_pq]; congr 1; omega)) ?_
    try simp only [mz_c0, mz_cm1]
    refine mz_Vcin hC tk_X3_init rfl md_X0_init (List.mem_of_getElem? (i := 0) rfl) rfl (cb_init l E kS (by omega) oS hW8 j (by omega)) ⟨Nat.le_of_ble_eq_true rfl, Nat.le_of_ble_eq_true rfl⟩ ⟨by simp only [mz_rm]; omega, by simp only [mz_rm]; omega⟩ (Nat.le_of_ble_eq_true rfl) (fun v9 G9 sz9 hp9 => ?_)
    obtain ⟨rfl, hs9, O9, hB9, hF9, hW9⟩ := hp9
    rw [hs9] at hB9 hF9 hW9 ⊢
    have hS8 := hS1.fr hF8 (fun q _ _ z => z) (fun b _ q _ _ z => z) (fun m _ q _ _ z => z)
    have hS9 := hS8.fr hF9 (fun q _ _ z => by omega) (fun b _ q _ _ z => by omega) (fun m hm => absurd hm (by omega))
    obtain ⟨⟨⟨⟨⟨k09, o09, z09⟩, -⟩, r09, -⟩, ⟨⟨⟨k19, o19, z19⟩, n19⟩, -⟩, -⟩, -⟩ := id hS9
    have kZ9 : mz_K G9 Z = 0 := hB9.1.1.1.1
    have x1 : mz_K G9 Z < 4 := by omega
    have x2 : mz_K G9 (σ + 1) = 8 + mz_K G9 Z := by omega
    refine mz_sn_ok hC tk_X3_init pk_RX3 3 [j] rfl (by (repeat' apply And.intro) <;> first | exact True.intro | assumption | (simp only [mz_cm1, mz_c0, mz_c1, mz_c2, mz_c3, mz_c4, mz_c5, mz_c6, mz_c7, mz_c8, mz_c10, mz_c17, mz_c20, mz_c28, mz_c58, mz_c63, mz_c98, mz_c294, mz_c526, mz_c532, mz_c540, mz_c999, mz_c1900, mz_c2403, mz_c29362, mz_c29363, mz_c29364, mz_c29390, mz_c29393, mz_c29394, mz_c29398, mz_c29399, mz_c29400, mz_c29401, nI_add, pk_mul, pk_m1, mz_pp, mz_pq]; done) | omega | (simp only [mz_cm1, mz_c0, mz_c1, mz_c2, mz_c3, mz_c4, mz_c5, mz_c6, mz_c7, mz_c8, mz_c10, mz_c17, mz_c20, mz_c28, mz_c58, mz_c63, mz_c98, mz_c294, mz_c526, mz_c532, mz_c540, mz_c999, mz_c1900, mz_c2403, mz_c29362, mz_c29363, mz_c29364, mz_c29390, mz_c29393, mz_c29394, mz_c29398, mz_c29399, mz_c29400, mz_c29401, nI_add, pk_mul, pk_m1, mz_pp, mz_pq]; congr 1; omega)) ?_
    try simp only [mz_c0, mz_cm1]
    have hF10 : mt_F (fun q => q = σ + 1) G9 (mz_sr G9 (σ + 1) j (some Z)) O9 O9 (Z + 1 + 4) (Z + 1 + 4) := mt_F_sr o19
    obtain ⟨G10, hG10⟩ : ∃ G10, G10 = mz_sr G9 (σ + 1) j (some Z) := ⟨_, rfl⟩
    have r10 : ∀ c, mz_r G10 (σ + 1) c = if c = j then some Z else mz_r G9 (σ + 1) c := fun c => by rw [hG10]; show mz_u2 (mz_r G9) (σ + 1) j _ (σ + 1) c = _; simp only [mz_u2, if_true]
    have kk10 : mz_K G10 = mz_K G9 := by rw [hG10]; rfl
    have nn10 : mz_n G10 = mz_n G9 := by rw [hG10]; rfl
    rw [← hG10] at hF10 ⊢
    refine mz_V.sub (lv' := [some (.ref σ), some (.int (nI (j + 1)))]) (by (repeat' apply And.intro) <;> first | with_reducible rfl | exact True.intro | (simp only [mz_cm1, mz_c0, mz_c1, mz_c2, mz_c3, mz_c4, mz_c5, mz_c6, mz_c7, mz_c8, mz_c10, mz_c17, mz_c20, mz_c28, mz_c58, mz_c63, mz_c98, mz_c294, mz_c526, mz_c532, mz_c540, mz_c999, mz_c1900, mz_c2403, mz_c29362, mz_c29363, mz_c29364, mz_c29390, mz_c29393, mz_c29394, mz_c29398, mz_c29399, mz_c29400, mz_c29401, nI_add, pk_mul, pk_m1, mz_pp, mz_pq]; done) | rfl) ?_
    have eZ : Z + 1 + 4 = σ + 6 + 5 * (j + 1) := by omega
    have hB10 := hB9.fr hF10 (by omega) (by omega) (by omega)
    have hS10 : mr_Si G10 O9 (Z + 1 + 4) σ (j + 1) 0 := by
      obtain ⟨⟨⟨⟨⟨k0, o0, z0⟩, i4⟩, r0, r1, r2, r3⟩, ⟨⟨⟨k1, o1, z1⟩, n1⟩, hrb⟩, ⟨⟨⟨k2, o2, z2⟩, n2⟩, hrm⟩⟩, ⟨t, ⟨⟨k5, o5, z5⟩, n5⟩, hw⟩, hbx, hmc⟩ := id hS9
      obtain ⟨⟨a1, a2⟩, a3, a4, a5, a6⟩ := hF10.at o0 z0 (by omega)
      obtain ⟨⟨b1, b2⟩, b3, b4, b5, b6⟩ := hF10.at o2 z2 (by omega)
      obtain ⟨⟨d1, d2⟩, d3, d4, d5, d6⟩ := hF10.at o5 z5 (by omega)
      refine ⟨⟨⟨⟨⟨by rw [a3, k0], a1, a2⟩, by rw [a5, i4]⟩, by rw [a6, r0], by rw [a6, r1], by rw [a6, r2], by rw [a6, r3]⟩, ⟨⟨⟨by rw [kk10]; exact k1, o1, z1⟩, by rw [nn10]; exact n1⟩, fun c hc => ?_⟩, ⟨⟨⟨by rw [b3, k2], b1, b2⟩, by rw [b4, n2]⟩, fun m h => absurd h (by omega)⟩⟩, ⟨t.fr hF10 (by omega), ⟨⟨by rw [d3, k5], d1, d2⟩, by rw [d4, n5]⟩, fun w h => by rw [d5]; exact hw w h⟩, fun c hc => ?_, fun m h => absurd h (by omega)⟩
      · rw [r10]
        by_cases hcb : c = j
        · rw [if_pos hcb, hcb, hZ]
        · rw [if_neg hcb]
          exact hrb c (by omega)
      · by_cases hcb : c = j
        · subst hcb
          rw [← hZ]
          exact hB10
        · exact (hbx c (by omega)).fr hF10 (by omega) (by omega) (by omega)
    have hFb : mt_F (fun q => q = σ) G G10 O O9 sz (Z + 1 + 4) := ((hF1.nx hF8 (fun q _ _ z => z)).nx hF9 (fun q hq _ => by have := hW q hq; omega)).nx hF10 (fun q hq _ => by have := hW q hq; omega)
    rw [eZ] at hS10 hFb hW9 ⊢
    refine mz_V.widen (k' := 5 + 5 * (j + 1)) (n' := 48 + 106 * (j + 1)) (by omega) (by omega) ?_
    exact ih (j + 1) G10 O9 (by omega) hS10 hW9 hFb
set_option maxHeartbeats 8000000 in
theorem cs_init {σ : Nat} (hK : mz_K G σ = 3) (hσ : σ + 1 = sz) (hO : O σ = σ) (hW : mt_W O sz) : mz_M l E yX3_init cX3_init 2 none 6 72 2100 [.ref σ] G sz (fun v' G' sz' => v' = none ∧ sz' = σ + 73 ∧ ∃ O', mr_S G' O' sz' σ mr_f0 (fun _ => mr_L0) ∧ mt_F (fun q => q = σ) G G' O O' sz sz' ∧ mt_W O' sz') := by
  refine mz_start (by decide) (Nat.le_of_ble_eq_true rfl) ?_
  intro p e s m args below meth c hC hret hnm
  refine mz_sn_ok hC tk_X3_init pk_RX3 1 [] rfl (by (repeat' apply And.intro) <;> first | exact True.intro | assumption | (simp only [mz_cm1, mz_c0, mz_c1, mz_c2, mz_c3, mz_c4, mz_c5, mz_c6, mz_c7, mz_c8, mz_c10, mz_c17, mz_c20, mz_c28, mz_c58, mz_c63, mz_c98, mz_c294, mz_c526, mz_c532, mz_c540, mz_c999, mz_c1900, mz_c2403, mz_c29362, mz_c29363, mz_c29364, mz_c29390, mz_c29393, mz_c29394, mz_c29398, mz_c29399, mz_c29400, mz_c29401, nI_add, pk_mul, pk_m1, mz_pp, mz_pq]; done) | omega | (simp only [mz_cm1, mz_c0, mz_c1, mz_c2, mz_c3, mz_c4, mz_c5, mz_c6, mz_c7, mz_c8, mz_c10, mz_c17, mz_c20, mz_c28, mz_c58, mz_c63, mz_c98, mz_c294, mz_c526, mz_c532, mz_c540, mz_c999, mz_c1900, mz_c2403, mz_c29362, mz_c29363, mz_c29364, mz_c29390, mz_c29393, mz_c29394, mz_c29398, mz_c29399, mz_c29400, mz_c29401, nI_add, pk_mul, pk_m1, mz_pp, mz_pq]; congr 1; omega)) ?_
  try simp only [mz_c0, mz_cm1]
  refine mz_Vobj hC tk_X3_init rfl lk_RX3_3 im_java_lang_Object__init____V cd_objI (Nat.le_of_ble_eq_true rfl) (Nat.le_of_ble_eq_true rfl) ?_
  refine mz_sn_ok hC tk_X3_init pk_RX3 2 [] rfl (by (repeat' apply And.intro) <;> first | exact True.intro | assumption | (simp only [mz_cm1, mz_c0, mz_c1, mz_c2, mz_c3, mz_c4, mz_c5, mz_c6, mz_c7, mz_c8, mz_c10, mz_c17, mz_c20, mz_c28, mz_c58, mz_c63, mz_c98, mz_c294, mz_c526, mz_c532, mz_c540, mz_c999, mz_c1900, mz_c2403, mz_c29362, mz_c29363, mz_c29364, mz_c29390, mz_c29393, mz_c29394, mz_c29398, mz_c29399, mz_c29400, mz_c29401, nI_add, pk_mul, pk_m1, mz_pp, mz_pq]; done) | omega | (simp only [mz_cm1, mz_c0, mz_c1, mz_c2, mz_c3, mz_c4, mz_c5, mz_c6, mz_c7, mz_c8, mz_c10, mz_c17, mz_c20, mz_c28, mz_c58, mz_c63, mz_c98, mz_c294, mz_c526, mz_c532, mz_c540, mz_c999, mz_c1900, mz_c2403, mz_c29362, mz_c29363, mz_c29364, mz_c29390, mz_c29393, mz_c29394, mz_c29398, mz_c29399, mz_c29400, mz_c29401, nI_add, pk_mul, pk_m1, mz_pp, mz_pq]; congr 1; omega)) ?_
  try simp only [mz_c0, mz_cm1]
  refine mz_Vnewa hC tk_X3_init rfl 8 1 RX0 (by omega) rfl ck_RX3_9 (List.mem_of_getElem? (i := 0) rfl) 3 rfl (by omega) ⟨by simp only [mz_rm]; omega, by simp only [mz_rm]; omega⟩ ?_
  have hF1 : mt_F (fun _ => False) G (mz_nw G sz 8 3) O (mz_u1 O sz sz) sz (sz + 1) := mt_F_nw
  have hW1 := hW.nw (v := sz) (Nat.le_refl _)
  obtain ⟨G1, hG1⟩ : ∃ G1, G1 = mz_nw G sz 8 3 := ⟨_, rfl⟩
  obtain ⟨O1, hO1⟩ : ∃ O1, O1 = mz_u1 O sz sz := ⟨_, rfl⟩
  have ka1 : mz_K G1 sz = 8 := by rw [hG1]; exact mz_nw_K G sz 8 3
  have na1 : mz_n G1 sz = 3 := by rw [hG1]; exact mz_nw_n G sz 8 3
  have oa1 : O1 sz = sz := by rw [hO1]; exact mz_u1_s _ _ _
  rw [← hG1, ← hO1] at hF1
  rw [← hO1] at hW1
  rw [← hG1]
  obtain ⟨⟨a1, a2⟩, a3, -, -, -⟩ := hF1.at hO (by omega) (fun z => z)
  have hK1 : mz_K G1 σ = 3 := by rw [a3, hK]
  refine mz_VputFr hC tk_X3_init hnm rfl fo_RX3_11 hK1 rfl rfl rfl (fun C T N z => by cases (show some (RX3, TX3, 5) = some (C, T, N) from z); exact fk_RX3_11) ?_
  have hF2 : mt_F (fun q => q = σ) G1 (mz_sr G1 σ 0 (some sz)) O1 O1 (sz + 1) (sz + 1) := mt_F_sr a1
  obtain ⟨G2, hG2⟩ : ∃ G2, G2 = mz_sr G1 σ 0 (some sz) := ⟨_, rfl⟩
  have hK2 : mz_K G2 σ = 3 := by rw [hG2]; exact hK1
  have r20 : mz_r G2 σ 0 = some sz := by rw [hG2]; show mz_u2 (mz_r G1) σ 0 _ σ 0 = _; rw [mz_u2_s]
  have ka2 : mz_K G2 sz = 8 := by rw [hG2]; exact ka1
  have na2 : mz_n G2 sz = 3 := by rw [hG2]; exact na1
  rw [← hG2] at hF2 ⊢
  refine mz_sn_ok hC tk_X3_init pk_RX3 2 [] rfl (by (repeat' apply And.intro) <;> first | exact True.intro | assumption | (simp only [mz_cm1, mz_c0, mz_c1, mz_c2, mz_c3, mz_c4, mz_c5, mz_c6, mz_c7, mz_c8, mz_c10, mz_c17, mz_c20, mz_c28, mz_c58, mz_c63, mz_c98, mz_c294, mz_c526, mz_c532, mz_c540, mz_c999, mz_c1900, mz_c2403, mz_c29362, mz_c29363, mz_c29364, mz_c29390, mz_c29393, mz_c29394, mz_c29398, mz_c29399, mz_c29400, mz_c29401, nI_add, pk_mul, pk_m1, mz_pp, mz_pq]; done) | omega | (simp only [mz_cm1, mz_c0, mz_c1, mz_c2, mz_c3, mz_c4, mz_c5, mz_c6, mz_c7, mz_c8, mz_c10, mz_c17, mz_c20, mz_c28, mz_c58, mz_c63, mz_c98, mz_c294, mz_c526, mz_c532, mz_c540, mz_c999, mz_c1900, mz_c2403, mz_c29362, mz_c29363, mz_c29364, mz_c29390, mz_c29393, mz_c29394, mz_c29398, mz_c29399, mz_c29400, mz_c29401, nI_add, pk_mul, pk_m1, mz_pp, mz_pq]; congr 1; omega)) ?_
  try simp only [mz_c0, mz_cm1]
  refine mz_Vnewa hC tk_X3_init rfl 10 3 RX2 (by omega) rfl ck_RX3_17 (List.mem_of_getElem? (i := 2) rfl) 4 rfl (by omega) ⟨by simp only [mz_rm]; omega, by simp only [mz_rm]; omega⟩ ?_
  have hF3 : mt_F (fun _ => False) G2 (mz_nw G2 (sz + 1) 10 4) O1 (mz_u1 O1 (sz + 1) (sz + 1)) (sz + 1) (sz + 1 + 1) := mt_F_nw
  have hW3 := hW1.nw (v := sz + 1) (Nat.le_refl _)
  obtain ⟨G3, hG3⟩ : ∃ G3, G3 = mz_nw G2 (sz + 1) 10 4 := ⟨_, rfl⟩
  obtain ⟨O3, hO3⟩ : ∃ O3, O3 = mz_u1 O1 (sz + 1) (sz + 1) := ⟨_, rfl⟩
  have kb3 : mz_K G3 (sz + 1) = 10 := by rw [hG3]; exact mz_nw_K G2 (sz + 1) 10 4
  have nb3 : mz_n G3 (sz + 1) = 4 := by rw [hG3]; exact mz_nw_n G2 (sz + 1) 10 4
  have ob3 : O3 (sz + 1) = sz + 1 := by rw [hO3]; exact mz_u1_s _ _ _
  rw [← hG3, ← hO3] at hF3
  rw [← hO3] at hW3
  rw [← hG3]
  obtain ⟨⟨b1, b2⟩, b3, -, -, b6⟩ := hF3.at a1 a2 (fun z => z)
  obtain ⟨⟨b1a, b2a⟩, b3a, b4a, -, -⟩ := hF3.at oa1 (by omega) (fun z => z)
  have hK3 : mz_K G3 σ = 3 := by rw [b3, hK2]
  refine mz_VputFr hC tk_X3_init hnm rfl fo_RX3_19 hK3 rfl rfl rfl (fun C T N z => by cases (show some (RX3, TX3, 5) = some (C, T, N) from z); exact fk_RX3_19) ?_
  have hF4 : mt_F (fun q => q = σ) G3 (mz_sr G3 σ 1 (some (sz + 1))) O3 O3 (sz + 2) (sz + 2) := mt_F_sr b1
  obtain ⟨G4, hG4⟩ : ∃ G4, G4 = mz_sr G3 σ 1 (some (sz + 1)) := ⟨_, rfl⟩
  have hK4 : mz_K G4 σ = 3 := by rw [hG4]; exact hK3
  have r40 : mz_r G4 σ 0 = some sz := by rw [hG4]; show mz_u2 (mz_r G3) σ 1 _ σ 0 = _; rw [mz_u2_j _ _ _ _ (by omega), b6, r20]
  have r41 : mz_r G4 σ 1 = some (sz + 1) := by rw [hG4]; show mz_u2 (mz_r G3) σ 1 _ σ 1 = _; rw [mz_u2_s]
  have ka4 : mz_K G4 sz = 8 := by rw [hG4]; show mz_K G3 sz = 8; rw [b3a, ka2]
  have na4 : mz_n G4 sz = 3 := by rw [hG4]; show mz_n G3 sz = 3; rw [b4a, na2]
  have kb4 : mz_K G4 (sz + 1) = 10 := by rw [hG4]; exact kb3
  have nb4 : mz_n G4 (sz + 1) = 4 := by rw [hG4]; exact nb3
  rw [← hG4] at hF4 ⊢
  refine mz_sn_ok hC tk_X3_init pk_RX3 1 [] rfl (by (repeat' apply And.intro) <;> first | exact True.intro | assumption | (simp only [mz_cm1, mz_c0, mz_c1, mz_c2, mz_c3, mz_c4, mz_c5, mz_c6, mz_c7, mz_c8, mz_c10, mz_c17, mz_c20, mz_c28, mz_c58, mz_c63, mz_c98, mz_c294, mz_c526, mz_c532, mz_c540, mz_c999, mz_c1900, mz_c2403, mz_c29362, mz_c29363, mz_c29364, mz_c29390, mz_c29393, mz_c29394, mz_c29398, mz_c29399, mz_c29400, mz_c29401, nI_add, pk_mul, pk_m1, mz_pp, mz_pq]; done) | omega | (simp only [mz_cm1, mz_c0, mz_c1, mz_c2, mz_c3, mz_c4, mz_c5, mz_c6, mz_c7, mz_c8, mz_c10, mz_c17, mz_c20, mz_c28, mz_c58, mz_c63, mz_c98, mz_c294, mz_c526, mz_c532, mz_c540, mz_c999, mz_c1900, mz_c2403, mz_c29362, mz_c29363, mz_c29364, mz_c29390, mz_c29393, mz_c29394, mz_c29398, mz_c29399, mz_c29400, mz_c29401, nI_add, pk_mul, pk_m1, mz_pp, mz_pq]; congr 1; omega)) ?_
  try simp only [mz_c0, mz_cm1]
  refine mz_Vnew4 hC tk_X3_init rfl ck_RX3_23 ⟨by simp only [mz_rm]; omega, by simp only [mz_rm]; omega⟩ ?_
  refine mz_sn_ok hC tk_X3_init pk_RX3 4 [] rfl (by (repeat' apply And.intro) <;> first | exact True.intro | assumption | (simp only [mz_cm1, mz_c0, mz_c1, mz_c2, mz_c3, mz_c4, mz_c5, mz_c6, mz_c7, mz_c8, mz_c10, mz_c17, mz_c20, mz_c28, mz_c58, mz_c63, mz_c98, mz_c294, mz_c526, mz_c532, mz_c540, mz_c999, mz_c1900, mz_c2403, mz_c29362, mz_c29363, mz_c29364, mz_c29390, mz_c29393, mz_c29394, mz_c29398, mz_c29399, mz_c29400, mz_c29401, nI_add, pk_mul, pk_m1, mz_pp, mz_pq]; done) | omega | (simp only [mz_cm1, mz_c0, mz_c1, mz_c2, mz_c3, mz_c4, mz_c5, mz_c6, mz_c7, mz_c8, mz_c10, mz_c17, mz_c20, mz_c28, mz_c58, mz_c63, mz_c98, mz_c294, mz_c526, mz_c532, mz_c540, mz_c999, mz_c1900, mz_c2403, mz_c29362, mz_c29363, mz_c29364, mz_c29390, mz_c29393, mz_c29394, mz_c29398, mz_c29399, mz_c29400, mz_c29401, nI_add, pk_mul, pk_m1, mz_pp, mz_pq]; congr 1; omega)) ?_
  try simp only [mz_c0, mz_cm1]
  have hF5 : mt_F (fun _ => False) G4 (mz_nw G4 (sz + 2) 4 0) O3 (mz_u1 O3 (sz + 2) (sz + 2)) (sz + 2) (sz + 2 + 1) := mt_F_nw
  have hW5 := hW3.nw (v := sz + 2) (Nat.le_refl _)
  refine mz_Vci hC tk_X3_init rfl md_X4_init lk_RX3_25 rfl (ct_initW l E (G := mz_nw G4 (sz + 2) 4 0) (O := mz_u1 O3 (sz + 2) (sz + 2)) (sz := sz + 2 + 1) (t := sz + 2) (W := 3) (lim := 10) (mz_nw_K G4 (sz + 2) 4 0) (by omega) (mz_u1_s _ _ _) 10 (by omega) (by omega) (by omega) (mr_h mr_f0 29362 3)) ⟨Nat.le_of_ble_eq_true rfl, Nat.le_of_ble_eq_true rfl⟩ ⟨by simp only [mz_rm]; omega, by simp only [mz_rm]; omega⟩ (Nat.le_of_ble_eq_true rfl) (fun v6 G6 sz6 hp6 => ?_)
  obtain ⟨rfl, hs6, O6, t6, hF6, hW6⟩ := hp6
  have hs6' : sz6 = sz + 4 := by omega
  rw [hs6'] at t6 hF6 hW6 ⊢
  have hW6' := hW6 hW5
  have hF56 := hF5.nx (Y := fun q => q = sz + 2) hF6 (fun q hq _ => by have := hW3 q hq; omega)
  obtain ⟨⟨c1, c2⟩, c3, -, -, c6⟩ := hF56.at b1 b2 (fun z => z)
  obtain ⟨⟨c1a, c2a⟩, c3a, c4a, -, -⟩ := hF56.at b1a b2a (fun z => z)
  obtain ⟨⟨c1b, c2b⟩, c3b, c4b, -, -⟩ := hF56.at ob3 (by omega) (fun z => z)
  have hK6 : mz_K G6 σ = 3 := by rw [c3, hK4]
  refine mz_VputFr hC tk_X3_init hnm rfl fo_RX3_28 hK6 rfl rfl rfl (fun C T N z => by cases (show some (RX3, TX3, 5) = some (C, T, N) from z); exact fk_RX3_28) ?_
  have hF7 : mt_F (fun q => q = σ) G6 (mz_sr G6 σ 2 (some (sz + 2))) O6 O6 (sz + 4) (sz + 4) := mt_F_sr c1
  have t7 := t6.fr hF7 (by omega)
  obtain ⟨G7, hG7⟩ : ∃ G7, G7 = mz_sr G6 σ 2 (some (sz + 2)) := ⟨_, rfl⟩
  have hK7 : mz_K G7 σ = 3 := by rw [hG7]; exact hK6
  have r7 : ∀ j, ¬ j = 2 → mz_r G7 σ j = mz_r G4 σ j := fun j hj => by rw [hG7]; show mz_u2 (mz_r G6) σ 2 _ σ j = _; rw [mz_u2_j _ _ _ _ hj, c6]
  have r72 : mz_r G7 σ 2 = some (sz + 2) := by rw [hG7]; show mz_u2 (mz_r G6) σ 2 _ σ 2 = _; rw [mz_u2_s]
  have kk7 : mz_K G7 = mz_K G6 := by rw [hG7]; rfl
  have nn7 : mz_n G7 = mz_n G6 := by rw [hG7]; rfl
  rw [← hG7] at hF7 t7 ⊢
  refine mz_sn_ok hC tk_X3_init pk_RX3 2 [] rfl (by (repeat' apply And.intro) <;> first | exact True.intro | assumption | (simp only [mz_cm1, mz_c0, mz_c1, mz_c2, mz_c3, mz_c4, mz_c5, mz_c6, mz_c7, mz_c8, mz_c10, mz_c17, mz_c20, mz_c28, mz_c58, mz_c63, mz_c98, mz_c294, mz_c526, mz_c532, mz_c540, mz_c999, mz_c1900, mz_c2403, mz_c29362, mz_c29363, mz_c29364, mz_c29390, mz_c29393, mz_c29394, mz_c29398, mz_c29399, mz_c29400, mz_c29401, nI_add, pk_mul, pk_m1, mz_pp, mz_pq]; done) | omega | (simp only [mz_cm1, mz_c0, mz_c1, mz_c2, mz_c3, mz_c4, mz_c5, mz_c6, mz_c7, mz_c8, mz_c10, mz_c17, mz_c20, mz_c28, mz_c58, mz_c63, mz_c98, mz_c294, mz_c526, mz_c532, mz_c540, mz_c999, mz_c1900, mz_c2403, mz_c29362, mz_c29363, mz_c29364, mz_c29390, mz_c29393, mz_c29394, mz_c29398, mz_c29399, mz_c29400, mz_c29401, nI_add, pk_mul, pk_m1, mz_pp, mz_pq]; congr 1; omega)) ?_
  try simp only [mz_c0, mz_cm1]
  refine mz_Vnewi hC tk_X3_init rfl 7 rfl (by omega) ⟨by simp only [mz_rm]; omega, by simp only [mz_rm]; omega⟩ ac_int ?_
  have hF8 : mt_F (fun _ => False) G7 (mz_nw G7 (sz + 4) 7 7) O6 (mz_u1 O6 (sz + 4) (sz + 4)) (sz + 4) (sz + 4 + 1) := mt_F_nw
  have hW8 := hW6'.nw (v := sz + 4) (Nat.le_refl _)
  obtain ⟨G8, hG8⟩ : ∃ G8, G8 = mz_nw G7 (sz + 4) 7 7 := ⟨_, rfl⟩
  obtain ⟨O8, hO8⟩ : ∃ O8, O8 = mz_u1 O6 (sz + 4) (sz + 4) := ⟨_, rfl⟩
  have kc8 : mz_K G8 (sz + 4) = 7 := by rw [hG8]; exact mz_nw_K G7 (sz + 4) 7 7
  have nc8 : mz_n G8 (sz + 4) = 7 := by rw [hG8]; exact mz_nw_n G7 (sz + 4) 7 7
  have ic8 : ∀ w, mz_i G8 (sz + 4) w = nI 0 := fun w => by rw [hG8, mz_nw_i]; rfl
  have oc8 : O8 (sz + 4) = sz + 4 := by rw [hO8]; exact mz_u1_s _ _ _
  rw [← hG8, ← hO8] at hF8
  rw [← hO8] at hW8
  rw [← hG8]
  obtain ⟨⟨d1, d2⟩, d3, -, -, d6⟩ := hF8.at c1 c2 (fun z => z)
  obtain ⟨⟨d1a, d2a⟩, d3a, d4a, -, -⟩ := hF8.at c1a c2a (fun z => z)
  obtain ⟨⟨d1b, d2b⟩, d3b, d4b, -, -⟩ := hF8.at c1b c2b (fun z => z)
  have t8 := t7.fr hF8 (fun z => z)
  have hK8 : mz_K G8 σ = 3 := by rw [d3, hK7]
  refine mz_VputFr hC tk_X3_init hnm rfl fo_RX3_32 hK8 rfl rfl rfl (fun C T N z => by cases (show some (RX3, TX3, 5) = some (C, T, N) from z); exact fk_RX3_32) ?_
  have hF9 : mt_F (fun q => q = σ) G8 (mz_sr G8 σ 3 (some (sz + 4))) O8 O8 (sz + 5) (sz + 5) := mt_F_sr d1
  have t9 := t8.fr hF9 (by omega)
  obtain ⟨G9, hG9⟩ : ∃ G9, G9 = mz_sr G8 σ 3 (some (sz + 4)) := ⟨_, rfl⟩
  have hK9 : mz_K G9 σ = 3 := by rw [hG9]; exact hK8
  have r9 : ∀ j, ¬ j = 3 → mz_r G9 σ j = mz_r G7 σ j := fun j hj => by rw [hG9]; show mz_u2 (mz_r G8) σ 3 _ σ j = _; rw [mz_u2_j _ _ _ _ hj, d6]
  have r93 : mz_r G9 σ 3 = some (sz + 4) := by rw [hG9]; show mz_u2 (mz_r G8) σ 3 _ σ 3 = _; rw [mz_u2_s]
  have kk9 : mz_K G9 = mz_K G8 := by rw [hG9]; rfl
  have nn9 : mz_n G9 = mz_n G8 := by rw [hG9]; rfl
  have ii9 : mz_i G9 = mz_i G8 := by rw [hG9]; rfl
  rw [← hG9] at hF9 t9 ⊢
  refine mz_sn_ok hC tk_X3_init pk_RX3 5 [] rfl (by (repeat' apply And.intro) <;> first | exact True.intro | assumption | (simp only [mz_cm1, mz_c0, mz_c1, mz_c2, mz_c3, mz_c4, mz_c5, mz_c6, mz_c7, mz_c8, mz_c10, mz_c17, mz_c20, mz_c28, mz_c58, mz_c63, mz_c98, mz_c294, mz_c526, mz_c532, mz_c540, mz_c999, mz_c1900, mz_c2403, mz_c29362, mz_c29363, mz_c29364, mz_c29390, mz_c29393, mz_c29394, mz_c29398, mz_c29399, mz_c29400, mz_c29401, nI_add, pk_mul, pk_m1, mz_pp, mz_pq]; done) | omega | (simp only [mz_cm1, mz_c0, mz_c1, mz_c2, mz_c3, mz_c4, mz_c5, mz_c6, mz_c7, mz_c8, mz_c10, mz_c17, mz_c20, mz_c28, mz_c58, mz_c63, mz_c98, mz_c294, mz_c526, mz_c532, mz_c540, mz_c999, mz_c1900, mz_c2403, mz_c29362, mz_c29363, mz_c29364, mz_c29390, mz_c29393, mz_c29394, mz_c29398, mz_c29399, mz_c29400, mz_c29401, nI_add, pk_mul, pk_m1, mz_pp, mz_pq]; congr 1; omega)) ?_
  try simp only [mz_c0, mz_cm1]
  have hF10 : mt_F (fun q => q = σ) G9 (mz_si G9 σ 4 (mz_c 1)) O8 O8 (sz + 5) (sz + 5) := mt_F_si d1
  have t10 := t9.fr hF10 (by omega)
  obtain ⟨G10, hG10⟩ : ∃ G10, G10 = mz_si G9 σ 4 (mz_c 1) := ⟨_, rfl⟩
  have kk10 : mz_K G10 = mz_K G9 := by rw [hG10]; rfl
  have nn10 : mz_n G10 = mz_n G9 := by rw [hG10]; rfl
  have rr10 : mz_r G10 = mz_r G9 := by rw [hG10]; rfl
  have i10 : mz_i G10 σ 4 = nI 1 := by rw [hG10]; show mz_u2 (mz_i G9) σ 4 _ σ 4 = _; rw [mz_u2_s]; rfl
  have ic10 : ∀ w, mz_i G10 (sz + 4) w = nI 0 := fun w => by rw [hG10]; show mz_u2 (mz_i G9) σ 4 _ (sz + 4) w = _; rw [mz_u2_a _ _ _ _ (by omega), ii9, ic8]
  rw [← hG10] at hF10 t10 ⊢
  have hFa : mt_F (fun q => q = σ) G G10 O O8 sz (sz + 5) := by
    refine (((((((hF1.mono (fun q hq => hq.elim)).tr (hF2.mono (fun q hq => hq))).nx hF3 (fun q _ _ z => z)).tr hF4).nx hF56 (fun q _ _ z => z)).tr hF7).nx hF8 (fun q _ _ z => z)).tr (hF9.tr hF10)
  have eσ : σ + 6 = sz + 5 := by omega
  have hSi : mr_Si G10 O8 (sz + 5) σ 0 0 := by
    refine ⟨⟨⟨⟨⟨by rw [kk10]; exact hK9, d1, by omega⟩, i10⟩, ?_, ?_, ?_, ?_⟩, ⟨⟨⟨?_, ?_, by omega⟩, ?_⟩, fun b hb => absurd hb (by omega)⟩, ⟨⟨⟨?_, ?_, by omega⟩, ?_⟩, fun b hb => absurd hb (by omega)⟩⟩, ⟨?_, ⟨⟨?_, ?_, by omega⟩, ?_⟩, fun w hw => ?_⟩, fun b hb => absurd hb (by omega), fun b hb => absurd hb (by omega)⟩
    · rw [rr10, r9 0 (by omega), r7 0 (by omega), r40, hσ]
    · rw [rr10, r9 1 (by omega), r7 1 (by omega), r41, ← hσ]
    · rw [rr10, r9 2 (by omega), r72, ← hσ]
    · rw [rr10, r93, ← hσ]
    · rw [hσ, kk10, kk9, d3a, kk7, c3a, ka4]
    · rw [hσ]; exact d1a
    · rw [hσ, nn10, nn9, d4a, nn7, c4a, na4]
    · rw [show σ + 2 = sz + 1 by omega, kk10, kk9, d3b, kk7, c3b, kb4]
    · rw [show σ + 2 = sz + 1 by omega]; exact d1b
    · rw [show σ + 2 = sz + 1 by omega, nn10, nn9, d4b, nn7, c4b, nb4]
    · rw [show σ + 3 = sz + 2 by omega]; exact t10
    · rw [show σ + 5 = sz + 4 by omega, kk10, kk9, kc8]
    · rw [show σ + 5 = sz + 4 by omega]; exact oc8
    · rw [show σ + 5 = sz + 4 by omega, nn10, nn9, nc8]
    · rw [show σ + 5 = sz + 4 by omega]; exact ic10 w
  refine mz_V.sub (lv' := [some (.ref σ), some (.int (nI 0))]) (by (repeat' apply And.intro) <;> first | with_reducible rfl | exact True.intro | (simp only [mz_cm1, mz_c0, mz_c1, mz_c2, mz_c3, mz_c4, mz_c5, mz_c6, mz_c7, mz_c8, mz_c10, mz_c17, mz_c20, mz_c28, mz_c58, mz_c63, mz_c98, mz_c294, mz_c526, mz_c532, mz_c540, mz_c999, mz_c1900, mz_c2403, mz_c29362, mz_c29363, mz_c29364, mz_c29390, mz_c29393, mz_c29394, mz_c29398, mz_c29399, mz_c29400, mz_c29401, nI_add, pk_mul, pk_m1, mz_pp, mz_pq]; done) | rfl) ?_
  rw [← eσ] at hSi hW8 hFa ⊢
  refine mz_V.widen (k' := 5 + 5 * 0) (n' := 48 + 106 * 0) (by omega) (by omega) ?_
  exact cs_boxes l E hC hret hσ hW 3 0 G10 O8 (by omega) hSi hW8 hFa
end MRI

