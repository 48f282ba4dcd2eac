/-! ===== the class: constructors of a box, a copy, a machine ===== -/
def mr_f0 : Nat → Int32 := fun i => if i = 0 ∨ i = 1 ∨ i = 98 ∨ i = 99 ∨ i = 196 ∨ i = 197 then nI 1 else nI 0
theorem mr_f0_z {i : Nat} (h : ¬ (i = 0 ∨ i = 1 ∨ i = 98 ∨ i = 99 ∨ i = 196 ∨ i = 197)) : mr_f0 i = nI 0 := if_neg h
theorem mr_f0_b {b : Nat} (hb : b < 3) : mr_f0 (98 * b + 0) = nI 1 ∧ mr_f0 (98 * b + 1) = nI 1 := ⟨if_pos (by omega), if_pos (by omega)⟩
theorem mr_f0_s {b : Nat} (hb : b < 3) : mx_cB mr_f0 b = 0 ∧ mx_gB mr_f0 b = 0 := ⟨mr_nI_cl (mr_f0_z (by omega)) (by omega), mr_nI_cl (mr_f0_z (by omega)) (by omega)⟩
theorem mr_f0_c (m b : Nat) : mx_cC mr_f0 m b = 0 := mr_nI_cl (mr_f0_z (by unfold mx_CA; omega)) (by omega)
theorem mr_f0_d (m : Nat) : mx_nD mr_f0 m = 0 := mr_nI_cl (mr_f0_z (by omega)) (by omega)
theorem mr_f0_q : mx_nQ mr_f0 = 0 := mr_nI_cl (mr_f0_z (by omega)) (by omega)
theorem mt_F_nw {X : Nat → Prop} {G : mz_G} {O : Nat → Nat} {sz k N v : Nat} : mt_F X G (mz_nw G sz k N) O (mz_u1 O sz v) sz (sz + 1) :=
  ⟨by omega, fun q hq => ⟨mz_u1_o _ _ (by omega), fun _ => ⟨mz_u1_o _ _ (by omega), mz_u1_o _ _ (by omega), mz_u1_o _ _ (by omega), mz_u1_o _ _ (by omega), mz_u1_o _ _ (by omega)⟩⟩⟩
theorem mt_F_sr {G : mz_G} {O : Nat → Nat} {sz β j : Nat} {v : Option Nat} (hO : O β = β) : mt_F (fun q => q = β) G (mz_sr G β j v) O O sz sz :=
  ⟨Nat.le_refl _, fun q _ => ⟨rfl, fun hX => ⟨rfl, rfl, rfl, by funext i; exact mz_u2_a _ _ _ _ (fun z => hX (by rw [z]; exact hO)), rfl⟩⟩⟩
/-- what is new has no part in what was -/
theorem mt_F.nx {X Y : Nat → Prop} {G G' G'' : mz_G} {O O' O'' : Nat → Nat} {sz sz' sz'' : Nat} (h : mt_F X G G' O O' sz sz') (h' : mt_F Y G' G'' O' O'' sz' sz'') (hXY : ∀ q, q < sz → ¬ X (O q) → ¬ Y (O q)) : mt_F X G G'' O O'' sz sz'' := by
  refine ⟨Nat.le_trans h.1 h'.1, fun q hq => ?_⟩
  have hq' := Nat.lt_of_lt_of_le hq h.1
  obtain ⟨a1, a2⟩ := h.2 q hq
  obtain ⟨b1, b2⟩ := h'.2 q hq'
  refine ⟨b1.trans a1, fun h1 => ?_⟩
  obtain ⟨c1, c2, c3, c4, c5⟩ := a2 h1
  obtain ⟨d1, d2, d3, d4, d5⟩ := b2 (by rw [a1]; exact hXY q hq h1)
  exact ⟨d1.trans c1, d2.trans c2, d3.trans c3, d4.trans c4, d5.trans c5⟩
/-- owners lie below -/
def mt_W (O : Nat → Nat) (sz : Nat) : Prop := ∀ q, q < sz → O q < sz
theorem mt_W.nw {O : Nat → Nat} {sz : Nat} (h : mt_W O sz) {v : Nat} (hv : v ≤ sz) : mt_W (mz_u1 O sz v) (sz + 1) := fun q hq => by
  by_cases hs : q = sz
  · subst hs; rw [mz_u1_s]; omega
  · rw [mz_u1_o _ _ hs]; have := h q (by omega); omega
theorem ct_initW (l : Launch) (E : mz_E) {G : mz_G} {O : Nat → Nat} {sz t W lim : Nat} (hK : mz_K G t = 4) (ht : t < sz) (hOt : O t = t) (fr : Nat) (hW : W < 10) (hlim : lim < 10000) (hfr : fr < 1000) (h : Nat → Nat → Int32) : mz_M l E yX4_init cX4_init 4 none 3 1 (W * fr) [.ref t, .int (nI W), .int (nI lim), .int (nI fr)] G sz (fun v' G' sz' => v' = none ∧ sz + 1 = sz' ∧ ∃ O', mt_T G' O' sz' t W lim 0 (W * fr) h ∧ mt_F (fun q => q = t) G G' O O' sz sz' ∧ (mt_W O sz → mt_W O' sz')) := by
  refine (ct_init l E hK ht hOt fr hW hlim hfr h).wk (Nat.le_refl _) (Nat.le_refl _) (fun v G' sz' hp => ?_)
  obtain ⟨p1, p2, O', t1, hF⟩ := hp
  obtain ⟨a, ⟨q1, q6, q7, q8, q9, q10, q11⟩, b1, c1⟩ := t1
  rw [← p2] at q10 q11 hF
  rw [← p2]
  refine ⟨p1, rfl, mz_u1 O' sz t, ⟨a, ⟨q1, q6, q7, ?_, ?_, q10, q11⟩, b1, c1⟩, ⟨hF.1, fun q hq => ⟨?_, (hF.2 q hq).2⟩⟩, fun hw q hq => ?_⟩
  · by_cases ha : a = sz
    · rw [ha, mz_u1_s]
    · rw [mz_u1_o _ _ ha, q8]
  · rw [mz_u1_o _ _ (by omega), q9]
  · rw [mz_u1_o _ _ (by omega)]
    exact (hF.2 q hq).1
  · by_cases hs : q = sz
    · rw [hs, mz_u1_s]; omega
    · rw [mz_u1_o _ _ hs, (hF.2 q (by omega)).1]
      have := hw q (by omega)
      omega
section MRI
variable (l : Launch) (E : mz_E) {G : mz_G} {O : Nat → Nat} {sz : Nat}
theorem cb_init {β : Nat} (hK : mz_K G β = 0) (hβ : β < sz) (hO : O β = β) (hW : mt_W O sz) (b : Nat) (hb : b < 3) : mz_M l E yX0_init cX0_init 1 none 4 4 100 [.ref β] G sz (fun v' G' sz' => v' = none ∧ sz' = sz + 4 ∧ ∃ O', mr_B G' O' sz' β sz (sz + 2) mr_f0 b 0 0 ∧ mt_F (fun q => q = β) G G' O O' sz sz' ∧ mt_W O' sz') := by
  obtain ⟨f0, f1⟩ := mr_f0_b hb
  have z2 := mr_f0_z (i := 98 * b + 2) (by omega)
  have z3 := mr_f0_z (i := 98 * b + 3) (by omega)
  have z4 := mr_f0_z (i := 98 * b + 4) (by omega)
  have z17 := mr_f0_z (i := 98 * b + 17) (by omega)
  refine mz_start (by decide) (Nat.le_of_ble_eq_true rfl) ?_
  intro p e s m args below meth c hC hret hnm
  refine mz_sn_ok hC tk_X0_init pk_RX0 1 [] rfl (by (repeat' apply And.intro) <;> first | exact True.intro | assumption | (simp only [mz_cm1, mz_c0, mz_c1, mz_c2, mz_c3, mz_c4, mz_c5, mz_c6, mz_c7, mz_c8, mz_c10, mz_c17, mz_c20, mz_c28, mz_c58, mz_c63, mz_c98, mz_c294, mz_c526, mz_c532, mz_c540, mz_c999, mz_c1900, mz_c2403, mz_c29362, mz_c29363, mz_c29364, mz_c29390, mz_c29393, mz_c29394, mz_c29398, mz_c29399, mz_c29400, mz_c29401, nI_add, pk_mul, pk_m1, mz_pp, mz_pq]; done) | omega | (simp only [mz_cm1, mz_c0, mz_c1, mz_c2, mz_c3, mz_c4, mz_c5, mz_c6, mz_c7, mz_c8, mz_c10, mz_c17, mz_c20, mz_c28, mz_c58, mz_c63, mz_c98, mz_c294, mz_c526, mz_c532, mz_c540, mz_c999, mz_c1900, mz_c2403, mz_c29362, mz_c29363, mz_c29364, mz_c29390, mz_c29393, mz_c29394, mz_c29398, mz_c29399, mz_c29400, mz_c29401, nI_add, pk_mul, pk_m1, mz_pp, mz_pq]; congr 1; omega)) ?_
  try simp only [mz_c0, mz_cm1]
  refine mz_Vobj hC tk_X0_init rfl lk_RX0_3 im_java_lang_Object__init____V cd_objI (Nat.le_of_ble_eq_true rfl) (Nat.le_of_ble_eq_true rfl) ?_
  refine mz_sn_ok hC tk_X0_init pk_RX0 13 [] rfl (by (repeat' apply And.intro) <;> first | exact True.intro | assumption | (simp only [mz_cm1, mz_c0, mz_c1, mz_c2, mz_c3, mz_c4, mz_c5, mz_c6, mz_c7, mz_c8, mz_c10, mz_c17, mz_c20, mz_c28, mz_c58, mz_c63, mz_c98, mz_c294, mz_c526, mz_c532, mz_c540, mz_c999, mz_c1900, mz_c2403, mz_c29362, mz_c29363, mz_c29364, mz_c29390, mz_c29393, mz_c29394, mz_c29398, mz_c29399, mz_c29400, mz_c29401, nI_add, pk_mul, pk_m1, mz_pp, mz_pq]; done) | omega | (simp only [mz_cm1, mz_c0, mz_c1, mz_c2, mz_c3, mz_c4, mz_c5, mz_c6, mz_c7, mz_c8, mz_c10, mz_c17, mz_c20, mz_c28, mz_c58, mz_c63, mz_c98, mz_c294, mz_c526, mz_c532, mz_c540, mz_c999, mz_c1900, mz_c2403, mz_c29362, mz_c29363, mz_c29364, mz_c29390, mz_c29393, mz_c29394, mz_c29398, mz_c29399, mz_c29400, mz_c29401, nI_add, pk_mul, pk_m1, mz_pp, mz_pq]; congr 1; omega)) ?_
  try simp only [mz_c0, mz_cm1]
  obtain ⟨G1, hG1⟩ : ∃ G1, G1 = mz_si (mz_si (mz_si (mz_si G β 0 (mz_c 1)) β 1 (mz_c 1)) β 2 (nI 0)) β 3 (nI 0) := ⟨_, rfl⟩
  have hF1 : mt_F (fun q => q = β) G G1 O O sz sz := by rw [hG1]; exact (mt_F_si hO).tr ((mt_F_si hO).tr ((mt_F_si hO).tr (mt_F_si hO)))
  have g0 : mz_i G1 β 0 = nI 1 := by rw [hG1]; show mz_u2 (mz_u2 (mz_u2 (mz_u2 (mz_i G) β 0 _) β 1 _) β 2 _) β 3 _ β 0 = _; rw [mz_u2_j _ _ _ _ (by omega), mz_u2_j _ _ _ _ (by omega), mz_u2_j _ _ _ _ (by omega), mz_u2_s]; rfl
  have g1 : mz_i G1 β 1 = nI 1 := by rw [hG1]; show mz_u2 (mz_u2 (mz_u2 (mz_u2 (mz_i G) β 0 _) β 1 _) β 2 _) β 3 _ β 1 = _; rw [mz_u2_j _ _ _ _ (by omega), mz_u2_j _ _ _ _ (by omega), mz_u2_s]; rfl
  have g2 : mz_i G1 β 2 = nI 0 := by rw [hG1]; show mz_u2 (mz_u2 (mz_u2 (mz_u2 (mz_i G) β 0 _) β 1 _) β 2 _) β 3 _ β 2 = _; rw [mz_u2_j _ _ _ _ (by omega), mz_u2_s]
  have g3 : mz_i G1 β 3 = nI 0 := by rw [hG1]; show mz_u2 (mz_u2 (mz_u2 (mz_u2 (mz_i G) β 0 _) β 1 _) β 2 _) β 3 _ β 3 = _; rw [mz_u2_s]
  have hK1 : mz_K G1 β = 0 := by rw [hG1]; exact hK
  rw [← hG1]
  refine mz_Vnew4 hC tk_X0_init rfl ck_RX0_24 ⟨by simp only [mz_rm]; omega, by simp only [mz_rm]; omega⟩ ?_
  refine mz_sn_ok hC tk_X0_init pk_RX0 4 [] rfl (by (repeat' apply And.intro) <;> first | exact True.intro | assumption | (simp only [mz_cm1, mz_c0, mz_c1, mz_c2, mz_c3, mz_c4, mz_c5, mz_c6, mz_c7, mz_c8, mz_c10, mz_c17, mz_c20, mz_c28, mz_c58, mz_c63, mz_c98, mz_c294, mz_c526, mz_c532, mz_c540, mz_c999, mz_c1900, mz_c2403, mz_c29362, mz_c29363, mz_c29364, mz_c29390, mz_c29393, mz_c29394, mz_c29398, mz_c29399, mz_c29400, mz_c29401, nI_add, pk_mul, pk_m1, mz_pp, mz_pq]; done) | omega | (simp only [mz_cm1, mz_c0, mz_c1, mz_c2, mz_c3, mz_c4, mz_c5, mz_c6, mz_c7, mz_c8, mz_c10, mz_c17, mz_c20, mz_c28, mz_c58, mz_c63, mz_c98, mz_c294, mz_c526, mz_c532, mz_c540, mz_c999, mz_c1900, mz_c2403, mz_c29362, mz_c29363, mz_c29364, mz_c29390, mz_c29393, mz_c29394, mz_c29398, mz_c29399, mz_c29400, mz_c29401, nI_add, pk_mul, pk_m1, mz_pp, mz_pq]; congr 1; omega)) ?_
  try simp only [mz_c0, mz_cm1]
  have hF2 : mt_F (fun _ => False) G1 (mz_nw G1 sz 4 0) O (mz_u1 O sz sz) sz (sz + 1) := mt_F_nw
  have hW2 := hW.nw (v := sz) (Nat.le_refl _)
  refine mz_Vci hC tk_X0_init rfl md_X4_init lk_RX0_26 rfl (ct_initW l E (G := mz_nw G1 sz 4 0) (O := mz_u1 O sz sz) (sz := sz + 1) (t := sz) (W := 4) (lim := 20) (mz_nw_K G1 sz 4 0) (by omega) (mz_u1_s _ _ _) 20 (by omega) (by omega) (by omega) (mr_h mr_f0 (98 * b + 17) 4)) ⟨Nat.le_of_ble_eq_true rfl, Nat.le_of_ble_eq_true rfl⟩ ⟨by simp only [mz_rm]; omega, by simp only [mz_rm]; omega⟩ (Nat.le_of_ble_eq_true rfl) (fun v3 G3 sz3 hp3 => ?_)
  obtain ⟨rfl, hs3, O3, t3, hF3, hW3⟩ := hp3
  have hs3' : sz3 = sz + 2 := by omega
  rw [hs3'] at t3 hF3 hW3 ⊢
  obtain ⟨⟨a1, a2⟩, a3, -, a5, -⟩ := hF2.at hO hβ (fun z => z)
  obtain ⟨⟨b1, b2⟩, b3, -, b5, -⟩ := hF3.at a1 a2 (by omega)
  have hK3 : mz_K G3 β = 0 := by rw [b3, a3, hK1]
  refine mz_VputFr hC tk_X0_init hnm rfl fo_RX0_29 hK3 rfl rfl rfl (fun C T N z => by cases (show some (RX0, TX0, 6) = some (C, T, N) from z); exact fk_RX0_29) ?_
  have hF4 : mt_F (fun q => q = β) G3 (mz_sr G3 β 4 (some sz)) O3 O3 (sz + 2) (sz + 2) := mt_F_sr b1
  have t4 := t3.fr hF4 (by omega)
  refine mz_sn_ok hC tk_X0_init pk_RX0 1 [] rfl (by (repeat' apply And.intro) <;> first | exact True.intro | assumption | (simp only [mz_cm1, mz_c0, mz_c1, mz_c2, mz_c3, mz_c4, mz_c5, mz_c6, mz_c7, mz_c8, mz_c10, mz_c17, mz_c20, mz_c28, mz_c58, mz_c63, mz_c98, mz_c294, mz_c526, mz_c532, mz_c540, mz_c999, mz_c1900, mz_c2403, mz_c29362, mz_c29363, mz_c29364, mz_c29390, mz_c29393, mz_c29394, mz_c29398, mz_c29399, mz_c29400, mz_c29401, nI_add, pk_mul, pk_m1, mz_pp, mz_pq]; done) | omega | (simp only [mz_cm1, mz_c0, mz_c1, mz_c2, mz_c3, mz_c4, mz_c5, mz_c6, mz_c7, mz_c8, mz_c10, mz_c17, mz_c20, mz_c28, mz_c58, mz_c63, mz_c98, mz_c294, mz_c526, mz_c532, mz_c540, mz_c999, mz_c1900, mz_c2403, mz_c29362, mz_c29363, mz_c29364, mz_c29390, mz_c29393, mz_c29394, mz_c29398, mz_c29399, mz_c29400, mz_c29401, nI_add, pk_mul, pk_m1, mz_pp, mz_pq]; congr 1; omega)) ?_
  try simp only [mz_c0, mz_cm1]
  obtain ⟨G4, hG4⟩ : ∃ G4, G4 = mz_sr G3 β 4 (some sz) := ⟨_, rfl⟩
  have hK4 : mz_K G4 β = 0 := by rw [hG4]; exact hK3
  have i4 : mz_i G4 β = mz_i G1 β := by rw [hG4]; show mz_i G3 β = _; rw [b5, a5]
  have r4 : mz_r G4 β 4 = some sz := by rw [hG4]; show mz_u2 (mz_r G3) β 4 _ β 4 = _; rw [mz_u2_s]
  rw [← hG4] at hF4 t4 ⊢
  refine mz_Vnew4 hC tk_X0_init rfl ck_RX0_24 ⟨by simp only [mz_rm]; omega, by simp only [mz_rm]; omega⟩ ?_
  refine mz_sn_ok hC tk_X0_init pk_RX0 4 [] rfl (by (repeat' apply And.intro) <;> first | exact True.intro | assumption | (simp only [mz_cm1, mz_c0, mz_c1, mz_c2, mz_c3, mz_c4, mz_c5, mz_c6, mz_c7, mz_c8, mz_c10, mz_c17, mz_c20, mz_c28, mz_c58, mz_c63, mz_c98, mz_c294, mz_c526, mz_c532, mz_c540, mz_c999, mz_c1900, mz_c2403, mz_c29362, mz_c29363, mz_c29364, mz_c29390, mz_c29393, mz_c29394, mz_c29398, mz_c29399, mz_c29400, mz_c29401, nI_add, pk_mul, pk_m1, mz_pp, mz_pq]; done) | omega | (simp only [mz_cm1, mz_c0, mz_c1, mz_c2, mz_c3, mz_c4, mz_c5, mz_c6, mz_c7, mz_c8, mz_c10, mz_c17, mz_c20, mz_c28, mz_c58, mz_c63, mz_c98, mz_c294, mz_c526, mz_c532, mz_c540, mz_c999, mz_c1900, mz_c2403, mz_c29362, mz_c29363, mz_c29364, mz_c29390, mz_c29393, mz_c29394, mz_c29398, mz_c29399, mz_c29400, mz_c29401, nI_add, pk_mul, pk_m1, mz_pp, mz_pq]; congr 1; omega)) ?_
  try simp only [mz_c0, mz_cm1]
  have hF5 : mt_F (fun _ => False) G4 (mz_nw G4 (sz + 2) 4 0) O3 (mz_u1 O3 (sz + 2) (sz + 2)) (sz + 2) (sz + 2 + 1) := mt_F_nw
  refine mz_Vci hC tk_X0_init rfl md_X4_init lk_RX0_26 rfl (ct_initW l E (G := mz_nw G4 (sz + 2) 4 0) (O := mz_u1 O3 (sz + 2) (sz + 2)) (sz := sz + 2 + 1) (t := sz + 2) (W := 2) (lim := 6) (mz_nw_K G4 (sz + 2) 4 0) (by omega) (mz_u1_s _ _ _) 6 (by omega) (by omega) (by omega) (mr_h mr_f0 (98 * b + 4) 2)) ⟨Nat.le_of_ble_eq_true rfl, Nat.le_of_ble_eq_true rfl⟩ ⟨by simp only [mz_rm]; omega, by simp only [mz_rm]; omega⟩ (Nat.le_of_ble_eq_true rfl) (fun v6 G6 sz6 hp6 => ?_)
  obtain ⟨rfl, hs6, O6, t6, hF6, hW6⟩ := hp6
  have hs6' : sz6 = sz + 4 := by omega
  rw [hs6'] at t6 hF6 hW6 ⊢
  have t5 := (t4.fr hF5 (fun z => z)).fr hF6 (by omega)
  obtain ⟨⟨c1, c2⟩, c3, -, c5, c6⟩ := hF5.at b1 b2 (fun z => z)
  obtain ⟨⟨d1, d2⟩, d3, -, d5, d6⟩ := hF6.at c1 c2 (by omega)
  have hK6 : mz_K G6 β = 0 := by rw [d3, c3, hK4]
  refine mz_VputFr hC tk_X0_init hnm rfl fo_RX0_33 hK6 rfl rfl rfl (fun C T N z => by cases (show some (RX0, TX0, 6) = some (C, T, N) from z); exact fk_RX0_33) ?_
  have hF7 : mt_F (fun q => q = β) G6 (mz_sr G6 β 5 (some (sz + 2))) O6 O6 (sz + 4) (sz + 4) := mt_F_sr d1
  refine mz_Vreturn hC tk_X0_init rfl hret (by omega) (by omega) ?_
  have hW3' := hW3 hW2
  have hW6' := hW6 (hW3'.nw (v := sz + 2) (Nat.le_refl _))
  have i7 : mz_i (mz_sr G6 β 5 (some (sz + 2))) β = mz_i G1 β := by show mz_i G6 β = _; rw [d5, c5, i4]
  refine ⟨rfl, rfl, O6, ⟨⟨⟨⟨hK6, d1, by omega⟩, by rw [i7, g0, f0], by rw [i7, g1, f1], by rw [i7, g2, z2], by rw [i7, g3, z3]⟩, ?_, ?_, by omega⟩, ⟨t5.fr hF7 (by omega), t6.fr hF7 (by omega)⟩, z17, z4⟩, ?_, hW6'⟩
  · show mz_u2 (mz_r G6) β 5 _ β 4 = _
    rw [mz_u2_j _ _ _ _ (by omega), d6, c6, r4]
  · show mz_u2 (mz_r G6) β 5 _ β 5 = _
    rw [mz_u2_s]
  · refine (((hF1.nx hF2 (fun q _ _ z => z)).nx hF3 (fun q hq _ => ?_)).tr hF4 |>.nx hF5 (fun q _ _ z => z) |>.nx hF6 (fun q hq _ => ?_)).tr hF7
    · have := hW q hq; omega
    · have := hW q hq; omega
theorem cc_init {γ : Nat} (hK : mz_K G γ = 1) (hγ : γ < sz) (hO : O γ = γ) (hW : mt_W O sz) (m0 b : Nat) : mz_M l E yX1_init cX1_init 1 none 4 2 84 [.ref γ] G sz (fun v' G' sz' => v' = none ∧ sz' = sz + 2 ∧ ∃ O', mr_C G' O' sz' γ sz mr_f0 m0 b 0 80 ∧ mt_F (fun q => q = γ) G G' O O' sz sz' ∧ mt_W O' sz') := by
  have hCA : 526 ≤ mx_CA m0 b := by unfold mx_CA; omega
  have z0 := mr_f0_z (i := mx_CA m0 b) (by omega)
  have z1 := mr_f0_z (i := mx_CA m0 b + 1) (by omega)
  have z2 := mr_f0_z (i := mx_CA m0 b + 2) (by omega)
  refine mz_start (by decide) (Nat.le_of_ble_eq_true rfl) ?_
  intro p e s m args below meth c hC hret hnm
  refine mz_sn_ok hC tk_X1_init pk_RX1 1 [] rfl (by (repeat' apply And.intro) <;> first | exact True.intro | assumption | (simp only [mz_cm1, mz_c0, mz_c1, mz_c2, mz_c3, mz_c4, mz_c5, mz_c6, mz_c7, mz_c8, mz_c10, mz_c17, mz_c20, mz_c28, mz_c58, mz_c63, mz_c98, mz_c294, mz_c526, mz_c532, mz_c540, mz_c999, mz_c1900, mz_c2403, mz_c29362, mz_c29363, mz_c29364, mz_c29390, mz_c29393, mz_c29394, mz_c29398, mz_c29399, mz_c29400, mz_c29401, nI_add, pk_mul, pk_m1, mz_pp, mz_pq]; done) | omega | (simp only [mz_cm1, mz_c0, mz_c1, mz_c2, mz_c3, mz_c4, mz_c5, mz_c6, mz_c7, mz_c8, mz_c10, mz_c17, mz_c20, mz_c28, mz_c58, mz_c63, mz_c98, mz_c294, mz_c526, mz_c532, mz_c540, mz_c999, mz_c1900, mz_c2403, mz_c29362, mz_c29363, mz_c29364, mz_c29390, mz_c29393, mz_c29394, mz_c29398, mz_c29399, mz_c29400, mz_c29401, nI_add, pk_mul, pk_m1, mz_pp, mz_pq]; congr 1; omega)) ?_
  try simp only [mz_c0, mz_cm1]
  refine mz_Vobj hC tk_X1_init rfl lk_RX1_3 im_java_lang_Object__init____V cd_objI (Nat.le_of_ble_eq_true rfl) (Nat.le_of_ble_eq_true rfl) ?_
  refine mz_sn_ok hC tk_X1_init pk_RX1 7 [] rfl (by (repeat' apply And.intro) <;> first | exact True.intro | assumption | (simp only [mz_cm1, mz_c0, mz_c1, mz_c2, mz_c3, mz_c4, mz_c5, mz_c6, mz_c7, mz_c8, mz_c10, mz_c17, mz_c20, mz_c28, mz_c58, mz_c63, mz_c98, mz_c294, mz_c526, mz_c532, mz_c540, mz_c999, mz_c1900, mz_c2403, mz_c29362, mz_c29363, mz_c29364, mz_c29390, mz_c29393, mz_c29394, mz_c29398, mz_c29399, mz_c29400, mz_c29401, nI_add, pk_mul, pk_m1, mz_pp, mz_pq]; done) | omega | (simp only [mz_cm1, mz_c0, mz_c1, mz_c2, mz_c3, mz_c4, mz_c5, mz_c6, mz_c7, mz_c8, mz_c10, mz_c17, mz_c20, mz_c28, mz_c58, mz_c63, mz_c98, mz_c294, mz_c526, mz_c532, mz_c540, mz_c999, mz_c1900, mz_c2403, mz_c29362, mz_c29363, mz_c29364, mz_c29390, mz_c29393, mz_c29394, mz_c29398, mz_c29399, mz_c29400, mz_c29401, nI_add, pk_mul, pk_m1, mz_pp, mz_pq]; congr 1; omega)) ?_
  try simp only [mz_c0, mz_cm1]
  obtain ⟨G1, hG1⟩ : ∃ G1, G1 = mz_si (mz_si G γ 0 (nI 0)) γ 1 (nI 0) := ⟨_, rfl⟩
  have hF1 : mt_F (fun q => q = γ) G G1 O O sz sz := by rw [hG1]; exact (mt_F_si hO).tr (mt_F_si hO)
  have g0 : mz_i G1 γ 0 = nI 0 := by rw [hG1]; show mz_u2 (mz_u2 (mz_i G) γ 0 _) γ 1 _ γ 0 = _; rw [mz_u2_j _ _ _ _ (by omega), mz_u2_s]
  have g1 : mz_i G1 γ 1 = nI 0 := by rw [hG1]; show mz_u2 (mz_u2 (mz_i G) γ 0 _) γ 1 _ γ 1 = _; rw [mz_u2_s]
  have hK1 : mz_K G1 γ = 1 := by rw [hG1]; exact hK
  rw [← hG1]
  refine mz_Vnew4 hC tk_X1_init rfl ck_RX1_18 ⟨by simp only [mz_rm]; omega, by simp only [mz_rm]; omega⟩ ?_
  refine mz_sn_ok hC tk_X1_init pk_RX1 4 [] rfl (by (repeat' apply And.intro) <;> first | exact True.intro | assumption | (simp only [mz_cm1, mz_c0, mz_c1, mz_c2, mz_c3, mz_c4, mz_c5, mz_c6, mz_c7, mz_c8, mz_c10, mz_c17, mz_c20, mz_c28, mz_c58, mz_c63, mz_c98, mz_c294, mz_c526, mz_c532, mz_c540, mz_c999, mz_c1900, mz_c2403, mz_c29362, mz_c29363, mz_c29364, mz_c29390, mz_c29393, mz_c29394, mz_c29398, mz_c29399, mz_c29400, mz_c29401, nI_add, pk_mul, pk_m1, mz_pp, mz_pq]; done) | omega | (simp only [mz_cm1, mz_c0, mz_c1, mz_c2, mz_c3, mz_c4, mz_c5, mz_c6, mz_c7, mz_c8, mz_c10, mz_c17, mz_c20, mz_c28, mz_c58, mz_c63, mz_c98, mz_c294, mz_c526, mz_c532, mz_c540, mz_c999, mz_c1900, mz_c2403, mz_c29362, mz_c29363, mz_c29364, mz_c29390, mz_c29393, mz_c29394, mz_c29398, mz_c29399, mz_c29400, mz_c29401, nI_add, pk_mul, pk_m1, mz_pp, mz_pq]; congr 1; omega)) ?_
  try simp only [mz_c0, mz_cm1]
  have hF2 : mt_F (fun _ => False) G1 (mz_nw G1 sz 4 0) O (mz_u1 O sz sz) sz (sz + 1) := mt_F_nw
  have hW2 := hW.nw (v := sz) (Nat.le_refl _)
  refine mz_Vci hC tk_X1_init rfl md_X4_init lk_RX1_20 rfl (ct_initW l E (G := mz_nw G1 sz 4 0) (O := mz_u1 O sz sz) (sz := sz + 1) (t := sz) (W := 4) (lim := 532) (mz_nw_K G1 sz 4 0) (by omega) (mz_u1_s _ _ _) 20 (by omega) (by omega) (by omega) (mr_h mr_f0 (mx_CA m0 b + 2) 4)) ⟨Nat.le_of_ble_eq_true rfl, Nat.le_of_ble_eq_true rfl⟩ ⟨by simp only [mz_rm]; omega, by simp only [mz_rm]; omega⟩ (Nat.le_of_ble_eq_true rfl) (fun v3 G3 sz3 hp3 => ?_)
  obtain ⟨rfl, hs3, O3, t3, hF3, hW3⟩ := hp3
  have hs3' : sz3 = sz + 2 := by omega
  rw [hs3'] at t3 hF3 hW3 ⊢
  obtain ⟨⟨a1, a2⟩, a3, -, a5, -⟩ := hF2.at hO hγ (fun z => z)
  obtain ⟨⟨b1, b2⟩, b3, -, b5, -⟩ := hF3.at a1 a2 (by omega)
  have hK3 : mz_K G3 γ = 1 := by rw [b3, a3, hK1]
  refine mz_VputFr hC tk_X1_init hnm rfl fo_RX1_23 hK3 rfl rfl rfl (fun C T N z => by cases (show some (RX1, TX1, 3) = some (C, T, N) from z); exact fk_RX1_23) ?_
  have hF4 : mt_F (fun q => q = γ) G3 (mz_sr G3 γ 2 (some sz)) O3 O3 (sz + 2) (sz + 2) := mt_F_sr b1
  refine mz_Vreturn hC tk_X1_init rfl hret (by omega) (by omega) ?_
  have i4 : mz_i (mz_sr G3 γ 2 (some sz)) γ = mz_i G1 γ := by show mz_i G3 γ = _; rw [b5, a5]
  refine ⟨rfl, rfl, O3, ⟨⟨⟨⟨⟨hK3, b1, by omega⟩, by rw [i4, g0, z0], by rw [i4, g1, z1]⟩, ?_⟩, t3.fr hF4 (by omega)⟩, z2⟩, ?_, hW3 hW2⟩
  · show mz_u2 (mz_r G3) γ 2 _ γ 2 = _
    rw [mz_u2_s]
  · refine ((hF1.nx hF2 (fun q _ _ z => z)).nx hF3 (fun q hq _ => ?_)).tr hF4
    have := hW q hq; omega
/-- the rooms at the start -/
def mr_L0 : Nat → Nat := fun _ => 80
theorem ck_loop {p : Program} {e : Env} {s : State} {m : MethodId} {args : Array Value} {below : List Frame} {meth : Method} {c : Code} (hC : mz_C E p s m args meth c cX2_init yX2_init.cls 2) (hret : meth.sig.returnType = none) {κ : Nat} (hκ : κ + 1 = sz) (hW : mt_W O sz) (m0 : Nat) (hm : m0 < 4) : ∀ (d b : Nat) (G7 : mz_G) (O7 : Nat → Nat), b + d = 3 → ((((mz_K G7 κ = 2 ∧ O7 κ = κ ∧ κ < sz + 3 + 3 * b) ∧ mz_i G7 κ 0 = nI 0 ∧ (mz_r G7 κ 1 = some sz ∧ mz_r G7 κ 2 = some (sz + 1))) ∧ ((mz_K G7 sz = 9 ∧ O7 sz = sz ∧ mz_n G7 sz = 3 ∧ sz < sz + 3 + 3 * b) ∧ ∀ c, c < b → mz_r G7 sz c = some (κ + 4 + 3 * c))) ∧ mt_T G7 O7 (sz + 3 + 3 * b) (sz + 1) 7 8 0 56 (mr_h mr_f0 (294 + 58 * m0 + 1) 7) ∧ (∀ c, c < b → mr_C G7 O7 (sz + 3 + 3 * b) (κ + 4 + 3 * c) (κ + 4 + 3 * c + 1) mr_f0 m0 c 0 80)) → mt_W O7 (sz + 3 + 3 * b) → mt_F (fun q => q = κ) G G7 O O7 sz (sz + 3 + 3 * b) → mz_V E p l e (mz_rm 5 12 400) s m args below meth c 2 (3 + 3 * b) (3 + 4 + 56 + 87 * b) (mz_Z E below args s 12 400 (fun v' G' sz' => v' = none ∧ sz' = sz + 12 ∧ ∃ O', mr_K G' O' sz' κ mr_f0 m0 mr_L0 ∧ mt_F (fun q => q = κ) G G' O O' sz sz' ∧ mt_W O' sz')) (G7) (sz + 3 + 3 * b) (36) [some (.ref κ), some (.int (nI b))] [] := by
  have z0 := mr_f0_z (i := 294 + 58 * m0) (by omega)
  have z1 := mr_f0_z (i := 294 + 58 * m0 + 1) (by omega)
  intro d
  induction d with
  | zero =>
    intro b G7 O7 hb hA hW7 hF7
    rw [show b = 3 by omega] at hA hW7 hF7 ⊢
    obtain ⟨⟨⟨hk, hi, hr⟩, hka, hra⟩, htd, hcp⟩ := hA
    refine mz_sn_ok hC tk_X2_init pk_RX2 2 [] rfl (by (repeat' apply And.intro) <;> first | exact True.intro | assumption | (simp only [mz_cm1, mz_c0, mz_c1, mz_c2, mz_c3, mz_c4, mz_c5, mz_c6, mz_c7, mz_c8, mz_c10, mz_c17, mz_c20, mz_c28, mz_c58, mz_c63, mz_c98, mz_c294, mz_c526, mz_c532, mz_c540, mz_c999, mz_c1900, mz_c2403, mz_c29362, mz_c29363, mz_c29364, mz_c29390, mz_c29393, mz_c29394, mz_c29398, mz_c29399, mz_c29400, mz_c29401, nI_add, pk_mul, pk_m1, mz_pp, mz_pq]; done) | omega | (simp only [mz_cm1, mz_c0, mz_c1, mz_c2, mz_c3, mz_c4, mz_c5, mz_c6, mz_c7, mz_c8, mz_c10, mz_c17, mz_c20, mz_c28, mz_c58, mz_c63, mz_c98, mz_c294, mz_c526, mz_c532, mz_c540, mz_c999, mz_c1900, mz_c2403, mz_c29362, mz_c29363, mz_c29364, mz_c29390, mz_c29393, mz_c29394, mz_c29398, mz_c29399, mz_c29400, mz_c29401, nI_add, pk_mul, pk_m1, mz_pp, mz_pq]; congr 1; omega)) ?_
    try simp only [mz_c0, mz_cm1]
    refine mz_br_t hC tk_X2_init rfl ((by show nI 3 ≤ nI 3; decide)) ?_
    refine mz_Vreturn hC tk_X2_init rfl hret (by omega) (by omega) ?_
    refine ⟨rfl, by omega, O7, ⟨⟨⟨hk, by rw [hi, z0], by rw [hκ]; exact hr.1, by rw [show κ + 2 = sz + 1 by omega]; exact hr.2⟩, by rw [hκ]; exact hka, by rw [hκ]; exact hra⟩, ⟨by rw [mr_f0_d, show κ + 2 = sz + 1 by omega]; exact htd, by rw [mr_f0_d]; exact z1⟩, fun c hc => ⟨by rw [mr_f0_c]; exact hcp c hc, Or.inl rfl⟩⟩, hF7, hW7⟩
  | succ d ih =>
    intro b G7 O7 hb hA hW7 hF7
    obtain ⟨⟨⟨⟨hk1, hk2, hk3⟩, hi, hr1, hr2⟩, ⟨hka1, hka2, hka3, hka4⟩, hra⟩, htd, hcp⟩ := hA
    obtain ⟨S, hS⟩ : ∃ S, S = sz + 3 + 3 * b := ⟨_, rfl⟩
    have eS : κ + 4 + 3 * b = S := by omega
    rw [← hS] at hk3 hka4 htd hcp hW7 hF7 ⊢
    refine mz_sn_ok hC tk_X2_init pk_RX2 2 [] rfl (by (repeat' apply And.intro) <;> first | exact True.intro | assumption | (simp only [mz_cm1, mz_c0, mz_c1, mz_c2, mz_c3, mz_c4, mz_c5, mz_c6, mz_c7, mz_c8, mz_c10, mz_c17, mz_c20, mz_c28, mz_c58, mz_c63, mz_c98, mz_c294, mz_c526, mz_c532, mz_c540, mz_c999, mz_c1900, mz_c2403, mz_c29362, mz_c29363, mz_c29364, mz_c29390, mz_c29393, mz_c29394, mz_c29398, mz_c29399, mz_c29400, mz_c29401, nI_add, pk_mul, pk_m1, mz_pp, mz_pq]; done) | omega | (simp only [mz_cm1, mz_c0, mz_c1, mz_c2, mz_c3, mz_c4, mz_c5, mz_c6, mz_c7, mz_c8, mz_c10, mz_c17, mz_c20, mz_c28, mz_c58, mz_c63, mz_c98, mz_c294, mz_c526, mz_c532, mz_c540, mz_c999, mz_c1900, mz_c2403, mz_c29362, mz_c29363, mz_c29364, mz_c29390, mz_c29393, mz_c29394, mz_c29398, mz_c29399, mz_c29400, mz_c29401, nI_add, pk_mul, pk_m1, mz_pp, mz_pq]; congr 1; omega)) ?_
    try simp only [mz_c0, mz_cm1]
    refine mz_br_f hC tk_X2_init rfl ((by show ¬ nI 3 ≤ nI b; exact nI_ge (by omega) (by omega))) ?_
    refine mz_sn_ok hC tk_X2_init pk_RX2 3 [sz] rfl (by (repeat' apply And.intro) <;> first | exact True.intro | assumption | (simp only [mz_cm1, mz_c0, mz_c1, mz_c2, mz_c3, mz_c4, mz_c5, mz_c6, mz_c7, mz_c8, mz_c10, mz_c17, mz_c20, mz_c28, mz_c58, mz_c63, mz_c98, mz_c294, mz_c526, mz_c532, mz_c540, mz_c999, mz_c1900, mz_c2403, mz_c29362, mz_c29363, mz_c29364, mz_c29390, mz_c29393, mz_c29394, mz_c29398, mz_c29399, mz_c29400, mz_c29401, nI_add, pk_mul, pk_m1, mz_pp, mz_pq]; done) | omega | (simp only [mz_cm1, mz_c0, mz_c1, mz_c2, mz_c3, mz_c4, mz_c5, mz_c6, mz_c7, mz_c8, mz_c10, mz_c17, mz_c20, mz_c28, mz_c58, mz_c63, mz_c98, mz_c294, mz_c526, mz_c532, mz_c540, mz_c999, mz_c1900, mz_c2403, mz_c29362, mz_c29363, mz_c29364, mz_c29390, mz_c29393, mz_c29394, mz_c29398, mz_c29399, mz_c29400, mz_c29401, nI_add, pk_mul, pk_m1, mz_pp, mz_pq]; congr 1; omega)) ?_
    try simp only [mz_c0, mz_cm1]
    refine mz_Vnew1 hC tk_X2_init rfl ck_RX2_15 ⟨by simp only [mz_rm]; omega, by simp only [mz_rm]; omega⟩ ?_
    have hF8 : mt_F (fun _ => False) G7 (mz_nw G7 S 1 0) O7 (mz_u1 O7 S S) S (S + 1) := mt_F_nw
    have hW8 := hW7.nw (v := S) (Nat.le_refl _)
    have kS : mz_K (mz_nw G7 S 1 0) S = 1 := mz_nw_K G7 S 1 0
    obtain ⟨G8, hG8⟩ : ∃ G8, G8 = mz_nw G7 S 1 0 := ⟨_, rfl⟩
    obtain ⟨O8, hO8⟩ : ∃ O8, O8 = mz_u1 O7 S S := ⟨_, rfl⟩
    have oS : O8 S = S := by rw [hO8]; exact mz_u1_s _ _ _
    rw [← hG8, ← hO8] at hF8
    rw [← hO8] at hW8
    rw [← hG8] at kS ⊢
    refine mz_sn_ok hC tk_X2_init pk_RX2 1 [] rfl (by (repeat' apply And.intro) <;> first | exact True.intro | assumption | (simp only [mz_cm1, mz_c0, mz_c1, mz_c2, mz_c3, mz_c4, mz_c5, mz_c6, mz_c7, mz_c8, mz_c10, mz_c17, mz_c20, mz_c28, mz_c58, mz_c63, mz_c98, mz_c294, mz_c526, mz_c532, mz_c540, mz_c999, mz_c1900, mz_c2403, mz_c29362, mz_c29363, mz_c29364, mz_c29390, mz_c29393, mz_c29394, mz_c29398, mz_c29399, mz_c29400, mz_c29401, nI_add, pk_mul, pk_m1, mz_pp, mz_pq]; done) | omega | (simp only [mz_cm1, mz_c0, mz_c1, mz_c2, mz_c3, mz_c4, mz_c5, mz_c6, mz_c7, mz_c8, mz_c10, mz_c17, mz_c20, mz_c28, mz_c58, mz_c63, mz_c98, mz_c294, mz_c526, mz_c532, mz_c540, mz_c999, mz_c1900, mz_c2403, mz_c29362, mz_c29363, mz_c29364, mz_c29390, mz_c29393, mz_c29394, mz_c29398, mz_c29399, mz_c29400, mz_c29401, nI_add, pk_mul, pk_m1, mz_pp, mz_pq]; congr 1; omega)) ?_
    try simp only [mz_c0, mz_cm1]
    refine mz_Vcin hC tk_X2_init rfl md_X1_init (List.mem_of_getElem? (i := 1) rfl) rfl (cc_init l E kS (by omega) oS hW8 m0 b) ⟨Nat.le_of_ble_eq_true rfl, Nat.le_of_ble_eq_true rfl⟩ ⟨by simp only [mz_rm]; omega, by simp only [mz_rm]; omega⟩ (Nat.le_of_ble_eq_true rfl) (fun v9 G9 sz9 hp9 => ?_)
    obtain ⟨rfl, hs9, O9, hY9, hF9, hW9⟩ := hp9
    rw [hs9] at hY9 hF9 hW9 ⊢
    obtain ⟨⟨d1, d2⟩, d3, -, d5, d6⟩ := hF8.at hk2 (by omega) (fun z => z)
    obtain ⟨⟨e1, e2⟩, e3, -, e5, e6⟩ := hF9.at d1 d2 (by omega)
    obtain ⟨⟨d1a, d2a⟩, d3a, d4a, d5a, d6a⟩ := hF8.at hka2 (by omega) (fun z => z)
    obtain ⟨⟨e1a, e2a⟩, e3a, e4a, e5a, e6a⟩ := hF9.at d1a d2a (by omega)
    have k9 : mz_K G9 sz = 9 := by rw [e3a, d3a, hka1]
    have n9 : mz_n G9 sz = 3 := by rw [e4a, d4a, hka3]
    have kS9 : mz_K G9 S = 1 := hY9.1.1.1.1.1
    have x1 : mz_K G9 S < 4 := by omega
    have x2 : mz_K G9 sz = 8 + mz_K G9 S := by omega
    refine mz_sn_ok hC tk_X2_init pk_RX2 3 [b] rfl (by (repeat' apply And.intro) <;> first | exact True.intro | assumption | (simp only [mz_cm1, mz_c0, mz_c1, mz_c2, mz_c3, mz_c4, mz_c5, mz_c6, mz_c7, mz_c8, mz_c10, mz_c17, mz_c20, mz_c28, mz_c58, mz_c63, mz_c98, mz_c294, mz_c526, mz_c532, mz_c540, mz_c999, mz_c1900, mz_c2403, mz_c29362, mz_c29363, mz_c29364, mz_c29390, mz_c29393, mz_c29394, mz_c29398, mz_c29399, mz_c29400, mz_c29401, nI_add, pk_mul, pk_m1, mz_pp, mz_pq]; done) | omega | (simp only [mz_cm1, mz_c0, mz_c1, mz_c2, mz_c3, mz_c4, mz_c5, mz_c6, mz_c7, mz_c8, mz_c10, mz_c17, mz_c20, mz_c28, mz_c58, mz_c63, mz_c98, mz_c294, mz_c526, mz_c532, mz_c540, mz_c999, mz_c1900, mz_c2403, mz_c29362, mz_c29363, mz_c29364, mz_c29390, mz_c29393, mz_c29394, mz_c29398, mz_c29399, mz_c29400, mz_c29401, nI_add, pk_mul, pk_m1, mz_pp, mz_pq]; congr 1; omega)) ?_
    try simp only [mz_c0, mz_cm1]
    have hF10 : mt_F (fun q => q = sz) G9 (mz_sr G9 sz b (some S)) O9 O9 (S + 1 + 2) (S + 1 + 2) := mt_F_sr e1a
    obtain ⟨G10, hG10⟩ : ∃ G10, G10 = mz_sr G9 sz b (some S) := ⟨_, rfl⟩
    have r10 : ∀ c, mz_r G10 sz c = if c = b then some S else mz_r G9 sz c := fun c => by rw [hG10]; show mz_u2 (mz_r G9) sz b _ sz c = _; simp only [mz_u2, if_true]
    rw [← hG10] at hF10 ⊢
    obtain ⟨⟨f1, f2⟩, f3, -, f5, f6⟩ := hF10.at e1 e2 (by omega)
    refine mz_V.sub (lv' := [some (.ref κ), some (.int (nI (b + 1)))]) (by (repeat' apply And.intro) <;> first | with_reducible rfl | exact True.intro | (simp only [mz_cm1, mz_c0, mz_c1, mz_c2, mz_c3, mz_c4, mz_c5, mz_c6, mz_c7, mz_c8, mz_c10, mz_c17, mz_c20, mz_c28, mz_c58, mz_c63, mz_c98, mz_c294, mz_c526, mz_c532, mz_c540, mz_c999, mz_c1900, mz_c2403, mz_c29362, mz_c29363, mz_c29364, mz_c29390, mz_c29393, mz_c29394, mz_c29398, mz_c29399, mz_c29400, mz_c29401, nI_add, pk_mul, pk_m1, mz_pp, mz_pq]; done) | rfl) ?_
    have eS1 : S + 1 + 2 = sz + 3 + 3 * (b + 1) := by omega
    rw [eS1] at hF10 hY9 hF9 hW9 ⊢
    refine mz_V.widen (k' := 3 + 3 * (b + 1)) (n' := 3 + 4 + 56 + 87 * (b + 1)) (by omega) (by omega) ?_
    refine ih (b + 1) G10 O9 (by omega) ⟨⟨⟨⟨?_, f1, by omega⟩, ?_, ?_, ?_⟩, ⟨?_, e1a, ?_, by omega⟩, fun c hc => ?_⟩, ?_, fun c hc => ?_⟩ hW9 ?_
    · rw [f3, e3, d3, hk1]
    · rw [f5, e5, d5, hi]
    · rw [f6, e6, d6, hr1]
    · rw [f6, e6, d6, hr2]
    · rw [hG10]; exact k9
    · rw [hG10]; exact n9
    · rw [r10]
      by_cases hcb : c = b
      · rw [if_pos hcb, hcb, eS]
      · rw [if_neg hcb, e6a, d6a]
        exact hra c (by omega)
    · exact ((htd.fr hF8 (fun z => z)).fr hF9 (by omega)).fr hF10 (by omega)
    · by_cases hcb : c = b
      · subst hcb
        rw [eS]
        exact hY9.fr hF10 (show ¬ S = sz by omega) (show ¬ S + 1 = sz by omega)
      · have y8 := (hcp c (by omega)).fr hF8 (fun z => z) (fun z => z)
        have y9 := y8.fr hF9 (show ¬ κ + 4 + 3 * c = S by omega) (show ¬ κ + 4 + 3 * c + 1 = S by omega)
        exact y9.fr hF10 (show ¬ κ + 4 + 3 * c = sz by omega) (show ¬ κ + 4 + 3 * c + 1 = sz by omega)
    · refine ((hF7.nx hF8 (fun q _ _ z => z)).nx hF9 (fun q hq _ => ?_)).nx hF10 (fun q hq _ => ?_)
      · have := hW q hq; omega
      · have := hW q hq; omega
set_option maxHeartbeats 4000000 in
theorem ck_init {κ : Nat} (hK : mz_K G κ = 2) (hκ : κ + 1 = sz) (hO : O κ = κ) (hW : mt_W O sz) (m0 : Nat) (hm : m0 < 4) : mz_M l E yX2_init cX2_init 2 none 5 12 400 [.ref κ] G sz (fun v' G' sz' => v' = none ∧ sz' = sz + 12 ∧ ∃ O', mr_K G' O' sz' κ mr_f0 m0 mr_L0 ∧ mt_F (fun q => q = κ) G G' O O' sz sz' ∧ mt_W O' sz') := by
  have z0 := mr_f0_z (i := 294 + 58 * m0) (by omega)
  have z1 := mr_f0_z (i := 294 + 58 * m0 + 1) (by omega)
  refine mz_start (by decide) (Nat.le_of_ble_eq_true rfl) ?_
  intro p e s m args below meth c hC hret hnm
  refine mz_sn_ok hC tk_X2_init pk_RX2 1 [] rfl (by (repeat' apply And.intro) <;> first | exact True.intro | assumption | (simp only [mz_cm1, mz_c0, mz_c1, mz_c2, mz_c3, mz_c4, mz_c5, mz_c6, mz_c7, mz_c8, mz_c10, mz_c17, mz_c20, mz_c28, mz_c58, mz_c63, mz_c98, mz_c294, mz_c526, mz_c532, mz_c540, mz_c999, mz_c1900, mz_c2403, mz_c29362, mz_c29363, mz_c29364, mz_c29390, mz_c29393, mz_c29394, mz_c29398, mz_c29399, mz_c29400, mz_c29401, nI_add, pk_mul, pk_m1, mz_pp, mz_pq]; done) | omega | (simp only [mz_cm1, mz_c0, mz_c1, mz_c2, mz_c3, mz_c4, mz_c5, mz_c6, mz_c7, mz_c8, mz_c10, mz_c17, mz_c20, mz_c28, mz_c58, mz_c63, mz_c98, mz_c294, mz_c526, mz_c532, mz_c540, mz_c999, mz_c1900, mz_c2403, mz_c29362, mz_c29363, mz_c29364, mz_c29390, mz_c29393, mz_c29394, mz_c29398, mz_c29399, mz_c29400, mz_c29401, nI_add, pk_mul, pk_m1, mz_pp, mz_pq]; congr 1; omega)) ?_
  try simp only [mz_c0, mz_cm1]
  refine mz_Vobj hC tk_X2_init rfl lk_RX2_3 im_java_lang_Object__init____V cd_objI (Nat.le_of_ble_eq_true rfl) (Nat.le_of_ble_eq_true rfl) ?_
  refine mz_sn_ok hC tk_X2_init pk_RX2 5 [] rfl (by (repeat' apply And.intro) <;> first | exact True.intro | assumption | (simp only [mz_cm1, mz_c0, mz_c1, mz_c2, mz_c3, mz_c4, mz_c5, mz_c6, mz_c7, mz_c8, mz_c10, mz_c17, mz_c20, mz_c28, mz_c58, mz_c63, mz_c98, mz_c294, mz_c526, mz_c532, mz_c540, mz_c999, mz_c1900, mz_c2403, mz_c29362, mz_c29363, mz_c29364, mz_c29390, mz_c29393, mz_c29394, mz_c29398, mz_c29399, mz_c29400, mz_c29401, nI_add, pk_mul, pk_m1, mz_pp, mz_pq]; done) | omega | (simp only [mz_cm1, mz_c0, mz_c1, mz_c2, mz_c3, mz_c4, mz_c5, mz_c6, mz_c7, mz_c8, mz_c10, mz_c17, mz_c20, mz_c28, mz_c58, mz_c63, mz_c98, mz_c294, mz_c526, mz_c532, mz_c540, mz_c999, mz_c1900, mz_c2403, mz_c29362, mz_c29363, mz_c29364, mz_c29390, mz_c29393, mz_c29394, mz_c29398, mz_c29399, mz_c29400, mz_c29401, nI_add, pk_mul, pk_m1, mz_pp, mz_pq]; congr 1; omega)) ?_
  try simp only [mz_c0, mz_cm1]
  obtain ⟨G1, hG1⟩ : ∃ G1, G1 = mz_si G κ 0 (nI 0) := ⟨_, rfl⟩
  have hF1 : mt_F (fun q => q = κ) G G1 O O sz sz := by rw [hG1]; exact mt_F_si hO
  have g0 : mz_i G1 κ 0 = nI 0 := by rw [hG1]; show mz_u2 (mz_i G) κ 0 _ κ 0 = _; rw [mz_u2_s]
  have hK1 : mz_K G1 κ = 2 := by rw [hG1]; exact hK
  rw [← hG1]
  refine mz_Vnewa hC tk_X2_init rfl 9 2 RX1 (by omega) rfl ck_RX2_15 (List.mem_of_getElem? (i := 1) rfl) 3 rfl (by omega) ⟨by simp only [mz_rm]; omega, by simp only [mz_rm]; omega⟩ ?_
  have hF2 : mt_F (fun _ => False) G1 (mz_nw G1 sz 9 3) O (mz_u1 O sz sz) sz (sz + 1) := mt_F_nw
  have hW2 := hW.nw (v := sz) (Nat.le_refl _)
  obtain ⟨G2, hG2⟩ : ∃ G2, G2 = mz_nw G1 sz 9 3 := ⟨_, rfl⟩
  obtain ⟨O2, hO2⟩ : ∃ O2, O2 = mz_u1 O sz sz := ⟨_, rfl⟩
  have ka : mz_K G2 sz = 9 := by rw [hG2]; exact mz_nw_K G1 sz 9 3
  have na : mz_n G2 sz = 3 := by rw [hG2]; exact mz_nw_n G1 sz 9 3
  have oa : O2 sz = sz := by rw [hO2]; exact mz_u1_s _ _ _
  rw [← hG2, ← hO2] at hF2
  rw [← hO2] at hW2
  rw [← hG2]
  obtain ⟨⟨a1, a2⟩, a3, -, a5, -⟩ := hF2.at hO (by omega) (fun z => z)
  have hK2 : mz_K G2 κ = 2 := by rw [a3, hK1]
  refine mz_VputFr hC tk_X2_init hnm rfl fo_RX2_17 hK2 rfl rfl rfl (fun C T N z => by cases (show some (RX2, TX2, 3) = some (C, T, N) from z); exact fk_RX2_17) ?_
  have hF3 : mt_F (fun q => q = κ) G2 (mz_sr G2 κ 1 (some sz)) O2 O2 (sz + 1) (sz + 1) := mt_F_sr a1
  refine mz_sn_ok hC tk_X2_init pk_RX2 1 [] rfl (by (repeat' apply And.intro) <;> first | exact True.intro | assumption | (simp only [mz_cm1, mz_c0, mz_c1, mz_c2, mz_c3, mz_c4, mz_c5, mz_c6, mz_c7, mz_c8, mz_c10, mz_c17, mz_c20, mz_c28, mz_c58, mz_c63, mz_c98, mz_c294, mz_c526, mz_c532, mz_c540, mz_c999, mz_c1900, mz_c2403, mz_c29362, mz_c29363, mz_c29364, mz_c29390, mz_c29393, mz_c29394, mz_c29398, mz_c29399, mz_c29400, mz_c29401, nI_add, pk_mul, pk_m1, mz_pp, mz_pq]; done) | omega | (simp only [mz_cm1, mz_c0, mz_c1, mz_c2, mz_c3, mz_c4, mz_c5, mz_c6, mz_c7, mz_c8, mz_c10, mz_c17, mz_c20, mz_c28, mz_c58, mz_c63, mz_c98, mz_c294, mz_c526, mz_c532, mz_c540, mz_c999, mz_c1900, mz_c2403, mz_c29362, mz_c29363, mz_c29364, mz_c29390, mz_c29393, mz_c29394, mz_c29398, mz_c29399, mz_c29400, mz_c29401, nI_add, pk_mul, pk_m1, mz_pp, mz_pq]; congr 1; omega)) ?_
  try simp only [mz_c0, mz_cm1]
  obtain ⟨G3, hG3⟩ : ∃ G3, G3 = mz_sr G2 κ 1 (some sz) := ⟨_, rfl⟩
  have hK3 : mz_K G3 κ = 2 := by rw [hG3]; exact hK2
  have i3 : mz_i G3 κ 0 = nI 0 := by rw [hG3]; show mz_i G2 κ 0 = _; rw [a5, g0]
  have r31 : mz_r G3 κ 1 = some sz := by rw [hG3]; show mz_u2 (mz_r G2) κ 1 _ κ 1 = _; rw [mz_u2_s]
  have ka3 : mz_K G3 sz = 9 := by rw [hG3]; exact ka
  have na3 : mz_n G3 sz = 3 := by rw [hG3]; exact na
  rw [← hG3] at hF3 ⊢
  refine mz_Vnew4 hC tk_X2_init rfl ck_RX2_21 ⟨by simp only [mz_rm]; omega, by simp only [mz_rm]; omega⟩ ?_
  refine mz_sn_ok hC tk_X2_init pk_RX2 4 [] rfl (by (repeat' apply And.intro) <;> first | exact True.intro | assumption | (simp only [mz_cm1, mz_c0, mz_c1, mz_c2, mz_c3, mz_c4, mz_c5, mz_c6, mz_c7, mz_c8, mz_c10, mz_c17, mz_c20, mz_c28, mz_c58, mz_c63, mz_c98, mz_c294, mz_c526, mz_c532, mz_c540, mz_c999, mz_c1900, mz_c2403, mz_c29362, mz_c29363, mz_c29364, mz_c29390, mz_c29393, mz_c29394, mz_c29398, mz_c29399, mz_c29400, mz_c29401, nI_add, pk_mul, pk_m1, mz_pp, mz_pq]; done) | omega | (simp only [mz_cm1, mz_c0, mz_c1, mz_c2, mz_c3, mz_c4, mz_c5, mz_c6, mz_c7, mz_c8, mz_c10, mz_c17, mz_c20, mz_c28, mz_c58, mz_c63, mz_c98, mz_c294, mz_c526, mz_c532, mz_c540, mz_c999, mz_c1900, mz_c2403, mz_c29362, mz_c29363, mz_c29364, mz_c29390, mz_c29393, mz_c29394, mz_c29398, mz_c29399, mz_c29400, mz_c29401, nI_add, pk_mul, pk_m1, mz_pp, mz_pq]; congr 1; omega)) ?_
  try simp only [mz_c0, mz_cm1]
  have hF4 : mt_F (fun _ => False) G3 (mz_nw G3 (sz + 1) 4 0) O2 (mz_u1 O2 (sz + 1) (sz + 1)) (sz + 1) (sz + 1 + 1) := mt_F_nw
  have hW4 := hW2.nw (v := sz + 1) (Nat.le_refl _)
  refine mz_Vci hC tk_X2_init rfl md_X4_init lk_RX2_23 rfl (ct_initW l E (G := mz_nw G3 (sz + 1) 4 0) (O := mz_u1 O2 (sz + 1) (sz + 1)) (sz := sz + 1 + 1) (t := sz + 1) (W := 7) (lim := 8) (mz_nw_K G3 (sz + 1) 4 0) (by omega) (mz_u1_s _ _ _) 8 (by omega) (by omega) (by omega) (mr_h mr_f0 (294 + 58 * m0 + 1) 7)) ⟨Nat.le_of_ble_eq_true rfl, Nat.le_of_ble_eq_true rfl⟩ ⟨by simp only [mz_rm]; omega, by simp only [mz_rm]; omega⟩ (Nat.le_of_ble_eq_true rfl) (fun v5 G5 sz5 hp5 => ?_)
  obtain ⟨rfl, hs5, O5, t5, hF5, hW5⟩ := hp5
  have hs5' : sz5 = sz + 3 := by omega
  rw [hs5'] at t5 hF5 hW5 ⊢
  have hW5' := hW5 hW4
  obtain ⟨⟨b1, b2⟩, b3, -, b5, b6⟩ := hF4.at a1 a2 (fun z => z)
  obtain ⟨⟨c1, c2⟩, c3, -, c5, c6⟩ := hF5.at b1 b2 (by omega)
  obtain ⟨⟨b1a, b2a⟩, b3a, b4a, -, b6a⟩ := hF4.at oa (by omega) (fun z => z)
  obtain ⟨⟨c1a, c2a⟩, c3a, c4a, -, c6a⟩ := hF5.at b1a b2a (by omega)
  have hK5 : mz_K G5 κ = 2 := by rw [c3, b3, hK3]
  refine mz_VputFr hC tk_X2_init hnm rfl fo_RX2_26 hK5 rfl rfl rfl (fun C T N z => by cases (show some (RX2, TX2, 3) = some (C, T, N) from z); exact fk_RX2_26) ?_
  have hF6 : mt_F (fun q => q = κ) G5 (mz_sr G5 κ 2 (some (sz + 1))) O5 O5 (sz + 3) (sz + 3) := mt_F_sr c1
  have t6 := t5.fr hF6 (by omega)
  obtain ⟨G6, hG6⟩ : ∃ G6, G6 = mz_sr G5 κ 2 (some (sz + 1)) := ⟨_, rfl⟩
  rw [← hG6] at hF6 t6 ⊢
  have hFa : mt_F (fun q => q = κ) G G6 O O5 sz (sz + 3) := ((((hF1.nx hF2 (fun q _ _ z => z)).tr (hF3.mono (fun q hq => hq))).nx hF4 (fun q _ _ z => z)).nx hF5 (fun q hq _ => by have := hW q hq; omega)).tr hF6
  refine mz_sn_ok hC tk_X2_init pk_RX2 2 [] rfl (by (repeat' apply And.intro) <;> first | exact True.intro | assumption | (simp only [mz_cm1, mz_c0, mz_c1, mz_c2, mz_c3, mz_c4, mz_c5, mz_c6, mz_c7, mz_c8, mz_c10, mz_c17, mz_c20, mz_c28, mz_c58, mz_c63, mz_c98, mz_c294, mz_c526, mz_c532, mz_c540, mz_c999, mz_c1900, mz_c2403, mz_c29362, mz_c29363, mz_c29364, mz_c29390, mz_c29393, mz_c29394, mz_c29398, mz_c29399, mz_c29400, mz_c29401, nI_add, pk_mul, pk_m1, mz_pp, mz_pq]; done) | omega | (simp only [mz_cm1, mz_c0, mz_c1, mz_c2, mz_c3, mz_c4, mz_c5, mz_c6, mz_c7, mz_c8, mz_c10, mz_c17, mz_c20, mz_c28, mz_c58, mz_c63, mz_c98, mz_c294, mz_c526, mz_c532, mz_c540, mz_c999, mz_c1900, mz_c2403, mz_c29362, mz_c29363, mz_c29364, mz_c29390, mz_c29393, mz_c29394, mz_c29398, mz_c29399, mz_c29400, mz_c29401, nI_add, pk_mul, pk_m1, mz_pp, mz_pq]; congr 1; omega)) ?_
  try simp only [mz_c0, mz_cm1]
  refine mz_V.sub (lv' := [some (.ref κ), some (.int (nI 0))]) (by (repeat' apply And.intro) <;> first | with_reducible rfl | exact True.intro | (simp only [mz_cm1, mz_c0, mz_c1, mz_c2, mz_c3, mz_c4, mz_c5, mz_c6, mz_c7, mz_c8, mz_c10, mz_c17, mz_c20, mz_c28, mz_c58, mz_c63, mz_c98, mz_c294, mz_c526, mz_c532, mz_c540, mz_c999, mz_c1900, mz_c2403, mz_c29362, mz_c29363, mz_c29364, mz_c29390, mz_c29393, mz_c29394, mz_c29398, mz_c29399, mz_c29400, mz_c29401, nI_add, pk_mul, pk_m1, mz_pp, mz_pq]; done) | rfl) ?_
  have k6 : mz_K G6 = mz_K G5 := by rw [hG6]; rfl
  have n6 : mz_n G6 = mz_n G5 := by rw [hG6]; rfl
  have i6 : mz_i G6 = mz_i G5 := by rw [hG6]; rfl
  refine mz_V.widen (k' := 3 + 3 * 0) (n' := 3 + 4 + 56 + 87 * 0) (by omega) (by omega) ?_
  refine ck_loop l E hC hret hκ hW m0 hm 3 0 G6 O5 (by omega) ⟨⟨⟨⟨by rw [k6]; exact hK5, c1, by omega⟩, by rw [i6, c5, b5, i3], ?_, ?_⟩, ⟨by rw [k6, c3a, b3a, ka3], c1a, by rw [n6, c4a, b4a, na3], by omega⟩, fun c hc => absurd hc (by omega)⟩, t6, fun c hc => absurd hc (by omega)⟩ hW5' hFa
  · rw [hG6]; show mz_u2 (mz_r G5) κ 2 _ κ 1 = _; rw [mz_u2_j _ _ _ _ (by omega), c6, b6, r31]
  · rw [hG6]; show mz_u2 (mz_r G5) κ 2 _ κ 2 = _; rw [mz_u2_s]
end MRI

