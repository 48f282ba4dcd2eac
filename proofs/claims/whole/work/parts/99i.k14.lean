/-! ===== the class: its constructor ===== -/
def mr_B0 (ω : Nat) : Nat → Nat := fun i => if i = 0 then ω + 1 else ω + 79 + 73 * (i - 1)
theorem mr_cv84 : mr_cv 84 := by unfold mr_cv; omega
section MRI
variable (l : Launch) (E : mz_E) {G : mz_G} {O : Nat → Nat} {sz : Nat}
/-- what the constructor has made when n records stand -/
def mr_Mi (G : mz_G) (O : Nat → Nat) (sz ω n : Nat) : Prop :=
  ((((mz_K G ω = 5 ∧ O ω = ω ∧ ω < sz) ∧ (mz_r G ω 0 = some (ω + 1) ∧ mz_r G ω 1 = some (ω + 74) ∧ mz_r G ω 3 = some (ω + 75) ∧ mz_r G ω 4 = some (ω + 77))) ∧ mz_i G ω 2 = nI 0) ∧
  (((mz_K G (ω + 74) = 11 ∧ O (ω + 74) = ω + 74 ∧ ω + 74 < sz) ∧ mz_n G (ω + 74) = 4) ∧ ∀ j, j < n → mz_r G (ω + 74) j = some (ω + 79 + 73 * j))) ∧
  mr_S G O sz (ω + 1) mr_f0 (fun _ => mr_L0) ∧ (∀ j, j < n → mr_S G O sz (ω + 79 + 73 * j) mr_f0 (fun _ => mr_L0)) ∧
  (mt_T G O sz (ω + 75) 3 540 0 84 (fun _ _ => 0) ∧ mt_T G O sz (ω + 77) 3 540 0 84 (fun _ _ => 0))
theorem mr_Mi.fr {X : Nat → Prop} {G' : mz_G} {O' : Nat → Nat} {sz' ω n : Nat} (h : mr_Mi G O sz ω n) (hF : mt_F X G G' O O' sz sz') (hX : ∀ q, ω ≤ q → q < ω + 79 + 73 * n → ¬ X q) : mr_Mi G' O' sz' ω n := by
  obtain ⟨⟨⟨⟨⟨k0, o0, z0⟩, r0, r1, r3, r4⟩, i2⟩, ⟨⟨k1, o1, z1⟩, n1⟩, hr⟩, hS, hst, t5, t7⟩ := h
  obtain ⟨⟨a1, a2⟩, a3, a4, a5, a6⟩ := hF.at o0 z0 (hX _ (by omega) (by omega))
  obtain ⟨⟨b1, b2⟩, b3, b4, b5, b6⟩ := hF.at o1 z1 (hX _ (by omega) (by omega))
  exact ⟨⟨⟨⟨⟨by rw [a3, k0], a1, a2⟩, by rw [a6, r0], by rw [a6, r1], by rw [a6, r3], by rw [a6, r4]⟩, by rw [a5, i2]⟩, ⟨⟨by rw [b3, k1], b1, b2⟩, by rw [b4, n1]⟩, fun j hj => by rw [b6]; exact hr j hj⟩, hS.fr hF (fun q h1 h2 => hX q (by omega) (by omega)) (fun _ _ => rfl), fun j hj => (hst j hj).fr hF (fun q h1 h2 => hX q (by omega) (by omega)) (fun _ _ => rfl), t5.fr hF (hX _ (by omega) (by omega)), t7.fr hF (hX _ (by omega) (by omega))⟩
theorem mr_Mi.M {ω : Nat} (h : mr_Mi G O sz ω 4) : mr_M G O sz ω (mr_B0 ω) 0 (fun _ => mr_f0) (fun _ _ => mr_L0) 84 84 := by
  obtain ⟨⟨⟨⟨hk, r0, r1, r3, r4⟩, i2⟩, ha, hr⟩, hS, hst, t5, t7⟩ := h
  have eB : ∀ j, mr_B0 ω (j + 1) = ω + 79 + 73 * j := fun j => by unfold mr_B0; rw [if_neg (by omega), Nat.add_sub_cancel]
  have e0 : mr_B0 ω 0 = ω + 1 := rfl
  have eI : ∀ i, mr_B0 ω i = ω + 1 ∧ i = 0 ∨ ∃ j, i = j + 1 ∧ mr_B0 ω i = ω + 79 + 73 * j := fun i => by
    cases i with
    | zero => exact Or.inl ⟨rfl, rfl⟩
    | succ j => exact Or.inr ⟨j, rfl, eB j⟩
  refine ⟨⟨⟨⟨hk, r0, r1, r3, r4⟩, i2, by omega⟩, ha, fun j hj => by rw [eB]; exact hr j hj⟩, ⟨fun i j hi hj hij => ?_, fun i hi => ?_⟩, fun i hi => ?_, ⟨⟨0, _, t5⟩, mr_cv84⟩, ⟨0, _, t7⟩, mr_cv84⟩
  · rcases eI i with ⟨q1, q2⟩ | ⟨k, q1, q2⟩ <;> rcases eI j with ⟨q3, q4⟩ | ⟨k', q3, q4⟩ <;> omega
  · rcases eI i with ⟨q1, q2⟩ | ⟨k, q1, q2⟩ <;> omega
  · rcases eI i with ⟨q1, q2⟩ | ⟨k, q1, q2⟩
    · rw [q1]; exact hS
    · rw [q2]; exact hst k (by omega)
set_option maxHeartbeats 4000000 in
theorem cf_recs {p : Program} {e : Env} {s : State} {m : MethodId} {args : Array Value} {below : List Frame} {meth : Method} {c : Code} (hC : mz_C E p s m args meth c cX5_init yX5_init.cls 2) (hret : meth.sig.returnType = none) {ω : Nat} (hω : ω + 1 = sz) (hW : mt_W O sz) : ∀ (d j : Nat) (G1 : mz_G) (O1 : Nat → Nat), j + d = 4 → mr_Mi G1 O1 (ω + 79 + 73 * j) ω j → mt_W O1 (ω + 79 + 73 * j) → mt_F (fun q => q = ω) G G1 O O1 sz (ω + 79 + 73 * j) → mz_V E p l e (mz_rm 7 370 10900) s m args below meth c 2 (78 + 73 * j) (2300 + 2105 * j) (mz_Z E below args s 370 10900 (fun v' G' sz' => v' = none ∧ sz' = ω + 371 ∧ ∃ O', mr_M G' O' sz' ω (mr_B0 ω) 0 (fun _ => mr_f0) (fun _ _ => mr_L0) 84 84 ∧ mt_F (fun q => q = ω) G G' O O' sz sz' ∧ mt_W O' sz')) (G1) (ω + 79 + 73 * j) (64) [some (.ref ω), some (.int (nI j))] [] := by
  intro d
  induction d with
  | zero =>
    intro j G1 O1 hj hS1 hW1 hF1
    rw [show j = 4 by omega] at hS1 hW1 hF1 ⊢
    refine mz_sn_ok hC tk_X5_init pk_RX5 2 [] rfl (by (repeat' apply And.intro) <;> first | exact True.intro | assumption | (simp only [mz_cm1, mz_c0, mz_c1, mz_c2, mz_c3, mz_c4, mz_c5, mz_c6, mz_c7, mz_c8, mz_c10, mz_c17, mz_c20, mz_c28, mz_c58, mz_c63, mz_c98, mz_c294, mz_c526, mz_c532, mz_c540, mz_c999, mz_c1900, mz_c2403, mz_c29362, mz_c29363, mz_c29364, mz_c29390, mz_c29393, mz_c29394, mz_c29398, mz_c29399, mz_c29400, mz_c29401, nI_add, pk_mul, pk_m1, mz_pp, mz_pq]; done) | omega | (simp only [mz_cm1, mz_c0, mz_c1, mz_c2, mz_c3, mz_c4, mz_c5, mz_c6, mz_c7, mz_c8, mz_c10, mz_c17, mz_c20, mz_c28, mz_c58, mz_c63, mz_c98, mz_c294, mz_c526, mz_c532, mz_c540, mz_c999, mz_c1900, mz_c2403, mz_c29362, mz_c29363, mz_c29364, mz_c29390, mz_c29393, mz_c29394, mz_c29398, mz_c29399, mz_c29400, mz_c29401, nI_add, pk_mul, pk_m1, mz_pp, mz_pq]; congr 1; omega)) ?_
    try simp only [mz_c0, mz_cm1]
    refine mz_br_t hC tk_X5_init rfl ((by show nI 4 ≤ nI 4; decide)) ?_
    refine mz_Vreturn hC tk_X5_init rfl hret (by omega) (by omega) ?_
    exact ⟨rfl, by omega, O1, hS1.M, hF1, hW1⟩
  | succ d ih =>
    intro j G1 O1 hj hS1 hW1 hF1
    obtain ⟨Z, hZ⟩ : ∃ Z, Z = ω + 79 + 73 * j := ⟨_, rfl⟩
    rw [← hZ] at hS1 hW1 hF1 ⊢
    obtain ⟨⟨⟨⟨⟨k0, o0, z0⟩, -, r1, -⟩, -⟩, ⟨⟨k2, o2, z2⟩, n2⟩, -⟩, -⟩ := id hS1
    refine mz_sn_ok hC tk_X5_init pk_RX5 2 [] rfl (by (repeat' apply And.intro) <;> first | exact True.intro | assumption | (simp only [mz_cm1, mz_c0, mz_c1, mz_c2, mz_c3, mz_c4, mz_c5, mz_c6, mz_c7, mz_c8, mz_c10, mz_c17, mz_c20, mz_c28, mz_c58, mz_c63, mz_c98, mz_c294, mz_c526, mz_c532, mz_c540, mz_c999, mz_c1900, mz_c2403, mz_c29362, mz_c29363, mz_c29364, mz_c29390, mz_c29393, mz_c29394, mz_c29398, mz_c29399, mz_c29400, mz_c29401, nI_add, pk_mul, pk_m1, mz_pp, mz_pq]; done) | omega | (simp only [mz_cm1, mz_c0, mz_c1, mz_c2, mz_c3, mz_c4, mz_c5, mz_c6, mz_c7, mz_c8, mz_c10, mz_c17, mz_c20, mz_c28, mz_c58, mz_c63, mz_c98, mz_c294, mz_c526, mz_c532, mz_c540, mz_c999, mz_c1900, mz_c2403, mz_c29362, mz_c29363, mz_c29364, mz_c29390, mz_c29393, mz_c29394, mz_c29398, mz_c29399, mz_c29400, mz_c29401, nI_add, pk_mul, pk_m1, mz_pp, mz_pq]; congr 1; omega)) ?_
    try simp only [mz_c0, mz_cm1]
    refine mz_br_f hC tk_X5_init rfl ((by show ¬ nI 4 ≤ nI j; exact nI_ge (by omega) (by omega))) ?_
    refine mz_sn_ok hC tk_X5_init pk_RX5 3 [ω + 74] rfl (by (repeat' apply And.intro) <;> first | exact True.intro | assumption | (simp only [mz_cm1, mz_c0, mz_c1, mz_c2, mz_c3, mz_c4, mz_c5, mz_c6, mz_c7, mz_c8, mz_c10, mz_c17, mz_c20, mz_c28, mz_c58, mz_c63, mz_c98, mz_c294, mz_c526, mz_c532, mz_c540, mz_c999, mz_c1900, mz_c2403, mz_c29362, mz_c29363, mz_c29364, mz_c29390, mz_c29393, mz_c29394, mz_c29398, mz_c29399, mz_c29400, mz_c29401, nI_add, pk_mul, pk_m1, mz_pp, mz_pq]; done) | omega | (simp only [mz_cm1, mz_c0, mz_c1, mz_c2, mz_c3, mz_c4, mz_c5, mz_c6, mz_c7, mz_c8, mz_c10, mz_c17, mz_c20, mz_c28, mz_c58, mz_c63, mz_c98, mz_c294, mz_c526, mz_c532, mz_c540, mz_c999, mz_c1900, mz_c2403, mz_c29362, mz_c29363, mz_c29364, mz_c29390, mz_c29393, mz_c29394, mz_c29398, mz_c29399, mz_c29400, mz_c29401, nI_add, pk_mul, pk_m1, mz_pp, mz_pq]; congr 1; omega)) ?_
    try simp only [mz_c0, mz_cm1]
    refine mz_Vnew3 hC tk_X5_init rfl ck_RX5_9 ⟨by simp only [mz_rm]; omega, by simp only [mz_rm]; omega⟩ ?_
    have hF8 : mt_F (fun _ => False) G1 (mz_nw G1 Z 3 0) O1 (mz_u1 O1 Z Z) Z (Z + 1) := mt_F_nw
    have hW8 := hW1.nw (v := Z) (Nat.le_refl _)
    have kS : mz_K (mz_nw G1 Z 3 0) Z = 3 := mz_nw_K G1 Z 3 0
    obtain ⟨G8, hG8⟩ : ∃ G8, G8 = mz_nw G1 Z 3 0 := ⟨_, rfl⟩
    obtain ⟨O8, hO8⟩ : ∃ O8, O8 = mz_u1 O1 Z Z := ⟨_, rfl⟩
    have oS : O8 Z = Z := by rw [hO8]; exact mz_u1_s _ _ _
    rw [← hG8, ← hO8] at hF8
    rw [← hO8] at hW8
    rw [← hG8] at kS ⊢
    refine mz_sn_ok hC tk_X5_init pk_RX5 1 [] rfl (by (repeat' apply And.intro) <;> first | exact True.intro | assumption | (simp only [mz_cm1, mz_c0, mz_c1, mz_c2, mz_c3, mz_c4, mz_c5, mz_c6, mz_c7, mz_c8, mz_c10, mz_c17, mz_c20, mz_c28, mz_c58, mz_c63, mz_c98, mz_c294, mz_c526, mz_c532, mz_c540, mz_c999, mz_c1900, mz_c2403, mz_c29362, mz_c29363, mz_c29364, mz_c29390, mz_c29393, mz_c29394, mz_c29398, mz_c29399, mz_c29400, mz_c29401, nI_add, pk_mul, pk_m1, mz_pp, mz_pq]; done) | omega | (simp only [mz_cm1, mz_c0, mz_c1, mz_c2, mz_c3, mz_c4, mz_c5, mz_c6, mz_c7, mz_c8, mz_c10, mz_c17, mz_c20, mz_c28, mz_c58, mz_c63, mz_c98, mz_c294, mz_c526, mz_c532, mz_c540, mz_c999, mz_c1900, mz_c2403, mz_c29362, mz_c29363, mz_c29364, mz_c29390, mz_c29393, mz_c29394, mz_c29398, mz_c29399, mz_c29400, mz_c29401, nI_add, pk_mul, pk_m1, mz_pp, mz_pq]; congr 1; omega)) ?_
    try simp only [mz_c0, mz_cm1]
    refine mz_Vci hC tk_X5_init rfl md_X3_init lk_RX5_11 rfl (cs_init l E kS rfl oS hW8) ⟨Nat.le_of_ble_eq_true rfl, Nat.le_of_ble_eq_true rfl⟩ ⟨by simp only [mz_rm]; omega, by simp only [mz_rm]; omega⟩ (Nat.le_of_ble_eq_true rfl) (fun v9 G9 sz9 hp9 => ?_)
    obtain ⟨rfl, hs9, O9, hM9, hF9, hW9⟩ := hp9
    rw [hs9] at hM9 hF9 hW9 ⊢
    have hS8 := hS1.fr hF8 (fun q _ _ z => z)
    have hS9 := hS8.fr hF9 (fun q _ _ z => by omega)
    obtain ⟨⟨⟨⟨⟨k09, o09, z09⟩, -, r19, -⟩, -⟩, ⟨⟨k29, o29, z29⟩, n29⟩, -⟩, -⟩ := id hS9
    have kZ9 : mz_K G9 Z = 3 := hM9.1.1.1.1.1
    have x1 : mz_K G9 Z < 4 := by omega
    have x2 : mz_K G9 (ω + 74) = 8 + mz_K G9 Z := by omega
    refine mz_sn_ok hC tk_X5_init pk_RX5 3 [j] rfl (by (repeat' apply And.intro) <;> first | exact True.intro | assumption | (simp only [mz_cm1, mz_c0, mz_c1, mz_c2, mz_c3, mz_c4, mz_c5, mz_c6, mz_c7, mz_c8, mz_c10, mz_c17, mz_c20, mz_c28, mz_c58, mz_c63, mz_c98, mz_c294, mz_c526, mz_c532, mz_c540, mz_c999, mz_c1900, mz_c2403, mz_c29362, mz_c29363, mz_c29364, mz_c29390, mz_c29393, mz_c29394, mz_c29398, mz_c29399, mz_c29400, mz_c29401, nI_add, pk_mul, pk_m1, mz_pp, mz_pq]; done) | omega | (simp only [mz_cm1, mz_c0, mz_c1, mz_c2, mz_c3, mz_c4, mz_c5, mz_c6, mz_c7, mz_c8, mz_c10, mz_c17, mz_c20, mz_c28, mz_c58, mz_c63, mz_c98, mz_c294, mz_c526, mz_c532, mz_c540, mz_c999, mz_c1900, mz_c2403, mz_c29362, mz_c29363, mz_c29364, mz_c29390, mz_c29393, mz_c29394, mz_c29398, mz_c29399, mz_c29400, mz_c29401, nI_add, pk_mul, pk_m1, mz_pp, mz_pq]; congr 1; omega)) ?_
    try simp only [mz_c0, mz_cm1]
    have hF10 : mt_F (fun q => q = ω + 74) G9 (mz_sr G9 (ω + 74) j (some Z)) O9 O9 (Z + 73) (Z + 73) := mt_F_sr o29
    obtain ⟨G10, hG10⟩ : ∃ G10, G10 = mz_sr G9 (ω + 74) j (some Z) := ⟨_, rfl⟩
    have r10 : ∀ c, mz_r G10 (ω + 74) c = if c = j then some Z else mz_r G9 (ω + 74) c := fun c => by rw [hG10]; show mz_u2 (mz_r G9) (ω + 74) j _ (ω + 74) c = _; simp only [mz_u2, if_true]
    have kk10 : mz_K G10 = mz_K G9 := by rw [hG10]; rfl
    have nn10 : mz_n G10 = mz_n G9 := by rw [hG10]; rfl
    rw [← hG10] at hF10 ⊢
    refine mz_V.sub (lv' := [some (.ref ω), some (.int (nI (j + 1)))]) (by (repeat' apply And.intro) <;> first | with_reducible rfl | exact True.intro | (simp only [mz_cm1, mz_c0, mz_c1, mz_c2, mz_c3, mz_c4, mz_c5, mz_c6, mz_c7, mz_c8, mz_c10, mz_c17, mz_c20, mz_c28, mz_c58, mz_c63, mz_c98, mz_c294, mz_c526, mz_c532, mz_c540, mz_c999, mz_c1900, mz_c2403, mz_c29362, mz_c29363, mz_c29364, mz_c29390, mz_c29393, mz_c29394, mz_c29398, mz_c29399, mz_c29400, mz_c29401, nI_add, pk_mul, pk_m1, mz_pp, mz_pq]; done) | rfl) ?_
    have eZ : Z + 73 = ω + 79 + 73 * (j + 1) := by omega
    have hM10 := hM9.fr hF10 (fun q h1 h2 z => by omega) (fun _ _ => rfl)
    have hS10 : mr_Mi G10 O9 (Z + 73) ω (j + 1) := by
      obtain ⟨⟨⟨⟨⟨k0, o0, z0⟩, r0, r1, r3, r4⟩, i2⟩, ⟨⟨k1, o1, z1⟩, n1⟩, hr⟩, hS, hst, t5, t7⟩ := id hS9
      obtain ⟨⟨a1, a2⟩, a3, a4, a5, a6⟩ := hF10.at o0 z0 (by omega)
      refine ⟨⟨⟨⟨⟨by rw [a3, k0], a1, a2⟩, by rw [a6, r0], by rw [a6, r1], by rw [a6, r3], by rw [a6, r4]⟩, by rw [a5, i2]⟩, ⟨⟨by rw [kk10]; exact k1, o1, z1⟩, by rw [nn10]; exact n1⟩, fun c hc => ?_⟩, hS.fr hF10 (fun q h1 h2 z => by omega) (fun _ _ => rfl), fun c hc => ?_, t5.fr hF10 (by omega), t7.fr hF10 (by omega)⟩
      · rw [r10]
        by_cases hcb : c = j
        · rw [if_pos hcb, hcb, hZ]
        · rw [if_neg hcb]
          exact hr c (by omega)
      · by_cases hcb : c = j
        · subst hcb
          rw [← hZ]
          exact hM10
        · exact (hst c (by omega)).fr hF10 (fun q h1 h2 z => by omega) (fun _ _ => rfl)
    have hFb : mt_F (fun q => q = ω) G G10 O O9 sz (Z + 73) := ((hF1.nx hF8 (fun q _ _ z => z)).nx hF9 (fun q hq _ => by have := hW q hq; omega)).nx hF10 (fun q hq _ => by have := hW q hq; omega)
    rw [eZ] at hS10 hFb hW9 ⊢
    refine mz_V.widen (k' := 78 + 73 * (j + 1)) (n' := 2300 + 2105 * (j + 1)) (by omega) (by omega) ?_
    exact ih (j + 1) G10 O9 (by omega) hS10 hW9 hFb
theorem mr_sr_r (G : mz_G) (a j : Nat) (v : Option Nat) (i : Nat) : mz_r (mz_sr G a j v) a i = if i = j then v else mz_r G a i := by
  show mz_u2 (mz_r G) a j v a i = _
  simp only [mz_u2, if_true]
set_option maxHeartbeats 8000000 in
theorem cf_init {ω : Nat} (hK : mz_K G ω = 5) (hω : ω + 1 = sz) (hO : O ω = ω) (hW : mt_W O sz) : mz_M l E yX5_init cX5_init 2 none 7 370 10900 [.ref ω] G sz (fun v' G' sz' => v' = none ∧ sz' = ω + 371 ∧ ∃ O', mr_M G' O' sz' ω (mr_B0 ω) 0 (fun _ => mr_f0) (fun _ _ => mr_L0) 84 84 ∧ mt_F (fun q => q = ω) G G' O O' sz sz' ∧ mt_W O' sz') := by
  refine mz_start (by decide) (Nat.le_of_ble_eq_true rfl) ?_
  intro p e s m args below meth c hC hret hnm
  refine mz_sn_ok hC tk_X5_init pk_RX5 1 [] rfl (by (repeat' apply And.intro) <;> first | exact True.intro | assumption | (simp only [mz_cm1, mz_c0, mz_c1, mz_c2, mz_c3, mz_c4, mz_c5, mz_c6, mz_c7, mz_c8, mz_c10, mz_c17, mz_c20, mz_c28, mz_c58, mz_c63, mz_c98, mz_c294, mz_c526, mz_c532, mz_c540, mz_c999, mz_c1900, mz_c2403, mz_c29362, mz_c29363, mz_c29364, mz_c29390, mz_c29393, mz_c29394, mz_c29398, mz_c29399, mz_c29400, mz_c29401, nI_add, pk_mul, pk_m1, mz_pp, mz_pq]; done) | omega | (simp only [mz_cm1, mz_c0, mz_c1, mz_c2, mz_c3, mz_c4, mz_c5, mz_c6, mz_c7, mz_c8, mz_c10, mz_c17, mz_c20, mz_c28, mz_c58, mz_c63, mz_c98, mz_c294, mz_c526, mz_c532, mz_c540, mz_c999, mz_c1900, mz_c2403, mz_c29362, mz_c29363, mz_c29364, mz_c29390, mz_c29393, mz_c29394, mz_c29398, mz_c29399, mz_c29400, mz_c29401, nI_add, pk_mul, pk_m1, mz_pp, mz_pq]; congr 1; omega)) ?_
  try simp only [mz_c0, mz_cm1]
  refine mz_Vobj hC tk_X5_init rfl lk_RX5_3 im_java_lang_Object__init____V cd_objI (Nat.le_of_ble_eq_true rfl) (Nat.le_of_ble_eq_true rfl) ?_
  refine mz_sn_ok hC tk_X5_init pk_RX5 1 [] rfl (by (repeat' apply And.intro) <;> first | exact True.intro | assumption | (simp only [mz_cm1, mz_c0, mz_c1, mz_c2, mz_c3, mz_c4, mz_c5, mz_c6, mz_c7, mz_c8, mz_c10, mz_c17, mz_c20, mz_c28, mz_c58, mz_c63, mz_c98, mz_c294, mz_c526, mz_c532, mz_c540, mz_c999, mz_c1900, mz_c2403, mz_c29362, mz_c29363, mz_c29364, mz_c29390, mz_c29393, mz_c29394, mz_c29398, mz_c29399, mz_c29400, mz_c29401, nI_add, pk_mul, pk_m1, mz_pp, mz_pq]; done) | omega | (simp only [mz_cm1, mz_c0, mz_c1, mz_c2, mz_c3, mz_c4, mz_c5, mz_c6, mz_c7, mz_c8, mz_c10, mz_c17, mz_c20, mz_c28, mz_c58, mz_c63, mz_c98, mz_c294, mz_c526, mz_c532, mz_c540, mz_c999, mz_c1900, mz_c2403, mz_c29362, mz_c29363, mz_c29364, mz_c29390, mz_c29393, mz_c29394, mz_c29398, mz_c29399, mz_c29400, mz_c29401, nI_add, pk_mul, pk_m1, mz_pp, mz_pq]; congr 1; omega)) ?_
  try simp only [mz_c0, mz_cm1]
  refine mz_Vnew3 hC tk_X5_init rfl ck_RX5_9 ⟨by simp only [mz_rm]; omega, by simp only [mz_rm]; omega⟩ ?_
  have hFa : mt_F (fun _ => False) G (mz_nw G sz 3 0) O (mz_u1 O sz sz) sz (sz + 1) := mt_F_nw
  have hWa := hW.nw (v := sz) (Nat.le_refl _)
  have kS : mz_K (mz_nw G sz 3 0) sz = 3 := mz_nw_K G sz 3 0
  obtain ⟨G1, hG1⟩ : ∃ G1, G1 = mz_nw G sz 3 0 := ⟨_, rfl⟩
  obtain ⟨O1, hO1⟩ : ∃ O1, O1 = mz_u1 O sz sz := ⟨_, rfl⟩
  have oS : O1 sz = sz := by rw [hO1]; exact mz_u1_s _ _ _
  rw [← hG1, ← hO1] at hFa
  rw [← hO1] at hWa
  rw [← hG1] at kS ⊢
  refine mz_sn_ok hC tk_X5_init pk_RX5 1 [] rfl (by (repeat' apply And.intro) <;> first | exact True.intro | assumption | (simp only [mz_cm1, mz_c0, mz_c1, mz_c2, mz_c3, mz_c4, mz_c5, mz_c6, mz_c7, mz_c8, mz_c10, mz_c17, mz_c20, mz_c28, mz_c58, mz_c63, mz_c98, mz_c294, mz_c526, mz_c532, mz_c540, mz_c999, mz_c1900, mz_c2403, mz_c29362, mz_c29363, mz_c29364, mz_c29390, mz_c29393, mz_c29394, mz_c29398, mz_c29399, mz_c29400, mz_c29401, nI_add, pk_mul, pk_m1, mz_pp, mz_pq]; done) | omega | (simp only [mz_cm1, mz_c0, mz_c1, mz_c2, mz_c3, mz_c4, mz_c5, mz_c6, mz_c7, mz_c8, mz_c10, mz_c17, mz_c20, mz_c28, mz_c58, mz_c63, mz_c98, mz_c294, mz_c526, mz_c532, mz_c540, mz_c999, mz_c1900, mz_c2403, mz_c29362, mz_c29363, mz_c29364, mz_c29390, mz_c29393, mz_c29394, mz_c29398, mz_c29399, mz_c29400, mz_c29401, nI_add, pk_mul, pk_m1, mz_pp, mz_pq]; congr 1; omega)) ?_
  try simp only [mz_c0, mz_cm1]
  refine mz_Vci hC tk_X5_init rfl md_X3_init lk_RX5_11 rfl (cs_init l E kS rfl oS hWa) ⟨Nat.le_of_ble_eq_true rfl, Nat.le_of_ble_eq_true rfl⟩ ⟨by simp only [mz_rm]; omega, by simp only [mz_rm]; omega⟩ (Nat.le_of_ble_eq_true rfl) (fun v2 G2 sz2 hp2 => ?_)
  obtain ⟨rfl, hs2, O2, hS2, hFb, hW2⟩ := hp2
  have hs2' : sz2 = ω + 74 := by omega
  rw [hs2'] at hS2 hFb hW2 ⊢
  have hF2 := hFa.nx hFb (fun q hq _ => by have := hW q hq; omega)
  obtain ⟨⟨a1, a2⟩, a3, -, -, -⟩ := hF2.at hO (by omega) (fun z => z)
  have kω2 : mz_K G2 ω = 5 := by rw [a3, hK]
  have eS : sz = ω + 1 := by omega
  rw [eS] at hS2
  refine mz_sn_ok hC tk_X5_init pk_RX5 3 [] rfl (by (repeat' apply And.intro) <;> first | exact True.intro | assumption | (simp only [mz_cm1, mz_c0, mz_c1, mz_c2, mz_c3, mz_c4, mz_c5, mz_c6, mz_c7, mz_c8, mz_c10, mz_c17, mz_c20, mz_c28, mz_c58, mz_c63, mz_c98, mz_c294, mz_c526, mz_c532, mz_c540, mz_c999, mz_c1900, mz_c2403, mz_c29362, mz_c29363, mz_c29364, mz_c29390, mz_c29393, mz_c29394, mz_c29398, mz_c29399, mz_c29400, mz_c29401, nI_add, pk_mul, pk_m1, mz_pp, mz_pq]; done) | omega | (simp only [mz_cm1, mz_c0, mz_c1, mz_c2, mz_c3, mz_c4, mz_c5, mz_c6, mz_c7, mz_c8, mz_c10, mz_c17, mz_c20, mz_c28, mz_c58, mz_c63, mz_c98, mz_c294, mz_c526, mz_c532, mz_c540, mz_c999, mz_c1900, mz_c2403, mz_c29362, mz_c29363, mz_c29364, mz_c29390, mz_c29393, mz_c29394, mz_c29398, mz_c29399, mz_c29400, mz_c29401, nI_add, pk_mul, pk_m1, mz_pp, mz_pq]; congr 1; omega)) ?_
  try simp only [mz_c0, mz_cm1]
  have hF3 : mt_F (fun q => q = ω) G2 (mz_sr G2 ω 0 (some sz)) O2 O2 (ω + 74) (ω + 74) := mt_F_sr a1
  obtain ⟨G3, hG3⟩ : ∃ G3, G3 = mz_sr G2 ω 0 (some sz) := ⟨_, rfl⟩
  have kω3 : mz_K G3 ω = 5 := by rw [hG3]; exact kω2
  have r3 : mz_r G3 ω 0 = some (ω + 1) := by rw [hG3, mr_sr_r, if_pos rfl, eS]
  rw [← hG3] at hF3 ⊢
  have hS3 := hS2.fr hF3 (fun q h1 h2 z => by omega) (fun _ _ => rfl)
  have hG03 := hF2.mono (Y := fun q => q = ω) (fun q z => absurd z (fun z => z)) |>.tr hF3
  refine mz_Vnewa hC tk_X5_init rfl 11 4 RX3 (by omega) rfl ck_RX5_9 (List.mem_of_getElem? (i := 3) rfl) 4 rfl (by omega) ⟨by simp only [mz_rm]; omega, by simp only [mz_rm]; omega⟩ ?_
  have hF4 : mt_F (fun _ => False) G3 (mz_nw G3 (ω + 74) 11 4) O2 (mz_u1 O2 (ω + 74) (ω + 74)) (ω + 74) (ω + 74 + 1) := mt_F_nw
  have hW4 := hW2.nw (v := ω + 74) (Nat.le_refl _)
  obtain ⟨G4, hG4⟩ : ∃ G4, G4 = mz_nw G3 (ω + 74) 11 4 := ⟨_, rfl⟩
  obtain ⟨O4, hO4⟩ : ∃ O4, O4 = mz_u1 O2 (ω + 74) (ω + 74) := ⟨_, rfl⟩
  have kA4 : mz_K G4 (ω + 74) = 11 := by rw [hG4]; exact mz_nw_K G3 (ω + 74) 11 4
  have nA4 : mz_n G4 (ω + 74) = 4 := by rw [hG4]; exact mz_nw_n G3 (ω + 74) 11 4
  have oA4 : O4 (ω + 74) = ω + 74 := by rw [hO4]; exact mz_u1_s _ _ _
  rw [← hG4, ← hO4] at hF4
  rw [← hO4] at hW4
  rw [← hG4]
  obtain ⟨⟨b1, b2⟩, b3, -, -, b6⟩ := hF4.at a1 (by omega) (fun z => z)
  have kω4 : mz_K G4 ω = 5 := by rw [b3, kω3]
  have hS4 := hS3.fr hF4 (fun q h1 h2 z => z) (fun _ _ => rfl)
  have hG04 := hG03.nx hF4 (fun q _ _ z => z)
  refine mz_VputFr hC tk_X5_init hnm rfl fo_RX5_16 kω4 rfl rfl rfl (fun C T N z => by cases (show some (RX5, TX5, 5) = some (C, T, N) from z); exact fk_RX5_16) ?_
  have hF5 : mt_F (fun q => q = ω) G4 (mz_sr G4 ω 1 (some (ω + 74))) O4 O4 (ω + 75) (ω + 75) := mt_F_sr b1
  obtain ⟨G5, hG5⟩ : ∃ G5, G5 = mz_sr G4 ω 1 (some (ω + 74)) := ⟨_, rfl⟩
  have kω5 : mz_K G5 ω = 5 := by rw [hG5]; exact kω4
  have kA5 : mz_K G5 (ω + 74) = 11 := by rw [hG5]; exact kA4
  have nA5 : mz_n G5 (ω + 74) = 4 := by rw [hG5]; exact nA4
  have r50 : mz_r G5 ω 0 = some (ω + 1) := by rw [hG5, mr_sr_r, if_neg (by omega), b6, r3]
  have r51 : mz_r G5 ω 1 = some (ω + 74) := by rw [hG5, mr_sr_r, if_pos rfl]
  rw [← hG5] at hF5 ⊢
  have hS5 := hS4.fr hF5 (fun q h1 h2 z => by omega) (fun _ _ => rfl)
  have hG05 := hG04.tr hF5
  refine mz_sn_ok hC tk_X5_init pk_RX5 4 [] rfl (by (repeat' apply And.intro) <;> first | exact True.intro | assumption | (simp only [mz_cm1, mz_c0, mz_c1, mz_c2, mz_c3, mz_c4, mz_c5, mz_c6, mz_c7, mz_c8, mz_c10, mz_c17, mz_c20, mz_c28, mz_c58, mz_c63, mz_c98, mz_c294, mz_c526, mz_c532, mz_c540, mz_c999, mz_c1900, mz_c2403, mz_c29362, mz_c29363, mz_c29364, mz_c29390, mz_c29393, mz_c29394, mz_c29398, mz_c29399, mz_c29400, mz_c29401, nI_add, pk_mul, pk_m1, mz_pp, mz_pq]; done) | omega | (simp only [mz_cm1, mz_c0, mz_c1, mz_c2, mz_c3, mz_c4, mz_c5, mz_c6, mz_c7, mz_c8, mz_c10, mz_c17, mz_c20, mz_c28, mz_c58, mz_c63, mz_c98, mz_c294, mz_c526, mz_c532, mz_c540, mz_c999, mz_c1900, mz_c2403, mz_c29362, mz_c29363, mz_c29364, mz_c29390, mz_c29393, mz_c29394, mz_c29398, mz_c29399, mz_c29400, mz_c29401, nI_add, pk_mul, pk_m1, mz_pp, mz_pq]; congr 1; omega)) ?_
  try simp only [mz_c0, mz_cm1]
  have hF6 : mt_F (fun q => q = ω) G5 (mz_si G5 ω 2 (nI 0)) O4 O4 (ω + 75) (ω + 75) := mt_F_si b1
  obtain ⟨G6, hG6⟩ : ∃ G6, G6 = mz_si G5 ω 2 (nI 0) := ⟨_, rfl⟩
  have kω6 : mz_K G6 ω = 5 := by rw [hG6]; exact kω5
  have kA6 : mz_K G6 (ω + 74) = 11 := by rw [hG6]; exact kA5
  have nA6 : mz_n G6 (ω + 74) = 4 := by rw [hG6]; exact nA5
  have r60 : mz_r G6 ω 0 = some (ω + 1) := by rw [hG6]; exact r50
  have r61 : mz_r G6 ω 1 = some (ω + 74) := by rw [hG6]; exact r51
  have i62 : mz_i G6 ω 2 = nI 0 := by rw [hG6]; show mz_u2 (mz_i G5) ω 2 _ ω 2 = _; rw [mz_u2_s]
  rw [← hG6] at hF6 ⊢
  have hS6 := hS5.fr hF6 (fun q h1 h2 z => by omega) (fun _ _ => rfl)
  have hG06 := hG05.tr hF6
  clear hF2 hF3 hF4 hF5 hF6 hG03 hG04 hG05 hS2 hS3 hS4 hS5 hG6 hG5 hG4 hG3 hG1 hO1 hO4 hFa hFb hWa
  refine mz_Vnew4 hC tk_X5_init rfl ck_RX5_24 ⟨by simp only [mz_rm]; omega, by simp only [mz_rm]; omega⟩ ?_
  refine mz_sn_ok hC tk_X5_init pk_RX5 4 [] rfl (by (repeat' apply And.intro) <;> first | exact True.intro | assumption | (simp only [mz_cm1, mz_c0, mz_c1, mz_c2, mz_c3, mz_c4, mz_c5, mz_c6, mz_c7, mz_c8, mz_c10, mz_c17, mz_c20, mz_c28, mz_c58, mz_c63, mz_c98, mz_c294, mz_c526, mz_c532, mz_c540, mz_c999, mz_c1900, mz_c2403, mz_c29362, mz_c29363, mz_c29364, mz_c29390, mz_c29393, mz_c29394, mz_c29398, mz_c29399, mz_c29400, mz_c29401, nI_add, pk_mul, pk_m1, mz_pp, mz_pq]; done) | omega | (simp only [mz_cm1, mz_c0, mz_c1, mz_c2, mz_c3, mz_c4, mz_c5, mz_c6, mz_c7, mz_c8, mz_c10, mz_c17, mz_c20, mz_c28, mz_c58, mz_c63, mz_c98, mz_c294, mz_c526, mz_c532, mz_c540, mz_c999, mz_c1900, mz_c2403, mz_c29362, mz_c29363, mz_c29364, mz_c29390, mz_c29393, mz_c29394, mz_c29398, mz_c29399, mz_c29400, mz_c29401, nI_add, pk_mul, pk_m1, mz_pp, mz_pq]; congr 1; omega)) ?_
  try simp only [mz_c0, mz_cm1]
  have hF7 : mt_F (fun _ => False) G6 (mz_nw G6 (ω + 75) 4 0) O4 (mz_u1 O4 (ω + 75) (ω + 75)) (ω + 75) (ω + 75 + 1) := mt_F_nw
  have hW7 := hW4.nw (v := ω + 75) (Nat.le_refl _)
  refine mz_Vci hC tk_X5_init rfl md_X4_init lk_RX5_26 rfl (ct_initW l E (G := mz_nw G6 (ω + 75) 4 0) (O := mz_u1 O4 (ω + 75) (ω + 75)) (sz := ω + 75 + 1) (t := ω + 75) (W := 3) (lim := 540) (mz_nw_K G6 (ω + 75) 4 0) (by omega) (mz_u1_s _ _ _) 28 (by omega) (by omega) (by omega) (fun _ _ => 0)) ⟨Nat.le_of_ble_eq_true rfl, Nat.le_of_ble_eq_true rfl⟩ ⟨by simp only [mz_rm]; omega, by simp only [mz_rm]; omega⟩ (Nat.le_of_ble_eq_true rfl) (fun v8 G8 sz8 hp8 => ?_)
  obtain ⟨rfl, hs8, O8, t8, hF8, hW8⟩ := hp8
  have hs8' : sz8 = ω + 77 := by omega
  rw [hs8'] at t8 hF8 hW8 ⊢
  have hW8' := hW8 hW7
  have hF78 := hF7.nx (Y := fun q => q = ω + 75) hF8 (fun q hq _ => by have := hW4 q hq; omega)
  obtain ⟨⟨c1, c2⟩, c3, -, c5, c6⟩ := hF78.at b1 (by omega) (fun z => z)
  obtain ⟨⟨d1, d2⟩, d3, d4, -, -⟩ := hF78.at oA4 (by omega) (fun z => z)
  have kω8 : mz_K G8 ω = 5 := by rw [c3, kω6]
  have hS8 := hS6.fr hF78 (fun q h1 h2 z => z) (fun _ _ => rfl)
  have hG08 := hG06.nx hF78 (fun q _ _ z => z)
  refine mz_VputFr hC tk_X5_init hnm rfl fo_RX5_29 kω8 rfl rfl rfl (fun C T N z => by cases (show some (RX5, TX5, 5) = some (C, T, N) from z); exact fk_RX5_29) ?_
  have hF9 : mt_F (fun q => q = ω) G8 (mz_sr G8 ω 3 (some (ω + 75))) O8 O8 (ω + 77) (ω + 77) := mt_F_sr c1
  have t9 := t8.fr hF9 (by omega)
  obtain ⟨G9, hG9⟩ : ∃ G9, G9 = mz_sr G8 ω 3 (some (ω + 75)) := ⟨_, rfl⟩
  have kω9 : mz_K G9 ω = 5 := by rw [hG9]; exact kω8
  have kA9 : mz_K G9 (ω + 74) = 11 := by rw [hG9]; show mz_K G8 (ω + 74) = 11; rw [d3, kA6]
  have nA9 : mz_n G9 (ω + 74) = 4 := by rw [hG9]; show mz_n G8 (ω + 74) = 4; rw [d4, nA6]
  have i92 : mz_i G9 ω 2 = nI 0 := by rw [hG9]; show mz_i G8 ω 2 = _; rw [c5, i62]
  have r90 : mz_r G9 ω 0 = some (ω + 1) := by rw [hG9, mr_sr_r, if_neg (by omega), c6, r60]
  have r91 : mz_r G9 ω 1 = some (ω + 74) := by rw [hG9, mr_sr_r, if_neg (by omega), c6, r61]
  have r93 : mz_r G9 ω 3 = some (ω + 75) := by rw [hG9, mr_sr_r, if_pos rfl]
  rw [← hG9] at hF9 t9 ⊢
  have hS9 := hS8.fr hF9 (fun q h1 h2 z => by omega) (fun _ _ => rfl)
  have hG09 := hG08.tr hF9
  clear hF7 hF8 hF78 hF9 hG06 hG08 hS6 hS8 hG9 t8 hW7 hW8
  refine mz_sn_ok hC tk_X5_init pk_RX5 1 [] rfl (by (repeat' apply And.intro) <;> first | exact True.intro | assumption | (simp only [mz_cm1, mz_c0, mz_c1, mz_c2, mz_c3, mz_c4, mz_c5, mz_c6, mz_c7, mz_c8, mz_c10, mz_c17, mz_c20, mz_c28, mz_c58, mz_c63, mz_c98, mz_c294, mz_c526, mz_c532, mz_c540, mz_c999, mz_c1900, mz_c2403, mz_c29362, mz_c29363, mz_c29364, mz_c29390, mz_c29393, mz_c29394, mz_c29398, mz_c29399, mz_c29400, mz_c29401, nI_add, pk_mul, pk_m1, mz_pp, mz_pq]; done) | omega | (simp only [mz_cm1, mz_c0, mz_c1, mz_c2, mz_c3, mz_c4, mz_c5, mz_c6, mz_c7, mz_c8, mz_c10, mz_c17, mz_c20, mz_c28, mz_c58, mz_c63, mz_c98, mz_c294, mz_c526, mz_c532, mz_c540, mz_c999, mz_c1900, mz_c2403, mz_c29362, mz_c29363, mz_c29364, mz_c29390, mz_c29393, mz_c29394, mz_c29398, mz_c29399, mz_c29400, mz_c29401, nI_add, pk_mul, pk_m1, mz_pp, mz_pq]; congr 1; omega)) ?_
  try simp only [mz_c0, mz_cm1]
  refine mz_Vnew4 hC tk_X5_init rfl ck_RX5_24 ⟨by simp only [mz_rm]; omega, by simp only [mz_rm]; omega⟩ ?_
  refine mz_sn_ok hC tk_X5_init pk_RX5 4 [] rfl (by (repeat' apply And.intro) <;> first | exact True.intro | assumption | (simp only [mz_cm1, mz_c0, mz_c1, mz_c2, mz_c3, mz_c4, mz_c5, mz_c6, mz_c7, mz_c8, mz_c10, mz_c17, mz_c20, mz_c28, mz_c58, mz_c63, mz_c98, mz_c294, mz_c526, mz_c532, mz_c540, mz_c999, mz_c1900, mz_c2403, mz_c29362, mz_c29363, mz_c29364, mz_c29390, mz_c29393, mz_c29394, mz_c29398, mz_c29399, mz_c29400, mz_c29401, nI_add, pk_mul, pk_m1, mz_pp, mz_pq]; done) | omega | (simp only [mz_cm1, mz_c0, mz_c1, mz_c2, mz_c3, mz_c4, mz_c5, mz_c6, mz_c7, mz_c8, mz_c10, mz_c17, mz_c20, mz_c28, mz_c58, mz_c63, mz_c98, mz_c294, mz_c526, mz_c532, mz_c540, mz_c999, mz_c1900, mz_c2403, mz_c29362, mz_c29363, mz_c29364, mz_c29390, mz_c29393, mz_c29394, mz_c29398, mz_c29399, mz_c29400, mz_c29401, nI_add, pk_mul, pk_m1, mz_pp, mz_pq]; congr 1; omega)) ?_
  try simp only [mz_c0, mz_cm1]
  have hF10 : mt_F (fun _ => False) G9 (mz_nw G9 (ω + 77) 4 0) O8 (mz_u1 O8 (ω + 77) (ω + 77)) (ω + 77) (ω + 77 + 1) := mt_F_nw
  have hW10 := hW8'.nw (v := ω + 77) (Nat.le_refl _)
  refine mz_Vci hC tk_X5_init rfl md_X4_init lk_RX5_26 rfl (ct_initW l E (G := mz_nw G9 (ω + 77) 4 0) (O := mz_u1 O8 (ω + 77) (ω + 77)) (sz := ω + 77 + 1) (t := ω + 77) (W := 3) (lim := 540) (mz_nw_K G9 (ω + 77) 4 0) (by omega) (mz_u1_s _ _ _) 28 (by omega) (by omega) (by omega) (fun _ _ => 0)) ⟨Nat.le_of_ble_eq_true rfl, Nat.le_of_ble_eq_true rfl⟩ ⟨by simp only [mz_rm]; omega, by simp only [mz_rm]; omega⟩ (Nat.le_of_ble_eq_true rfl) (fun v11 G11 sz11 hp11 => ?_)
  obtain ⟨rfl, hs11, O11, t11, hF11, hW11⟩ := hp11
  have hs11' : sz11 = ω + 79 := by omega
  rw [hs11'] at t11 hF11 hW11 ⊢
  have hW11' := hW11 hW10
  have hFab := hF10.nx (Y := fun q => q = ω + 77) hF11 (fun q hq _ => by have := hW8' q hq; omega)
  obtain ⟨⟨e1, e2⟩, e3, -, e5, e6⟩ := hFab.at c1 (by omega) (fun z => z)
  obtain ⟨⟨f1, f2⟩, f3, f4, -, -⟩ := hFab.at d1 (by omega) (fun z => z)
  have kω11 : mz_K G11 ω = 5 := by rw [e3, kω9]
  have hS11 := hS9.fr hFab (fun q h1 h2 z => z) (fun _ _ => rfl)
  have t11a := t9.fr hFab (fun z => z)
  have hG011 := hG09.nx hFab (fun q _ _ z => z)
  refine mz_VputFr hC tk_X5_init hnm rfl fo_RX5_33 kω11 rfl rfl rfl (fun C T N z => by cases (show some (RX5, TX5, 5) = some (C, T, N) from z); exact fk_RX5_33) ?_
  have hF12 : mt_F (fun q => q = ω) G11 (mz_sr G11 ω 4 (some (ω + 77))) O11 O11 (ω + 79) (ω + 79) := mt_F_sr e1
  have t12 := t11.fr hF12 (by omega)
  have t12a := t11a.fr hF12 (by omega)
  obtain ⟨G12, hG12⟩ : ∃ G12, G12 = mz_sr G11 ω 4 (some (ω + 77)) := ⟨_, rfl⟩
  have kω12 : mz_K G12 ω = 5 := by rw [hG12]; exact kω11
  have kA12 : mz_K G12 (ω + 74) = 11 := by rw [hG12]; show mz_K G11 (ω + 74) = 11; rw [f3, kA9]
  have nA12 : mz_n G12 (ω + 74) = 4 := by rw [hG12]; show mz_n G11 (ω + 74) = 4; rw [f4, nA9]
  have i122 : mz_i G12 ω 2 = nI 0 := by rw [hG12]; show mz_i G11 ω 2 = _; rw [e5, i92]
  have r120 : mz_r G12 ω 0 = some (ω + 1) := by rw [hG12, mr_sr_r, if_neg (by omega), e6, r90]
  have r121 : mz_r G12 ω 1 = some (ω + 74) := by rw [hG12, mr_sr_r, if_neg (by omega), e6, r91]
  have r123 : mz_r G12 ω 3 = some (ω + 75) := by rw [hG12, mr_sr_r, if_neg (by omega), e6, r93]
  have r124 : mz_r G12 ω 4 = some (ω + 77) := by rw [hG12, mr_sr_r, if_pos rfl]
  rw [← hG12] at hF12 t12 t12a ⊢
  have hS12 := hS11.fr hF12 (fun q h1 h2 z => by omega) (fun _ _ => rfl)
  have hG012 := hG011.tr hF12
  refine mz_sn_ok hC tk_X5_init pk_RX5 2 [] rfl (by (repeat' apply And.intro) <;> first | exact True.intro | assumption | (simp only [mz_cm1, mz_c0, mz_c1, mz_c2, mz_c3, mz_c4, mz_c5, mz_c6, mz_c7, mz_c8, mz_c10, mz_c17, mz_c20, mz_c28, mz_c58, mz_c63, mz_c98, mz_c294, mz_c526, mz_c532, mz_c540, mz_c999, mz_c1900, mz_c2403, mz_c29362, mz_c29363, mz_c29364, mz_c29390, mz_c29393, mz_c29394, mz_c29398, mz_c29399, mz_c29400, mz_c29401, nI_add, pk_mul, pk_m1, mz_pp, mz_pq]; done) | omega | (simp only [mz_cm1, mz_c0, mz_c1, mz_c2, mz_c3, mz_c4, mz_c5, mz_c6, mz_c7, mz_c8, mz_c10, mz_c17, mz_c20, mz_c28, mz_c58, mz_c63, mz_c98, mz_c294, mz_c526, mz_c532, mz_c540, mz_c999, mz_c1900, mz_c2403, mz_c29362, mz_c29363, mz_c29364, mz_c29390, mz_c29393, mz_c29394, mz_c29398, mz_c29399, mz_c29400, mz_c29401, nI_add, pk_mul, pk_m1, mz_pp, mz_pq]; congr 1; omega)) ?_
  try simp only [mz_c0, mz_cm1]
  refine mz_V.sub (lv' := [some (.ref ω), some (.int (nI 0))]) (by (repeat' apply And.intro) <;> first | with_reducible rfl | exact True.intro | (simp only [mz_cm1, mz_c0, mz_c1, mz_c2, mz_c3, mz_c4, mz_c5, mz_c6, mz_c7, mz_c8, mz_c10, mz_c17, mz_c20, mz_c28, mz_c58, mz_c63, mz_c98, mz_c294, mz_c526, mz_c532, mz_c540, mz_c999, mz_c1900, mz_c2403, mz_c29362, mz_c29363, mz_c29364, mz_c29390, mz_c29393, mz_c29394, mz_c29398, mz_c29399, mz_c29400, mz_c29401, nI_add, pk_mul, pk_m1, mz_pp, mz_pq]; done) | rfl) ?_
  refine mz_V.widen (k' := 78 + 73 * 0) (n' := 2300 + 2105 * 0) (by omega) (by omega) ?_
  exact cf_recs l E hC hret hω hW 4 0 G12 O11 (by omega) ⟨⟨⟨⟨⟨kω12, e1, by omega⟩, r120, r121, r123, r124⟩, i122⟩, ⟨⟨kA12, f1, by omega⟩, nA12⟩, fun j hj => absurd hj (by omega)⟩, hS12, fun j hj => absurd hj (by omega), t12a, t12⟩ hW11' hG012
end MRI

