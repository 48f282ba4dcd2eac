/-! ===== the class: undo ===== -/
section MRF
variable (l : Launch) (E : mz_E) {G : mz_G} {O : Nat → Nat} {sz ω : Nat} {B : Nat → Nat} {sv : Nat} {F : Nat → Nat → Int32} {Λ : Nat → Nat → Nat → Nat} {v1 v2 : Nat}
theorem cf_undo (s1 : Nat) (hM : mr_M G O sz ω B (s1 + 1) F Λ v1 v2) : mz_M l E yX5_undo cX5_undo 2 (some .int) 6 0 0 [.ref ω] G sz (fun v' G' sz' => v' = some (.int (nI s1)) ∧ mr_M G' O sz' ω (mr_swp B (s1 + 1)) s1 (mr_swp F (s1 + 1)) (mr_swp Λ (s1 + 1)) v1 v2 ∧ mt_F (mr_ZZ ω) G G' O O sz sz') := by
  obtain ⟨⟨⟨⟨⟨kω, oω, zω⟩, rω0, rω1, rω3, rω4⟩, iω2, sv4⟩, ⟨⟨kA, oA, zA⟩, nA⟩, hrA⟩, ⟨hd1, hd2⟩, hst, ⟨⟨vn1, vh1, vt1⟩, vc1⟩, ⟨vn2, vh2, vt2⟩, vc2⟩ := id hM
  have hS0 := hst 0 (by omega)
  obtain ⟨⟨⟨⟨⟨kσ, oσ, zσ⟩, iσ4⟩, rσ0, rσ1, rσ2, rσ3⟩, ⟨⟨⟨kβ, oβ, zβ⟩, nβ⟩, hrβ⟩, ⟨⟨⟨kκ, oκ, zκ⟩, nκ⟩, hrκ⟩⟩, ⟨⟨tq, hq⟩, ⟨⟨k5, o5, z5⟩, n5⟩, hw5⟩, hbx, hmc⟩ := id hS0
  have hrs := hrA s1 (by omega)
  obtain ⟨hM1, hF1⟩ := hM.sc s1 (by omega)
  refine mz_start (by decide) (Nat.le_of_ble_eq_true rfl) ?_
  intro p e s m args below meth c hC hret hnm
  refine mz_sn_ok hC tk_X5_undo pk_RX5 2 [] rfl (by (repeat' apply And.intro) <;> first | exact True.intro | assumption | (simp only [mz_cm1, mz_c0, mz_c1, mz_c2, mz_c3, mz_c4, mz_c5, mz_c6, mz_c7, mz_c8, mz_c10, mz_c17, mz_c20, mz_c28, mz_c58, mz_c63, mz_c98, mz_c294, mz_c526, mz_c532, mz_c540, mz_c999, mz_c1900, mz_c2403, mz_c29362, mz_c29363, mz_c29364, mz_c29390, mz_c29393, mz_c29394, mz_c29398, mz_c29399, mz_c29400, mz_c29401, nI_add, pk_mul, pk_m1, mz_pp, mz_pq, iω2]; done) | omega | (simp only [mz_cm1, mz_c0, mz_c1, mz_c2, mz_c3, mz_c4, mz_c5, mz_c6, mz_c7, mz_c8, mz_c10, mz_c17, mz_c20, mz_c28, mz_c58, mz_c63, mz_c98, mz_c294, mz_c526, mz_c532, mz_c540, mz_c999, mz_c1900, mz_c2403, mz_c29362, mz_c29363, mz_c29364, mz_c29390, mz_c29393, mz_c29394, mz_c29398, mz_c29399, mz_c29400, mz_c29401, nI_add, pk_mul, pk_m1, mz_pp, mz_pq, iω2]; congr 1; omega)) ?_
  try simp only [mz_c0, mz_cm1, iω2]
  refine mz_br_t hC tk_X5_undo rfl ((by show 0 < nI (s1 + 1); exact nI_lt (a := 0) (by omega) (by omega))) ?_
  refine mz_sn_ok hC tk_X5_undo pk_RX5 6 [] rfl (by (repeat' apply And.intro) <;> first | exact True.intro | assumption | (simp only [mz_cm1, mz_c0, mz_c1, mz_c2, mz_c3, mz_c4, mz_c5, mz_c6, mz_c7, mz_c8, mz_c10, mz_c17, mz_c20, mz_c28, mz_c58, mz_c63, mz_c98, mz_c294, mz_c526, mz_c532, mz_c540, mz_c999, mz_c1900, mz_c2403, mz_c29362, mz_c29363, mz_c29364, mz_c29390, mz_c29393, mz_c29394, mz_c29398, mz_c29399, mz_c29400, mz_c29401, nI_add, pk_mul, pk_m1, mz_pp, mz_pq, iω2]; done) | omega | (simp only [mz_cm1, mz_c0, mz_c1, mz_c2, mz_c3, mz_c4, mz_c5, mz_c6, mz_c7, mz_c8, mz_c10, mz_c17, mz_c20, mz_c28, mz_c58, mz_c63, mz_c98, mz_c294, mz_c526, mz_c532, mz_c540, mz_c999, mz_c1900, mz_c2403, mz_c29362, mz_c29363, mz_c29364, mz_c29390, mz_c29393, mz_c29394, mz_c29398, mz_c29399, mz_c29400, mz_c29401, nI_add, pk_mul, pk_m1, mz_pp, mz_pq, iω2]; congr 1; omega)) ?_
  try simp only [mz_c0, mz_cm1, iω2]
  have k1 := hM1.1.1.1.1.1
  have ra0 := hM1.1.1.1.2.1
  have ra1 := hM1.1.1.1.2.2.1
  have ia2 := hM1.1.1.2.1
  have kA1 := hM1.1.2.1.1.1
  have nA1 := hM1.1.2.1.2
  have hrs1 := hM1.1.2.2 s1 (by omega)
  have kbs := (hM1.2.2.1 (s1 + 1) (by omega)).1.1.1.1.1
  have kb0 := (hM1.2.2.1 0 (by omega)).1.1.1.1.1
  rw [mz_pp]
  generalize mz_si G ω 2 (nI s1) = G1 at *
  refine mz_sn_ok hC tk_X5_undo pk_RX5 10 [B 0, ω + 74, s1, B (s1 + 1)] rfl (by (repeat' apply And.intro) <;> first | exact True.intro | assumption | (simp only [mz_cm1, mz_c0, mz_c1, mz_c2, mz_c3, mz_c4, mz_c5, mz_c6, mz_c7, mz_c8, mz_c10, mz_c17, mz_c20, mz_c28, mz_c58, mz_c63, mz_c98, mz_c294, mz_c526, mz_c532, mz_c540, mz_c999, mz_c1900, mz_c2403, mz_c29362, mz_c29363, mz_c29364, mz_c29390, mz_c29393, mz_c29394, mz_c29398, mz_c29399, mz_c29400, mz_c29401, nI_add, pk_mul, pk_m1, mz_pp, mz_pq, ia2]; done) | omega | (simp only [mz_cm1, mz_c0, mz_c1, mz_c2, mz_c3, mz_c4, mz_c5, mz_c6, mz_c7, mz_c8, mz_c10, mz_c17, mz_c20, mz_c28, mz_c58, mz_c63, mz_c98, mz_c294, mz_c526, mz_c532, mz_c540, mz_c999, mz_c1900, mz_c2403, mz_c29362, mz_c29363, mz_c29364, mz_c29390, mz_c29393, mz_c29394, mz_c29398, mz_c29399, mz_c29400, mz_c29401, nI_add, pk_mul, pk_m1, mz_pp, mz_pq, ia2]; congr 1; omega)) ?_
  try simp only [mz_c0, mz_cm1, ia2]
  have hF2 : mt_F (fun q => q = ω) G1 (mz_sr G1 ω 0 (some (B (s1 + 1)))) O O sz sz := mt_F_sr oω
  obtain ⟨G2, hG2⟩ : ∃ G2, G2 = mz_sr G1 ω 0 (some (B (s1 + 1))) := ⟨_, rfl⟩
  have k2 : mz_K G2 ω = 5 := by rw [hG2]; exact k1
  have i2 : mz_i G2 ω 2 = nI s1 := by rw [hG2]; exact ia2
  have r2 : mz_r G2 ω 1 = some (ω + 74) := by rw [hG2]; show mz_u2 (mz_r G1) ω 0 _ ω 1 = _; rw [mz_u2_j _ _ _ _ (by omega)]; exact ra1
  have kA2 : mz_K G2 (ω + 74) = 11 := by rw [hG2]; exact kA1
  have nA2 : mz_n G2 (ω + 74) = 4 := by rw [hG2]; exact nA1
  have kb2 : mz_K G2 (B 0) = 3 := by rw [hG2]; exact kb0
  rw [← hG2] at hF2 ⊢
  refine mz_sn_ok hC tk_X5_undo pk_RX5 6 [ω + 74, s1] rfl (by (repeat' apply And.intro) <;> first | exact True.intro | assumption | (simp only [mz_cm1, mz_c0, mz_c1, mz_c2, mz_c3, mz_c4, mz_c5, mz_c6, mz_c7, mz_c8, mz_c10, mz_c17, mz_c20, mz_c28, mz_c58, mz_c63, mz_c98, mz_c294, mz_c526, mz_c532, mz_c540, mz_c999, mz_c1900, mz_c2403, mz_c29362, mz_c29363, mz_c29364, mz_c29390, mz_c29393, mz_c29394, mz_c29398, mz_c29399, mz_c29400, mz_c29401, nI_add, pk_mul, pk_m1, mz_pp, mz_pq, i2]; done) | omega | (simp only [mz_cm1, mz_c0, mz_c1, mz_c2, mz_c3, mz_c4, mz_c5, mz_c6, mz_c7, mz_c8, mz_c10, mz_c17, mz_c20, mz_c28, mz_c58, mz_c63, mz_c98, mz_c294, mz_c526, mz_c532, mz_c540, mz_c999, mz_c1900, mz_c2403, mz_c29362, mz_c29363, mz_c29364, mz_c29390, mz_c29393, mz_c29394, mz_c29398, mz_c29399, mz_c29400, mz_c29401, nI_add, pk_mul, pk_m1, mz_pp, mz_pq, i2]; congr 1; omega)) ?_
  try simp only [mz_c0, mz_cm1, i2]
  have k3 : mz_K (mz_sr G2 (ω + 74) s1 (some (B 0))) ω = 5 := k2
  have i3 : mz_i (mz_sr G2 (ω + 74) s1 (some (B 0))) ω 2 = nI s1 := i2
  refine mz_sn_ok hC tk_X5_undo pk_RX5 2 [] rfl (by (repeat' apply And.intro) <;> first | exact True.intro | assumption | (simp only [mz_cm1, mz_c0, mz_c1, mz_c2, mz_c3, mz_c4, mz_c5, mz_c6, mz_c7, mz_c8, mz_c10, mz_c17, mz_c20, mz_c28, mz_c58, mz_c63, mz_c98, mz_c294, mz_c526, mz_c532, mz_c540, mz_c999, mz_c1900, mz_c2403, mz_c29362, mz_c29363, mz_c29364, mz_c29390, mz_c29393, mz_c29394, mz_c29398, mz_c29399, mz_c29400, mz_c29401, nI_add, pk_mul, pk_m1, mz_pp, mz_pq, i3]; done) | omega | (simp only [mz_cm1, mz_c0, mz_c1, mz_c2, mz_c3, mz_c4, mz_c5, mz_c6, mz_c7, mz_c8, mz_c10, mz_c17, mz_c20, mz_c28, mz_c58, mz_c63, mz_c98, mz_c294, mz_c526, mz_c532, mz_c540, mz_c999, mz_c1900, mz_c2403, mz_c29362, mz_c29363, mz_c29364, mz_c29390, mz_c29393, mz_c29394, mz_c29398, mz_c29399, mz_c29400, mz_c29401, nI_add, pk_mul, pk_m1, mz_pp, mz_pq, i3]; congr 1; omega)) ?_
  try simp only [mz_c0, mz_cm1, i3]
  have hF3 : mt_F (fun q => q = ω + 74) G2 (mz_sr G2 (ω + 74) s1 (some (B 0))) O O sz sz := mt_F_sr oA
  have z1 : ∀ q, q = ω → mr_ZZ ω q := fun q z => by unfold mr_ZZ; omega
  have hFF : mt_F (fun q => q = ω ∨ q = ω + 74) G1 (mz_sr G2 (ω + 74) s1 (some (B 0))) O O sz sz := (hF2.mono (fun q z => Or.inl z)).tr (hF3.mono (fun q z => Or.inr z))
  have hs5 : ∀ i, i < 5 → mr_s1 (s1 + 1) i < 5 := fun i hi => by unfold mr_s1; split <;> (try split) <;> omega
  have inj : ∀ i j, i < 5 → j < 5 → i ≠ j → mr_s1 (s1 + 1) i ≠ mr_s1 (s1 + 1) j := fun i j hi hj hij => by unfold mr_s1; split <;> split <;> (try split) <;> (try split) <;> omega
  obtain ⟨⟨⟨⟨-, -, -, rb3, rb4⟩, -, -⟩, -, hrb⟩, -, hstb, ⟨⟨n5, h5, t5⟩, c5⟩, ⟨n7, h7, t7⟩, c7⟩ := id hM1
  refine mz_Vireturn hC tk_X5_undo rfl hret rfl (Nat.le_of_ble_eq_true rfl) (Nat.le_of_ble_eq_true rfl) ?_
  refine ⟨rfl, ⟨⟨⟨⟨⟨k2, oω, zω⟩, ?_, ?_, ?_, ?_⟩, i2, by omega⟩, ⟨⟨kA2, oA, zA⟩, nA2⟩, fun j hj => ?_⟩, ⟨fun i j hi hj hij => ?_, fun i hi => ?_⟩, fun j hj => ?_, ⟨⟨n5, h5, t5.fr hFF (by omega)⟩, c5⟩, ⟨n7, h7, t7.fr hFF (by omega)⟩, c7⟩, (hF1.mono z1).tr (hFF.mono (fun q z => by unfold mr_ZZ; omega))⟩
  · show mz_u2 (mz_r G2) (ω + 74) s1 _ ω 0 = _
    rw [mz_u2_o _ _ _ (by omega), hG2]
    exact mz_u2_s _ _ _ _
  · show mz_u2 (mz_r G2) (ω + 74) s1 _ ω 1 = _
    rw [mz_u2_o _ _ _ (by omega), r2]
  · show mz_u2 (mz_r G2) (ω + 74) s1 _ ω 3 = _
    rw [mz_u2_o _ _ _ (by omega), hG2]
    show mz_u2 (mz_r G1) ω 0 _ ω 3 = _
    rw [mz_u2_j _ _ _ _ (by omega)]
    exact rb3
  · show mz_u2 (mz_r G2) (ω + 74) s1 _ ω 4 = _
    rw [mz_u2_o _ _ _ (by omega), hG2]
    show mz_u2 (mz_r G1) ω 0 _ ω 4 = _
    rw [mz_u2_j _ _ _ _ (by omega)]
    exact rb4
  · show mz_u2 (mz_r G2) (ω + 74) s1 _ (ω + 74) j = _
    unfold mr_swp
    by_cases h : j = s1
    · rw [h, mz_u2_s, if_neg (by omega), if_pos rfl]
    · rw [mz_u2_j _ _ _ _ h, if_neg (by omega), if_neg (by omega), hG2]
      show mz_u2 (mz_r G1) ω 0 _ (ω + 74) j = _
      rw [mz_u2_o _ _ _ (by omega)]
      exact hrb j hj
  · rw [mr_swp_r, mr_swp_r]
    exact hd1 _ _ (hs5 i hi) (hs5 j hj) (inj i j hi hj hij)
  · rw [mr_swp_r]
    exact hd2 _ (hs5 i hi)
  · rw [mr_swp_r B, mr_swp_r F, mr_swp_r Λ]
    have := hd2 _ (hs5 j hj)
    exact (hstb _ (hs5 j hj)).fr hFF (fun q h1 h2 z => by omega) (fun _ _ => rfl)
end MRF

