/-! ===== the law's entry ===== -/
section EN
variable {E : mz_E} {p : Program} {l : Launch} {e : Env} {R : Room} {s : State} {m : MethodId} {args : Array Value} {below : List Frame} {meth : Method} {c : Code} {cc : ByteArray} {own : String} {nL k n : Nat} {Q : State → Prop} {T : List mz_R} {G : mz_G} {sz pc : Nat} {lv : List (Option Value)} {st : List Value}
theorem mz_Vnew5 (hC : mz_C E p s m args meth c cc own nL) (hT : mz_T cc T) {idx nx tg : Nat} (hat : mz_at T pc = some (.new idx, nx, tg)) (hlk : Cond.classLink own idx RX5 ∈ mz_ws) (hroom : k + 1 ≤ R.cells ∧ n + 5 ≤ R.slots) (kk : mz_V E p l e R s m args below meth c nL (k + 1) (n + 5) Q (mz_nw G sz 5 0) (sz + 1) nx lv (.ref sz :: st)) : mz_V E p l e R s m args below meth c nL k n Q G sz pc lv st :=
  mz_Vnew hC hT hat 5 (C := RX5) (TT := TX5) (N := 5) (ty := tyX5) rfl (by omega) rfl ix_5 tyX5_ok hlk it_RX5 in_RX5 (fun G0 q h1 h2 h3 j hj => by
    rcases (show j = 0 ∨ j = 1 ∨ j = 2 ∨ j = 3 ∨ j = 4 by omega) with rfl | rfl | rfl | rfl | rfl
    · show Value.null = va_rf (mz_r G0 q 0); rw [h2]; rfl
    · show Value.null = va_rf (mz_r G0 q 1); rw [h2]; rfl
    · show Value.int 0 = .int (mz_i G0 q 2); rw [h1]
    · show Value.null = va_rf (mz_r G0 q 3); rw [h2]; rfl
    · show Value.null = va_rf (mz_r G0 q 4); rw [h2]; rfl) hroom kk
theorem mz_Vnew6 (hC : mz_C E p s m args meth c cc own nL) (hT : mz_T cc T) {idx nx tg : Nat} (hat : mz_at T pc = some (.new idx, nx, tg)) (hlk : Cond.classLink own idx RX6 ∈ mz_ws) (hroom : k + 1 ≤ R.cells ∧ n + 8 ≤ R.slots) (kk : mz_V E p l e R s m args below meth c nL (k + 1) (n + 8) Q (mz_nw G sz 6 0) (sz + 1) nx lv (.ref sz :: st)) : mz_V E p l e R s m args below meth c nL k n Q G sz pc lv st :=
  mz_Vnew hC hT hat 6 (C := RX6) (TT := TX6) (N := 8) (ty := tyX6) rfl (by omega) rfl ix_6 tyX6_ok hlk it_RX6 in_RX6 (fun G0 q h1 h2 h3 j hj => by
    rcases (show j = 0 ∨ j = 1 ∨ j = 2 ∨ j = 3 ∨ j = 4 ∨ j = 5 ∨ j = 6 ∨ j = 7 by omega) with rfl | rfl | rfl | rfl | rfl | rfl | rfl | rfl
    · show Value.null = va_rf (mz_r G0 q 0); rw [h2]; rfl
    · show Value.null = va_rf (mz_r G0 q 1); rw [h2]; rfl
    · show Value.int 0 = .int (mz_i G0 q 2); rw [h1]
    · show Value.int 0 = .int (mz_i G0 q 3); rw [h1]
    · show Value.int 0 = .int (mz_i G0 q 4); rw [h1]
    · show Value.null = va_rf (mz_r G0 q 5); rw [h2]; rfl
    · show Value.null = va_rf (mz_r G0 q 6); rw [h2]; rfl
    · show Value.long 0 = .long (mz_l G0 q 7); rw [h3]) hroom kk
end EN
section ENT
variable (l : Launch) (E : mz_E)
set_option maxHeartbeats 8000000 in
theorem lw_entry {p : Program} {e : Env} {s : State} {m : MethodId} {args : Array Value} {below : List Frame} {meth : Method} {c : Code} {Q : State → Prop} (hC : mz_C E p s m args meth c code RL 7) {b : Nat} {G : mz_G} {sz : Nat} (kk : ∀ (A : mx_A) (ω o kc ks : Nat) (G' : mz_G) (sz' : Nat), jJ A ω o 0 kc ks G' sz' mx_x0 → mz_V E p l e room_1 s m args below meth c 7 kc ks Q G' sz' 23 [some (.ref b), some (.ref ω), some (.ref A.1), some (.ref o), some (.int (nI (6 * 0)))] []) : mz_V E p l e room_1 s m args below meth c 7 0 0 Q G sz 0 [some (.ref b)] [] := by
  refine mz_Vnew5 hC tk_lawh rfl ck_RL_8 ⟨by show _ ≤ 601024; omega, by show _ ≤ 7293034; omega⟩ ?_
  have kS : mz_K (mz_nw G sz 5 0) sz = 5 := mz_nw_K G sz 5 0
  obtain ⟨G1, hG1⟩ : ∃ G1, G1 = mz_nw G sz 5 0 := ⟨_, rfl⟩
  rw [← hG1] at kS ⊢
  clear hG1
  refine mz_sn_ok hC tk_lawh pk_RL 1 [] rfl (by (repeat' apply And.intro) <;> first | exact True.intro | assumption | (simp only [mz_cm1, mz_c0, mz_c1, mz_c2, mz_c3, mz_c4, mz_c5, mz_c6, mz_c7, mz_c8, mz_c10, mz_c17, mz_c20, mz_c28, mz_c58, mz_c63, mz_c98, mz_c294, mz_c526, mz_c532, mz_c540, mz_c999, mz_c1900, mz_c2403, mz_c29362, mz_c29363, mz_c29364, mz_c29390, mz_c29393, mz_c29394, mz_c29398, mz_c29399, mz_c29400, mz_c29401, nI_add, pk_mul, pk_m1, mz_pp, mz_pq]; done) | omega | (simp only [mz_cm1, mz_c0, mz_c1, mz_c2, mz_c3, mz_c4, mz_c5, mz_c6, mz_c7, mz_c8, mz_c10, mz_c17, mz_c20, mz_c28, mz_c58, mz_c63, mz_c98, mz_c294, mz_c526, mz_c532, mz_c540, mz_c999, mz_c1900, mz_c2403, mz_c29362, mz_c29363, mz_c29364, mz_c29390, mz_c29393, mz_c29394, mz_c29398, mz_c29399, mz_c29400, mz_c29401, nI_add, pk_mul, pk_m1, mz_pp, mz_pq]; congr 1; omega)) ?_
  try simp only [mz_c0, mz_cm1]
  refine mz_Vci hC tk_lawh rfl md_X5_init lk_RL_104 rfl (cf_init l E (O := fun q => q) kS rfl rfl (fun q hq => hq)) ⟨Nat.le_of_ble_eq_true rfl, Nat.le_of_ble_eq_true rfl⟩ ⟨by show _ ≤ 601024; omega, by show _ ≤ 7293034; omega⟩ (Nat.le_of_ble_eq_true rfl) (fun v2 G2 sz2 h2 => ?_)
  obtain ⟨rfl, hs2, O2, hM2, -, hW2⟩ := h2
  obtain ⟨ω, hω⟩ : ∃ ω, ω = sz := ⟨_, rfl⟩
  rw [← hω] at hM2 hs2 ⊢
  refine mz_sn_ok hC tk_lawh pk_RL 1 [] rfl (by (repeat' apply And.intro) <;> first | exact True.intro | assumption | (simp only [mz_cm1, mz_c0, mz_c1, mz_c2, mz_c3, mz_c4, mz_c5, mz_c6, mz_c7, mz_c8, mz_c10, mz_c17, mz_c20, mz_c28, mz_c58, mz_c63, mz_c98, mz_c294, mz_c526, mz_c532, mz_c540, mz_c999, mz_c1900, mz_c2403, mz_c29362, mz_c29363, mz_c29364, mz_c29390, mz_c29393, mz_c29394, mz_c29398, mz_c29399, mz_c29400, mz_c29401, nI_add, pk_mul, pk_m1, mz_pp, mz_pq]; done) | omega | (simp only [mz_cm1, mz_c0, mz_c1, mz_c2, mz_c3, mz_c4, mz_c5, mz_c6, mz_c7, mz_c8, mz_c10, mz_c17, mz_c20, mz_c28, mz_c58, mz_c63, mz_c98, mz_c294, mz_c526, mz_c532, mz_c540, mz_c999, mz_c1900, mz_c2403, mz_c29362, mz_c29363, mz_c29364, mz_c29390, mz_c29393, mz_c29394, mz_c29398, mz_c29399, mz_c29400, mz_c29401, nI_add, pk_mul, pk_m1, mz_pp, mz_pq]; congr 1; omega)) ?_
  try simp only [mz_c0, mz_cm1]
  refine mz_Vnew6 hC tk_lawh rfl ck_RL_105 ⟨by show _ ≤ 601024; omega, by show _ ≤ 7293034; omega⟩ ?_
  have kT : mz_K (mz_nw G2 sz2 6 0) sz2 = 6 := mz_nw_K G2 sz2 6 0
  have iT : mz_i (mz_nw G2 sz2 6 0) sz2 = fun _ => 0 := mz_nw_i G2 sz2 6 0
  have lT : mz_l (mz_nw G2 sz2 6 0) sz2 = fun _ => 0 := mz_nw_l G2 sz2 6 0
  have hF3 : mt_F (fun _ => False) G2 (mz_nw G2 sz2 6 0) O2 (mz_u1 O2 sz2 sz2) sz2 (sz2 + 1) := mt_F_nw
  have hW3 := hW2.nw (v := sz2) (Nat.le_refl _)
  have hM3 := hM2.fr hF3 (fun _ _ _ z => z)
  obtain ⟨G3, hG3⟩ : ∃ G3, G3 = mz_nw G2 sz2 6 0 := ⟨_, rfl⟩
  obtain ⟨O3, hO3⟩ : ∃ O3, O3 = mz_u1 O2 sz2 sz2 := ⟨_, rfl⟩
  have oT : O3 sz2 = sz2 := by rw [hO3]; exact mz_u1_s _ _ _
  rw [← hG3, ← hO3] at hM3
  rw [← hO3] at hW3
  rw [← hG3] at kT iT lT ⊢
  clear hF3 hG3 hO3 hM2
  refine mz_sn_ok hC tk_lawh pk_RL 1 [] rfl (by (repeat' apply And.intro) <;> first | exact True.intro | assumption | (simp only [mz_cm1, mz_c0, mz_c1, mz_c2, mz_c3, mz_c4, mz_c5, mz_c6, mz_c7, mz_c8, mz_c10, mz_c17, mz_c20, mz_c28, mz_c58, mz_c63, mz_c98, mz_c294, mz_c526, mz_c532, mz_c540, mz_c999, mz_c1900, mz_c2403, mz_c29362, mz_c29363, mz_c29364, mz_c29390, mz_c29393, mz_c29394, mz_c29398, mz_c29399, mz_c29400, mz_c29401, nI_add, pk_mul, pk_m1, mz_pp, mz_pq]; done) | omega | (simp only [mz_cm1, mz_c0, mz_c1, mz_c2, mz_c3, mz_c4, mz_c5, mz_c6, mz_c7, mz_c8, mz_c10, mz_c17, mz_c20, mz_c28, mz_c58, mz_c63, mz_c98, mz_c294, mz_c526, mz_c532, mz_c540, mz_c999, mz_c1900, mz_c2403, mz_c29362, mz_c29363, mz_c29364, mz_c29390, mz_c29393, mz_c29394, mz_c29398, mz_c29399, mz_c29400, mz_c29401, nI_add, pk_mul, pk_m1, mz_pp, mz_pq]; congr 1; omega)) ?_
  try simp only [mz_c0, mz_cm1]
  refine mz_Vci hC tk_lawh rfl md_X6_init lk_RL_107 rfl (cm_init l E (O := O3) kT rfl iT lT oT hW3) ⟨Nat.le_of_ble_eq_true rfl, Nat.le_of_ble_eq_true rfl⟩ ⟨by show _ ≤ 601024; omega, by show _ ≤ 7293034; omega⟩ (Nat.le_of_ble_eq_true rfl) (fun v4 G4 sz4 h4 => ?_)
  obtain ⟨rfl, hs4, ⟨hA4, hx4⟩, O4, hF4, hW4, o0, o1, o2, o3, o4⟩ := h4
  have hM4 := hM3.fr hF4 (fun q h1 h2 z => by omega)
  obtain ⟨A, hA⟩ : ∃ A : mx_A, A = (sz2, sz2 + 1, sz2 + 2, sz2 + 3, sz2 + 4) := ⟨_, rfl⟩
  have hYA : ∀ q, mx_Y A q → sz2 ≤ q ∧ q < sz2 + 5 ∧ O4 q = q := by
    intro q hq
    rw [hA] at hq
    unfold mx_Y at hq
    dsimp only at hq
    rcases hq with rfl | rfl | rfl | rfl | rfl
    · exact ⟨by omega, by omega, o0⟩
    · exact ⟨by omega, by omega, o1⟩
    · exact ⟨by omega, by omega, o2⟩
    · exact ⟨by omega, by omega, o3⟩
    · exact ⟨by omega, by omega, o4⟩
  have eA : A.1 = sz2 := by rw [hA]
  rw [← hA] at hA4 hx4
  refine mz_sn_ok hC tk_lawh pk_RL 2 [] rfl (by (repeat' apply And.intro) <;> first | exact True.intro | assumption | (simp only [mz_cm1, mz_c0, mz_c1, mz_c2, mz_c3, mz_c4, mz_c5, mz_c6, mz_c7, mz_c8, mz_c10, mz_c17, mz_c20, mz_c28, mz_c58, mz_c63, mz_c98, mz_c294, mz_c526, mz_c532, mz_c540, mz_c999, mz_c1900, mz_c2403, mz_c29362, mz_c29363, mz_c29364, mz_c29390, mz_c29393, mz_c29394, mz_c29398, mz_c29399, mz_c29400, mz_c29401, nI_add, pk_mul, pk_m1, mz_pp, mz_pq]; done) | omega | (simp only [mz_cm1, mz_c0, mz_c1, mz_c2, mz_c3, mz_c4, mz_c5, mz_c6, mz_c7, mz_c8, mz_c10, mz_c17, mz_c20, mz_c28, mz_c58, mz_c63, mz_c98, mz_c294, mz_c526, mz_c532, mz_c540, mz_c999, mz_c1900, mz_c2403, mz_c29362, mz_c29363, mz_c29364, mz_c29390, mz_c29393, mz_c29394, mz_c29398, mz_c29399, mz_c29400, mz_c29401, nI_add, pk_mul, pk_m1, mz_pp, mz_pq]; congr 1; omega)) ?_
  try simp only [mz_c0, mz_cm1]
  refine mz_Vnewl hC tk_lawh rfl 1 rfl (by omega) ⟨by show _ ≤ 601024; omega, by show _ ≤ 7293034; omega⟩ ac_long ?_
  have hF5 : mt_F (fun _ => False) G4 (mz_nw G4 sz4 12 1) O4 (mz_u1 O4 sz4 sz4) sz4 (sz4 + 1) := mt_F_nw
  have hM5 := hM4.fr hF5 (fun _ _ _ z => z)
  have kO : mz_K (mz_nw G4 sz4 12 1) sz4 = 12 := mz_nw_K G4 sz4 12 1
  have nO : mz_n (mz_nw G4 sz4 12 1) sz4 = 1 := mz_nw_n G4 sz4 12 1
  have hR4 := mx_rd_of hA4 hx4
  have ne : ∀ q, mx_Y A q → q ≠ sz4 := fun q hq => by have := hYA q hq; omega
  have y0 := ne A.1 (Or.inl rfl)
  have y1 := ne A.2.1 (Or.inr (Or.inl rfl))
  have y2 := ne A.2.2.1 (Or.inr (Or.inr (Or.inl rfl)))
  have y3 := ne A.2.2.2.1 (Or.inr (Or.inr (Or.inr (Or.inl rfl))))
  have y4 := ne A.2.2.2.2 (Or.inr (Or.inr (Or.inr (Or.inr rfl))))
  have eK : ∀ q, q ≠ sz4 → mz_K (mz_nw G4 sz4 12 1) q = mz_K G4 q := fun q hq => mz_u1_o _ _ hq
  have eN : ∀ q, q ≠ sz4 → mz_n (mz_nw G4 sz4 12 1) q = mz_n G4 q := fun q hq => mz_u1_o _ _ hq
  have eI : ∀ q, q ≠ sz4 → mz_i (mz_nw G4 sz4 12 1) q = mz_i G4 q := fun q hq => mz_u1_o _ _ hq
  have eR : ∀ q, q ≠ sz4 → mz_r (mz_nw G4 sz4 12 1) q = mz_r G4 q := fun q hq => mz_u1_o _ _ hq
  have eL : ∀ q, q ≠ sz4 → mz_l (mz_nw G4 sz4 12 1) q = mz_l G4 q := fun q hq => mz_u1_o _ _ hq
  have hA5 : mx_Ok A (mz_nw G4 sz4 12 1) := by
    obtain ⟨⟨q1, q2, q3, q4, q5⟩, ⟨q6, q7, q8, q9⟩, ⟨q10, q11, q12, q13⟩, q14⟩ := hA4
    exact ⟨⟨by rw [eK _ y0, q1], by rw [eR _ y0, q2], by rw [eR _ y0, q3], by rw [eR _ y0, q4], by rw [eR _ y0, q5]⟩, ⟨by rw [eK _ y1, q6], by rw [eK _ y2, q7], by rw [eK _ y3, q8], by rw [eK _ y4, q9]⟩, ⟨by rw [eN _ y1, q10], by rw [eN _ y2, q11], by rw [eN _ y3, q12], by rw [eN _ y4, q13]⟩, q14⟩
  have hx5 : mx_G A (mz_nw G4 sz4 12 1) mx_x0 = mz_nw G4 sz4 12 1 := by
    obtain ⟨⟨r1, r2, r3, r4⟩, ⟨r5, r6, r7⟩, r8⟩ := hR4
    exact mx_of_rd ⟨⟨by rw [eI _ y1, r1], by rw [eI _ y2, r2], by rw [eI _ y3, r3], by rw [eI _ y4, r4]⟩, ⟨by rw [eI _ y0, r5], by rw [eI _ y0, r6], by rw [eI _ y0, r7]⟩, by rw [eL _ y0, r8]⟩
  obtain ⟨G5, hG5⟩ : ∃ G5, G5 = mz_nw G4 sz4 12 1 := ⟨_, rfl⟩
  rw [← hG5] at hM5 kO nO hA5 hx5 ⊢
  have hCC : jC A ω sz4 G5 (mz_u1 O4 sz4 sz4) (sz4 + 1) mx_x0 (mr_B0 ω) 0 (fun _ => mr_f0) (fun _ _ => mr_L0) 84 84 := by
    refine ⟨⟨hM5, hA5, hx5⟩, fun q hq => ?_, ⟨kO, nO⟩, ⟨mz_u1_s _ _ _, by omega⟩, fun z => ?_, fun z => ne _ z rfl⟩
    · obtain ⟨q1, q2, q3⟩ := hYA q hq
      exact ⟨by rw [mz_u1_o _ _ (ne q hq)]; exact q3, by omega, fun z => by unfold mr_ZZ at z; omega⟩
    · unfold mr_ZZ at z; omega
  have hRR : jR 0 mx_x0 0 (fun _ => mr_f0) := ⟨⟨rfl, rfl⟩, fun j hj => absurd hj (by omega), iv_T0, fun j hj => absurd hj (by omega)⟩
  have hp : mr_Pt (fun _ _ => mr_L0) + mr_pv 84 + mr_pv 84 ≤ 299000 := by decide +kernel
  have hJ : jJ A ω sz4 0 377 161719 G5 (sz4 + 1) mx_x0 := ⟨_, _, _, _, _, _, _, hCC, hRR, by omega, by omega⟩
  refine mz_sn_ok hC tk_lawh pk_RL 3 [] rfl (by (repeat' apply And.intro) <;> first | exact True.intro | assumption | (simp only [mz_cm1, mz_c0, mz_c1, mz_c2, mz_c3, mz_c4, mz_c5, mz_c6, mz_c7, mz_c8, mz_c10, mz_c17, mz_c20, mz_c28, mz_c58, mz_c63, mz_c98, mz_c294, mz_c526, mz_c532, mz_c540, mz_c999, mz_c1900, mz_c2403, mz_c29362, mz_c29363, mz_c29364, mz_c29390, mz_c29393, mz_c29394, mz_c29398, mz_c29399, mz_c29400, mz_c29401, nI_add, pk_mul, pk_m1, mz_pp, mz_pq]; done) | omega | (simp only [mz_cm1, mz_c0, mz_c1, mz_c2, mz_c3, mz_c4, mz_c5, mz_c6, mz_c7, mz_c8, mz_c10, mz_c17, mz_c20, mz_c28, mz_c58, mz_c63, mz_c98, mz_c294, mz_c526, mz_c532, mz_c540, mz_c999, mz_c1900, mz_c2403, mz_c29362, mz_c29363, mz_c29364, mz_c29390, mz_c29393, mz_c29394, mz_c29398, mz_c29399, mz_c29400, mz_c29401, nI_add, pk_mul, pk_m1, mz_pp, mz_pq]; congr 1; omega)) ?_
  try simp only [mz_c0, mz_cm1]
  refine mz_V.widen (k' := 377) (n' := 161719) (by omega) (by omega) ?_
  have := kk A ω sz4 377 161719 G5 (sz4 + 1) hJ
  rw [eA] at this
  exact this
end ENT

