/-! ===== the class: the whole object; a record is kept ===== -/
/-- the object at ω: B the bases of its States (0 now, j + 1 record j), F what they hold, Λ their rooms, v1 v2 the rooms of the two views -/
def mr_M (G : mz_G) (O : Nat → Nat) (sz ω : Nat) (B : Nat → Nat) (sv : Nat) (F : Nat → Nat → Int32) (Λ : Nat → Nat → Nat → Nat) (v1 v2 : Nat) : Prop :=
  ((((mz_K G ω = 5 ∧ O ω = ω ∧ ω < sz) ∧ (mz_r G ω 0 = some (B 0) ∧ mz_r G ω 1 = some (ω + 74) ∧ mz_r G ω 3 = some (ω + 75) ∧ mz_r G ω 4 = some (ω + 77))) ∧ (mz_i G ω 2 = nI sv ∧ sv ≤ 4)) ∧
  (((mz_K G (ω + 74) = 11 ∧ O (ω + 74) = ω + 74 ∧ ω + 74 < sz) ∧ mz_n G (ω + 74) = 4) ∧ ∀ j, j < 4 → mz_r G (ω + 74) j = some (B (j + 1)))) ∧
  ((∀ i j, i < 5 → j < 5 → i ≠ j → B i + 73 ≤ B j ∨ B j + 73 ≤ B i) ∧ (∀ i, i < 5 → ω < B i ∧ ((B i + 73 ≤ ω + 74 ∨ ω + 79 ≤ B i) ∧ B i + 73 ≤ ω + 371))) ∧
  (∀ i, i < 5 → mr_S G O sz (B i) (F i) (Λ i)) ∧
  (((∃ n h, mt_T G O sz (ω + 75) 3 540 n v1 h) ∧ mr_cv v1) ∧ ((∃ n h, mt_T G O sz (ω + 77) 3 540 n v2 h) ∧ mr_cv v2))
section MRM
variable {X : Nat → Prop} {G G' : mz_G} {O O' : Nat → Nat} {sz sz' ω : Nat} {B : Nat → Nat} {sv : Nat} {F : Nat → Nat → Int32} {Λ : Nat → Nat → Nat → Nat} {v1 v2 : Nat}
/-- a State changed -/
theorem mr_M.st (h : mr_M G O sz ω B sv F Λ v1 v2) {i : Nat} (hi : i < 5) {f' : Nat → Int32} {Λ' : Nat → Nat → Nat} (hF : mt_F (mr_Z (B i)) G G' O O' sz sz') (hS : mr_S G' O' sz' (B i) f' Λ') : mr_M G' O' sz' ω B sv (mz_u1 F i f') (mz_u1 Λ i Λ') v1 v2 := by
  obtain ⟨⟨⟨⟨⟨k0, o0, z0⟩, r0, r1, r3, r4⟩, i2, s4⟩, ⟨⟨k1, o1, z1⟩, n1⟩, hr⟩, ⟨hd1, hd2⟩, hst, ⟨⟨n5, h5, t5⟩, c5⟩, ⟨n7, h7, t7⟩, c7⟩ := h
  obtain ⟨w1, w2⟩ := hd2 i hi
  obtain ⟨⟨a1, a2⟩, a3, a4, a5, a6⟩ := hF.at o0 z0 (fun z => by unfold mr_Z at z; omega)
  obtain ⟨⟨b1, b2⟩, b3, b4, b5, b6⟩ := hF.at o1 z1 (fun z => by unfold mr_Z at z; omega)
  refine ⟨⟨⟨⟨⟨by rw [a3, k0], a1, a2⟩, by rw [a6, r0], by rw [a6, r1], by rw [a6, r3], by rw [a6, r4]⟩, by rw [a5, i2], s4⟩, ⟨⟨by rw [b3, k1], b1, b2⟩, by rw [b4, n1]⟩, fun j hj => by rw [b6]; exact hr j hj⟩, ⟨hd1, hd2⟩, fun j hj => ?_, ⟨⟨n5, h5, t5.fr hF (fun z => by unfold mr_Z at z; omega)⟩, c5⟩, ⟨n7, h7, t7.fr hF (fun z => by unfold mr_Z at z; omega)⟩, c7⟩
  by_cases hij : j = i
  · subst hij
    rw [mz_u1_s, mz_u1_s]
    exact hS
  · rw [mz_u1_o _ _ hij, mz_u1_o _ _ hij]
    have := hd1 j i hj hi hij
    exact (hst j hj).fr hF (fun q h1 h2 z => by unfold mr_Z at z; omega) (fun _ _ => rfl)
/-- a view changed -/
theorem mr_M.vw1 (h : mr_M G O sz ω B sv F Λ v1 v2) {v' n' : Nat} {h' : Nat → Nat → Int32} (hF : mt_F (fun q => q = ω + 75) G G' O O' sz sz') (ht : mt_T G' O' sz' (ω + 75) 3 540 n' v' h') (hc : mr_cv v') : mr_M G' O' sz' ω B sv F Λ v' v2 := by
  obtain ⟨⟨⟨⟨⟨k0, o0, z0⟩, r0, r1, r3, r4⟩, i2, s4⟩, ⟨⟨k1, o1, z1⟩, n1⟩, hr⟩, ⟨hd1, hd2⟩, hst, -, ⟨n7, h7, t7⟩, c7⟩ := h
  obtain ⟨⟨a1, a2⟩, a3, a4, a5, a6⟩ := hF.at o0 z0 (by omega)
  obtain ⟨⟨b1, b2⟩, b3, b4, b5, b6⟩ := hF.at o1 z1 (by omega)
  refine ⟨⟨⟨⟨⟨by rw [a3, k0], a1, a2⟩, by rw [a6, r0], by rw [a6, r1], by rw [a6, r3], by rw [a6, r4]⟩, by rw [a5, i2], s4⟩, ⟨⟨by rw [b3, k1], b1, b2⟩, by rw [b4, n1]⟩, fun j hj => by rw [b6]; exact hr j hj⟩, ⟨hd1, hd2⟩, fun j hj => ?_, ⟨⟨n', h', ht⟩, hc⟩, ⟨n7, h7, t7.fr hF (by omega)⟩, c7⟩
  have := hd2 j hj
  exact (hst j hj).fr hF (fun q h1 h2 z => by omega) (fun _ _ => rfl)
theorem mr_M.vw2 (h : mr_M G O sz ω B sv F Λ v1 v2) {v' n' : Nat} {h' : Nat → Nat → Int32} (hF : mt_F (fun q => q = ω + 77) G G' O O' sz sz') (ht : mt_T G' O' sz' (ω + 77) 3 540 n' v' h') (hc : mr_cv v') : mr_M G' O' sz' ω B sv F Λ v1 v' := by
  obtain ⟨⟨⟨⟨⟨k0, o0, z0⟩, r0, r1, r3, r4⟩, i2, s4⟩, ⟨⟨k1, o1, z1⟩, n1⟩, hr⟩, ⟨hd1, hd2⟩, hst, ⟨⟨n5, h5, t5⟩, c5⟩, -⟩ := h
  obtain ⟨⟨a1, a2⟩, a3, a4, a5, a6⟩ := hF.at o0 z0 (by omega)
  obtain ⟨⟨b1, b2⟩, b3, b4, b5, b6⟩ := hF.at o1 z1 (by omega)
  refine ⟨⟨⟨⟨⟨by rw [a3, k0], a1, a2⟩, by rw [a6, r0], by rw [a6, r1], by rw [a6, r3], by rw [a6, r4]⟩, by rw [a5, i2], s4⟩, ⟨⟨by rw [b3, k1], b1, b2⟩, by rw [b4, n1]⟩, fun j hj => by rw [b6]; exact hr j hj⟩, ⟨hd1, hd2⟩, fun j hj => ?_, ⟨⟨n5, h5, t5.fr hF (by omega)⟩, c5⟩, ⟨n', h', ht⟩, hc⟩
  have := hd2 j hj
  exact (hst j hj).fr hF (fun q h1 h2 z => by omega) (fun _ _ => rfl)
/-- the count of records changed -/
theorem mr_M.sc (h : mr_M G O sz ω B sv F Λ v1 v2) (s' : Nat) (hs : s' ≤ 4) : mr_M (mz_si G ω 2 (nI s')) O sz ω B s' F Λ v1 v2 ∧ mt_F (fun q => q = ω) G (mz_si G ω 2 (nI s')) O O sz sz := by
  obtain ⟨⟨⟨⟨⟨k0, o0, z0⟩, r0, r1, r3, r4⟩, i2, s4⟩, ⟨⟨k1, o1, z1⟩, n1⟩, hr⟩, ⟨hd1, hd2⟩, hst, ⟨⟨n5, h5, t5⟩, c5⟩, ⟨n7, h7, t7⟩, c7⟩ := h
  have hF : mt_F (fun q => q = ω) G (mz_si G ω 2 (nI s')) O O sz sz := mt_F_si o0
  refine ⟨⟨⟨⟨⟨⟨k0, o0, z0⟩, r0, r1, r3, r4⟩, ?_, hs⟩, ⟨⟨k1, o1, z1⟩, n1⟩, hr⟩, ⟨hd1, hd2⟩, fun j hj => ?_, ⟨⟨n5, h5, t5.fr hF (by omega)⟩, c5⟩, ⟨n7, h7, t7.fr hF (by omega)⟩, c7⟩, hF⟩
  · show mz_u2 (mz_i G) ω 2 _ ω 2 = _
    rw [mz_u2_s]
  · have := hd2 j hj
    exact (hst j hj).fr hF (fun q h1 h2 z => by omega) (fun _ _ => rfl)
/-- one round of the records -/
def mr_rot {α : Type} (B : Nat → α) : Nat → α := fun i => if i = 0 then B 0 else if i = 4 then B 1 else B (i + 1)
def mr_r1 (i : Nat) : Nat := if i = 0 then 0 else if i = 4 then 1 else i + 1
theorem mr_rot_r {α : Type} (B : Nat → α) (i : Nat) : mr_rot B i = B (mr_r1 i) := by
  unfold mr_rot mr_r1
  split
  · rfl
  · split <;> rfl
theorem mr_M.rot (h : mr_M G O sz ω B sv F Λ v1 v2) (hF : mt_F (fun q => q = ω + 74) G G' O O' sz sz') (hK : mz_K G' (ω + 74) = 11 ∧ O' (ω + 74) = ω + 74 ∧ ω + 74 < sz') (hn : mz_n G' (ω + 74) = 4) (hr' : ∀ j, j < 4 → mz_r G' (ω + 74) j = some (mr_rot B (j + 1))) : mr_M G' O' sz' ω (mr_rot B) sv (mr_rot F) (mr_rot Λ) v1 v2 := by
  obtain ⟨⟨⟨⟨⟨k0, o0, z0⟩, r0, r1, r3, r4⟩, i2, s4⟩, -⟩, ⟨hd1, hd2⟩, hst, ⟨⟨n5, h5, t5⟩, c5⟩, ⟨n7, h7, t7⟩, c7⟩ := h
  obtain ⟨⟨a1, a2⟩, a3, a4, a5, a6⟩ := hF.at o0 z0 (by omega)
  have hr1 : ∀ i, i < 5 → mr_r1 i < 5 := fun i hi => by unfold mr_r1; split <;> (try split) <;> omega
  have inj : ∀ i j, i < 5 → j < 5 → i ≠ j → mr_r1 i ≠ mr_r1 j := fun i j hi hj hij => by unfold mr_r1; split <;> split <;> (try split) <;> (try split) <;> omega
  refine ⟨⟨⟨⟨⟨by rw [a3, k0], a1, a2⟩, by rw [a6, r0]; rfl, by rw [a6, r1], by rw [a6, r3], by rw [a6, r4]⟩, by rw [a5, i2], s4⟩, ⟨hK, hn⟩, hr'⟩, ⟨fun i j hi hj hij => ?_, fun i hi => ?_⟩, fun j hj => ?_, ⟨⟨n5, h5, t5.fr hF (by omega)⟩, c5⟩, ⟨n7, h7, t7.fr hF (by omega)⟩, c7⟩
  · rw [mr_rot_r, mr_rot_r]
    exact hd1 _ _ (hr1 i hi) (hr1 j hj) (inj i j hi hj hij)
  · rw [mr_rot_r]
    exact hd2 _ (hr1 i hi)
  · rw [mr_rot_r B, mr_rot_r F, mr_rot_r Λ]
    have := hd2 _ (hr1 j hj)
    exact (hst _ (hr1 j hj)).fr hF (fun q h1 h2 z => by omega) (fun _ _ => rfl)
end MRM
/-- the objects of the whole -/
def mr_ZZ (ω : Nat) : Nat → Prop := fun q => ω ≤ q ∧ q < ω + 371
section MRM
variable (l : Launch) (E : mz_E) {G : mz_G} {O : Nat → Nat} {sz ω : Nat} {B : Nat → Nat} {sv : Nat} {F : Nat → Nat → Int32} {Λ : Nat → Nat → Nat → Nat} {v1 v2 : Nat}
theorem cf_keepTail {G0 : mz_G} {O0 : Nat → Nat} {sz0 : Nat} (hF0 : mt_F (mr_ZZ ω) G0 G O0 O sz0 sz) {p : Program} {e : Env} {s : State} {m : MethodId} {args : Array Value} {below : List Frame} {meth : Method} {c : Code} (hC : mz_C E p s m args meth c cX5_keepRecord yX5_keepRecord.cls 3) (hret : meth.sig.returnType = none) (s1 U : Nat) (hM : mr_M G O sz ω B s1 F Λ v1 v2) (h4 : s1 < 4) (hU : U = mr_Ph (Λ (s1 + 1)) - mr_Ph (mr_tS (F 0) (Λ (s1 + 1)) (Λ 0))) : mz_V E p l e (mz_rm 7 U U) s m args below meth c 3 (0) (0) (mz_Z E below args s U U (fun v' G' sz' => v' = none ∧ ∃ O', mr_M G' O' sz' ω B (s1 + 1) (mz_u1 F (s1 + 1) (F 0)) (mz_u1 Λ (s1 + 1) (mr_tS (F 0) (Λ (s1 + 1)) (Λ 0))) v1 v2 ∧ mt_F (mr_ZZ ω) G0 G' O0 O' sz0 sz')) (G) (sz) (54) [some (.ref ω)] [] := by
  obtain ⟨⟨⟨⟨⟨k0, o0, z0⟩, r0, r1, -, -⟩, i2, -⟩, ⟨⟨k1, -, -⟩, n1⟩, hr⟩, ⟨hd1, hd2⟩, hst, -⟩ := id hM
  have hrs := hr s1 h4
  have hS := hst (s1 + 1) (by omega)
  have hS0 := hst 0 (by omega)
  have hd := hd1 (s1 + 1) 0 (by omega) (by omega) (by omega)
  have hKs := hS.1.1.1.1.1
  refine mz_sn_ok hC tk_X5_keepRecord pk_RX5 7 [ω + 74, s1, B (s1 + 1), B 0] rfl (by (repeat' apply And.intro) <;> first | exact True.intro | assumption | (simp only [mz_cm1, mz_c0, mz_c1, mz_c2, mz_c3, mz_c4, mz_c5, mz_c6, mz_c7, mz_c8, mz_c10, mz_c17, mz_c20, mz_c28, mz_c58, mz_c63, mz_c98, mz_c294, mz_c526, mz_c532, mz_c540, mz_c999, mz_c1900, mz_c2403, mz_c29362, mz_c29363, mz_c29364, mz_c29390, mz_c29393, mz_c29394, mz_c29398, mz_c29399, mz_c29400, mz_c29401, nI_add, pk_mul, pk_m1, mz_pp, mz_pq, i2]; done) | omega | (simp only [mz_cm1, mz_c0, mz_c1, mz_c2, mz_c3, mz_c4, mz_c5, mz_c6, mz_c7, mz_c8, mz_c10, mz_c17, mz_c20, mz_c28, mz_c58, mz_c63, mz_c98, mz_c294, mz_c526, mz_c532, mz_c540, mz_c999, mz_c1900, mz_c2403, mz_c29362, mz_c29363, mz_c29364, mz_c29390, mz_c29393, mz_c29394, mz_c29398, mz_c29399, mz_c29400, mz_c29401, nI_add, pk_mul, pk_m1, mz_pp, mz_pq, i2]; congr 1; omega)) ?_
  try simp only [mz_c0, mz_cm1, i2]
  refine mz_Vcv hC tk_X5_keepRecord rfl md_X3_takeFrom lk_RX5_270 rfl (cs_takeFrom l E hS hS0 hd U hU) (by show (vwCl[mz_K _ _]?).map _ = _; rw [hKs]; rfl) ⟨Nat.le_of_ble_eq_true rfl, Nat.le_of_ble_eq_true rfl⟩ ⟨by simp only [mz_rm]; omega, by simp only [mz_rm]; omega⟩ (Nat.le_of_ble_eq_true rfl) (fun v1 G1 sz1 hp1 => ?_)
  obtain ⟨rfl, O1, hS1, hF1⟩ := hp1
  have hM1 := hM.st (by omega) hF1 hS1
  have k01 := hM1.1.1.1.1.1
  have i21 := hM1.1.1.2.1
  refine mz_sn_ok hC tk_X5_keepRecord pk_RX5 6 [] rfl (by (repeat' apply And.intro) <;> first | exact True.intro | assumption | (simp only [mz_cm1, mz_c0, mz_c1, mz_c2, mz_c3, mz_c4, mz_c5, mz_c6, mz_c7, mz_c8, mz_c10, mz_c17, mz_c20, mz_c28, mz_c58, mz_c63, mz_c98, mz_c294, mz_c526, mz_c532, mz_c540, mz_c999, mz_c1900, mz_c2403, mz_c29362, mz_c29363, mz_c29364, mz_c29390, mz_c29393, mz_c29394, mz_c29398, mz_c29399, mz_c29400, mz_c29401, nI_add, pk_mul, pk_m1, mz_pp, mz_pq, i21, mz_c1, nI_add]; done) | omega | (simp only [mz_cm1, mz_c0, mz_c1, mz_c2, mz_c3, mz_c4, mz_c5, mz_c6, mz_c7, mz_c8, mz_c10, mz_c17, mz_c20, mz_c28, mz_c58, mz_c63, mz_c98, mz_c294, mz_c526, mz_c532, mz_c540, mz_c999, mz_c1900, mz_c2403, mz_c29362, mz_c29363, mz_c29364, mz_c29390, mz_c29393, mz_c29394, mz_c29398, mz_c29399, mz_c29400, mz_c29401, nI_add, pk_mul, pk_m1, mz_pp, mz_pq, i21, mz_c1, nI_add]; congr 1; omega)) ?_
  try simp only [mz_c0, mz_cm1, i21, mz_c1, nI_add]
  obtain ⟨hM2, hF2⟩ := hM1.sc (s1 + 1) (by omega)
  refine mz_Vreturn hC tk_X5_keepRecord rfl hret (by omega) (by omega) ?_
  have hw := hd2 (s1 + 1) (by omega)
  exact ⟨rfl, O1, hM2, hF0.tr ((hF1.mono (fun q z => by unfold mr_Z at z; unfold mr_ZZ; omega)).tr (hF2.mono (fun q z => by unfold mr_ZZ; omega)))⟩
theorem cf_keep_lt (hM : mr_M G O sz ω B sv F Λ v1 v2) (h4 : sv < 4) (U : Nat) (hU : U = mr_Ph (Λ (sv + 1)) - mr_Ph (mr_tS (F 0) (Λ (sv + 1)) (Λ 0))) : mz_M l E yX5_keepRecord cX5_keepRecord 3 none 7 U U [.ref ω] G sz (fun v' G' sz' => v' = none ∧ ∃ O', mr_M G' O' sz' ω B (sv + 1) (mz_u1 F (sv + 1) (F 0)) (mz_u1 Λ (sv + 1) (mr_tS (F 0) (Λ (sv + 1)) (Λ 0))) v1 v2 ∧ mt_F (mr_ZZ ω) G G' O O' sz sz') := by
  have k0 := hM.1.1.1.1.1
  have i2 := hM.1.1.2.1
  refine mz_start (by decide) (Nat.le_of_ble_eq_true rfl) ?_
  intro p e s m args below meth c hC hret hnm
  refine mz_sn_ok hC tk_X5_keepRecord pk_RX5 3 [] rfl (by (repeat' apply And.intro) <;> first | exact True.intro | assumption | (simp only [mz_cm1, mz_c0, mz_c1, mz_c2, mz_c3, mz_c4, mz_c5, mz_c6, mz_c7, mz_c8, mz_c10, mz_c17, mz_c20, mz_c28, mz_c58, mz_c63, mz_c98, mz_c294, mz_c526, mz_c532, mz_c540, mz_c999, mz_c1900, mz_c2403, mz_c29362, mz_c29363, mz_c29364, mz_c29390, mz_c29393, mz_c29394, mz_c29398, mz_c29399, mz_c29400, mz_c29401, nI_add, pk_mul, pk_m1, mz_pp, mz_pq, i2]; done) | omega | (simp only [mz_cm1, mz_c0, mz_c1, mz_c2, mz_c3, mz_c4, mz_c5, mz_c6, mz_c7, mz_c8, mz_c10, mz_c17, mz_c20, mz_c28, mz_c58, mz_c63, mz_c98, mz_c294, mz_c526, mz_c532, mz_c540, mz_c999, mz_c1900, mz_c2403, mz_c29362, mz_c29363, mz_c29364, mz_c29390, mz_c29393, mz_c29394, mz_c29398, mz_c29399, mz_c29400, mz_c29401, nI_add, pk_mul, pk_m1, mz_pp, mz_pq, i2]; congr 1; omega)) ?_
  try simp only [mz_c0, mz_cm1, i2]
  refine mz_br_t hC tk_X5_keepRecord rfl ((by show nI sv < nI 4; exact nI_lt (by omega) (by omega))) ?_
  exact cf_keepTail l E mt_F.rf hC hret sv U hM h4 hU
theorem cf_keep_4 (hM : mr_M G O sz ω B 4 F Λ v1 v2) (U : Nat) (hU : U = mr_Ph (Λ 1) - mr_Ph (mr_tS (F 0) (Λ 1) (Λ 0))) : mz_M l E yX5_keepRecord cX5_keepRecord 3 none 7 U U [.ref ω] G sz (fun v' G' sz' => v' = none ∧ ∃ O', mr_M G' O' sz' ω (mr_rot B) (3 + 1) (mz_u1 (mr_rot F) (3 + 1) (mr_rot F 0)) (mz_u1 (mr_rot Λ) (3 + 1) (mr_tS (mr_rot F 0) (mr_rot Λ (3 + 1)) (mr_rot Λ 0))) v1 v2 ∧ mt_F (mr_ZZ ω) G G' O O' sz sz') := by
  obtain ⟨⟨⟨⟨⟨k0, o0, z0⟩, r0, r1, -, -⟩, i2, -⟩, ⟨⟨k1, o1, z1⟩, n1⟩, hr⟩, ⟨hd1, hd2⟩, hst, -⟩ := id hM
  have hr0 := hr 0 (by omega)
  have hk5 : ∀ i, i < 5 → mz_K G (B i) = 3 := fun i hi => (hst i hi).1.1.1.1.1
  refine mz_start (by decide) (Nat.le_of_ble_eq_true rfl) ?_
  intro p e s m args below meth c hC hret hnm
  refine mz_sn_ok hC tk_X5_keepRecord pk_RX5 3 [] rfl (by (repeat' apply And.intro) <;> first | exact True.intro | assumption | (simp only [mz_cm1, mz_c0, mz_c1, mz_c2, mz_c3, mz_c4, mz_c5, mz_c6, mz_c7, mz_c8, mz_c10, mz_c17, mz_c20, mz_c28, mz_c58, mz_c63, mz_c98, mz_c294, mz_c526, mz_c532, mz_c540, mz_c999, mz_c1900, mz_c2403, mz_c29362, mz_c29363, mz_c29364, mz_c29390, mz_c29393, mz_c29394, mz_c29398, mz_c29399, mz_c29400, mz_c29401, nI_add, pk_mul, pk_m1, mz_pp, mz_pq, i2]; done) | omega | (simp only [mz_cm1, mz_c0, mz_c1, mz_c2, mz_c3, mz_c4, mz_c5, mz_c6, mz_c7, mz_c8, mz_c10, mz_c17, mz_c20, mz_c28, mz_c58, mz_c63, mz_c98, mz_c294, mz_c526, mz_c532, mz_c540, mz_c999, mz_c1900, mz_c2403, mz_c29362, mz_c29363, mz_c29364, mz_c29390, mz_c29393, mz_c29394, mz_c29398, mz_c29399, mz_c29400, mz_c29401, nI_add, pk_mul, pk_m1, mz_pp, mz_pq, i2]; congr 1; omega)) ?_
  try simp only [mz_c0, mz_cm1, i2]
  refine mz_br_f hC tk_X5_keepRecord rfl ((by show ¬ nI 4 < nI 4; decide)) ?_
  refine mz_sn_ok hC tk_X5_keepRecord pk_RX5 7 [ω + 74, 0, B 1] rfl (by (repeat' apply And.intro) <;> first | exact True.intro | assumption | (simp only [mz_cm1, mz_c0, mz_c1, mz_c2, mz_c3, mz_c4, mz_c5, mz_c6, mz_c7, mz_c8, mz_c10, mz_c17, mz_c20, mz_c28, mz_c58, mz_c63, mz_c98, mz_c294, mz_c526, mz_c532, mz_c540, mz_c999, mz_c1900, mz_c2403, mz_c29362, mz_c29363, mz_c29364, mz_c29390, mz_c29393, mz_c29394, mz_c29398, mz_c29399, mz_c29400, mz_c29401, nI_add, pk_mul, pk_m1, mz_pp, mz_pq]; done) | omega | (simp only [mz_cm1, mz_c0, mz_c1, mz_c2, mz_c3, mz_c4, mz_c5, mz_c6, mz_c7, mz_c8, mz_c10, mz_c17, mz_c20, mz_c28, mz_c58, mz_c63, mz_c98, mz_c294, mz_c526, mz_c532, mz_c540, mz_c999, mz_c1900, mz_c2403, mz_c29362, mz_c29363, mz_c29364, mz_c29390, mz_c29393, mz_c29394, mz_c29398, mz_c29399, mz_c29400, mz_c29401, nI_add, pk_mul, pk_m1, mz_pp, mz_pq]; congr 1; omega)) ?_
  try simp only [mz_c0, mz_cm1]
  have loop : ∀ (d k : Nat) (G1 : mz_G), k + d = 4 → 1 ≤ k → mz_K G1 = mz_K G → mz_n G1 = mz_n G → mz_i G1 = mz_i G → mz_r G1 ω = mz_r G ω → (∀ j, j < 4 → mz_r G1 (ω + 74) j = some (if j + 1 < k then B (j + 2) else B (j + 1))) → mt_F (fun q => q = ω + 74) G G1 O O sz sz → mz_V E p l e (mz_rm 7 U U) s m args below meth c 3 (0) (0) (mz_Z E below args s U U (fun v' G' sz' => v' = none ∧ ∃ O', mr_M G' O' sz' ω (mr_rot B) (3 + 1) (mz_u1 (mr_rot F) (3 + 1) (mr_rot F 0)) (mz_u1 (mr_rot Λ) (3 + 1) (mr_tS (mr_rot F 0) (mr_rot Λ (3 + 1)) (mr_rot Λ 0))) v1 v2 ∧ mt_F (mr_ZZ ω) G G' O O' sz sz')) (G1) (sz) (17) [some (.ref ω), some (.ref (B 1)), some (.int (nI k))] [] := by
    intro d
    induction d with
    | zero =>
      intro k G1 hk h1 eK en ei er hr1 hF1
      rw [show k = 4 by omega] at hr1 ⊢
      have k01 : mz_K G1 ω = 5 := by rw [eK]; exact k0
      have k11 : mz_K G1 (ω + 74) = 11 := by rw [eK]; exact k1
      have n11 : mz_n G1 (ω + 74) = 4 := by rw [en]; exact n1
      have r11 : mz_r G1 ω 1 = some (ω + 74) := by rw [er]; exact r1
      have kb1 : mz_K G1 (B 1) = 3 := by rw [eK]; exact hk5 1 (by omega)
      refine mz_sn_ok hC tk_X5_keepRecord pk_RX5 2 [] rfl (by (repeat' apply And.intro) <;> first | exact True.intro | assumption | (simp only [mz_cm1, mz_c0, mz_c1, mz_c2, mz_c3, mz_c4, mz_c5, mz_c6, mz_c7, mz_c8, mz_c10, mz_c17, mz_c20, mz_c28, mz_c58, mz_c63, mz_c98, mz_c294, mz_c526, mz_c532, mz_c540, mz_c999, mz_c1900, mz_c2403, mz_c29362, mz_c29363, mz_c29364, mz_c29390, mz_c29393, mz_c29394, mz_c29398, mz_c29399, mz_c29400, mz_c29401, nI_add, pk_mul, pk_m1, mz_pp, mz_pq]; done) | omega | (simp only [mz_cm1, mz_c0, mz_c1, mz_c2, mz_c3, mz_c4, mz_c5, mz_c6, mz_c7, mz_c8, mz_c10, mz_c17, mz_c20, mz_c28, mz_c58, mz_c63, mz_c98, mz_c294, mz_c526, mz_c532, mz_c540, mz_c999, mz_c1900, mz_c2403, mz_c29362, mz_c29363, mz_c29364, mz_c29390, mz_c29393, mz_c29394, mz_c29398, mz_c29399, mz_c29400, mz_c29401, nI_add, pk_mul, pk_m1, mz_pp, mz_pq]; congr 1; omega)) ?_
      try simp only [mz_c0, mz_cm1]
      refine mz_br_t hC tk_X5_keepRecord rfl ((by show nI 4 ≤ nI 4; decide)) ?_
      refine mz_sn_ok hC tk_X5_keepRecord pk_RX5 8 [ω + 74, 3] rfl (by (repeat' apply And.intro) <;> first | exact True.intro | assumption | (simp only [mz_cm1, mz_c0, mz_c1, mz_c2, mz_c3, mz_c4, mz_c5, mz_c6, mz_c7, mz_c8, mz_c10, mz_c17, mz_c20, mz_c28, mz_c58, mz_c63, mz_c98, mz_c294, mz_c526, mz_c532, mz_c540, mz_c999, mz_c1900, mz_c2403, mz_c29362, mz_c29363, mz_c29364, mz_c29390, mz_c29393, mz_c29394, mz_c29398, mz_c29399, mz_c29400, mz_c29401, nI_add, pk_mul, pk_m1, mz_pp, mz_pq]; done) | omega | (simp only [mz_cm1, mz_c0, mz_c1, mz_c2, mz_c3, mz_c4, mz_c5, mz_c6, mz_c7, mz_c8, mz_c10, mz_c17, mz_c20, mz_c28, mz_c58, mz_c63, mz_c98, mz_c294, mz_c526, mz_c532, mz_c540, mz_c999, mz_c1900, mz_c2403, mz_c29362, mz_c29363, mz_c29364, mz_c29390, mz_c29393, mz_c29394, mz_c29398, mz_c29399, mz_c29400, mz_c29401, nI_add, pk_mul, pk_m1, mz_pp, mz_pq]; congr 1; omega)) ?_
      try simp only [mz_c0, mz_cm1]
      have hF2 : mt_F (fun q => q = ω + 74) G1 (mz_sr G1 (ω + 74) 3 (some (B 1))) O O sz sz := mt_F_sr o1
      have hM2 := hM.rot (hF1.tr hF2) ⟨show mz_K G1 (ω + 74) = 11 from k11, o1, z1⟩ n11 (fun j hj => by
        show mz_u2 (mz_r G1) (ω + 74) 3 _ (ω + 74) j = _
        unfold mr_rot
        by_cases h3 : j = 3
        · subst h3
          rw [mz_u2_s, if_neg (by omega), if_pos (by omega)]
        · rw [mz_u2_j _ _ _ _ h3, hr1 j hj, if_pos (by omega), if_neg (by omega), if_neg (by omega)])
      obtain ⟨hM3, hF3⟩ := hM2.sc 3 (by omega)
      refine mz_V.sub (lv' := [some (.ref ω)]) (by (repeat' apply And.intro) <;> first | with_reducible rfl | exact True.intro | (simp only [mz_cm1, mz_c0, mz_c1, mz_c2, mz_c3, mz_c4, mz_c5, mz_c6, mz_c7, mz_c8, mz_c10, mz_c17, mz_c20, mz_c28, mz_c58, mz_c63, mz_c98, mz_c294, mz_c526, mz_c532, mz_c540, mz_c999, mz_c1900, mz_c2403, mz_c29362, mz_c29363, mz_c29364, mz_c29390, mz_c29393, mz_c29394, mz_c29398, mz_c29399, mz_c29400, mz_c29401, nI_add, pk_mul, pk_m1, mz_pp, mz_pq]; done) | rfl) ?_
      exact cf_keepTail l E (((hF1.tr hF2).mono (fun q z => by unfold mr_ZZ; omega)).tr (hF3.mono (fun q z => by unfold mr_ZZ; omega))) hC hret 3 U hM3 (by omega) hU
    | succ d ih =>
      intro k G1 hk h1 eK en ei er hr1 hF1
      have k01 : mz_K G1 ω = 5 := by rw [eK]; exact k0
      have k11 : mz_K G1 (ω + 74) = 11 := by rw [eK]; exact k1
      have n11 : mz_n G1 (ω + 74) = 4 := by rw [en]; exact n1
      have r11 : mz_r G1 ω 1 = some (ω + 74) := by rw [er]; exact r1
      have kbk : mz_K G1 (B (k + 1)) = 3 := by rw [eK]; exact hk5 (k + 1) (by omega)
      have hrk : mz_r G1 (ω + 74) k = some (B (k + 1)) := by rw [hr1 k (by omega), if_neg (by omega)]
      obtain ⟨k', rfl⟩ : ∃ k', k = k' + 1 := ⟨k - 1, by omega⟩
      refine mz_sn_ok hC tk_X5_keepRecord pk_RX5 2 [] rfl (by (repeat' apply And.intro) <;> first | exact True.intro | assumption | (simp only [mz_cm1, mz_c0, mz_c1, mz_c2, mz_c3, mz_c4, mz_c5, mz_c6, mz_c7, mz_c8, mz_c10, mz_c17, mz_c20, mz_c28, mz_c58, mz_c63, mz_c98, mz_c294, mz_c526, mz_c532, mz_c540, mz_c999, mz_c1900, mz_c2403, mz_c29362, mz_c29363, mz_c29364, mz_c29390, mz_c29393, mz_c29394, mz_c29398, mz_c29399, mz_c29400, mz_c29401, nI_add, pk_mul, pk_m1, mz_pp, mz_pq]; done) | omega | (simp only [mz_cm1, mz_c0, mz_c1, mz_c2, mz_c3, mz_c4, mz_c5, mz_c6, mz_c7, mz_c8, mz_c10, mz_c17, mz_c20, mz_c28, mz_c58, mz_c63, mz_c98, mz_c294, mz_c526, mz_c532, mz_c540, mz_c999, mz_c1900, mz_c2403, mz_c29362, mz_c29363, mz_c29364, mz_c29390, mz_c29393, mz_c29394, mz_c29398, mz_c29399, mz_c29400, mz_c29401, nI_add, pk_mul, pk_m1, mz_pp, mz_pq]; congr 1; omega)) ?_
      try simp only [mz_c0, mz_cm1]
      refine mz_br_f hC tk_X5_keepRecord rfl ((by show ¬ nI 4 ≤ nI (k' + 1); exact nI_ge (by omega) (by omega))) ?_
      refine mz_sn_ok hC tk_X5_keepRecord pk_RX5 12 [ω + 74, ω + 74, k' + 1, B (k' + 1 + 1), k'] rfl (by (repeat' apply And.intro) <;> first | exact True.intro | assumption | (simp only [mz_cm1, mz_c0, mz_c1, mz_c2, mz_c3, mz_c4, mz_c5, mz_c6, mz_c7, mz_c8, mz_c10, mz_c17, mz_c20, mz_c28, mz_c58, mz_c63, mz_c98, mz_c294, mz_c526, mz_c532, mz_c540, mz_c999, mz_c1900, mz_c2403, mz_c29362, mz_c29363, mz_c29364, mz_c29390, mz_c29393, mz_c29394, mz_c29398, mz_c29399, mz_c29400, mz_c29401, nI_add, pk_mul, pk_m1, mz_pp, mz_pq]; done) | omega | (simp only [mz_cm1, mz_c0, mz_c1, mz_c2, mz_c3, mz_c4, mz_c5, mz_c6, mz_c7, mz_c8, mz_c10, mz_c17, mz_c20, mz_c28, mz_c58, mz_c63, mz_c98, mz_c294, mz_c526, mz_c532, mz_c540, mz_c999, mz_c1900, mz_c2403, mz_c29362, mz_c29363, mz_c29364, mz_c29390, mz_c29393, mz_c29394, mz_c29398, mz_c29399, mz_c29400, mz_c29401, nI_add, pk_mul, pk_m1, mz_pp, mz_pq]; congr 1; omega)) ?_
      try simp only [mz_c0, mz_cm1]
      refine mz_V.sub (lv' := [some (.ref ω), some (.ref (B 1)), some (.int (nI (k' + 1 + 1)))]) (by (repeat' apply And.intro) <;> first | with_reducible rfl | exact True.intro | (simp only [mz_cm1, mz_c0, mz_c1, mz_c2, mz_c3, mz_c4, mz_c5, mz_c6, mz_c7, mz_c8, mz_c10, mz_c17, mz_c20, mz_c28, mz_c58, mz_c63, mz_c98, mz_c294, mz_c526, mz_c532, mz_c540, mz_c999, mz_c1900, mz_c2403, mz_c29362, mz_c29363, mz_c29364, mz_c29390, mz_c29393, mz_c29394, mz_c29398, mz_c29399, mz_c29400, mz_c29401, nI_add, pk_mul, pk_m1, mz_pp, mz_pq]; done) | rfl) ?_
      refine ih (k' + 1 + 1) _ (by omega) (by omega) eK en ei ?_ (fun j hj => ?_) (hF1.tr (mt_F_sr o1))
      · show mz_u2 (mz_r G1) (ω + 74) k' _ ω = _
        rw [mz_u2_o _ _ _ (by omega), er]
      · show mz_u2 (mz_r G1) (ω + 74) k' _ (ω + 74) j = _
        by_cases hjk : j = k'
        · subst hjk
          rw [mz_u2_s, if_pos (by omega)]
        · rw [mz_u2_j _ _ _ _ hjk, hr1 j hj]
          by_cases hlt : j + 1 < k' + 1
          · rw [if_pos hlt, if_pos (by omega)]
          · rw [if_neg hlt, if_neg (by omega)]
  refine mz_V.sub (lv' := [some (.ref ω), some (.ref (B 1)), some (.int (nI 1))]) (by (repeat' apply And.intro) <;> first | with_reducible rfl | exact True.intro | (simp only [mz_cm1, mz_c0, mz_c1, mz_c2, mz_c3, mz_c4, mz_c5, mz_c6, mz_c7, mz_c8, mz_c10, mz_c17, mz_c20, mz_c28, mz_c58, mz_c63, mz_c98, mz_c294, mz_c526, mz_c532, mz_c540, mz_c999, mz_c1900, mz_c2403, mz_c29362, mz_c29363, mz_c29364, mz_c29390, mz_c29393, mz_c29394, mz_c29398, mz_c29399, mz_c29400, mz_c29401, nI_add, pk_mul, pk_m1, mz_pp, mz_pq]; done) | rfl) ?_
  refine loop 3 1 G (by omega) (by omega) rfl rfl rfl rfl (fun j hj => ?_) mt_F.rf
  rw [hr j hj, if_neg (by omega)]
end MRM

