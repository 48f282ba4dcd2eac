/-! ===== constructors: final fields; a new table ===== -/
theorem cd_objI : Cond.code objectInit ⟨#[0xb1]⟩ 1 none ∈ mz_ws := mz_in1 (List.mem_of_getElem? (i := 24) rfl) rfl
section MZPF
variable {E : mz_E} {p : Program} {l : Launch} {e : Env} {R : Room} {s : State} {m : MethodId} {args : Array Value} {below : List Frame} {meth : Method} {c : Code} {nL k n : Nat} {Q : State → Prop} {G : mz_G} {sz pc : Nat} {lv : List (Option Value)} {st : List Value} {cc : ByteArray} {own : String} {T : List mz_R}
theorem mz_VputFi (hC : mz_C E p s m args meth c cc own nL) (hT : mz_T cc T) (hin2 : meth.name = "<init>") {idx ci j a nx tg : Nat} {v : Int32} (hat : mz_at T pc = some (.putfield idx, nx, tg)) (hf : mz_fok own idx ci j) (hK : mz_K G a = ci) (ht : (mz_ft ci)[j]? = some 0) (hfin : mz_fin ci j = true) (hoc : (vwCl[ci]?).map (fun q => q.1) = some own) (hlk0 : ∀ C T N, vwCl[ci]? = some (C, T, N) → Cond.fieldLink own idx C (T j).2.1 (T j).2.2.1 ∈ mz_ws)
    (kk : mz_V E p l e R s m args below meth c nL k n Q (mz_si G a j v) sz nx lv st) : mz_V E p l e R s m args below meth c nL k n Q G sz pc lv (.int v :: .ref a :: st) :=
  mz_VputF0 hC hin2 (mz_at_ok hT hat) hf hK ht hfin hoc hlk0 (fun u hu => by cases (show u = .int from hu); exact ⟨rfl, rfl⟩) mz_si_o hK (mz_fs_si ht) kk
theorem mz_VputFr (hC : mz_C E p s m args meth c cc own nL) (hT : mz_T cc T) (hin2 : meth.name = "<init>") {idx ci j a b nx tg : Nat} (hat : mz_at T pc = some (.putfield idx, nx, tg)) (hf : mz_fok own idx ci j) (hK : mz_K G a = ci) (ht : (mz_ft ci)[j]? = some 1) (hfin : mz_fin ci j = true) (hoc : (vwCl[ci]?).map (fun q => q.1) = some own) (hlk0 : ∀ C T N, vwCl[ci]? = some (C, T, N) → Cond.fieldLink own idx C (T j).2.1 (T j).2.2.1 ∈ mz_ws)
    (kk : mz_V E p l e R s m args below meth c nL k n Q (mz_sr G a j (some b)) sz nx lv st) : mz_V E p l e R s m args below meth c nL k n Q G sz pc lv (.ref b :: .ref a :: st) :=
  mz_VputF0 hC hin2 (mz_at_ok hT hat) hf hK ht hfin hoc hlk0 (fun u hu => by
    rcases (show (∃ C, u = .object C) ∨ ∃ z, u = .array z from hu) with ⟨C, rfl⟩ | ⟨z, rfl⟩
    · exact ⟨rfl, rfl⟩
    · exact ⟨rfl, rfl⟩) mz_sr_o hK (mz_fs_sr ht) kk
end MZPF
section MTT
variable (l : Launch) (E : mz_E) {G : mz_G} {O : Nat → Nat} {sz t W lim : Nat}
theorem ct_init (hK : mz_K G t = 4) (ht : t < sz) (hOt : O t = t) (fr : Nat) (hW : W < 10) (hlim : lim < 10000) (hfr : fr < 1000) (h : Nat → Nat → Int32) : mz_M l E yX4_init cX4_init 4 none 3 1 (W * fr) [.ref t, .int (nI W), .int (nI lim), .int (nI fr)] G sz (fun v' G' sz' => v' = none ∧ sz + 1 = sz' ∧ ∃ O', mt_T G' O' sz' t W lim 0 (W * fr) h ∧ mt_F (fun q => q = t) G G' O O' sz sz') := by
  have hWf : W * fr ≤ 9 * 999 := Nat.mul_le_mul (by omega) (by omega)
  refine mz_start (by decide) (Nat.le_of_ble_eq_true rfl) ?_
  intro p e s m args below meth c hC hret hnm
  refine mz_sn_ok hC tk_X4_init pk_RX4 1 [] rfl (by (repeat' apply And.intro) <;> first | exact True.intro | assumption | (simp only [mz_cm1, mz_c0, mz_c1, mz_c2, mz_c3, mz_c4, mz_c5, mz_c6, mz_c7, mz_c8, mz_c10, mz_c17, mz_c20, mz_c28, mz_c58, mz_c63, mz_c98, mz_c294, mz_c526, mz_c532, mz_c540, mz_c999, mz_c1900, mz_c2403, mz_c29362, mz_c29363, mz_c29364, mz_c29390, mz_c29393, mz_c29394, mz_c29398, mz_c29399, mz_c29400, mz_c29401, nI_add, pk_mul, pk_m1, mz_pp, mz_pq]; done) | omega | (simp only [mz_cm1, mz_c0, mz_c1, mz_c2, mz_c3, mz_c4, mz_c5, mz_c6, mz_c7, mz_c8, mz_c10, mz_c17, mz_c20, mz_c28, mz_c58, mz_c63, mz_c98, mz_c294, mz_c526, mz_c532, mz_c540, mz_c999, mz_c1900, mz_c2403, mz_c29362, mz_c29363, mz_c29364, mz_c29390, mz_c29393, mz_c29394, mz_c29398, mz_c29399, mz_c29400, mz_c29401, nI_add, pk_mul, pk_m1, mz_pp, mz_pq]; congr 1; omega)) ?_
  try simp only [mz_c0, mz_cm1]
  refine mz_Vobj hC tk_X4_init rfl lk_RX4_3 im_java_lang_Object__init____V cd_objI (Nat.le_of_ble_eq_true rfl) (Nat.le_of_ble_eq_true rfl) ?_
  refine mz_sn_ok hC tk_X4_init pk_RX4 5 [] rfl (by (repeat' apply And.intro) <;> first | exact True.intro | assumption | (simp only [mz_cm1, mz_c0, mz_c1, mz_c2, mz_c3, mz_c4, mz_c5, mz_c6, mz_c7, mz_c8, mz_c10, mz_c17, mz_c20, mz_c28, mz_c58, mz_c63, mz_c98, mz_c294, mz_c526, mz_c532, mz_c540, mz_c999, mz_c1900, mz_c2403, mz_c29362, mz_c29363, mz_c29364, mz_c29390, mz_c29393, mz_c29394, mz_c29398, mz_c29399, mz_c29400, mz_c29401, nI_add, pk_mul, pk_m1, mz_pp, mz_pq]; done) | omega | (simp only [mz_cm1, mz_c0, mz_c1, mz_c2, mz_c3, mz_c4, mz_c5, mz_c6, mz_c7, mz_c8, mz_c10, mz_c17, mz_c20, mz_c28, mz_c58, mz_c63, mz_c98, mz_c294, mz_c526, mz_c532, mz_c540, mz_c999, mz_c1900, mz_c2403, mz_c29362, mz_c29363, mz_c29364, mz_c29390, mz_c29393, mz_c29394, mz_c29398, mz_c29399, mz_c29400, mz_c29401, nI_add, pk_mul, pk_m1, mz_pp, mz_pq]; congr 1; omega)) ?_
  try simp only [mz_c0, mz_cm1]
  refine mz_VputFi hC tk_X4_init hnm rfl fo_RX4_15 hK rfl rfl rfl (fun C T N z => by cases (show some (RX4, TX4, 4) = some (C, T, N) from z); exact fk_RX4_15) ?_
  refine mz_sn_ok hC tk_X4_init pk_RX4 2 [] rfl (by (repeat' apply And.intro) <;> first | exact True.intro | assumption | (simp only [mz_cm1, mz_c0, mz_c1, mz_c2, mz_c3, mz_c4, mz_c5, mz_c6, mz_c7, mz_c8, mz_c10, mz_c17, mz_c20, mz_c28, mz_c58, mz_c63, mz_c98, mz_c294, mz_c526, mz_c532, mz_c540, mz_c999, mz_c1900, mz_c2403, mz_c29362, mz_c29363, mz_c29364, mz_c29390, mz_c29393, mz_c29394, mz_c29398, mz_c29399, mz_c29400, mz_c29401, nI_add, pk_mul, pk_m1, mz_pp, mz_pq]; done) | omega | (simp only [mz_cm1, mz_c0, mz_c1, mz_c2, mz_c3, mz_c4, mz_c5, mz_c6, mz_c7, mz_c8, mz_c10, mz_c17, mz_c20, mz_c28, mz_c58, mz_c63, mz_c98, mz_c294, mz_c526, mz_c532, mz_c540, mz_c999, mz_c1900, mz_c2403, mz_c29362, mz_c29363, mz_c29364, mz_c29390, mz_c29393, mz_c29394, mz_c29398, mz_c29399, mz_c29400, mz_c29401, nI_add, pk_mul, pk_m1, mz_pp, mz_pq]; congr 1; omega)) ?_
  try simp only [mz_c0, mz_cm1]
  refine mz_VputFi hC tk_X4_init hnm rfl fo_RX4_18 hK rfl rfl rfl (fun C T N z => by cases (show some (RX4, TX4, 4) = some (C, T, N) from z); exact fk_RX4_18) ?_
  refine mz_sn_ok hC tk_X4_init pk_RX4 5 [] rfl (by (repeat' apply And.intro) <;> first | exact True.intro | assumption | (simp only [mz_cm1, mz_c0, mz_c1, mz_c2, mz_c3, mz_c4, mz_c5, mz_c6, mz_c7, mz_c8, mz_c10, mz_c17, mz_c20, mz_c28, mz_c58, mz_c63, mz_c98, mz_c294, mz_c526, mz_c532, mz_c540, mz_c999, mz_c1900, mz_c2403, mz_c29362, mz_c29363, mz_c29364, mz_c29390, mz_c29393, mz_c29394, mz_c29398, mz_c29399, mz_c29400, mz_c29401, nI_add, pk_mul, pk_m1, mz_pp, mz_pq]; done) | omega | (simp only [mz_cm1, mz_c0, mz_c1, mz_c2, mz_c3, mz_c4, mz_c5, mz_c6, mz_c7, mz_c8, mz_c10, mz_c17, mz_c20, mz_c28, mz_c58, mz_c63, mz_c98, mz_c294, mz_c526, mz_c532, mz_c540, mz_c999, mz_c1900, mz_c2403, mz_c29362, mz_c29363, mz_c29364, mz_c29390, mz_c29393, mz_c29394, mz_c29398, mz_c29399, mz_c29400, mz_c29401, nI_add, pk_mul, pk_m1, mz_pp, mz_pq]; congr 1; omega)) ?_
  try simp only [mz_c0, mz_cm1]
  refine mz_Vmax hC tk_X4_init rfl lk_RX4_21 (Nat.le_of_ble_eq_true rfl) (Nat.le_of_ble_eq_true rfl) (Nat.zero_le _) (Nat.zero_le _) ?_
  rw [show (if nI 0 < nI W * nI fr then nI W * nI fr else nI 0) = nI (W * fr) from by
    simp only [mz_cm1, mz_c0, mz_c1, mz_c2, mz_c3, mz_c4, mz_c5, mz_c6, mz_c7, mz_c8, mz_c10, mz_c17, mz_c20, mz_c28, mz_c58, mz_c63, mz_c98, mz_c294, mz_c526, mz_c532, mz_c540, mz_c999, mz_c1900, mz_c2403, mz_c29362, mz_c29363, mz_c29364, mz_c29390, mz_c29393, mz_c29394, mz_c29398, mz_c29399, mz_c29400, mz_c29401, nI_add, pk_mul, pk_m1, mz_pp, mz_pq]
    by_cases hc : 0 < W * fr
    · rw [if_pos (nI_lt hc (by omega))]
    · rw [if_neg (nI_nlt (by omega) (by omega)), show W * fr = 0 by omega]]
  refine mz_Vnewi hC tk_X4_init rfl (W * fr) rfl (by omega) ⟨by simp only [mz_rm]; omega, by simp only [mz_rm]; omega⟩ ac_int ?_
  have hat : t ≠ sz := by omega
  obtain ⟨G1, hG1⟩ : ∃ G1, G1 = mz_si (mz_si (mz_si G t 2 (nI 0)) t 0 (nI W)) t 1 (nI lim) := ⟨_, rfl⟩
  rw [← hG1]
  have hK1 : mz_K G1 = mz_K G := by rw [hG1]; rfl
  have hn1 : mz_n G1 = mz_n G := by rw [hG1]; rfl
  have hr1 : mz_r G1 = mz_r G := by rw [hG1]; rfl
  have hl1 : mz_l G1 = mz_l G := by rw [hG1]; rfl
  have hi1 : mz_i G1 = mz_u2 (mz_u2 (mz_u2 (mz_i G) t 2 (nI 0)) t 0 (nI W)) t 1 (nI lim) := by rw [hG1]; rfl
  have hK9 : mz_K (mz_nw G1 sz 7 (W * fr)) t = 4 := by show mz_u1 (mz_K G1) sz 7 t = 4; simp only [mz_u1]; rw [if_neg hat, hK1, hK]
  refine mz_sn_ok hC tk_X4_init pk_RX4 1 [] rfl (by (repeat' apply And.intro) <;> first | exact True.intro | assumption | (simp only [mz_cm1, mz_c0, mz_c1, mz_c2, mz_c3, mz_c4, mz_c5, mz_c6, mz_c7, mz_c8, mz_c10, mz_c17, mz_c20, mz_c28, mz_c58, mz_c63, mz_c98, mz_c294, mz_c526, mz_c532, mz_c540, mz_c999, mz_c1900, mz_c2403, mz_c29362, mz_c29363, mz_c29364, mz_c29390, mz_c29393, mz_c29394, mz_c29398, mz_c29399, mz_c29400, mz_c29401, nI_add, pk_mul, pk_m1, mz_pp, mz_pq]; done) | omega | (simp only [mz_cm1, mz_c0, mz_c1, mz_c2, mz_c3, mz_c4, mz_c5, mz_c6, mz_c7, mz_c8, mz_c10, mz_c17, mz_c20, mz_c28, mz_c58, mz_c63, mz_c98, mz_c294, mz_c526, mz_c532, mz_c540, mz_c999, mz_c1900, mz_c2403, mz_c29362, mz_c29363, mz_c29364, mz_c29390, mz_c29393, mz_c29394, mz_c29398, mz_c29399, mz_c29400, mz_c29401, nI_add, pk_mul, pk_m1, mz_pp, mz_pq]; congr 1; omega)) ?_
  try simp only [mz_c0, mz_cm1]
  refine mz_Vreturn hC tk_X4_init rfl hret (by omega) (by omega) ?_
  have ei : ∀ j, mz_i (mz_nw G1 sz 7 (W * fr)) t j = mz_i G1 t j := fun j => by show mz_u1 (mz_i G1) sz _ t j = _; simp only [mz_u1]; rw [if_neg hat]
  refine ⟨rfl, rfl, mz_u1 O sz t, ⟨sz, ⟨⟨hK9, ?_, ?_, ?_, ?_⟩, ?_, ?_, ?_, ?_, by omega, by omega⟩, ⟨by omega, by omega, by omega, hlim, hW⟩, fun k' j' h1 h2 => absurd h1 (by omega)⟩, by omega, fun q hq => ⟨?_, fun hX => ⟨?_, ?_, ?_, ?_, ?_⟩⟩⟩
  · exact (ei 0).trans (by rw [hi1, mz_u2_j _ _ _ _ (by omega), mz_u2_s])
  · exact (ei 1).trans (by rw [hi1, mz_u2_s])
  · exact (ei 2).trans (by rw [hi1, mz_u2_j _ _ _ _ (by omega), mz_u2_j _ _ _ _ (by omega), mz_u2_s])
  · show mz_u2 _ t 3 _ t 3 = some sz
    rw [mz_u2_s]
  · show mz_u1 (mz_K G1) sz 7 sz = 7
    simp only [mz_u1, if_true]
  · show mz_u1 (mz_n G1) sz (W * fr) sz = _
    simp only [mz_u1, if_true]
  · simp only [mz_u1, if_true]
  · simp only [mz_u1]
    rw [if_neg hat, hOt]
  · simp only [mz_u1]
    rw [if_neg (by omega)]
  · show mz_u1 (mz_K G1) sz 7 q = _
    simp only [mz_u1]
    rw [if_neg (by omega), hK1]
  · show mz_u1 (mz_n G1) sz _ q = _
    simp only [mz_u1]
    rw [if_neg (by omega), hn1]
  · funext i
    have hqt : q ≠ t := fun z => hX (by rw [z]; exact hOt)
    show mz_u1 (mz_i G1) sz _ q i = _
    simp only [mz_u1]
    rw [if_neg (by omega), hi1, mz_u2_a _ _ _ _ hqt, mz_u2_a _ _ _ _ hqt, mz_u2_a _ _ _ _ hqt]
  · funext i
    show mz_u2 (mz_u1 (mz_r G1) sz _) t 3 _ q i = _
    rw [mz_u2_a _ _ _ _ (fun z => hX (by rw [z]; exact hOt))]
    simp only [mz_u1]
    rw [if_neg (by omega), hr1]
  · show mz_u1 (mz_l G1) sz _ q = _
    simp only [mz_u1]
    rw [if_neg (by omega), hl1]
end MTT

