/-! ===== Math.min, Math.max, Arrays.copyOf ===== -/
theorem pk_RJ7 : mz_Pok RJ7 ([], [], []) := ⟨fun _ h => absurd h List.not_mem_nil, fun _ h => absurd h List.not_mem_nil, fun _ h => absurd h List.not_mem_nil⟩
section MZMM
variable {E : mz_E} {p : Program} {l : Launch} {e : Env} {R : Room} {s : State} {m : MethodId} {args : Array Value} {below : List Frame} {meth : Method} {c : Code} {nL k n : Nat} {Q : State → Prop} {G : mz_G} {sz pc : Nat} {lv : List (Option Value)} {st : List Value} {cc : ByteArray} {own : String} {T : List mz_R}
theorem mz_Vmin (hC : mz_C E p s m args meth c cc own nL) (hT : mz_T cc T) {idx nx tg : Nat} (hat : mz_at T pc = some (.invokestatic idx, nx, tg)) (hlk : Cond.methodLink own idx yJ9_min_7cf53 ∈ mz_ws) (hf : 1 ≤ R.frames) (hl : (st.map fun v => v.category).sum + 13 ≤ R.locals) (hk : k ≤ R.cells) (hn : n ≤ R.slots) {x y : Int32}
    (kk : mz_V E p l e R s m args below meth c nL k n Q G sz nx lv (.int (if y < x then y else x) :: st)) : mz_V E p l e R s m args below meth c nL k n Q G sz pc lv (.int y :: .int x :: st) := by
  obtain ⟨hd, rfl⟩ := mz_dec 2 (mz_at_ok hT hat) rfl
  obtain ⟨hx, hb, hml, hown, hts, -, hEF⟩ := hC
  intro H locs ls h1 h2 h3 hL
  exact va_mmin hx hb (hml.trans hL.1.symm) hown (hts _ hlk) (hts _ sm_J9_min_7cf53) (hts _ in_RJ9) (hts _ cd_J9_min_7cf53) hf hl hk hn hd (kk H locs ls h1 h2 h3 hL)
theorem mz_Vmax (hC : mz_C E p s m args meth c cc own nL) (hT : mz_T cc T) {idx nx tg : Nat} (hat : mz_at T pc = some (.invokestatic idx, nx, tg)) (hlk : Cond.methodLink own idx yJ9_max_7cf53 ∈ mz_ws) (hf : 1 ≤ R.frames) (hl : (st.map fun v => v.category).sum + 13 ≤ R.locals) (hk : k ≤ R.cells) (hn : n ≤ R.slots) {x y : Int32}
    (kk : mz_V E p l e R s m args below meth c nL k n Q G sz nx lv (.int (if x < y then y else x) :: st)) : mz_V E p l e R s m args below meth c nL k n Q G sz pc lv (.int y :: .int x :: st) := by
  obtain ⟨hd, rfl⟩ := mz_dec 2 (mz_at_ok hT hat) rfl
  obtain ⟨hx, hb, hml, hown, hts, -, hEF⟩ := hC
  intro H locs ls h1 h2 h3 hL
  exact va_mmax hx hb (hml.trans hL.1.symm) hown (hts _ hlk) (hts _ sm_J9_max_7cf53) (hts _ in_RJ9) (hts _ cd_J9_max_7cf53) hf hl hk hn hd (kk H locs ls h1 h2 h3 hL)
end MZMM
section MTT
variable (l : Launch) (E : mz_E) {G : mz_G} {O : Nat → Nat} {sz t W lim n len : Nat} {h : Nat → Nat → Int32}
theorem cj_copyOf (a L N : Nat) (hKa : mz_K G a = 7) (hna : mz_n G a = L) (ha : a < sz) (hLN : L < N) (hN : N < 1000000) : mz_M l E yJ7_copyOf_59c91 cJ7_copyOf_59c91 3 (some (.array .int)) 3 1 N [.ref a, .int (nI N)] G sz (fun v G' sz' => v = some (.ref sz) ∧ G' = mz_sa (mz_nw G sz 7 N) sz (va_cpy (mz_i G a) (fun _ => 0) 0 0 L) ∧ sz + 1 = sz') := by
  refine mz_start (by decide) (Nat.le_of_ble_eq_true rfl) ?_
  intro p e s m args below meth c hC hret hnm
  have hne : a ≠ sz := by omega
  have k1 : mz_K (mz_nw G sz 7 N) a = 7 := by show mz_u1 (mz_K G) sz 7 a = 7; simp only [mz_u1]; rw [if_neg hne, hKa]
  have n1 : mz_n (mz_nw G sz 7 N) a = L := by show mz_u1 (mz_n G) sz N a = L; simp only [mz_u1]; rw [if_neg hne, hna]
  have k2 : mz_K (mz_nw G sz 7 N) sz = 7 := by show mz_u1 (mz_K G) sz 7 sz = 7; simp only [mz_u1, if_true]
  have n2 : mz_n (mz_nw G sz 7 N) sz = N := by show mz_u1 (mz_n G) sz N sz = N; simp only [mz_u1, if_true]
  have v1 : mz_i (mz_nw G sz 7 N) a = mz_i G a := by show mz_u1 (mz_i G) sz _ a = mz_i G a; simp only [mz_u1]; rw [if_neg hne]
  have v2 : mz_i (mz_nw G sz 7 N) sz = fun _ => 0 := by show mz_u1 (mz_i G) sz _ sz = _; simp only [mz_u1, if_true]
  refine mz_sn_ok hC tk_J7_copyOf_59c91 pk_RJ7 3 [] rfl (by (repeat' apply And.intro) <;> first | exact True.intro | assumption | (simp only [mz_cm1, mz_c0, mz_c1, mz_c2, mz_c3, mz_c4, mz_c5, mz_c6, mz_c7, mz_c8, mz_c10, mz_c17, mz_c20, mz_c28, mz_c58, mz_c63, mz_c98, mz_c294, mz_c526, mz_c532, mz_c540, mz_c999, mz_c1900, mz_c2403, mz_c29362, mz_c29363, mz_c29364, mz_c29390, mz_c29393, mz_c29394, mz_c29398, mz_c29399, mz_c29400, mz_c29401, nI_add, pk_mul, pk_m1, mz_pp, mz_pq, hna]; done) | omega | (simp only [mz_cm1, mz_c0, mz_c1, mz_c2, mz_c3, mz_c4, mz_c5, mz_c6, mz_c7, mz_c8, mz_c10, mz_c17, mz_c20, mz_c28, mz_c58, mz_c63, mz_c98, mz_c294, mz_c526, mz_c532, mz_c540, mz_c999, mz_c1900, mz_c2403, mz_c29362, mz_c29363, mz_c29364, mz_c29390, mz_c29393, mz_c29394, mz_c29398, mz_c29399, mz_c29400, mz_c29401, nI_add, pk_mul, pk_m1, mz_pp, mz_pq, hna]; congr 1; omega)) ?_
  try simp only [mz_c0, mz_cm1, hna]
  refine mz_br_t hC tk_J7_copyOf_59c91 rfl ((by show ¬ nI N = nI L; rw [nI_eq (by omega) (by omega)]; omega)) ?_
  refine mz_sn_ok hC tk_J7_copyOf_59c91 pk_RJ7 1 [] rfl (by (repeat' apply And.intro) <;> first | exact True.intro | assumption | (simp only [mz_cm1, mz_c0, mz_c1, mz_c2, mz_c3, mz_c4, mz_c5, mz_c6, mz_c7, mz_c8, mz_c10, mz_c17, mz_c20, mz_c28, mz_c58, mz_c63, mz_c98, mz_c294, mz_c526, mz_c532, mz_c540, mz_c999, mz_c1900, mz_c2403, mz_c29362, mz_c29363, mz_c29364, mz_c29390, mz_c29393, mz_c29394, mz_c29398, mz_c29399, mz_c29400, mz_c29401, nI_add, pk_mul, pk_m1, mz_pp, mz_pq]; done) | omega | (simp only [mz_cm1, mz_c0, mz_c1, mz_c2, mz_c3, mz_c4, mz_c5, mz_c6, mz_c7, mz_c8, mz_c10, mz_c17, mz_c20, mz_c28, mz_c58, mz_c63, mz_c98, mz_c294, mz_c526, mz_c532, mz_c540, mz_c999, mz_c1900, mz_c2403, mz_c29362, mz_c29363, mz_c29364, mz_c29390, mz_c29393, mz_c29394, mz_c29398, mz_c29399, mz_c29400, mz_c29401, nI_add, pk_mul, pk_m1, mz_pp, mz_pq]; congr 1; omega)) ?_
  try simp only [mz_c0, mz_cm1]
  refine mz_Vnewi hC tk_J7_copyOf_59c91 rfl N rfl (by omega) ⟨by show 0 + 1 ≤ 1; omega, by show 0 + N ≤ N; omega⟩ ac_int ?_
  refine mz_sn_ok hC tk_J7_copyOf_59c91 pk_RJ7 8 [] rfl (by (repeat' apply And.intro) <;> first | exact True.intro | assumption | (simp only [mz_cm1, mz_c0, mz_c1, mz_c2, mz_c3, mz_c4, mz_c5, mz_c6, mz_c7, mz_c8, mz_c10, mz_c17, mz_c20, mz_c28, mz_c58, mz_c63, mz_c98, mz_c294, mz_c526, mz_c532, mz_c540, mz_c999, mz_c1900, mz_c2403, mz_c29362, mz_c29363, mz_c29364, mz_c29390, mz_c29393, mz_c29394, mz_c29398, mz_c29399, mz_c29400, mz_c29401, nI_add, pk_mul, pk_m1, mz_pp, mz_pq, n1]; done) | omega | (simp only [mz_cm1, mz_c0, mz_c1, mz_c2, mz_c3, mz_c4, mz_c5, mz_c6, mz_c7, mz_c8, mz_c10, mz_c17, mz_c20, mz_c28, mz_c58, mz_c63, mz_c98, mz_c294, mz_c526, mz_c532, mz_c540, mz_c999, mz_c1900, mz_c2403, mz_c29362, mz_c29363, mz_c29364, mz_c29390, mz_c29393, mz_c29394, mz_c29398, mz_c29399, mz_c29400, mz_c29401, nI_add, pk_mul, pk_m1, mz_pp, mz_pq, n1]; congr 1; omega)) ?_
  try simp only [mz_c0, mz_cm1, n1]
  refine mz_Vmin hC tk_J7_copyOf_59c91 rfl lk_RJ7_304 (Nat.le_of_ble_eq_true rfl) (Nat.le_of_ble_eq_true rfl) (by show 0 + 1 ≤ 1; omega) (by show 0 + N ≤ N; omega) ?_
  rw [if_neg (nI_nlt (by omega) (by omega))]
  refine mz_Vacopy hC tk_J7_copyOf_59c91 rfl lk_RJ7_150 0 0 L rfl rfl rfl k1 k2 (by rw [n1]; omega) (by rw [n2]; omega) (by rw [n1]; omega) (by rw [n2]; omega) (Nat.le_of_ble_eq_true rfl) (Nat.le_of_ble_eq_true rfl) ?_
  refine mz_sn_ok hC tk_J7_copyOf_59c91 pk_RJ7 1 [] rfl (by (repeat' apply And.intro) <;> first | exact True.intro | assumption | (simp only [mz_cm1, mz_c0, mz_c1, mz_c2, mz_c3, mz_c4, mz_c5, mz_c6, mz_c7, mz_c8, mz_c10, mz_c17, mz_c20, mz_c28, mz_c58, mz_c63, mz_c98, mz_c294, mz_c526, mz_c532, mz_c540, mz_c999, mz_c1900, mz_c2403, mz_c29362, mz_c29363, mz_c29364, mz_c29390, mz_c29393, mz_c29394, mz_c29398, mz_c29399, mz_c29400, mz_c29401, nI_add, pk_mul, pk_m1, mz_pp, mz_pq]; done) | omega | (simp only [mz_cm1, mz_c0, mz_c1, mz_c2, mz_c3, mz_c4, mz_c5, mz_c6, mz_c7, mz_c8, mz_c10, mz_c17, mz_c20, mz_c28, mz_c58, mz_c63, mz_c98, mz_c294, mz_c526, mz_c532, mz_c540, mz_c999, mz_c1900, mz_c2403, mz_c29362, mz_c29363, mz_c29364, mz_c29390, mz_c29393, mz_c29394, mz_c29398, mz_c29399, mz_c29400, mz_c29401, nI_add, pk_mul, pk_m1, mz_pp, mz_pq]; congr 1; omega)) ?_
  try simp only [mz_c0, mz_cm1]
  refine mz_Vareturn hC tk_J7_copyOf_59c91 rfl hret (Or.inr ⟨_, rfl⟩) (by omega) (by omega) ?_
  exact ⟨rfl, by rw [v1, v2], rfl⟩
end MTT

