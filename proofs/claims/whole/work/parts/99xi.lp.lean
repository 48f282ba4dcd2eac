/-! ===== the law's loop ===== -/
theorem lw_and (v : Int32) : ∃ j, j < 32 ∧ v &&& nI 31 = nI j := by
  have hle : (v &&& nI 31).toBitVec.toNat ≤ 31 := by
    rw [Int32.toBitVec_and, BitVec.toNat_and]
    exact Nat.and_le_right
  have z : 0 ≤ (v &&& nI 31).toInt ∧ (v &&& nI 31).toInt < 32 := by
    show 0 ≤ (v &&& nI 31).toBitVec.toInt ∧ (v &&& nI 31).toBitVec.toInt < 32
    rw [BitVec.toInt_eq_toNat_of_lt (by omega)]
    omega
  have hc : (v &&& nI 31).toNatClampNeg = (v &&& nI 31).toInt.toNat := rfl
  refine ⟨(v &&& nI 31).toNatClampNeg, by rw [hc]; omega, ?_⟩
  refine Int32.toInt_inj.1 ?_
  rw [nI_toInt (by rw [hc]; omega), hc]
  omega
theorem lw_sub {L : Nat} (hL : L ≤ 3072) : (nI L - nI 6).toInt = (L : Int) - 6 := by
  rw [Int32.toInt_sub, nI_toInt (by omega), nI_toInt (by omega), Int.bmod_def]
  omega
section LP
variable (l : Launch) (E : mz_E)
set_option maxHeartbeats 8000000 in
theorem lw_loop {p : Program} {e : Env} {s : State} {m : MethodId} {args : Array Value} {below : List Frame} {meth : Method} {c : Code} {Q : State → Prop} (hC : mz_C E p s m args meth c code RL 7) {b L : Nat} {xs : Nat → Int32} (hX : va_X b L xs s s.heap) (hbl : b < s.heap.size) (hE : E.2.2 = s.heap.size) (hL : L ≤ 3072) {A : mx_A} {ω o : Nat} (hl : l.stackTraces = false) (hend : ∀ (G : mz_G) (sz kc ks : Nat) (lv : List (Option Value)), kc ≤ 400000 → ks ≤ 700000 → mz_V E p l e room_1 s m args below meth c 7 kc ks Q G sz 2320 lv [.int (nI 1)]) : ∀ (d t : Nat) (G : mz_G) (sz : Nat) (x : mx_S) (kc ks : Nat), t + d = 513 → jJ A ω o t kc ks G sz x → mz_V E p l e room_1 s m args below meth c 7 kc ks Q G sz 23 [some (.ref b), some (.ref ω), some (.ref A.1), some (.ref o), some (.int (nI (6 * t)))] [] := by
  intro d
  induction d with
  | zero =>
    intro t G sz x kc ks ht hJ
    have hk : kc ≤ 400000 ∧ ks ≤ 700000 := by obtain ⟨O, B, sv, F, Λ, v1, v2, -, -, K1, K2⟩ := hJ; omega
    refine mz_sn_ok hC tk_lawh pk_RL 2 [] rfl (by (repeat' apply And.intro) <;> first | exact True.intro | assumption | (simp only [mz_cm1, mz_c0, mz_c1, mz_c2, mz_c3, mz_c4, mz_c5, mz_c6, mz_c7, mz_c8, mz_c10, mz_c17, mz_c20, mz_c28, mz_c58, mz_c63, mz_c98, mz_c294, mz_c526, mz_c532, mz_c540, mz_c999, mz_c1900, mz_c2403, mz_c29362, mz_c29363, mz_c29364, mz_c29390, mz_c29393, mz_c29394, mz_c29398, mz_c29399, mz_c29400, mz_c29401, nI_add, pk_mul, pk_m1, mz_pp, mz_pq]; done) | omega | (simp only [mz_cm1, mz_c0, mz_c1, mz_c2, mz_c3, mz_c4, mz_c5, mz_c6, mz_c7, mz_c8, mz_c10, mz_c17, mz_c20, mz_c28, mz_c58, mz_c63, mz_c98, mz_c294, mz_c526, mz_c532, mz_c540, mz_c999, mz_c1900, mz_c2403, mz_c29362, mz_c29363, mz_c29364, mz_c29390, mz_c29393, mz_c29394, mz_c29398, mz_c29399, mz_c29400, mz_c29401, nI_add, pk_mul, pk_m1, mz_pp, mz_pq]; congr 1; omega)) ?_
    try simp only [mz_c0, mz_cm1]
    refine mz_Vslen hC hX hbl hE tk_lawh rfl ?_
    refine mz_sn_ok hC tk_lawh pk_RL 2 [] rfl (by (repeat' apply And.intro) <;> first | exact True.intro | assumption | (simp only [mz_cm1, mz_c0, mz_c1, mz_c2, mz_c3, mz_c4, mz_c5, mz_c6, mz_c7, mz_c8, mz_c10, mz_c17, mz_c20, mz_c28, mz_c58, mz_c63, mz_c98, mz_c294, mz_c526, mz_c532, mz_c540, mz_c999, mz_c1900, mz_c2403, mz_c29362, mz_c29363, mz_c29364, mz_c29390, mz_c29393, mz_c29394, mz_c29398, mz_c29399, mz_c29400, mz_c29401, nI_add, pk_mul, pk_m1, mz_pp, mz_pq]; done) | omega | (simp only [mz_cm1, mz_c0, mz_c1, mz_c2, mz_c3, mz_c4, mz_c5, mz_c6, mz_c7, mz_c8, mz_c10, mz_c17, mz_c20, mz_c28, mz_c58, mz_c63, mz_c98, mz_c294, mz_c526, mz_c532, mz_c540, mz_c999, mz_c1900, mz_c2403, mz_c29362, mz_c29363, mz_c29364, mz_c29390, mz_c29393, mz_c29394, mz_c29398, mz_c29399, mz_c29400, mz_c29401, nI_add, pk_mul, pk_m1, mz_pp, mz_pq]; congr 1; omega)) ?_
    try simp only [mz_c0, mz_cm1]
    refine mz_br_t hC tk_lawh rfl ((by show nI L - nI 6 < nI (6 * t); rw [mz_ltI, lw_sub hL, nI_toInt (by omega)]; omega)) ?_
    refine mz_sn_ok hC tk_lawh pk_RL 1 [] rfl (by (repeat' apply And.intro) <;> first | exact True.intro | assumption | (simp only [mz_cm1, mz_c0, mz_c1, mz_c2, mz_c3, mz_c4, mz_c5, mz_c6, mz_c7, mz_c8, mz_c10, mz_c17, mz_c20, mz_c28, mz_c58, mz_c63, mz_c98, mz_c294, mz_c526, mz_c532, mz_c540, mz_c999, mz_c1900, mz_c2403, mz_c29362, mz_c29363, mz_c29364, mz_c29390, mz_c29393, mz_c29394, mz_c29398, mz_c29399, mz_c29400, mz_c29401, nI_add, pk_mul, pk_m1, mz_pp, mz_pq]; done) | omega | (simp only [mz_cm1, mz_c0, mz_c1, mz_c2, mz_c3, mz_c4, mz_c5, mz_c6, mz_c7, mz_c8, mz_c10, mz_c17, mz_c20, mz_c28, mz_c58, mz_c63, mz_c98, mz_c294, mz_c526, mz_c532, mz_c540, mz_c999, mz_c1900, mz_c2403, mz_c29362, mz_c29363, mz_c29364, mz_c29390, mz_c29393, mz_c29394, mz_c29398, mz_c29399, mz_c29400, mz_c29401, nI_add, pk_mul, pk_m1, mz_pp, mz_pq]; congr 1; omega)) ?_
    try simp only [mz_c0, mz_cm1]
    exact hend _ _ _ _ _ hk.1 hk.2
  | succ d ih =>
    intro t G sz x kc ks ht hJ
    have hk : kc ≤ 400000 ∧ ks ≤ 700000 := by obtain ⟨O, B, sv, F, Λ, v1, v2, -, -, K1, K2⟩ := hJ; omega
    refine mz_sn_ok hC tk_lawh pk_RL 2 [] rfl (by (repeat' apply And.intro) <;> first | exact True.intro | assumption | (simp only [mz_cm1, mz_c0, mz_c1, mz_c2, mz_c3, mz_c4, mz_c5, mz_c6, mz_c7, mz_c8, mz_c10, mz_c17, mz_c20, mz_c28, mz_c58, mz_c63, mz_c98, mz_c294, mz_c526, mz_c532, mz_c540, mz_c999, mz_c1900, mz_c2403, mz_c29362, mz_c29363, mz_c29364, mz_c29390, mz_c29393, mz_c29394, mz_c29398, mz_c29399, mz_c29400, mz_c29401, nI_add, pk_mul, pk_m1, mz_pp, mz_pq]; done) | omega | (simp only [mz_cm1, mz_c0, mz_c1, mz_c2, mz_c3, mz_c4, mz_c5, mz_c6, mz_c7, mz_c8, mz_c10, mz_c17, mz_c20, mz_c28, mz_c58, mz_c63, mz_c98, mz_c294, mz_c526, mz_c532, mz_c540, mz_c999, mz_c1900, mz_c2403, mz_c29362, mz_c29363, mz_c29364, mz_c29390, mz_c29393, mz_c29394, mz_c29398, mz_c29399, mz_c29400, mz_c29401, nI_add, pk_mul, pk_m1, mz_pp, mz_pq]; congr 1; omega)) ?_
    try simp only [mz_c0, mz_cm1]
    refine mz_Vslen hC hX hbl hE tk_lawh rfl ?_
    refine mz_sn_ok hC tk_lawh pk_RL 2 [] rfl (by (repeat' apply And.intro) <;> first | exact True.intro | assumption | (simp only [mz_cm1, mz_c0, mz_c1, mz_c2, mz_c3, mz_c4, mz_c5, mz_c6, mz_c7, mz_c8, mz_c10, mz_c17, mz_c20, mz_c28, mz_c58, mz_c63, mz_c98, mz_c294, mz_c526, mz_c532, mz_c540, mz_c999, mz_c1900, mz_c2403, mz_c29362, mz_c29363, mz_c29364, mz_c29390, mz_c29393, mz_c29394, mz_c29398, mz_c29399, mz_c29400, mz_c29401, nI_add, pk_mul, pk_m1, mz_pp, mz_pq]; done) | omega | (simp only [mz_cm1, mz_c0, mz_c1, mz_c2, mz_c3, mz_c4, mz_c5, mz_c6, mz_c7, mz_c8, mz_c10, mz_c17, mz_c20, mz_c28, mz_c58, mz_c63, mz_c98, mz_c294, mz_c526, mz_c532, mz_c540, mz_c999, mz_c1900, mz_c2403, mz_c29362, mz_c29363, mz_c29364, mz_c29390, mz_c29393, mz_c29394, mz_c29398, mz_c29399, mz_c29400, mz_c29401, nI_add, pk_mul, pk_m1, mz_pp, mz_pq]; congr 1; omega)) ?_
    try simp only [mz_c0, mz_cm1]
    by_cases h6 : 6 * t + 6 ≤ L
    · refine mz_br_f hC tk_lawh rfl ((by show ¬ nI L - nI 6 < nI (6 * t); rw [mz_ltI, lw_sub hL, nI_toInt (by omega)]; omega)) ?_
      refine mz_sn_ok hC tk_lawh pk_RL 2 [] rfl (by (repeat' apply And.intro) <;> first | exact True.intro | assumption | (simp only [mz_cm1, mz_c0, mz_c1, mz_c2, mz_c3, mz_c4, mz_c5, mz_c6, mz_c7, mz_c8, mz_c10, mz_c17, mz_c20, mz_c28, mz_c58, mz_c63, mz_c98, mz_c294, mz_c526, mz_c532, mz_c540, mz_c999, mz_c1900, mz_c2403, mz_c29362, mz_c29363, mz_c29364, mz_c29390, mz_c29393, mz_c29394, mz_c29398, mz_c29399, mz_c29400, mz_c29401, nI_add, pk_mul, pk_m1, mz_pp, mz_pq]; done) | omega | (simp only [mz_cm1, mz_c0, mz_c1, mz_c2, mz_c3, mz_c4, mz_c5, mz_c6, mz_c7, mz_c8, mz_c10, mz_c17, mz_c20, mz_c28, mz_c58, mz_c63, mz_c98, mz_c294, mz_c526, mz_c532, mz_c540, mz_c999, mz_c1900, mz_c2403, mz_c29362, mz_c29363, mz_c29364, mz_c29390, mz_c29393, mz_c29394, mz_c29398, mz_c29399, mz_c29400, mz_c29401, nI_add, pk_mul, pk_m1, mz_pp, mz_pq]; congr 1; omega)) ?_
      try simp only [mz_c0, mz_cm1]
      refine mz_Vsld hC hX hbl hE tk_lawh rfl (6 * t) rfl (by omega) (by omega) ?_
      refine mz_sn_ok hC tk_lawh pk_RL 2 [] rfl (by (repeat' apply And.intro) <;> first | exact True.intro | assumption | (simp only [mz_cm1, mz_c0, mz_c1, mz_c2, mz_c3, mz_c4, mz_c5, mz_c6, mz_c7, mz_c8, mz_c10, mz_c17, mz_c20, mz_c28, mz_c58, mz_c63, mz_c98, mz_c294, mz_c526, mz_c532, mz_c540, mz_c999, mz_c1900, mz_c2403, mz_c29362, mz_c29363, mz_c29364, mz_c29390, mz_c29393, mz_c29394, mz_c29398, mz_c29399, mz_c29400, mz_c29401, nI_add, pk_mul, pk_m1, mz_pp, mz_pq]; done) | omega | (simp only [mz_cm1, mz_c0, mz_c1, mz_c2, mz_c3, mz_c4, mz_c5, mz_c6, mz_c7, mz_c8, mz_c10, mz_c17, mz_c20, mz_c28, mz_c58, mz_c63, mz_c98, mz_c294, mz_c526, mz_c532, mz_c540, mz_c999, mz_c1900, mz_c2403, mz_c29362, mz_c29363, mz_c29364, mz_c29390, mz_c29393, mz_c29394, mz_c29398, mz_c29399, mz_c29400, mz_c29401, nI_add, pk_mul, pk_m1, mz_pp, mz_pq]; congr 1; omega)) ?_
      try simp only [mz_c0, mz_cm1]
      have kk : ∀ (G' : mz_G) (sz' : Nat) (x' : mx_S) (kc' ks' : Nat), jJ A ω o (t + 1) kc' ks' G' sz' x' → mz_V E p l e room_1 s m args below meth c 7 kc' ks' Q G' sz' 2313 [some (.ref b), some (.ref ω), some (.ref A.1), some (.ref o), some (.int (nI (6 * t)))] [] := by
        intro G' sz' x' kc' ks' hJ'
        refine mz_sn_ok hC tk_lawh pk_RL 2 [] rfl (by (repeat' apply And.intro) <;> first | exact True.intro | assumption | (simp only [mz_cm1, mz_c0, mz_c1, mz_c2, mz_c3, mz_c4, mz_c5, mz_c6, mz_c7, mz_c8, mz_c10, mz_c17, mz_c20, mz_c28, mz_c58, mz_c63, mz_c98, mz_c294, mz_c526, mz_c532, mz_c540, mz_c999, mz_c1900, mz_c2403, mz_c29362, mz_c29363, mz_c29364, mz_c29390, mz_c29393, mz_c29394, mz_c29398, mz_c29399, mz_c29400, mz_c29401, nI_add, pk_mul, pk_m1, mz_pp, mz_pq]; done) | omega | (simp only [mz_cm1, mz_c0, mz_c1, mz_c2, mz_c3, mz_c4, mz_c5, mz_c6, mz_c7, mz_c8, mz_c10, mz_c17, mz_c20, mz_c28, mz_c58, mz_c63, mz_c98, mz_c294, mz_c526, mz_c532, mz_c540, mz_c999, mz_c1900, mz_c2403, mz_c29362, mz_c29363, mz_c29364, mz_c29390, mz_c29393, mz_c29394, mz_c29398, mz_c29399, mz_c29400, mz_c29401, nI_add, pk_mul, pk_m1, mz_pp, mz_pq]; congr 1; omega)) ?_
        try simp only [mz_c0, mz_cm1]
        refine mz_V.sub (lv' := [some (.ref b), some (.ref ω), some (.ref A.1), some (.ref o), some (.int (nI (6 * t + 6)))]) (by (repeat' apply And.intro) <;> first | with_reducible rfl | exact True.intro | (simp only [mz_cm1, mz_c0, mz_c1, mz_c2, mz_c3, mz_c4, mz_c5, mz_c6, mz_c7, mz_c8, mz_c10, mz_c17, mz_c20, mz_c28, mz_c58, mz_c63, mz_c98, mz_c294, mz_c526, mz_c532, mz_c540, mz_c999, mz_c1900, mz_c2403, mz_c29362, mz_c29363, mz_c29364, mz_c29390, mz_c29393, mz_c29394, mz_c29398, mz_c29399, mz_c29400, mz_c29401, nI_add, pk_mul, pk_m1, mz_pp, mz_pq]; done) | rfl) ?_
        rw [show 6 * t + 6 = 6 * (t + 1) by omega]
        exact ih (t + 1) G' sz' x' kc' ks' (by omega) hJ'
      obtain ⟨j, hj, ej⟩ := lw_and (xs (6 * t))
      have ej : xs (6 * t) &&& mz_c 31 = nI j := ej
      rw [ej]
      have hLL : 6 * t + 6 ≤ L ∧ L ≤ 3072 := ⟨h6, hL⟩
      rcases (show j = 0 ∨ j = 1 ∨ j = 2 ∨ j = 3 ∨ j = 4 ∨ j = 5 ∨ j = 6 ∨ j = 7 ∨ j = 8 ∨ j = 9 ∨ j = 10 ∨ j = 11 ∨ j = 12 ∨ j = 13 ∨ j = 14 ∨ j = 15 ∨ j = 16 ∨ j = 17 ∨ j = 18 ∨ j = 19 ∨ j = 20 ∨ j = 21 ∨ j = 22 ∨ j = 23 ∨ j = 24 ∨ j = 25 ∨ j = 26 ∨ j = 27 ∨ j = 28 ∨ j = 29 ∨ j = 30 ∨ j = 31 by omega) with rfl | rfl | rfl | rfl | rfl | rfl | rfl | rfl | rfl | rfl | rfl | rfl | rfl | rfl | rfl | rfl | rfl | rfl | rfl | rfl | rfl | rfl | rfl | rfl | rfl | rfl | rfl | rfl | rfl | rfl | rfl | rfl
      · exact mz_Vtab (tgt := 184) hC tk_lawh 0 rfl rfl (by omega) (by decide) rfl (by decide) (lw_c0 l E hC hX hbl hE hLL hJ hl kk)
      · exact mz_Vtab (tgt := 264) hC tk_lawh 1 rfl rfl (by omega) (by decide) rfl (by decide) (lw_c1 l E hC hX hbl hE hLL hJ hl kk)
      · exact mz_Vtab (tgt := 368) hC tk_lawh 2 rfl rfl (by omega) (by decide) rfl (by decide) (lw_c2 l E hC hX hbl hE hLL hJ hl kk)
      · exact mz_Vtab (tgt := 436) hC tk_lawh 3 rfl rfl (by omega) (by decide) rfl (by decide) (lw_c3 l E hC hX hbl hE hLL hJ hl kk)
      · exact mz_Vtab (tgt := 492) hC tk_lawh 4 rfl rfl (by omega) (by decide) rfl (by decide) (lw_c4 l E hC hX hbl hE hLL hJ hl kk)
      · exact mz_Vtab (tgt := 572) hC tk_lawh 5 rfl rfl (by omega) (by decide) rfl (by decide) (lw_c5 l E hC hX hbl hE hLL hJ hl kk)
      · exact mz_Vtab (tgt := 628) hC tk_lawh 6 rfl rfl (by omega) (by decide) rfl (by decide) (lw_c6 l E hC hX hbl hE hLL hJ hl kk)
      · exact mz_Vtab (tgt := 696) hC tk_lawh 7 rfl rfl (by omega) (by decide) rfl (by decide) (lw_c7 l E hC hX hbl hE hLL hJ hl kk)
      · exact mz_Vtab (tgt := 776) hC tk_lawh 8 rfl rfl (by omega) (by decide) rfl (by decide) (lw_c8 l E hC hX hbl hE hLL hJ hl kk)
      · exact mz_Vtab (tgt := 872) hC tk_lawh 9 rfl rfl (by omega) (by decide) rfl (by decide) (lw_c9 l E hC hX hbl hE hLL hJ hl kk)
      · exact mz_Vtab (tgt := 940) hC tk_lawh 10 rfl rfl (by omega) (by decide) rfl (by decide) (lw_c10 l E hC hX hbl hE hLL hJ hl kk)
      · exact mz_Vtab (tgt := 1008) hC tk_lawh 11 rfl rfl (by omega) (by decide) rfl (by decide) (lw_c11 l E hC hX hbl hE hLL hJ hl kk)
      · exact mz_Vtab (tgt := 1076) hC tk_lawh 12 rfl rfl (by omega) (by decide) rfl (by decide) (lw_c12 l E hC hX hbl hE hLL hJ hl kk)
      · exact mz_Vtab (tgt := 1144) hC tk_lawh 13 rfl rfl (by omega) (by decide) rfl (by decide) (lw_c13 l E hC hX hbl hE hLL hJ hl kk)
      · exact mz_Vtab (tgt := 1212) hC tk_lawh 14 rfl rfl (by omega) (by decide) rfl (by decide) (lw_c14 l E hC hX hbl hE hLL hJ hl kk)
      · exact mz_Vtab (tgt := 1292) hC tk_lawh 15 rfl rfl (by omega) (by decide) rfl (by decide) (lw_c15 l E hC hX hbl hE hLL hJ hl kk)
      · exact mz_Vtab (tgt := 1384) hC tk_lawh 16 rfl rfl (by omega) (by decide) rfl (by decide) (lw_c16 l E hC hX hbl hE hLL hJ hl kk)
      · exact mz_Vtab (tgt := 1476) hC tk_lawh 17 rfl rfl (by omega) (by decide) rfl (by decide) (lw_c17 l E hC hX hbl hE hLL hJ hl kk)
      · exact mz_Vtab (tgt := 1544) hC tk_lawh 18 rfl rfl (by omega) (by decide) rfl (by decide) (lw_c18 l E hC hX hbl hE hLL hJ hl kk)
      · exact mz_Vtab (tgt := 1631) hC tk_lawh 19 rfl rfl (by omega) (by decide) rfl (by decide) (lw_c19 l E hC hX hbl hE hLL hJ hl kk)
      · exact mz_Vtab (tgt := 1735) hC tk_lawh 20 rfl rfl (by omega) (by decide) rfl (by decide) (lw_c20 l E hC hX hbl hE hLL hJ hl kk)
      · exact mz_Vtab (tgt := 1827) hC tk_lawh 21 rfl rfl (by omega) (by decide) rfl (by decide) (lw_c21 l E hC hX hbl hE hLL hJ hl kk)
      · exact mz_Vtab (tgt := 1907) hC tk_lawh 22 rfl rfl (by omega) (by decide) rfl (by decide) (lw_c22 l E hC hX hbl hE hLL hJ hl kk)
      · exact mz_Vtab (tgt := 1975) hC tk_lawh 23 rfl rfl (by omega) (by decide) rfl (by decide) (lw_c23 l E hC hX hbl hE hLL hJ hl kk)
      · exact mz_Vtab (tgt := 2055) hC tk_lawh 24 rfl rfl (by omega) (by decide) rfl (by decide) (lw_c24 l E hC hX hbl hE hLL hJ hl kk)
      · exact mz_Vtab (tgt := 2111) hC tk_lawh 25 rfl rfl (by omega) (by decide) rfl (by decide) (lw_c25 l E hC hX hbl hE hLL hJ hl kk)
      · exact mz_Vtab (tgt := 2136) hC tk_lawh 26 rfl rfl (by omega) (by decide) rfl (by decide) (lw_c26 l E hC hX hbl hE hLL hJ hl kk)
      · exact mz_Vtab (tgt := 2161) hC tk_lawh 27 rfl rfl (by omega) (by decide) rfl (by decide) (lw_c27 l E hC hX hbl hE hLL hJ hl kk)
      · exact mz_Vtab (tgt := 2186) hC tk_lawh 28 rfl rfl (by omega) (by decide) rfl (by decide) (lw_c28 l E hC hX hbl hE hLL hJ hl kk)
      · exact mz_Vtab (tgt := 2199) hC tk_lawh 29 rfl rfl (by omega) (by decide) rfl (by decide) (lw_c29 l E hC hX hbl hE hLL hJ hl kk)
      · exact mz_Vtab (tgt := 2255) hC tk_lawh 30 rfl rfl (by omega) (by decide) rfl (by decide) (lw_c30 l E hC hX hbl hE hLL hJ hl kk)
      · exact mz_Vtab (tgt := 2299) hC tk_lawh 31 rfl rfl (by omega) (by decide) rfl (by decide) (lw_c31 l E hC hX hbl hE hLL hJ hl kk)
    · refine mz_br_t hC tk_lawh rfl ((by show nI L - nI 6 < nI (6 * t); rw [mz_ltI, lw_sub hL, nI_toInt (by omega)]; omega)) ?_
      refine mz_sn_ok hC tk_lawh pk_RL 1 [] rfl (by (repeat' apply And.intro) <;> first | exact True.intro | assumption | (simp only [mz_cm1, mz_c0, mz_c1, mz_c2, mz_c3, mz_c4, mz_c5, mz_c6, mz_c7, mz_c8, mz_c10, mz_c17, mz_c20, mz_c28, mz_c58, mz_c63, mz_c98, mz_c294, mz_c526, mz_c532, mz_c540, mz_c999, mz_c1900, mz_c2403, mz_c29362, mz_c29363, mz_c29364, mz_c29390, mz_c29393, mz_c29394, mz_c29398, mz_c29399, mz_c29400, mz_c29401, nI_add, pk_mul, pk_m1, mz_pp, mz_pq]; done) | omega | (simp only [mz_cm1, mz_c0, mz_c1, mz_c2, mz_c3, mz_c4, mz_c5, mz_c6, mz_c7, mz_c8, mz_c10, mz_c17, mz_c20, mz_c28, mz_c58, mz_c63, mz_c98, mz_c294, mz_c526, mz_c532, mz_c540, mz_c999, mz_c1900, mz_c2403, mz_c29362, mz_c29363, mz_c29364, mz_c29390, mz_c29393, mz_c29394, mz_c29398, mz_c29399, mz_c29400, mz_c29401, nI_add, pk_mul, pk_m1, mz_pp, mz_pq]; congr 1; omega)) ?_
      try simp only [mz_c0, mz_cm1]
      exact hend _ _ _ _ _ hk.1 hk.2
end LP

