/-! ===== the reference: its constructor ===== -/
def mx_in0 (f : Nat → Int32) : Nat → (Nat → Int32)
  | 0 => f
  | b + 1 => mz_u1 (mz_u1 (mx_in0 f b) (98 * b + 0) (nI 1)) (98 * b + 1) (nI 1)
theorem mx_in0_f0 : mx_in0 (fun _ => 0) 3 = mr_f0 := by
  funext i
  simp only [mx_in0, mz_u1, mr_f0]
  by_cases h : i = 0 ∨ i = 1 ∨ i = 98 ∨ i = 99 ∨ i = 196 ∨ i = 197
  · rw [if_pos h]
    rcases h with rfl | rfl | rfl | rfl | rfl | rfl <;> rfl
  · rw [if_neg h, if_neg (by omega), if_neg (by omega), if_neg (by omega), if_neg (by omega), if_neg (by omega), if_neg (by omega)]
    rfl
def mx_x0 : mx_S := ((mr_f0, fun _ => 0, fun _ => 0, fun _ => 0), (0, 0, 0), 0)
/-- the reference's object stands, with state x -/
def mx_H (A : mx_A) (G : mz_G) (x : mx_S) : Prop := mx_Ok A G ∧ mx_G A G x = G
theorem mx_GG (A : mx_A) (G : mz_G) (x y : mx_S) : mx_G A (mx_G A G x) y = mx_G A G y := by
  refine Prod.ext rfl (Prod.ext rfl (Prod.ext ?_ (Prod.ext rfl ?_)))
  · funext q
    simp only [mx_G, mz_i]
    by_cases h1 : q = A.2.1
    · simp only [if_pos h1]
    · by_cases h2 : q = A.2.2.1
      · simp only [if_neg h1, if_pos h2]
      · by_cases h3 : q = A.2.2.2.1
        · simp only [if_neg h1, if_neg h2, if_pos h3]
        · by_cases h4 : q = A.2.2.2.2
          · simp only [if_neg h1, if_neg h2, if_neg h3, if_pos h4]
          · by_cases h5 : q = A.1
            · simp only [if_neg h1, if_neg h2, if_neg h3, if_neg h4, if_pos h5]
              funext j
              (repeat' split) <;> rfl
            · simp only [if_neg h1, if_neg h2, if_neg h3, if_neg h4, if_neg h5]
  · funext q j
    simp only [mx_G, mz_l]
    by_cases h5 : q = A.1
    · simp only [if_pos h5]
      split <;> rfl
    · simp only [if_neg h5]
/-- the objects of the reference -/
def mx_Y (A : mx_A) : Nat → Prop := fun q => q = A.1 ∨ q = A.2.1 ∨ q = A.2.2.1 ∨ q = A.2.2.2.1 ∨ q = A.2.2.2.2
theorem mx_F {A : mx_A} {G : mz_G} {O : Nat → Nat} {sz : Nat} (x : mx_S) (ho : ∀ q, mx_Y A q → O q = q) : mt_F (mx_Y A) G (mx_G A G x) O O sz sz := by
  refine ⟨Nat.le_refl _, fun q hq => ⟨rfl, fun hX => ?_⟩⟩
  have hq : ¬ mx_Y A q := fun z => hX (by rw [ho q z]; exact z)
  have h5 : ¬ q = A.1 := fun z => hq (Or.inl z)
  have h1 : ¬ q = A.2.1 := fun z => hq (Or.inr (Or.inl z))
  have h2 : ¬ q = A.2.2.1 := fun z => hq (Or.inr (Or.inr (Or.inl z)))
  have h3 : ¬ q = A.2.2.2.1 := fun z => hq (Or.inr (Or.inr (Or.inr (Or.inl z))))
  have h4 : ¬ q = A.2.2.2.2 := fun z => hq (Or.inr (Or.inr (Or.inr (Or.inr z))))
  refine ⟨rfl, rfl, ?_, rfl, ?_⟩
  · simp only [mx_G, mz_i, if_neg h1, if_neg h2, if_neg h3, if_neg h4, if_neg h5]
  · funext j
    simp only [mx_G, mz_l, if_neg h5]
section MXI
variable (l : Launch) (E : mz_E) {G : mz_G} {O : Nat → Nat} {sz : Nat}
theorem cm_initT {A : mx_A} {P : Option Value → mz_G → Nat → Prop} {p : Program} {e : Env} {s : State} {m : MethodId} {args : Array Value} {below : List Frame} {meth : Method} {c : Code} (hC : mz_C E p s m args meth c cX6_init yX6_init.cls 2) (hret : meth.sig.returnType = none) (hA : mx_Ok A G) (x : mx_S) (hP : P none (mx_G A G (mx_wnow x (mx_in0 (mx_now x) 3))) sz) : ∀ d b, b + d = 3 → mz_V E p l e (mz_rm 3 4 150805) s m args below meth c 2 (4) (150805) (mz_Z E below args s 4 150805 P) (mx_G A G (mx_wnow x (mx_in0 (mx_now x) b))) (sz) (41) [some (.ref A.1), some (.int (nI b))] [] := by
  obtain ⟨⟨k6, r0, r1, r5, r6⟩, ⟨kN, kP, kV, kB⟩, ⟨nN, nP, nV, nB⟩, -⟩ := id hA
  intro d
  induction d with
  | zero =>
    intro b hb
    obtain rfl : b = 3 := by omega
    refine mz_sn_ok hC tk_X6_init pk_RX6 2 [] rfl (by (repeat' apply And.intro) <;> first | exact True.intro | exact k6 | exact r0 | exact r1 | exact r5 | exact r6 | exact kN | exact kP | exact kV | exact kB | (show _ < mz_n G _; first | rw [nN] | rw [nP] | rw [nV] | rw [nB]) <;> omega | (show mz_n G _ < _; first | rw [nN] | rw [nP] | rw [nV] | rw [nB]) <;> omega | (simp only [mz_cm1, mz_c0, mz_c1, mz_c2, mz_c3, mz_c4, mz_c5, mz_c6, mz_c7, mz_c8, mz_c10, mz_c17, mz_c20, mz_c28, mz_c58, mz_c63, mz_c98, mz_c294, mz_c526, mz_c532, mz_c540, mz_c999, mz_c1900, mz_c2403, mz_c29362, mz_c29363, mz_c29364, mz_c29390, mz_c29393, mz_c29394, mz_c29398, mz_c29399, mz_c29400, mz_c29401, nI_add, pk_mul, pk_m1, mz_pp, mz_pq]; done) | (simp only [mz_cm1, mz_c0, mz_c1, mz_c2, mz_c3, mz_c4, mz_c5, mz_c6, mz_c7, mz_c8, mz_c10, mz_c17, mz_c20, mz_c28, mz_c58, mz_c63, mz_c98, mz_c294, mz_c526, mz_c532, mz_c540, mz_c999, mz_c1900, mz_c2403, mz_c29362, mz_c29363, mz_c29364, mz_c29390, mz_c29393, mz_c29394, mz_c29398, mz_c29399, mz_c29400, mz_c29401, nI_add, pk_mul, pk_m1, mz_pp, mz_pq]; congr 1; omega) | assumption | (simp only [mx_in, mx_ip hA, mx_iv hA, mx_ib hA, mx_i2 hA, mx_i3 hA, mx_i4 hA, mx_l7, mx_sn, mx_sp hA, mx_sw hA, mx_sb hA, mx_s2 hA, mx_s3 hA, mx_s4 hA, mx_sh, mxq_now_now, mxq_now_past, mxq_now_view, mxq_now_bef, mxq_now_sv, mxq_now_rf, mxq_now_vm, mxq_now_h, mxq_past_now, mxq_past_past, mxq_past_view, mxq_past_bef, mxq_past_sv, mxq_past_rf, mxq_past_vm, mxq_past_h, mxq_view_now, mxq_view_past, mxq_view_view, mxq_view_bef, mxq_view_sv, mxq_view_rf, mxq_view_vm, mxq_view_h, mxq_bef_now, mxq_bef_past, mxq_bef_view, mxq_bef_bef, mxq_bef_sv, mxq_bef_rf, mxq_bef_vm, mxq_bef_h, mxq_sv_now, mxq_sv_past, mxq_sv_view, mxq_sv_bef, mxq_sv_sv, mxq_sv_rf, mxq_sv_vm, mxq_sv_h, mxq_rf_now, mxq_rf_past, mxq_rf_view, mxq_rf_bef, mxq_rf_sv, mxq_rf_rf, mxq_rf_vm, mxq_rf_h, mxq_vm_now, mxq_vm_past, mxq_vm_view, mxq_vm_bef, mxq_vm_sv, mxq_vm_rf, mxq_vm_vm, mxq_vm_h, mxq_h_now, mxq_h_past, mxq_h_view, mxq_h_bef, mxq_h_sv, mxq_h_rf, mxq_h_vm, mxq_h_h, mxw_now, mxw_past, mxw_view, mxw_bef, mxw_sv, mxw_rf, mxw_vm, mxw_h, mz_cm1, mz_c0, mz_c1, mz_c2, mz_c3, mz_c4, mz_c5, mz_c6, mz_c7, mz_c8, mz_c10, mz_c17, mz_c20, mz_c28, mz_c58, mz_c63, mz_c98, mz_c294, mz_c526, mz_c532, mz_c540, mz_c999, mz_c1900, mz_c2403, mz_c29362, mz_c29363, mz_c29364, mz_c29390, mz_c29393, mz_c29394, mz_c29398, mz_c29399, mz_c29400, mz_c29401, nI_add, pk_mul, pk_m1, mz_pp, mz_pq]; done) | (simp only [mx_in, mx_ip hA, mx_iv hA, mx_ib hA, mx_i2 hA, mx_i3 hA, mx_i4 hA, mx_l7, mx_sn, mx_sp hA, mx_sw hA, mx_sb hA, mx_s2 hA, mx_s3 hA, mx_s4 hA, mx_sh, mxq_now_now, mxq_now_past, mxq_now_view, mxq_now_bef, mxq_now_sv, mxq_now_rf, mxq_now_vm, mxq_now_h, mxq_past_now, mxq_past_past, mxq_past_view, mxq_past_bef, mxq_past_sv, mxq_past_rf, mxq_past_vm, mxq_past_h, mxq_view_now, mxq_view_past, mxq_view_view, mxq_view_bef, mxq_view_sv, mxq_view_rf, mxq_view_vm, mxq_view_h, mxq_bef_now, mxq_bef_past, mxq_bef_view, mxq_bef_bef, mxq_bef_sv, mxq_bef_rf, mxq_bef_vm, mxq_bef_h, mxq_sv_now, mxq_sv_past, mxq_sv_view, mxq_sv_bef, mxq_sv_sv, mxq_sv_rf, mxq_sv_vm, mxq_sv_h, mxq_rf_now, mxq_rf_past, mxq_rf_view, mxq_rf_bef, mxq_rf_sv, mxq_rf_rf, mxq_rf_vm, mxq_rf_h, mxq_vm_now, mxq_vm_past, mxq_vm_view, mxq_vm_bef, mxq_vm_sv, mxq_vm_rf, mxq_vm_vm, mxq_vm_h, mxq_h_now, mxq_h_past, mxq_h_view, mxq_h_bef, mxq_h_sv, mxq_h_rf, mxq_h_vm, mxq_h_h, mxw_now, mxw_past, mxw_view, mxw_bef, mxw_sv, mxw_rf, mxw_vm, mxw_h, mz_cm1, mz_c0, mz_c1, mz_c2, mz_c3, mz_c4, mz_c5, mz_c6, mz_c7, mz_c8, mz_c10, mz_c17, mz_c20, mz_c28, mz_c58, mz_c63, mz_c98, mz_c294, mz_c526, mz_c532, mz_c540, mz_c999, mz_c1900, mz_c2403, mz_c29362, mz_c29363, mz_c29364, mz_c29390, mz_c29393, mz_c29394, mz_c29398, mz_c29399, mz_c29400, mz_c29401, nI_add, pk_mul, pk_m1, mz_pp, mz_pq]; congr 1; omega)) ?_
    try simp only [mx_in, mx_ip hA, mx_iv hA, mx_ib hA, mx_i2 hA, mx_i3 hA, mx_i4 hA, mx_l7, mx_sn, mx_sp hA, mx_sw hA, mx_sb hA, mx_s2 hA, mx_s3 hA, mx_s4 hA, mx_sh, mxq_now_now, mxq_now_past, mxq_now_view, mxq_now_bef, mxq_now_sv, mxq_now_rf, mxq_now_vm, mxq_now_h, mxq_past_now, mxq_past_past, mxq_past_view, mxq_past_bef, mxq_past_sv, mxq_past_rf, mxq_past_vm, mxq_past_h, mxq_view_now, mxq_view_past, mxq_view_view, mxq_view_bef, mxq_view_sv, mxq_view_rf, mxq_view_vm, mxq_view_h, mxq_bef_now, mxq_bef_past, mxq_bef_view, mxq_bef_bef, mxq_bef_sv, mxq_bef_rf, mxq_bef_vm, mxq_bef_h, mxq_sv_now, mxq_sv_past, mxq_sv_view, mxq_sv_bef, mxq_sv_sv, mxq_sv_rf, mxq_sv_vm, mxq_sv_h, mxq_rf_now, mxq_rf_past, mxq_rf_view, mxq_rf_bef, mxq_rf_sv, mxq_rf_rf, mxq_rf_vm, mxq_rf_h, mxq_vm_now, mxq_vm_past, mxq_vm_view, mxq_vm_bef, mxq_vm_sv, mxq_vm_rf, mxq_vm_vm, mxq_vm_h, mxq_h_now, mxq_h_past, mxq_h_view, mxq_h_bef, mxq_h_sv, mxq_h_rf, mxq_h_vm, mxq_h_h, mxw_now, mxw_past, mxw_view, mxw_bef, mxw_sv, mxw_rf, mxw_vm, mxw_h]
    refine mz_br_t hC tk_X6_init rfl ((by show nI 3 ≤ nI 3; decide)) ?_
    refine mz_Vreturn hC tk_X6_init rfl hret (Nat.le_of_ble_eq_true rfl) (Nat.le_of_ble_eq_true rfl) ?_
    exact hP
  | succ d ih =>
    intro b hb
    refine mz_sn_ok hC tk_X6_init pk_RX6 2 [] rfl (by (repeat' apply And.intro) <;> first | exact True.intro | exact k6 | exact r0 | exact r1 | exact r5 | exact r6 | exact kN | exact kP | exact kV | exact kB | (show _ < mz_n G _; first | rw [nN] | rw [nP] | rw [nV] | rw [nB]) <;> omega | (show mz_n G _ < _; first | rw [nN] | rw [nP] | rw [nV] | rw [nB]) <;> omega | (simp only [mz_cm1, mz_c0, mz_c1, mz_c2, mz_c3, mz_c4, mz_c5, mz_c6, mz_c7, mz_c8, mz_c10, mz_c17, mz_c20, mz_c28, mz_c58, mz_c63, mz_c98, mz_c294, mz_c526, mz_c532, mz_c540, mz_c999, mz_c1900, mz_c2403, mz_c29362, mz_c29363, mz_c29364, mz_c29390, mz_c29393, mz_c29394, mz_c29398, mz_c29399, mz_c29400, mz_c29401, nI_add, pk_mul, pk_m1, mz_pp, mz_pq]; done) | (simp only [mz_cm1, mz_c0, mz_c1, mz_c2, mz_c3, mz_c4, mz_c5, mz_c6, mz_c7, mz_c8, mz_c10, mz_c17, mz_c20, mz_c28, mz_c58, mz_c63, mz_c98, mz_c294, mz_c526, mz_c532, mz_c540, mz_c999, mz_c1900, mz_c2403, mz_c29362, mz_c29363, mz_c29364, mz_c29390, mz_c29393, mz_c29394, mz_c29398, mz_c29399, mz_c29400, mz_c29401, nI_add, pk_mul, pk_m1, mz_pp, mz_pq]; congr 1; omega) | assumption | (simp only [mx_in, mx_ip hA, mx_iv hA, mx_ib hA, mx_i2 hA, mx_i3 hA, mx_i4 hA, mx_l7, mx_sn, mx_sp hA, mx_sw hA, mx_sb hA, mx_s2 hA, mx_s3 hA, mx_s4 hA, mx_sh, mxq_now_now, mxq_now_past, mxq_now_view, mxq_now_bef, mxq_now_sv, mxq_now_rf, mxq_now_vm, mxq_now_h, mxq_past_now, mxq_past_past, mxq_past_view, mxq_past_bef, mxq_past_sv, mxq_past_rf, mxq_past_vm, mxq_past_h, mxq_view_now, mxq_view_past, mxq_view_view, mxq_view_bef, mxq_view_sv, mxq_view_rf, mxq_view_vm, mxq_view_h, mxq_bef_now, mxq_bef_past, mxq_bef_view, mxq_bef_bef, mxq_bef_sv, mxq_bef_rf, mxq_bef_vm, mxq_bef_h, mxq_sv_now, mxq_sv_past, mxq_sv_view, mxq_sv_bef, mxq_sv_sv, mxq_sv_rf, mxq_sv_vm, mxq_sv_h, mxq_rf_now, mxq_rf_past, mxq_rf_view, mxq_rf_bef, mxq_rf_sv, mxq_rf_rf, mxq_rf_vm, mxq_rf_h, mxq_vm_now, mxq_vm_past, mxq_vm_view, mxq_vm_bef, mxq_vm_sv, mxq_vm_rf, mxq_vm_vm, mxq_vm_h, mxq_h_now, mxq_h_past, mxq_h_view, mxq_h_bef, mxq_h_sv, mxq_h_rf, mxq_h_vm, mxq_h_h, mxw_now, mxw_past, mxw_view, mxw_bef, mxw_sv, mxw_rf, mxw_vm, mxw_h, mz_cm1, mz_c0, mz_c1, mz_c2, mz_c3, mz_c4, mz_c5, mz_c6, mz_c7, mz_c8, mz_c10, mz_c17, mz_c20, mz_c28, mz_c58, mz_c63, mz_c98, mz_c294, mz_c526, mz_c532, mz_c540, mz_c999, mz_c1900, mz_c2403, mz_c29362, mz_c29363, mz_c29364, mz_c29390, mz_c29393, mz_c29394, mz_c29398, mz_c29399, mz_c29400, mz_c29401, nI_add, pk_mul, pk_m1, mz_pp, mz_pq]; done) | (simp only [mx_in, mx_ip hA, mx_iv hA, mx_ib hA, mx_i2 hA, mx_i3 hA, mx_i4 hA, mx_l7, mx_sn, mx_sp hA, mx_sw hA, mx_sb hA, mx_s2 hA, mx_s3 hA, mx_s4 hA, mx_sh, mxq_now_now, mxq_now_past, mxq_now_view, mxq_now_bef, mxq_now_sv, mxq_now_rf, mxq_now_vm, mxq_now_h, mxq_past_now, mxq_past_past, mxq_past_view, mxq_past_bef, mxq_past_sv, mxq_past_rf, mxq_past_vm, mxq_past_h, mxq_view_now, mxq_view_past, mxq_view_view, mxq_view_bef, mxq_view_sv, mxq_view_rf, mxq_view_vm, mxq_view_h, mxq_bef_now, mxq_bef_past, mxq_bef_view, mxq_bef_bef, mxq_bef_sv, mxq_bef_rf, mxq_bef_vm, mxq_bef_h, mxq_sv_now, mxq_sv_past, mxq_sv_view, mxq_sv_bef, mxq_sv_sv, mxq_sv_rf, mxq_sv_vm, mxq_sv_h, mxq_rf_now, mxq_rf_past, mxq_rf_view, mxq_rf_bef, mxq_rf_sv, mxq_rf_rf, mxq_rf_vm, mxq_rf_h, mxq_vm_now, mxq_vm_past, mxq_vm_view, mxq_vm_bef, mxq_vm_sv, mxq_vm_rf, mxq_vm_vm, mxq_vm_h, mxq_h_now, mxq_h_past, mxq_h_view, mxq_h_bef, mxq_h_sv, mxq_h_rf, mxq_h_vm, mxq_h_h, mxw_now, mxw_past, mxw_view, mxw_bef, mxw_sv, mxw_rf, mxw_vm, mxw_h, mz_cm1, mz_c0, mz_c1, mz_c2, mz_c3, mz_c4, mz_c5, mz_c6, mz_c7, mz_c8, mz_c10, mz_c17, mz_c20, mz_c28, mz_c58, mz_c63, mz_c98, mz_c294, mz_c526, mz_c532, mz_c540, mz_c999, mz_c1900, mz_c2403, mz_c29362, mz_c29363, mz_c29364, mz_c29390, mz_c29393, mz_c29394, mz_c29398, mz_c29399, mz_c29400, mz_c29401, nI_add, pk_mul, pk_m1, mz_pp, mz_pq]; congr 1; omega)) ?_
    try simp only [mx_in, mx_ip hA, mx_iv hA, mx_ib hA, mx_i2 hA, mx_i3 hA, mx_i4 hA, mx_l7, mx_sn, mx_sp hA, mx_sw hA, mx_sb hA, mx_s2 hA, mx_s3 hA, mx_s4 hA, mx_sh, mxq_now_now, mxq_now_past, mxq_now_view, mxq_now_bef, mxq_now_sv, mxq_now_rf, mxq_now_vm, mxq_now_h, mxq_past_now, mxq_past_past, mxq_past_view, mxq_past_bef, mxq_past_sv, mxq_past_rf, mxq_past_vm, mxq_past_h, mxq_view_now, mxq_view_past, mxq_view_view, mxq_view_bef, mxq_view_sv, mxq_view_rf, mxq_view_vm, mxq_view_h, mxq_bef_now, mxq_bef_past, mxq_bef_view, mxq_bef_bef, mxq_bef_sv, mxq_bef_rf, mxq_bef_vm, mxq_bef_h, mxq_sv_now, mxq_sv_past, mxq_sv_view, mxq_sv_bef, mxq_sv_sv, mxq_sv_rf, mxq_sv_vm, mxq_sv_h, mxq_rf_now, mxq_rf_past, mxq_rf_view, mxq_rf_bef, mxq_rf_sv, mxq_rf_rf, mxq_rf_vm, mxq_rf_h, mxq_vm_now, mxq_vm_past, mxq_vm_view, mxq_vm_bef, mxq_vm_sv, mxq_vm_rf, mxq_vm_vm, mxq_vm_h, mxq_h_now, mxq_h_past, mxq_h_view, mxq_h_bef, mxq_h_sv, mxq_h_rf, mxq_h_vm, mxq_h_h, mxw_now, mxw_past, mxw_view, mxw_bef, mxw_sv, mxw_rf, mxw_vm, mxw_h]
    refine mz_br_f hC tk_X6_init rfl ((by show ¬ nI 3 ≤ nI b; exact nI_ge (by omega) (by omega))) ?_
    refine mz_sn_ok hC tk_X6_init pk_RX6 20 [A.2.1, 98 * b + 0, A.2.1, 98 * b + 1] rfl (by (repeat' apply And.intro) <;> first | exact True.intro | exact k6 | exact r0 | exact r1 | exact r5 | exact r6 | exact kN | exact kP | exact kV | exact kB | (show _ < mz_n G _; first | rw [nN] | rw [nP] | rw [nV] | rw [nB]) <;> omega | (show mz_n G _ < _; first | rw [nN] | rw [nP] | rw [nV] | rw [nB]) <;> omega | (simp only [mz_cm1, mz_c0, mz_c1, mz_c2, mz_c3, mz_c4, mz_c5, mz_c6, mz_c7, mz_c8, mz_c10, mz_c17, mz_c20, mz_c28, mz_c58, mz_c63, mz_c98, mz_c294, mz_c526, mz_c532, mz_c540, mz_c999, mz_c1900, mz_c2403, mz_c29362, mz_c29363, mz_c29364, mz_c29390, mz_c29393, mz_c29394, mz_c29398, mz_c29399, mz_c29400, mz_c29401, nI_add, pk_mul, pk_m1, mz_pp, mz_pq]; done) | (simp only [mz_cm1, mz_c0, mz_c1, mz_c2, mz_c3, mz_c4, mz_c5, mz_c6, mz_c7, mz_c8, mz_c10, mz_c17, mz_c20, mz_c28, mz_c58, mz_c63, mz_c98, mz_c294, mz_c526, mz_c532, mz_c540, mz_c999, mz_c1900, mz_c2403, mz_c29362, mz_c29363, mz_c29364, mz_c29390, mz_c29393, mz_c29394, mz_c29398, mz_c29399, mz_c29400, mz_c29401, nI_add, pk_mul, pk_m1, mz_pp, mz_pq]; congr 1; omega) | assumption | (simp only [mx_in, mx_ip hA, mx_iv hA, mx_ib hA, mx_i2 hA, mx_i3 hA, mx_i4 hA, mx_l7, mx_sn, mx_sp hA, mx_sw hA, mx_sb hA, mx_s2 hA, mx_s3 hA, mx_s4 hA, mx_sh, mxq_now_now, mxq_now_past, mxq_now_view, mxq_now_bef, mxq_now_sv, mxq_now_rf, mxq_now_vm, mxq_now_h, mxq_past_now, mxq_past_past, mxq_past_view, mxq_past_bef, mxq_past_sv, mxq_past_rf, mxq_past_vm, mxq_past_h, mxq_view_now, mxq_view_past, mxq_view_view, mxq_view_bef, mxq_view_sv, mxq_view_rf, mxq_view_vm, mxq_view_h, mxq_bef_now, mxq_bef_past, mxq_bef_view, mxq_bef_bef, mxq_bef_sv, mxq_bef_rf, mxq_bef_vm, mxq_bef_h, mxq_sv_now, mxq_sv_past, mxq_sv_view, mxq_sv_bef, mxq_sv_sv, mxq_sv_rf, mxq_sv_vm, mxq_sv_h, mxq_rf_now, mxq_rf_past, mxq_rf_view, mxq_rf_bef, mxq_rf_sv, mxq_rf_rf, mxq_rf_vm, mxq_rf_h, mxq_vm_now, mxq_vm_past, mxq_vm_view, mxq_vm_bef, mxq_vm_sv, mxq_vm_rf, mxq_vm_vm, mxq_vm_h, mxq_h_now, mxq_h_past, mxq_h_view, mxq_h_bef, mxq_h_sv, mxq_h_rf, mxq_h_vm, mxq_h_h, mxw_now, mxw_past, mxw_view, mxw_bef, mxw_sv, mxw_rf, mxw_vm, mxw_h, mz_cm1, mz_c0, mz_c1, mz_c2, mz_c3, mz_c4, mz_c5, mz_c6, mz_c7, mz_c8, mz_c10, mz_c17, mz_c20, mz_c28, mz_c58, mz_c63, mz_c98, mz_c294, mz_c526, mz_c532, mz_c540, mz_c999, mz_c1900, mz_c2403, mz_c29362, mz_c29363, mz_c29364, mz_c29390, mz_c29393, mz_c29394, mz_c29398, mz_c29399, mz_c29400, mz_c29401, nI_add, pk_mul, pk_m1, mz_pp, mz_pq]; done) | (simp only [mx_in, mx_ip hA, mx_iv hA, mx_ib hA, mx_i2 hA, mx_i3 hA, mx_i4 hA, mx_l7, mx_sn, mx_sp hA, mx_sw hA, mx_sb hA, mx_s2 hA, mx_s3 hA, mx_s4 hA, mx_sh, mxq_now_now, mxq_now_past, mxq_now_view, mxq_now_bef, mxq_now_sv, mxq_now_rf, mxq_now_vm, mxq_now_h, mxq_past_now, mxq_past_past, mxq_past_view, mxq_past_bef, mxq_past_sv, mxq_past_rf, mxq_past_vm, mxq_past_h, mxq_view_now, mxq_view_past, mxq_view_view, mxq_view_bef, mxq_view_sv, mxq_view_rf, mxq_view_vm, mxq_view_h, mxq_bef_now, mxq_bef_past, mxq_bef_view, mxq_bef_bef, mxq_bef_sv, mxq_bef_rf, mxq_bef_vm, mxq_bef_h, mxq_sv_now, mxq_sv_past, mxq_sv_view, mxq_sv_bef, mxq_sv_sv, mxq_sv_rf, mxq_sv_vm, mxq_sv_h, mxq_rf_now, mxq_rf_past, mxq_rf_view, mxq_rf_bef, mxq_rf_sv, mxq_rf_rf, mxq_rf_vm, mxq_rf_h, mxq_vm_now, mxq_vm_past, mxq_vm_view, mxq_vm_bef, mxq_vm_sv, mxq_vm_rf, mxq_vm_vm, mxq_vm_h, mxq_h_now, mxq_h_past, mxq_h_view, mxq_h_bef, mxq_h_sv, mxq_h_rf, mxq_h_vm, mxq_h_h, mxw_now, mxw_past, mxw_view, mxw_bef, mxw_sv, mxw_rf, mxw_vm, mxw_h, mz_cm1, mz_c0, mz_c1, mz_c2, mz_c3, mz_c4, mz_c5, mz_c6, mz_c7, mz_c8, mz_c10, mz_c17, mz_c20, mz_c28, mz_c58, mz_c63, mz_c98, mz_c294, mz_c526, mz_c532, mz_c540, mz_c999, mz_c1900, mz_c2403, mz_c29362, mz_c29363, mz_c29364, mz_c29390, mz_c29393, mz_c29394, mz_c29398, mz_c29399, mz_c29400, mz_c29401, nI_add, pk_mul, pk_m1, mz_pp, mz_pq]; congr 1; omega)) ?_
    try simp only [mx_in, mx_ip hA, mx_iv hA, mx_ib hA, mx_i2 hA, mx_i3 hA, mx_i4 hA, mx_l7, mx_sn, mx_sp hA, mx_sw hA, mx_sb hA, mx_s2 hA, mx_s3 hA, mx_s4 hA, mx_sh, mxq_now_now, mxq_now_past, mxq_now_view, mxq_now_bef, mxq_now_sv, mxq_now_rf, mxq_now_vm, mxq_now_h, mxq_past_now, mxq_past_past, mxq_past_view, mxq_past_bef, mxq_past_sv, mxq_past_rf, mxq_past_vm, mxq_past_h, mxq_view_now, mxq_view_past, mxq_view_view, mxq_view_bef, mxq_view_sv, mxq_view_rf, mxq_view_vm, mxq_view_h, mxq_bef_now, mxq_bef_past, mxq_bef_view, mxq_bef_bef, mxq_bef_sv, mxq_bef_rf, mxq_bef_vm, mxq_bef_h, mxq_sv_now, mxq_sv_past, mxq_sv_view, mxq_sv_bef, mxq_sv_sv, mxq_sv_rf, mxq_sv_vm, mxq_sv_h, mxq_rf_now, mxq_rf_past, mxq_rf_view, mxq_rf_bef, mxq_rf_sv, mxq_rf_rf, mxq_rf_vm, mxq_rf_h, mxq_vm_now, mxq_vm_past, mxq_vm_view, mxq_vm_bef, mxq_vm_sv, mxq_vm_rf, mxq_vm_vm, mxq_vm_h, mxq_h_now, mxq_h_past, mxq_h_view, mxq_h_bef, mxq_h_sv, mxq_h_rf, mxq_h_vm, mxq_h_h, mxw_now, mxw_past, mxw_view, mxw_bef, mxw_sv, mxw_rf, mxw_vm, mxw_h]
    refine mz_V.sub (lv' := [some (.ref A.1), some (.int (nI (b + 1)))]) (by (repeat' apply And.intro) <;> first | with_reducible rfl | exact True.intro | (simp only [mz_cm1, mz_c0, mz_c1, mz_c2, mz_c3, mz_c4, mz_c5, mz_c6, mz_c7, mz_c8, mz_c10, mz_c17, mz_c20, mz_c28, mz_c58, mz_c63, mz_c98, mz_c294, mz_c526, mz_c532, mz_c540, mz_c999, mz_c1900, mz_c2403, mz_c29362, mz_c29363, mz_c29364, mz_c29390, mz_c29393, mz_c29394, mz_c29398, mz_c29399, mz_c29400, mz_c29401, nI_add, pk_mul, pk_m1, mz_pp, mz_pq]; done) | rfl) ?_
    exact ih (b + 1) (by omega)
set_option maxHeartbeats 4000000 in
theorem cm_init {a : Nat} (hK : mz_K G a = 6) (ha : a + 1 = sz) (hi : mz_i G a = fun _ => 0) (hl : mz_l G a = fun _ => 0) (hO : O a = a) (hW : mt_W O sz) : mz_M l E yX6_init cX6_init 2 none 3 4 150805 [.ref a] G sz (fun v' G' sz' => v' = none ∧ sz' = a + 5 ∧ mx_H (a, a + 1, a + 2, a + 3, a + 4) G' mx_x0 ∧ ∃ O', mt_F (fun q => q = a) G G' O O' sz sz' ∧ mt_W O' sz' ∧ (O' a = a ∧ O' (a + 1) = a + 1 ∧ O' (a + 2) = a + 2 ∧ O' (a + 3) = a + 3 ∧ O' (a + 4) = a + 4)) := by
  refine mz_start (by decide) (Nat.le_of_ble_eq_true rfl) ?_
  intro p e s m args below meth c hC hret hnm
  refine mz_sn_ok hC tk_X6_init pk_RX6 1 [] rfl (by (repeat' apply And.intro) <;> first | exact True.intro | assumption | (simp only [mz_cm1, mz_c0, mz_c1, mz_c2, mz_c3, mz_c4, mz_c5, mz_c6, mz_c7, mz_c8, mz_c10, mz_c17, mz_c20, mz_c28, mz_c58, mz_c63, mz_c98, mz_c294, mz_c526, mz_c532, mz_c540, mz_c999, mz_c1900, mz_c2403, mz_c29362, mz_c29363, mz_c29364, mz_c29390, mz_c29393, mz_c29394, mz_c29398, mz_c29399, mz_c29400, mz_c29401, nI_add, pk_mul, pk_m1, mz_pp, mz_pq]; done) | omega | (simp only [mz_cm1, mz_c0, mz_c1, mz_c2, mz_c3, mz_c4, mz_c5, mz_c6, mz_c7, mz_c8, mz_c10, mz_c17, mz_c20, mz_c28, mz_c58, mz_c63, mz_c98, mz_c294, mz_c526, mz_c532, mz_c540, mz_c999, mz_c1900, mz_c2403, mz_c29362, mz_c29363, mz_c29364, mz_c29390, mz_c29393, mz_c29394, mz_c29398, mz_c29399, mz_c29400, mz_c29401, nI_add, pk_mul, pk_m1, mz_pp, mz_pq]; congr 1; omega)) ?_
  try simp only [mz_c0, mz_cm1]
  refine mz_Vobj hC tk_X6_init rfl lk_RX6_1 im_java_lang_Object__init____V cd_objI (Nat.le_of_ble_eq_true rfl) (Nat.le_of_ble_eq_true rfl) ?_
  refine mz_sn_ok hC tk_X6_init pk_RX6 2 [] rfl (by (repeat' apply And.intro) <;> first | exact True.intro | assumption | (simp only [mz_cm1, mz_c0, mz_c1, mz_c2, mz_c3, mz_c4, mz_c5, mz_c6, mz_c7, mz_c8, mz_c10, mz_c17, mz_c20, mz_c28, mz_c58, mz_c63, mz_c98, mz_c294, mz_c526, mz_c532, mz_c540, mz_c999, mz_c1900, mz_c2403, mz_c29362, mz_c29363, mz_c29364, mz_c29390, mz_c29393, mz_c29394, mz_c29398, mz_c29399, mz_c29400, mz_c29401, nI_add, pk_mul, pk_m1, mz_pp, mz_pq]; done) | omega | (simp only [mz_cm1, mz_c0, mz_c1, mz_c2, mz_c3, mz_c4, mz_c5, mz_c6, mz_c7, mz_c8, mz_c10, mz_c17, mz_c20, mz_c28, mz_c58, mz_c63, mz_c98, mz_c294, mz_c526, mz_c532, mz_c540, mz_c999, mz_c1900, mz_c2403, mz_c29362, mz_c29363, mz_c29364, mz_c29390, mz_c29393, mz_c29394, mz_c29398, mz_c29399, mz_c29400, mz_c29401, nI_add, pk_mul, pk_m1, mz_pp, mz_pq]; congr 1; omega)) ?_
  try simp only [mz_c0, mz_cm1]
  obtain rfl : sz = a + 1 := by omega
  refine mz_Vnewi hC tk_X6_init rfl 29401 rfl (by omega) ⟨by simp only [mz_rm]; omega, by simp only [mz_rm]; omega⟩ ac_int ?_
  refine mz_VputFr hC tk_X6_init hnm rfl fo_RX6_7 (ci := 6) (by show mz_u1 (mz_K G) (a + 1) 7 a = 6; rw [mz_u1_o _ _ (by omega), hK]) rfl rfl rfl (fun C T N z => by cases (show some (RX6, TX6, 8) = some (C, T, N) from z); exact fk_RX6_7) ?_
  obtain ⟨G1, hG1⟩ : ∃ G1, G1 = mz_sr (mz_nw G (a + 1) 7 29401) a 0 (some (a + 1)) := ⟨_, rfl⟩
  have K1 : mz_K G1 a = 6 ∧ mz_K G1 (a + 1) = 7 := by
    rw [hG1]; exact ⟨(mz_u1_o _ _ (by omega)).trans hK, mz_u1_s _ _ _⟩
  have n1 : mz_n G1 (a + 1) = 29401 := by rw [hG1]; exact mz_u1_s _ _ _
  have i1 : mz_i G1 a = (fun _ => 0) ∧ mz_i G1 (a + 1) = fun _ => 0 := by
    rw [hG1]; exact ⟨(mz_u1_o _ _ (by omega)).trans hi, mz_u1_s _ _ _⟩
  have l1 : mz_l G1 a = fun _ => 0 := by rw [hG1]; exact (mz_u1_o _ _ (by omega)).trans hl
  have r1 : mz_r G1 a 0 = some (a + 1) := by rw [hG1]; exact mz_u2_s _ _ _ _
  have F1 : mt_F (fun q => q = a) G G1 O (mz_u1 O (a + 1) (a + 1)) (a + 1) (a + 1 + 1) := by
    rw [hG1]; exact (mt_F_nw (X := fun q => q = a)).tr (mt_F_sr ((mz_u1_o _ _ (by omega)).trans hO))
  have W1 := hW.nw (v := a + 1) (Nat.le_refl _)
  obtain ⟨O1, hO1⟩ : ∃ O1, O1 = mz_u1 O (a + 1) (a + 1) := ⟨_, rfl⟩
  have o1 : O1 a = a ∧ O1 (a + 1) = a + 1 := by rw [hO1]; exact ⟨(mz_u1_o _ _ (by omega)).trans hO, mz_u1_s _ _ _⟩
  rw [← hO1] at F1 W1
  rw [← hG1]
  clear hG1 hO1
  refine mz_sn_ok hC tk_X6_init pk_RX6 2 [] rfl (by (repeat' apply And.intro) <;> first | exact True.intro | assumption | (simp only [mz_cm1, mz_c0, mz_c1, mz_c2, mz_c3, mz_c4, mz_c5, mz_c6, mz_c7, mz_c8, mz_c10, mz_c17, mz_c20, mz_c28, mz_c58, mz_c63, mz_c98, mz_c294, mz_c526, mz_c532, mz_c540, mz_c999, mz_c1900, mz_c2403, mz_c29362, mz_c29363, mz_c29364, mz_c29390, mz_c29393, mz_c29394, mz_c29398, mz_c29399, mz_c29400, mz_c29401, nI_add, pk_mul, pk_m1, mz_pp, mz_pq]; done) | omega | (simp only [mz_cm1, mz_c0, mz_c1, mz_c2, mz_c3, mz_c4, mz_c5, mz_c6, mz_c7, mz_c8, mz_c10, mz_c17, mz_c20, mz_c28, mz_c58, mz_c63, mz_c98, mz_c294, mz_c526, mz_c532, mz_c540, mz_c999, mz_c1900, mz_c2403, mz_c29362, mz_c29363, mz_c29364, mz_c29390, mz_c29393, mz_c29394, mz_c29398, mz_c29399, mz_c29400, mz_c29401, nI_add, pk_mul, pk_m1, mz_pp, mz_pq]; congr 1; omega)) ?_
  try simp only [mz_c0, mz_cm1]
  refine mz_Vnewi hC tk_X6_init rfl 117604 rfl (by omega) ⟨by simp only [mz_rm]; omega, by simp only [mz_rm]; omega⟩ ac_int ?_
  refine mz_VputFr hC tk_X6_init hnm rfl fo_RX6_14 (ci := 6) (by show mz_u1 (mz_K G1) (a + 1 + 1) 7 a = 6; rw [mz_u1_o _ _ (by omega), K1.1]) rfl rfl rfl (fun C T N z => by cases (show some (RX6, TX6, 8) = some (C, T, N) from z); exact fk_RX6_14) ?_
  obtain ⟨G2, hG2⟩ : ∃ G2, G2 = mz_sr (mz_nw G1 (a + 1 + 1) 7 117604) a 1 (some (a + 1 + 1)) := ⟨_, rfl⟩
  have K2 : mz_K G2 a = 6 ∧ mz_K G2 (a + 1) = 7 ∧ mz_K G2 (a + 2) = 7 := by
    rw [hG2]; exact ⟨(mz_u1_o _ _ (by omega)).trans K1.1, (mz_u1_o _ _ (by omega)).trans K1.2, mz_u1_s _ _ _⟩
  have n2 : mz_n G2 (a + 1) = 29401 ∧ mz_n G2 (a + 2) = 117604 := by rw [hG2]; exact ⟨(mz_u1_o _ _ (by omega)).trans n1, mz_u1_s _ _ _⟩
  have i2 : mz_i G2 a = (fun _ => 0) ∧ mz_i G2 (a + 1) = (fun _ => 0) ∧ mz_i G2 (a + 2) = fun _ => 0 := by
    rw [hG2]; exact ⟨(mz_u1_o _ _ (by omega)).trans i1.1, (mz_u1_o _ _ (by omega)).trans i1.2, mz_u1_s _ _ _⟩
  have l2 : mz_l G2 a = fun _ => 0 := by rw [hG2]; exact (mz_u1_o _ _ (by omega)).trans l1
  have r2 : mz_r G2 a 0 = some (a + 1) ∧ mz_r G2 a 1 = some (a + 2) := by
    rw [hG2]
    refine ⟨?_, mz_u2_s _ _ _ _⟩
    rw [mr_sr_r, if_neg (by omega)]
    exact (congrFun (mz_u1_o _ _ (by omega)) 0).trans r1
  have F2 : mt_F (fun q => q = a) G G2 O (mz_u1 O1 (a + 2) (a + 2)) (a + 1) (a + 2 + 1) := by
    rw [hG2]; exact F1.tr ((mt_F_nw (X := fun q => q = a)).tr (mt_F_sr ((mz_u1_o _ _ (by omega)).trans o1.1)))
  have W2 := W1.nw (v := a + 2) (Nat.le_refl _)
  obtain ⟨O2, hO2⟩ : ∃ O2, O2 = mz_u1 O1 (a + 2) (a + 2) := ⟨_, rfl⟩
  have o2 : O2 a = a ∧ O2 (a + 1) = a + 1 ∧ O2 (a + 2) = a + 2 := by rw [hO2]; exact ⟨(mz_u1_o _ _ (by omega)).trans o1.1, (mz_u1_o _ _ (by omega)).trans o1.2, mz_u1_s _ _ _⟩
  rw [← hO2] at F2 W2
  rw [← hG2]
  clear hG2 hO2 K1 n1 i1 l1 r1 F1 W1 o1
  refine mz_sn_ok hC tk_X6_init pk_RX6 2 [] rfl (by (repeat' apply And.intro) <;> first | exact True.intro | assumption | (simp only [mz_cm1, mz_c0, mz_c1, mz_c2, mz_c3, mz_c4, mz_c5, mz_c6, mz_c7, mz_c8, mz_c10, mz_c17, mz_c20, mz_c28, mz_c58, mz_c63, mz_c98, mz_c294, mz_c526, mz_c532, mz_c540, mz_c999, mz_c1900, mz_c2403, mz_c29362, mz_c29363, mz_c29364, mz_c29390, mz_c29393, mz_c29394, mz_c29398, mz_c29399, mz_c29400, mz_c29401, nI_add, pk_mul, pk_m1, mz_pp, mz_pq]; done) | omega | (simp only [mz_cm1, mz_c0, mz_c1, mz_c2, mz_c3, mz_c4, mz_c5, mz_c6, mz_c7, mz_c8, mz_c10, mz_c17, mz_c20, mz_c28, mz_c58, mz_c63, mz_c98, mz_c294, mz_c526, mz_c532, mz_c540, mz_c999, mz_c1900, mz_c2403, mz_c29362, mz_c29363, mz_c29364, mz_c29390, mz_c29393, mz_c29394, mz_c29398, mz_c29399, mz_c29400, mz_c29401, nI_add, pk_mul, pk_m1, mz_pp, mz_pq]; congr 1; omega)) ?_
  try simp only [mz_c0, mz_cm1]
  refine mz_Vnewi hC tk_X6_init rfl 1900 rfl (by omega) ⟨by simp only [mz_rm]; omega, by simp only [mz_rm]; omega⟩ ac_int ?_
  refine mz_VputFr hC tk_X6_init hnm rfl fo_RX6_17 (ci := 6) (by show mz_u1 (mz_K G2) (a + 1 + 1 + 1) 7 a = 6; rw [mz_u1_o _ _ (by omega), K2.1]) rfl rfl rfl (fun C T N z => by cases (show some (RX6, TX6, 8) = some (C, T, N) from z); exact fk_RX6_17) ?_
  obtain ⟨G3, hG3⟩ : ∃ G3, G3 = mz_sr (mz_nw G2 (a + 1 + 1 + 1) 7 1900) a 5 (some (a + 1 + 1 + 1)) := ⟨_, rfl⟩
  have K3 : mz_K G3 a = 6 ∧ mz_K G3 (a + 1) = 7 ∧ mz_K G3 (a + 2) = 7 ∧ mz_K G3 (a + 3) = 7 := by
    rw [hG3]; exact ⟨(mz_u1_o _ _ (by omega)).trans K2.1, (mz_u1_o _ _ (by omega)).trans K2.2.1, (mz_u1_o _ _ (by omega)).trans K2.2.2, mz_u1_s _ _ _⟩
  have n3 : mz_n G3 (a + 1) = 29401 ∧ mz_n G3 (a + 2) = 117604 ∧ mz_n G3 (a + 3) = 1900 := by rw [hG3]; exact ⟨(mz_u1_o _ _ (by omega)).trans n2.1, (mz_u1_o _ _ (by omega)).trans n2.2, mz_u1_s _ _ _⟩
  have i3 : mz_i G3 a = (fun _ => 0) ∧ mz_i G3 (a + 1) = (fun _ => 0) ∧ mz_i G3 (a + 2) = (fun _ => 0) ∧ mz_i G3 (a + 3) = fun _ => 0 := by
    rw [hG3]; exact ⟨(mz_u1_o _ _ (by omega)).trans i2.1, (mz_u1_o _ _ (by omega)).trans i2.2.1, (mz_u1_o _ _ (by omega)).trans i2.2.2, mz_u1_s _ _ _⟩
  have l3 : mz_l G3 a = fun _ => 0 := by rw [hG3]; exact (mz_u1_o _ _ (by omega)).trans l2
  have r3 : mz_r G3 a 0 = some (a + 1) ∧ mz_r G3 a 1 = some (a + 2) ∧ mz_r G3 a 5 = some (a + 3) := by
    rw [hG3]
    refine ⟨?_, ?_, mz_u2_s _ _ _ _⟩
    · rw [mr_sr_r, if_neg (by omega)]
      exact (congrFun (mz_u1_o _ _ (by omega)) 0).trans r2.1
    · rw [mr_sr_r, if_neg (by omega)]
      exact (congrFun (mz_u1_o _ _ (by omega)) 1).trans r2.2
  have F3 : mt_F (fun q => q = a) G G3 O (mz_u1 O2 (a + 3) (a + 3)) (a + 1) (a + 3 + 1) := by
    rw [hG3]; exact F2.tr ((mt_F_nw (X := fun q => q = a)).tr (mt_F_sr ((mz_u1_o _ _ (by omega)).trans o2.1)))
  have W3 := W2.nw (v := a + 3) (Nat.le_refl _)
  obtain ⟨O3, hO3⟩ : ∃ O3, O3 = mz_u1 O2 (a + 3) (a + 3) := ⟨_, rfl⟩
  have o3 : O3 a = a ∧ O3 (a + 1) = a + 1 ∧ O3 (a + 2) = a + 2 ∧ O3 (a + 3) = a + 3 := by rw [hO3]; exact ⟨(mz_u1_o _ _ (by omega)).trans o2.1, (mz_u1_o _ _ (by omega)).trans o2.2.1, (mz_u1_o _ _ (by omega)).trans o2.2.2, mz_u1_s _ _ _⟩
  rw [← hO3] at F3 W3
  rw [← hG3]
  clear hG3 hO3 K2 n2 i2 l2 r2 F2 W2 o2
  refine mz_sn_ok hC tk_X6_init pk_RX6 2 [] rfl (by (repeat' apply And.intro) <;> first | exact True.intro | assumption | (simp only [mz_cm1, mz_c0, mz_c1, mz_c2, mz_c3, mz_c4, mz_c5, mz_c6, mz_c7, mz_c8, mz_c10, mz_c17, mz_c20, mz_c28, mz_c58, mz_c63, mz_c98, mz_c294, mz_c526, mz_c532, mz_c540, mz_c999, mz_c1900, mz_c2403, mz_c29362, mz_c29363, mz_c29364, mz_c29390, mz_c29393, mz_c29394, mz_c29398, mz_c29399, mz_c29400, mz_c29401, nI_add, pk_mul, pk_m1, mz_pp, mz_pq]; done) | omega | (simp only [mz_cm1, mz_c0, mz_c1, mz_c2, mz_c3, mz_c4, mz_c5, mz_c6, mz_c7, mz_c8, mz_c10, mz_c17, mz_c20, mz_c28, mz_c58, mz_c63, mz_c98, mz_c294, mz_c526, mz_c532, mz_c540, mz_c999, mz_c1900, mz_c2403, mz_c29362, mz_c29363, mz_c29364, mz_c29390, mz_c29393, mz_c29394, mz_c29398, mz_c29399, mz_c29400, mz_c29401, nI_add, pk_mul, pk_m1, mz_pp, mz_pq]; congr 1; omega)) ?_
  try simp only [mz_c0, mz_cm1]
  refine mz_Vnewi hC tk_X6_init rfl 1900 rfl (by omega) ⟨by simp only [mz_rm]; omega, by simp only [mz_rm]; omega⟩ ac_int ?_
  refine mz_VputFr hC tk_X6_init hnm rfl fo_RX6_20 (ci := 6) (by show mz_u1 (mz_K G3) (a + 1 + 1 + 1 + 1) 7 a = 6; rw [mz_u1_o _ _ (by omega), K3.1]) rfl rfl rfl (fun C T N z => by cases (show some (RX6, TX6, 8) = some (C, T, N) from z); exact fk_RX6_20) ?_
  obtain ⟨G4, hG4⟩ : ∃ G4, G4 = mz_sr (mz_nw G3 (a + 1 + 1 + 1 + 1) 7 1900) a 6 (some (a + 1 + 1 + 1 + 1)) := ⟨_, rfl⟩
  have K4 : mz_K G4 a = 6 ∧ mz_K G4 (a + 1) = 7 ∧ mz_K G4 (a + 2) = 7 ∧ mz_K G4 (a + 3) = 7 ∧ mz_K G4 (a + 4) = 7 := by
    rw [hG4]; exact ⟨(mz_u1_o _ _ (by omega)).trans K3.1, (mz_u1_o _ _ (by omega)).trans K3.2.1, (mz_u1_o _ _ (by omega)).trans K3.2.2.1, (mz_u1_o _ _ (by omega)).trans K3.2.2.2, mz_u1_s _ _ _⟩
  have n4 : mz_n G4 (a + 1) = 29401 ∧ mz_n G4 (a + 2) = 117604 ∧ mz_n G4 (a + 3) = 1900 ∧ mz_n G4 (a + 4) = 1900 := by rw [hG4]; exact ⟨(mz_u1_o _ _ (by omega)).trans n3.1, (mz_u1_o _ _ (by omega)).trans n3.2.1, (mz_u1_o _ _ (by omega)).trans n3.2.2, mz_u1_s _ _ _⟩
  have i4 : mz_i G4 a = (fun _ => 0) ∧ mz_i G4 (a + 1) = (fun _ => 0) ∧ mz_i G4 (a + 2) = (fun _ => 0) ∧ mz_i G4 (a + 3) = (fun _ => 0) ∧ mz_i G4 (a + 4) = fun _ => 0 := by
    rw [hG4]; exact ⟨(mz_u1_o _ _ (by omega)).trans i3.1, (mz_u1_o _ _ (by omega)).trans i3.2.1, (mz_u1_o _ _ (by omega)).trans i3.2.2.1, (mz_u1_o _ _ (by omega)).trans i3.2.2.2, mz_u1_s _ _ _⟩
  have l4 : mz_l G4 a = fun _ => 0 := by rw [hG4]; exact (mz_u1_o _ _ (by omega)).trans l3
  have r4 : mz_r G4 a 0 = some (a + 1) ∧ mz_r G4 a 1 = some (a + 2) ∧ mz_r G4 a 5 = some (a + 3) ∧ mz_r G4 a 6 = some (a + 4) := by
    rw [hG4]
    refine ⟨?_, ?_, ?_, mz_u2_s _ _ _ _⟩
    · rw [mr_sr_r, if_neg (by omega)]
      exact (congrFun (mz_u1_o _ _ (by omega)) 0).trans r3.1
    · rw [mr_sr_r, if_neg (by omega)]
      exact (congrFun (mz_u1_o _ _ (by omega)) 1).trans r3.2.1
    · rw [mr_sr_r, if_neg (by omega)]
      exact (congrFun (mz_u1_o _ _ (by omega)) 5).trans r3.2.2
  have F4 : mt_F (fun q => q = a) G G4 O (mz_u1 O3 (a + 4) (a + 4)) (a + 1) (a + 4 + 1) := by
    rw [hG4]; exact F3.tr ((mt_F_nw (X := fun q => q = a)).tr (mt_F_sr ((mz_u1_o _ _ (by omega)).trans o3.1)))
  have W4 := W3.nw (v := a + 4) (Nat.le_refl _)
  obtain ⟨O4, hO4⟩ : ∃ O4, O4 = mz_u1 O3 (a + 4) (a + 4) := ⟨_, rfl⟩
  have o4 : O4 a = a ∧ O4 (a + 1) = a + 1 ∧ O4 (a + 2) = a + 2 ∧ O4 (a + 3) = a + 3 ∧ O4 (a + 4) = a + 4 := by rw [hO4]; exact ⟨(mz_u1_o _ _ (by omega)).trans o3.1, (mz_u1_o _ _ (by omega)).trans o3.2.1, (mz_u1_o _ _ (by omega)).trans o3.2.2.1, (mz_u1_o _ _ (by omega)).trans o3.2.2.2, mz_u1_s _ _ _⟩
  rw [← hO4] at F4 W4
  rw [← hG4]
  clear hG4 hO4 K3 n3 i3 l3 r3 F3 W3 o3
  have hA : mx_Ok (a, a + 1, a + 2, a + 3, a + 4) G4 := ⟨⟨K4.1, r4⟩, K4.2, n4, by dsimp only; omega, by dsimp only; omega, by dsimp only; omega, by dsimp only; omega, by dsimp only; omega, by dsimp only; omega⟩
  obtain ⟨x00, hx00⟩ : ∃ x00 : mx_S, x00 = ((fun _ => 0, fun _ => 0, fun _ => 0, fun _ => 0), (0, 0, 0), 0) := ⟨_, rfl⟩
  have e0 : mx_G (a, a + 1, a + 2, a + 3, a + 4) G4 x00 = G4 := by
    rw [hx00]
    refine Prod.ext rfl (Prod.ext rfl (Prod.ext ?_ (Prod.ext rfl ?_)))
    · funext q
      show (if q = a + 1 then _ else if q = a + 2 then _ else if q = a + 3 then _ else if q = a + 4 then _ else if q = a then _ else _) = mz_i G4 q
      split
      · rename_i h; rw [h, i4.2.1]; rfl
      · split
        · rename_i h; rw [h, i4.2.2.1]; rfl
        · split
          · rename_i h; rw [h, i4.2.2.2.1]; rfl
          · split
            · rename_i h; rw [h, i4.2.2.2.2]; rfl
            · split
              · rename_i h; rw [h, i4.1]; funext j; show (if j = 2 then (0 : Int32) else if j = 3 then 0 else if j = 4 then 0 else 0) = 0; split <;> (try split) <;> (try split) <;> rfl
              · rfl
    · funext q j
      show (if q = a then (if j = 7 then _ else mz_l G4 q j) else mz_l G4 q j) = mz_l G4 q j
      split
      · rename_i h
        split
        · rename_i h7; rw [h, l4]; rfl
        · rfl
      · rfl
  have hP := cm_initT (A := (a, a + 1, a + 2, a + 3, a + 4)) (G := G4) (sz := a + 5) (P := fun v' G' sz' => v' = none ∧ sz' = a + 5 ∧ mx_H (a, a + 1, a + 2, a + 3, a + 4) G' mx_x0 ∧ ∃ O', mt_F (fun q => q = a) G G' O O' (a + 1) sz' ∧ mt_W O' sz' ∧ (O' a = a ∧ O' (a + 1) = a + 1 ∧ O' (a + 2) = a + 2 ∧ O' (a + 3) = a + 3 ∧ O' (a + 4) = a + 4)) (l := l) (below := below) (e := e) E hC hret hA x00 ?_ 3 0 (by omega)
  · rw [show mx_wnow x00 (mx_in0 (mx_now x00) 0) = x00 from rfl, e0] at hP
    refine mz_sn_ok hC tk_X6_init pk_RX6 2 [] rfl (by (repeat' apply And.intro) <;> first | exact True.intro | assumption | (simp only [mz_cm1, mz_c0, mz_c1, mz_c2, mz_c3, mz_c4, mz_c5, mz_c6, mz_c7, mz_c8, mz_c10, mz_c17, mz_c20, mz_c28, mz_c58, mz_c63, mz_c98, mz_c294, mz_c526, mz_c532, mz_c540, mz_c999, mz_c1900, mz_c2403, mz_c29362, mz_c29363, mz_c29364, mz_c29390, mz_c29393, mz_c29394, mz_c29398, mz_c29399, mz_c29400, mz_c29401, nI_add, pk_mul, pk_m1, mz_pp, mz_pq]; done) | omega | (simp only [mz_cm1, mz_c0, mz_c1, mz_c2, mz_c3, mz_c4, mz_c5, mz_c6, mz_c7, mz_c8, mz_c10, mz_c17, mz_c20, mz_c28, mz_c58, mz_c63, mz_c98, mz_c294, mz_c526, mz_c532, mz_c540, mz_c999, mz_c1900, mz_c2403, mz_c29362, mz_c29363, mz_c29364, mz_c29390, mz_c29393, mz_c29394, mz_c29398, mz_c29399, mz_c29400, mz_c29401, nI_add, pk_mul, pk_m1, mz_pp, mz_pq]; congr 1; omega)) ?_
    try simp only [mz_c0, mz_cm1]
    refine mz_V.sub (lv' := [some (.ref a), some (.int (nI 0))]) (by (repeat' apply And.intro) <;> first | with_reducible rfl | exact True.intro | (simp only [mz_cm1, mz_c0, mz_c1, mz_c2, mz_c3, mz_c4, mz_c5, mz_c6, mz_c7, mz_c8, mz_c10, mz_c17, mz_c20, mz_c28, mz_c58, mz_c63, mz_c98, mz_c294, mz_c526, mz_c532, mz_c540, mz_c999, mz_c1900, mz_c2403, mz_c29362, mz_c29363, mz_c29364, mz_c29390, mz_c29393, mz_c29394, mz_c29398, mz_c29399, mz_c29400, mz_c29401, nI_add, pk_mul, pk_m1, mz_pp, mz_pq]; done) | rfl) ?_
    exact hP
  · have ex : mx_wnow x00 (mx_in0 (mx_now x00) 3) = mx_x0 := by
      rw [hx00]
      show ((mx_in0 (fun _ => 0) 3, _, _, _), _) = mx_x0
      rw [mx_in0_f0]
      rfl
    rw [ex]
    have hA' : mx_Ok (a, a + 1, a + 2, a + 3, a + 4) (mx_G (a, a + 1, a + 2, a + 3, a + 4) G4 mx_x0) := hA
    refine ⟨rfl, rfl, ⟨hA', ?_⟩, O4, ?_, W4, o4⟩
    · exact mx_GG _ _ _ _
    · refine F4.nx (mx_F mx_x0 ?_) ?_
      · intro q hq
        unfold mx_Y at hq
        dsimp only at hq
        rcases hq with rfl | rfl | rfl | rfl | rfl
        · exact o4.1
        · exact o4.2.1
        · exact o4.2.2.1
        · exact o4.2.2.2.1
        · exact o4.2.2.2.2
      · intro q hq h1 h2
        have := hW q hq
        unfold mx_Y at h2
        dsimp only at h2
        omega
end MXI

