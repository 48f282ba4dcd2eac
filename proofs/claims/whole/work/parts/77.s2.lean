/-! ===== the class: outcomes are noted, deeds dropped and begun ===== -/
theorem mz_u1_id {α : Type} (f : Nat → α) (a : Nat) : mz_u1 f a (f a) = f := by
  funext b
  simp only [mz_u1]
  split
  · rename_i h; rw [h]
  · rfl
section MRS
variable {G G' : mz_G} {O O' : Nat → Nat} {sz sz' σ : Nat} {f f' : Nat → Int32} {Λ : Nat → Nat → Nat} {m b n' cc' len' : Nat}
theorem mr_S.dd (h : mr_S G O sz σ f Λ) (hm : m < 4) (hF : mt_F (fun q => q = σ + 21 + 13 * m + 2) G G' O O' sz sz') (ht : mt_T G' O' sz' (σ + 21 + 13 * m + 2) 7 8 n' 56 (mr_h f' (294 + 58 * m + 1) 7)) (hn : f' (294 + 58 * m + 1) = nI n') (e : ∀ i, ¬ (294 + 58 * m + 1 ≤ i ∧ i < 294 + 58 * m + 58) → f' i = f i) : mr_S G' O' sz' σ f' Λ := by
  have := h.mac hm (hF.mono (fun q hq => by omega)) ((h.2.2.2 m hm).dd hm hF ht hn e) (fun i h1 h2 => e i (by omega))
  rw [mz_u1_id] at this
  exact this
theorem mr_S.cp (h : mr_S G O sz σ f Λ) (hm : m < 4) (hb : b < 3) (hF : mt_F (mr_Y (σ + 21 + 13 * m + 4 + 3 * b) (σ + 21 + 13 * m + 4 + 3 * b + 1)) G G' O O' sz sz') (hY : mr_C G' O' sz' (σ + 21 + 13 * m + 4 + 3 * b) (σ + 21 + 13 * m + 4 + 3 * b + 1) f' m b cc' len') (hch : mr_ch len') (e : ∀ i, ¬ (mx_CA m b ≤ i ∧ i < mx_CA m b + 2403) → f' i = f i) : mr_S G' O' sz' σ f' (mz_u1 Λ m (mz_u1 (Λ m) b len')) :=
  h.mac hm (hF.mono (fun q hq => by rcases hq with hq | hq <;> omega)) ((h.2.2.2 m hm).cp hm hb hF hY hch e) (fun i h1 h2 => e i (by unfold mx_CA; omega))
theorem mr_S.pol (h : mr_S G O sz σ f Λ) (hm : m < 4) (v : Int32) : mr_S (mz_si G (σ + 21 + 13 * m) 0 v) O sz σ (mz_u1 f (294 + 58 * m) v) Λ ∧ mt_F (fun q => q = σ + 21 + 13 * m) G (mz_si G (σ + 21 + 13 * m) 0 v) O O sz sz := by
  obtain ⟨hk, hF⟩ := (h.2.2.2 m hm).pol hm v
  have := h.mac hm (hF.mono (fun q hq => by omega)) hk (fun i h1 h2 => mz_u1_o _ _ (by omega))
  rw [mz_u1_id] at this
  exact ⟨this, hF⟩
theorem mr_S.cong (h : mr_S G O sz σ f Λ) (e : ∀ i, i < 29401 → f' i = f i) : mr_S G O sz σ f' Λ := h.fr (X := fun _ => False) mt_F.rf (fun _ _ _ z => z) e
end MRS
def mr_nt0 (f : Nat → Int32) (n : Nat) (deed oc name : Int32) : Nat → Int32 :=
  let f1 := if n = 10 then mz_u1 (mz_sf f 29363 29390 3) 29362 (nI 9) else f
  let n1 := if n = 10 then 9 else n
  mz_u1 (mz_u1 (mz_u1 (mz_u1 f1 (29363 + 3 * n1) deed) (29363 + 3 * n1 + 1) oc) (29363 + 3 * n1 + 2) name) 29362 (nI (n1 + 1))
theorem mr_nt_0 (f : Nat → Int32) (n : Nat) (deed oc name : Int32) : mx_nt f n deed oc name = mz_u1 (mz_u1 (mr_nt0 f n deed oc name) 29398 (f 29398 + (if oc = nI 1 then 1 else 0))) 29399 (f 29399 + (if nI 1 < oc then 1 else 0)) := rfl
theorem mr_nt0_o (f : Nat → Int32) {n : Nat} (hn : n ≤ 10) (deed oc name : Int32) {i : Nat} (h : i < 29362 ∨ 29393 ≤ i) : mr_nt0 f n deed oc name i = f i := by
  unfold mr_nt0 mz_sf
  by_cases h10 : n = 10
  · simp only [if_pos h10, mz_u1]
    simp (disch := omega) only [if_pos, if_neg, and_self, if_true, and_true, true_and, and_false, false_and, if_false]
  · simp only [if_neg h10, mz_u1]
    simp (disch := omega) only [if_pos, if_neg, and_self, if_true, and_true, true_and, and_false, false_and, if_false]
theorem mr_nt0_n (f : Nat → Int32) {n : Nat} (deed oc name : Int32) : mr_nt0 f n deed oc name 29362 = nI (mx_n1 n) := by
  unfold mr_nt0 mx_n1
  by_cases h10 : n = 10
  · simp only [if_pos h10, mz_u1, if_true]
  · simp only [if_neg h10, mz_u1, if_true]
theorem mr_nt0_m (f : Nat → Int32) {n : Nat} (hn : n ≤ 10) (deed oc name : Int32) (k' j' : Nat) (h1 : k' < mx_n1 n) (h2 : j' < 3) : mr_nt0 f n deed oc name (29362 + 1 + 3 * k' + j') = mt_u (mt_u (mt_u (mt_o (if n = 10 then mt_e (mr_h f 29362 3) 0 else mr_h f 29362 3) (mx_n1 n - 1)) (mx_n1 n - 1) 0 deed) (mx_n1 n - 1) 1 oc) (mx_n1 n - 1) 2 name k' j' := by
  unfold mr_nt0 mz_sf mt_u mt_o
  unfold mx_n1 at *
  by_cases h10 : n = 10
  · rw [if_pos h10] at h1
    simp only [if_pos h10, mz_u1, mt_e, mr_h]
    by_cases hk : k' = 9
    · subst hk
      rcases (show j' = 0 ∨ j' = 1 ∨ j' = 2 by omega) with rfl | rfl | rfl <;> simp (disch := omega) only [if_pos, if_neg, and_self, if_true, and_true, true_and, and_false, false_and, if_false]
    · simp (disch := omega) only [if_pos, if_neg, and_self, if_true, and_true, true_and, and_false, false_and, if_false]
      congr 1 <;> omega
  · rw [if_neg h10] at h1
    simp only [if_neg h10, mz_u1, mr_h]
    rw [show n + 1 - 1 = n by omega]
    by_cases hk : k' = n
    · subst hk
      rcases (show j' = 0 ∨ j' = 1 ∨ j' = 2 by omega) with rfl | rfl | rfl <;> simp (disch := omega) only [if_pos, if_neg, and_self, if_true, and_true, true_and, and_false, false_and, if_false]
    · simp (disch := omega) only [if_pos, if_neg, and_self, if_true, and_true, true_and, and_false, false_and, if_false]
theorem mt_gc30 {q : Nat} (h : q < 10) : mt_gc 3 q 30 = 0 ∧ mt_gs 3 10 q 30 = 0 ∧ mt_gl 3 10 q 30 = 30 := by
  unfold mt_gc mt_gs mt_gl
  rw [if_pos (by omega), if_pos (by omega), if_pos (by omega)]
  exact ⟨rfl, rfl, rfl⟩
theorem mt_gc56 {q : Nat} (h : q < 8) : mt_gc 7 q 56 = 0 ∧ mt_gs 7 8 q 56 = 0 ∧ mt_gl 7 8 q 56 = 56 := by
  unfold mt_gc mt_gs mt_gl
  rw [if_pos (by omega), if_pos (by omega), if_pos (by omega)]
  exact ⟨rfl, rfl, rfl⟩
theorem mr_dd_m (f : Nat → Int32) {m n k : Nat} (hn : n ≤ 8) (hk : k < n) (k' j' : Nat) (h1 : k' < n - 1) (h2 : j' < 7) : mx_dd f m n k (294 + 58 * m + 1 + 1 + 7 * k' + j') = mt_e (mr_h f (294 + 58 * m + 1) 7) k k' j' := by
  unfold mx_dd mz_sf mx_DA mt_e mr_h
  simp only [mz_u1]
  by_cases hkk : k' < k
  · simp (disch := omega) only [if_pos, if_neg, and_self, if_true, and_true, true_and, and_false, false_and, if_false]
  · simp (disch := omega) only [if_pos, if_neg, and_self, if_true, and_true, true_and, and_false, false_and, if_false]
    congr 1 <;> omega
theorem mr_dd_o (f : Nat → Int32) {m n k i : Nat} (hn : n ≤ 8) (hk : k < n) (h : ¬ (294 + 58 * m + 1 ≤ i ∧ i < 294 + 58 * m + 58)) : mx_dd f m n k i = f i := by
  unfold mx_dd mz_sf mx_DA
  simp only [mz_u1]
  simp (disch := omega) only [if_pos, if_neg, and_self, if_true, and_true, true_and, and_false, false_and, if_false]
section MRS
variable (l : Launch) (E : mz_E) {G : mz_G} {O : Nat → Nat} {sz σ : Nat} {f : Nat → Int32} {Λ : Nat → Nat → Nat}
theorem cs_note (hS : mr_S G O sz σ f Λ) (deed oc name : Int32) (q : Nat) (hq0 : mx_nQ f = q) : mz_M l E yX3_note cX3_note 5 none 5 0 0 [.ref σ, .int deed, .int oc, .int name] G sz (fun v' G' sz' => v' = none ∧ sz = sz' ∧ ∃ O', mr_S G' O' sz σ (mx_nt f q deed oc name) Λ ∧ mt_F (fun q => q = σ + 3 ∨ q = σ + 5) G G' O O' sz sz) := by
  obtain ⟨⟨⟨⟨⟨hK, hO, hs⟩, i4⟩, r0, r1, r2, r3⟩, ⟨⟨⟨k1, o1, z1⟩, n1⟩, hrb⟩, ⟨⟨⟨k2, o2, z2⟩, n2⟩, hrm⟩⟩, ⟨⟨tq, hq⟩, ⟨⟨k5, o5, z5⟩, n5⟩, hw⟩, hbx, hmc⟩ := id hS
  rw [hq0] at tq hq
  obtain ⟨q10, -, -⟩ := tq.b
  have kq := tq.K
  have sq := tq.s
  have en1 : mx_n1 q = (if q = 10 then 9 else q) + 1 := by unfold mx_n1; split <;> rfl
  refine mz_start (by decide) (Nat.le_of_ble_eq_true rfl) ?_
  intro p e s m args below meth c hC hret hnm
  have fin : ∀ (G5 : mz_G) (O5 : Nat → Nat), mr_S G5 O5 sz σ (mr_nt0 f q deed oc name) Λ → mt_F (fun z => z = σ + 3) G G5 O O5 sz sz → mz_V E p l e (mz_rm 5 0 0) s m args below meth c 5 (0) (0) (mz_Z E below args s 0 0 (fun v' G' sz' => v' = none ∧ sz = sz' ∧ ∃ O', mr_S G' O' sz σ (mx_nt f q deed oc name) Λ ∧ mt_F (fun q => q = σ + 3 ∨ q = σ + 5) G G' O O' sz sz)) (G5) (sz) (74) [some (.ref σ), some (.int deed), some (.int oc), some (.int name)] [] := by
    intro G5 O5 hS5 hF5
    have hFm := hF5.mono (Y := fun z => z = σ + 3 ∨ z = σ + 5) (fun z hz => Or.inl hz)
    obtain ⟨⟨⟨⟨⟨hK', hO', hs'⟩, i4'⟩, r0', r1', r2', r3'⟩, ⟨⟨⟨k1', o1', z1'⟩, n1'⟩, hrb'⟩, ⟨⟨⟨k2', o2', z2'⟩, n2'⟩, hrm'⟩⟩, ⟨⟨tq', hq'⟩, ⟨⟨k5', o5', z5'⟩, n5'⟩, hw'⟩, hbx', hmc'⟩ := id hS5
    have w5 := hw' 5 (by omega)
    have w6 := hw' 6 (by omega)
    rw [mr_nt0_o f q10 _ _ _ (by omega)] at w5 w6
    rw [mr_nt_0]
    refine mz_sn_ok hC tk_X3_note pk_RX3 2 [] rfl (by (repeat' apply And.intro) <;> first | exact True.intro | assumption | (simp only [mz_cm1, mz_c0, mz_c1, mz_c2, mz_c3, mz_c4, mz_c5, mz_c6, mz_c7, mz_c8, mz_c10, mz_c17, mz_c20, mz_c28, mz_c58, mz_c63, mz_c98, mz_c294, mz_c526, mz_c532, mz_c540, mz_c999, mz_c1900, mz_c2403, mz_c29362, mz_c29363, mz_c29364, mz_c29390, mz_c29393, mz_c29394, mz_c29398, mz_c29399, mz_c29400, mz_c29401, nI_add, pk_mul, pk_m1, mz_pp, mz_pq]; done) | omega | (simp only [mz_cm1, mz_c0, mz_c1, mz_c2, mz_c3, mz_c4, mz_c5, mz_c6, mz_c7, mz_c8, mz_c10, mz_c17, mz_c20, mz_c28, mz_c58, mz_c63, mz_c98, mz_c294, mz_c526, mz_c532, mz_c540, mz_c999, mz_c1900, mz_c2403, mz_c29362, mz_c29363, mz_c29364, mz_c29390, mz_c29393, mz_c29394, mz_c29398, mz_c29399, mz_c29400, mz_c29401, nI_add, pk_mul, pk_m1, mz_pp, mz_pq]; congr 1; omega)) ?_
    try simp only [mz_c0, mz_cm1]
    by_cases h1 : oc = nI 1
    · refine mz_br_f hC tk_X3_note rfl ((by show ¬ ¬ oc = mz_c 1; exact fun z => z h1)) ?_
      refine mz_sn_ok hC tk_X3_note pk_RX3 9 [σ + 5, 5, 5] rfl (by (repeat' apply And.intro) <;> first | exact True.intro | assumption | (simp only [mz_cm1, mz_c0, mz_c1, mz_c2, mz_c3, mz_c4, mz_c5, mz_c6, mz_c7, mz_c8, mz_c10, mz_c17, mz_c20, mz_c28, mz_c58, mz_c63, mz_c98, mz_c294, mz_c526, mz_c532, mz_c540, mz_c999, mz_c1900, mz_c2403, mz_c29362, mz_c29363, mz_c29364, mz_c29390, mz_c29393, mz_c29394, mz_c29398, mz_c29399, mz_c29400, mz_c29401, nI_add, pk_mul, pk_m1, mz_pp, mz_pq, w5]; done) | omega | (simp only [mz_cm1, mz_c0, mz_c1, mz_c2, mz_c3, mz_c4, mz_c5, mz_c6, mz_c7, mz_c8, mz_c10, mz_c17, mz_c20, mz_c28, mz_c58, mz_c63, mz_c98, mz_c294, mz_c526, mz_c532, mz_c540, mz_c999, mz_c1900, mz_c2403, mz_c29362, mz_c29363, mz_c29364, mz_c29390, mz_c29393, mz_c29394, mz_c29398, mz_c29399, mz_c29400, mz_c29401, nI_add, pk_mul, pk_m1, mz_pp, mz_pq, w5]; congr 1; omega)) ?_
      try simp only [mz_c0, mz_cm1, w5]
      obtain ⟨hS6, hF6⟩ := hS5.ct 5 (by omega) (f 29398 + mz_c 1)
      refine mz_Vreturn hC tk_X3_note rfl hret (Nat.le_of_ble_eq_true rfl) (Nat.le_of_ble_eq_true rfl) ?_
      refine ⟨rfl, rfl, O5, hS6.cong (fun i hi => ?_), hFm.tr (hF6.mono (fun z hz => Or.inr hz))⟩
      rw [if_pos h1, if_neg (by rw [h1]; exact fun z => by rw [mz_ltI] at z; omega), Int32.add_zero]
      simp only [mz_u1]
      by_cases h9 : i = 29399
      · rw [if_pos h9, h9, if_neg (by omega), mr_nt0_o f q10 _ _ _ (by omega)]
      · rw [if_neg h9]
        by_cases h8 : i = 29398
        · rw [if_pos h8, if_pos h8]
          rfl
        · rw [if_neg h8, if_neg h8]
    · refine mz_br_t hC tk_X3_note rfl ((by show ¬ oc = mz_c 1; exact h1)) ?_
      refine mz_sn_ok hC tk_X3_note pk_RX3 2 [] rfl (by (repeat' apply And.intro) <;> first | exact True.intro | assumption | (simp only [mz_cm1, mz_c0, mz_c1, mz_c2, mz_c3, mz_c4, mz_c5, mz_c6, mz_c7, mz_c8, mz_c10, mz_c17, mz_c20, mz_c28, mz_c58, mz_c63, mz_c98, mz_c294, mz_c526, mz_c532, mz_c540, mz_c999, mz_c1900, mz_c2403, mz_c29362, mz_c29363, mz_c29364, mz_c29390, mz_c29393, mz_c29394, mz_c29398, mz_c29399, mz_c29400, mz_c29401, nI_add, pk_mul, pk_m1, mz_pp, mz_pq]; done) | omega | (simp only [mz_cm1, mz_c0, mz_c1, mz_c2, mz_c3, mz_c4, mz_c5, mz_c6, mz_c7, mz_c8, mz_c10, mz_c17, mz_c20, mz_c28, mz_c58, mz_c63, mz_c98, mz_c294, mz_c526, mz_c532, mz_c540, mz_c999, mz_c1900, mz_c2403, mz_c29362, mz_c29363, mz_c29364, mz_c29390, mz_c29393, mz_c29394, mz_c29398, mz_c29399, mz_c29400, mz_c29401, nI_add, pk_mul, pk_m1, mz_pp, mz_pq]; congr 1; omega)) ?_
      try simp only [mz_c0, mz_cm1]
      by_cases h2 : nI 1 < oc
      · refine mz_br_f hC tk_X3_note rfl ((by show ¬ oc ≤ mz_c 1; exact mz_lt_nle h2)) ?_
        refine mz_sn_ok hC tk_X3_note pk_RX3 8 [σ + 5, 6, 6] rfl (by (repeat' apply And.intro) <;> first | exact True.intro | assumption | (simp only [mz_cm1, mz_c0, mz_c1, mz_c2, mz_c3, mz_c4, mz_c5, mz_c6, mz_c7, mz_c8, mz_c10, mz_c17, mz_c20, mz_c28, mz_c58, mz_c63, mz_c98, mz_c294, mz_c526, mz_c532, mz_c540, mz_c999, mz_c1900, mz_c2403, mz_c29362, mz_c29363, mz_c29364, mz_c29390, mz_c29393, mz_c29394, mz_c29398, mz_c29399, mz_c29400, mz_c29401, nI_add, pk_mul, pk_m1, mz_pp, mz_pq, w6]; done) | omega | (simp only [mz_cm1, mz_c0, mz_c1, mz_c2, mz_c3, mz_c4, mz_c5, mz_c6, mz_c7, mz_c8, mz_c10, mz_c17, mz_c20, mz_c28, mz_c58, mz_c63, mz_c98, mz_c294, mz_c526, mz_c532, mz_c540, mz_c999, mz_c1900, mz_c2403, mz_c29362, mz_c29363, mz_c29364, mz_c29390, mz_c29393, mz_c29394, mz_c29398, mz_c29399, mz_c29400, mz_c29401, nI_add, pk_mul, pk_m1, mz_pp, mz_pq, w6]; congr 1; omega)) ?_
        try simp only [mz_c0, mz_cm1, w6]
        obtain ⟨hS6, hF6⟩ := hS5.ct 6 (by omega) (f 29399 + mz_c 1)
        refine mz_Vreturn hC tk_X3_note rfl hret (Nat.le_of_ble_eq_true rfl) (Nat.le_of_ble_eq_true rfl) ?_
        refine ⟨rfl, rfl, O5, hS6.cong (fun i hi => ?_), hFm.tr (hF6.mono (fun z hz => Or.inr hz))⟩
        rw [if_neg h1, if_pos h2, Int32.add_zero]
        simp only [mz_u1]
        by_cases h9 : i = 29399
        · rw [if_pos h9, if_pos h9]
          rfl
        · rw [if_neg h9, if_neg h9]
          by_cases h8 : i = 29398
          · rw [if_pos h8, h8, mr_nt0_o f q10 _ _ _ (by omega)]
          · rw [if_neg h8]
      · refine mz_br_t hC tk_X3_note rfl ((by show oc ≤ mz_c 1; show oc ≤ nI 1; rw [mz_ltI] at h2; rw [mz_leI]; omega)) ?_
        refine mz_Vreturn hC tk_X3_note rfl hret (Nat.le_of_ble_eq_true rfl) (Nat.le_of_ble_eq_true rfl) ?_
        refine ⟨rfl, rfl, O5, hS5.cong (fun i hi => ?_), hFm⟩
        rw [if_neg h1, if_neg h2, Int32.add_zero, Int32.add_zero]
        simp only [mz_u1]
        by_cases h9 : i = 29399
        · rw [if_pos h9, h9, mr_nt0_o f q10 _ _ _ (by omega)]
        · rw [if_neg h9]
          by_cases h8 : i = 29398
          · rw [if_pos h8, h8, mr_nt0_o f q10 _ _ _ (by omega)]
          · rw [if_neg h8]
  have mid : ∀ (G1 : mz_G) (O1 : Nat → Nat) (h2 : Nat → Nat → Int32) (q1 : Nat), q1 + 1 = mx_n1 q → h2 = (if q = 10 then mt_e (mr_h f 29362 3) 0 else mr_h f 29362 3) → mz_K G1 σ = 3 → mz_r G1 σ 2 = some (σ + 3) → O1 σ = σ → mt_T G1 O1 sz (σ + 3) 3 10 q1 30 h2 → mt_F (fun z => z = σ + 3) G G1 O O1 sz sz → mz_V E p l e (mz_rm 5 0 0) s m args below meth c 5 (0) (0) (mz_Z E below args s 0 0 (fun v' G' sz' => v' = none ∧ sz = sz' ∧ ∃ O', mr_S G' O' sz σ (mx_nt f q deed oc name) Λ ∧ mt_F (fun q => q = σ + 3 ∨ q = σ + 5) G G' O O' sz sz)) (G1) (sz) (20) [some (.ref σ), some (.int deed), some (.int oc), some (.int name)] [] := by
    intro G1 O1 h2 q1 hq1 hh2 hK1 r21 hO1 t1 hF1
    have kt1 := t1.K
    have st1 := t1.s
    have q19 : q1 < 10 := by split at en1 <;> omega
    obtain ⟨gc, gs, gl⟩ := mt_gc30 q19
    refine mz_sn_ok hC tk_X3_note pk_RX3 7 [σ + 3, σ + 3] rfl (by (repeat' apply And.intro) <;> first | exact True.intro | assumption | (simp only [mz_cm1, mz_c0, mz_c1, mz_c2, mz_c3, mz_c4, mz_c5, mz_c6, mz_c7, mz_c8, mz_c10, mz_c17, mz_c20, mz_c28, mz_c58, mz_c63, mz_c98, mz_c294, mz_c526, mz_c532, mz_c540, mz_c999, mz_c1900, mz_c2403, mz_c29362, mz_c29363, mz_c29364, mz_c29390, mz_c29393, mz_c29394, mz_c29398, mz_c29399, mz_c29400, mz_c29401, nI_add, pk_mul, pk_m1, mz_pp, mz_pq, st1]; done) | omega | (simp only [mz_cm1, mz_c0, mz_c1, mz_c2, mz_c3, mz_c4, mz_c5, mz_c6, mz_c7, mz_c8, mz_c10, mz_c17, mz_c20, mz_c28, mz_c58, mz_c63, mz_c98, mz_c294, mz_c526, mz_c532, mz_c540, mz_c999, mz_c1900, mz_c2403, mz_c29362, mz_c29363, mz_c29364, mz_c29390, mz_c29393, mz_c29394, mz_c29398, mz_c29399, mz_c29400, mz_c29401, nI_add, pk_mul, pk_m1, mz_pp, mz_pq, st1]; congr 1; omega)) ?_
    try simp only [mz_c0, mz_cm1, st1]
    refine mz_Vcv hC tk_X3_note rfl md_X4_open lk_RX3_48 rfl (ct_open l E t1 q1 (Nat.le_refl _) q19) (by show (vwCl[mz_K _ _]?).map _ = _; rw [kt1]; rfl) ⟨Nat.le_of_ble_eq_true rfl, Nat.le_of_ble_eq_true rfl⟩ ⟨by simp only [mz_rm]; omega, by simp only [mz_rm]; omega⟩ (Nat.le_of_ble_eq_true rfl) (fun v2 G2 sz2 hp2 => ?_)
    obtain ⟨rfl, hsz9, O2, t2, hF2⟩ := hp2
    have hsz : sz2 = sz := by omega
    rw [hsz] at t2 hF2 ⊢
    rw [gl] at t2
    obtain ⟨⟨a1, a2⟩, a3, -, -, a6⟩ := hF2.at hO1 hs (fun z => by omega)
    have hK2 : mz_K G2 σ = 3 := by rw [a3, hK1]
    have r22 : mz_r G2 σ 2 = some (σ + 3) := by rw [a6, r21]
    have kt2 := t2.K
    refine mz_br_f hC tk_X3_note rfl ((by show ¬ (1 : Int32) = 0; decide)) ?_
    refine mz_V.sub (lv' := [some (.ref σ), some (.int deed), some (.int oc), some (.int name), some (.int (nI q1))]) (by (repeat' apply And.intro) <;> first | with_reducible rfl | exact True.intro | (simp only [mz_cm1, mz_c0, mz_c1, mz_c2, mz_c3, mz_c4, mz_c5, mz_c6, mz_c7, mz_c8, mz_c10, mz_c17, mz_c20, mz_c28, mz_c58, mz_c63, mz_c98, mz_c294, mz_c526, mz_c532, mz_c540, mz_c999, mz_c1900, mz_c2403, mz_c29362, mz_c29363, mz_c29364, mz_c29390, mz_c29393, mz_c29394, mz_c29398, mz_c29399, mz_c29400, mz_c29401, nI_add, pk_mul, pk_m1, mz_pp, mz_pq]; done) | rfl) ?_
    refine mz_sn_ok hC tk_X3_note pk_RX3 5 [σ + 3] rfl (by (repeat' apply And.intro) <;> first | exact True.intro | assumption | (simp only [mz_cm1, mz_c0, mz_c1, mz_c2, mz_c3, mz_c4, mz_c5, mz_c6, mz_c7, mz_c8, mz_c10, mz_c17, mz_c20, mz_c28, mz_c58, mz_c63, mz_c98, mz_c294, mz_c526, mz_c532, mz_c540, mz_c999, mz_c1900, mz_c2403, mz_c29362, mz_c29363, mz_c29364, mz_c29390, mz_c29393, mz_c29394, mz_c29398, mz_c29399, mz_c29400, mz_c29401, nI_add, pk_mul, pk_m1, mz_pp, mz_pq]; done) | omega | (simp only [mz_cm1, mz_c0, mz_c1, mz_c2, mz_c3, mz_c4, mz_c5, mz_c6, mz_c7, mz_c8, mz_c10, mz_c17, mz_c20, mz_c28, mz_c58, mz_c63, mz_c98, mz_c294, mz_c526, mz_c532, mz_c540, mz_c999, mz_c1900, mz_c2403, mz_c29362, mz_c29363, mz_c29364, mz_c29390, mz_c29393, mz_c29394, mz_c29398, mz_c29399, mz_c29400, mz_c29401, nI_add, pk_mul, pk_m1, mz_pp, mz_pq]; congr 1; omega)) ?_
    try simp only [mz_c0, mz_cm1]
    refine mz_Vcv hC tk_X3_note rfl md_X4_put lk_RX3_52 rfl (ct_put l E t2 q1 0 deed (by omega) (by omega)) (by show (vwCl[mz_K _ _]?).map _ = _; rw [kt2]; rfl) ⟨Nat.le_of_ble_eq_true rfl, Nat.le_of_ble_eq_true rfl⟩ ⟨by simp only [mz_rm]; omega, by simp only [mz_rm]; omega⟩ (Nat.le_of_ble_eq_true rfl) (fun v3 G3 sz3 hp3 => ?_)
    obtain ⟨rfl, hs10, t3, hF3⟩ := hp3
    rw [← hs10]
    obtain ⟨⟨b1, b2⟩, b3, -, -, b6⟩ := hF3.at a1 hs (fun z => by omega)
    have hK3 : mz_K G3 σ = 3 := by rw [b3, hK2]
    have r23 : mz_r G3 σ 2 = some (σ + 3) := by rw [b6, r22]
    have kt3 := t3.K
    refine mz_sn_ok hC tk_X3_note pk_RX3 5 [σ + 3] rfl (by (repeat' apply And.intro) <;> first | exact True.intro | assumption | (simp only [mz_cm1, mz_c0, mz_c1, mz_c2, mz_c3, mz_c4, mz_c5, mz_c6, mz_c7, mz_c8, mz_c10, mz_c17, mz_c20, mz_c28, mz_c58, mz_c63, mz_c98, mz_c294, mz_c526, mz_c532, mz_c540, mz_c999, mz_c1900, mz_c2403, mz_c29362, mz_c29363, mz_c29364, mz_c29390, mz_c29393, mz_c29394, mz_c29398, mz_c29399, mz_c29400, mz_c29401, nI_add, pk_mul, pk_m1, mz_pp, mz_pq]; done) | omega | (simp only [mz_cm1, mz_c0, mz_c1, mz_c2, mz_c3, mz_c4, mz_c5, mz_c6, mz_c7, mz_c8, mz_c10, mz_c17, mz_c20, mz_c28, mz_c58, mz_c63, mz_c98, mz_c294, mz_c526, mz_c532, mz_c540, mz_c999, mz_c1900, mz_c2403, mz_c29362, mz_c29363, mz_c29364, mz_c29390, mz_c29393, mz_c29394, mz_c29398, mz_c29399, mz_c29400, mz_c29401, nI_add, pk_mul, pk_m1, mz_pp, mz_pq]; congr 1; omega)) ?_
    try simp only [mz_c0, mz_cm1]
    refine mz_Vcv hC tk_X3_note rfl md_X4_put lk_RX3_52 rfl (ct_put l E t3 q1 1 oc (by omega) (by omega)) (by show (vwCl[mz_K _ _]?).map _ = _; rw [kt3]; rfl) ⟨Nat.le_of_ble_eq_true rfl, Nat.le_of_ble_eq_true rfl⟩ ⟨by simp only [mz_rm]; omega, by simp only [mz_rm]; omega⟩ (Nat.le_of_ble_eq_true rfl) (fun v4 G4 sz4 hp4 => ?_)
    obtain ⟨rfl, hs11, t4, hF4⟩ := hp4
    rw [← hs11]
    obtain ⟨⟨c1, c2⟩, c3, -, -, c6⟩ := hF4.at b1 hs (fun z => by omega)
    have hK4 : mz_K G4 σ = 3 := by rw [c3, hK3]
    have r24 : mz_r G4 σ 2 = some (σ + 3) := by rw [c6, r23]
    have kt4 := t4.K
    refine mz_sn_ok hC tk_X3_note pk_RX3 5 [σ + 3] rfl (by (repeat' apply And.intro) <;> first | exact True.intro | assumption | (simp only [mz_cm1, mz_c0, mz_c1, mz_c2, mz_c3, mz_c4, mz_c5, mz_c6, mz_c7, mz_c8, mz_c10, mz_c17, mz_c20, mz_c28, mz_c58, mz_c63, mz_c98, mz_c294, mz_c526, mz_c532, mz_c540, mz_c999, mz_c1900, mz_c2403, mz_c29362, mz_c29363, mz_c29364, mz_c29390, mz_c29393, mz_c29394, mz_c29398, mz_c29399, mz_c29400, mz_c29401, nI_add, pk_mul, pk_m1, mz_pp, mz_pq]; done) | omega | (simp only [mz_cm1, mz_c0, mz_c1, mz_c2, mz_c3, mz_c4, mz_c5, mz_c6, mz_c7, mz_c8, mz_c10, mz_c17, mz_c20, mz_c28, mz_c58, mz_c63, mz_c98, mz_c294, mz_c526, mz_c532, mz_c540, mz_c999, mz_c1900, mz_c2403, mz_c29362, mz_c29363, mz_c29364, mz_c29390, mz_c29393, mz_c29394, mz_c29398, mz_c29399, mz_c29400, mz_c29401, nI_add, pk_mul, pk_m1, mz_pp, mz_pq]; congr 1; omega)) ?_
    try simp only [mz_c0, mz_cm1]
    refine mz_Vcv hC tk_X3_note rfl md_X4_put lk_RX3_52 rfl (ct_put l E t4 q1 2 name (by omega) (by omega)) (by show (vwCl[mz_K _ _]?).map _ = _; rw [kt4]; rfl) ⟨Nat.le_of_ble_eq_true rfl, Nat.le_of_ble_eq_true rfl⟩ ⟨by simp only [mz_rm]; omega, by simp only [mz_rm]; omega⟩ (Nat.le_of_ble_eq_true rfl) (fun v5 G5 sz5 hp5 => ?_)
    obtain ⟨rfl, hs12, t5, hF5⟩ := hp5
    rw [← hs12]
    have hFF := hF1.tr (hF2.tr (hF3.tr (hF4.tr hF5)))
    have hS5 : mr_S G5 O2 sz σ (mr_nt0 f q deed oc name) Λ := by
      refine hS.nt hFF (q' := mx_n1 q) ?_ (mr_nt0_n f deed oc name) (fun i hi => mr_nt0_o f q10 deed oc name hi)
      rw [← hq1]
      refine t5.same (fun k' j' h1 h2' => ?_)
      have := mr_nt0_m f q10 deed oc name k' j' (by omega) h2'
      rw [← hh2, show mx_n1 q - 1 = q1 by omega] at this
      exact this.symm
    have := fin G5 O2 hS5 hFF
    refine mz_V.widen (k' := 0) (n' := 0) (by omega) (by omega) ?_
    refine mz_V.sub (lv' := [some (.ref σ), some (.int deed), some (.int oc), some (.int name)]) (by (repeat' apply And.intro) <;> first | with_reducible rfl | exact True.intro | (simp only [mz_cm1, mz_c0, mz_c1, mz_c2, mz_c3, mz_c4, mz_c5, mz_c6, mz_c7, mz_c8, mz_c10, mz_c17, mz_c20, mz_c28, mz_c58, mz_c63, mz_c98, mz_c294, mz_c526, mz_c532, mz_c540, mz_c999, mz_c1900, mz_c2403, mz_c29362, mz_c29363, mz_c29364, mz_c29390, mz_c29393, mz_c29394, mz_c29398, mz_c29399, mz_c29400, mz_c29401, nI_add, pk_mul, pk_m1, mz_pp, mz_pq]; done) | rfl) ?_
    exact this
  refine mz_sn_ok hC tk_X3_note pk_RX3 4 [σ + 3] rfl (by (repeat' apply And.intro) <;> first | exact True.intro | assumption | (simp only [mz_cm1, mz_c0, mz_c1, mz_c2, mz_c3, mz_c4, mz_c5, mz_c6, mz_c7, mz_c8, mz_c10, mz_c17, mz_c20, mz_c28, mz_c58, mz_c63, mz_c98, mz_c294, mz_c526, mz_c532, mz_c540, mz_c999, mz_c1900, mz_c2403, mz_c29362, mz_c29363, mz_c29364, mz_c29390, mz_c29393, mz_c29394, mz_c29398, mz_c29399, mz_c29400, mz_c29401, nI_add, pk_mul, pk_m1, mz_pp, mz_pq, sq]; done) | omega | (simp only [mz_cm1, mz_c0, mz_c1, mz_c2, mz_c3, mz_c4, mz_c5, mz_c6, mz_c7, mz_c8, mz_c10, mz_c17, mz_c20, mz_c28, mz_c58, mz_c63, mz_c98, mz_c294, mz_c526, mz_c532, mz_c540, mz_c999, mz_c1900, mz_c2403, mz_c29362, mz_c29363, mz_c29364, mz_c29390, mz_c29393, mz_c29394, mz_c29398, mz_c29399, mz_c29400, mz_c29401, nI_add, pk_mul, pk_m1, mz_pp, mz_pq, sq]; congr 1; omega)) ?_
  try simp only [mz_c0, mz_cm1, sq]
  by_cases h10 : q = 10
  · refine mz_br_f hC tk_X3_note rfl ((by show ¬ nI q < nI 10; exact nI_nlt (by omega) (by omega))) ?_
    refine mz_sn_ok hC tk_X3_note pk_RX3 3 [σ + 3] rfl (by (repeat' apply And.intro) <;> first | exact True.intro | assumption | (simp only [mz_cm1, mz_c0, mz_c1, mz_c2, mz_c3, mz_c4, mz_c5, mz_c6, mz_c7, mz_c8, mz_c10, mz_c17, mz_c20, mz_c28, mz_c58, mz_c63, mz_c98, mz_c294, mz_c526, mz_c532, mz_c540, mz_c999, mz_c1900, mz_c2403, mz_c29362, mz_c29363, mz_c29364, mz_c29390, mz_c29393, mz_c29394, mz_c29398, mz_c29399, mz_c29400, mz_c29401, nI_add, pk_mul, pk_m1, mz_pp, mz_pq]; done) | omega | (simp only [mz_cm1, mz_c0, mz_c1, mz_c2, mz_c3, mz_c4, mz_c5, mz_c6, mz_c7, mz_c8, mz_c10, mz_c17, mz_c20, mz_c28, mz_c58, mz_c63, mz_c98, mz_c294, mz_c526, mz_c532, mz_c540, mz_c999, mz_c1900, mz_c2403, mz_c29362, mz_c29363, mz_c29364, mz_c29390, mz_c29393, mz_c29394, mz_c29398, mz_c29399, mz_c29400, mz_c29401, nI_add, pk_mul, pk_m1, mz_pp, mz_pq]; congr 1; omega)) ?_
    try simp only [mz_c0, mz_cm1]
    refine mz_Vcv hC tk_X3_note rfl md_X4_erase lk_RX3_55 rfl (ct_erase l E tq 0 (by omega)) (by show (vwCl[mz_K _ _]?).map _ = _; rw [kq]; rfl) ⟨Nat.le_of_ble_eq_true rfl, Nat.le_of_ble_eq_true rfl⟩ ⟨Nat.le_of_ble_eq_true rfl, Nat.le_of_ble_eq_true rfl⟩ (Nat.le_of_ble_eq_true rfl) (fun v1 G1 sz1 hp1 => ?_)
    obtain ⟨rfl, hs9, t1, hF1⟩ := hp1
    rw [← hs9]
    obtain ⟨⟨a1, a2⟩, a3, -, -, a6⟩ := hF1.at hO hs (fun z => by omega)
    exact mid G1 O _ (q - 1) (by rw [en1, if_pos h10]; omega) (by rw [if_pos h10]) (by rw [a3, hK]) (by rw [a6, r2]) hO t1 hF1
  · refine mz_br_t hC tk_X3_note rfl ((by show nI q < nI 10; exact nI_lt (by omega) (by omega))) ?_
    exact mid G O _ q (by rw [en1, if_neg h10]) (by rw [if_neg h10]) hK r2 hO tq mt_F.rf
theorem cs_dropDeed (hS : mr_S G O sz σ f Λ) (m0 k : Nat) (hm : m0 < 4) (hk : k < mx_nD f m0) (oc : Int32) : mz_M l E yX3_dropDeed cX3_dropDeed 4 none 6 0 0 [.ref σ, .ref (σ + 21 + 13 * m0), .int (nI k), .int oc] G sz (fun v' G' sz' => v' = none ∧ sz = sz' ∧ ∃ O', mr_S G' O' sz σ (mx_dd (mx_nt f (mx_nQ f) (f (mx_DA m0 k)) oc (-1)) m0 (mx_nD f m0) k) Λ ∧ mt_F (mr_Z σ) G G' O O' sz sz) := by
  obtain ⟨⟨⟨⟨hKm, hOm, hsm⟩, -, -, rm2⟩, -⟩, ⟨td, hnD⟩, -⟩ := hS.2.2.2 m0 hm
  have hKs := hS.1.1.1.1.1
  have kd := td.K
  obtain ⟨n8, -, -⟩ := td.b
  have q10 : mx_nQ f ≤ 10 := hS.2.1.1.1.b.1
  refine mz_start (by decide) (Nat.le_of_ble_eq_true rfl) ?_
  intro p e s m args below meth c hC hret hnm
  refine mz_sn_ok hC tk_X3_dropDeed pk_RX3 5 [σ + 21 + 13 * m0 + 2] rfl (by (repeat' apply And.intro) <;> first | exact True.intro | assumption | (simp only [mz_cm1, mz_c0, mz_c1, mz_c2, mz_c3, mz_c4, mz_c5, mz_c6, mz_c7, mz_c8, mz_c10, mz_c17, mz_c20, mz_c28, mz_c58, mz_c63, mz_c98, mz_c294, mz_c526, mz_c532, mz_c540, mz_c999, mz_c1900, mz_c2403, mz_c29362, mz_c29363, mz_c29364, mz_c29390, mz_c29393, mz_c29394, mz_c29398, mz_c29399, mz_c29400, mz_c29401, nI_add, pk_mul, pk_m1, mz_pp, mz_pq]; done) | omega | (simp only [mz_cm1, mz_c0, mz_c1, mz_c2, mz_c3, mz_c4, mz_c5, mz_c6, mz_c7, mz_c8, mz_c10, mz_c17, mz_c20, mz_c28, mz_c58, mz_c63, mz_c98, mz_c294, mz_c526, mz_c532, mz_c540, mz_c999, mz_c1900, mz_c2403, mz_c29362, mz_c29363, mz_c29364, mz_c29390, mz_c29393, mz_c29394, mz_c29398, mz_c29399, mz_c29400, mz_c29401, nI_add, pk_mul, pk_m1, mz_pp, mz_pq]; congr 1; omega)) ?_
  try simp only [mz_c0, mz_cm1]
  refine mz_Vcv hC tk_X3_dropDeed rfl md_X4_cell lk_RX3_97 rfl (ct_cell l E td (nI k) (nI 0)) (by show (vwCl[mz_K _ _]?).map _ = _; rw [kd]; rfl) ⟨Nat.le_of_ble_eq_true rfl, Nat.le_of_ble_eq_true rfl⟩ ⟨Nat.le_of_ble_eq_true rfl, Nat.le_of_ble_eq_true rfl⟩ (Nat.le_of_ble_eq_true rfl) (fun v9 G9 sz9 hp9 => ?_)
  obtain ⟨rfl, hG9, hs9⟩ := hp9
  rw [hG9, ← hs9, mt_c_in hk (by omega) (by omega) (by omega), mr_DA, Nat.add_zero]
  refine mz_sn_ok hC tk_X3_dropDeed pk_RX3 2 [] rfl (by (repeat' apply And.intro) <;> first | exact True.intro | assumption | (simp only [mz_cm1, mz_c0, mz_c1, mz_c2, mz_c3, mz_c4, mz_c5, mz_c6, mz_c7, mz_c8, mz_c10, mz_c17, mz_c20, mz_c28, mz_c58, mz_c63, mz_c98, mz_c294, mz_c526, mz_c532, mz_c540, mz_c999, mz_c1900, mz_c2403, mz_c29362, mz_c29363, mz_c29364, mz_c29390, mz_c29393, mz_c29394, mz_c29398, mz_c29399, mz_c29400, mz_c29401, nI_add, pk_mul, pk_m1, mz_pp, mz_pq]; done) | omega | (simp only [mz_cm1, mz_c0, mz_c1, mz_c2, mz_c3, mz_c4, mz_c5, mz_c6, mz_c7, mz_c8, mz_c10, mz_c17, mz_c20, mz_c28, mz_c58, mz_c63, mz_c98, mz_c294, mz_c526, mz_c532, mz_c540, mz_c999, mz_c1900, mz_c2403, mz_c29362, mz_c29363, mz_c29364, mz_c29390, mz_c29393, mz_c29394, mz_c29398, mz_c29399, mz_c29400, mz_c29401, nI_add, pk_mul, pk_m1, mz_pp, mz_pq]; congr 1; omega)) ?_
  try simp only [mz_c0, mz_cm1]
  refine mz_Vcv hC tk_X3_dropDeed rfl md_X3_note lk_RX3_101 rfl (cs_note l E hS (f (mx_DA m0 k)) oc (-1) _ rfl) (by show (vwCl[mz_K _ _]?).map _ = _; rw [hKs]; rfl) ⟨Nat.le_of_ble_eq_true rfl, Nat.le_of_ble_eq_true rfl⟩ ⟨Nat.le_of_ble_eq_true rfl, Nat.le_of_ble_eq_true rfl⟩ (Nat.le_of_ble_eq_true rfl) (fun v1 G1 sz1 hp1 => ?_)
  obtain ⟨rfl, hs10, O1, hS1, hF1⟩ := hp1
  rw [← hs10]
  obtain ⟨f1, hf1⟩ : ∃ f1, f1 = mx_nt f (mx_nQ f) (f (mx_DA m0 k)) oc (-1) := ⟨_, rfl⟩
  rw [← hf1] at hS1 ⊢
  have en : mx_nD f1 m0 = mx_nD f m0 := mr_nD_cong (by rw [hf1]; exact mx_nt_o f _ _ _ _ q10 (by omega))
  obtain ⟨⟨⟨⟨hKm1, hOm1, hsm1⟩, -, -, rm21⟩, -⟩, ⟨td1, hnD1⟩, -⟩ := hS1.2.2.2 m0 hm
  have kd1 := td1.K
  rw [en] at td1 hnD1
  refine mz_sn_ok hC tk_X3_dropDeed pk_RX3 3 [σ + 21 + 13 * m0 + 2] rfl (by (repeat' apply And.intro) <;> first | exact True.intro | assumption | (simp only [mz_cm1, mz_c0, mz_c1, mz_c2, mz_c3, mz_c4, mz_c5, mz_c6, mz_c7, mz_c8, mz_c10, mz_c17, mz_c20, mz_c28, mz_c58, mz_c63, mz_c98, mz_c294, mz_c526, mz_c532, mz_c540, mz_c999, mz_c1900, mz_c2403, mz_c29362, mz_c29363, mz_c29364, mz_c29390, mz_c29393, mz_c29394, mz_c29398, mz_c29399, mz_c29400, mz_c29401, nI_add, pk_mul, pk_m1, mz_pp, mz_pq]; done) | omega | (simp only [mz_cm1, mz_c0, mz_c1, mz_c2, mz_c3, mz_c4, mz_c5, mz_c6, mz_c7, mz_c8, mz_c10, mz_c17, mz_c20, mz_c28, mz_c58, mz_c63, mz_c98, mz_c294, mz_c526, mz_c532, mz_c540, mz_c999, mz_c1900, mz_c2403, mz_c29362, mz_c29363, mz_c29364, mz_c29390, mz_c29393, mz_c29394, mz_c29398, mz_c29399, mz_c29400, mz_c29401, nI_add, pk_mul, pk_m1, mz_pp, mz_pq]; congr 1; omega)) ?_
  try simp only [mz_c0, mz_cm1]
  refine mz_Vcv hC tk_X3_dropDeed rfl md_X4_erase lk_RX3_55 rfl (ct_erase l E td1 k hk) (by show (vwCl[mz_K _ _]?).map _ = _; rw [kd1]; rfl) ⟨Nat.le_of_ble_eq_true rfl, Nat.le_of_ble_eq_true rfl⟩ ⟨Nat.le_of_ble_eq_true rfl, Nat.le_of_ble_eq_true rfl⟩ (Nat.le_of_ble_eq_true rfl) (fun v2 G2 sz2 hp2 => ?_)
  obtain ⟨rfl, hs11, t2, hF2⟩ := hp2
  rw [← hs11]
  refine mz_Vreturn hC tk_X3_dropDeed rfl hret (Nat.le_of_ble_eq_true rfl) (Nat.le_of_ble_eq_true rfl) ?_
  refine ⟨rfl, rfl, O1, hS1.dd hm hF2 (t2.same (fun k' j' h1 h2 => (mr_dd_m f1 n8 hk k' j' h1 h2).symm)) (mx_dd_n f1 m0 _ k) (fun i hi => mr_dd_o f1 n8 hk hi), (hF1.mono (fun q hq => ?_)).tr (hF2.mono (fun q hq => ?_))⟩
  · unfold mr_Z; rcases hq with hq | hq <;> omega
  · unfold mr_Z; omega
theorem cs_dropOld (hS : mr_S G O sz σ f Λ) (m0 b : Nat) (hm : m0 < 4) (hb : b < 3) (cc : Nat) (hcc : mx_cC f m0 b = cc) (R : (Nat → Int32) × Nat × Nat) (hR : mx_ds (mx_nD f m0) f m0 b cc (nI 3) (mx_nD f m0) (mx_nQ f) 0 = R) : mz_M l E yX3_dropDeedsOfOldEra cX3_dropDeedsOfOldEra 5 none 7 0 0 [.ref σ, .ref (σ + 21 + 13 * m0), .int (nI b)] G sz (fun v' G' sz' => v' = none ∧ sz = sz' ∧ ∃ O', mr_S G' O' sz σ R.1 Λ ∧ mt_F (mr_Z σ) G G' O O' sz sz) := by
  obtain ⟨⟨hKm, rm2⟩, td⟩ := (hS.2.2.2 m0 hm).d
  have kd := td.K
  have sd := td.s
  obtain ⟨n8', -, -⟩ := td.b
  refine mz_start (by decide) (Nat.le_of_ble_eq_true rfl) ?_
  intro p e s m args below meth c hC hret hnm
  have loop : ∀ (d : Nat) (f1 : Nat → Int32) (n1 q1 k : Nat) (G1 : mz_G) (O1 : Nat → Nat), mr_S G1 O1 sz σ f1 Λ → mx_nD f1 m0 = n1 → mx_nQ f1 = q1 → k + d = n1 → d ≤ 8 → mx_cC f1 m0 b = cc → mx_ds d f1 m0 b cc (nI 3) n1 q1 k = R → mt_F (mr_Z σ) G G1 O O1 sz sz → mz_V E p l e (mz_rm 7 0 0) s m args below meth c 5 (0) (0) (mz_Z E below args s 0 0 (fun v' G' sz' => v' = none ∧ sz = sz' ∧ ∃ O', mr_S G' O' sz σ R.1 Λ ∧ mt_F (mr_Z σ) G G' O O' sz sz)) (G1) (sz) (11) [some (.ref σ), some (.ref (σ + 21 + 13 * m0)), some (.int (nI b)), some (.int (nI k)), some (.int (nI d))] [] := by
    intro d
    induction d with
    | zero =>
      intro f1 n1 q1 k G1 O1 hS1 hn1 hq1 hk hd8 hcc1 hR hF
      refine mz_sn_ok hC tk_X3_dropDeedsOfOldEra pk_RX3 1 [] rfl (by (repeat' apply And.intro) <;> first | exact True.intro | assumption | (simp only [mz_cm1, mz_c0, mz_c1, mz_c2, mz_c3, mz_c4, mz_c5, mz_c6, mz_c7, mz_c8, mz_c10, mz_c17, mz_c20, mz_c28, mz_c58, mz_c63, mz_c98, mz_c294, mz_c526, mz_c532, mz_c540, mz_c999, mz_c1900, mz_c2403, mz_c29362, mz_c29363, mz_c29364, mz_c29390, mz_c29393, mz_c29394, mz_c29398, mz_c29399, mz_c29400, mz_c29401, nI_add, pk_mul, pk_m1, mz_pp, mz_pq]; done) | omega | (simp only [mz_cm1, mz_c0, mz_c1, mz_c2, mz_c3, mz_c4, mz_c5, mz_c6, mz_c7, mz_c8, mz_c10, mz_c17, mz_c20, mz_c28, mz_c58, mz_c63, mz_c98, mz_c294, mz_c526, mz_c532, mz_c540, mz_c999, mz_c1900, mz_c2403, mz_c29362, mz_c29363, mz_c29364, mz_c29390, mz_c29393, mz_c29394, mz_c29398, mz_c29399, mz_c29400, mz_c29401, nI_add, pk_mul, pk_m1, mz_pp, mz_pq]; congr 1; omega)) ?_
      try simp only [mz_c0, mz_cm1]
      refine mz_br_t hC tk_X3_dropDeedsOfOldEra rfl ((by show nI 0 ≤ 0; decide)) ?_
      refine mz_Vreturn hC tk_X3_dropDeedsOfOldEra rfl hret (Nat.le_of_ble_eq_true rfl) (Nat.le_of_ble_eq_true rfl) ?_
      exact ⟨rfl, rfl, O1, by rw [← hR]; exact hS1, hF⟩
    | succ d ih =>
      intro f1 n1 q1 k G1 O1 hS1 hn1 hq1 hk hd8 hcc1 hR hF
      have hM1 := hS1.2.2.2 m0 hm
      have hD1 := hM1.d
      have hKm1 := hD1.1.1
      have hKs1 := hS1.1.1.1.1.1
      have q10 : mx_nQ f1 ≤ 10 := hS1.2.1.1.1.b.1
      have n8 : mx_nD f1 m0 ≤ 8 := hD1.2.b.1
      have hk1 : k < mx_nD f1 m0 := by omega
      have stay : mx_ds d f1 m0 b cc (nI 3) n1 q1 (k + 1) = R → mz_V E p l e (mz_rm 7 0 0) s m args below meth c 5 (0) (0) (mz_Z E below args s 0 0 (fun v' G' sz' => v' = none ∧ sz = sz' ∧ ∃ O', mr_S G' O' sz σ R.1 Λ ∧ mt_F (mr_Z σ) G G' O O' sz sz)) (G1) (sz) (35) [some (.ref σ), some (.ref (σ + 21 + 13 * m0)), some (.int (nI b)), some (.int (nI k)), some (.int (nI (d + 1)))] [] := by
        intro hR2
        refine mz_sn_ok hC tk_X3_dropDeedsOfOldEra pk_RX3 3 [] rfl (by (repeat' apply And.intro) <;> first | exact True.intro | assumption | (simp only [mz_cm1, mz_c0, mz_c1, mz_c2, mz_c3, mz_c4, mz_c5, mz_c6, mz_c7, mz_c8, mz_c10, mz_c17, mz_c20, mz_c28, mz_c58, mz_c63, mz_c98, mz_c294, mz_c526, mz_c532, mz_c540, mz_c999, mz_c1900, mz_c2403, mz_c29362, mz_c29363, mz_c29364, mz_c29390, mz_c29393, mz_c29394, mz_c29398, mz_c29399, mz_c29400, mz_c29401, nI_add, pk_mul, pk_m1, mz_pp, mz_pq, mz_cm1]; done) | omega | (simp only [mz_cm1, mz_c0, mz_c1, mz_c2, mz_c3, mz_c4, mz_c5, mz_c6, mz_c7, mz_c8, mz_c10, mz_c17, mz_c20, mz_c28, mz_c58, mz_c63, mz_c98, mz_c294, mz_c526, mz_c532, mz_c540, mz_c999, mz_c1900, mz_c2403, mz_c29362, mz_c29363, mz_c29364, mz_c29390, mz_c29393, mz_c29394, mz_c29398, mz_c29399, mz_c29400, mz_c29401, nI_add, pk_mul, pk_m1, mz_pp, mz_pq, mz_cm1]; congr 1; omega)) ?_
        try simp only [mz_c0, mz_cm1, mz_cm1]
        rw [show nI (d + 1) + -1 = nI d from by rw [← mz_pq d]; exact (Int32.sub_eq_add_neg _ _).symm]
        refine mz_V.sub (lv' := [some (.ref σ), some (.ref (σ + 21 + 13 * m0)), some (.int (nI b)), some (.int (nI (k + 1))), some (.int (nI d))]) (by (repeat' apply And.intro) <;> first | with_reducible rfl | exact True.intro | (simp only [mz_cm1, mz_c0, mz_c1, mz_c2, mz_c3, mz_c4, mz_c5, mz_c6, mz_c7, mz_c8, mz_c10, mz_c17, mz_c20, mz_c28, mz_c58, mz_c63, mz_c98, mz_c294, mz_c526, mz_c532, mz_c540, mz_c999, mz_c1900, mz_c2403, mz_c29362, mz_c29363, mz_c29364, mz_c29390, mz_c29393, mz_c29394, mz_c29398, mz_c29399, mz_c29400, mz_c29401, nI_add, pk_mul, pk_m1, mz_pp, mz_pq]; done) | rfl) ?_
        exact ih f1 n1 q1 (k + 1) G1 O1 hS1 hn1 hq1 (by omega) (by omega) hcc1 hR2 hF
      have go : mx_ds d (mx_dd (mx_nt f1 (mx_nQ f1) (f1 (mx_DA m0 k)) (nI 3) (-1)) m0 (mx_nD f1 m0) k) m0 b cc (nI 3) (n1 - 1) (mx_n1 q1) k = R → mz_V E p l e (mz_rm 7 0 0) s m args below meth c 5 (0) (0) (mz_Z E below args s 0 0 (fun v' G' sz' => v' = none ∧ sz = sz' ∧ ∃ O', mr_S G' O' sz σ R.1 Λ ∧ mt_F (mr_Z σ) G G' O O' sz sz)) (G1) (sz) (25) [some (.ref σ), some (.ref (σ + 21 + 13 * m0)), some (.int (nI b)), some (.int (nI k)), some (.int (nI (d + 1)))] [] := by
        intro hR2
        refine mz_sn_ok hC tk_X3_dropDeedsOfOldEra pk_RX3 4 [] rfl (by (repeat' apply And.intro) <;> first | exact True.intro | assumption | (simp only [mz_cm1, mz_c0, mz_c1, mz_c2, mz_c3, mz_c4, mz_c5, mz_c6, mz_c7, mz_c8, mz_c10, mz_c17, mz_c20, mz_c28, mz_c58, mz_c63, mz_c98, mz_c294, mz_c526, mz_c532, mz_c540, mz_c999, mz_c1900, mz_c2403, mz_c29362, mz_c29363, mz_c29364, mz_c29390, mz_c29393, mz_c29394, mz_c29398, mz_c29399, mz_c29400, mz_c29401, nI_add, pk_mul, pk_m1, mz_pp, mz_pq]; done) | omega | (simp only [mz_cm1, mz_c0, mz_c1, mz_c2, mz_c3, mz_c4, mz_c5, mz_c6, mz_c7, mz_c8, mz_c10, mz_c17, mz_c20, mz_c28, mz_c58, mz_c63, mz_c98, mz_c294, mz_c526, mz_c532, mz_c540, mz_c999, mz_c1900, mz_c2403, mz_c29362, mz_c29363, mz_c29364, mz_c29390, mz_c29393, mz_c29394, mz_c29398, mz_c29399, mz_c29400, mz_c29401, nI_add, pk_mul, pk_m1, mz_pp, mz_pq]; congr 1; omega)) ?_
        try simp only [mz_c0, mz_cm1]
        refine mz_Vcv hC tk_X3_dropDeedsOfOldEra rfl md_X3_dropDeed lk_RX3_90 rfl (cs_dropDeed l E hS1 m0 k hm hk1 ((nI 3))) (by show (vwCl[mz_K _ _]?).map _ = _; rw [hKs1]; rfl) ⟨Nat.le_of_ble_eq_true rfl, Nat.le_of_ble_eq_true rfl⟩ ⟨Nat.le_of_ble_eq_true rfl, Nat.le_of_ble_eq_true rfl⟩ (Nat.le_of_ble_eq_true rfl) (fun v2 G2 sz2 hp2 => ?_)
        obtain ⟨rfl, hs10, O2, hS2, hF2⟩ := hp2
        rw [← hs10]
        refine mz_sn_ok hC tk_X3_dropDeedsOfOldEra pk_RX3 3 [] rfl (by (repeat' apply And.intro) <;> first | exact True.intro | assumption | (simp only [mz_cm1, mz_c0, mz_c1, mz_c2, mz_c3, mz_c4, mz_c5, mz_c6, mz_c7, mz_c8, mz_c10, mz_c17, mz_c20, mz_c28, mz_c58, mz_c63, mz_c98, mz_c294, mz_c526, mz_c532, mz_c540, mz_c999, mz_c1900, mz_c2403, mz_c29362, mz_c29363, mz_c29364, mz_c29390, mz_c29393, mz_c29394, mz_c29398, mz_c29399, mz_c29400, mz_c29401, nI_add, pk_mul, pk_m1, mz_pp, mz_pq, mz_cm1]; done) | omega | (simp only [mz_cm1, mz_c0, mz_c1, mz_c2, mz_c3, mz_c4, mz_c5, mz_c6, mz_c7, mz_c8, mz_c10, mz_c17, mz_c20, mz_c28, mz_c58, mz_c63, mz_c98, mz_c294, mz_c526, mz_c532, mz_c540, mz_c999, mz_c1900, mz_c2403, mz_c29362, mz_c29363, mz_c29364, mz_c29390, mz_c29393, mz_c29394, mz_c29398, mz_c29399, mz_c29400, mz_c29401, nI_add, pk_mul, pk_m1, mz_pp, mz_pq, mz_cm1]; congr 1; omega)) ?_
        try simp only [mz_c0, mz_cm1, mz_cm1]
        rw [show nI (d + 1) + -1 = nI d from by rw [← mz_pq d]; exact (Int32.sub_eq_add_neg _ _).symm]
        refine mz_V.sub (lv' := [some (.ref σ), some (.ref (σ + 21 + 13 * m0)), some (.int (nI b)), some (.int (nI k)), some (.int (nI d))]) (by (repeat' apply And.intro) <;> first | with_reducible rfl | exact True.intro | (simp only [mz_cm1, mz_c0, mz_c1, mz_c2, mz_c3, mz_c4, mz_c5, mz_c6, mz_c7, mz_c8, mz_c10, mz_c17, mz_c20, mz_c28, mz_c58, mz_c63, mz_c98, mz_c294, mz_c526, mz_c532, mz_c540, mz_c999, mz_c1900, mz_c2403, mz_c29362, mz_c29363, mz_c29364, mz_c29390, mz_c29393, mz_c29394, mz_c29398, mz_c29399, mz_c29400, mz_c29401, nI_add, pk_mul, pk_m1, mz_pp, mz_pq]; done) | rfl) ?_
        refine ih _ (n1 - 1) (mx_n1 q1) k G2 O2 hS2 ?_ ?_ (by omega) (by omega) ?_ hR2 (hF.tr hF2)
        · rw [← hn1]
          exact mr_nI_cl (mx_dd_n _ m0 _ k) (by omega)
        · refine mr_nI_cl (n := mx_n1 q1) ?_ (by unfold mx_n1; split <;> omega)
          rw [mr_dd_o _ n8 hk1 (by omega), mx_nt_n, hq1]
        · rw [← hcc1]
          refine mr_cC_cong ?_
          have hCA : 526 ≤ mx_CA m0 b ∧ mx_CA m0 b + 2403 ≤ 29362 := by unfold mx_CA; omega
          rw [mr_dd_o _ n8 hk1 (by omega), mx_nt_o _ _ _ _ _ q10 (by omega)]
      have hR' : (if ¬ f1 (mx_DA m0 k + 1) = nI 1 ∧ f1 (mx_DA m0 k + 2) = nI b ∧ ((nI 3) = nI 3 ∨ mz_fz (mx_nm f1 (mx_CA m0 b + 2)) (f1 (mx_DA m0 k + 3)) cc = none) then mx_ds d (mx_dd (mx_nt f1 q1 (f1 (mx_DA m0 k)) (nI 3) (-1)) m0 n1 k) m0 b cc (nI 3) (n1 - 1) (mx_n1 q1) k else mx_ds d f1 m0 b cc (nI 3) n1 q1 (k + 1)) = R := hR
      refine mz_sn_ok hC tk_X3_dropDeedsOfOldEra pk_RX3 1 [] rfl (by (repeat' apply And.intro) <;> first | exact True.intro | assumption | (simp only [mz_cm1, mz_c0, mz_c1, mz_c2, mz_c3, mz_c4, mz_c5, mz_c6, mz_c7, mz_c8, mz_c10, mz_c17, mz_c20, mz_c28, mz_c58, mz_c63, mz_c98, mz_c294, mz_c526, mz_c532, mz_c540, mz_c999, mz_c1900, mz_c2403, mz_c29362, mz_c29363, mz_c29364, mz_c29390, mz_c29393, mz_c29394, mz_c29398, mz_c29399, mz_c29400, mz_c29401, nI_add, pk_mul, pk_m1, mz_pp, mz_pq]; done) | omega | (simp only [mz_cm1, mz_c0, mz_c1, mz_c2, mz_c3, mz_c4, mz_c5, mz_c6, mz_c7, mz_c8, mz_c10, mz_c17, mz_c20, mz_c28, mz_c58, mz_c63, mz_c98, mz_c294, mz_c526, mz_c532, mz_c540, mz_c999, mz_c1900, mz_c2403, mz_c29362, mz_c29363, mz_c29364, mz_c29390, mz_c29393, mz_c29394, mz_c29398, mz_c29399, mz_c29400, mz_c29401, nI_add, pk_mul, pk_m1, mz_pp, mz_pq]; congr 1; omega)) ?_
      try simp only [mz_c0, mz_cm1]
      refine mz_br_f hC tk_X3_dropDeedsOfOldEra rfl ((by show ¬ nI (d + 1) ≤ 0; show ¬ nI (d + 1) ≤ nI 0; exact nI_ge (by omega) (by omega))) ?_
      refine mz_sn_ok hC tk_X3_dropDeedsOfOldEra pk_RX3 3 [] rfl (by (repeat' apply And.intro) <;> first | exact True.intro | assumption | (simp only [mz_cm1, mz_c0, mz_c1, mz_c2, mz_c3, mz_c4, mz_c5, mz_c6, mz_c7, mz_c8, mz_c10, mz_c17, mz_c20, mz_c28, mz_c58, mz_c63, mz_c98, mz_c294, mz_c526, mz_c532, mz_c540, mz_c999, mz_c1900, mz_c2403, mz_c29362, mz_c29363, mz_c29364, mz_c29390, mz_c29393, mz_c29394, mz_c29398, mz_c29399, mz_c29400, mz_c29401, nI_add, pk_mul, pk_m1, mz_pp, mz_pq]; done) | omega | (simp only [mz_cm1, mz_c0, mz_c1, mz_c2, mz_c3, mz_c4, mz_c5, mz_c6, mz_c7, mz_c8, mz_c10, mz_c17, mz_c20, mz_c28, mz_c58, mz_c63, mz_c98, mz_c294, mz_c526, mz_c532, mz_c540, mz_c999, mz_c1900, mz_c2403, mz_c29362, mz_c29363, mz_c29364, mz_c29390, mz_c29393, mz_c29394, mz_c29398, mz_c29399, mz_c29400, mz_c29401, nI_add, pk_mul, pk_m1, mz_pp, mz_pq]; congr 1; omega)) ?_
      try simp only [mz_c0, mz_cm1]
      refine mz_Vcv hC tk_X3_dropDeedsOfOldEra rfl md_X2_isForMessageOf lk_RX3_86 rfl (cd_isFor l E hD1 k hk1 (nI b)) (by show (vwCl[mz_K _ _]?).map _ = _; rw [hKm1]; rfl) ⟨Nat.le_of_ble_eq_true rfl, Nat.le_of_ble_eq_true rfl⟩ ⟨Nat.le_of_ble_eq_true rfl, Nat.le_of_ble_eq_true rfl⟩ (Nat.le_of_ble_eq_true rfl) (fun v9 G9 sz9 hp9 => ?_)
      obtain ⟨rfl, hG9, hs9⟩ := hp9
      rw [hG9, ← hs9]
      by_cases hc : ¬ f1 (mx_DA m0 k + 1) = nI 1 ∧ f1 (mx_DA m0 k + 2) = nI b
      · rw [if_pos hc]
        rw [if_pos ⟨hc.1, hc.2, Or.inl rfl⟩] at hR'
        refine mz_br_f hC tk_X3_dropDeedsOfOldEra rfl ((by show ¬ (1 : Int32) = 0; decide)) ?_
        rw [hn1, hq1] at go
        exact go hR'
      · rw [if_neg hc]
        rw [if_neg (fun z => hc ⟨z.1, z.2.1⟩)] at hR'
        refine mz_br_t hC tk_X3_dropDeedsOfOldEra rfl ((by show (0 : Int32) = 0; rfl)) ?_
        exact stay hR'
  refine mz_sn_ok hC tk_X3_dropDeedsOfOldEra pk_RX3 6 [σ + 21 + 13 * m0 + 2] rfl (by (repeat' apply And.intro) <;> first | exact True.intro | assumption | (simp only [mz_cm1, mz_c0, mz_c1, mz_c2, mz_c3, mz_c4, mz_c5, mz_c6, mz_c7, mz_c8, mz_c10, mz_c17, mz_c20, mz_c28, mz_c58, mz_c63, mz_c98, mz_c294, mz_c526, mz_c532, mz_c540, mz_c999, mz_c1900, mz_c2403, mz_c29362, mz_c29363, mz_c29364, mz_c29390, mz_c29393, mz_c29394, mz_c29398, mz_c29399, mz_c29400, mz_c29401, nI_add, pk_mul, pk_m1, mz_pp, mz_pq, sd]; done) | omega | (simp only [mz_cm1, mz_c0, mz_c1, mz_c2, mz_c3, mz_c4, mz_c5, mz_c6, mz_c7, mz_c8, mz_c10, mz_c17, mz_c20, mz_c28, mz_c58, mz_c63, mz_c98, mz_c294, mz_c526, mz_c532, mz_c540, mz_c999, mz_c1900, mz_c2403, mz_c29362, mz_c29363, mz_c29364, mz_c29390, mz_c29393, mz_c29394, mz_c29398, mz_c29399, mz_c29400, mz_c29401, nI_add, pk_mul, pk_m1, mz_pp, mz_pq, sd]; congr 1; omega)) ?_
  try simp only [mz_c0, mz_cm1, sd]
  refine mz_V.sub (lv' := [some (.ref σ), some (.ref (σ + 21 + 13 * m0)), some (.int (nI b)), some (.int (nI 0)), some (.int (nI (mx_nD f m0)))]) (by (repeat' apply And.intro) <;> first | with_reducible rfl | exact True.intro | (simp only [mz_cm1, mz_c0, mz_c1, mz_c2, mz_c3, mz_c4, mz_c5, mz_c6, mz_c7, mz_c8, mz_c10, mz_c17, mz_c20, mz_c28, mz_c58, mz_c63, mz_c98, mz_c294, mz_c526, mz_c532, mz_c540, mz_c999, mz_c1900, mz_c2403, mz_c29362, mz_c29363, mz_c29364, mz_c29390, mz_c29393, mz_c29394, mz_c29398, mz_c29399, mz_c29400, mz_c29401, nI_add, pk_mul, pk_m1, mz_pp, mz_pq]; done) | rfl) ?_
  exact loop (mx_nD f m0) f _ _ 0 G O hS rfl rfl (by omega) n8' hcc hR mt_F.rf
theorem cs_dropLost (hS : mr_S G O sz σ f Λ) (m0 b : Nat) (hm : m0 < 4) (hb : b < 3) (cc : Nat) (hcc : mx_cC f m0 b = cc) (R : (Nat → Int32) × Nat × Nat) (hR : mx_ds (mx_nD f m0) f m0 b cc (nI 2) (mx_nD f m0) (mx_nQ f) 0 = R) : mz_M l E yX3_dropDeedsForLost cX3_dropDeedsForLost 5 none 7 0 0 [.ref σ, .ref (σ + 21 + 13 * m0), .int (nI b)] G sz (fun v' G' sz' => v' = none ∧ sz = sz' ∧ ∃ O', mr_S G' O' sz σ R.1 Λ ∧ mt_F (mr_Z σ) G G' O O' sz sz) := by
  obtain ⟨⟨hKm, rm2⟩, td⟩ := (hS.2.2.2 m0 hm).d
  have kd := td.K
  have sd := td.s
  obtain ⟨n8', -, -⟩ := td.b
  have h23 : ¬ nI 2 = nI 3 := by decide
  refine mz_start (by decide) (Nat.le_of_ble_eq_true rfl) ?_
  intro p e s m args below meth c hC hret hnm
  have loop : ∀ (d : Nat) (f1 : Nat → Int32) (n1 q1 k : Nat) (G1 : mz_G) (O1 : Nat → Nat), mr_S G1 O1 sz σ f1 Λ → mx_nD f1 m0 = n1 → mx_nQ f1 = q1 → k + d = n1 → d ≤ 8 → mx_cC f1 m0 b = cc → mx_ds d f1 m0 b cc (nI 2) n1 q1 k = R → mt_F (mr_Z σ) G G1 O O1 sz sz → mz_V E p l e (mz_rm 7 0 0) s m args below meth c 5 (0) (0) (mz_Z E below args s 0 0 (fun v' G' sz' => v' = none ∧ sz = sz' ∧ ∃ O', mr_S G' O' sz σ R.1 Λ ∧ mt_F (mr_Z σ) G G' O O' sz sz)) (G1) (sz) (11) [some (.ref σ), some (.ref (σ + 21 + 13 * m0)), some (.int (nI b)), some (.int (nI k)), some (.int (nI d))] [] := by
    intro d
    induction d with
    | zero =>
      intro f1 n1 q1 k G1 O1 hS1 hn1 hq1 hk hd8 hcc1 hR hF
      refine mz_sn_ok hC tk_X3_dropDeedsForLost pk_RX3 1 [] rfl (by (repeat' apply And.intro) <;> first | exact True.intro | assumption | (simp only [mz_cm1, mz_c0, mz_c1, mz_c2, mz_c3, mz_c4, mz_c5, mz_c6, mz_c7, mz_c8, mz_c10, mz_c17, mz_c20, mz_c28, mz_c58, mz_c63, mz_c98, mz_c294, mz_c526, mz_c532, mz_c540, mz_c999, mz_c1900, mz_c2403, mz_c29362, mz_c29363, mz_c29364, mz_c29390, mz_c29393, mz_c29394, mz_c29398, mz_c29399, mz_c29400, mz_c29401, nI_add, pk_mul, pk_m1, mz_pp, mz_pq]; done) | omega | (simp only [mz_cm1, mz_c0, mz_c1, mz_c2, mz_c3, mz_c4, mz_c5, mz_c6, mz_c7, mz_c8, mz_c10, mz_c17, mz_c20, mz_c28, mz_c58, mz_c63, mz_c98, mz_c294, mz_c526, mz_c532, mz_c540, mz_c999, mz_c1900, mz_c2403, mz_c29362, mz_c29363, mz_c29364, mz_c29390, mz_c29393, mz_c29394, mz_c29398, mz_c29399, mz_c29400, mz_c29401, nI_add, pk_mul, pk_m1, mz_pp, mz_pq]; congr 1; omega)) ?_
      try simp only [mz_c0, mz_cm1]
      refine mz_br_t hC tk_X3_dropDeedsForLost rfl ((by show nI 0 ≤ 0; decide)) ?_
      refine mz_Vreturn hC tk_X3_dropDeedsForLost rfl hret (Nat.le_of_ble_eq_true rfl) (Nat.le_of_ble_eq_true rfl) ?_
      exact ⟨rfl, rfl, O1, by rw [← hR]; exact hS1, hF⟩
    | succ d ih =>
      intro f1 n1 q1 k G1 O1 hS1 hn1 hq1 hk hd8 hcc1 hR hF
      have hM1 := hS1.2.2.2 m0 hm
      have hD1 := hM1.d
      have hKm1 := hD1.1.1
      have hKs1 := hS1.1.1.1.1.1
      have q10 : mx_nQ f1 ≤ 10 := hS1.2.1.1.1.b.1
      have n8 : mx_nD f1 m0 ≤ 8 := hD1.2.b.1
      have hk1 : k < mx_nD f1 m0 := by omega
      have stay : mx_ds d f1 m0 b cc (nI 2) n1 q1 (k + 1) = R → mz_V E p l e (mz_rm 7 0 0) s m args below meth c 5 (0) (0) (mz_Z E below args s 0 0 (fun v' G' sz' => v' = none ∧ sz = sz' ∧ ∃ O', mr_S G' O' sz σ R.1 Λ ∧ mt_F (mr_Z σ) G G' O O' sz sz)) (G1) (sz) (44) [some (.ref σ), some (.ref (σ + 21 + 13 * m0)), some (.int (nI b)), some (.int (nI k)), some (.int (nI (d + 1)))] [] := by
        intro hR2
        refine mz_sn_ok hC tk_X3_dropDeedsForLost pk_RX3 3 [] rfl (by (repeat' apply And.intro) <;> first | exact True.intro | assumption | (simp only [mz_cm1, mz_c0, mz_c1, mz_c2, mz_c3, mz_c4, mz_c5, mz_c6, mz_c7, mz_c8, mz_c10, mz_c17, mz_c20, mz_c28, mz_c58, mz_c63, mz_c98, mz_c294, mz_c526, mz_c532, mz_c540, mz_c999, mz_c1900, mz_c2403, mz_c29362, mz_c29363, mz_c29364, mz_c29390, mz_c29393, mz_c29394, mz_c29398, mz_c29399, mz_c29400, mz_c29401, nI_add, pk_mul, pk_m1, mz_pp, mz_pq, mz_cm1]; done) | omega | (simp only [mz_cm1, mz_c0, mz_c1, mz_c2, mz_c3, mz_c4, mz_c5, mz_c6, mz_c7, mz_c8, mz_c10, mz_c17, mz_c20, mz_c28, mz_c58, mz_c63, mz_c98, mz_c294, mz_c526, mz_c532, mz_c540, mz_c999, mz_c1900, mz_c2403, mz_c29362, mz_c29363, mz_c29364, mz_c29390, mz_c29393, mz_c29394, mz_c29398, mz_c29399, mz_c29400, mz_c29401, nI_add, pk_mul, pk_m1, mz_pp, mz_pq, mz_cm1]; congr 1; omega)) ?_
        try simp only [mz_c0, mz_cm1, mz_cm1]
        rw [show nI (d + 1) + -1 = nI d from by rw [← mz_pq d]; exact (Int32.sub_eq_add_neg _ _).symm]
        refine mz_V.sub (lv' := [some (.ref σ), some (.ref (σ + 21 + 13 * m0)), some (.int (nI b)), some (.int (nI (k + 1))), some (.int (nI d))]) (by (repeat' apply And.intro) <;> first | with_reducible rfl | exact True.intro | (simp only [mz_cm1, mz_c0, mz_c1, mz_c2, mz_c3, mz_c4, mz_c5, mz_c6, mz_c7, mz_c8, mz_c10, mz_c17, mz_c20, mz_c28, mz_c58, mz_c63, mz_c98, mz_c294, mz_c526, mz_c532, mz_c540, mz_c999, mz_c1900, mz_c2403, mz_c29362, mz_c29363, mz_c29364, mz_c29390, mz_c29393, mz_c29394, mz_c29398, mz_c29399, mz_c29400, mz_c29401, nI_add, pk_mul, pk_m1, mz_pp, mz_pq]; done) | rfl) ?_
        exact ih f1 n1 q1 (k + 1) G1 O1 hS1 hn1 hq1 (by omega) (by omega) hcc1 hR2 hF
      have go : mx_ds d (mx_dd (mx_nt f1 (mx_nQ f1) (f1 (mx_DA m0 k)) (nI 2) (-1)) m0 (mx_nD f1 m0) k) m0 b cc (nI 2) (n1 - 1) (mx_n1 q1) k = R → mz_V E p l e (mz_rm 7 0 0) s m args below meth c 5 (0) (0) (mz_Z E below args s 0 0 (fun v' G' sz' => v' = none ∧ sz = sz' ∧ ∃ O', mr_S G' O' sz σ R.1 Λ ∧ mt_F (mr_Z σ) G G' O O' sz sz)) (G1) (sz) (34) [some (.ref σ), some (.ref (σ + 21 + 13 * m0)), some (.int (nI b)), some (.int (nI k)), some (.int (nI (d + 1)))] [] := by
        intro hR2
        refine mz_sn_ok hC tk_X3_dropDeedsForLost pk_RX3 4 [] rfl (by (repeat' apply And.intro) <;> first | exact True.intro | assumption | (simp only [mz_cm1, mz_c0, mz_c1, mz_c2, mz_c3, mz_c4, mz_c5, mz_c6, mz_c7, mz_c8, mz_c10, mz_c17, mz_c20, mz_c28, mz_c58, mz_c63, mz_c98, mz_c294, mz_c526, mz_c532, mz_c540, mz_c999, mz_c1900, mz_c2403, mz_c29362, mz_c29363, mz_c29364, mz_c29390, mz_c29393, mz_c29394, mz_c29398, mz_c29399, mz_c29400, mz_c29401, nI_add, pk_mul, pk_m1, mz_pp, mz_pq]; done) | omega | (simp only [mz_cm1, mz_c0, mz_c1, mz_c2, mz_c3, mz_c4, mz_c5, mz_c6, mz_c7, mz_c8, mz_c10, mz_c17, mz_c20, mz_c28, mz_c58, mz_c63, mz_c98, mz_c294, mz_c526, mz_c532, mz_c540, mz_c999, mz_c1900, mz_c2403, mz_c29362, mz_c29363, mz_c29364, mz_c29390, mz_c29393, mz_c29394, mz_c29398, mz_c29399, mz_c29400, mz_c29401, nI_add, pk_mul, pk_m1, mz_pp, mz_pq]; congr 1; omega)) ?_
        try simp only [mz_c0, mz_cm1]
        refine mz_Vcv hC tk_X3_dropDeedsForLost rfl md_X3_dropDeed lk_RX3_90 rfl (cs_dropDeed l E hS1 m0 k hm hk1 ((nI 2))) (by show (vwCl[mz_K _ _]?).map _ = _; rw [hKs1]; rfl) ⟨Nat.le_of_ble_eq_true rfl, Nat.le_of_ble_eq_true rfl⟩ ⟨Nat.le_of_ble_eq_true rfl, Nat.le_of_ble_eq_true rfl⟩ (Nat.le_of_ble_eq_true rfl) (fun v2 G2 sz2 hp2 => ?_)
        obtain ⟨rfl, hs10, O2, hS2, hF2⟩ := hp2
        rw [← hs10]
        refine mz_sn_ok hC tk_X3_dropDeedsForLost pk_RX3 3 [] rfl (by (repeat' apply And.intro) <;> first | exact True.intro | assumption | (simp only [mz_cm1, mz_c0, mz_c1, mz_c2, mz_c3, mz_c4, mz_c5, mz_c6, mz_c7, mz_c8, mz_c10, mz_c17, mz_c20, mz_c28, mz_c58, mz_c63, mz_c98, mz_c294, mz_c526, mz_c532, mz_c540, mz_c999, mz_c1900, mz_c2403, mz_c29362, mz_c29363, mz_c29364, mz_c29390, mz_c29393, mz_c29394, mz_c29398, mz_c29399, mz_c29400, mz_c29401, nI_add, pk_mul, pk_m1, mz_pp, mz_pq, mz_cm1]; done) | omega | (simp only [mz_cm1, mz_c0, mz_c1, mz_c2, mz_c3, mz_c4, mz_c5, mz_c6, mz_c7, mz_c8, mz_c10, mz_c17, mz_c20, mz_c28, mz_c58, mz_c63, mz_c98, mz_c294, mz_c526, mz_c532, mz_c540, mz_c999, mz_c1900, mz_c2403, mz_c29362, mz_c29363, mz_c29364, mz_c29390, mz_c29393, mz_c29394, mz_c29398, mz_c29399, mz_c29400, mz_c29401, nI_add, pk_mul, pk_m1, mz_pp, mz_pq, mz_cm1]; congr 1; omega)) ?_
        try simp only [mz_c0, mz_cm1, mz_cm1]
        rw [show nI (d + 1) + -1 = nI d from by rw [← mz_pq d]; exact (Int32.sub_eq_add_neg _ _).symm]
        refine mz_V.sub (lv' := [some (.ref σ), some (.ref (σ + 21 + 13 * m0)), some (.int (nI b)), some (.int (nI k)), some (.int (nI d))]) (by (repeat' apply And.intro) <;> first | with_reducible rfl | exact True.intro | (simp only [mz_cm1, mz_c0, mz_c1, mz_c2, mz_c3, mz_c4, mz_c5, mz_c6, mz_c7, mz_c8, mz_c10, mz_c17, mz_c20, mz_c28, mz_c58, mz_c63, mz_c98, mz_c294, mz_c526, mz_c532, mz_c540, mz_c999, mz_c1900, mz_c2403, mz_c29362, mz_c29363, mz_c29364, mz_c29390, mz_c29393, mz_c29394, mz_c29398, mz_c29399, mz_c29400, mz_c29401, nI_add, pk_mul, pk_m1, mz_pp, mz_pq]; done) | rfl) ?_
        refine ih _ (n1 - 1) (mx_n1 q1) k G2 O2 hS2 ?_ ?_ (by omega) (by omega) ?_ hR2 (hF.tr hF2)
        · rw [← hn1]
          exact mr_nI_cl (mx_dd_n _ m0 _ k) (by omega)
        · refine mr_nI_cl (n := mx_n1 q1) ?_ (by unfold mx_n1; split <;> omega)
          rw [mr_dd_o _ n8 hk1 (by omega), mx_nt_n, hq1]
        · rw [← hcc1]
          refine mr_cC_cong ?_
          have hCA : 526 ≤ mx_CA m0 b ∧ mx_CA m0 b + 2403 ≤ 29362 := by unfold mx_CA; omega
          rw [mr_dd_o _ n8 hk1 (by omega), mx_nt_o _ _ _ _ _ q10 (by omega)]
      have hR' : (if ¬ f1 (mx_DA m0 k + 1) = nI 1 ∧ f1 (mx_DA m0 k + 2) = nI b ∧ ((nI 2) = nI 3 ∨ mz_fz (mx_nm f1 (mx_CA m0 b + 2)) (f1 (mx_DA m0 k + 3)) cc = none) then mx_ds d (mx_dd (mx_nt f1 q1 (f1 (mx_DA m0 k)) (nI 2) (-1)) m0 n1 k) m0 b cc (nI 2) (n1 - 1) (mx_n1 q1) k else mx_ds d f1 m0 b cc (nI 2) n1 q1 (k + 1)) = R := hR
      refine mz_sn_ok hC tk_X3_dropDeedsForLost pk_RX3 1 [] rfl (by (repeat' apply And.intro) <;> first | exact True.intro | assumption | (simp only [mz_cm1, mz_c0, mz_c1, mz_c2, mz_c3, mz_c4, mz_c5, mz_c6, mz_c7, mz_c8, mz_c10, mz_c17, mz_c20, mz_c28, mz_c58, mz_c63, mz_c98, mz_c294, mz_c526, mz_c532, mz_c540, mz_c999, mz_c1900, mz_c2403, mz_c29362, mz_c29363, mz_c29364, mz_c29390, mz_c29393, mz_c29394, mz_c29398, mz_c29399, mz_c29400, mz_c29401, nI_add, pk_mul, pk_m1, mz_pp, mz_pq]; done) | omega | (simp only [mz_cm1, mz_c0, mz_c1, mz_c2, mz_c3, mz_c4, mz_c5, mz_c6, mz_c7, mz_c8, mz_c10, mz_c17, mz_c20, mz_c28, mz_c58, mz_c63, mz_c98, mz_c294, mz_c526, mz_c532, mz_c540, mz_c999, mz_c1900, mz_c2403, mz_c29362, mz_c29363, mz_c29364, mz_c29390, mz_c29393, mz_c29394, mz_c29398, mz_c29399, mz_c29400, mz_c29401, nI_add, pk_mul, pk_m1, mz_pp, mz_pq]; congr 1; omega)) ?_
      try simp only [mz_c0, mz_cm1]
      refine mz_br_f hC tk_X3_dropDeedsForLost rfl ((by show ¬ nI (d + 1) ≤ 0; show ¬ nI (d + 1) ≤ nI 0; exact nI_ge (by omega) (by omega))) ?_
      refine mz_sn_ok hC tk_X3_dropDeedsForLost pk_RX3 3 [] rfl (by (repeat' apply And.intro) <;> first | exact True.intro | assumption | (simp only [mz_cm1, mz_c0, mz_c1, mz_c2, mz_c3, mz_c4, mz_c5, mz_c6, mz_c7, mz_c8, mz_c10, mz_c17, mz_c20, mz_c28, mz_c58, mz_c63, mz_c98, mz_c294, mz_c526, mz_c532, mz_c540, mz_c999, mz_c1900, mz_c2403, mz_c29362, mz_c29363, mz_c29364, mz_c29390, mz_c29393, mz_c29394, mz_c29398, mz_c29399, mz_c29400, mz_c29401, nI_add, pk_mul, pk_m1, mz_pp, mz_pq]; done) | omega | (simp only [mz_cm1, mz_c0, mz_c1, mz_c2, mz_c3, mz_c4, mz_c5, mz_c6, mz_c7, mz_c8, mz_c10, mz_c17, mz_c20, mz_c28, mz_c58, mz_c63, mz_c98, mz_c294, mz_c526, mz_c532, mz_c540, mz_c999, mz_c1900, mz_c2403, mz_c29362, mz_c29363, mz_c29364, mz_c29390, mz_c29393, mz_c29394, mz_c29398, mz_c29399, mz_c29400, mz_c29401, nI_add, pk_mul, pk_m1, mz_pp, mz_pq]; congr 1; omega)) ?_
      try simp only [mz_c0, mz_cm1]
      refine mz_Vcv hC tk_X3_dropDeedsForLost rfl md_X2_isForMessageOf lk_RX3_86 rfl (cd_isFor l E hD1 k hk1 (nI b)) (by show (vwCl[mz_K _ _]?).map _ = _; rw [hKm1]; rfl) ⟨Nat.le_of_ble_eq_true rfl, Nat.le_of_ble_eq_true rfl⟩ ⟨Nat.le_of_ble_eq_true rfl, Nat.le_of_ble_eq_true rfl⟩ (Nat.le_of_ble_eq_true rfl) (fun v9 G9 sz9 hp9 => ?_)
      obtain ⟨rfl, hG9, hs9⟩ := hp9
      rw [hG9, ← hs9]
      by_cases hc : ¬ f1 (mx_DA m0 k + 1) = nI 1 ∧ f1 (mx_DA m0 k + 2) = nI b
      · rw [if_pos hc]
        refine mz_br_f hC tk_X3_dropDeedsForLost rfl ((by show ¬ (1 : Int32) = 0; decide)) ?_
        refine mz_sn_ok hC tk_X3_dropDeedsForLost pk_RX3 3 [] rfl (by (repeat' apply And.intro) <;> first | exact True.intro | assumption | (simp only [mz_cm1, mz_c0, mz_c1, mz_c2, mz_c3, mz_c4, mz_c5, mz_c6, mz_c7, mz_c8, mz_c10, mz_c17, mz_c20, mz_c28, mz_c58, mz_c63, mz_c98, mz_c294, mz_c526, mz_c532, mz_c540, mz_c999, mz_c1900, mz_c2403, mz_c29362, mz_c29363, mz_c29364, mz_c29390, mz_c29393, mz_c29394, mz_c29398, mz_c29399, mz_c29400, mz_c29401, nI_add, pk_mul, pk_m1, mz_pp, mz_pq]; done) | omega | (simp only [mz_cm1, mz_c0, mz_c1, mz_c2, mz_c3, mz_c4, mz_c5, mz_c6, mz_c7, mz_c8, mz_c10, mz_c17, mz_c20, mz_c28, mz_c58, mz_c63, mz_c98, mz_c294, mz_c526, mz_c532, mz_c540, mz_c999, mz_c1900, mz_c2403, mz_c29362, mz_c29363, mz_c29364, mz_c29390, mz_c29393, mz_c29394, mz_c29398, mz_c29399, mz_c29400, mz_c29401, nI_add, pk_mul, pk_m1, mz_pp, mz_pq]; congr 1; omega)) ?_
        try simp only [mz_c0, mz_cm1]
        refine mz_Vcv hC tk_X3_dropDeedsForLost rfl md_X2_lacksMessageOf lk_RX3_94 rfl (cd_lacks l E hM1 k b hk1 hb) (by show (vwCl[mz_K _ _]?).map _ = _; rw [hKm1]; rfl) ⟨Nat.le_of_ble_eq_true rfl, Nat.le_of_ble_eq_true rfl⟩ ⟨Nat.le_of_ble_eq_true rfl, Nat.le_of_ble_eq_true rfl⟩ (Nat.le_of_ble_eq_true rfl) (fun v9 G9 sz9 hp9 => ?_)
        obtain ⟨rfl, hG10, hs10⟩ := hp9
        rw [hG10, ← hs10, hcc1]
        by_cases hz : mz_fz (mx_nm f1 (mx_CA m0 b + 2)) (f1 (mx_DA m0 k + 3)) cc = none
        · rw [if_pos hz]
          rw [if_pos ⟨hc.1, hc.2, Or.inr hz⟩] at hR'
          refine mz_br_f hC tk_X3_dropDeedsForLost rfl ((by show ¬ (1 : Int32) = 0; decide)) ?_
          rw [hn1, hq1] at go
          exact go hR'
        · rw [if_neg hz]
          rw [if_neg (fun z => z.2.2.elim h23 hz)] at hR'
          refine mz_br_t hC tk_X3_dropDeedsForLost rfl ((by show (0 : Int32) = 0; rfl)) ?_
          exact stay hR'
      · rw [if_neg hc]
        rw [if_neg (fun z => hc ⟨z.1, z.2.1⟩)] at hR'
        refine mz_br_t hC tk_X3_dropDeedsForLost rfl ((by show (0 : Int32) = 0; rfl)) ?_
        exact stay hR'
  refine mz_sn_ok hC tk_X3_dropDeedsForLost pk_RX3 6 [σ + 21 + 13 * m0 + 2] rfl (by (repeat' apply And.intro) <;> first | exact True.intro | assumption | (simp only [mz_cm1, mz_c0, mz_c1, mz_c2, mz_c3, mz_c4, mz_c5, mz_c6, mz_c7, mz_c8, mz_c10, mz_c17, mz_c20, mz_c28, mz_c58, mz_c63, mz_c98, mz_c294, mz_c526, mz_c532, mz_c540, mz_c999, mz_c1900, mz_c2403, mz_c29362, mz_c29363, mz_c29364, mz_c29390, mz_c29393, mz_c29394, mz_c29398, mz_c29399, mz_c29400, mz_c29401, nI_add, pk_mul, pk_m1, mz_pp, mz_pq, sd]; done) | omega | (simp only [mz_cm1, mz_c0, mz_c1, mz_c2, mz_c3, mz_c4, mz_c5, mz_c6, mz_c7, mz_c8, mz_c10, mz_c17, mz_c20, mz_c28, mz_c58, mz_c63, mz_c98, mz_c294, mz_c526, mz_c532, mz_c540, mz_c999, mz_c1900, mz_c2403, mz_c29362, mz_c29363, mz_c29364, mz_c29390, mz_c29393, mz_c29394, mz_c29398, mz_c29399, mz_c29400, mz_c29401, nI_add, pk_mul, pk_m1, mz_pp, mz_pq, sd]; congr 1; omega)) ?_
  try simp only [mz_c0, mz_cm1, sd]
  refine mz_V.sub (lv' := [some (.ref σ), some (.ref (σ + 21 + 13 * m0)), some (.int (nI b)), some (.int (nI 0)), some (.int (nI (mx_nD f m0)))]) (by (repeat' apply And.intro) <;> first | with_reducible rfl | exact True.intro | (simp only [mz_cm1, mz_c0, mz_c1, mz_c2, mz_c3, mz_c4, mz_c5, mz_c6, mz_c7, mz_c8, mz_c10, mz_c17, mz_c20, mz_c28, mz_c58, mz_c63, mz_c98, mz_c294, mz_c526, mz_c532, mz_c540, mz_c999, mz_c1900, mz_c2403, mz_c29362, mz_c29363, mz_c29364, mz_c29390, mz_c29393, mz_c29394, mz_c29398, mz_c29399, mz_c29400, mz_c29401, nI_add, pk_mul, pk_m1, mz_pp, mz_pq]; done) | rfl) ?_
  exact loop (mx_nD f m0) f _ _ 0 G O hS rfl rfl (by omega) n8' hcc hR mt_F.rf
end MRS

