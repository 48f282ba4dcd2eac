/-! ===== the class: settle ===== -/
theorem mz_u1_2 {α : Type} (f : Nat → α) (a : Nat) (v w : α) : mz_u1 (mz_u1 f a v) a w = mz_u1 f a w := by
  funext i
  simp only [mz_u1]
  split <;> rfl
/-- the steps of settle: P what the plays leave, L the rooms; S what the syncs leave and how many numbers, R the rooms -/
def mr_Se (f : Nat → Int32) (L0 : Nat → Nat → Nat) (P : Nat → Nat → Int32) (L : Nat → Nat → Nat → Nat) (S : Nat → Nat → (Nat → Int32) × Nat) (R : Nat → Nat → Nat → Nat → Nat) : Prop :=
  (P 0 = f ∧ L 0 = L0 ∧ ∀ m, m < 4 → (∀ k, k < mx_nD (P m) m → mr_gI (mx_pb (P m) m k).1 m k) ∧ P (m + 1) = mx_pB (P m) m ∧ L (m + 1) = mr_pL (P m) m (L m) (mx_nD (P m) m)) ∧ S 0 0 = (P 4, 0) ∧ R 0 0 = L 4 ∧ ∀ m, m < 4 → S (m + 1) 0 = S m 3 ∧ R (m + 1) 0 = R m 3 ∧ ∀ b, b < 3 → (mr_so (S m b).1 (mx_CA m b + 2) (mx_cC (S m b).1 m b) ∧ mr_sc (S m b).1 m b < 532) ∧ S m (b + 1) = (mx_yS (S m b).1 m b, (S m b).2 + mx_yn (S m b).1 m b) ∧ R m (b + 1) = mr_lg (R m b) m b (mr_sc (S m b).1 m b)
theorem mr_Se.lo {f : Nat → Int32} {L0 : Nat → Nat → Nat} {P : Nat → Nat → Int32} {L : Nat → Nat → Nat → Nat} {S : Nat → Nat → (Nat → Int32) × Nat} {R : Nat → Nat → Nat → Nat → Nat} (h : mr_Se f L0 P L S R) (hc : mr_cL L0) : (∀ m, m ≤ 4 → mr_cL (L m)) ∧ (∀ m, m < 4 → mr_Ph (L (m + 1)) ≤ mr_Ph (L m)) ∧ (∀ m, m ≤ 4 → ∀ b, b ≤ (if m < 4 then 3 else 0) → mr_cL (R m b)) ∧ (∀ m b, m < 4 → b < 3 → mr_Ph (R m (b + 1)) ≤ mr_Ph (R m b)) := by
  obtain ⟨⟨h0, h1, hm⟩, s0, r0, hs⟩ := h
  have a1 : ∀ m, m ≤ 4 → mr_cL (L m) := by
    intro m
    induction m with
    | zero => intro _; rw [h1]; exact hc
    | succ m ih =>
      intro hl
      obtain ⟨q1, q2, q3⟩ := hm m (by omega)
      rw [q3]
      exact mr_pL_ok (by omega) (ih (by omega)) q1 _ (Nat.le_refl _)
  have a2 : ∀ m, m < 4 → mr_Ph (L (m + 1)) ≤ mr_Ph (L m) := by
    intro m hl
    obtain ⟨q1, q2, q3⟩ := hm m hl
    rw [q3]
    have := mr_pL_mo hl (a1 m (by omega)) q1 (mx_nD (P m) m) 0 (by omega)
    rw [Nat.zero_add] at this
    exact this
  have a3 : ∀ m, m < 4 → mr_cL (R m 0) → ∀ b, b ≤ 3 → mr_cL (R m b) := by
    intro m hl h0 b
    induction b with
    | zero => intro _; exact h0
    | succ b ih =>
      intro hb
      rw [((hs m hl).2.2 b (by omega)).2.2]
      exact (mr_lg_ok (ih (by omega)) hl (by omega) _).1
  have a4 : ∀ m, m ≤ 4 → mr_cL (R m 0) := by
    intro m
    induction m with
    | zero => intro _; rw [r0]; exact a1 4 (by omega)
    | succ m ih =>
      intro hl
      rw [(hs m (by omega)).2.1]
      exact a3 m (by omega) (ih (by omega)) 3 (by omega)
  refine ⟨a1, a2, ?_, ?_⟩
  · intro m hl b hb
    by_cases h4 : m < 4
    · rw [if_pos h4] at hb
      exact a3 m h4 (a4 m hl) b hb
    · rw [if_neg h4] at hb
      rw [show b = 0 by omega]
      exact a4 m hl
  · intro m b hl hb
    rw [((hs m hl).2.2 b hb).2.2]
    exact (mr_lg_ok (a3 m hl (a4 m (by omega)) b (by omega)) hl hb _).2
section MRF
variable (l : Launch) (E : mz_E) {G : mz_G} {O : Nat → Nat} {sz ω : Nat} {B : Nat → Nat} {sv : Nat} {F : Nat → Nat → Int32} {Λ : Nat → Nat → Nat → Nat} {v1 v2 : Nat}
theorem cf_set3 {P : Option Value → mz_G → Nat → Prop} {p : Program} {e : Env} {s : State} {m : MethodId} {args : Array Value} {below : List Frame} {meth : Method} {c : Code} (hC : mz_C E p s m args meth c cX5_settle yX5_settle.cls 4) (T0 T m0 : Nat) (hm : m0 < 4) (S : Nat → (Nat → Int32) × Nat) (R : Nat → Nat → Nat → Nat) (hc : ∀ b, b ≤ 3 → mr_cL (R b)) (hst : ∀ b, b < 3 → (mr_so (S b).1 (mx_CA m0 b + 2) (mx_cC (S b).1 m0 b) ∧ mr_sc (S b).1 m0 b < 532) ∧ S (b + 1) = (mx_yS (S b).1 m0 b, (S b).2 + mx_yn (S b).1 m0 b) ∧ R (b + 1) = mr_lg (R b) m0 b (mr_sc (S b).1 m0 b)) (hle : ∀ b, b ≤ 3 → T ≤ T0 + mr_Ph (R b)) {G0 : mz_G} {O0 : Nat → Nat} {sz0 : Nat} (hK : ∀ (G : mz_G) (O : Nat → Nat) (sz u : Nat), mr_M G O sz ω B sv (mz_u1 F 0 (S 3).1) (mz_u1 Λ 0 (R 3)) v1 v2 → mt_F (mr_ZZ ω) G0 G O0 O sz0 sz → u + mr_Ph (R 3) = T → mz_V E p l e (mz_rm 10 T0 T0) s m args below meth c 4 (u) (u) (mz_Z E below args s T0 T0 P) (G) (sz) (76) [some (.ref ω), some (.int (nI (S 3).2)), some (.int (nI m0))] []) : ∀ (d b : Nat) (G : mz_G) (O : Nat → Nat) (sz u : Nat), b + d = 3 → mr_M G O sz ω B sv (mz_u1 F 0 (S b).1) (mz_u1 Λ 0 (R b)) v1 v2 → mt_F (mr_ZZ ω) G0 G O0 O sz0 sz → u + mr_Ph (R b) = T → mz_V E p l e (mz_rm 10 T0 T0) s m args below meth c 4 (u) (u) (mz_Z E below args s T0 T0 P) (G) (sz) (45) [some (.ref ω), some (.int (nI (S b).2)), some (.int (nI m0)), some (.int (nI b))] [] := by
  intro d
  induction d with
  | zero =>
    intro b G O sz u hb hM hF hu
    obtain rfl : b = 3 := by omega
    refine mz_sn_ok hC tk_X5_settle pk_RX5 2 [] rfl (by (repeat' apply And.intro) <;> first | exact True.intro | assumption | (simp only [mz_cm1, mz_c0, mz_c1, mz_c2, mz_c3, mz_c4, mz_c5, mz_c6, mz_c7, mz_c8, mz_c10, mz_c17, mz_c20, mz_c28, mz_c58, mz_c63, mz_c98, mz_c294, mz_c526, mz_c532, mz_c540, mz_c999, mz_c1900, mz_c2403, mz_c29362, mz_c29363, mz_c29364, mz_c29390, mz_c29393, mz_c29394, mz_c29398, mz_c29399, mz_c29400, mz_c29401, nI_add, pk_mul, pk_m1, mz_pp, mz_pq]; done) | omega | (simp only [mz_cm1, mz_c0, mz_c1, mz_c2, mz_c3, mz_c4, mz_c5, mz_c6, mz_c7, mz_c8, mz_c10, mz_c17, mz_c20, mz_c28, mz_c58, mz_c63, mz_c98, mz_c294, mz_c526, mz_c532, mz_c540, mz_c999, mz_c1900, mz_c2403, mz_c29362, mz_c29363, mz_c29364, mz_c29390, mz_c29393, mz_c29394, mz_c29398, mz_c29399, mz_c29400, mz_c29401, nI_add, pk_mul, pk_m1, mz_pp, mz_pq]; congr 1; omega)) ?_
    try simp only [mz_c0, mz_cm1]
    refine mz_br_t hC tk_X5_settle rfl ((by show nI 3 ≤ nI 3; exact nI_le (by omega) (by omega))) ?_
    refine mz_V.sub (lv' := [some (.ref ω), some (.int (nI (S 3).2)), some (.int (nI m0))]) (by (repeat' apply And.intro) <;> first | with_reducible rfl | exact True.intro | (simp only [mz_cm1, mz_c0, mz_c1, mz_c2, mz_c3, mz_c4, mz_c5, mz_c6, mz_c7, mz_c8, mz_c10, mz_c17, mz_c20, mz_c28, mz_c58, mz_c63, mz_c98, mz_c294, mz_c526, mz_c532, mz_c540, mz_c999, mz_c1900, mz_c2403, mz_c29362, mz_c29363, mz_c29364, mz_c29390, mz_c29393, mz_c29394, mz_c29398, mz_c29399, mz_c29400, mz_c29401, nI_add, pk_mul, pk_m1, mz_pp, mz_pq]; done) | rfl) ?_
    exact hK G O sz u hM hF hu
  | succ d ih =>
    intro b G O sz u hb hM hF hu
    have hb3 : b < 3 := by omega
    obtain ⟨⟨hso, hfin⟩, eS, eR⟩ := hst b hb3
    obtain ⟨⟨⟨⟨⟨kω, oω, zω⟩, rω0, rω1, rω3, rω4⟩, -, -⟩, -, -⟩, ⟨hd1, hd2⟩, hst0, -⟩ := id hM
    have hw0 := hd2 0 (by omega)
    have hS0 := hst0 0 (by omega)
    rw [mz_u1_s, mz_u1_s] at hS0
    obtain ⟨⟨⟨⟨⟨kσ, oσ, zσ⟩, iσ4⟩, rσ0, rσ1, rσ2, rσ3⟩, -, ⟨⟨⟨kκ, oκ, zκ⟩, nκ⟩, hrκ⟩⟩, -⟩ := id hS0
    have rκ := hrκ m0 hm
    have hpe := mr_Ph_u (R b) hm hb3 (mt_gr 4 532 (R b m0 b) (mr_sc (S b).1 m0 b))
    have hmo := (mr_lg_ok (hc b (by omega)) hm hb3 (mr_sc (S b).1 m0 b)).2
    have hl1 := hle (b + 1) (by omega)
    rw [eR] at hl1
    unfold mr_lg at hmo hl1
    obtain ⟨U2, hU2⟩ : ∃ U2, U2 = mr_ph (R b m0 b) - mr_ph (mt_gr 4 532 (R b m0 b) (mr_sc (S b).1 m0 b)) := ⟨_, rfl⟩
    refine mz_sn_ok hC tk_X5_settle pk_RX5 2 [] rfl (by (repeat' apply And.intro) <;> first | exact True.intro | assumption | (simp only [mz_cm1, mz_c0, mz_c1, mz_c2, mz_c3, mz_c4, mz_c5, mz_c6, mz_c7, mz_c8, mz_c10, mz_c17, mz_c20, mz_c28, mz_c58, mz_c63, mz_c98, mz_c294, mz_c526, mz_c532, mz_c540, mz_c999, mz_c1900, mz_c2403, mz_c29362, mz_c29363, mz_c29364, mz_c29390, mz_c29393, mz_c29394, mz_c29398, mz_c29399, mz_c29400, mz_c29401, nI_add, pk_mul, pk_m1, mz_pp, mz_pq]; done) | omega | (simp only [mz_cm1, mz_c0, mz_c1, mz_c2, mz_c3, mz_c4, mz_c5, mz_c6, mz_c7, mz_c8, mz_c10, mz_c17, mz_c20, mz_c28, mz_c58, mz_c63, mz_c98, mz_c294, mz_c526, mz_c532, mz_c540, mz_c999, mz_c1900, mz_c2403, mz_c29362, mz_c29363, mz_c29364, mz_c29390, mz_c29393, mz_c29394, mz_c29398, mz_c29399, mz_c29400, mz_c29401, nI_add, pk_mul, pk_m1, mz_pp, mz_pq]; congr 1; omega)) ?_
    try simp only [mz_c0, mz_cm1]
    refine mz_br_f hC tk_X5_settle rfl ((by show ¬ nI 3 ≤ nI b; exact nI_ge (by omega) (by omega))) ?_
    refine mz_sn_ok hC tk_X5_settle pk_RX5 9 [B 0, B 0, B 0 + 2, m0, B 0 + 21 + 13 * m0] rfl (by (repeat' apply And.intro) <;> first | exact True.intro | assumption | (simp only [mz_cm1, mz_c0, mz_c1, mz_c2, mz_c3, mz_c4, mz_c5, mz_c6, mz_c7, mz_c8, mz_c10, mz_c17, mz_c20, mz_c28, mz_c58, mz_c63, mz_c98, mz_c294, mz_c526, mz_c532, mz_c540, mz_c999, mz_c1900, mz_c2403, mz_c29362, mz_c29363, mz_c29364, mz_c29390, mz_c29393, mz_c29394, mz_c29398, mz_c29399, mz_c29400, mz_c29401, nI_add, pk_mul, pk_m1, mz_pp, mz_pq]; done) | omega | (simp only [mz_cm1, mz_c0, mz_c1, mz_c2, mz_c3, mz_c4, mz_c5, mz_c6, mz_c7, mz_c8, mz_c10, mz_c17, mz_c20, mz_c28, mz_c58, mz_c63, mz_c98, mz_c294, mz_c526, mz_c532, mz_c540, mz_c999, mz_c1900, mz_c2403, mz_c29362, mz_c29363, mz_c29364, mz_c29390, mz_c29393, mz_c29394, mz_c29398, mz_c29399, mz_c29400, mz_c29401, nI_add, pk_mul, pk_m1, mz_pp, mz_pq]; congr 1; omega)) ?_
    try simp only [mz_c0, mz_cm1]
    refine mz_Vcv hC tk_X5_settle rfl md_X3_syncBox lk_RX5_152 rfl (cs_syncBox l E hS0 m0 b hm hb3 hso hfin U2 hU2) (by show (vwCl[mz_K _ _]?).map _ = _; rw [kσ]; rfl) ⟨Nat.le_of_ble_eq_true rfl, Nat.le_of_ble_eq_true rfl⟩ ⟨by simp only [mz_rm]; omega, by simp only [mz_rm]; omega⟩ (Nat.le_of_ble_eq_true rfl) (fun v2 G2 sz2 hp2 => ?_)
    obtain ⟨rfl, O2, hS2, hF2⟩ := hp2
    have hM2 := hM.st (i := 0) (by omega) hF2 hS2
    rw [mz_u1_2, mz_u1_2] at hM2
    have hFF := hF.tr (hF2.mono (Y := mr_ZZ ω) (fun q z => by unfold mr_Z at z; unfold mr_ZZ; omega))
    have e1 : (S (b + 1)).1 = mx_yS (S b).1 m0 b := by rw [eS]
    have e2 : (S (b + 1)).2 = (S b).2 + mx_yn (S b).1 m0 b := by rw [eS]
    have hM3 : mr_M G2 O2 sz2 ω B sv (mz_u1 F 0 (S (b + 1)).1) (mz_u1 Λ 0 (R (b + 1))) v1 v2 := by
      rw [e1, eR]; exact hM2
    refine mz_sn_ok hC tk_X5_settle pk_RX5 4 [] rfl (by (repeat' apply And.intro) <;> first | exact True.intro | assumption | (simp only [mz_cm1, mz_c0, mz_c1, mz_c2, mz_c3, mz_c4, mz_c5, mz_c6, mz_c7, mz_c8, mz_c10, mz_c17, mz_c20, mz_c28, mz_c58, mz_c63, mz_c98, mz_c294, mz_c526, mz_c532, mz_c540, mz_c999, mz_c1900, mz_c2403, mz_c29362, mz_c29363, mz_c29364, mz_c29390, mz_c29393, mz_c29394, mz_c29398, mz_c29399, mz_c29400, mz_c29401, nI_add, pk_mul, pk_m1, mz_pp, mz_pq]; done) | omega | (simp only [mz_cm1, mz_c0, mz_c1, mz_c2, mz_c3, mz_c4, mz_c5, mz_c6, mz_c7, mz_c8, mz_c10, mz_c17, mz_c20, mz_c28, mz_c58, mz_c63, mz_c98, mz_c294, mz_c526, mz_c532, mz_c540, mz_c999, mz_c1900, mz_c2403, mz_c29362, mz_c29363, mz_c29364, mz_c29390, mz_c29393, mz_c29394, mz_c29398, mz_c29399, mz_c29400, mz_c29401, nI_add, pk_mul, pk_m1, mz_pp, mz_pq]; congr 1; omega)) ?_
    try simp only [mz_c0, mz_cm1]
    refine mz_V.widen (k' := u + U2) (n' := u + U2) (by omega) (by omega) ?_
    refine mz_V.sub (lv' := [some (.ref ω), some (.int (nI ((S b).2 + mx_yn (S b).1 m0 b))), some (.int (nI m0)), some (.int (nI (b + 1)))]) (by (repeat' apply And.intro) <;> first | with_reducible rfl | exact True.intro | (simp only [mz_cm1, mz_c0, mz_c1, mz_c2, mz_c3, mz_c4, mz_c5, mz_c6, mz_c7, mz_c8, mz_c10, mz_c17, mz_c20, mz_c28, mz_c58, mz_c63, mz_c98, mz_c294, mz_c526, mz_c532, mz_c540, mz_c999, mz_c1900, mz_c2403, mz_c29362, mz_c29363, mz_c29364, mz_c29390, mz_c29393, mz_c29394, mz_c29398, mz_c29399, mz_c29400, mz_c29401, nI_add, pk_mul, pk_m1, mz_pp, mz_pq]; done) | rfl) ?_
    rw [← e2]
    refine ih (b + 1) G2 O2 sz2 (u + U2) (by omega) hM3 hFF ?_
    rw [eR]
    unfold mr_lg
    omega
theorem cf_set2 {P : Option Value → mz_G → Nat → Prop} {p : Program} {e : Env} {s : State} {m : MethodId} {args : Array Value} {below : List Frame} {meth : Method} {c : Code} (hC : mz_C E p s m args meth c cX5_settle yX5_settle.cls 4) (hret : meth.sig.returnType = some .int) (T0 T : Nat) (S : Nat → Nat → (Nat → Int32) × Nat) (R : Nat → Nat → Nat → Nat → Nat) (hc : ∀ m, m ≤ 4 → ∀ b, b ≤ (if m < 4 then 3 else 0) → mr_cL (R m b)) (hst : ∀ m, m < 4 → S (m + 1) 0 = S m 3 ∧ R (m + 1) 0 = R m 3 ∧ ∀ b, b < 3 → (mr_so (S m b).1 (mx_CA m b + 2) (mx_cC (S m b).1 m b) ∧ mr_sc (S m b).1 m b < 532) ∧ S m (b + 1) = (mx_yS (S m b).1 m b, (S m b).2 + mx_yn (S m b).1 m b) ∧ R m (b + 1) = mr_lg (R m b) m b (mr_sc (S m b).1 m b)) (hle : ∀ m, m < 4 → ∀ b, b ≤ 3 → T ≤ T0 + mr_Ph (R m b)) (hT0 : T0 + mr_Ph (R 4 0) = T) {G0 : mz_G} {O0 : Nat → Nat} {sz0 : Nat} (hP : ∀ (G : mz_G) (O : Nat → Nat) (sz : Nat), mr_M G O sz ω B sv (mz_u1 F 0 (S 4 0).1) (mz_u1 Λ 0 (R 4 0)) v1 v2 → mt_F (mr_ZZ ω) G0 G O0 O sz0 sz → P (some (.int (nI (S 4 0).2))) G sz) : ∀ (d m0 : Nat) (G : mz_G) (O : Nat → Nat) (sz u : Nat), m0 + d = 4 → mr_M G O sz ω B sv (mz_u1 F 0 (S m0 0).1) (mz_u1 Λ 0 (R m0 0)) v1 v2 → mt_F (mr_ZZ ω) G0 G O0 O sz0 sz → u + mr_Ph (R m0 0) = T → mz_V E p l e (mz_rm 10 T0 T0) s m args below meth c 4 (u) (u) (mz_Z E below args s T0 T0 P) (G) (sz) (38) [some (.ref ω), some (.int (nI (S m0 0).2)), some (.int (nI m0))] [] := by
  intro d
  induction d with
  | zero =>
    intro m0 G O sz u hb hM hF hu
    obtain rfl : m0 = 4 := by omega
    refine mz_sn_ok hC tk_X5_settle pk_RX5 2 [] rfl (by (repeat' apply And.intro) <;> first | exact True.intro | assumption | (simp only [mz_cm1, mz_c0, mz_c1, mz_c2, mz_c3, mz_c4, mz_c5, mz_c6, mz_c7, mz_c8, mz_c10, mz_c17, mz_c20, mz_c28, mz_c58, mz_c63, mz_c98, mz_c294, mz_c526, mz_c532, mz_c540, mz_c999, mz_c1900, mz_c2403, mz_c29362, mz_c29363, mz_c29364, mz_c29390, mz_c29393, mz_c29394, mz_c29398, mz_c29399, mz_c29400, mz_c29401, nI_add, pk_mul, pk_m1, mz_pp, mz_pq]; done) | omega | (simp only [mz_cm1, mz_c0, mz_c1, mz_c2, mz_c3, mz_c4, mz_c5, mz_c6, mz_c7, mz_c8, mz_c10, mz_c17, mz_c20, mz_c28, mz_c58, mz_c63, mz_c98, mz_c294, mz_c526, mz_c532, mz_c540, mz_c999, mz_c1900, mz_c2403, mz_c29362, mz_c29363, mz_c29364, mz_c29390, mz_c29393, mz_c29394, mz_c29398, mz_c29399, mz_c29400, mz_c29401, nI_add, pk_mul, pk_m1, mz_pp, mz_pq]; congr 1; omega)) ?_
    try simp only [mz_c0, mz_cm1]
    refine mz_br_t hC tk_X5_settle rfl ((by show nI 4 ≤ nI 4; exact nI_le (by omega) (by omega))) ?_
    refine mz_sn_ok hC tk_X5_settle pk_RX5 1 [] rfl (by (repeat' apply And.intro) <;> first | exact True.intro | assumption | (simp only [mz_cm1, mz_c0, mz_c1, mz_c2, mz_c3, mz_c4, mz_c5, mz_c6, mz_c7, mz_c8, mz_c10, mz_c17, mz_c20, mz_c28, mz_c58, mz_c63, mz_c98, mz_c294, mz_c526, mz_c532, mz_c540, mz_c999, mz_c1900, mz_c2403, mz_c29362, mz_c29363, mz_c29364, mz_c29390, mz_c29393, mz_c29394, mz_c29398, mz_c29399, mz_c29400, mz_c29401, nI_add, pk_mul, pk_m1, mz_pp, mz_pq]; done) | omega | (simp only [mz_cm1, mz_c0, mz_c1, mz_c2, mz_c3, mz_c4, mz_c5, mz_c6, mz_c7, mz_c8, mz_c10, mz_c17, mz_c20, mz_c28, mz_c58, mz_c63, mz_c98, mz_c294, mz_c526, mz_c532, mz_c540, mz_c999, mz_c1900, mz_c2403, mz_c29362, mz_c29363, mz_c29364, mz_c29390, mz_c29393, mz_c29394, mz_c29398, mz_c29399, mz_c29400, mz_c29401, nI_add, pk_mul, pk_m1, mz_pp, mz_pq]; congr 1; omega)) ?_
    try simp only [mz_c0, mz_cm1]
    refine mz_Vireturn hC tk_X5_settle rfl hret rfl (by omega) (by omega) ?_
    exact hP G O sz hM hF
  | succ d ih =>
    intro m0 G O sz u hb hM hF hu
    have hm : m0 < 4 := by omega
    obtain ⟨eS, eR, hq⟩ := hst m0 hm
    refine mz_sn_ok hC tk_X5_settle pk_RX5 2 [] rfl (by (repeat' apply And.intro) <;> first | exact True.intro | assumption | (simp only [mz_cm1, mz_c0, mz_c1, mz_c2, mz_c3, mz_c4, mz_c5, mz_c6, mz_c7, mz_c8, mz_c10, mz_c17, mz_c20, mz_c28, mz_c58, mz_c63, mz_c98, mz_c294, mz_c526, mz_c532, mz_c540, mz_c999, mz_c1900, mz_c2403, mz_c29362, mz_c29363, mz_c29364, mz_c29390, mz_c29393, mz_c29394, mz_c29398, mz_c29399, mz_c29400, mz_c29401, nI_add, pk_mul, pk_m1, mz_pp, mz_pq]; done) | omega | (simp only [mz_cm1, mz_c0, mz_c1, mz_c2, mz_c3, mz_c4, mz_c5, mz_c6, mz_c7, mz_c8, mz_c10, mz_c17, mz_c20, mz_c28, mz_c58, mz_c63, mz_c98, mz_c294, mz_c526, mz_c532, mz_c540, mz_c999, mz_c1900, mz_c2403, mz_c29362, mz_c29363, mz_c29364, mz_c29390, mz_c29393, mz_c29394, mz_c29398, mz_c29399, mz_c29400, mz_c29401, nI_add, pk_mul, pk_m1, mz_pp, mz_pq]; congr 1; omega)) ?_
    try simp only [mz_c0, mz_cm1]
    refine mz_br_f hC tk_X5_settle rfl ((by show ¬ nI 4 ≤ nI m0; exact nI_ge (by omega) (by omega))) ?_
    refine mz_sn_ok hC tk_X5_settle pk_RX5 2 [] rfl (by (repeat' apply And.intro) <;> first | exact True.intro | assumption | (simp only [mz_cm1, mz_c0, mz_c1, mz_c2, mz_c3, mz_c4, mz_c5, mz_c6, mz_c7, mz_c8, mz_c10, mz_c17, mz_c20, mz_c28, mz_c58, mz_c63, mz_c98, mz_c294, mz_c526, mz_c532, mz_c540, mz_c999, mz_c1900, mz_c2403, mz_c29362, mz_c29363, mz_c29364, mz_c29390, mz_c29393, mz_c29394, mz_c29398, mz_c29399, mz_c29400, mz_c29401, nI_add, pk_mul, pk_m1, mz_pp, mz_pq]; done) | omega | (simp only [mz_cm1, mz_c0, mz_c1, mz_c2, mz_c3, mz_c4, mz_c5, mz_c6, mz_c7, mz_c8, mz_c10, mz_c17, mz_c20, mz_c28, mz_c58, mz_c63, mz_c98, mz_c294, mz_c526, mz_c532, mz_c540, mz_c999, mz_c1900, mz_c2403, mz_c29362, mz_c29363, mz_c29364, mz_c29390, mz_c29393, mz_c29394, mz_c29398, mz_c29399, mz_c29400, mz_c29401, nI_add, pk_mul, pk_m1, mz_pp, mz_pq]; congr 1; omega)) ?_
    try simp only [mz_c0, mz_cm1]
    refine cf_set3 l E hC T0 T m0 hm (S m0) (R m0) (fun b hb => hc m0 (by omega) b (by rw [if_pos hm]; exact hb)) hq (hle m0 hm) ?_ 3 0 G O sz u (by omega) hM hF hu
    intro G3 O3 sz3 u3 hM3 hF3 hu3
    refine mz_sn_ok hC tk_X5_settle pk_RX5 2 [] rfl (by (repeat' apply And.intro) <;> first | exact True.intro | assumption | (simp only [mz_cm1, mz_c0, mz_c1, mz_c2, mz_c3, mz_c4, mz_c5, mz_c6, mz_c7, mz_c8, mz_c10, mz_c17, mz_c20, mz_c28, mz_c58, mz_c63, mz_c98, mz_c294, mz_c526, mz_c532, mz_c540, mz_c999, mz_c1900, mz_c2403, mz_c29362, mz_c29363, mz_c29364, mz_c29390, mz_c29393, mz_c29394, mz_c29398, mz_c29399, mz_c29400, mz_c29401, nI_add, pk_mul, pk_m1, mz_pp, mz_pq]; done) | omega | (simp only [mz_cm1, mz_c0, mz_c1, mz_c2, mz_c3, mz_c4, mz_c5, mz_c6, mz_c7, mz_c8, mz_c10, mz_c17, mz_c20, mz_c28, mz_c58, mz_c63, mz_c98, mz_c294, mz_c526, mz_c532, mz_c540, mz_c999, mz_c1900, mz_c2403, mz_c29362, mz_c29363, mz_c29364, mz_c29390, mz_c29393, mz_c29394, mz_c29398, mz_c29399, mz_c29400, mz_c29401, nI_add, pk_mul, pk_m1, mz_pp, mz_pq]; congr 1; omega)) ?_
    try simp only [mz_c0, mz_cm1]
    refine mz_V.sub (lv' := [some (.ref ω), some (.int (nI (S m0 3).2)), some (.int (nI (m0 + 1)))]) (by (repeat' apply And.intro) <;> first | with_reducible rfl | exact True.intro | (simp only [mz_cm1, mz_c0, mz_c1, mz_c2, mz_c3, mz_c4, mz_c5, mz_c6, mz_c7, mz_c8, mz_c10, mz_c17, mz_c20, mz_c28, mz_c58, mz_c63, mz_c98, mz_c294, mz_c526, mz_c532, mz_c540, mz_c999, mz_c1900, mz_c2403, mz_c29362, mz_c29363, mz_c29364, mz_c29390, mz_c29393, mz_c29394, mz_c29398, mz_c29399, mz_c29400, mz_c29401, nI_add, pk_mul, pk_m1, mz_pp, mz_pq]; done) | rfl) ?_
    rw [← eS]
    rw [← eS, ← eR] at hM3
    rw [← eR] at hu3
    exact ih (m0 + 1) G3 O3 sz3 u3 (by omega) hM3 hF3 hu3
theorem cf_set1 {P : Option Value → mz_G → Nat → Prop} {p : Program} {e : Env} {s : State} {m : MethodId} {args : Array Value} {below : List Frame} {meth : Method} {c : Code} (hC : mz_C E p s m args meth c cX5_settle yX5_settle.cls 4) (T0 T : Nat) (Q : Nat → Nat → Int32) (L : Nat → Nat → Nat → Nat) (hc : ∀ m, m ≤ 4 → mr_cL (L m)) (hmo : ∀ m, m < 4 → mr_Ph (L (m + 1)) ≤ mr_Ph (L m)) (hst : ∀ m, m < 4 → (∀ k, k < mx_nD (Q m) m → mr_gI (mx_pb (Q m) m k).1 m k) ∧ Q (m + 1) = mx_pB (Q m) m ∧ L (m + 1) = mr_pL (Q m) m (L m) (mx_nD (Q m) m)) (hle : ∀ m, m ≤ 4 → T ≤ T0 + mr_Ph (L m)) {G0 : mz_G} {O0 : Nat → Nat} {sz0 : Nat} (hK : ∀ (G : mz_G) (O : Nat → Nat) (sz u : Nat), mr_M G O sz ω B sv (mz_u1 F 0 (Q 4)) (mz_u1 Λ 0 (L 4)) v1 v2 → mt_F (mr_ZZ ω) G0 G O0 O sz0 sz → u + mr_Ph (L 4) = T → mz_V E p l e (mz_rm 10 T0 T0) s m args below meth c 4 (u) (u) (mz_Z E below args s T0 T0 P) (G) (sz) (34) [some (.ref ω)] []) : ∀ (d m0 : Nat) (G : mz_G) (O : Nat → Nat) (sz u : Nat), m0 + d = 4 → mr_M G O sz ω B sv (mz_u1 F 0 (Q m0)) (mz_u1 Λ 0 (L m0)) v1 v2 → mt_F (mr_ZZ ω) G0 G O0 O sz0 sz → u + mr_Ph (L m0) = T → mz_V E p l e (mz_rm 10 T0 T0) s m args below meth c 4 (u) (u) (mz_Z E below args s T0 T0 P) (G) (sz) (6) [some (.ref ω), some (.int (nI m0))] [] := by
  intro d
  induction d with
  | zero =>
    intro m0 G O sz u hb hM hF hu
    obtain rfl : m0 = 4 := by omega
    refine mz_sn_ok hC tk_X5_settle pk_RX5 2 [] rfl (by (repeat' apply And.intro) <;> first | exact True.intro | assumption | (simp only [mz_cm1, mz_c0, mz_c1, mz_c2, mz_c3, mz_c4, mz_c5, mz_c6, mz_c7, mz_c8, mz_c10, mz_c17, mz_c20, mz_c28, mz_c58, mz_c63, mz_c98, mz_c294, mz_c526, mz_c532, mz_c540, mz_c999, mz_c1900, mz_c2403, mz_c29362, mz_c29363, mz_c29364, mz_c29390, mz_c29393, mz_c29394, mz_c29398, mz_c29399, mz_c29400, mz_c29401, nI_add, pk_mul, pk_m1, mz_pp, mz_pq]; done) | omega | (simp only [mz_cm1, mz_c0, mz_c1, mz_c2, mz_c3, mz_c4, mz_c5, mz_c6, mz_c7, mz_c8, mz_c10, mz_c17, mz_c20, mz_c28, mz_c58, mz_c63, mz_c98, mz_c294, mz_c526, mz_c532, mz_c540, mz_c999, mz_c1900, mz_c2403, mz_c29362, mz_c29363, mz_c29364, mz_c29390, mz_c29393, mz_c29394, mz_c29398, mz_c29399, mz_c29400, mz_c29401, nI_add, pk_mul, pk_m1, mz_pp, mz_pq]; congr 1; omega)) ?_
    try simp only [mz_c0, mz_cm1]
    refine mz_br_t hC tk_X5_settle rfl ((by show nI 4 ≤ nI 4; exact nI_le (by omega) (by omega))) ?_
    refine mz_V.sub (lv' := [some (.ref ω)]) (by (repeat' apply And.intro) <;> first | with_reducible rfl | exact True.intro | (simp only [mz_cm1, mz_c0, mz_c1, mz_c2, mz_c3, mz_c4, mz_c5, mz_c6, mz_c7, mz_c8, mz_c10, mz_c17, mz_c20, mz_c28, mz_c58, mz_c63, mz_c98, mz_c294, mz_c526, mz_c532, mz_c540, mz_c999, mz_c1900, mz_c2403, mz_c29362, mz_c29363, mz_c29364, mz_c29390, mz_c29393, mz_c29394, mz_c29398, mz_c29399, mz_c29400, mz_c29401, nI_add, pk_mul, pk_m1, mz_pp, mz_pq]; done) | rfl) ?_
    exact hK G O sz u hM hF hu
  | succ d ih =>
    intro m0 G O sz u hb hM hF hu
    have hm : m0 < 4 := by omega
    obtain ⟨hP, eQ, eL⟩ := hst m0 hm
    obtain ⟨⟨⟨⟨⟨kω, oω, zω⟩, rω0, rω1, rω3, rω4⟩, -, -⟩, -, -⟩, ⟨hd1, hd2⟩, hst0, -⟩ := id hM
    have hw0 := hd2 0 (by omega)
    have hS0 := hst0 0 (by omega)
    rw [mz_u1_s, mz_u1_s] at hS0
    obtain ⟨⟨⟨⟨⟨kσ, oσ, zσ⟩, iσ4⟩, rσ0, rσ1, rσ2, rσ3⟩, -, ⟨⟨⟨kκ, oκ, zκ⟩, nκ⟩, hrκ⟩⟩, -⟩ := id hS0
    have rκ := hrκ m0 hm
    have hl1 := hle (m0 + 1) (by omega)
    have hmo1 := hmo m0 hm
    obtain ⟨U2, hU2⟩ : ∃ U2, U2 = mr_Ph (L m0) - mr_Ph (L (m0 + 1)) := ⟨_, rfl⟩
    refine mz_sn_ok hC tk_X5_settle pk_RX5 2 [] rfl (by (repeat' apply And.intro) <;> first | exact True.intro | assumption | (simp only [mz_cm1, mz_c0, mz_c1, mz_c2, mz_c3, mz_c4, mz_c5, mz_c6, mz_c7, mz_c8, mz_c10, mz_c17, mz_c20, mz_c28, mz_c58, mz_c63, mz_c98, mz_c294, mz_c526, mz_c532, mz_c540, mz_c999, mz_c1900, mz_c2403, mz_c29362, mz_c29363, mz_c29364, mz_c29390, mz_c29393, mz_c29394, mz_c29398, mz_c29399, mz_c29400, mz_c29401, nI_add, pk_mul, pk_m1, mz_pp, mz_pq]; done) | omega | (simp only [mz_cm1, mz_c0, mz_c1, mz_c2, mz_c3, mz_c4, mz_c5, mz_c6, mz_c7, mz_c8, mz_c10, mz_c17, mz_c20, mz_c28, mz_c58, mz_c63, mz_c98, mz_c294, mz_c526, mz_c532, mz_c540, mz_c999, mz_c1900, mz_c2403, mz_c29362, mz_c29363, mz_c29364, mz_c29390, mz_c29393, mz_c29394, mz_c29398, mz_c29399, mz_c29400, mz_c29401, nI_add, pk_mul, pk_m1, mz_pp, mz_pq]; congr 1; omega)) ?_
    try simp only [mz_c0, mz_cm1]
    refine mz_br_f hC tk_X5_settle rfl ((by show ¬ nI 4 ≤ nI m0; exact nI_ge (by omega) (by omega))) ?_
    refine mz_sn_ok hC tk_X5_settle pk_RX5 7 [B 0, B 0, B 0 + 2, m0, B 0 + 21 + 13 * m0] rfl (by (repeat' apply And.intro) <;> first | exact True.intro | assumption | (simp only [mz_cm1, mz_c0, mz_c1, mz_c2, mz_c3, mz_c4, mz_c5, mz_c6, mz_c7, mz_c8, mz_c10, mz_c17, mz_c20, mz_c28, mz_c58, mz_c63, mz_c98, mz_c294, mz_c526, mz_c532, mz_c540, mz_c999, mz_c1900, mz_c2403, mz_c29362, mz_c29363, mz_c29364, mz_c29390, mz_c29393, mz_c29394, mz_c29398, mz_c29399, mz_c29400, mz_c29401, nI_add, pk_mul, pk_m1, mz_pp, mz_pq]; done) | omega | (simp only [mz_cm1, mz_c0, mz_c1, mz_c2, mz_c3, mz_c4, mz_c5, mz_c6, mz_c7, mz_c8, mz_c10, mz_c17, mz_c20, mz_c28, mz_c58, mz_c63, mz_c98, mz_c294, mz_c526, mz_c532, mz_c540, mz_c999, mz_c1900, mz_c2403, mz_c29362, mz_c29363, mz_c29364, mz_c29390, mz_c29393, mz_c29394, mz_c29398, mz_c29399, mz_c29400, mz_c29401, nI_add, pk_mul, pk_m1, mz_pp, mz_pq]; congr 1; omega)) ?_
    try simp only [mz_c0, mz_cm1]
    refine mz_Vcv hC tk_X5_settle rfl md_X3_playDeeds lk_RX5_212 rfl (cs_playDeeds l E hS0 m0 _ hm rfl hP U2 (by rw [hU2, eL])) (by show (vwCl[mz_K _ _]?).map _ = _; rw [kσ]; rfl) ⟨Nat.le_of_ble_eq_true rfl, Nat.le_of_ble_eq_true rfl⟩ ⟨by simp only [mz_rm]; omega, by simp only [mz_rm]; omega⟩ (Nat.le_of_ble_eq_true rfl) (fun v2 G2 sz2 hp2 => ?_)
    obtain ⟨rfl, O2, hS2, hF2⟩ := hp2
    have hM2 := hM.st (i := 0) (by omega) hF2 hS2
    rw [mz_u1_2, mz_u1_2, ← eQ, ← eL] at hM2
    have hFF := hF.tr (hF2.mono (Y := mr_ZZ ω) (fun q z => by unfold mr_Z at z; unfold mr_ZZ; omega))
    refine mz_sn_ok hC tk_X5_settle pk_RX5 3 [] rfl (by (repeat' apply And.intro) <;> first | exact True.intro | assumption | (simp only [mz_cm1, mz_c0, mz_c1, mz_c2, mz_c3, mz_c4, mz_c5, mz_c6, mz_c7, mz_c8, mz_c10, mz_c17, mz_c20, mz_c28, mz_c58, mz_c63, mz_c98, mz_c294, mz_c526, mz_c532, mz_c540, mz_c999, mz_c1900, mz_c2403, mz_c29362, mz_c29363, mz_c29364, mz_c29390, mz_c29393, mz_c29394, mz_c29398, mz_c29399, mz_c29400, mz_c29401, nI_add, pk_mul, pk_m1, mz_pp, mz_pq]; done) | omega | (simp only [mz_cm1, mz_c0, mz_c1, mz_c2, mz_c3, mz_c4, mz_c5, mz_c6, mz_c7, mz_c8, mz_c10, mz_c17, mz_c20, mz_c28, mz_c58, mz_c63, mz_c98, mz_c294, mz_c526, mz_c532, mz_c540, mz_c999, mz_c1900, mz_c2403, mz_c29362, mz_c29363, mz_c29364, mz_c29390, mz_c29393, mz_c29394, mz_c29398, mz_c29399, mz_c29400, mz_c29401, nI_add, pk_mul, pk_m1, mz_pp, mz_pq]; congr 1; omega)) ?_
    try simp only [mz_c0, mz_cm1]
    refine mz_V.widen (k' := u + U2) (n' := u + U2) (by omega) (by omega) ?_
    refine mz_V.sub (lv' := [some (.ref ω), some (.int (nI (m0 + 1)))]) (by (repeat' apply And.intro) <;> first | with_reducible rfl | exact True.intro | (simp only [mz_cm1, mz_c0, mz_c1, mz_c2, mz_c3, mz_c4, mz_c5, mz_c6, mz_c7, mz_c8, mz_c10, mz_c17, mz_c20, mz_c28, mz_c58, mz_c63, mz_c98, mz_c294, mz_c526, mz_c532, mz_c540, mz_c999, mz_c1900, mz_c2403, mz_c29362, mz_c29363, mz_c29364, mz_c29390, mz_c29393, mz_c29394, mz_c29398, mz_c29399, mz_c29400, mz_c29401, nI_add, pk_mul, pk_m1, mz_pp, mz_pq]; done) | rfl) ?_
    exact ih (m0 + 1) G2 O2 sz2 (u + U2) (by omega) hM2 hFF (by omega)
theorem cf_settle (hM : mr_M G O sz ω B sv F Λ v1 v2) (U U2 : Nat) (hU : U + mr_Pt (mr_kL sv F Λ) = mr_Pt Λ) {Q : Nat → Nat → Int32} {L : Nat → Nat → Nat → Nat} {S : Nat → Nat → (Nat → Int32) × Nat} {R : Nat → Nat → Nat → Nat → Nat} (hSe : mr_Se (F 0) (Λ 0) Q L S R) (hU2 : U2 + mr_Ph (R 4 0) = mr_Ph (Λ 0)) : mz_M l E yX5_settle cX5_settle 4 (some .int) 10 (U + U2) (U + U2) [.ref ω] G sz (fun v' G' sz' => v' = some (.int (nI (S 4 0).2)) ∧ mr_Q G O sz ω B sv F Λ v1 v2 (S 4 0).1 (R 4 0) G' sz') := by
  have kω := hM.1.1.1.1.1
  have hcL := (hM.2.2.1 0 (by omega)).cL
  obtain ⟨lc, lm, rc, rm⟩ := hSe.lo hcL
  obtain ⟨⟨h0, h1, hm⟩, s0, r0, hs⟩ := hSe
  have R0 : ∀ m, m < 4 → mr_Ph (R (m + 1) 0) ≤ mr_Ph (R m 3) := fun m h => by rw [(hs m h).2.1]; exact Nat.le_refl _
  have z1 := R0 0 (by omega); have z2 := R0 1 (by omega); have z3 := R0 2 (by omega); have z4 := R0 3 (by omega)
  have w1 := rm 0 0 (by omega) (by omega); have w2 := rm 0 1 (by omega) (by omega); have w3 := rm 0 2 (by omega) (by omega)
  have w4 := rm 1 0 (by omega) (by omega); have w5 := rm 1 1 (by omega) (by omega); have w6 := rm 1 2 (by omega) (by omega)
  have w7 := rm 2 0 (by omega) (by omega); have w8 := rm 2 1 (by omega) (by omega); have w9 := rm 2 2 (by omega) (by omega)
  have wa := rm 3 0 (by omega) (by omega); have wb := rm 3 1 (by omega) (by omega); have wc := rm 3 2 (by omega) (by omega)
  have y1 := lm 0 (by omega); have y2 := lm 1 (by omega); have y3 := lm 2 (by omega); have y4 := lm 3 (by omega)
  have hr0 : mr_Ph (R 0 0) = mr_Ph (L 4) := by rw [r0]
  have hl0 : mr_Ph (L 0) = mr_Ph (Λ 0) := by rw [h1]
  simp only [Nat.zero_add, Nat.reduceAdd] at z1 z2 z3 z4 w1 w2 w3 w4 w5 w6 w7 w8 w9 wa wb wc y1 y2 y3 y4
  have hleR : ∀ m, m < 4 → ∀ b, b ≤ 3 → U + mr_Ph (Λ 0) ≤ (U + U2) + mr_Ph (R m b) := by
    intro m h4 b hb
    have : mr_Ph (R 4 0) ≤ mr_Ph (R m b) := by
      rcases (show m = 0 ∨ m = 1 ∨ m = 2 ∨ m = 3 by omega) with rfl | rfl | rfl | rfl <;> rcases (show b = 0 ∨ b = 1 ∨ b = 2 ∨ b = 3 by omega) with rfl | rfl | rfl | rfl <;> omega
    omega
  have hleL : ∀ m, m ≤ 4 → U + mr_Ph (Λ 0) ≤ (U + U2) + mr_Ph (L m) := by
    intro m h4
    have : mr_Ph (R 4 0) ≤ mr_Ph (L m) := by
      rcases (show m = 0 ∨ m = 1 ∨ m = 2 ∨ m = 3 ∨ m = 4 by omega) with rfl | rfl | rfl | rfl | rfl <;> omega
    omega
  clear z1 z2 z3 z4 w1 w2 w3 w4 w5 w6 w7 w8 w9 wa wb wc y1 y2 y3 y4
  refine mz_start (by decide) (Nat.le_of_ble_eq_true rfl) ?_
  intro p e s m args below meth c hC hret hnm
  refine mz_sn_ok hC tk_X5_settle pk_RX5 1 [] rfl (by (repeat' apply And.intro) <;> first | exact True.intro | assumption | (simp only [mz_cm1, mz_c0, mz_c1, mz_c2, mz_c3, mz_c4, mz_c5, mz_c6, mz_c7, mz_c8, mz_c10, mz_c17, mz_c20, mz_c28, mz_c58, mz_c63, mz_c98, mz_c294, mz_c526, mz_c532, mz_c540, mz_c999, mz_c1900, mz_c2403, mz_c29362, mz_c29363, mz_c29364, mz_c29390, mz_c29393, mz_c29394, mz_c29398, mz_c29399, mz_c29400, mz_c29401, nI_add, pk_mul, pk_m1, mz_pp, mz_pq]; done) | omega | (simp only [mz_cm1, mz_c0, mz_c1, mz_c2, mz_c3, mz_c4, mz_c5, mz_c6, mz_c7, mz_c8, mz_c10, mz_c17, mz_c20, mz_c28, mz_c58, mz_c63, mz_c98, mz_c294, mz_c526, mz_c532, mz_c540, mz_c999, mz_c1900, mz_c2403, mz_c29362, mz_c29363, mz_c29364, mz_c29390, mz_c29393, mz_c29394, mz_c29398, mz_c29399, mz_c29400, mz_c29401, nI_add, pk_mul, pk_m1, mz_pp, mz_pq]; congr 1; omega)) ?_
  try simp only [mz_c0, mz_cm1]
  refine mz_Vcv hC tk_X5_settle rfl md_X5_keepRecord lk_RX5_49 rfl (cf_keep l E hM U hU) (by show (vwCl[mz_K _ _]?).map _ = _; rw [kω]; rfl) ⟨Nat.le_of_ble_eq_true rfl, Nat.le_of_ble_eq_true rfl⟩ ⟨by simp only [mz_rm]; omega, by simp only [mz_rm]; omega⟩ (Nat.le_of_ble_eq_true rfl) (fun v1 G1 sz1 hp1 => ?_)
  obtain ⟨rfl, O1, hM1, hF1⟩ := hp1
  have e1 : mz_u1 (mr_kF sv F) 0 (Q 0) = mr_kF sv F := by rw [h0, ← mr_kF_0 sv F, mz_u1_id]
  have e2 : mz_u1 (mr_kL sv F Λ) 0 (L 0) = mr_kL sv F Λ := by rw [h1, ← mr_kL_0 sv F Λ, mz_u1_id]
  refine mz_sn_ok hC tk_X5_settle pk_RX5 2 [] rfl (by (repeat' apply And.intro) <;> first | exact True.intro | assumption | (simp only [mz_cm1, mz_c0, mz_c1, mz_c2, mz_c3, mz_c4, mz_c5, mz_c6, mz_c7, mz_c8, mz_c10, mz_c17, mz_c20, mz_c28, mz_c58, mz_c63, mz_c98, mz_c294, mz_c526, mz_c532, mz_c540, mz_c999, mz_c1900, mz_c2403, mz_c29362, mz_c29363, mz_c29364, mz_c29390, mz_c29393, mz_c29394, mz_c29398, mz_c29399, mz_c29400, mz_c29401, nI_add, pk_mul, pk_m1, mz_pp, mz_pq]; done) | omega | (simp only [mz_cm1, mz_c0, mz_c1, mz_c2, mz_c3, mz_c4, mz_c5, mz_c6, mz_c7, mz_c8, mz_c10, mz_c17, mz_c20, mz_c28, mz_c58, mz_c63, mz_c98, mz_c294, mz_c526, mz_c532, mz_c540, mz_c999, mz_c1900, mz_c2403, mz_c29362, mz_c29363, mz_c29364, mz_c29390, mz_c29393, mz_c29394, mz_c29398, mz_c29399, mz_c29400, mz_c29401, nI_add, pk_mul, pk_m1, mz_pp, mz_pq]; congr 1; omega)) ?_
  try simp only [mz_c0, mz_cm1]
  refine mz_V.widen (k' := U) (n' := U) (by omega) (by omega) ?_
  refine cf_set1 (F := mr_kF sv F) (Λ := mr_kL sv F Λ) l E hC (U + U2) (U + mr_Ph (Λ 0)) Q L lc lm hm hleL ?_ 4 0 G1 O1 sz1 U (by omega) (by rw [e1, e2]; exact hM1) hF1 (by rw [hl0])
  intro G2 O2 sz2 u2 hM2 hF2 hu2
  refine mz_sn_ok hC tk_X5_settle pk_RX5 4 [] rfl (by (repeat' apply And.intro) <;> first | exact True.intro | assumption | (simp only [mz_cm1, mz_c0, mz_c1, mz_c2, mz_c3, mz_c4, mz_c5, mz_c6, mz_c7, mz_c8, mz_c10, mz_c17, mz_c20, mz_c28, mz_c58, mz_c63, mz_c98, mz_c294, mz_c526, mz_c532, mz_c540, mz_c999, mz_c1900, mz_c2403, mz_c29362, mz_c29363, mz_c29364, mz_c29390, mz_c29393, mz_c29394, mz_c29398, mz_c29399, mz_c29400, mz_c29401, nI_add, pk_mul, pk_m1, mz_pp, mz_pq]; done) | omega | (simp only [mz_cm1, mz_c0, mz_c1, mz_c2, mz_c3, mz_c4, mz_c5, mz_c6, mz_c7, mz_c8, mz_c10, mz_c17, mz_c20, mz_c28, mz_c58, mz_c63, mz_c98, mz_c294, mz_c526, mz_c532, mz_c540, mz_c999, mz_c1900, mz_c2403, mz_c29362, mz_c29363, mz_c29364, mz_c29390, mz_c29393, mz_c29394, mz_c29398, mz_c29399, mz_c29400, mz_c29401, nI_add, pk_mul, pk_m1, mz_pp, mz_pq]; congr 1; omega)) ?_
  try simp only [mz_c0, mz_cm1]
  have hS00 : (S 0 0).1 = Q 4 ∧ (S 0 0).2 = 0 := by rw [s0]; exact ⟨rfl, rfl⟩
  have hM3 : mr_M G2 O2 sz2 ω (mr_kr sv B) (mr_ks sv) (mz_u1 (mr_kF sv F) 0 (S 0 0).1) (mz_u1 (mr_kL sv F Λ) 0 (R 0 0)) v1 v2 := by
    rw [hS00.1, r0]; exact hM2
  refine mz_V.sub (lv' := [some (.ref ω), some (.int (nI 0)), some (.int (nI 0))]) (by (repeat' apply And.intro) <;> first | with_reducible rfl | exact True.intro | (simp only [mz_cm1, mz_c0, mz_c1, mz_c2, mz_c3, mz_c4, mz_c5, mz_c6, mz_c7, mz_c8, mz_c10, mz_c17, mz_c20, mz_c28, mz_c58, mz_c63, mz_c98, mz_c294, mz_c526, mz_c532, mz_c540, mz_c999, mz_c1900, mz_c2403, mz_c29362, mz_c29363, mz_c29364, mz_c29390, mz_c29393, mz_c29394, mz_c29398, mz_c29399, mz_c29400, mz_c29401, nI_add, pk_mul, pk_m1, mz_pp, mz_pq]; done) | rfl) ?_
  have := cf_set2 (e := e) (below := below) (F := mr_kF sv F) (Λ := mr_kL sv F Λ) l E hC hret (U + U2) (U + mr_Ph (Λ 0)) S R rc hs hleR (by omega) (P := fun v' G' sz' => v' = some (.int (nI (S 4 0).2)) ∧ mr_Q G O sz ω B sv F Λ v1 v2 (S 4 0).1 (R 4 0) G' sz') (fun G' O' sz' h1 h2 => ⟨rfl, O', h1, h2⟩) 4 0 G2 O2 sz2 u2 (by omega) hM3 hF2 (by rw [hr0]; exact hu2)
  rw [hS00.2] at this
  exact this
end MRF

