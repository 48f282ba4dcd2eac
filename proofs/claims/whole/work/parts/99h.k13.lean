/-! ===== the class: checksum ===== -/
/-- how many rows a view has -/
def mr_nV (f : Nat → Int32) (m b : Nat) : Nat := (mx_vw f m b (mx_cC f m b) (mx_nD f m) (fun _ => 0)).2
def mr_hw (f : Nat → Int32) (m b : Nat) (h : Int64) : Nat → Int64
  | 0 => h
  | w + 1 => mx_hm (mr_hw f m b h w) (mx_ct f m b w (mr_nV f m b)).toInt64
def mr_hb (f : Nat → Int32) (m b : Nat) (h : Int64) : Int64 := mx_ml f (mx_CA m b + 2) (mr_hw f m b h 4) (4 * mx_cC f m b)
def mr_ho (f : Nat → Int32) (m : Nat) (h : Int64) : Nat → Int64
  | 0 => h
  | b + 1 => mr_hb f m b (mr_ho f m h b)
def mr_hM (f : Nat → Int32) (m : Nat) (h : Int64) : Int64 := mx_ml f (294 + 58 * m + 1) (mr_ho f m (mx_hm h (f (294 + 58 * m)).toInt64) 3) (7 * mx_nD f m)
def mr_hMs (f : Nat → Int32) (h : Int64) : Nat → Int64
  | 0 => h
  | m + 1 => mr_hM f m (mr_hMs f h m)
def mr_hbs (f : Nat → Int32) (h : Int64) : Nat → Int64
  | 0 => h
  | b + 1 => mx_hB f b (mx_cB f b) (mx_gB f b) (mr_hbs f h b)
def mr_vb (f : Nat → Int32) (m v : Nat) : Nat → Nat
  | 0 => v
  | b + 1 => mt_gr 3 540 (mr_vb f m v b) (mr_nV f m b)
def mr_vM (f : Nat → Int32) (v : Nat) : Nat → Nat
  | 0 => v
  | m + 1 => mr_vb f m (mr_vM f v m) 3
theorem mr_vb_ok {f : Nat → Int32} {m v : Nat} (hv : mr_cv v) (h : ∀ b, b < 3 → mr_nV f m b ≤ 540) : ∀ b, b ≤ 3 → mr_cv (mr_vb f m v b)
  | 0, _ => hv
  | b + 1, hb => (mt_gr_cv (mr_vb_ok hv h b (by omega)) (h b (by omega))).1
theorem mr_vb_mo {f : Nat → Int32} {m v : Nat} (hv : mr_cv v) (h : ∀ b, b < 3 → mr_nV f m b ≤ 540) : ∀ d b, b + d ≤ 3 → mr_pv (mr_vb f m v (b + d)) ≤ mr_pv (mr_vb f m v b)
  | 0, b, _ => Nat.le_refl _
  | d + 1, b, hb => Nat.le_trans (mt_gr_cv (mr_vb_ok hv h (b + d) (by omega)) (h (b + d) (by omega))).2 (mr_vb_mo hv h d b (by omega))
theorem mr_vM_ok {f : Nat → Int32} {v : Nat} (hv : mr_cv v) (h : ∀ m b, m < 4 → b < 3 → mr_nV f m b ≤ 540) : ∀ m, m ≤ 4 → mr_cv (mr_vM f v m)
  | 0, _ => hv
  | m + 1, hm => mr_vb_ok (mr_vM_ok hv h m (by omega)) (h m · (by omega)) 3 (by omega)
theorem mr_vM_mo {f : Nat → Int32} {v : Nat} (hv : mr_cv v) (h : ∀ m b, m < 4 → b < 3 → mr_nV f m b ≤ 540) : ∀ d m, m + d ≤ 4 → mr_pv (mr_vM f v (m + d)) ≤ mr_pv (mr_vM f v m)
  | 0, m, _ => Nat.le_refl _
  | d + 1, m, hm => Nat.le_trans (mr_vb_mo (mr_vM_ok hv h (m + d) (by omega)) (h (m + d) · (by omega)) 3 0 (by omega)) (mr_vM_mo hv h d m (by omega))
section MRF
variable (l : Launch) (E : mz_E) {G : mz_G} {O : Nat → Nat} {sz ω : Nat} {B : Nat → Nat} {sv : Nat} {F : Nat → Nat → Int32} {Λ : Nat → Nat → Nat → Nat} {v1 v2 : Nat}
theorem mr_M.nV (hM : mr_M G O sz ω B sv F Λ v1 v2) (hcc : ∀ m b, m < 4 → b < 3 → mx_cC (F 0) m b < 532) : ∀ m b, m < 4 → b < 3 → mr_nV (F 0) m b ≤ 540 := by
  intro m b hm hb
  have h1 := mx_vw_le (F 0) m b (mx_cC (F 0) m b) (mx_nD (F 0) m) (fun _ => 0)
  have h2 := ((hM.2.2.1 0 (by omega)).2.2.2 m hm).2.1.1.b.1
  have h3 := hcc m b hm hb
  unfold mr_nV
  omega
theorem cf_mixW {P : Option Value → mz_G → Nat → Prop} {p : Program} {e : Env} {s : State} {m : MethodId} {args : Array Value} {below : List Frame} {meth : Method} {c : Code} (hC : mz_C E p s m args meth c cX5_mixMachine yX5_mixMachine.cls 8) (T0 T m0 b : Nat) (hm : m0 < 4) (hb : b < 3) (hcc : mx_cC (F 0) m0 b < 532) (hnV : mr_nV (F 0) m0 b ≤ 540) (h : Int64) (x : Value) (hM : mr_M G O sz ω B sv F Λ v1 v2) (u : Nat) (hu : u + mr_pv v1 = T) (hle : T ≤ T0 + mr_pv (mt_gr 3 540 v1 (mr_nV (F 0) m0 b))) (hK : ∀ (G' : mz_G) (O' : Nat → Nat) (sz' : Nat) (u : Nat), mr_M G' O' sz' ω B sv F Λ (mt_gr 3 540 v1 (mr_nV (F 0) m0 b)) v2 → mt_F (mr_ZZ ω) G G' O O' sz sz' → u + mr_pv (mt_gr 3 540 v1 (mr_nV (F 0) m0 b)) = T → mz_V E p l e (mz_rm 8 T0 T0) s m args below meth c 8 (u) (u) (mz_Z E below args s T0 T0 P) (G') (sz') (64) [some (.ref ω), some x, none, some (.int (nI m0)), some (.long (mr_hw (F 0) m0 b h 4)), none, some (.int (nI b))] []) : ∀ d w, w + d = 3 → mz_V E p l e (mz_rm 8 T0 T0) s m args below meth c 8 (u) (u) (mz_Z E below args s T0 T0 P) (G) (sz) (33) [some (.ref ω), some x, none, some (.int (nI m0)), some (.long (mr_hw (F 0) m0 b h w)), none, some (.int (nI b)), some (.int (nI w))] [] := by
  have kω := hM.1.1.1.1.1
  have hmo := (mt_gr_cv hM.2.2.2.1.2 hnV).2
  intro d
  induction d with
  | zero =>
    intro w hw
    obtain rfl : w = 3 := by omega
    obtain ⟨U2, hU2⟩ : ∃ U2, U2 = mr_pv v1 - mr_pv (mt_gr 3 540 v1 (mr_nV (F 0) m0 b)) := ⟨_, rfl⟩
    refine mz_sn_ok hC tk_X5_mixMachine pk_RX5 2 [] rfl (by (repeat' apply And.intro) <;> first | exact True.intro | assumption | (simp only [mz_cm1, mz_c0, mz_c1, mz_c2, mz_c3, mz_c4, mz_c5, mz_c6, mz_c7, mz_c8, mz_c10, mz_c17, mz_c20, mz_c28, mz_c58, mz_c63, mz_c98, mz_c294, mz_c526, mz_c532, mz_c540, mz_c999, mz_c1900, mz_c2403, mz_c29362, mz_c29363, mz_c29364, mz_c29390, mz_c29393, mz_c29394, mz_c29398, mz_c29399, mz_c29400, mz_c29401, nI_add, pk_mul, pk_m1, mz_pp, mz_pq]; done) | omega | (simp only [mz_cm1, mz_c0, mz_c1, mz_c2, mz_c3, mz_c4, mz_c5, mz_c6, mz_c7, mz_c8, mz_c10, mz_c17, mz_c20, mz_c28, mz_c58, mz_c63, mz_c98, mz_c294, mz_c526, mz_c532, mz_c540, mz_c999, mz_c1900, mz_c2403, mz_c29362, mz_c29363, mz_c29364, mz_c29390, mz_c29393, mz_c29394, mz_c29398, mz_c29399, mz_c29400, mz_c29401, nI_add, pk_mul, pk_m1, mz_pp, mz_pq]; congr 1; omega)) ?_
    try simp only [mz_c0, mz_cm1]
    refine mz_br_f hC tk_X5_mixMachine rfl ((by show ¬ nI 3 < nI 3; exact nI_nlt (by omega) (by omega))) ?_
    refine mz_sn_ok hC tk_X5_mixMachine pk_RX5 7 [] rfl (by (repeat' apply And.intro) <;> first | exact True.intro | assumption | (simp only [mz_cm1, mz_c0, mz_c1, mz_c2, mz_c3, mz_c4, mz_c5, mz_c6, mz_c7, mz_c8, mz_c10, mz_c17, mz_c20, mz_c28, mz_c58, mz_c63, mz_c98, mz_c294, mz_c526, mz_c532, mz_c540, mz_c999, mz_c1900, mz_c2403, mz_c29362, mz_c29363, mz_c29364, mz_c29390, mz_c29393, mz_c29394, mz_c29398, mz_c29399, mz_c29400, mz_c29401, nI_add, pk_mul, pk_m1, mz_pp, mz_pq]; done) | omega | (simp only [mz_cm1, mz_c0, mz_c1, mz_c2, mz_c3, mz_c4, mz_c5, mz_c6, mz_c7, mz_c8, mz_c10, mz_c17, mz_c20, mz_c28, mz_c58, mz_c63, mz_c98, mz_c294, mz_c526, mz_c532, mz_c540, mz_c999, mz_c1900, mz_c2403, mz_c29362, mz_c29363, mz_c29364, mz_c29390, mz_c29393, mz_c29394, mz_c29398, mz_c29399, mz_c29400, mz_c29401, nI_add, pk_mul, pk_m1, mz_pp, mz_pq]; congr 1; omega)) ?_
    try simp only [mz_c0, mz_cm1]
    refine mz_Vcv hC tk_X5_mixMachine rfl md_X5_copyOf lk_RX5_237 rfl (cf_copyOf_3 l E hM m0 hm b hb (fun _ => 0) _ rfl hcc U2 (by show _ + mr_pv (mt_gr 3 540 v1 (mr_nV (F 0) m0 b)) = _; omega)) (by show (vwCl[mz_K _ _]?).map _ = _; rw [kω]; rfl) ⟨Nat.le_of_ble_eq_true rfl, Nat.le_of_ble_eq_true rfl⟩ ⟨by simp only [mz_rm]; omega, by simp only [mz_rm]; omega⟩ (Nat.le_of_ble_eq_true rfl) (fun v2 G2 sz2 hp2 => ?_)
    obtain ⟨rfl, O2, hM2, hF2⟩ := hp2
    refine mz_sn_ok hC tk_X5_mixMachine pk_RX5 7 [] rfl (by (repeat' apply And.intro) <;> first | exact True.intro | assumption | (simp only [mz_cm1, mz_c0, mz_c1, mz_c2, mz_c3, mz_c4, mz_c5, mz_c6, mz_c7, mz_c8, mz_c10, mz_c17, mz_c20, mz_c28, mz_c58, mz_c63, mz_c98, mz_c294, mz_c526, mz_c532, mz_c540, mz_c999, mz_c1900, mz_c2403, mz_c29362, mz_c29363, mz_c29364, mz_c29390, mz_c29393, mz_c29394, mz_c29398, mz_c29399, mz_c29400, mz_c29401, nI_add, pk_mul, pk_m1, mz_pp, mz_pq]; done) | omega | (simp only [mz_cm1, mz_c0, mz_c1, mz_c2, mz_c3, mz_c4, mz_c5, mz_c6, mz_c7, mz_c8, mz_c10, mz_c17, mz_c20, mz_c28, mz_c58, mz_c63, mz_c98, mz_c294, mz_c526, mz_c532, mz_c540, mz_c999, mz_c1900, mz_c2403, mz_c29362, mz_c29363, mz_c29364, mz_c29390, mz_c29393, mz_c29394, mz_c29398, mz_c29399, mz_c29400, mz_c29401, nI_add, pk_mul, pk_m1, mz_pp, mz_pq]; congr 1; omega)) ?_
    try simp only [mz_c0, mz_cm1]
    refine mz_br_t hC tk_X5_mixMachine rfl ((by show nI 3 < nI 4; exact nI_lt (by omega) (by omega))) ?_
    refine mz_V.widen (k' := u + U2) (n' := u + U2) (by omega) (by omega) ?_
    refine mz_V.sub (lv' := [some (.ref ω), some x, none, some (.int (nI m0)), some (.long (mr_hw (F 0) m0 b h 4)), none, some (.int (nI b))]) (by (repeat' apply And.intro) <;> first | with_reducible rfl | exact True.intro | (simp only [mz_cm1, mz_c0, mz_c1, mz_c2, mz_c3, mz_c4, mz_c5, mz_c6, mz_c7, mz_c8, mz_c10, mz_c17, mz_c20, mz_c28, mz_c58, mz_c63, mz_c98, mz_c294, mz_c526, mz_c532, mz_c540, mz_c999, mz_c1900, mz_c2403, mz_c29362, mz_c29363, mz_c29364, mz_c29390, mz_c29393, mz_c29394, mz_c29398, mz_c29399, mz_c29400, mz_c29401, nI_add, pk_mul, pk_m1, mz_pp, mz_pq]; done) | rfl) ?_
    exact hK G2 O2 sz2 (u + U2) hM2 hF2 (by omega)
  | succ d ih =>
    intro w hw
    refine mz_sn_ok hC tk_X5_mixMachine pk_RX5 2 [] rfl (by (repeat' apply And.intro) <;> first | exact True.intro | assumption | (simp only [mz_cm1, mz_c0, mz_c1, mz_c2, mz_c3, mz_c4, mz_c5, mz_c6, mz_c7, mz_c8, mz_c10, mz_c17, mz_c20, mz_c28, mz_c58, mz_c63, mz_c98, mz_c294, mz_c526, mz_c532, mz_c540, mz_c999, mz_c1900, mz_c2403, mz_c29362, mz_c29363, mz_c29364, mz_c29390, mz_c29393, mz_c29394, mz_c29398, mz_c29399, mz_c29400, mz_c29401, nI_add, pk_mul, pk_m1, mz_pp, mz_pq]; done) | omega | (simp only [mz_cm1, mz_c0, mz_c1, mz_c2, mz_c3, mz_c4, mz_c5, mz_c6, mz_c7, mz_c8, mz_c10, mz_c17, mz_c20, mz_c28, mz_c58, mz_c63, mz_c98, mz_c294, mz_c526, mz_c532, mz_c540, mz_c999, mz_c1900, mz_c2403, mz_c29362, mz_c29363, mz_c29364, mz_c29390, mz_c29393, mz_c29394, mz_c29398, mz_c29399, mz_c29400, mz_c29401, nI_add, pk_mul, pk_m1, mz_pp, mz_pq]; congr 1; omega)) ?_
    try simp only [mz_c0, mz_cm1]
    refine mz_br_f hC tk_X5_mixMachine rfl ((by show ¬ nI 3 < nI w; exact nI_nlt (by omega) (by omega))) ?_
    refine mz_sn_ok hC tk_X5_mixMachine pk_RX5 7 [] rfl (by (repeat' apply And.intro) <;> first | exact True.intro | assumption | (simp only [mz_cm1, mz_c0, mz_c1, mz_c2, mz_c3, mz_c4, mz_c5, mz_c6, mz_c7, mz_c8, mz_c10, mz_c17, mz_c20, mz_c28, mz_c58, mz_c63, mz_c98, mz_c294, mz_c526, mz_c532, mz_c540, mz_c999, mz_c1900, mz_c2403, mz_c29362, mz_c29363, mz_c29364, mz_c29390, mz_c29393, mz_c29394, mz_c29398, mz_c29399, mz_c29400, mz_c29401, nI_add, pk_mul, pk_m1, mz_pp, mz_pq]; done) | omega | (simp only [mz_cm1, mz_c0, mz_c1, mz_c2, mz_c3, mz_c4, mz_c5, mz_c6, mz_c7, mz_c8, mz_c10, mz_c17, mz_c20, mz_c28, mz_c58, mz_c63, mz_c98, mz_c294, mz_c526, mz_c532, mz_c540, mz_c999, mz_c1900, mz_c2403, mz_c29362, mz_c29363, mz_c29364, mz_c29390, mz_c29393, mz_c29394, mz_c29398, mz_c29399, mz_c29400, mz_c29401, nI_add, pk_mul, pk_m1, mz_pp, mz_pq]; congr 1; omega)) ?_
    try simp only [mz_c0, mz_cm1]
    refine mz_Vcv hC tk_X5_mixMachine rfl md_X5_copyOf lk_RX5_237 rfl (cf_copyOf l E hM m0 hm b hb w (by omega)) (by show (vwCl[mz_K _ _]?).map _ = _; rw [kω]; rfl) ⟨Nat.le_of_ble_eq_true rfl, Nat.le_of_ble_eq_true rfl⟩ ⟨by simp only [mz_rm]; omega, by simp only [mz_rm]; omega⟩ (Nat.le_of_ble_eq_true rfl) (fun v9 G9 sz9 hp9 => ?_)
    obtain ⟨rfl, hG9, hs9⟩ := hp9
    rw [hG9, ← hs9]
    refine mz_sn_ok hC tk_X5_mixMachine pk_RX5 5 [] rfl (by (repeat' apply And.intro) <;> first | exact True.intro | assumption | (simp only [mz_cm1, mz_c0, mz_c1, mz_c2, mz_c3, mz_c4, mz_c5, mz_c6, mz_c7, mz_c8, mz_c10, mz_c17, mz_c20, mz_c28, mz_c58, mz_c63, mz_c98, mz_c294, mz_c526, mz_c532, mz_c540, mz_c999, mz_c1900, mz_c2403, mz_c29362, mz_c29363, mz_c29364, mz_c29390, mz_c29393, mz_c29394, mz_c29398, mz_c29399, mz_c29400, mz_c29401, nI_add, pk_mul, pk_m1, mz_pp, mz_pq]; done) | omega | (simp only [mz_cm1, mz_c0, mz_c1, mz_c2, mz_c3, mz_c4, mz_c5, mz_c6, mz_c7, mz_c8, mz_c10, mz_c17, mz_c20, mz_c28, mz_c58, mz_c63, mz_c98, mz_c294, mz_c526, mz_c532, mz_c540, mz_c999, mz_c1900, mz_c2403, mz_c29362, mz_c29363, mz_c29364, mz_c29390, mz_c29393, mz_c29394, mz_c29398, mz_c29399, mz_c29400, mz_c29401, nI_add, pk_mul, pk_m1, mz_pp, mz_pq]; congr 1; omega)) ?_
    try simp only [mz_c0, mz_cm1]
    have e1 : mx_ct (F 0) m0 b w (mr_nV (F 0) m0 b) = F 0 (mx_CA m0 b + w) := by
      unfold mx_ct
      by_cases h2 : w < 2
      · rw [if_pos h2]
      · rw [if_neg h2, if_pos (show w = 2 by omega), show w = 2 by omega]
    have e2 : mr_hw (F 0) m0 b h (w + 1) = mx_hm (mr_hw (F 0) m0 b h w) (F 0 (mx_CA m0 b + w)).toInt64 := by
      show mx_hm _ (mx_ct (F 0) m0 b w (mr_nV (F 0) m0 b)).toInt64 = _
      rw [e1]
    have := ih (w + 1) (by omega)
    rw [e2] at this
    refine mz_V.sub (lv' := [some (.ref ω), some x, none, some (.int (nI m0)), some (.long (mx_hm (mr_hw (F 0) m0 b h w) (F 0 (mx_CA m0 b + w)).toInt64)), none, some (.int (nI b)), some (.int (nI (w + 1)))]) (by (repeat' apply And.intro) <;> first | with_reducible rfl | exact True.intro | (simp only [mz_cm1, mz_c0, mz_c1, mz_c2, mz_c3, mz_c4, mz_c5, mz_c6, mz_c7, mz_c8, mz_c10, mz_c17, mz_c20, mz_c28, mz_c58, mz_c63, mz_c98, mz_c294, mz_c526, mz_c532, mz_c540, mz_c999, mz_c1900, mz_c2403, mz_c29362, mz_c29363, mz_c29364, mz_c29390, mz_c29393, mz_c29394, mz_c29398, mz_c29399, mz_c29400, mz_c29401, nI_add, pk_mul, pk_m1, mz_pp, mz_pq]; done) | rfl) ?_
    exact this
theorem cf_mixB {P : Option Value → mz_G → Nat → Prop} {p : Program} {e : Env} {s : State} {m : MethodId} {args : Array Value} {below : List Frame} {meth : Method} {c : Code} (hC : mz_C E p s m args meth c cX5_mixMachine yX5_mixMachine.cls 8) (hret : meth.sig.returnType = some .long) (T0 T m0 : Nat) (hm : m0 < 4) (hcc : ∀ b, b < 3 → mx_cC (F 0) m0 b < 532) (hnV : ∀ b, b < 3 → mr_nV (F 0) m0 b ≤ 540) (h : Int64) (x : Value) (hv1 : mr_cv v1) {G0 : mz_G} {O0 : Nat → Nat} {sz0 : Nat} (hT : T0 + mr_pv (mr_vb (F 0) m0 v1 3) = T) (hP : ∀ (G : mz_G) (O : Nat → Nat) (sz : Nat), mr_M G O sz ω B sv F Λ (mr_vb (F 0) m0 v1 3) v2 → mt_F (mr_ZZ ω) G0 G O0 O sz0 sz → P (some (.long (mx_ml (F 0) (294 + 58 * m0 + 1) (mr_ho (F 0) m0 h 3) (7 * mx_nD (F 0) m0)))) G sz) : ∀ (d b : Nat) (G : mz_G) (O : Nat → Nat) (sz u : Nat), b + d = 3 → mr_M G O sz ω B sv F Λ (mr_vb (F 0) m0 v1 b) v2 → mt_F (mr_ZZ ω) G0 G O0 O sz0 sz → u + mr_pv (mr_vb (F 0) m0 v1 b) = T → mz_V E p l e (mz_rm 8 T0 T0) s m args below meth c 8 (u) (u) (mz_Z E below args s T0 T0 P) (G) (sz) (24) [some (.ref ω), some x, none, some (.int (nI m0)), some (.long (mr_ho (F 0) m0 h b)), none, some (.int (nI b))] [] := by
  intro d
  induction d with
  | zero =>
    intro b G O sz u hb hM hF hu
    obtain rfl : b = 3 := by omega
    obtain ⟨⟨⟨⟨⟨kω, oω, zω⟩, rω0, rω1, rω3, rω4⟩, iω2, sv4⟩, ⟨⟨kA, oA, zA⟩, nA⟩, hrA⟩, ⟨hd1, hd2⟩, hst, ⟨⟨vn1, vh1, vt1⟩, vc1⟩, ⟨vn2, vh2, vt2⟩, vc2⟩ := id hM
    have hS0 := hst 0 (by omega)
    obtain ⟨⟨⟨⟨⟨kσ, oσ, zσ⟩, iσ4⟩, rσ0, rσ1, rσ2, rσ3⟩, ⟨⟨⟨kβ, oβ, zβ⟩, nβ⟩, hrβ⟩, ⟨⟨⟨kκ, oκ, zκ⟩, nκ⟩, hrκ⟩⟩, ⟨⟨tq, hq⟩, ⟨⟨k5, o5, z5⟩, n5⟩, hw5⟩, hbx, hmc⟩ := id hS0
    have rκ := hrκ m0 hm
    obtain ⟨⟨⟨⟨kk, ok, zk⟩, ik0, rk1, rk2⟩, ⟨kka, oka, nka, zka⟩, hra⟩, ⟨td, hnD⟩, hcp⟩ := id (hmc m0 hm)
    have ktd := td.K
    have std := td.s
    have n8 := td.b.1
    refine mz_sn_ok hC tk_X5_mixMachine pk_RX5 2 [] rfl (by (repeat' apply And.intro) <;> first | exact True.intro | assumption | (simp only [mz_cm1, mz_c0, mz_c1, mz_c2, mz_c3, mz_c4, mz_c5, mz_c6, mz_c7, mz_c8, mz_c10, mz_c17, mz_c20, mz_c28, mz_c58, mz_c63, mz_c98, mz_c294, mz_c526, mz_c532, mz_c540, mz_c999, mz_c1900, mz_c2403, mz_c29362, mz_c29363, mz_c29364, mz_c29390, mz_c29393, mz_c29394, mz_c29398, mz_c29399, mz_c29400, mz_c29401, nI_add, pk_mul, pk_m1, mz_pp, mz_pq]; done) | omega | (simp only [mz_cm1, mz_c0, mz_c1, mz_c2, mz_c3, mz_c4, mz_c5, mz_c6, mz_c7, mz_c8, mz_c10, mz_c17, mz_c20, mz_c28, mz_c58, mz_c63, mz_c98, mz_c294, mz_c526, mz_c532, mz_c540, mz_c999, mz_c1900, mz_c2403, mz_c29362, mz_c29363, mz_c29364, mz_c29390, mz_c29393, mz_c29394, mz_c29398, mz_c29399, mz_c29400, mz_c29401, nI_add, pk_mul, pk_m1, mz_pp, mz_pq]; congr 1; omega)) ?_
    try simp only [mz_c0, mz_cm1]
    refine mz_br_t hC tk_X5_mixMachine rfl ((by show nI 3 ≤ nI 3; exact nI_le (by omega) (by omega))) ?_
    refine mz_sn_ok hC tk_X5_mixMachine pk_RX5 7 [B 0, B 0 + 2, m0, B 0 + 21 + 13 * m0, B 0 + 21 + 13 * m0 + 2] rfl (by (repeat' apply And.intro) <;> first | exact True.intro | assumption | (simp only [mz_cm1, mz_c0, mz_c1, mz_c2, mz_c3, mz_c4, mz_c5, mz_c6, mz_c7, mz_c8, mz_c10, mz_c17, mz_c20, mz_c28, mz_c58, mz_c63, mz_c98, mz_c294, mz_c526, mz_c532, mz_c540, mz_c999, mz_c1900, mz_c2403, mz_c29362, mz_c29363, mz_c29364, mz_c29390, mz_c29393, mz_c29394, mz_c29398, mz_c29399, mz_c29400, mz_c29401, nI_add, pk_mul, pk_m1, mz_pp, mz_pq]; done) | omega | (simp only [mz_cm1, mz_c0, mz_c1, mz_c2, mz_c3, mz_c4, mz_c5, mz_c6, mz_c7, mz_c8, mz_c10, mz_c17, mz_c20, mz_c28, mz_c58, mz_c63, mz_c98, mz_c294, mz_c526, mz_c532, mz_c540, mz_c999, mz_c1900, mz_c2403, mz_c29362, mz_c29363, mz_c29364, mz_c29390, mz_c29393, mz_c29394, mz_c29398, mz_c29399, mz_c29400, mz_c29401, nI_add, pk_mul, pk_m1, mz_pp, mz_pq]; congr 1; omega)) ?_
    try simp only [mz_c0, mz_cm1]
    refine mz_Vcv hC tk_X5_mixMachine rfl md_X4_mixInto lk_RX5_240 rfl (ct_mixInto l E td (mr_ho (F 0) m0 h 3) (F 0) (294 + 58 * m0 + 1) (fun k j _ _ => by show F 0 _ = F 0 _; congr 1; omega)) (by show (vwCl[mz_K _ _]?).map _ = _; rw [ktd]; rfl) ⟨Nat.le_of_ble_eq_true rfl, Nat.le_of_ble_eq_true rfl⟩ ⟨by simp only [mz_rm]; omega, by simp only [mz_rm]; omega⟩ (Nat.le_of_ble_eq_true rfl) (fun v9 G9 sz9 hp9 => ?_)
    obtain ⟨rfl, hG9, hs9⟩ := hp9
    rw [hG9, ← hs9]
    refine mz_Vlreturn hC tk_X5_mixMachine rfl hret (by omega) (by omega) ?_
    rw [Nat.mul_comm (mx_nD (F 0) m0) 7]
    exact hP G O sz hM hF
  | succ d ih =>
    intro b G O sz u hb3 hM hF hu
    have hb : b < 3 := by omega
    have hle := mr_vb_mo hv1 hnV (3 - (b + 1)) (b + 1) (by omega)
    rw [show b + 1 + (3 - (b + 1)) = 3 by omega] at hle
    refine mz_sn_ok hC tk_X5_mixMachine pk_RX5 2 [] rfl (by (repeat' apply And.intro) <;> first | exact True.intro | assumption | (simp only [mz_cm1, mz_c0, mz_c1, mz_c2, mz_c3, mz_c4, mz_c5, mz_c6, mz_c7, mz_c8, mz_c10, mz_c17, mz_c20, mz_c28, mz_c58, mz_c63, mz_c98, mz_c294, mz_c526, mz_c532, mz_c540, mz_c999, mz_c1900, mz_c2403, mz_c29362, mz_c29363, mz_c29364, mz_c29390, mz_c29393, mz_c29394, mz_c29398, mz_c29399, mz_c29400, mz_c29401, nI_add, pk_mul, pk_m1, mz_pp, mz_pq]; done) | omega | (simp only [mz_cm1, mz_c0, mz_c1, mz_c2, mz_c3, mz_c4, mz_c5, mz_c6, mz_c7, mz_c8, mz_c10, mz_c17, mz_c20, mz_c28, mz_c58, mz_c63, mz_c98, mz_c294, mz_c526, mz_c532, mz_c540, mz_c999, mz_c1900, mz_c2403, mz_c29362, mz_c29363, mz_c29364, mz_c29390, mz_c29393, mz_c29394, mz_c29398, mz_c29399, mz_c29400, mz_c29401, nI_add, pk_mul, pk_m1, mz_pp, mz_pq]; congr 1; omega)) ?_
    try simp only [mz_c0, mz_cm1]
    refine mz_br_f hC tk_X5_mixMachine rfl ((by show ¬ nI 3 ≤ nI b; exact nI_ge (by omega) (by omega))) ?_
    refine mz_sn_ok hC tk_X5_mixMachine pk_RX5 2 [] rfl (by (repeat' apply And.intro) <;> first | exact True.intro | assumption | (simp only [mz_cm1, mz_c0, mz_c1, mz_c2, mz_c3, mz_c4, mz_c5, mz_c6, mz_c7, mz_c8, mz_c10, mz_c17, mz_c20, mz_c28, mz_c58, mz_c63, mz_c98, mz_c294, mz_c526, mz_c532, mz_c540, mz_c999, mz_c1900, mz_c2403, mz_c29362, mz_c29363, mz_c29364, mz_c29390, mz_c29393, mz_c29394, mz_c29398, mz_c29399, mz_c29400, mz_c29401, nI_add, pk_mul, pk_m1, mz_pp, mz_pq]; done) | omega | (simp only [mz_cm1, mz_c0, mz_c1, mz_c2, mz_c3, mz_c4, mz_c5, mz_c6, mz_c7, mz_c8, mz_c10, mz_c17, mz_c20, mz_c28, mz_c58, mz_c63, mz_c98, mz_c294, mz_c526, mz_c532, mz_c540, mz_c999, mz_c1900, mz_c2403, mz_c29362, mz_c29363, mz_c29364, mz_c29390, mz_c29393, mz_c29394, mz_c29398, mz_c29399, mz_c29400, mz_c29401, nI_add, pk_mul, pk_m1, mz_pp, mz_pq]; congr 1; omega)) ?_
    try simp only [mz_c0, mz_cm1]
    refine cf_mixW l E hC T0 T m0 b hm hb (hcc b hb) (hnV b hb) (mr_ho (F 0) m0 h b) x hM u hu (by show T ≤ T0 + mr_pv (mr_vb (F 0) m0 v1 (b + 1)); omega) ?_ 3 0 (by omega)
    clear hM
    intro G2 O2 sz2 u2 hM hF2 hu2
    have hFF := hF.tr hF2
    have hu3 : u2 + mr_pv (mr_vb (F 0) m0 v1 (b + 1)) = T := hu2
    obtain ⟨⟨⟨⟨⟨kω, oω, zω⟩, rω0, rω1, rω3, rω4⟩, iω2, sv4⟩, ⟨⟨kA, oA, zA⟩, nA⟩, hrA⟩, ⟨hd1, hd2⟩, hst, ⟨⟨vn1, vh1, vt1⟩, vc1⟩, ⟨vn2, vh2, vt2⟩, vc2⟩ := id hM
    have hS0 := hst 0 (by omega)
    obtain ⟨⟨⟨⟨⟨kσ, oσ, zσ⟩, iσ4⟩, rσ0, rσ1, rσ2, rσ3⟩, ⟨⟨⟨kβ, oβ, zβ⟩, nβ⟩, hrβ⟩, ⟨⟨⟨kκ, oκ, zκ⟩, nκ⟩, hrκ⟩⟩, ⟨⟨tq, hq⟩, ⟨⟨k5, o5, z5⟩, n5⟩, hw5⟩, hbx, hmc⟩ := id hS0
    have rκ := hrκ m0 hm
    obtain ⟨⟨⟨⟨kk, ok, zk⟩, ik0, rk1, rk2⟩, ⟨kka, oka, nka, zka⟩, hra⟩, ⟨td, hnD⟩, hcp⟩ := id (hmc m0 hm)
    have ktd := td.K
    have std := td.s
    have n8 := td.b.1
    have ra := hra b hb
    obtain ⟨⟨⟨⟨⟨⟨kc, oc, zc⟩, ic0, ic1⟩, rc2⟩, tc⟩, hcc⟩, hch⟩ := id (hcp b hb)
    have ktc := tc.K
    have stc := tc.s
    have c532 := tc.b.1
    have ec : mx_ml (F 0) (mx_CA m0 b + 2) (mr_hw (F 0) m0 b (mr_ho (F 0) m0 h b) 4) (mx_cC (F 0) m0 b * 4) = mr_ho (F 0) m0 h (b + 1) := by
      rw [Nat.mul_comm (mx_cC (F 0) m0 b) 4]; rfl
    refine mz_sn_ok hC tk_X5_mixMachine pk_RX5 10 [B 0, B 0 + 2, m0, B 0 + 21 + 13 * m0, B 0 + 21 + 13 * m0 + 1, b, B 0 + 21 + 13 * m0 + 4 + 3 * b, B 0 + 21 + 13 * m0 + 4 + 3 * b + 1] rfl (by (repeat' apply And.intro) <;> first | exact True.intro | assumption | (simp only [mz_cm1, mz_c0, mz_c1, mz_c2, mz_c3, mz_c4, mz_c5, mz_c6, mz_c7, mz_c8, mz_c10, mz_c17, mz_c20, mz_c28, mz_c58, mz_c63, mz_c98, mz_c294, mz_c526, mz_c532, mz_c540, mz_c999, mz_c1900, mz_c2403, mz_c29362, mz_c29363, mz_c29364, mz_c29390, mz_c29393, mz_c29394, mz_c29398, mz_c29399, mz_c29400, mz_c29401, nI_add, pk_mul, pk_m1, mz_pp, mz_pq]; done) | omega | (simp only [mz_cm1, mz_c0, mz_c1, mz_c2, mz_c3, mz_c4, mz_c5, mz_c6, mz_c7, mz_c8, mz_c10, mz_c17, mz_c20, mz_c28, mz_c58, mz_c63, mz_c98, mz_c294, mz_c526, mz_c532, mz_c540, mz_c999, mz_c1900, mz_c2403, mz_c29362, mz_c29363, mz_c29364, mz_c29390, mz_c29393, mz_c29394, mz_c29398, mz_c29399, mz_c29400, mz_c29401, nI_add, pk_mul, pk_m1, mz_pp, mz_pq]; congr 1; omega)) ?_
    try simp only [mz_c0, mz_cm1]
    refine mz_Vcv hC tk_X5_mixMachine rfl md_X4_mixInto lk_RX5_240 rfl (ct_mixInto l E tc (mr_hw (F 0) m0 b (mr_ho (F 0) m0 h b) 4) (F 0) (mx_CA m0 b + 2) (fun k j _ _ => by show F 0 _ = F 0 _; congr 1; omega)) (by show (vwCl[mz_K _ _]?).map _ = _; rw [ktc]; rfl) ⟨Nat.le_of_ble_eq_true rfl, Nat.le_of_ble_eq_true rfl⟩ ⟨by simp only [mz_rm]; omega, by simp only [mz_rm]; omega⟩ (Nat.le_of_ble_eq_true rfl) (fun v9 G9 sz9 hp9 => ?_)
    obtain ⟨rfl, hG9, hs9⟩ := hp9
    rw [hG9, ← hs9, ec]
    refine mz_sn_ok hC tk_X5_mixMachine pk_RX5 3 [] rfl (by (repeat' apply And.intro) <;> first | exact True.intro | assumption | (simp only [mz_cm1, mz_c0, mz_c1, mz_c2, mz_c3, mz_c4, mz_c5, mz_c6, mz_c7, mz_c8, mz_c10, mz_c17, mz_c20, mz_c28, mz_c58, mz_c63, mz_c98, mz_c294, mz_c526, mz_c532, mz_c540, mz_c999, mz_c1900, mz_c2403, mz_c29362, mz_c29363, mz_c29364, mz_c29390, mz_c29393, mz_c29394, mz_c29398, mz_c29399, mz_c29400, mz_c29401, nI_add, pk_mul, pk_m1, mz_pp, mz_pq]; done) | omega | (simp only [mz_cm1, mz_c0, mz_c1, mz_c2, mz_c3, mz_c4, mz_c5, mz_c6, mz_c7, mz_c8, mz_c10, mz_c17, mz_c20, mz_c28, mz_c58, mz_c63, mz_c98, mz_c294, mz_c526, mz_c532, mz_c540, mz_c999, mz_c1900, mz_c2403, mz_c29362, mz_c29363, mz_c29364, mz_c29390, mz_c29393, mz_c29394, mz_c29398, mz_c29399, mz_c29400, mz_c29401, nI_add, pk_mul, pk_m1, mz_pp, mz_pq]; congr 1; omega)) ?_
    try simp only [mz_c0, mz_cm1]
    refine mz_V.widen (k' := u2) (n' := u2) (by omega) (by omega) ?_
    refine mz_V.sub (lv' := [some (.ref ω), some x, none, some (.int (nI m0)), some (.long (mr_ho (F 0) m0 h (b + 1))), none, some (.int (nI (b + 1)))]) (by (repeat' apply And.intro) <;> first | with_reducible rfl | exact True.intro | (simp only [mz_cm1, mz_c0, mz_c1, mz_c2, mz_c3, mz_c4, mz_c5, mz_c6, mz_c7, mz_c8, mz_c10, mz_c17, mz_c20, mz_c28, mz_c58, mz_c63, mz_c98, mz_c294, mz_c526, mz_c532, mz_c540, mz_c999, mz_c1900, mz_c2403, mz_c29362, mz_c29363, mz_c29364, mz_c29390, mz_c29393, mz_c29394, mz_c29398, mz_c29399, mz_c29400, mz_c29401, nI_add, pk_mul, pk_m1, mz_pp, mz_pq]; done) | rfl) ?_
    exact ih (b + 1) G2 O2 sz2 u2 (by omega) hM hFF hu2
theorem cf_mixMachine (hM : mr_M G O sz ω B sv F Λ v1 v2) (m0 : Nat) (hm : m0 < 4) (hcc : ∀ b, b < 3 → mx_cC (F 0) m0 b < 532) (hnV : ∀ b, b < 3 → mr_nV (F 0) m0 b ≤ 540) (h : Int64) (U : Nat) (hU : U + mr_pv (mr_vb (F 0) m0 v1 3) = mr_pv v1) : mz_M l E yX5_mixMachine cX5_mixMachine 8 (some .long) 8 U U [.ref ω, .long h, .int (nI m0)] G sz (fun v' G' sz' => v' = some (.long (mr_hM (F 0) m0 h)) ∧ ∃ O', mr_M G' O' sz' ω B sv F Λ (mr_vb (F 0) m0 v1 3) v2 ∧ mt_F (mr_ZZ ω) G G' O O' sz sz') := by
  obtain ⟨⟨⟨⟨⟨kω, oω, zω⟩, rω0, rω1, rω3, rω4⟩, iω2, sv4⟩, ⟨⟨kA, oA, zA⟩, nA⟩, hrA⟩, ⟨hd1, hd2⟩, hst, ⟨⟨vn1, vh1, vt1⟩, vc1⟩, ⟨vn2, vh2, vt2⟩, vc2⟩ := id hM
  have hS0 := hst 0 (by omega)
  obtain ⟨⟨⟨⟨⟨kσ, oσ, zσ⟩, iσ4⟩, rσ0, rσ1, rσ2, rσ3⟩, ⟨⟨⟨kβ, oβ, zβ⟩, nβ⟩, hrβ⟩, ⟨⟨⟨kκ, oκ, zκ⟩, nκ⟩, hrκ⟩⟩, ⟨⟨tq, hq⟩, ⟨⟨k5, o5, z5⟩, n5⟩, hw5⟩, hbx, hmc⟩ := id hS0
  have rκ := hrκ m0 hm
  obtain ⟨⟨⟨⟨kk, ok, zk⟩, ik0, rk1, rk2⟩, ⟨kka, oka, nka, zka⟩, hra⟩, ⟨td, hnD⟩, hcp⟩ := id (hmc m0 hm)
  have ktd := td.K
  have std := td.s
  have n8 := td.b.1
  refine mz_start (by decide) (Nat.le_of_ble_eq_true rfl) ?_
  intro p e s m args below meth c hC hret hnm
  refine mz_sn_ok hC tk_X5_mixMachine pk_RX5 14 [B 0, B 0 + 2, m0, B 0 + 21 + 13 * m0] rfl (by (repeat' apply And.intro) <;> first | exact True.intro | assumption | (simp only [mz_cm1, mz_c0, mz_c1, mz_c2, mz_c3, mz_c4, mz_c5, mz_c6, mz_c7, mz_c8, mz_c10, mz_c17, mz_c20, mz_c28, mz_c58, mz_c63, mz_c98, mz_c294, mz_c526, mz_c532, mz_c540, mz_c999, mz_c1900, mz_c2403, mz_c29362, mz_c29363, mz_c29364, mz_c29390, mz_c29393, mz_c29394, mz_c29398, mz_c29399, mz_c29400, mz_c29401, nI_add, pk_mul, pk_m1, mz_pp, mz_pq, ik0]; done) | omega | (simp only [mz_cm1, mz_c0, mz_c1, mz_c2, mz_c3, mz_c4, mz_c5, mz_c6, mz_c7, mz_c8, mz_c10, mz_c17, mz_c20, mz_c28, mz_c58, mz_c63, mz_c98, mz_c294, mz_c526, mz_c532, mz_c540, mz_c999, mz_c1900, mz_c2403, mz_c29362, mz_c29363, mz_c29364, mz_c29390, mz_c29393, mz_c29394, mz_c29398, mz_c29399, mz_c29400, mz_c29401, nI_add, pk_mul, pk_m1, mz_pp, mz_pq, ik0]; congr 1; omega)) ?_
  try simp only [mz_c0, mz_cm1, ik0]
  refine mz_V.sub (lv' := [some (.ref ω), some (.long h), none, some (.int (nI m0)), some (.long (mr_ho (F 0) m0 (mx_hm h (F 0 (294 + 58 * m0)).toInt64) 0)), none, some (.int (nI 0))]) (by (repeat' apply And.intro) <;> first | with_reducible rfl | exact True.intro | (simp only [mz_cm1, mz_c0, mz_c1, mz_c2, mz_c3, mz_c4, mz_c5, mz_c6, mz_c7, mz_c8, mz_c10, mz_c17, mz_c20, mz_c28, mz_c58, mz_c63, mz_c98, mz_c294, mz_c526, mz_c532, mz_c540, mz_c999, mz_c1900, mz_c2403, mz_c29362, mz_c29363, mz_c29364, mz_c29390, mz_c29393, mz_c29394, mz_c29398, mz_c29399, mz_c29400, mz_c29401, nI_add, pk_mul, pk_m1, mz_pp, mz_pq]; done) | rfl) ?_
  exact cf_mixB l E hC hret U (mr_pv v1) m0 hm hcc hnV _ (.long h) vc1 hU (fun G' O' sz' h1 h2 => ⟨rfl, O', h1, h2⟩) 3 0 G O sz 0 (by omega) hM mt_F.rf (by show 0 + mr_pv v1 = _; omega)
theorem cf_chk4 {P : Option Value → mz_G → Nat → Prop} {p : Program} {e : Env} {s : State} {m : MethodId} {args : Array Value} {below : List Frame} {meth : Method} {c : Code} (hC : mz_C E p s m args meth c cX5_checksum yX5_checksum.cls 4) (hret : meth.sig.returnType = some .long) (T0 : Nat) (hM : mr_M G O sz ω B sv F Λ v1 v2) (h : Int64) (u : Nat) (hu : u ≤ T0) (hP : P (some (.long (mx_hm (mx_ml (F 0) 29392 h 7) (nI sv).toInt64))) G sz) : ∀ d k, k + d = 7 → mz_V E p l e (mz_rm 9 T0 T0) s m args below meth c 4 (u) (u) (mz_Z E below args s T0 T0 P) (G) (sz) (115) [some (.ref ω), some (.long (mx_ml (F 0) 29392 h k)), none, some (.int (nI k))] [] := by
  obtain ⟨⟨⟨⟨⟨kω, oω, zω⟩, rω0, rω1, rω3, rω4⟩, iω2, sv4⟩, ⟨⟨kA, oA, zA⟩, nA⟩, hrA⟩, ⟨hd1, hd2⟩, hst, ⟨⟨vn1, vh1, vt1⟩, vc1⟩, ⟨vn2, vh2, vt2⟩, vc2⟩ := id hM
  have hS0 := hst 0 (by omega)
  obtain ⟨⟨⟨⟨⟨kσ, oσ, zσ⟩, iσ4⟩, rσ0, rσ1, rσ2, rσ3⟩, ⟨⟨⟨kβ, oβ, zβ⟩, nβ⟩, hrβ⟩, ⟨⟨⟨kκ, oκ, zκ⟩, nκ⟩, hrκ⟩⟩, ⟨⟨tq, hq⟩, ⟨⟨k5, o5, z5⟩, n5⟩, hw5⟩, hbx, hmc⟩ := id hS0
  intro d
  induction d with
  | zero =>
    intro k hk
    obtain rfl : k = 7 := by omega
    refine mz_sn_ok hC tk_X5_checksum pk_RX5 2 [] rfl (by (repeat' apply And.intro) <;> first | exact True.intro | assumption | (simp only [mz_cm1, mz_c0, mz_c1, mz_c2, mz_c3, mz_c4, mz_c5, mz_c6, mz_c7, mz_c8, mz_c10, mz_c17, mz_c20, mz_c28, mz_c58, mz_c63, mz_c98, mz_c294, mz_c526, mz_c532, mz_c540, mz_c999, mz_c1900, mz_c2403, mz_c29362, mz_c29363, mz_c29364, mz_c29390, mz_c29393, mz_c29394, mz_c29398, mz_c29399, mz_c29400, mz_c29401, nI_add, pk_mul, pk_m1, mz_pp, mz_pq]; done) | omega | (simp only [mz_cm1, mz_c0, mz_c1, mz_c2, mz_c3, mz_c4, mz_c5, mz_c6, mz_c7, mz_c8, mz_c10, mz_c17, mz_c20, mz_c28, mz_c58, mz_c63, mz_c98, mz_c294, mz_c526, mz_c532, mz_c540, mz_c999, mz_c1900, mz_c2403, mz_c29362, mz_c29363, mz_c29364, mz_c29390, mz_c29393, mz_c29394, mz_c29398, mz_c29399, mz_c29400, mz_c29401, nI_add, pk_mul, pk_m1, mz_pp, mz_pq]; congr 1; omega)) ?_
    try simp only [mz_c0, mz_cm1]
    refine mz_br_t hC tk_X5_checksum rfl ((by show nI 7 ≤ nI 7; exact nI_le (by omega) (by omega))) ?_
    refine mz_sn_ok hC tk_X5_checksum pk_RX5 7 [] rfl (by (repeat' apply And.intro) <;> first | exact True.intro | assumption | (simp only [mz_cm1, mz_c0, mz_c1, mz_c2, mz_c3, mz_c4, mz_c5, mz_c6, mz_c7, mz_c8, mz_c10, mz_c17, mz_c20, mz_c28, mz_c58, mz_c63, mz_c98, mz_c294, mz_c526, mz_c532, mz_c540, mz_c999, mz_c1900, mz_c2403, mz_c29362, mz_c29363, mz_c29364, mz_c29390, mz_c29393, mz_c29394, mz_c29398, mz_c29399, mz_c29400, mz_c29401, nI_add, pk_mul, pk_m1, mz_pp, mz_pq, iω2]; done) | omega | (simp only [mz_cm1, mz_c0, mz_c1, mz_c2, mz_c3, mz_c4, mz_c5, mz_c6, mz_c7, mz_c8, mz_c10, mz_c17, mz_c20, mz_c28, mz_c58, mz_c63, mz_c98, mz_c294, mz_c526, mz_c532, mz_c540, mz_c999, mz_c1900, mz_c2403, mz_c29362, mz_c29363, mz_c29364, mz_c29390, mz_c29393, mz_c29394, mz_c29398, mz_c29399, mz_c29400, mz_c29401, nI_add, pk_mul, pk_m1, mz_pp, mz_pq, iω2]; congr 1; omega)) ?_
    try simp only [mz_c0, mz_cm1, iω2]
    refine mz_Vlreturn hC tk_X5_checksum rfl hret (by omega) (by omega) ?_
    exact hP
  | succ d ih =>
    intro k hk
    have hk7 := hw5 k (by omega)
    have e5 : F 0 (29393 + k) = F 0 (29392 + 1 + k) := rfl
    refine mz_sn_ok hC tk_X5_checksum pk_RX5 2 [] rfl (by (repeat' apply And.intro) <;> first | exact True.intro | assumption | (simp only [mz_cm1, mz_c0, mz_c1, mz_c2, mz_c3, mz_c4, mz_c5, mz_c6, mz_c7, mz_c8, mz_c10, mz_c17, mz_c20, mz_c28, mz_c58, mz_c63, mz_c98, mz_c294, mz_c526, mz_c532, mz_c540, mz_c999, mz_c1900, mz_c2403, mz_c29362, mz_c29363, mz_c29364, mz_c29390, mz_c29393, mz_c29394, mz_c29398, mz_c29399, mz_c29400, mz_c29401, nI_add, pk_mul, pk_m1, mz_pp, mz_pq]; done) | omega | (simp only [mz_cm1, mz_c0, mz_c1, mz_c2, mz_c3, mz_c4, mz_c5, mz_c6, mz_c7, mz_c8, mz_c10, mz_c17, mz_c20, mz_c28, mz_c58, mz_c63, mz_c98, mz_c294, mz_c526, mz_c532, mz_c540, mz_c999, mz_c1900, mz_c2403, mz_c29362, mz_c29363, mz_c29364, mz_c29390, mz_c29393, mz_c29394, mz_c29398, mz_c29399, mz_c29400, mz_c29401, nI_add, pk_mul, pk_m1, mz_pp, mz_pq]; congr 1; omega)) ?_
    try simp only [mz_c0, mz_cm1]
    refine mz_br_f hC tk_X5_checksum rfl ((by show ¬ nI 7 ≤ nI k; exact nI_ge (by omega) (by omega))) ?_
    refine mz_sn_ok hC tk_X5_checksum pk_RX5 13 [B 0, B 0 + 5, k] rfl (by (repeat' apply And.intro) <;> first | exact True.intro | assumption | (simp only [mz_cm1, mz_c0, mz_c1, mz_c2, mz_c3, mz_c4, mz_c5, mz_c6, mz_c7, mz_c8, mz_c10, mz_c17, mz_c20, mz_c28, mz_c58, mz_c63, mz_c98, mz_c294, mz_c526, mz_c532, mz_c540, mz_c999, mz_c1900, mz_c2403, mz_c29362, mz_c29363, mz_c29364, mz_c29390, mz_c29393, mz_c29394, mz_c29398, mz_c29399, mz_c29400, mz_c29401, nI_add, pk_mul, pk_m1, mz_pp, mz_pq, hk7]; done) | omega | (simp only [mz_cm1, mz_c0, mz_c1, mz_c2, mz_c3, mz_c4, mz_c5, mz_c6, mz_c7, mz_c8, mz_c10, mz_c17, mz_c20, mz_c28, mz_c58, mz_c63, mz_c98, mz_c294, mz_c526, mz_c532, mz_c540, mz_c999, mz_c1900, mz_c2403, mz_c29362, mz_c29363, mz_c29364, mz_c29390, mz_c29393, mz_c29394, mz_c29398, mz_c29399, mz_c29400, mz_c29401, nI_add, pk_mul, pk_m1, mz_pp, mz_pq, hk7]; congr 1; omega)) ?_
    try simp only [mz_c0, mz_cm1, hk7]
    refine mz_V.sub (lv' := [some (.ref ω), some (.long (mx_ml (F 0) 29392 h (k + 1))), none, some (.int (nI (k + 1)))]) (by (repeat' apply And.intro) <;> first | with_reducible rfl | exact True.intro | (simp only [mz_cm1, mz_c0, mz_c1, mz_c2, mz_c3, mz_c4, mz_c5, mz_c6, mz_c7, mz_c8, mz_c10, mz_c17, mz_c20, mz_c28, mz_c58, mz_c63, mz_c98, mz_c294, mz_c526, mz_c532, mz_c540, mz_c999, mz_c1900, mz_c2403, mz_c29362, mz_c29363, mz_c29364, mz_c29390, mz_c29393, mz_c29394, mz_c29398, mz_c29399, mz_c29400, mz_c29401, nI_add, pk_mul, pk_m1, mz_pp, mz_pq]; done) | rfl) ?_
    exact ih (k + 1) (by omega)
theorem cf_chk3 {P : Option Value → mz_G → Nat → Prop} {p : Program} {e : Env} {s : State} {m : MethodId} {args : Array Value} {below : List Frame} {meth : Method} {c : Code} (hC : mz_C E p s m args meth c cX5_checksum yX5_checksum.cls 4) (hret : meth.sig.returnType = some .long) (T0 : Nat) (hM : mr_M G O sz ω B sv F Λ v1 v2) (h : Int64) (u : Nat) (hu : u ≤ T0) (hP : P (some (.long (mx_hm (mx_ml (F 0) 29392 (mx_hq (F 0) h (mx_nQ (F 0))) 7) (nI sv).toInt64))) G sz) : ∀ d k, k + d = mx_nQ (F 0) → mz_V E p l e (mz_rm 9 T0 T0) s m args below meth c 4 (u) (u) (mz_Z E below args s T0 T0 P) (G) (sz) (53) [some (.ref ω), some (.long (mx_hq (F 0) h k)), none, some (.int (nI k))] [] := by
  obtain ⟨⟨⟨⟨⟨kω, oω, zω⟩, rω0, rω1, rω3, rω4⟩, iω2, sv4⟩, ⟨⟨kA, oA, zA⟩, nA⟩, hrA⟩, ⟨hd1, hd2⟩, hst, ⟨⟨vn1, vh1, vt1⟩, vc1⟩, ⟨vn2, vh2, vt2⟩, vc2⟩ := id hM
  have hS0 := hst 0 (by omega)
  obtain ⟨⟨⟨⟨⟨kσ, oσ, zσ⟩, iσ4⟩, rσ0, rσ1, rσ2, rσ3⟩, ⟨⟨⟨kβ, oβ, zβ⟩, nβ⟩, hrβ⟩, ⟨⟨⟨kκ, oκ, zκ⟩, nκ⟩, hrκ⟩⟩, ⟨⟨tq, hq⟩, ⟨⟨k5, o5, z5⟩, n5⟩, hw5⟩, hbx, hmc⟩ := id hS0
  have ktq := tq.K
  have stq := tq.s
  have q10 := tq.b.1
  intro d
  induction d with
  | zero =>
    intro k hk
    refine mz_sn_ok hC tk_X5_checksum pk_RX5 5 [B 0, B 0 + 3] rfl (by (repeat' apply And.intro) <;> first | exact True.intro | assumption | (simp only [mz_cm1, mz_c0, mz_c1, mz_c2, mz_c3, mz_c4, mz_c5, mz_c6, mz_c7, mz_c8, mz_c10, mz_c17, mz_c20, mz_c28, mz_c58, mz_c63, mz_c98, mz_c294, mz_c526, mz_c532, mz_c540, mz_c999, mz_c1900, mz_c2403, mz_c29362, mz_c29363, mz_c29364, mz_c29390, mz_c29393, mz_c29394, mz_c29398, mz_c29399, mz_c29400, mz_c29401, nI_add, pk_mul, pk_m1, mz_pp, mz_pq, stq]; done) | omega | (simp only [mz_cm1, mz_c0, mz_c1, mz_c2, mz_c3, mz_c4, mz_c5, mz_c6, mz_c7, mz_c8, mz_c10, mz_c17, mz_c20, mz_c28, mz_c58, mz_c63, mz_c98, mz_c294, mz_c526, mz_c532, mz_c540, mz_c999, mz_c1900, mz_c2403, mz_c29362, mz_c29363, mz_c29364, mz_c29390, mz_c29393, mz_c29394, mz_c29398, mz_c29399, mz_c29400, mz_c29401, nI_add, pk_mul, pk_m1, mz_pp, mz_pq, stq]; congr 1; omega)) ?_
    try simp only [mz_c0, mz_cm1, stq]
    refine mz_br_t hC tk_X5_checksum rfl ((by show nI (mx_nQ (F 0)) ≤ nI k; rw [← hk]; exact nI_le (by omega) (by omega))) ?_
    refine mz_sn_ok hC tk_X5_checksum pk_RX5 2 [] rfl (by (repeat' apply And.intro) <;> first | exact True.intro | assumption | (simp only [mz_cm1, mz_c0, mz_c1, mz_c2, mz_c3, mz_c4, mz_c5, mz_c6, mz_c7, mz_c8, mz_c10, mz_c17, mz_c20, mz_c28, mz_c58, mz_c63, mz_c98, mz_c294, mz_c526, mz_c532, mz_c540, mz_c999, mz_c1900, mz_c2403, mz_c29362, mz_c29363, mz_c29364, mz_c29390, mz_c29393, mz_c29394, mz_c29398, mz_c29399, mz_c29400, mz_c29401, nI_add, pk_mul, pk_m1, mz_pp, mz_pq]; done) | omega | (simp only [mz_cm1, mz_c0, mz_c1, mz_c2, mz_c3, mz_c4, mz_c5, mz_c6, mz_c7, mz_c8, mz_c10, mz_c17, mz_c20, mz_c28, mz_c58, mz_c63, mz_c98, mz_c294, mz_c526, mz_c532, mz_c540, mz_c999, mz_c1900, mz_c2403, mz_c29362, mz_c29363, mz_c29364, mz_c29390, mz_c29393, mz_c29394, mz_c29398, mz_c29399, mz_c29400, mz_c29401, nI_add, pk_mul, pk_m1, mz_pp, mz_pq]; congr 1; omega)) ?_
    try simp only [mz_c0, mz_cm1]
    refine mz_V.sub (lv' := [some (.ref ω), some (.long (mx_ml (F 0) 29392 (mx_hq (F 0) h k) 0)), none, some (.int (nI 0))]) (by (repeat' apply And.intro) <;> first | with_reducible rfl | exact True.intro | (simp only [mz_cm1, mz_c0, mz_c1, mz_c2, mz_c3, mz_c4, mz_c5, mz_c6, mz_c7, mz_c8, mz_c10, mz_c17, mz_c20, mz_c28, mz_c58, mz_c63, mz_c98, mz_c294, mz_c526, mz_c532, mz_c540, mz_c999, mz_c1900, mz_c2403, mz_c29362, mz_c29363, mz_c29364, mz_c29390, mz_c29393, mz_c29394, mz_c29398, mz_c29399, mz_c29400, mz_c29401, nI_add, pk_mul, pk_m1, mz_pp, mz_pq]; done) | rfl) ?_
    exact cf_chk4 l E hC hret T0 hM (mx_hq (F 0) h k) u hu (by rw [show k = mx_nQ (F 0) by omega]; exact hP) 7 0 (by omega)
  | succ d ih =>
    intro k hk
    have e1 : mt_c (mx_nQ (F 0)) 3 (mr_h (F 0) 29362 3) (nI k) (nI 0) = F 0 (29363 + 3 * k) := mt_c_in (by omega) (by omega) (by omega) (by omega)
    have e2 : mt_c (mx_nQ (F 0)) 3 (mr_h (F 0) 29362 3) (nI k) (nI 1) = F 0 (29364 + 3 * k) := (mt_c_in (by omega) (by omega) (by omega) (by omega)).trans (by show F 0 _ = F 0 _; congr 1; omega)
    refine mz_sn_ok hC tk_X5_checksum pk_RX5 5 [B 0, B 0 + 3] rfl (by (repeat' apply And.intro) <;> first | exact True.intro | assumption | (simp only [mz_cm1, mz_c0, mz_c1, mz_c2, mz_c3, mz_c4, mz_c5, mz_c6, mz_c7, mz_c8, mz_c10, mz_c17, mz_c20, mz_c28, mz_c58, mz_c63, mz_c98, mz_c294, mz_c526, mz_c532, mz_c540, mz_c999, mz_c1900, mz_c2403, mz_c29362, mz_c29363, mz_c29364, mz_c29390, mz_c29393, mz_c29394, mz_c29398, mz_c29399, mz_c29400, mz_c29401, nI_add, pk_mul, pk_m1, mz_pp, mz_pq, stq]; done) | omega | (simp only [mz_cm1, mz_c0, mz_c1, mz_c2, mz_c3, mz_c4, mz_c5, mz_c6, mz_c7, mz_c8, mz_c10, mz_c17, mz_c20, mz_c28, mz_c58, mz_c63, mz_c98, mz_c294, mz_c526, mz_c532, mz_c540, mz_c999, mz_c1900, mz_c2403, mz_c29362, mz_c29363, mz_c29364, mz_c29390, mz_c29393, mz_c29394, mz_c29398, mz_c29399, mz_c29400, mz_c29401, nI_add, pk_mul, pk_m1, mz_pp, mz_pq, stq]; congr 1; omega)) ?_
    try simp only [mz_c0, mz_cm1, stq]
    refine mz_br_f hC tk_X5_checksum rfl ((by show ¬ nI (mx_nQ (F 0)) ≤ nI k; exact nI_ge (by omega) (by omega))) ?_
    refine mz_sn_ok hC tk_X5_checksum pk_RX5 8 [B 0, B 0 + 3] rfl (by (repeat' apply And.intro) <;> first | exact True.intro | assumption | (simp only [mz_cm1, mz_c0, mz_c1, mz_c2, mz_c3, mz_c4, mz_c5, mz_c6, mz_c7, mz_c8, mz_c10, mz_c17, mz_c20, mz_c28, mz_c58, mz_c63, mz_c98, mz_c294, mz_c526, mz_c532, mz_c540, mz_c999, mz_c1900, mz_c2403, mz_c29362, mz_c29363, mz_c29364, mz_c29390, mz_c29393, mz_c29394, mz_c29398, mz_c29399, mz_c29400, mz_c29401, nI_add, pk_mul, pk_m1, mz_pp, mz_pq]; done) | omega | (simp only [mz_cm1, mz_c0, mz_c1, mz_c2, mz_c3, mz_c4, mz_c5, mz_c6, mz_c7, mz_c8, mz_c10, mz_c17, mz_c20, mz_c28, mz_c58, mz_c63, mz_c98, mz_c294, mz_c526, mz_c532, mz_c540, mz_c999, mz_c1900, mz_c2403, mz_c29362, mz_c29363, mz_c29364, mz_c29390, mz_c29393, mz_c29394, mz_c29398, mz_c29399, mz_c29400, mz_c29401, nI_add, pk_mul, pk_m1, mz_pp, mz_pq]; congr 1; omega)) ?_
    try simp only [mz_c0, mz_cm1]
    refine mz_Vcv hC tk_X5_checksum rfl md_X4_cell lk_RX5_78 rfl (ct_cell l E tq (nI k) (nI 0)) (by show (vwCl[mz_K _ _]?).map _ = _; rw [ktq]; rfl) ⟨Nat.le_of_ble_eq_true rfl, Nat.le_of_ble_eq_true rfl⟩ ⟨by simp only [mz_rm]; omega, by simp only [mz_rm]; omega⟩ (Nat.le_of_ble_eq_true rfl) (fun v9 G9 sz9 hp9 => ?_)
    obtain ⟨rfl, hG9, hs9⟩ := hp9
    rw [hG9, ← hs9, e1]
    refine mz_sn_ok hC tk_X5_checksum pk_RX5 11 [B 0, B 0 + 3] rfl (by (repeat' apply And.intro) <;> first | exact True.intro | assumption | (simp only [mz_cm1, mz_c0, mz_c1, mz_c2, mz_c3, mz_c4, mz_c5, mz_c6, mz_c7, mz_c8, mz_c10, mz_c17, mz_c20, mz_c28, mz_c58, mz_c63, mz_c98, mz_c294, mz_c526, mz_c532, mz_c540, mz_c999, mz_c1900, mz_c2403, mz_c29362, mz_c29363, mz_c29364, mz_c29390, mz_c29393, mz_c29394, mz_c29398, mz_c29399, mz_c29400, mz_c29401, nI_add, pk_mul, pk_m1, mz_pp, mz_pq]; done) | omega | (simp only [mz_cm1, mz_c0, mz_c1, mz_c2, mz_c3, mz_c4, mz_c5, mz_c6, mz_c7, mz_c8, mz_c10, mz_c17, mz_c20, mz_c28, mz_c58, mz_c63, mz_c98, mz_c294, mz_c526, mz_c532, mz_c540, mz_c999, mz_c1900, mz_c2403, mz_c29362, mz_c29363, mz_c29364, mz_c29390, mz_c29393, mz_c29394, mz_c29398, mz_c29399, mz_c29400, mz_c29401, nI_add, pk_mul, pk_m1, mz_pp, mz_pq]; congr 1; omega)) ?_
    try simp only [mz_c0, mz_cm1]
    refine mz_Vcv hC tk_X5_checksum rfl md_X4_cell lk_RX5_78 rfl (ct_cell l E tq (nI k) (nI 1)) (by show (vwCl[mz_K _ _]?).map _ = _; rw [ktq]; rfl) ⟨Nat.le_of_ble_eq_true rfl, Nat.le_of_ble_eq_true rfl⟩ ⟨by simp only [mz_rm]; omega, by simp only [mz_rm]; omega⟩ (Nat.le_of_ble_eq_true rfl) (fun v9 G9 sz9 hp9 => ?_)
    obtain ⟨rfl, hG8, hs8⟩ := hp9
    rw [hG8, ← hs8, e2]
    refine mz_sn_ok hC tk_X5_checksum pk_RX5 5 [] rfl (by (repeat' apply And.intro) <;> first | exact True.intro | assumption | (simp only [mz_cm1, mz_c0, mz_c1, mz_c2, mz_c3, mz_c4, mz_c5, mz_c6, mz_c7, mz_c8, mz_c10, mz_c17, mz_c20, mz_c28, mz_c58, mz_c63, mz_c98, mz_c294, mz_c526, mz_c532, mz_c540, mz_c999, mz_c1900, mz_c2403, mz_c29362, mz_c29363, mz_c29364, mz_c29390, mz_c29393, mz_c29394, mz_c29398, mz_c29399, mz_c29400, mz_c29401, nI_add, pk_mul, pk_m1, mz_pp, mz_pq]; done) | omega | (simp only [mz_cm1, mz_c0, mz_c1, mz_c2, mz_c3, mz_c4, mz_c5, mz_c6, mz_c7, mz_c8, mz_c10, mz_c17, mz_c20, mz_c28, mz_c58, mz_c63, mz_c98, mz_c294, mz_c526, mz_c532, mz_c540, mz_c999, mz_c1900, mz_c2403, mz_c29362, mz_c29363, mz_c29364, mz_c29390, mz_c29393, mz_c29394, mz_c29398, mz_c29399, mz_c29400, mz_c29401, nI_add, pk_mul, pk_m1, mz_pp, mz_pq]; congr 1; omega)) ?_
    try simp only [mz_c0, mz_cm1]
    refine mz_V.sub (lv' := [some (.ref ω), some (.long (mx_hq (F 0) h (k + 1))), none, some (.int (nI (k + 1)))]) (by (repeat' apply And.intro) <;> first | with_reducible rfl | exact True.intro | (simp only [mz_cm1, mz_c0, mz_c1, mz_c2, mz_c3, mz_c4, mz_c5, mz_c6, mz_c7, mz_c8, mz_c10, mz_c17, mz_c20, mz_c28, mz_c58, mz_c63, mz_c98, mz_c294, mz_c526, mz_c532, mz_c540, mz_c999, mz_c1900, mz_c2403, mz_c29362, mz_c29363, mz_c29364, mz_c29390, mz_c29393, mz_c29394, mz_c29398, mz_c29399, mz_c29400, mz_c29401, nI_add, pk_mul, pk_m1, mz_pp, mz_pq]; done) | rfl) ?_
    exact ih (k + 1) (by omega)
theorem cf_chk2 {P : Option Value → mz_G → Nat → Prop} {p : Program} {e : Env} {s : State} {m : MethodId} {args : Array Value} {below : List Frame} {meth : Method} {c : Code} (hC : mz_C E p s m args meth c cX5_checksum yX5_checksum.cls 4) (hret : meth.sig.returnType = some .long) (T0 T : Nat) (hcc : ∀ m b, m < 4 → b < 3 → mx_cC (F 0) m b < 532) (hnV : ∀ m b, m < 4 → b < 3 → mr_nV (F 0) m b ≤ 540) (hv1 : mr_cv v1) (h : Int64) {G0 : mz_G} {O0 : Nat → Nat} {sz0 : Nat} (hT : T0 + mr_pv (mr_vM (F 0) v1 4) = T) (hP : ∀ (G : mz_G) (O : Nat → Nat) (sz : Nat), mr_M G O sz ω B sv F Λ (mr_vM (F 0) v1 4) v2 → mt_F (mr_ZZ ω) G0 G O0 O sz0 sz → P (some (.long (mx_hm (mx_ml (F 0) 29392 (mx_hq (F 0) (mr_hMs (F 0) h 4) (mx_nQ (F 0))) 7) (nI sv).toInt64))) G sz) : ∀ (d k : Nat) (G : mz_G) (O : Nat → Nat) (sz u : Nat), k + d = 4 → mr_M G O sz ω B sv F Λ (mr_vM (F 0) v1 k) v2 → mt_F (mr_ZZ ω) G0 G O0 O sz0 sz → u + mr_pv (mr_vM (F 0) v1 k) = T → mz_V E p l e (mz_rm 9 T0 T0) s m args below meth c 4 (u) (u) (mz_Z E below args s T0 T0 P) (G) (sz) (33) [some (.ref ω), some (.long (mr_hMs (F 0) h k)), none, some (.int (nI k))] [] := by
  intro d
  induction d with
  | zero =>
    intro k G O sz u hk hM hF hu
    obtain rfl : k = 4 := by omega
    refine mz_sn_ok hC tk_X5_checksum pk_RX5 2 [] rfl (by (repeat' apply And.intro) <;> first | exact True.intro | assumption | (simp only [mz_cm1, mz_c0, mz_c1, mz_c2, mz_c3, mz_c4, mz_c5, mz_c6, mz_c7, mz_c8, mz_c10, mz_c17, mz_c20, mz_c28, mz_c58, mz_c63, mz_c98, mz_c294, mz_c526, mz_c532, mz_c540, mz_c999, mz_c1900, mz_c2403, mz_c29362, mz_c29363, mz_c29364, mz_c29390, mz_c29393, mz_c29394, mz_c29398, mz_c29399, mz_c29400, mz_c29401, nI_add, pk_mul, pk_m1, mz_pp, mz_pq]; done) | omega | (simp only [mz_cm1, mz_c0, mz_c1, mz_c2, mz_c3, mz_c4, mz_c5, mz_c6, mz_c7, mz_c8, mz_c10, mz_c17, mz_c20, mz_c28, mz_c58, mz_c63, mz_c98, mz_c294, mz_c526, mz_c532, mz_c540, mz_c999, mz_c1900, mz_c2403, mz_c29362, mz_c29363, mz_c29364, mz_c29390, mz_c29393, mz_c29394, mz_c29398, mz_c29399, mz_c29400, mz_c29401, nI_add, pk_mul, pk_m1, mz_pp, mz_pq]; congr 1; omega)) ?_
    try simp only [mz_c0, mz_cm1]
    refine mz_br_t hC tk_X5_checksum rfl ((by show nI 4 ≤ nI 4; exact nI_le (by omega) (by omega))) ?_
    refine mz_sn_ok hC tk_X5_checksum pk_RX5 2 [] rfl (by (repeat' apply And.intro) <;> first | exact True.intro | assumption | (simp only [mz_cm1, mz_c0, mz_c1, mz_c2, mz_c3, mz_c4, mz_c5, mz_c6, mz_c7, mz_c8, mz_c10, mz_c17, mz_c20, mz_c28, mz_c58, mz_c63, mz_c98, mz_c294, mz_c526, mz_c532, mz_c540, mz_c999, mz_c1900, mz_c2403, mz_c29362, mz_c29363, mz_c29364, mz_c29390, mz_c29393, mz_c29394, mz_c29398, mz_c29399, mz_c29400, mz_c29401, nI_add, pk_mul, pk_m1, mz_pp, mz_pq]; done) | omega | (simp only [mz_cm1, mz_c0, mz_c1, mz_c2, mz_c3, mz_c4, mz_c5, mz_c6, mz_c7, mz_c8, mz_c10, mz_c17, mz_c20, mz_c28, mz_c58, mz_c63, mz_c98, mz_c294, mz_c526, mz_c532, mz_c540, mz_c999, mz_c1900, mz_c2403, mz_c29362, mz_c29363, mz_c29364, mz_c29390, mz_c29393, mz_c29394, mz_c29398, mz_c29399, mz_c29400, mz_c29401, nI_add, pk_mul, pk_m1, mz_pp, mz_pq]; congr 1; omega)) ?_
    try simp only [mz_c0, mz_cm1]
    refine mz_V.sub (lv' := [some (.ref ω), some (.long (mx_hq (F 0) (mr_hMs (F 0) h 4) 0)), none, some (.int (nI 0))]) (by (repeat' apply And.intro) <;> first | with_reducible rfl | exact True.intro | (simp only [mz_cm1, mz_c0, mz_c1, mz_c2, mz_c3, mz_c4, mz_c5, mz_c6, mz_c7, mz_c8, mz_c10, mz_c17, mz_c20, mz_c28, mz_c58, mz_c63, mz_c98, mz_c294, mz_c526, mz_c532, mz_c540, mz_c999, mz_c1900, mz_c2403, mz_c29362, mz_c29363, mz_c29364, mz_c29390, mz_c29393, mz_c29394, mz_c29398, mz_c29399, mz_c29400, mz_c29401, nI_add, pk_mul, pk_m1, mz_pp, mz_pq]; done) | rfl) ?_
    exact cf_chk3 l E hC hret T0 hM (mr_hMs (F 0) h 4) u (by omega) (hP G O sz hM hF) (mx_nQ (F 0)) 0 (by omega)
  | succ d ih =>
    intro k G O sz u hk hM hF hu
    have kω := hM.1.1.1.1.1
    have hk4 : k < 4 := by omega
    have hle := mr_vM_mo hv1 hnV (4 - (k + 1)) (k + 1) (by omega)
    rw [show k + 1 + (4 - (k + 1)) = 4 by omega] at hle
    have hmo := mr_vM_mo hv1 hnV 1 k (by omega)
    obtain ⟨U2, hU2⟩ : ∃ U2, U2 = mr_pv (mr_vM (F 0) v1 k) - mr_pv (mr_vM (F 0) v1 (k + 1)) := ⟨_, rfl⟩
    refine mz_sn_ok hC tk_X5_checksum pk_RX5 2 [] rfl (by (repeat' apply And.intro) <;> first | exact True.intro | assumption | (simp only [mz_cm1, mz_c0, mz_c1, mz_c2, mz_c3, mz_c4, mz_c5, mz_c6, mz_c7, mz_c8, mz_c10, mz_c17, mz_c20, mz_c28, mz_c58, mz_c63, mz_c98, mz_c294, mz_c526, mz_c532, mz_c540, mz_c999, mz_c1900, mz_c2403, mz_c29362, mz_c29363, mz_c29364, mz_c29390, mz_c29393, mz_c29394, mz_c29398, mz_c29399, mz_c29400, mz_c29401, nI_add, pk_mul, pk_m1, mz_pp, mz_pq]; done) | omega | (simp only [mz_cm1, mz_c0, mz_c1, mz_c2, mz_c3, mz_c4, mz_c5, mz_c6, mz_c7, mz_c8, mz_c10, mz_c17, mz_c20, mz_c28, mz_c58, mz_c63, mz_c98, mz_c294, mz_c526, mz_c532, mz_c540, mz_c999, mz_c1900, mz_c2403, mz_c29362, mz_c29363, mz_c29364, mz_c29390, mz_c29393, mz_c29394, mz_c29398, mz_c29399, mz_c29400, mz_c29401, nI_add, pk_mul, pk_m1, mz_pp, mz_pq]; congr 1; omega)) ?_
    try simp only [mz_c0, mz_cm1]
    refine mz_br_f hC tk_X5_checksum rfl ((by show ¬ nI 4 ≤ nI k; exact nI_ge (by omega) (by omega))) ?_
    refine mz_sn_ok hC tk_X5_checksum pk_RX5 3 [] rfl (by (repeat' apply And.intro) <;> first | exact True.intro | assumption | (simp only [mz_cm1, mz_c0, mz_c1, mz_c2, mz_c3, mz_c4, mz_c5, mz_c6, mz_c7, mz_c8, mz_c10, mz_c17, mz_c20, mz_c28, mz_c58, mz_c63, mz_c98, mz_c294, mz_c526, mz_c532, mz_c540, mz_c999, mz_c1900, mz_c2403, mz_c29362, mz_c29363, mz_c29364, mz_c29390, mz_c29393, mz_c29394, mz_c29398, mz_c29399, mz_c29400, mz_c29401, nI_add, pk_mul, pk_m1, mz_pp, mz_pq]; done) | omega | (simp only [mz_cm1, mz_c0, mz_c1, mz_c2, mz_c3, mz_c4, mz_c5, mz_c6, mz_c7, mz_c8, mz_c10, mz_c17, mz_c20, mz_c28, mz_c58, mz_c63, mz_c98, mz_c294, mz_c526, mz_c532, mz_c540, mz_c999, mz_c1900, mz_c2403, mz_c29362, mz_c29363, mz_c29364, mz_c29390, mz_c29393, mz_c29394, mz_c29398, mz_c29399, mz_c29400, mz_c29401, nI_add, pk_mul, pk_m1, mz_pp, mz_pq]; congr 1; omega)) ?_
    try simp only [mz_c0, mz_cm1]
    refine mz_Vcv hC tk_X5_checksum rfl md_X5_mixMachine lk_RX5_231 rfl (cf_mixMachine l E hM k hk4 (hcc k · hk4) (hnV k · hk4) (mr_hMs (F 0) h k) U2 (by show _ + mr_pv (mr_vM (F 0) v1 (k + 1)) = _; omega)) (by show (vwCl[mz_K _ _]?).map _ = _; rw [kω]; rfl) ⟨Nat.le_of_ble_eq_true rfl, Nat.le_of_ble_eq_true rfl⟩ ⟨by simp only [mz_rm]; omega, by simp only [mz_rm]; omega⟩ (Nat.le_of_ble_eq_true rfl) (fun v2 G2 sz2 hp2 => ?_)
    obtain ⟨rfl, O2, hM2, hF2⟩ := hp2
    refine mz_sn_ok hC tk_X5_checksum pk_RX5 3 [] rfl (by (repeat' apply And.intro) <;> first | exact True.intro | assumption | (simp only [mz_cm1, mz_c0, mz_c1, mz_c2, mz_c3, mz_c4, mz_c5, mz_c6, mz_c7, mz_c8, mz_c10, mz_c17, mz_c20, mz_c28, mz_c58, mz_c63, mz_c98, mz_c294, mz_c526, mz_c532, mz_c540, mz_c999, mz_c1900, mz_c2403, mz_c29362, mz_c29363, mz_c29364, mz_c29390, mz_c29393, mz_c29394, mz_c29398, mz_c29399, mz_c29400, mz_c29401, nI_add, pk_mul, pk_m1, mz_pp, mz_pq]; done) | omega | (simp only [mz_cm1, mz_c0, mz_c1, mz_c2, mz_c3, mz_c4, mz_c5, mz_c6, mz_c7, mz_c8, mz_c10, mz_c17, mz_c20, mz_c28, mz_c58, mz_c63, mz_c98, mz_c294, mz_c526, mz_c532, mz_c540, mz_c999, mz_c1900, mz_c2403, mz_c29362, mz_c29363, mz_c29364, mz_c29390, mz_c29393, mz_c29394, mz_c29398, mz_c29399, mz_c29400, mz_c29401, nI_add, pk_mul, pk_m1, mz_pp, mz_pq]; congr 1; omega)) ?_
    try simp only [mz_c0, mz_cm1]
    refine mz_V.widen (k' := u + U2) (n' := u + U2) (by omega) (by omega) ?_
    refine mz_V.sub (lv' := [some (.ref ω), some (.long (mr_hMs (F 0) h (k + 1))), none, some (.int (nI (k + 1)))]) (by (repeat' apply And.intro) <;> first | with_reducible rfl | exact True.intro | (simp only [mz_cm1, mz_c0, mz_c1, mz_c2, mz_c3, mz_c4, mz_c5, mz_c6, mz_c7, mz_c8, mz_c10, mz_c17, mz_c20, mz_c28, mz_c58, mz_c63, mz_c98, mz_c294, mz_c526, mz_c532, mz_c540, mz_c999, mz_c1900, mz_c2403, mz_c29362, mz_c29363, mz_c29364, mz_c29390, mz_c29393, mz_c29394, mz_c29398, mz_c29399, mz_c29400, mz_c29401, nI_add, pk_mul, pk_m1, mz_pp, mz_pq]; done) | rfl) ?_
    exact ih (k + 1) G2 O2 sz2 (u + U2) (by omega) hM2 (hF.tr hF2) (by omega)
theorem cf_checksum (hM : mr_M G O sz ω B sv F Λ v1 v2) (hcc : ∀ m b, m < 4 → b < 3 → mx_cC (F 0) m b < 532) (U : Nat) (hU : U + mr_pv (mr_vM (F 0) v1 4) = mr_pv v1) : mz_M l E yX5_checksum cX5_checksum 4 (some .long) 9 U U [.ref ω] G sz (fun v' G' sz' => v' = some (.long (mx_hm (mx_ml (F 0) 29392 (mx_hq (F 0) (mr_hMs (F 0) (mr_hbs (F 0) (lN 12861) 3) 4) (mx_nQ (F 0))) 7) (nI sv).toInt64)) ∧ ∃ O', mr_M G' O' sz' ω B sv F Λ (mr_vM (F 0) v1 4) v2 ∧ mt_F (mr_ZZ ω) G G' O O' sz sz') := by
  have hnV := hM.nV hcc
  obtain ⟨⟨⟨⟨⟨kω, oω, zω⟩, rω0, rω1, rω3, rω4⟩, iω2, sv4⟩, ⟨⟨kA, oA, zA⟩, nA⟩, hrA⟩, ⟨hd1, hd2⟩, hst, ⟨⟨vn1, vh1, vt1⟩, vc1⟩, ⟨vn2, vh2, vt2⟩, vc2⟩ := id hM
  have hS0 := hst 0 (by omega)
  obtain ⟨⟨⟨⟨⟨kσ, oσ, zσ⟩, iσ4⟩, rσ0, rσ1, rσ2, rσ3⟩, ⟨⟨⟨kβ, oβ, zβ⟩, nβ⟩, hrβ⟩, ⟨⟨⟨kκ, oκ, zκ⟩, nκ⟩, hrκ⟩⟩, ⟨⟨tq, hq⟩, ⟨⟨k5, o5, z5⟩, n5⟩, hw5⟩, hbx, hmc⟩ := id hS0
  refine mz_start (by decide) (Nat.le_of_ble_eq_true rfl) ?_
  intro p e s m args below meth c hC hret hnm
  have loop : ∀ d b, b + d = 3 → mz_V E p l e (mz_rm 9 U U) s m args below meth c 4 (0) (0) (mz_Z E below args s U U (fun v' G' sz' => v' = some (.long (mx_hm (mx_ml (F 0) 29392 (mx_hq (F 0) (mr_hMs (F 0) (mr_hbs (F 0) (lN 12861) 3) 4) (mx_nQ (F 0))) 7) (nI sv).toInt64)) ∧ ∃ O', mr_M G' O' sz' ω B sv F Λ (mr_vM (F 0) v1 4) v2 ∧ mt_F (mr_ZZ ω) G G' O O' sz sz')) (G) (sz) (6) [some (.ref ω), some (.long (mr_hbs (F 0) (lN 12861) b)), none, some (.int (nI b))] [] := by
    intro d
    induction d with
    | zero =>
      intro b hb
      obtain rfl : b = 3 := by omega
      refine mz_sn_ok hC tk_X5_checksum pk_RX5 2 [] rfl (by (repeat' apply And.intro) <;> first | exact True.intro | assumption | (simp only [mz_cm1, mz_c0, mz_c1, mz_c2, mz_c3, mz_c4, mz_c5, mz_c6, mz_c7, mz_c8, mz_c10, mz_c17, mz_c20, mz_c28, mz_c58, mz_c63, mz_c98, mz_c294, mz_c526, mz_c532, mz_c540, mz_c999, mz_c1900, mz_c2403, mz_c29362, mz_c29363, mz_c29364, mz_c29390, mz_c29393, mz_c29394, mz_c29398, mz_c29399, mz_c29400, mz_c29401, nI_add, pk_mul, pk_m1, mz_pp, mz_pq]; done) | omega | (simp only [mz_cm1, mz_c0, mz_c1, mz_c2, mz_c3, mz_c4, mz_c5, mz_c6, mz_c7, mz_c8, mz_c10, mz_c17, mz_c20, mz_c28, mz_c58, mz_c63, mz_c98, mz_c294, mz_c526, mz_c532, mz_c540, mz_c999, mz_c1900, mz_c2403, mz_c29362, mz_c29363, mz_c29364, mz_c29390, mz_c29393, mz_c29394, mz_c29398, mz_c29399, mz_c29400, mz_c29401, nI_add, pk_mul, pk_m1, mz_pp, mz_pq]; congr 1; omega)) ?_
      try simp only [mz_c0, mz_cm1]
      refine mz_br_t hC tk_X5_checksum rfl ((by show nI 3 ≤ nI 3; exact nI_le (by omega) (by omega))) ?_
      refine mz_sn_ok hC tk_X5_checksum pk_RX5 2 [] rfl (by (repeat' apply And.intro) <;> first | exact True.intro | assumption | (simp only [mz_cm1, mz_c0, mz_c1, mz_c2, mz_c3, mz_c4, mz_c5, mz_c6, mz_c7, mz_c8, mz_c10, mz_c17, mz_c20, mz_c28, mz_c58, mz_c63, mz_c98, mz_c294, mz_c526, mz_c532, mz_c540, mz_c999, mz_c1900, mz_c2403, mz_c29362, mz_c29363, mz_c29364, mz_c29390, mz_c29393, mz_c29394, mz_c29398, mz_c29399, mz_c29400, mz_c29401, nI_add, pk_mul, pk_m1, mz_pp, mz_pq]; done) | omega | (simp only [mz_cm1, mz_c0, mz_c1, mz_c2, mz_c3, mz_c4, mz_c5, mz_c6, mz_c7, mz_c8, mz_c10, mz_c17, mz_c20, mz_c28, mz_c58, mz_c63, mz_c98, mz_c294, mz_c526, mz_c532, mz_c540, mz_c999, mz_c1900, mz_c2403, mz_c29362, mz_c29363, mz_c29364, mz_c29390, mz_c29393, mz_c29394, mz_c29398, mz_c29399, mz_c29400, mz_c29401, nI_add, pk_mul, pk_m1, mz_pp, mz_pq]; congr 1; omega)) ?_
      try simp only [mz_c0, mz_cm1]
      refine mz_V.sub (lv' := [some (.ref ω), some (.long (mr_hMs (F 0) (mr_hbs (F 0) (lN 12861) 3) 0)), none, some (.int (nI 0))]) (by (repeat' apply And.intro) <;> first | with_reducible rfl | exact True.intro | (simp only [mz_cm1, mz_c0, mz_c1, mz_c2, mz_c3, mz_c4, mz_c5, mz_c6, mz_c7, mz_c8, mz_c10, mz_c17, mz_c20, mz_c28, mz_c58, mz_c63, mz_c98, mz_c294, mz_c526, mz_c532, mz_c540, mz_c999, mz_c1900, mz_c2403, mz_c29362, mz_c29363, mz_c29364, mz_c29390, mz_c29393, mz_c29394, mz_c29398, mz_c29399, mz_c29400, mz_c29401, nI_add, pk_mul, pk_m1, mz_pp, mz_pq]; done) | rfl) ?_
      exact cf_chk2 l E hC hret U (mr_pv v1) hcc hnV vc1 (mr_hbs (F 0) (lN 12861) 3) hU (fun G' O' sz' h1 h2 => ⟨rfl, O', h1, h2⟩) 4 0 G O sz 0 (by omega) hM mt_F.rf (by show 0 + mr_pv v1 = _; omega)
    | succ d ih =>
      intro b hb3
      have hb : b < 3 := by omega
      have rβ := hrβ b hb
      obtain ⟨⟨⟨⟨kb, ob, zb⟩, ib0, ib1, ib2, ib3⟩, rb4, rb5, hbne⟩, ⟨tb1, tb2⟩, hc1, hc2⟩ := id (hbx b hb)
      have ktb1 := tb1.K
      have ktb2 := tb2.K
      have stb1 := tb1.s
      have stb2 := tb2.s
      have c20 := tb1.b.1
      have g6 := tb2.b.1
      refine mz_sn_ok hC tk_X5_checksum pk_RX5 2 [] rfl (by (repeat' apply And.intro) <;> first | exact True.intro | assumption | (simp only [mz_cm1, mz_c0, mz_c1, mz_c2, mz_c3, mz_c4, mz_c5, mz_c6, mz_c7, mz_c8, mz_c10, mz_c17, mz_c20, mz_c28, mz_c58, mz_c63, mz_c98, mz_c294, mz_c526, mz_c532, mz_c540, mz_c999, mz_c1900, mz_c2403, mz_c29362, mz_c29363, mz_c29364, mz_c29390, mz_c29393, mz_c29394, mz_c29398, mz_c29399, mz_c29400, mz_c29401, nI_add, pk_mul, pk_m1, mz_pp, mz_pq]; done) | omega | (simp only [mz_cm1, mz_c0, mz_c1, mz_c2, mz_c3, mz_c4, mz_c5, mz_c6, mz_c7, mz_c8, mz_c10, mz_c17, mz_c20, mz_c28, mz_c58, mz_c63, mz_c98, mz_c294, mz_c526, mz_c532, mz_c540, mz_c999, mz_c1900, mz_c2403, mz_c29362, mz_c29363, mz_c29364, mz_c29390, mz_c29393, mz_c29394, mz_c29398, mz_c29399, mz_c29400, mz_c29401, nI_add, pk_mul, pk_m1, mz_pp, mz_pq]; congr 1; omega)) ?_
      try simp only [mz_c0, mz_cm1]
      refine mz_br_f hC tk_X5_checksum rfl ((by show ¬ nI 3 ≤ nI b; exact nI_ge (by omega) (by omega))) ?_
      refine mz_sn_ok hC tk_X5_checksum pk_RX5 6 [B 0, B 0 + 1, b, B 0 + 6 + 5 * b] rfl (by (repeat' apply And.intro) <;> first | exact True.intro | assumption | (simp only [mz_cm1, mz_c0, mz_c1, mz_c2, mz_c3, mz_c4, mz_c5, mz_c6, mz_c7, mz_c8, mz_c10, mz_c17, mz_c20, mz_c28, mz_c58, mz_c63, mz_c98, mz_c294, mz_c526, mz_c532, mz_c540, mz_c999, mz_c1900, mz_c2403, mz_c29362, mz_c29363, mz_c29364, mz_c29390, mz_c29393, mz_c29394, mz_c29398, mz_c29399, mz_c29400, mz_c29401, nI_add, pk_mul, pk_m1, mz_pp, mz_pq]; done) | omega | (simp only [mz_cm1, mz_c0, mz_c1, mz_c2, mz_c3, mz_c4, mz_c5, mz_c6, mz_c7, mz_c8, mz_c10, mz_c17, mz_c20, mz_c28, mz_c58, mz_c63, mz_c98, mz_c294, mz_c526, mz_c532, mz_c540, mz_c999, mz_c1900, mz_c2403, mz_c29362, mz_c29363, mz_c29364, mz_c29390, mz_c29393, mz_c29394, mz_c29398, mz_c29399, mz_c29400, mz_c29401, nI_add, pk_mul, pk_m1, mz_pp, mz_pq]; congr 1; omega)) ?_
      try simp only [mz_c0, mz_cm1]
      refine mz_Vcv hC tk_X5_checksum rfl md_X0_mixInto lk_RX5_227 rfl (cb_mixInto l E (hbx b hb) (mr_hbs (F 0) (lN 12861) b)) (by show (vwCl[mz_K _ _]?).map _ = _; rw [kb]; rfl) ⟨Nat.le_of_ble_eq_true rfl, Nat.le_of_ble_eq_true rfl⟩ ⟨by simp only [mz_rm]; omega, by simp only [mz_rm]; omega⟩ (Nat.le_of_ble_eq_true rfl) (fun v9 G9 sz9 hp9 => ?_)
      obtain ⟨rfl, hG9, hs9⟩ := hp9
      rw [hG9, ← hs9]
      refine mz_sn_ok hC tk_X5_checksum pk_RX5 3 [] rfl (by (repeat' apply And.intro) <;> first | exact True.intro | assumption | (simp only [mz_cm1, mz_c0, mz_c1, mz_c2, mz_c3, mz_c4, mz_c5, mz_c6, mz_c7, mz_c8, mz_c10, mz_c17, mz_c20, mz_c28, mz_c58, mz_c63, mz_c98, mz_c294, mz_c526, mz_c532, mz_c540, mz_c999, mz_c1900, mz_c2403, mz_c29362, mz_c29363, mz_c29364, mz_c29390, mz_c29393, mz_c29394, mz_c29398, mz_c29399, mz_c29400, mz_c29401, nI_add, pk_mul, pk_m1, mz_pp, mz_pq]; done) | omega | (simp only [mz_cm1, mz_c0, mz_c1, mz_c2, mz_c3, mz_c4, mz_c5, mz_c6, mz_c7, mz_c8, mz_c10, mz_c17, mz_c20, mz_c28, mz_c58, mz_c63, mz_c98, mz_c294, mz_c526, mz_c532, mz_c540, mz_c999, mz_c1900, mz_c2403, mz_c29362, mz_c29363, mz_c29364, mz_c29390, mz_c29393, mz_c29394, mz_c29398, mz_c29399, mz_c29400, mz_c29401, nI_add, pk_mul, pk_m1, mz_pp, mz_pq]; congr 1; omega)) ?_
      try simp only [mz_c0, mz_cm1]
      refine mz_V.sub (lv' := [some (.ref ω), some (.long (mr_hbs (F 0) (lN 12861) (b + 1))), none, some (.int (nI (b + 1)))]) (by (repeat' apply And.intro) <;> first | with_reducible rfl | exact True.intro | (simp only [mz_cm1, mz_c0, mz_c1, mz_c2, mz_c3, mz_c4, mz_c5, mz_c6, mz_c7, mz_c8, mz_c10, mz_c17, mz_c20, mz_c28, mz_c58, mz_c63, mz_c98, mz_c294, mz_c526, mz_c532, mz_c540, mz_c999, mz_c1900, mz_c2403, mz_c29362, mz_c29363, mz_c29364, mz_c29390, mz_c29393, mz_c29394, mz_c29398, mz_c29399, mz_c29400, mz_c29401, nI_add, pk_mul, pk_m1, mz_pp, mz_pq]; done) | rfl) ?_
      exact ih (b + 1) (by omega)
  refine mz_sn_ok hC tk_X5_checksum pk_RX5 4 [] rfl (by (repeat' apply And.intro) <;> first | exact True.intro | assumption | (simp only [mz_cm1, mz_c0, mz_c1, mz_c2, mz_c3, mz_c4, mz_c5, mz_c6, mz_c7, mz_c8, mz_c10, mz_c17, mz_c20, mz_c28, mz_c58, mz_c63, mz_c98, mz_c294, mz_c526, mz_c532, mz_c540, mz_c999, mz_c1900, mz_c2403, mz_c29362, mz_c29363, mz_c29364, mz_c29390, mz_c29393, mz_c29394, mz_c29398, mz_c29399, mz_c29400, mz_c29401, nI_add, pk_mul, pk_m1, mz_pp, mz_pq]; done) | omega | (simp only [mz_cm1, mz_c0, mz_c1, mz_c2, mz_c3, mz_c4, mz_c5, mz_c6, mz_c7, mz_c8, mz_c10, mz_c17, mz_c20, mz_c28, mz_c58, mz_c63, mz_c98, mz_c294, mz_c526, mz_c532, mz_c540, mz_c999, mz_c1900, mz_c2403, mz_c29362, mz_c29363, mz_c29364, mz_c29390, mz_c29393, mz_c29394, mz_c29398, mz_c29399, mz_c29400, mz_c29401, nI_add, pk_mul, pk_m1, mz_pp, mz_pq]; congr 1; omega)) ?_
  try simp only [mz_c0, mz_cm1]
  exact loop 3 0 (by omega)
end MRF

