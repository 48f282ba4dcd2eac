/-! ===== the calls that never refuse ===== -/
theorem jt_w1n (f : Nat → Int32) (m b n : Nat) (v w : Nat → Int32) : ∀ k, (mx_w1 f m b n v k).2 = (mx_w1 f m b n w k).2
  | 0 => rfl
  | k + 1 => by
    have ih := jt_w1n f m b n v w k
    simp only [mx_w1]
    split
    · simp only [mx_vp, ih]
    · exact ih
theorem jt_w2n (f : Nat → Int32) (m b : Nat) {s s' : (Nat → Int32) × Nat} (h : s.2 = s'.2) : ∀ k, (mx_w2 f m b s k).2 = (mx_w2 f m b s' k).2
  | 0 => h
  | k + 1 => by
    have ih := jt_w2n f m b h k
    simp only [mx_w2]
    split
    · simp only [mx_vp, ih]
    · exact ih
theorem jt_vwn (f : Nat → Int32) (m b cc n : Nat) (v w : Nat → Int32) : (mx_vw f m b cc n v).2 = (mx_vw f m b cc n w).2 := jt_w2n f m b (jt_w1n f m b n v w cc) n
section JU
variable {f : Nat → Int32} {m b : Nat}
theorem jt_mw : ∀ (d w : Nat) (y : mx_S) (h0 : Int64), mx_now y = f → mx_h y = mr_hw f m b h0 w → mx_h (mx_mw m b (mx_cC f m b) (mx_nD f m) d w y) = mr_hw f m b h0 (w + d) ∧ (mx_now (mx_mw m b (mx_cC f m b) (mx_nD f m) d w y) = f ∧ mx_sv (mx_mw m b (mx_cC f m b) (mx_nD f m) d w y) = mx_sv y ∧ mx_past (mx_mw m b (mx_cC f m b) (mx_nD f m) d w y) = mx_past y)
  | 0, w, y, h0, h1, h2 => ⟨h2, h1, rfl, rfl⟩
  | d + 1, w, y, h0, h1, h2 => by
    have e : mx_h (mx_m1 m b (mx_cC f m b) (mx_nD f m) w y) = mr_hw f m b h0 (w + 1) := by
      show mx_hm (mx_h y) (mx_ct (mx_now y) m b w (mx_vw (mx_now y) m b (mx_cC f m b) (mx_nD f m) (mx_view y)).2).toInt64 = mx_hm (mr_hw f m b h0 w) (mx_ct f m b w (mr_nV f m b)).toInt64
      rw [h1, h2, jt_vwn f m b (mx_cC f m b) (mx_nD f m) (mx_view y) (fun _ => 0)]
      rfl
    obtain ⟨a1, a2, a3, a4⟩ := jt_mw d (w + 1) (mx_m1 m b (mx_cC f m b) (mx_nD f m) w y) h0 h1 e
    simp only [mx_mw]
    rw [show w + (d + 1) = w + 1 + d by omega]
    exact ⟨a1, a2, a3, a4⟩
theorem jt_mb (y : mx_S) (h1 : mx_now y = f) : mx_h (mx_mb m (mx_nD f m) b (mx_cC f m b) y) = mr_hb f m b (mx_h y) ∧ (mx_now (mx_mb m (mx_nD f m) b (mx_cC f m b) y) = f ∧ mx_sv (mx_mb m (mx_nD f m) b (mx_cC f m b) y) = mx_sv y ∧ mx_past (mx_mb m (mx_nD f m) b (mx_cC f m b) y) = mx_past y) := by
  obtain ⟨a1, a2, a3, a4⟩ := jt_mw (m := m) (b := b) 4 0 y (mx_h y) h1 rfl
  rw [Nat.zero_add] at a1
  unfold mx_mb mr_hb
  rw [mxq_now_h, mxq_sv_h, mxq_past_h, mxq_h_h, a1, h1]
  exact ⟨rfl, a2, a3, a4⟩
theorem jt_mo : ∀ (d b : Nat) (y : mx_S) (h0 : Int64), mx_now y = f → mx_h y = mr_ho f m h0 b → mx_h (mx_mo m (mx_nD f m) (mx_cC f m) d b y) = mr_ho f m h0 (b + d) ∧ (mx_now (mx_mo m (mx_nD f m) (mx_cC f m) d b y) = f ∧ mx_sv (mx_mo m (mx_nD f m) (mx_cC f m) d b y) = mx_sv y ∧ mx_past (mx_mo m (mx_nD f m) (mx_cC f m) d b y) = mx_past y)
  | 0, b, y, h0, h1, h2 => ⟨h2, h1, rfl, rfl⟩
  | d + 1, b, y, h0, h1, h2 => by
    obtain ⟨c1, c2, c3, c4⟩ := jt_mb (m := m) (b := b) y h1
    have e : mx_h (mx_mb m (mx_nD f m) b (mx_cC f m b) y) = mr_ho f m h0 (b + 1) := by rw [c1, h2]; rfl
    obtain ⟨a1, a2, a3, a4⟩ := jt_mo d (b + 1) (mx_mb m (mx_nD f m) b (mx_cC f m b) y) h0 c2 e
    simp only [mx_mo]
    rw [show b + (d + 1) = b + 1 + d by omega]
    exact ⟨a1, a2, a3.trans c3, a4.trans c4⟩
theorem jt_mM (y : mx_S) (h1 : mx_now y = f) : mx_h (mx_mM m (mx_nD f m) (mx_cC f m) y) = mr_hM f m (mx_h y) ∧ (mx_now (mx_mM m (mx_nD f m) (mx_cC f m) y) = f ∧ mx_sv (mx_mM m (mx_nD f m) (mx_cC f m) y) = mx_sv y ∧ mx_past (mx_mM m (mx_nD f m) (mx_cC f m) y) = mx_past y) := by
  obtain ⟨a1, a2, a3, a4⟩ := jt_mo (m := m) 3 0 (mx_wh y (mx_hm (mx_h y) (mx_now y (294 + 58 * m)).toInt64)) (mx_hm (mx_h y) (mx_now y (294 + 58 * m)).toInt64) h1 rfl
  rw [Nat.zero_add] at a1
  unfold mx_mM mr_hM
  rw [mxq_now_h, mxq_sv_h, mxq_past_h, mxq_h_h, a1, a2, a3, a4, h1]
  exact ⟨rfl, rfl, mxq_sv_h _ _, mxq_past_h _ _⟩
theorem jt_Ms : ∀ (d m : Nat) (y : mx_S) (h0 : Int64), mx_now y = f → mx_h y = mr_hMs f h0 m → mx_h (mx_Ms (mx_nD f) (mx_cC f) d m y) = mr_hMs f h0 (m + d) ∧ (mx_now (mx_Ms (mx_nD f) (mx_cC f) d m y) = f ∧ mx_sv (mx_Ms (mx_nD f) (mx_cC f) d m y) = mx_sv y ∧ mx_past (mx_Ms (mx_nD f) (mx_cC f) d m y) = mx_past y)
  | 0, m, y, h0, h1, h2 => ⟨h2, h1, rfl, rfl⟩
  | d + 1, m, y, h0, h1, h2 => by
    obtain ⟨c1, c2, c3, c4⟩ := jt_mM (m := m) y h1
    have e : mx_h (mx_mM m (mx_nD f m) (mx_cC f m) y) = mr_hMs f h0 (m + 1) := by rw [c1, h2]; rfl
    obtain ⟨a1, a2, a3, a4⟩ := jt_Ms d (m + 1) (mx_mM m (mx_nD f m) (mx_cC f m) y) h0 c2 e
    simp only [mx_Ms]
    rw [show m + (d + 1) = m + 1 + d by omega]
    exact ⟨a1, a2, a3.trans c3, a4.trans c4⟩
theorem jt_hs (f : Nat → Int32) (h0 : Int64) : ∀ d b, mx_hs f (mx_cB f) (mx_gB f) d b (mr_hbs f h0 b) = mr_hbs f h0 (b + d)
  | 0, b => rfl
  | d + 1, b => by
    simp only [mx_hs]
    rw [show b + (d + 1) = b + 1 + d by omega]
    exact jt_hs f h0 d (b + 1)
end JU
section JT
variable (l : Launch) (E : mz_E) {G : mz_G} {sz ω o : Nat} {A : mx_A} {x : mx_S} {t kc ks : Nat}
/-- class and reference answer alike, and the state goes on: no wrapper -/
def jSd (l : Launch) (E : mz_E) (A : mx_A) (ω o t kc ks : Nat) (yX : MethodName) (cX : ByteArray) (nX : Nat) (rX : Option FieldType) (dX : Nat) (yR : MethodName) (cR : ByteArray) (nR : Nat) (rR : Option FieldType) (dR : Nat) (as : List Value) (Pv : Value → Prop) (G : mz_G) (sz : Nat) (x : mx_S) : Prop :=
  ∃ (mc : Nat) (post : Option Value → mz_G → Nat → Prop) (val : Value), mz_M l E yX cX nX rX dX mc mc (.ref ω :: as) G sz post ∧ ((kc + mc ≤ 400000 ∧ ks + mc ≤ 700000) ∧ Pv val) ∧ ∀ v G1 sz1, post v G1 sz1 → v = some val ∧ (mx_Ok A G1 ∧ mx_G A G1 x = G1) ∧ ∃ x' : mx_S, mx_M l E A G1 sz1 yR cR nR rR dR as x (some val) x' ∧ jJ A ω o (t + 1) (kc + mc) (ks + mc) (mx_G A G1 x') sz1 x'
theorem j_d0 {O : Nat → Nat} {B : Nat → Nat} {sv : Nat} {F : Nat → Nat → Int32} {Λ : Nat → Nat → Nat → Nat} {v1 v2 : Nat} {yX : MethodName} {cX : ByteArray} {nX : Nat} {rX : Option FieldType} {dX : Nat} {yR : MethodName} {cR : ByteArray} {nR : Nat} {rR : Option FieldType} {dR : Nat} {as : List Value} (hC : jC A ω o G O sz x B sv F Λ v1 v2) (hR : jR t x sv F) (hK : jK t kc ks Λ v1 v2) (ht : t < 512) (a : Int32) (hM : mz_M l E yX cX nX rX dX 0 0 (.ref ω :: as) G sz (fun v' G' sz' => v' = some (.int a) ∧ G' = G ∧ sz = sz')) (hRf : ∀ G1 sz1, mx_Ok A G1 → mx_M l E A G1 sz1 yR cR nR rR dR as x (some (.int a)) (mx_wrf x 0)) : jSd l E A ω o t kc ks yX cX nX rX dX yR cR nR rR dR as (fun v => ∃ a, v = .int a) G sz x := by
  obtain ⟨K1, K2⟩ := hK
  refine ⟨0, _, .int a, hM, ⟨by omega, a, rfl⟩, ?_⟩
  rintro v G1 sz1 ⟨q1, q2, q3⟩
  rw [q2, ← q3]
  exact ⟨q1, hC.1.2, mx_wrf x 0, hRf _ _ hC.1.2.1, O, B, sv, F, Λ, v1, v2, hC.ref _, hR.same rfl rfl rfl, by omega, by omega⟩
theorem jt_no {f : Nat → Int32} {q : Nat} (hq : q ≤ 10) (dd : Int32) {w : Nat} (hw : w < 3) : mt_c q 3 (mr_h f 29362 3) (mz_fi (fun k => mr_h f 29362 3 k 0) dd q) (nI w) = mx_no f q dd w := by
  have e : (fun k => mr_h f 29362 3 k 0) = mx_ng f := by
    funext k
    show f _ = f _
    congr 1 <;> omega
  rw [e]
  unfold mz_fi mx_no
  rcases mz_sor (mz_fz (mx_ng f) dd q) with p | ⟨k, p⟩
  · rw [p]
    exact mt_c_no
  · rw [p]
    show mt_c q 3 (mr_h f 29362 3) (nI k) (nI w) = _
    rw [mt_c_in (mz_fz_some p).1 hw (by omega) (by omega)]
    show f _ = f _
    congr 1 <;> omega
theorem st_outcome (hJ : jJ A ω o t kc ks G sz x) (ht : t < 512) (p1 : Int32) : jSd l E A ω o t kc ks yX5_outcome cX5_outcome 2 (some .int) 3 yX6_outcome cX6_outcome 2 (some .int) 2 [.int p1] (fun v => ∃ a, v = .int a) G sz x := by
  obtain ⟨O, B, sv, F, Λ, v1, v2, hC, hR, hK⟩ := hJ
  obtain ⟨hZ, U, hU⟩ := hC.sizes
  have e0 := hR.1.1
  have hcf := cf_outcome l E hC.1.1 p1
  rw [jt_no hZ.2.2.2.2 p1 (by omega)] at hcf
  have zQ := hZ.2.2.2
  rw [e0] at zQ
  exact j_d0 l E hC hR hK ht _ hcf (fun G1 sz1 hA1 => by rw [e0]; exact cm_outcome l E sz1 x hA1 (mx_nQ (mx_now x)) p1 zQ.1 zQ.2)
theorem st_nameOf (hJ : jJ A ω o t kc ks G sz x) (ht : t < 512) (p1 : Int32) : jSd l E A ω o t kc ks yX5_nameOf cX5_nameOf 2 (some .int) 3 yX6_nameOf cX6_nameOf 2 (some .int) 2 [.int p1] (fun v => ∃ a, v = .int a) G sz x := by
  obtain ⟨O, B, sv, F, Λ, v1, v2, hC, hR, hK⟩ := hJ
  obtain ⟨hZ, U, hU⟩ := hC.sizes
  have e0 := hR.1.1
  have hcf := cf_nameOf l E hC.1.1 p1
  rw [jt_no hZ.2.2.2.2 p1 (by omega)] at hcf
  have zQ := hZ.2.2.2
  rw [e0] at zQ
  exact j_d0 l E hC hR hK ht _ hcf (fun G1 sz1 hA1 => by rw [e0]; exact cm_nameOf l E sz1 x hA1 (mx_nQ (mx_now x)) p1 zQ.1 zQ.2)
theorem st_noted (hJ : jJ A ω o t kc ks G sz x) (ht : t < 512) (p1 : Int32) : jSd l E A ω o t kc ks yX5_noted cX5_noted 2 (some .int) 2 yX6_noted cX6_noted 2 (some .int) 2 [.int p1] (fun v => ∃ a, v = .int a) G sz x := by
  obtain ⟨O, B, sv, F, Λ, v1, v2, hC, hR, hK⟩ := hJ
  obtain ⟨hZ, U, hU⟩ := hC.sizes
  have e0 := hR.1.1
  have hcf := cf_noted l E hC.1.1 p1
  have eq1 : mt_c (mx_nQ (F 0)) 3 (mr_h (F 0) 29362 3) p1 (nI 0) = mx_nk (F 0) (mx_nQ (F 0)) p1 := by
    rw [jt_c (by omega) (by omega)]
    unfold mx_nk
    split
    · show F 0 _ = F 0 _
      congr 1 <;> omega
    · rfl
  rw [eq1] at hcf
  have zQ := hZ.2.2.2
  rw [e0] at zQ
  exact j_d0 l E hC hR hK ht _ hcf (fun G1 sz1 hA1 => by rw [e0]; exact cm_noted l E sz1 x hA1 (mx_nQ (mx_now x)) p1 zQ.1 zQ.2)
theorem st_settle (hJ : jJ A ω o t kc ks G sz x) (ht : t < 512) : jSd l E A ω o t kc ks yX5_settle cX5_settle 4 (some .int) 10 yX6_settle cX6_settle 4 (some .int) 7 [] (fun v => ∃ a, v = .int a) G sz x := by
  obtain ⟨O, B, sv, F, Λ, v1, v2, hC, hR, hK⟩ := hJ
  obtain ⟨hZ, U, hU⟩ := hC.sizes
  obtain ⟨K1, K2⟩ := hK
  have e0 := hR.1.1
  have hM := hC.1.1
  have h4 := hM.1.1.2.2
  have iv := hR.2.2.1
  have hcl := (hM.2.2.1 0 (by omega)).cL
  obtain ⟨s1, s2, s3⟩ := iv_settle iv hZ (by omega) (Λ 0)
  obtain ⟨le1, -⟩ := s1.le hcl
  obtain ⟨U2, hU2⟩ : ∃ U2, U2 + mr_Ph (iv_Rq (F 0) (Λ 0) (3 * 4 + 0)) = mr_Ph (Λ 0) := ⟨_, Nat.sub_add_cancel le1⟩
  have hcf := cf_settle l E hM U U2 hU s1 hU2
  have hfin := (iv_Sq_ok iv hZ (show t ≤ 512 by omega) 12 (by omega)).1
  have hP := mr_Pt_u (mr_kL sv F Λ) (i := 0) (by omega) (iv_Rq (F 0) (Λ 0) (3 * 4 + 0))
  rw [mr_kL_0] at hP
  refine ⟨U + U2, _, .int (nI (iv_Sq (F 0) (3 * 4 + 0)).2), hcf, ⟨by omega, _, rfl⟩, ?_⟩
  rintro v G1 sz1 ⟨rfl, O', q1, q2⟩
  have hC1 := hC.cls q2 q1
  have hcm := cm_settle l E sz1 x hC1.1.2.1 sv hR.1.2 h4 (iv_Q (F 0)) e0 s2 (fun m b => iv_Sq (F 0) (3 * m + b)) rfl s3
  exact ⟨rfl, hC1.1.2, _, hcm, O', _, _, _, _, v1, v2, hC1.ref _, hR.save h4 (hfin.mono (by omega)), by omega, by omega⟩
theorem st_checksum (hJ : jJ A ω o t kc ks G sz x) (ht : t < 512) : jSd l E A ω o t kc ks yX5_checksum cX5_checksum 4 (some .long) 9 yX6_checksum cX6_checksum 3 (some .long) 6 [] (fun v => ∃ a, v = .long a) G sz x := by
  obtain ⟨O, B, sv, F, Λ, v1, v2, hC, hR, hK⟩ := hJ
  obtain ⟨hZ, U, hU⟩ := hC.sizes
  obtain ⟨K1, K2⟩ := hK
  have e0 := hR.1.1
  have hM := hC.1.1
  have iv := hR.2.2.1
  have hcc : ∀ m b, m < 4 → b < 3 → mx_cC (F 0) m b < 532 := fun m b hm hb => iv.cc (by omega) hm hb
  have hnV := hM.nV hcc
  have hmo := mr_vM_mo (f := F 0) hM.2.2.2.1.2 hnV 4 0 (by omega)
  rw [Nat.zero_add] at hmo
  obtain ⟨Uv, hUv⟩ : ∃ Uv, Uv + mr_pv (mr_vM (F 0) v1 4) = mr_pv v1 := ⟨_, Nat.sub_add_cancel hmo⟩
  have hcf := cf_checksum l E hM hcc Uv hUv
  refine ⟨Uv, _, .long (mx_hm (mx_ml (F 0) 29392 (mx_hq (F 0) (mr_hMs (F 0) (mr_hbs (F 0) (lN 12861) 3) 4) (mx_nQ (F 0))) 7) (nI sv).toInt64), hcf, ⟨by omega, _, rfl⟩, ?_⟩
  rintro v G1 sz1 ⟨rfl, O', q1, q2⟩
  have hC1 := hC.cls q2 q1
  obtain ⟨zB, zC, zN, zQ⟩ := id hZ
  obtain ⟨y4, hy4⟩ : ∃ y4, y4 = mx_Ms (mx_nD (F 0)) (mx_cC (F 0)) 4 0 (mx_wh (mx_wrf x 0) (mx_hs (F 0) (mx_cB (F 0)) (mx_gB (F 0)) 3 0 (lN 12861))) := ⟨_, rfl⟩
  have hhs : mx_hs (F 0) (mx_cB (F 0)) (mx_gB (F 0)) 3 0 (lN 12861) = mr_hbs (F 0) (lN 12861) 3 := jt_hs (F 0) (lN 12861) 3 0
  obtain ⟨a1, a2, a3, a4⟩ := jt_Ms (f := F 0) 4 0 (mx_wh (mx_wrf x 0) (mx_hs (F 0) (mx_cB (F 0)) (mx_gB (F 0)) 3 0 (lN 12861))) (mx_hs (F 0) (mx_cB (F 0)) (mx_gB (F 0)) 3 0 (lN 12861)) e0.symm rfl
  rw [← hy4] at a1 a2 a3 a4
  rw [hhs, Nat.zero_add] at a1
  have hcm := cm_checksum l E sz1 x hC1.1.2.1 (mx_cB (F 0)) (mx_gB (F 0)) (mx_nD (F 0)) (mx_cC (F 0)) (mx_nQ (F 0)) (fun b hb => by rw [← e0]; exact zB b hb) (fun m hm => ⟨by rw [← e0]; exact zN m hm, fun b hb => by rw [← e0]; exact ⟨(zC m b hm hb).1, by have := (zC m b hm hb).2; omega⟩⟩) (by rw [← e0]; exact zQ.1) zQ.2 y4 (by rw [← e0]; exact hy4.symm) (mx_hm (mx_ml (F 0) 29392 (mx_hq (F 0) (mr_hMs (F 0) (mr_hbs (F 0) (lN 12861) 3) 4) (mx_nQ (F 0))) 7) (nI sv).toInt64) (by rw [← e0, a1, hR.1.2])
  exact ⟨rfl, hC1.1.2, _, hcm, O', B, sv, F, Λ, _, v2, hC1.ref _, hR.same (by show mx_now y4 = _; rw [a2, e0]) (by show mx_sv y4 = _; rw [a3]; rfl) (by show mx_past y4 = _; rw [a4]; rfl), by omega, by omega⟩
end JT

