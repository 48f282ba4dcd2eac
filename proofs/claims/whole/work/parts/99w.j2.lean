/-! ===== one call of the law ===== -/
section JS
variable (l : Launch) (E : mz_E) {G : mz_G} {O : Nat → Nat} {sz ω o : Nat} {B : Nat → Nat} {sv : Nat} {F : Nat → Nat → Int32} {Λ : Nat → Nat → Nat → Nat} {v1 v2 : Nat} {A : mx_A} {x : mx_S} {t kc ks : Nat}
variable {yX : MethodName} {cX : ByteArray} {nX : Nat} {rX : Option FieldType} {dX : Nat} {yL : MethodName} {cL : ByteArray} {nL : Nat} {hh : List (Nat × Nat × Nat × Nat)} {dL : Nat} {yR : MethodName} {cR : ByteArray} {nR : Nat} {rR : Option FieldType} {dR : Nat} {as : List Value} {ok : Int32 → Int64}
/-- wrapper and reference answer alike, and the state goes on -/
def jSt (l : Launch) (E : mz_E) (A : mx_A) (ω o t kc ks : Nat) (yL : MethodName) (cL : ByteArray) (nL : Nat) (hh : List (Nat × Nat × Nat × Nat)) (dL : Nat) (yR : MethodName) (cR : ByteArray) (nR : Nat) (rR : Option FieldType) (dR : Nat) (as : List Value) (ok : Int32 → Int64) (G : mz_G) (sz : Nat) (x : mx_S) : Prop :=
  ∃ (mc ms : Nat) (post : Option Value → mz_G → Nat → Prop) (k : Nat), mz_N l E yL cL nL (some .int) hh dL mc ms (.ref ω :: (as ++ [.ref o])) G sz post ∧ ((kc + mc ≤ 400000 ∧ ks + ms ≤ 700000) ∧ k < 4) ∧ ∀ v G1 sz1, post v G1 sz1 → v = some (.int (nI k)) ∧ (mx_Ok A G1 ∧ mx_G A G1 x = G1) ∧ ∃ (x' : mx_S) (bv : Int32), mx_M l E A G1 sz1 yR cR nR rR dR as x (some (.int bv)) x' ∧ (mx_rf x' = nI k ∧ (k = 0 → mz_l G1 o 0 = ok bv)) ∧ jJ A ω o (t + 1) (kc + mc) (ks + ms) (mx_G A G1 x') sz1 x'
abbrev jW (l : Launch) (E : mz_E) (ω o : Nat) (yX : MethodName) (cX : ByteArray) (nX : Nat) (rX : Option FieldType) (dX : Nat) (yL : MethodName) (cL : ByteArray) (nL : Nat) (hh : List (Nat × Nat × Nat × Nat)) (dL : Nat) (as : List Value) (ok : Int32 → Int64) (G : mz_G) (sz : Nat) : Prop :=
  ∀ (mc ms : Nat) (post : Option Value → mz_G → Nat → Prop), mz_M l E yX cX nX rX dX mc ms (.ref ω :: as) G sz post → (∀ v G' sz', post v G' sz' → ∃ z, v = some (.int z) ∧ mz_K G' o = 12 ∧ mz_n G' o = 1) → mz_N l E yL cL nL (some .int) hh dL mc ms (.ref ω :: (as ++ [.ref o])) G sz (fun v' G' sz' => v' = some (.int (nI 0)) ∧ ∃ z G1, post (some (.int z)) G1 sz' ∧ G' = mz_sl G1 o 0 (ok z))
theorem j_R (hC : jC A ω o G O sz x B sv F Λ v1 v2) (hR : jR t x sv F) (hK : jK t kc ks Λ v1 v2) (ht : t < 512) (k : Nat) (hk : 0 < k ∧ k < 4) (hN : mz_N l E yL cL nL (some .int) hh dL 1 6 (.ref ω :: (as ++ [.ref o])) G sz (fun v' G' sz' => v' = some (.int (nI k)) ∧ G' = G ∧ sz ≤ sz')) (hRf : ∀ sz1, mx_M l E A G sz1 yR cR nR rR dR as x (some (.int 0)) (mx_wrf x (nI k))) : jSt l E A ω o t kc ks yL cL nL hh dL yR cR nR rR dR as ok G sz x := by
  obtain ⟨K1, K2⟩ := hK
  refine ⟨1, 6, _, k, hN, ⟨by omega, hk.2⟩, ?_⟩
  rintro v G1 sz1 ⟨e1, e2, e3⟩
  rw [e2]
  have hC1 := (hC.gr e3).ref (mx_wrf x (nI k))
  exact ⟨e1, hC.1.2, mx_wrf x (nI k), 0, hRf sz1, ⟨rfl, fun z => absurd z (by omega)⟩, O, B, sv, F, Λ, v1, v2, hC1, hR.same rfl rfl rfl, by omega, by omega⟩
theorem j_V (hC : jC A ω o G O sz x B sv F Λ v1 v2) (hR : jR t x sv F) (hK : jK t kc ks Λ v1 v2) (ht : t < 512) {mc v1' v2' : Nat} (hc : mc + (mr_pv v1' + mr_pv v2') = mr_pv v1 + mr_pv v2) (a : Int32) (hM : mz_M l E yX cX nX rX dX mc mc (.ref ω :: as) G sz (fun v' G' sz' => v' = some (.int a) ∧ ∃ O', mr_M G' O' sz' ω B sv F Λ v1' v2' ∧ mt_F (mr_ZZ ω) G G' O O' sz sz')) (hw : jW l E ω o yX cX nX rX dX yL cL nL hh dL as ok G sz) {x' : mx_S} (hRf : ∀ G1 sz1, mx_Ok A G1 → mx_M l E A G1 sz1 yR cR nR rR dR as x (some (.int a)) x') (h1 : mx_now x' = mx_now x) (h2 : mx_sv x' = mx_sv x) (h3 : mx_past x' = mx_past x) (h4 : mx_rf x' = 0) : jSt l E A ω o t kc ks yL cL nL hh dL yR cR nR rR dR as ok G sz x := by
  obtain ⟨K1, K2⟩ := hK
  have hcl : ∀ {G' : mz_G} {sz' : Nat} {O' : Nat → Nat}, mr_M G' O' sz' ω B sv F Λ v1' v2' → mt_F (mr_ZZ ω) G G' O O' sz sz' → jC A ω o G' O' sz' x B sv F Λ v1' v2' := fun h1 h2 => hC.cls h2 h1
  have hN := hw mc mc _ hM (by
    rintro v G' sz' ⟨rfl, O', q1, q2⟩
    exact ⟨a, rfl, (hcl q1 q2).2.2.1⟩)
  refine ⟨mc, mc, _, 0, hN, ⟨by omega, by omega⟩, ?_⟩
  rintro v G1 sz1 ⟨rfl, z, G2, ⟨ez, O', q1, q2⟩, rfl⟩
  have hC1 := (hcl q1 q2).out (ok z)
  have ez : z = a := by injection ez with e; injection e
  subst ez
  refine ⟨rfl, hC1.1.2, x', z, hRf _ _ hC1.1.2.1, ⟨h4, fun _ => ?_⟩, O', B, sv, F, Λ, v1', v2', hC1.ref x', hR.same h1 h2 h3, by omega, by omega⟩
  show mz_u2 (mz_l G2) o 0 (ok z) o 0 = _
  rw [mz_u2_s]
theorem j_V0 (hC : jC A ω o G O sz x B sv F Λ v1 v2) (hR : jR t x sv F) (hK : jK t kc ks Λ v1 v2) (ht : t < 512) (a : Int32) (hM : mz_M l E yX cX nX rX dX 0 0 (.ref ω :: as) G sz (fun v' G' sz' => v' = some (.int a) ∧ G' = G ∧ sz = sz')) (hw : jW l E ω o yX cX nX rX dX yL cL nL hh dL as ok G sz) {x' : mx_S} (hRf : ∀ G1 sz1, mx_Ok A G1 → mx_M l E A G1 sz1 yR cR nR rR dR as x (some (.int a)) x') (h1 : mx_now x' = mx_now x) (h2 : mx_sv x' = mx_sv x) (h3 : mx_past x' = mx_past x) (h4 : mx_rf x' = 0) : jSt l E A ω o t kc ks yL cL nL hh dL yR cR nR rR dR as ok G sz x :=
  j_V l E hC hR hK ht (v1' := v1) (v2' := v2) (Nat.zero_add _) a (hM.wk (Nat.le_refl _) (Nat.le_refl _) (by
    rintro v G' sz' ⟨q1, q2, q3⟩
    rw [q2, ← q3]
    exact ⟨q1, O, hC.1.1, mt_F.rf⟩)) hw hRf h1 h2 h3 h4
theorem j_S (hC : jC A ω o G O sz x B sv F Λ v1 v2) (hR : jR t x sv F) (hK : jK t kc ks Λ v1 v2) (ht : t < 512) (a : Int32) (f' : Nat → Int32) (L' : Nat → Nat → Nat) (U U2 : Nat) (hU : U + mr_Pt (mr_kL sv F Λ) = mr_Pt Λ) (hU2 : U2 + mr_Ph L' = mr_Ph (Λ 0)) (hf : iv_T (t + 1) f') (hM : mz_M l E yX cX nX rX dX (U + U2) (U + U2) (.ref ω :: as) G sz (fun v' G' sz' => v' = some (.int a) ∧ mr_Q G O sz ω B sv F Λ v1 v2 f' L' G' sz')) (hw : jW l E ω o yX cX nX rX dX yL cL nL hh dL as ok G sz) (hRf : ∀ G1 sz1, mx_Ok A G1 → mx_M l E A G1 sz1 yR cR nR rR dR as x (some (.int a)) (mx_wnow (mx_sav (mx_wrf x 0) sv) f')) : jSt l E A ω o t kc ks yL cL nL hh dL yR cR nR rR dR as ok G sz x := by
  obtain ⟨K1, K2⟩ := hK
  have h4 := hC.1.1.1.1.2.2
  have hP := mr_Pt_u (mr_kL sv F Λ) (i := 0) (by omega) L'
  rw [mr_kL_0] at hP
  have hN := hw _ _ _ hM (by
    rintro v G' sz' ⟨rfl, O', q1, q2⟩
    exact ⟨a, rfl, (hC.cls q2 q1).2.2.1⟩)
  refine ⟨_, _, _, 0, hN, ⟨by omega, by omega⟩, ?_⟩
  rintro v G1 sz1 ⟨rfl, z, G2, ⟨ez, O', q1, q2⟩, rfl⟩
  have hC1 := (hC.cls q2 q1).out (ok z)
  have ez : z = a := by injection ez with e; injection e
  subst ez
  refine ⟨rfl, hC1.1.2, _, z, hRf _ _ hC1.1.2.1, ⟨rfl, fun _ => ?_⟩, O', _, _, _, _, v1, v2, hC1.ref _, hR.save h4 hf, by omega, by omega⟩
  show mz_u2 (mz_l G2) o 0 (ok z) o 0 = _
  rw [mz_u2_s]
end JS
/-- what the sizes say, at hand -/
theorem jC.sizes {G : mz_G} {O : Nat → Nat} {sz ω o : Nat} {B : Nat → Nat} {sv : Nat} {F : Nat → Nat → Int32} {Λ : Nat → Nat → Nat → Nat} {v1 v2 : Nat} {A : mx_A} {x : mx_S} (hC : jC A ω o G O sz x B sv F Λ v1 v2) : iv_Z (F 0) ∧ ∃ U, U + mr_Pt (mr_kL sv F Λ) = mr_Pt Λ :=
  ⟨(hC.1.1.2.2.1 0 (by omega)).Z, _, by rw [Nat.add_comm]; exact hC.1.1.kL⟩

