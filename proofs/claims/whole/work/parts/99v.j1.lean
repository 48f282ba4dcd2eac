/-! ===== class and reference side by side ===== -/
section JJ
variable {G G' : mz_G} {O O' : Nat → Nat} {sz sz' ω o : Nat} {B : Nat → Nat} {sv : Nat} {F : Nat → Nat → Int32} {Λ : Nat → Nat → Nat → Nat} {v1 v2 : Nat} {A : mx_A} {x : mx_S}
theorem mr_M.fr {X : Nat → Prop} (h : mr_M G O sz ω B sv F Λ v1 v2) (hF : mt_F X G G' O O' sz sz') (hX : ∀ q, ω ≤ q → q < ω + 371 → ¬ X q) : mr_M G' O' sz' ω B sv F Λ v1 v2 := by
  obtain ⟨⟨⟨⟨⟨k0, o0, z0⟩, r0, r1, r3, r4⟩, i2, s4⟩, ⟨⟨k1, o1, z1⟩, n1⟩, hr⟩, ⟨hd1, hd2⟩, hst, ⟨⟨n5, h5, t5⟩, c5⟩, ⟨n7, h7, t7⟩, c7⟩ := h
  obtain ⟨⟨a1, a2⟩, a3, a4, a5, a6⟩ := hF.at o0 z0 (hX _ (by omega) (by omega))
  obtain ⟨⟨b1, b2⟩, b3, b4, b5, b6⟩ := hF.at o1 z1 (hX _ (by omega) (by omega))
  refine ⟨⟨⟨⟨⟨by rw [a3, k0], a1, a2⟩, by rw [a6, r0], by rw [a6, r1], by rw [a6, r3], by rw [a6, r4]⟩, by rw [a5, i2], s4⟩, ⟨⟨by rw [b3, k1], b1, b2⟩, by rw [b4, n1]⟩, fun j hj => by rw [b6]; exact hr j hj⟩, ⟨hd1, hd2⟩, fun j hj => ?_, ⟨⟨n5, h5, t5.fr hF (hX _ (by omega) (by omega))⟩, c5⟩, ⟨n7, h7, t7.fr hF (hX _ (by omega) (by omega))⟩, c7⟩
  have := hd2 j hj
  exact (hst j hj).fr hF (fun q h1 h2 => hX q (by omega) (by omega)) (fun _ _ => rfl)
theorem mr_M.cF {F' : Nat → Nat → Int32} (h : mr_M G O sz ω B sv F Λ v1 v2) (e : ∀ i, i < 5 → ∀ j, j < 29401 → F' i j = F i j) : mr_M G O sz ω B sv F' Λ v1 v2 :=
  ⟨h.1, h.2.1, fun i hi => (h.2.2.1 i hi).cong (e i hi), h.2.2.2⟩
/-- what the reference's object holds -/
def mx_Rd (A : mx_A) (G : mz_G) (x : mx_S) : Prop :=
  (mz_i G A.2.1 = mx_now x ∧ mz_i G A.2.2.1 = mx_past x ∧ mz_i G A.2.2.2.1 = mx_view x ∧ mz_i G A.2.2.2.2 = mx_bef x) ∧ (mz_i G A.1 2 = mx_sv x ∧ mz_i G A.1 3 = mx_rf x ∧ mz_i G A.1 4 = mx_vm x) ∧ mz_l G A.1 7 = mx_h x
theorem mx_rd_of (hA : mx_Ok A G) (hx : mx_G A G x = G) : mx_Rd A G x := by
  have h1 := mx_in (A := A) (G := G) (x := x)
  have h2 := mx_ip (x := x) hA
  have h3 := mx_iv (x := x) hA
  have h4 := mx_ib (x := x) hA
  have h5 := mx_i2 (x := x) hA
  have h6 := mx_i3 (x := x) hA
  have h7 := mx_i4 (x := x) hA
  have h8 := mx_l7 (A := A) (G := G) (x := x)
  rw [hx] at h1 h2 h3 h4 h5 h6 h7 h8
  exact ⟨⟨h1, h2, h3, h4⟩, ⟨h5, h6, h7⟩, h8⟩
theorem mx_of_rd (h : mx_Rd A G x) : mx_G A G x = G := by
  obtain ⟨⟨h1, h2, h3, h4⟩, ⟨h5, h6, h7⟩, h8⟩ := h
  refine Prod.ext rfl (Prod.ext rfl (Prod.ext ?_ (Prod.ext rfl ?_)))
  · funext q
    show (if q = A.2.1 then _ else if q = A.2.2.1 then _ else if q = A.2.2.2.1 then _ else if q = A.2.2.2.2 then _ else if q = A.1 then _ else _) = mz_i G q
    split
    · rename_i h; rw [h, h1]
    · split
      · rename_i h; rw [h, h2]
      · split
        · rename_i h; rw [h, h3]
        · split
          · rename_i h; rw [h, h4]
          · split
            · rename_i h
              funext j
              split
              · rename_i hj; rw [h, hj, h5]
              · split
                · rename_i hj; rw [h, hj, h6]
                · split
                  · rename_i hj; rw [h, hj, h7]
                  · rfl
            · rfl
  · funext q j
    show (if q = A.1 then (if j = 7 then _ else mz_l G q j) else mz_l G q j) = mz_l G q j
    split
    · rename_i h
      split
      · rename_i hj; rw [h, hj, h8]
      · rfl
    · rfl
def jC (A : mx_A) (ω o : Nat) (G : mz_G) (O : Nat → Nat) (sz : Nat) (x : mx_S) (B : Nat → Nat) (sv : Nat) (F : Nat → Nat → Int32) (Λ : Nat → Nat → Nat → Nat) (v1 v2 : Nat) : Prop :=
  (mr_M G O sz ω B sv F Λ v1 v2 ∧ (mx_Ok A G ∧ mx_G A G x = G)) ∧ (∀ q, mx_Y A q → O q = q ∧ q < sz ∧ ¬ mr_ZZ ω q) ∧ ((mz_K G o = 12 ∧ mz_n G o = 1) ∧ (O o = o ∧ o < sz) ∧ ¬ mr_ZZ ω o ∧ ¬ mx_Y A o)
theorem jC.cls {B' : Nat → Nat} {sv' : Nat} {F' : Nat → Nat → Int32} {Λ' : Nat → Nat → Nat → Nat} {v1' v2' : Nat} (h : jC A ω o G O sz x B sv F Λ v1 v2) (hF : mt_F (mr_ZZ ω) G G' O O' sz sz') (hM : mr_M G' O' sz' ω B' sv' F' Λ' v1' v2') : jC A ω o G' O' sz' x B' sv' F' Λ' v1' v2' := by
  obtain ⟨⟨-, hA, hx⟩, hY, ⟨k, n⟩, ⟨oo, oz⟩, oZ, oY⟩ := h
  have at_ : ∀ q, mx_Y A q → (O' q = q ∧ q < sz') ∧ mz_K G' q = mz_K G q ∧ mz_n G' q = mz_n G q ∧ mz_i G' q = mz_i G q ∧ mz_r G' q = mz_r G q ∧ mz_l G' q = mz_l G q := fun q hq => by
    obtain ⟨a, b, c⟩ := hY q hq
    obtain ⟨d, e⟩ := hF.2 q b
    exact ⟨⟨d.trans a, Nat.lt_of_lt_of_le b hF.1⟩, e (by rw [a]; exact c)⟩
  obtain ⟨-, a0, b0, c0, d0, e0⟩ := at_ A.1 (Or.inl rfl)
  obtain ⟨-, a1, b1, c1, d1, e1⟩ := at_ A.2.1 (Or.inr (Or.inl rfl))
  obtain ⟨-, a2, b2, c2, d2, e2⟩ := at_ A.2.2.1 (Or.inr (Or.inr (Or.inl rfl)))
  obtain ⟨-, a3, b3, c3, d3, e3⟩ := at_ A.2.2.2.1 (Or.inr (Or.inr (Or.inr (Or.inl rfl))))
  obtain ⟨-, a4, b4, c4, d4, e4⟩ := at_ A.2.2.2.2 (Or.inr (Or.inr (Or.inr (Or.inr rfl))))
  obtain ⟨⟨r1, r2, r3, r4⟩, ⟨r5, r6, r7⟩, r8⟩ := mx_rd_of hA hx
  obtain ⟨p1, p2, p3, p4, p5⟩ := hF.at oo oz oZ
  refine ⟨⟨hM, ?_, mx_of_rd ⟨⟨by rw [c1, r1], by rw [c2, r2], by rw [c3, r3], by rw [c4, r4]⟩, ⟨by rw [c0, r5], by rw [c0, r6], by rw [c0, r7]⟩, by rw [e0, r8]⟩⟩, fun q hq => ⟨(at_ q hq).1.1, (at_ q hq).1.2, (hY q hq).2.2⟩, ⟨by rw [p2, k], by rw [p3, n]⟩, p1, oZ, oY⟩
  obtain ⟨⟨q1, q2, q3, q4, q5⟩, ⟨q6, q7, q8, q9⟩, ⟨q10, q11, q12, q13⟩, q14⟩ := hA
  exact ⟨⟨by rw [a0, q1], by rw [d0, q2], by rw [d0, q3], by rw [d0, q4], by rw [d0, q5]⟩, ⟨by rw [a1, q6], by rw [a2, q7], by rw [a3, q8], by rw [a4, q9]⟩, ⟨by rw [b1, q10], by rw [b2, q11], by rw [b3, q12], by rw [b4, q13]⟩, q14⟩
theorem jC.gr (h : jC A ω o G O sz x B sv F Λ v1 v2) (hs : sz ≤ sz') : jC A ω o G O sz' x B sv F Λ v1 v2 := by
  have hF : mt_F (mr_ZZ ω) G G O O sz sz' := ⟨hs, fun _ _ => ⟨rfl, fun _ => ⟨rfl, rfl, rfl, rfl, rfl⟩⟩⟩
  exact h.cls hF (h.1.1.fr (X := fun _ => False) ⟨hs, fun _ _ => ⟨rfl, fun _ => ⟨rfl, rfl, rfl, rfl, rfl⟩⟩⟩ (fun _ _ _ z => z))
theorem jC.out (h : jC A ω o G O sz x B sv F Λ v1 v2) (v : Int64) : jC A ω o (mz_sl G o 0 v) O sz x B sv F Λ v1 v2 := by
  obtain ⟨⟨hM, hA, hx⟩, hY, ⟨k, n⟩, ⟨oo, oz⟩, oZ, oY⟩ := h
  have hF : mt_F (fun q => q = o) G (mz_sl G o 0 v) O O sz sz := ⟨Nat.le_refl _, fun q _ => ⟨rfl, fun hX => ⟨rfl, rfl, rfl, rfl, by funext i; exact mz_u2_a _ _ _ _ (fun z => hX (by rw [z]; exact oo))⟩⟩⟩
  obtain ⟨⟨r1, r2, r3, r4⟩, ⟨r5, r6, r7⟩, r8⟩ := mx_rd_of hA hx
  refine ⟨⟨hM.fr hF (fun q h1 h2 z => oZ (by rw [← z]; exact ⟨h1, h2⟩)), hA, mx_of_rd ⟨⟨r1, r2, r3, r4⟩, ⟨r5, r6, r7⟩, ?_⟩⟩, hY, ⟨k, n⟩, ⟨oo, oz⟩, oZ, oY⟩
  show mz_u2 (mz_l G) o 0 v A.1 7 = _
  rw [mz_u2_a _ _ _ _ (fun z => oY (Or.inl z.symm)), r8]
theorem jC.ref (h : jC A ω o G O sz x B sv F Λ v1 v2) (x' : mx_S) : jC A ω o (mx_G A G x') O sz x' B sv F Λ v1 v2 := by
  obtain ⟨⟨hM, hA, hx⟩, hY, ⟨k, n⟩, ⟨oo, oz⟩, oZ, oY⟩ := h
  exact ⟨⟨hM.fr (mx_F x' (fun q hq => (hY q hq).1)) (fun q h1 h2 z => (hY q z).2.2 ⟨h1, h2⟩), hA, mx_GG A G x' x'⟩, hY, ⟨k, n⟩, ⟨oo, oz⟩, oZ, oY⟩
def jR (t : Nat) (x : mx_S) (sv : Nat) (F : Nat → Nat → Int32) : Prop :=
  (F 0 = mx_now x ∧ mx_sv x = nI sv) ∧ (∀ j, j < sv → ∀ i, i < 29401 → F (j + 1) i = mx_past x (29401 * j + i)) ∧ iv_T t (F 0) ∧ ∀ j, j < sv → iv_T t (F (j + 1))
theorem jR.same {t : Nat} {x' : mx_S} (h : jR t x sv F) (h1 : mx_now x' = mx_now x) (h2 : mx_sv x' = mx_sv x) (h3 : mx_past x' = mx_past x) : jR (t + 1) x' sv F := by
  obtain ⟨⟨a, b⟩, c, d, e⟩ := h
  exact ⟨⟨by rw [h1]; exact a, by rw [h2]; exact b⟩, fun j hj i hi => by rw [h3]; exact c j hj i hi, d.mono (by omega), fun j hj => (e j hj).mono (by omega)⟩
theorem jR.save {t : Nat} {f' : Nat → Int32} (h : jR t x sv F) (h4 : sv ≤ 4) (hf : iv_T (t + 1) f') : jR (t + 1) (mx_wnow (mx_sav (mx_wrf x 0) sv) f') (mr_ks sv) (mz_u1 (mr_kF sv F) 0 f') := by
  obtain ⟨⟨a, b⟩, c, d, e⟩ := h
  have past : ∀ i, mx_past (mx_wnow (mx_sav (mx_wrf x 0) sv) f') i = mz_cy (if sv = 4 then mz_sf (mx_past x) 0 88203 29401 else mx_past x) (mx_now x) (29401 * (if sv = 4 then 3 else sv)) 29401 i := fun i => rfl
  by_cases h : sv = 4
  · subst h
    have eF : ∀ j, j < 4 → mz_u1 (mr_kF 4 F) 0 f' (j + 1) = if j = 3 then F 0 else F (j + 2) := fun j hj => by
      rw [mz_u1_o _ _ (by omega)]
      unfold mr_kF mr_ks mr_kr
      rw [if_neg (by omega), if_neg (by omega)]
      by_cases h3 : j = 3
      · rw [if_pos h3, h3, mz_u1_s]
      · rw [if_neg h3, mz_u1_o _ _ (by omega)]
        unfold mr_rot
        rw [if_neg (by omega), if_neg (by omega)]
    have k4 : mr_ks 4 = 4 := rfl
    refine ⟨⟨mz_u1_s _ _ _, rfl⟩, fun j hj i hi => ?_, by rw [mz_u1_s]; exact hf, fun j hj => ?_⟩
    · rw [k4] at hj
      rw [eF j hj, past, if_pos rfl, if_pos rfl]
      unfold mz_cy
      by_cases h3 : j = 3
      · rw [if_pos h3, if_pos (by omega), a, show 29401 * j + i - 29401 * 3 = i by omega]
      · rw [if_neg h3, if_neg (by omega), c (j + 1) (by omega) i hi]
        unfold mz_sf
        rw [if_pos (by omega), show 29401 * j + i + 29401 = 29401 * (j + 1) + i by omega]
    · rw [k4] at hj
      rw [eF j hj]
      split
      · exact d.mono (by omega)
      · exact (e (j + 1) (by omega)).mono (by omega)
  · have hlt : sv < 4 := by omega
    have ks : mr_ks sv = sv + 1 := if_pos hlt
    have eF : ∀ j, j < sv + 1 → mz_u1 (mr_kF sv F) 0 f' (j + 1) = if j = sv then F 0 else F (j + 1) := fun j hj => by
      rw [mz_u1_o _ _ (by omega)]
      unfold mr_kF mr_kr
      rw [ks, if_pos hlt]
      by_cases h3 : j = sv
      · rw [if_pos h3, h3, mz_u1_s]
      · rw [if_neg h3, mz_u1_o _ _ (by omega)]
    refine ⟨⟨mz_u1_s _ _ _, ?_⟩, fun j hj i hi => ?_, by rw [mz_u1_s]; exact hf, fun j hj => ?_⟩
    · rw [ks]
      show nI ((if sv = 4 then 3 else sv) + 1) = nI (sv + 1)
      rw [if_neg h]
    · rw [ks] at hj
      rw [eF j hj, past, if_neg h, if_neg h]
      unfold mz_cy
      by_cases h3 : j = sv
      · rw [if_pos h3, if_pos (by omega), a, show 29401 * j + i - 29401 * sv = i by rw [h3]; omega]
      · rw [if_neg h3, if_neg (by omega), c j (by omega) i hi]
    · rw [ks] at hj
      rw [eF j hj]
      split
      · exact d.mono (by omega)
      · exact (e j (by omega)).mono (by omega)
def jK (t kc ks : Nat) (Λ : Nat → Nat → Nat → Nat) (v1 v2 : Nat) : Prop := kc + (mr_Pt Λ + mr_pv v1 + mr_pv v2) ≤ 300000 + t ∧ ks + (mr_Pt Λ + mr_pv v1 + mr_pv v2) ≤ 600000 + 6 * t
/-- the law's state after t calls: kc cells, ks slots used -/
def jJ (A : mx_A) (ω o t kc ks : Nat) (G : mz_G) (sz : Nat) (x : mx_S) : Prop :=
  ∃ (O : Nat → Nat) (B : Nat → Nat) (sv : Nat) (F : Nat → Nat → Int32) (Λ : Nat → Nat → Nat → Nat) (v1 v2 : Nat), jC A ω o G O sz x B sv F Λ v1 v2 ∧ jR t x sv F ∧ jK t kc ks Λ v1 v2
end JJ

