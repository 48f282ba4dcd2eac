/-! ===== the class: a machine's parts change; the state ===== -/
theorem mr_CA_lt {m b b' : Nat} (h : b < b') : mx_CA m b + 2403 ≤ mx_CA m b' := by unfold mx_CA; omega
section MRK
variable {X : Nat → Prop} {G G' : mz_G} {O O' : Nat → Nat} {sz sz' κ : Nat} {f f' : Nat → Int32} {m b cc' len' : Nat} {Λ : Nat → Nat}
theorem mr_K.cp (h : mr_K G O sz κ f m Λ) (hm : m < 4) (hb : b < 3) (hF : mt_F (mr_Y (κ + 4 + 3 * b) (κ + 4 + 3 * b + 1)) G G' O O' sz sz') (hY : mr_C G' O' sz' (κ + 4 + 3 * b) (κ + 4 + 3 * b + 1) f' m b cc' len') (hch : mr_ch len') (e : ∀ i, ¬ (mx_CA m b ≤ i ∧ i < mx_CA m b + 2403) → f' i = f i) : mr_K G' O' sz' κ f' m (mz_u1 Λ b len') := by
  have ho := h.ob hF (fun z => by rcases z with z | z <;> omega) (fun z => by rcases z with z | z <;> omega)
  obtain ⟨-, ⟨t, hn⟩, hc⟩ := h
  have hCA : 526 ≤ mx_CA m b := by unfold mx_CA; omega
  have en : mx_nD f' m = mx_nD f m := mr_nD_cong (e _ (by omega))
  obtain ⟨n8, -, -⟩ := t.b
  refine ⟨⟨⟨ho.1.1, by rw [e _ (by omega)]; exact ho.1.2.1, ho.1.2.2⟩, ho.2⟩, ⟨?_, by rw [en, e _ (by omega)]; exact hn⟩, fun c hc3 => ?_⟩
  · rw [en]
    exact (t.fr hF (fun z => by rcases z with z | z <;> omega)).same (fun k j h1 h2 => (e (294 + 58 * m + 1 + 1 + 7 * k + j) (by omega)).symm)
  · by_cases hcb : c = b
    · subst hcb
      have e1 : mx_cC f' m c = cc' := mr_nI_cl hY.2 (by have := hY.1.2.b; omega)
      rw [mz_u1_s, e1]
      exact ⟨hY, hch⟩
    · rw [mz_u1_o _ _ hcb]
      have hdis : ∀ i, mx_CA m c ≤ i → i < mx_CA m c + 2403 → f' i = f i := by
        intro i h1 h2
        refine e i ?_
        rcases Nat.lt_or_gt_of_ne hcb with h3 | h3
        · have := mr_CA_lt (m := m) h3; omega
        · have := mr_CA_lt (m := m) h3; omega
      rw [mr_cC_cong (hdis _ (by omega) (by omega))]
      exact ⟨((hc c hc3).1.fr hF (fun z => by rcases z with z | z <;> omega) (fun z => by rcases z with z | z <;> omega)).cong hdis, (hc c hc3).2⟩
theorem mr_K.dd {n' : Nat} (h : mr_K G O sz κ f m Λ) (hm : m < 4) (hF : mt_F (fun q => q = κ + 2) G G' O O' sz sz') (ht : mt_T G' O' sz' (κ + 2) 7 8 n' 56 (mr_h f' (294 + 58 * m + 1) 7)) (hn : f' (294 + 58 * m + 1) = nI n') (e : ∀ i, ¬ (294 + 58 * m + 1 ≤ i ∧ i < 294 + 58 * m + 58) → f' i = f i) : mr_K G' O' sz' κ f' m Λ := by
  have ho := h.ob hF (fun z => by omega) (fun z => by omega)
  obtain ⟨-, -, hc⟩ := h
  have en : mx_nD f' m = n' := mr_nI_cl hn (by have := ht.b; omega)
  refine ⟨⟨⟨ho.1.1, by rw [e _ (by omega)]; exact ho.1.2.1, ho.1.2.2⟩, ho.2⟩, ⟨by rw [en]; exact ht, by rw [en]; exact hn⟩, fun c hc3 => ?_⟩
  have hCA : 526 ≤ mx_CA m c := by unfold mx_CA; omega
  rw [mr_cC_cong (e _ (by omega))]
  exact ⟨((hc c hc3).1.fr hF (fun z => by omega) (fun z => by omega)).cong (fun i h1 h2 => e i (by omega)), (hc c hc3).2⟩
theorem mr_K.pol (h : mr_K G O sz κ f m Λ) (hm : m < 4) (v : Int32) : mr_K (mz_si G κ 0 v) O sz κ (mz_u1 f (294 + 58 * m) v) m Λ ∧ mt_F (fun q => q = κ) G (mz_si G κ 0 v) O O sz sz := by
  obtain ⟨⟨⟨⟨hK, hO, hs⟩, i0, r12⟩, ha⟩, ⟨t, hn⟩, hc⟩ := h
  have hF : mt_F (fun q => q = κ) G (mz_si G κ 0 v) O O sz sz := mt_F_si hO
  have en : mx_nD (mz_u1 f (294 + 58 * m) v) m = mx_nD f m := mr_nD_cong (mz_u1_o _ _ (by omega))
  refine ⟨⟨⟨⟨⟨hK, hO, hs⟩, ?_, r12⟩, ha⟩, ⟨?_, by rw [en, mz_u1_o _ _ (by omega)]; exact hn⟩, fun c hc3 => ?_⟩, hF⟩
  · show mz_u2 (mz_i G) κ 0 v κ 0 = _
    rw [mz_u2_s, mz_u1_s]
  · rw [en]
    exact (t.fr hF (fun z => by omega)).same (fun k j h1 h2 => by show f _ = mz_u1 f _ v _; rw [mz_u1_o _ _ (by omega)])
  · have hCA : 526 ≤ mx_CA m c := by unfold mx_CA; omega
    rw [mr_cC_cong (f := f) (mz_u1_o _ _ (by omega))]
    exact ⟨((hc c hc3).1.fr hF (fun z => by omega) (fun z => by omega)).cong (fun i h1 h2 => mz_u1_o _ _ (by omega)), (hc c hc3).2⟩
theorem mr_K.lam {Λ' : Nat → Nat} (h : mr_K G O sz κ f m Λ) (e : ∀ b, b < 3 → Λ' b = Λ b) : mr_K G O sz κ f m Λ' := by
  obtain ⟨h1, h2, hc⟩ := h
  exact ⟨h1, h2, fun b hb => by rw [e b hb]; exact hc b hb⟩
end MRK
/-- a State of the class at s holds f -/
def mr_S (G : mz_G) (O : Nat → Nat) (sz s : Nat) (f : Nat → Int32) (Λ : Nat → Nat → Nat) : Prop :=
  ((((mz_K G s = 3 ∧ O s = s ∧ s < sz) ∧ mz_i G s 4 = f 29400 + 1) ∧ (mz_r G s 0 = some (s + 1) ∧ mz_r G s 1 = some (s + 2) ∧ mz_r G s 2 = some (s + 3) ∧ mz_r G s 3 = some (s + 5))) ∧
  (((mz_K G (s + 1) = 8 ∧ O (s + 1) = s + 1 ∧ s + 1 < sz) ∧ mz_n G (s + 1) = 3) ∧ ∀ b, b < 3 → mz_r G (s + 1) b = some (s + 6 + 5 * b)) ∧
  (((mz_K G (s + 2) = 10 ∧ O (s + 2) = s + 2 ∧ s + 2 < sz) ∧ mz_n G (s + 2) = 4) ∧ ∀ m, m < 4 → mz_r G (s + 2) m = some (s + 21 + 13 * m))) ∧
  ((mt_T G O sz (s + 3) 3 10 (mx_nQ f) 30 (mr_h f 29362 3) ∧ f 29362 = nI (mx_nQ f)) ∧
  (((mz_K G (s + 5) = 7 ∧ O (s + 5) = s + 5 ∧ s + 5 < sz) ∧ mz_n G (s + 5) = 7) ∧ ∀ w, w < 7 → mz_i G (s + 5) w = f (29393 + w))) ∧
  (∀ b, b < 3 → mr_B G O sz (s + 6 + 5 * b) (s + 6 + 5 * b + 1) (s + 6 + 5 * b + 3) f b (mx_cB f b) (mx_gB f b)) ∧
  (∀ m, m < 4 → mr_K G O sz (s + 21 + 13 * m) f m (Λ m))
/-- the objects of a State -/
def mr_Z (s : Nat) : Nat → Prop := fun q => s ≤ q ∧ q < s + 73
theorem mt_F.at {X : Nat → Prop} {G G' : mz_G} {O O' : Nat → Nat} {sz sz' q : Nat} (hF : mt_F X G G' O O' sz sz') (hO : O q = q) (hq : q < sz) (hX : ¬ X q) : (O' q = q ∧ q < sz') ∧ mz_K G' q = mz_K G q ∧ mz_n G' q = mz_n G q ∧ mz_i G' q = mz_i G q ∧ mz_r G' q = mz_r G q := by
  obtain ⟨o1, f1⟩ := hF.2 q hq
  obtain ⟨e1, e2, e3, e4, -⟩ := f1 (by rw [hO]; exact hX)
  have := hF.1
  exact ⟨⟨by rw [o1, hO], by omega⟩, e1, e2, e3, e4⟩
section MRS
variable {X : Nat → Prop} {G G' : mz_G} {O O' : Nat → Nat} {sz sz' s : Nat} {f f' : Nat → Int32} {Λ : Nat → Nat → Nat}
/-- the object, the arrays, the noted, the counts: not touched -/
theorem mr_S.ob (h : mr_S G O sz s f Λ) (hF : mt_F X G G' O O' sz sz') (hX : ∀ q, s ≤ q → q < s + 6 → ¬ X q) (e : ∀ i, 29362 ≤ i → f' i = f i) :
    ((((mz_K G' s = 3 ∧ O' s = s ∧ s < sz') ∧ mz_i G' s 4 = f' 29400 + 1) ∧ (mz_r G' s 0 = some (s + 1) ∧ mz_r G' s 1 = some (s + 2) ∧ mz_r G' s 2 = some (s + 3) ∧ mz_r G' s 3 = some (s + 5))) ∧
    (((mz_K G' (s + 1) = 8 ∧ O' (s + 1) = s + 1 ∧ s + 1 < sz') ∧ mz_n G' (s + 1) = 3) ∧ ∀ b, b < 3 → mz_r G' (s + 1) b = some (s + 6 + 5 * b)) ∧
    (((mz_K G' (s + 2) = 10 ∧ O' (s + 2) = s + 2 ∧ s + 2 < sz') ∧ mz_n G' (s + 2) = 4) ∧ ∀ m, m < 4 → mz_r G' (s + 2) m = some (s + 21 + 13 * m))) ∧
    ((mt_T G' O' sz' (s + 3) 3 10 (mx_nQ f') 30 (mr_h f' 29362 3) ∧ f' 29362 = nI (mx_nQ f')) ∧
    (((mz_K G' (s + 5) = 7 ∧ O' (s + 5) = s + 5 ∧ s + 5 < sz') ∧ mz_n G' (s + 5) = 7) ∧ ∀ w, w < 7 → mz_i G' (s + 5) w = f' (29393 + w))) := by
  obtain ⟨⟨⟨⟨⟨k0, o0, z0⟩, i4⟩, r0, r1, r2, r3⟩, ⟨⟨⟨k1, o1, z1⟩, n1⟩, hb⟩, ⟨⟨⟨k2, o2, z2⟩, n2⟩, hm⟩⟩, ⟨⟨t, hq⟩, ⟨⟨k5, o5, z5⟩, n5⟩, hw⟩, -⟩ := h
  obtain ⟨⟨a1, a2⟩, a3, a4, a5, a6⟩ := hF.at o0 z0 (hX _ (by omega) (by omega))
  obtain ⟨⟨b1, b2⟩, b3, b4, b5, b6⟩ := hF.at o1 z1 (hX _ (by omega) (by omega))
  obtain ⟨⟨c1, c2⟩, c3, c4, c5, c6⟩ := hF.at o2 z2 (hX _ (by omega) (by omega))
  obtain ⟨⟨d1, d2⟩, d3, d4, d5, d6⟩ := hF.at o5 z5 (hX _ (by omega) (by omega))
  have en : mx_nQ f' = mx_nQ f := by unfold mx_nQ; rw [e _ (by omega)]
  refine ⟨⟨⟨⟨⟨by rw [a3, k0], a1, a2⟩, by rw [a5, i4, e _ (by omega)]⟩, by rw [a6, r0], by rw [a6, r1], by rw [a6, r2], by rw [a6, r3]⟩, ⟨⟨⟨by rw [b3, k1], b1, b2⟩, by rw [b4, n1]⟩, fun b h => by rw [b6]; exact hb b h⟩, ⟨⟨⟨by rw [c3, k2], c1, c2⟩, by rw [c4, n2]⟩, fun m h => by rw [c6]; exact hm m h⟩⟩, ⟨⟨?_, by rw [en, e _ (by omega)]; exact hq⟩, ⟨⟨by rw [d3, k5], d1, d2⟩, by rw [d4, n5]⟩, fun w h => by rw [d5, e _ (by omega)]; exact hw w h⟩⟩
  rw [en]
  exact (t.fr hF (hX _ (by omega) (by omega))).same (fun k j _ _ => (e (29362 + 1 + 3 * k + j) (by omega)).symm)
theorem mr_cB_cong {b : Nat} (h : f' (98 * b + 17) = f (98 * b + 17)) : mx_cB f' b = mx_cB f b := by unfold mx_cB; rw [h]
theorem mr_gB_cong {b : Nat} (h : f' (98 * b + 4) = f (98 * b + 4)) : mx_gB f' b = mx_gB f b := by unfold mx_gB; rw [h]
theorem mr_B.canon {G : mz_G} {O : Nat → Nat} {sz β μ ν b cnt g : Nat} (hB : mr_B G O sz β μ ν f b cnt g) : mx_cB f b = cnt ∧ mx_gB f b = g := by
  obtain ⟨-, ⟨t1, t2⟩, c1, c2⟩ := hB
  exact ⟨mr_nI_cl c1 (by have := t1.b; omega), mr_nI_cl c2 (by have := t2.b; omega)⟩
theorem mr_S.bx (h : mr_S G O sz s f Λ) (hF : mt_F X G G' O O' sz sz') (b : Nat) (hb : b < 3) (hX : ∀ q, s + 6 + 5 * b ≤ q → q < s + 6 + 5 * b + 5 → ¬ X q) (e : ∀ i, 98 * b ≤ i → i < 98 * b + 98 → f' i = f i) : mr_B G' O' sz' (s + 6 + 5 * b) (s + 6 + 5 * b + 1) (s + 6 + 5 * b + 3) f' b (mx_cB f' b) (mx_gB f' b) := by
  rw [mr_cB_cong (e _ (by omega) (by omega)), mr_gB_cong (e _ (by omega) (by omega))]
  exact ((h.2.2.1 b hb).fr hF (hX _ (by omega) (by omega)) (hX _ (by omega) (by omega)) (hX _ (by omega) (by omega))).cong e
theorem mr_S.mc (h : mr_S G O sz s f Λ) (hF : mt_F X G G' O O' sz sz') (m : Nat) (hm : m < 4) (hX : ∀ q, s + 21 + 13 * m ≤ q → q < s + 21 + 13 * m + 13 → ¬ X q) (e1 : ∀ i, 294 + 58 * m ≤ i → i < 294 + 58 * m + 58 → f' i = f i) (e2 : ∀ i, 526 + 7209 * m ≤ i → i < 526 + 7209 * m + 7209 → f' i = f i) : mr_K G' O' sz' (s + 21 + 13 * m) f' m (Λ m) :=
  ((h.2.2.2 m hm).fr hF hX).cong hm e1 (fun b i hb h1 h2 => e2 i (by unfold mx_CA at h1; omega) (by unfold mx_CA at h2; omega))
theorem mr_S.fr (h : mr_S G O sz s f Λ) (hF : mt_F X G G' O O' sz sz') (hX : ∀ q, s ≤ q → q < s + 73 → ¬ X q) (e : ∀ i, i < 29401 → f' i = f i) : mr_S G' O' sz' s f' Λ := by
  obtain ⟨f2, hf2⟩ : ∃ f2 : Nat → Int32, f2 = fun i => if i < 29401 then f' i else f i := ⟨_, rfl⟩
  have e2 : ∀ i, f2 i = f i := fun i => by
    rw [hf2]
    dsimp only
    by_cases hi : i < 29401
    · rw [if_pos hi]; exact e i hi
    · rw [if_neg hi]
  have hff : f2 = f := funext e2
  obtain ⟨p1, ⟨⟨pt, pq⟩, p3⟩⟩ := h.ob (f' := f) hF (fun q h1 h2 => hX q h1 (by omega)) (fun _ _ => rfl)
  have en : mx_nQ f' = mx_nQ f := by unfold mx_nQ; rw [e _ (by omega)]
  obtain ⟨n10, -, -⟩ := pt.b
  refine ⟨⟨⟨⟨p1.1.1.1, by rw [e _ (by omega)]; exact p1.1.1.2⟩, p1.1.2⟩, p1.2⟩, ⟨⟨?_, by rw [en, e _ (by omega)]; exact pq⟩, p3.1, fun w hw => by rw [e _ (by omega)]; exact p3.2 w hw⟩, fun b hb => h.bx hF b hb (fun q h1 h2 => hX q (by omega) (by omega)) (fun i _ h2 => e i (by omega)), fun m hm => h.mc hF m hm (fun q h1 h2 => hX q (by omega) (by omega)) (fun i _ h2 => e i (by omega)) (fun i _ h2 => e i (by omega))⟩
  rw [en]
  exact pt.same (fun k j _ _ => (e (29362 + 1 + 3 * k + j) (by omega)).symm)
/-- a box changed -/
theorem mr_S.box {b cnt' g' : Nat} (h : mr_S G O sz s f Λ) (hb : b < 3) (hF : mt_F (mr_X (s + 6 + 5 * b) (s + 6 + 5 * b + 1) (s + 6 + 5 * b + 3)) G G' O O' sz sz') (hB : mr_B G' O' sz' (s + 6 + 5 * b) (s + 6 + 5 * b + 1) (s + 6 + 5 * b + 3) f' b cnt' g') (e : ∀ i, i < 98 * b ∨ 98 * b + 98 ≤ i → f' i = f i) : mr_S G' O' sz' s f' Λ := by
  obtain ⟨p1, p2⟩ := h.ob (f' := f') hF (fun q h1 h2 z => by rcases z with z | z | z <;> omega) (fun i hi => e i (by omega))
  refine ⟨p1, p2, fun c hc => ?_, fun m hm => h.mc hF m hm (fun q h1 h2 z => by rcases z with z | z | z <;> omega) (fun i h1 h2 => e i (by omega)) (fun i h1 h2 => e i (by omega))⟩
  by_cases hcb : c = b
  · subst hcb
    obtain ⟨q1, q2⟩ := hB.canon
    rw [q1, q2]
    exact hB
  · exact h.bx hF c hc (fun q h1 h2 z => by rcases z with z | z | z <;> omega) (fun i h1 h2 => e i (by omega))
/-- a machine changed -/
theorem mr_S.mac {m : Nat} {Λm : Nat → Nat} (h : mr_S G O sz s f Λ) (hm : m < 4) (hF : mt_F (fun q => s + 21 + 13 * m ≤ q ∧ q < s + 21 + 13 * m + 13) G G' O O' sz sz') (hK : mr_K G' O' sz' (s + 21 + 13 * m) f' m Λm) (e : ∀ i, ¬ (294 + 58 * m ≤ i ∧ i < 294 + 58 * m + 58) → ¬ (526 + 7209 * m ≤ i ∧ i < 526 + 7209 * m + 7209) → f' i = f i) : mr_S G' O' sz' s f' (mz_u1 Λ m Λm) := by
  obtain ⟨p1, p2⟩ := h.ob (f' := f') hF (fun q h1 h2 z => by omega) (fun i hi => e i (by omega) (by omega))
  refine ⟨p1, p2, fun c hc => h.bx hF c hc (fun q h1 h2 z => by omega) (fun i h1 h2 => e i (by omega) (by omega)), fun k hk => ?_⟩
  by_cases hkm : k = m
  · subst hkm
    rw [mz_u1_s]
    exact hK
  · rw [mz_u1_o _ _ hkm]
    exact h.mc hF k hk (fun q h1 h2 z => by omega) (fun i h1 h2 => e i (by omega) (by omega)) (fun i h1 h2 => e i (by omega) (by omega))
theorem mr_S.lam {Λ' : Nat → Nat → Nat} (h : mr_S G O sz s f Λ) (e : ∀ m b, m < 4 → b < 3 → Λ' m b = Λ m b) : mr_S G O sz s f Λ' := by
  obtain ⟨h1, h2, h3, hc⟩ := h
  exact ⟨h1, h2, h3, fun m hm => (hc m hm).lam (fun b hb => e m b hm hb)⟩
/-- what is noted changed -/
theorem mr_S.nt {q' : Nat} (h : mr_S G O sz s f Λ) (hF : mt_F (fun q => q = s + 3) G G' O O' sz sz') (ht : mt_T G' O' sz' (s + 3) 3 10 q' 30 (mr_h f' 29362 3)) (hq : f' 29362 = nI q') (e : ∀ i, i < 29362 ∨ 29393 ≤ i → f' i = f i) : mr_S G' O' sz' s f' Λ := by
  obtain ⟨⟨⟨⟨⟨k0, o0, z0⟩, i4⟩, r0, r1, r2, r3⟩, ⟨⟨⟨k1, o1, z1⟩, n1⟩, hb⟩, ⟨⟨⟨k2, o2, z2⟩, n2⟩, hm⟩⟩, ⟨-, ⟨⟨k5, o5, z5⟩, n5⟩, hw⟩, -⟩ := id h
  obtain ⟨⟨a1, a2⟩, a3, a4, a5, a6⟩ := hF.at o0 z0 (fun z => by omega)
  obtain ⟨⟨b1, b2⟩, b3, b4, b5, b6⟩ := hF.at o1 z1 (fun z => by omega)
  obtain ⟨⟨c1, c2⟩, c3, c4, c5, c6⟩ := hF.at o2 z2 (fun z => by omega)
  obtain ⟨⟨d1, d2⟩, d3, d4, d5, d6⟩ := hF.at o5 z5 (fun z => by omega)
  have en : mx_nQ f' = q' := mr_nI_cl hq (by have := ht.b; omega)
  exact ⟨⟨⟨⟨⟨by rw [a3, k0], a1, a2⟩, by rw [a5, i4, e _ (by omega)]⟩, by rw [a6, r0], by rw [a6, r1], by rw [a6, r2], by rw [a6, r3]⟩, ⟨⟨⟨by rw [b3, k1], b1, b2⟩, by rw [b4, n1]⟩, fun b h => by rw [b6]; exact hb b h⟩, ⟨⟨⟨by rw [c3, k2], c1, c2⟩, by rw [c4, n2]⟩, fun m h => by rw [c6]; exact hm m h⟩⟩, ⟨⟨by rw [en]; exact ht, by rw [en]; exact hq⟩, ⟨⟨by rw [d3, k5], d1, d2⟩, by rw [d4, n5]⟩, fun w h => by rw [d5, e _ (by omega)]; exact hw w h⟩, fun c hc => h.bx hF c hc (fun q h1 h2 z => by omega) (fun i h1 h2 => e i (by omega)), fun k hk => h.mc hF k hk (fun q h1 h2 z => by omega) (fun i h1 h2 => e i (by omega)) (fun i h1 h2 => e i (by omega))⟩
/-- a count changed -/
theorem mr_S.ct (h : mr_S G O sz s f Λ) (w : Nat) (hw7 : w < 7) (v : Int32) : mr_S (mz_si G (s + 5) w v) O sz s (mz_u1 f (29393 + w) v) Λ ∧ mt_F (fun q => q = s + 5) G (mz_si G (s + 5) w v) O O sz sz := by
  obtain ⟨⟨⟨⟨⟨k0, o0, z0⟩, i4⟩, r0, r1, r2, r3⟩, ⟨⟨⟨k1, o1, z1⟩, n1⟩, hb⟩, ⟨⟨⟨k2, o2, z2⟩, n2⟩, hm⟩⟩, ⟨⟨t, hq⟩, ⟨⟨k5, o5, z5⟩, n5⟩, hw⟩, -⟩ := id h
  have hF : mt_F (fun q => q = s + 5) G (mz_si G (s + 5) w v) O O sz sz := mt_F_si o5
  have e : ∀ i, i < 29393 ∨ 29400 ≤ i → mz_u1 f (29393 + w) v i = f i := fun i hi => mz_u1_o _ _ (by omega)
  have en : mx_nQ (mz_u1 f (29393 + w) v) = mx_nQ f := by unfold mx_nQ; rw [e _ (by omega)]
  obtain ⟨n10, -, -⟩ := t.b
  refine ⟨⟨⟨⟨⟨⟨k0, o0, z0⟩, ?_⟩, r0, r1, r2, r3⟩, ⟨⟨⟨k1, o1, z1⟩, n1⟩, hb⟩, ⟨⟨⟨k2, o2, z2⟩, n2⟩, hm⟩⟩, ⟨⟨?_, by rw [en, e _ (by omega)]; exact hq⟩, ⟨⟨k5, o5, z5⟩, n5⟩, fun w' h' => ?_⟩, fun c hc => h.bx hF c hc (fun q h1 h2 z => by omega) (fun i h1 h2 => e i (by omega)), fun k hk => h.mc hF k hk (fun q h1 h2 z => by omega) (fun i h1 h2 => e i (by omega)) (fun i h1 h2 => e i (by omega))⟩, hF⟩
  · show mz_u2 (mz_i G) (s + 5) w v s 4 = _
    rw [mz_u2_a _ _ _ _ (by omega), i4, e _ (by omega)]
  · rw [en]
    exact (t.fr hF (fun z => by omega)).same (fun k j h1 h2 => (e (29362 + 1 + 3 * k + j) (by omega)).symm)
  · show mz_u2 (mz_i G) (s + 5) w v (s + 5) w' = _
    by_cases hww : w' = w
    · subst hww
      rw [mz_u2_s, mz_u1_s]
    · rw [mz_u2_j _ _ _ _ hww, mz_u1_o _ _ (by omega)]
      exact hw w' h'
/-- the next deed's number changed -/
theorem mr_S.nx (h : mr_S G O sz s f Λ) (v : Int32) : mr_S (mz_si G s 4 (v + 1)) O sz s (mz_u1 f 29400 v) Λ ∧ mt_F (fun q => q = s) G (mz_si G s 4 (v + 1)) O O sz sz := by
  obtain ⟨⟨⟨⟨⟨k0, o0, z0⟩, i4⟩, r0, r1, r2, r3⟩, ⟨⟨⟨k1, o1, z1⟩, n1⟩, hb⟩, ⟨⟨⟨k2, o2, z2⟩, n2⟩, hm⟩⟩, ⟨⟨t, hq⟩, ⟨⟨k5, o5, z5⟩, n5⟩, hw⟩, -⟩ := id h
  have hF : mt_F (fun q => q = s) G (mz_si G s 4 (v + 1)) O O sz sz := mt_F_si o0
  have e : ∀ i, i < 29400 → mz_u1 f 29400 v i = f i := fun i hi => mz_u1_o _ _ (by omega)
  have en : mx_nQ (mz_u1 f 29400 v) = mx_nQ f := by unfold mx_nQ; rw [e _ (by omega)]
  obtain ⟨n10, -, -⟩ := t.b
  refine ⟨⟨⟨⟨⟨⟨k0, o0, z0⟩, ?_⟩, r0, r1, r2, r3⟩, ⟨⟨⟨k1, o1, z1⟩, n1⟩, hb⟩, ⟨⟨⟨k2, o2, z2⟩, n2⟩, hm⟩⟩, ⟨⟨?_, by rw [en, e _ (by omega)]; exact hq⟩, ⟨⟨k5, o5, z5⟩, n5⟩, fun w' h' => ?_⟩, fun c hc => h.bx hF c hc (fun q h1 h2 z => by omega) (fun i h1 h2 => e i (by omega)), fun k hk => h.mc hF k hk (fun q h1 h2 z => by omega) (fun i h1 h2 => e i (by omega)) (fun i h1 h2 => e i (by omega))⟩, hF⟩
  · show mz_u2 (mz_i G) s 4 (v + 1) s 4 = _
    rw [mz_u2_s, mz_u1_s]
  · rw [en]
    exact (t.fr hF (fun z => by omega)).same (fun k j h1 h2 => (e (29362 + 1 + 3 * k + j) (by omega)).symm)
  · show mz_u2 (mz_i G) s 4 (v + 1) (s + 5) w' = _
    rw [mz_u2_a _ _ _ _ (by omega), e _ (by omega)]
    exact hw w' h'
end MRS

