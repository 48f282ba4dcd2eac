/-! ===== pure: syncing in another order ===== -/
/-- deeds of m, what is noted, two of the counts -/
abbrev mr_DD (m i : Nat) : Prop := (294 + 58 * m + 1 ≤ i ∧ i < 294 + 58 * m + 58) ∨ (29362 ≤ i ∧ i < 29393) ∨ i = 29398 ∨ i = 29399
theorem mr_nt_loc {m : Nat} (hm : m < 4) {f f' : Nat → Int32} (h : ∀ i, mr_DD m i → f i = f' i) {q : Nat} (hq : q ≤ 10) (deed oc name : Int32) : ∀ i, mr_DD m i → mx_nt f q deed oc name i = mx_nt f' q deed oc name i := by
  intro i hi
  by_cases hlo : i < 29362
  · rw [mx_nt_o f _ _ _ _ hq (Or.inl hlo), mx_nt_o f' _ _ _ _ hq (Or.inl hlo)]
    exact h i hi
  · rw [mr_nt_0, mr_nt_0, h 29398 (by omega), h 29399 (by omega)]
    simp only [mz_u1]
    by_cases h9 : i = 29399
    · simp only [if_pos h9]
    · simp only [if_neg h9]
      by_cases h8 : i = 29398
      · simp only [if_pos h8]
      · simp only [if_neg h8]
        unfold mr_nt0 mz_sf
        by_cases h10 : q = 10
        · simp only [if_pos h10, mz_u1]
          by_cases e1 : i = 29362
          · simp only [if_pos e1]
          · simp only [if_neg e1]
            by_cases e2 : i = 29363 + 3 * 9 + 2
            · simp only [if_pos e2]
            · simp only [if_neg e2]
              by_cases e3 : i = 29363 + 3 * 9 + 1
              · simp only [if_pos e3]
              · simp only [if_neg e3]
                by_cases e4 : i = 29363 + 3 * 9
                · simp only [if_pos e4]
                · simp only [if_neg e4]
                  rw [if_pos (by omega), if_pos (by omega)]
                  exact h (i + 3) (by omega)
        · simp only [if_neg h10, mz_u1]
          by_cases e1 : i = 29362
          · simp only [if_pos e1]
          · simp only [if_neg e1]
            by_cases e2 : i = 29363 + 3 * q + 2
            · simp only [if_pos e2]
            · simp only [if_neg e2]
              by_cases e3 : i = 29363 + 3 * q + 1
              · simp only [if_pos e3]
              · simp only [if_neg e3]
                by_cases e4 : i = 29363 + 3 * q
                · simp only [if_pos e4]
                · simp only [if_neg e4]
                  exact h i hi
theorem mr_dd_loc {m : Nat} (hm : m < 4) {f f' : Nat → Int32} (h : ∀ i, mr_DD m i → f i = f' i) {n k : Nat} (hn : n ≤ 8) (hk : k < n) : ∀ i, mr_DD m i → mx_dd f m n k i = mx_dd f' m n k i := by
  intro i hi
  by_cases hin : 294 + 58 * m + 1 ≤ i ∧ i < 294 + 58 * m + 58
  · unfold mx_dd mz_sf mx_DA
    simp only [mz_u1]
    by_cases e1 : i = 294 + 58 * m + 1
    · rw [if_pos e1, if_pos e1]
    · rw [if_neg e1, if_neg e1]
      by_cases e2 : 294 + 58 * m + 2 + 7 * k ≤ i ∧ i < 294 + 58 * m + 2 + 7 * (n - 1)
      · rw [if_pos e2, if_pos e2]
        exact h (i + 7) (by omega)
      · rw [if_neg e2, if_neg e2]
        exact h i hi
  · rw [mr_dd_o f hn hk hin, mr_dd_o f' hn hk hin]
    exact h i hi
theorem mr_ds_loc (m b cc cc' : Nat) (oc : Int32) (hm : m < 4) (hb : b < 3) : ∀ (d : Nat) (f f' : Nat → Int32) (n q k : Nat), k + d = n → n ≤ 8 → q ≤ 10 → (∀ i, mr_DD m i → f i = f' i) → (oc = nI 3 ∨ ∀ v, mz_fz (mx_nm f (mx_CA m b + 2)) v cc = mz_fz (mx_nm f' (mx_CA m b + 2)) v cc') → cc ≤ 600 → cc' ≤ 600 →
    (mx_ds d f m b cc oc n q k).2 = (mx_ds d f' m b cc' oc n q k).2 ∧ (∀ i, mr_DD m i → (mx_ds d f m b cc oc n q k).1 i = (mx_ds d f' m b cc' oc n q k).1 i) ∧ (∀ i, ¬ mr_DD m i → (mx_ds d f m b cc oc n q k).1 i = f i) := by
  intro d
  induction d with
  | zero => intro f f' n q k _ _ _ h _ _ _; exact ⟨rfl, h, fun _ _ => rfl⟩
  | succ d ih =>
    intro f f' n q k hk hn hq h hz hc hc'
    have hCA : 526 ≤ mx_CA m b ∧ mx_CA m b + 2403 ≤ 29362 := by unfold mx_CA; omega
    have hDA : mx_DA m k = 294 + 58 * m + 2 + 7 * k := rfl
    have e0 := h (mx_DA m k) (by omega)
    have e1 := h (mx_DA m k + 1) (by omega)
    have e2 := h (mx_DA m k + 2) (by omega)
    have e3 := h (mx_DA m k + 3) (by omega)
    have hcd : (¬ f (mx_DA m k + 1) = nI 1 ∧ f (mx_DA m k + 2) = nI b ∧ (oc = nI 3 ∨ mz_fz (mx_nm f (mx_CA m b + 2)) (f (mx_DA m k + 3)) cc = none)) ↔ (¬ f' (mx_DA m k + 1) = nI 1 ∧ f' (mx_DA m k + 2) = nI b ∧ (oc = nI 3 ∨ mz_fz (mx_nm f' (mx_CA m b + 2)) (f' (mx_DA m k + 3)) cc' = none)) := by
      rw [e1, e2, e3]
      rcases hz with hz | hz
      · simp only [hz, true_or]
      · rw [hz]
    simp only [mx_ds]
    by_cases hcond : ¬ f (mx_DA m k + 1) = nI 1 ∧ f (mx_DA m k + 2) = nI b ∧ (oc = nI 3 ∨ mz_fz (mx_nm f (mx_CA m b + 2)) (f (mx_DA m k + 3)) cc = none)
    · rw [if_pos hcond, if_pos (hcd.mp hcond)]
      have o1 : ∀ i, ¬ mr_DD m i → mx_dd (mx_nt f q (f (mx_DA m k)) oc (-1)) m n k i = f i := by
        intro i hi
        rw [mr_dd_o _ hn (by omega) (by omega)]
        by_cases hlo : i < 29362 ∨ 29399 < i
        · exact mx_nt_o f _ _ _ _ hq hlo
        · rw [mr_nt_0]
          simp only [mz_u1]
          rw [if_neg (by omega), if_neg (by omega)]
          exact mr_nt0_o f hq _ _ _ (by omega)
      have o2 : ∀ i, ¬ mr_DD m i → mx_dd (mx_nt f' q (f' (mx_DA m k)) oc (-1)) m n k i = f' i := by
        intro i hi
        rw [mr_dd_o _ hn (by omega) (by omega)]
        by_cases hlo : i < 29362 ∨ 29399 < i
        · exact mx_nt_o f' _ _ _ _ hq hlo
        · rw [mr_nt_0]
          simp only [mz_u1]
          rw [if_neg (by omega), if_neg (by omega)]
          exact mr_nt0_o f' hq _ _ _ (by omega)
      have ag : ∀ i, mr_DD m i → mx_dd (mx_nt f q (f (mx_DA m k)) oc (-1)) m n k i = mx_dd (mx_nt f' q (f' (mx_DA m k)) oc (-1)) m n k i := by
        rw [← e0]
        exact mr_dd_loc hm (mr_nt_loc hm h hq _ _ _) hn (by omega)
      have hz2 : oc = nI 3 ∨ ∀ v, mz_fz (mx_nm (mx_dd (mx_nt f q (f (mx_DA m k)) oc (-1)) m n k) (mx_CA m b + 2)) v cc = mz_fz (mx_nm (mx_dd (mx_nt f' q (f' (mx_DA m k)) oc (-1)) m n k) (mx_CA m b + 2)) v cc' := by
        rcases hz with hz | hz
        · exact Or.inl hz
        · refine Or.inr (fun v => ?_)
          rw [mz_fz_cong (g := mx_nm (mx_dd (mx_nt f q (f (mx_DA m k)) oc (-1)) m n k) (mx_CA m b + 2)) (g' := mx_nm f (mx_CA m b + 2)) (fun j hj => o1 _ (by omega)), mz_fz_cong (g := mx_nm (mx_dd (mx_nt f' q (f' (mx_DA m k)) oc (-1)) m n k) (mx_CA m b + 2)) (g' := mx_nm f' (mx_CA m b + 2)) (fun j hj => o2 _ (by omega))]
          exact hz v
      obtain ⟨a1, a2, a3⟩ := ih _ _ (n - 1) (mx_n1 q) k (by omega) (by omega) (by unfold mx_n1; split <;> omega) ag hz2 hc hc'
      exact ⟨a1, a2, fun i hi => (a3 i hi).trans (o1 i hi)⟩
    · rw [if_neg hcond, if_neg (fun z => hcond (hcd.mpr z))]
      exact ih f f' n q (k + 1) (by omega) hn hq h hz hc hc'
/-- boxes, and the copy whose list begins at L -/
abbrev mr_BC (L i : Nat) : Prop := i < 294 ∨ (L ≤ i ∧ i < L + 2401)
theorem mr_dr_loc {L : Nat} {f f' : Nat → Int32} (h : ∀ i, mr_BC L i → f i = f' i) {n k : Nat} (hn : n ≤ 600) (hk : k < n) (hL : 294 ≤ L) : ∀ i, mr_BC L i → mx_dr f L n k i = mx_dr f' L n k i := by
  intro i hi
  unfold mx_dr mz_fl mz_sf
  simp only [mz_u1]
  by_cases e1 : L + 1 + 4 * (n - 1) ≤ i ∧ i < L + 1 + 4 * (n - 1) + 4
  · rw [if_pos e1, if_pos e1]
  · rw [if_neg e1, if_neg e1]
    by_cases e2 : i = L
    · rw [if_pos e2, if_pos e2]
    · rw [if_neg e2, if_neg e2]
      by_cases e3 : L + 1 + 4 * k ≤ i ∧ i < L + 1 + 4 * (n - 1)
      · rw [if_pos e3, if_pos e3]
        exact h (i + 4) (by omega)
      · rw [if_neg e3, if_neg e3]
        exact h i hi
theorem mr_ps_cong {g g' : Nat → Int32} {v : Int32} : ∀ {n : Nat}, (∀ k, k < n → g k = g' k) → mx_ps g v n = mx_ps g' v n
  | 0, _ => rfl
  | n + 1, h => by
    simp only [mx_ps]
    rw [h n (by omega), mr_ps_cong (n := n) (fun k hk => h k (by omega))]
theorem mr_pu_loc {L : Nat} {f f' : Nat → Int32} (h : ∀ i, mr_BC L i → f i = f' i) {n : Nat} (hn : n < 600) (hL : 294 ≤ L) (name a b c : Int32) : mx_pn f L n name = mx_pn f' L n name ∧ ∀ i, mr_BC L i → mx_pu f L n name a b c i = mx_pu f' L n name a b c i := by
  have hz : mz_fz (mx_nm f L) name n = mz_fz (mx_nm f' L) name n := mz_fz_cong (fun k hk => h _ (by omega))
  have hp : mx_ps (mx_nm f L) name n = mx_ps (mx_nm f' L) name n := mr_ps_cong (fun k hk => h _ (by omega))
  unfold mx_pn mx_pu
  rw [hz, hp]
  cases mz_fz (mx_nm f' L) name n with
  | some q =>
    refine ⟨rfl, fun i hi => ?_⟩
    dsimp only
    simp only [mx_rw, mz_u1]
    rw [h i hi]
  | none =>
    refine ⟨rfl, fun i hi => ?_⟩
    dsimp only
    simp only [mx_rw, mz_u1, mx_in1]
    rw [h i hi]
    by_cases e3 : L + 1 + 4 * (mx_ps (mx_nm f' L) name n + 1) ≤ i ∧ i < L + 1 + 4 * (n + 1)
    · rw [h (i - 4) (by omega)]
    · rw [if_neg e3, if_neg e3]
theorem mr_l1_loc (L b w g cnt : Nat) (mark : Int32) (hb : b < 3) (hL : 294 ≤ L) (hcn : cnt ≤ 20) (hg : g ≤ 6) : ∀ (d : Nat) (f f' : Nat → Int32) (cc k : Nat), k + d = cc → cc ≤ 600 → (∀ i, mr_BC L i → f i = f' i) → (mx_l1 d f L b w g cnt mark cc k).2 = (mx_l1 d f' L b w g cnt mark cc k).2 ∧ ∀ i, mr_BC L i → (mx_l1 d f L b w g cnt mark cc k).1 i = (mx_l1 d f' L b w g cnt mark cc k).1 i := by
  intro d
  induction d with
  | zero => intro f f' cc k _ _ h; exact ⟨rfl, h⟩
  | succ d ih =>
    intro f f' cc k hk hc h
    have e0 : mx_nm f L k = mx_nm f' L k := h _ (by omega)
    have hz : ∀ v, mz_fz (mx_nm f (98 * b + 17)) v cnt = mz_fz (mx_nm f' (98 * b + 17)) v cnt := fun v => mz_fz_cong (fun j hj => h _ (by omega))
    have hv : ∀ v, ∀ j, j ≤ 6 → mx_hv f b v mark j = mx_hv f' b v mark j := by
      intro v j
      induction j with
      | zero => intro _; rfl
      | succ j ihj => intro hj; simp only [mx_hv]; rw [ihj (by omega), h (98 * b + 4 + 1 + 2 * j) (by omega), h (98 * b + 4 + 2 + 2 * j) (by omega)]
    simp only [mx_l1, e0, hz, hv _ g hg]
    split
    · exact ih _ _ (cc - 1) k (by omega) (by omega) (mr_dr_loc h hc (by omega) hL)
    · exact ih f f' cc (k + 1) (by omega) hc h
theorem mr_l2_loc (L b w : Nat) (mark : Int32) (hb : b < 3) (hL : 294 ≤ L) : ∀ (d : Nat) (f f' : Nat → Int32) (cc i : Nat), i + d ≤ 20 → cc + d ≤ 600 → (∀ i, mr_BC L i → f i = f' i) → (mx_l2 d f L b w mark cc i).2 = (mx_l2 d f' L b w mark cc i).2 ∧ ∀ j, mr_BC L j → (mx_l2 d f L b w mark cc i).1 j = (mx_l2 d f' L b w mark cc i).1 j := by
  intro d
  induction d with
  | zero => intro f f' cc i _ _ h; exact ⟨rfl, h⟩
  | succ d ih =>
    intro f f' cc i hi hc h
    have e0 : mx_nm f (98 * b + 17) i = mx_nm f' (98 * b + 17) i := h _ (by omega)
    have e1 : mx_mk f (98 * b + 17) i = mx_mk f' (98 * b + 17) i := h _ (by omega)
    have e2 := h (98 * b + 17 + 1 + 4 * i + 1) (by omega)
    have e3 := h (98 * b + 17 + 1 + 4 * i + 2) (by omega)
    simp only [mx_l2, e0, e1, e2, e3]
    split
    · obtain ⟨p1, p2⟩ := mr_pu_loc h (n := cc) (by omega) hL (mx_nm f' (98 * b + 17) i) (f' (98 * b + 17 + 1 + 4 * i + 1)) (f' (98 * b + 17 + 1 + 4 * i + 2)) (mx_mk f' (98 * b + 17) i)
      rw [p1]
      have := mx_pn_le f' L cc (mx_nm f' (98 * b + 17) i)
      exact ih _ _ _ (i + 1) (by omega) (by omega) p2
    · exact ih f f' cc (i + 1) (by omega) (by omega) h
/-- the class's order of syncing -/
def mr_sA (f : Nat → Int32) (m b : Nat) : Nat → Int32 := mr_bu f m b (mx_cB f b) (mx_gB f b) (mx_cC f m b)
def mr_sc (f : Nat → Int32) (m b : Nat) : Nat := (mr_b2 f m b (mx_cB f b) (mx_gB f b) (mx_cC f m b)).2
def mr_sB (f : Nat → Int32) (m b : Nat) : (Nat → Int32) × Nat × Nat := if mx_cs f m b = 1 then mx_ds (mx_nD f m) (mr_sA f m b) m b (mr_sc f m b) (nI 3) (mx_nD f m) (mx_nQ f) 0 else (mr_sA f m b, mx_nD f m, mx_nQ f)
def mr_sC (f : Nat → Int32) (m b : Nat) : (Nat → Int32) × Nat × Nat := mx_ds (mr_sB f m b).2.1 (mr_sB f m b).1 m b (mr_sc f m b) (nI 2) (mr_sB f m b).2.1 (mr_sB f m b).2.2 0
def mr_u3 (f : Nat → Int32) (a c : Int32) (w : Nat) : Nat → Int32 := mz_u1 (mz_u1 (mz_u1 f 29393 (f 29393 + a)) 29394 (f 29394 + c)) (29394 + w) (f (29394 + w) + 1)
def mr_sD (f : Nat → Int32) (m b : Nat) : Nat → Int32 := mr_u3 (mr_sC f m b).1 (nI (mx_mc f m b (mx_cB f b))) (nI (mx_nc f m b (mx_cB f b) (mx_gB f b))) (mx_cs f m b)
theorem mr_u3_y (f : Nat → Int32) (m b cnt g : Nat) : mx_y3 f m b cnt g = mr_u3 f (nI (mx_mc f m b cnt)) (nI (mx_nc f m b cnt g)) (mx_cs f m b) := by
  have := mx_cs_le f m b
  unfold mx_y3 mr_u3
  simp only
  rw [mz_u1_o f _ (show (29394 : Nat) ≠ 29393 by omega), mz_u1_o (mz_u1 f 29393 _) _ (show 29394 + mx_cs f m b ≠ 29394 by omega), mz_u1_o f _ (show 29394 + mx_cs f m b ≠ 29393 by omega)]
theorem mr_sA_o (f : Nat → Int32) {m b : Nat} (hm : m < 4) (hb : b < 3) (hbo : mx_bO f b) (hco : mx_cO f m b (mx_cB f b)) : (∀ i, ¬ (mx_CA m b ≤ i ∧ i < mx_CA m b + 2403) → mr_sA f m b i = f i) ∧ mr_sA f m b (mx_CA m b + 2) = nI (mr_sc f m b) ∧ mr_sc f m b ≤ mx_cC f m b + mx_cB f b := by
  have hCA : 526 ≤ mx_CA m b ∧ mx_CA m b + 2403 ≤ 29362 := by unfold mx_CA; omega
  obtain ⟨a1, a2, a3⟩ := mx_l1_ok (mx_CA m b + 2) b (mx_cs f m b) (mx_gB f b) (mx_cB f b) (f (mx_CA m b + 1)) (mx_cC f m b) f (mx_cC f m b) 0 (by omega) hco.1
  obtain ⟨b1, b2, b3⟩ := mx_l2_ok (mx_CA m b + 2) b (mx_cs f m b) (f (mx_CA m b + 1)) (mx_cB f b) _ _ 0 a1
  have hle := hco.2
  have h20 := hbo.1.2
  refine ⟨fun i hi => ?_, ?_, ?_⟩
  · unfold mr_sA mr_bu
    rw [mz_u1_o _ _ (by omega), mz_u1_o _ _ (by omega)]
    exact (b3 i (by omega)).trans (a3 i (by omega))
  · unfold mr_sA mr_bu
    rw [mz_u1_o _ _ (by omega), mz_u1_o _ _ (by omega)]
    exact b1
  · unfold mr_sc mr_b2 mr_b1
    omega
theorem mr_sy_eq (f : Nat → Int32) {m b : Nat} (hm : m < 4) (hb : b < 3) (hbo : mx_bO f b) (hco : mx_cO f m b (mx_cB f b)) (hno : mx_nO f m) (hqo : mx_qO f) : mx_yS f m b = mr_sD f m b := by
  have hCA : 526 ≤ mx_CA m b ∧ mx_CA m b + 2403 ≤ 29362 := by unfold mx_CA; omega
  have hcs := mx_cs_le f m b
  obtain ⟨h20, h6⟩ := And.intro hbo.1.2 hbo.2.2
  have h600 := hco.2
  have n8 := hno.2
  have q10 := hqo.2
  obtain ⟨cnt, hcnt⟩ : ∃ cnt, cnt = mx_cB f b := ⟨_, rfl⟩
  obtain ⟨g, hg⟩ : ∃ g, g = mx_gB f b := ⟨_, rfl⟩
  obtain ⟨cc, hcc⟩ : ∃ cc, cc = mx_cC f m b := ⟨_, rfl⟩
  obtain ⟨n, hn⟩ : ∃ n, n = mx_nD f m := ⟨_, rfl⟩
  obtain ⟨q, hq⟩ : ∃ q, q = mx_nQ f := ⟨_, rfl⟩
  obtain ⟨o1, o2, o3⟩ := mr_sA_o f hm hb hbo hco
  have y3o : ∀ i, ¬ (29393 ≤ i ∧ i ≤ 29397) → mx_y3 f m b cnt g i = f i := fun i hi => mx_y3_o f (by omega)
  -- the first dropping of deeds
  obtain ⟨d1, d2, d3⟩ := mr_ds_loc m b cc (mr_sc f m b) (nI 3) hm hb n (mx_y3 f m b cnt g) (mr_sA f m b) n q 0 (by omega) (by omega) (by omega) (fun i hi => by rw [y3o i (by omega), o1 i (by omega)]) (Or.inl rfl) (by omega) (by omega)
  obtain ⟨e1, e2, e3⟩ := mr_ds_loc m b (mr_sc f m b) cc (nI 3) hm hb n (mr_sA f m b) (mx_y3 f m b cnt g) n q 0 (by omega) (by omega) (by omega) (fun i hi => by rw [y3o i (by omega), o1 i (by omega)]) (Or.inl rfl) (by omega) (by omega)
  have ok4 := mx_y4_ok f (b := b) (cnt := cnt) (g := g) (cc := cc) (n := n) (q := q) hm (by rw [hn]; exact hno.1) (by omega) (by rw [hq]; exact hqo.1) (by omega)
  obtain ⟨Y4, hY4⟩ : ∃ Y4, Y4 = mx_y4 f m b cnt g cc n q := ⟨_, rfl⟩
  obtain ⟨B, hB⟩ : ∃ B, B = mr_sB f m b := ⟨_, rfl⟩
  rw [← hY4] at ok4
  have s4 : Y4.2 = B.2 ∧ (∀ i, mr_DD m i → Y4.1 i = B.1 i) ∧ (∀ i, ¬ mr_DD m i → Y4.1 i = mx_y3 f m b cnt g i) ∧ (∀ i, ¬ mr_DD m i → B.1 i = mr_sA f m b i) := by
    rw [hY4, hB]
    unfold mx_y4 mr_sB
    rw [← hn, ← hq]
    by_cases h1 : mx_cs f m b = 1
    · rw [if_pos h1, if_pos h1]
      exact ⟨d1, d2, d3, e3⟩
    · rw [if_neg h1, if_neg h1]
      exact ⟨rfl, fun i hi => by show mx_y3 f m b cnt g i = mr_sA f m b i; rw [y3o i (by omega), o1 i (by omega)], fun _ _ => rfl, fun _ _ => rfl⟩
  obtain ⟨s1, s2, s3, s5⟩ := s4
  -- the copy
  have ag : ∀ i, mr_BC (mx_CA m b + 2) i → Y4.1 i = f i := fun i hi => by
    rw [s3 i (by omega), y3o i (by omega)]
  obtain ⟨l1, l2⟩ := mr_l1_loc (mx_CA m b + 2) b (mx_cs f m b) g cnt (f (mx_CA m b + 1)) hb (by omega) (by omega) (by omega) cc Y4.1 f cc 0 (by omega) (by omega) ag
  have z1 := mx_l1_ok (mx_CA m b + 2) b (mx_cs f m b) g cnt (f (mx_CA m b + 1)) cc Y4.1 cc 0 (by omega) (by rw [ag _ (by omega), hcc]; exact hco.1)
  obtain ⟨Y5, hY5⟩ : ∃ Y5, Y5 = mx_l1 cc Y4.1 (mx_CA m b + 2) b (mx_cs f m b) g cnt (f (mx_CA m b + 1)) cc 0 := ⟨_, rfl⟩
  rw [← hY5] at l1 l2 z1
  have z2 := mx_l2_ok (mx_CA m b + 2) b (mx_cs f m b) (f (mx_CA m b + 1)) cnt Y5.1 Y5.2 0 z1.1
  obtain ⟨l3, l4⟩ := mr_l2_loc (mx_CA m b + 2) b (mx_cs f m b) (f (mx_CA m b + 1)) hb (by omega) cnt Y5.1 (mx_l1 cc f (mx_CA m b + 2) b (mx_cs f m b) g cnt (f (mx_CA m b + 1)) cc 0).1 Y5.2 0 (by omega) (by have := z1.2.1; omega) l2
  obtain ⟨Y6, hY6⟩ : ∃ Y6, Y6 = mx_l2 cnt Y5.1 (mx_CA m b + 2) b (mx_cs f m b) (f (mx_CA m b + 1)) Y5.2 0 := ⟨_, rfl⟩
  rw [← hY6] at l3 l4 z2
  rw [l1] at l3 l4
  have c6 : Y6.2 = mr_sc f m b := by rw [l3]; unfold mr_sc mr_b2 mr_b1; rw [← hcnt, ← hg, ← hcc]
  have z6 : ∀ i, ¬ (mx_CA m b ≤ i ∧ i < mx_CA m b + 2403) → Y6.1 i = Y4.1 i := fun i hi => (z2.2.2 i (by have := z1.2.1; omega)).trans (z1.2.2 i (by omega))
  obtain ⟨Y7, hY7⟩ : ∃ Y7, Y7 = mz_u1 (mz_u1 Y6.1 (mx_CA m b) (f (98 * b + 0))) (mx_CA m b + 1) (f (98 * b + 2)) := ⟨_, rfl⟩
  have z7 : ∀ i, ¬ (mx_CA m b ≤ i ∧ i < mx_CA m b + 2403) → Y7 i = Y4.1 i := fun i hi => by rw [hY7, mz_u1_o _ _ (by omega), mz_u1_o _ _ (by omega)]; exact z6 i hi
  have hA : mr_sA f m b = mz_u1 (mz_u1 (mx_l2 cnt (mx_l1 cc f (mx_CA m b + 2) b (mx_cs f m b) g cnt (f (mx_CA m b + 1)) cc 0).1 (mx_CA m b + 2) b (mx_cs f m b) (f (mx_CA m b + 1)) (mx_l1 cc f (mx_CA m b + 2) b (mx_cs f m b) g cnt (f (mx_CA m b + 1)) cc 0).2 0).1 (mx_CA m b) (f (98 * b + 0))) (mx_CA m b + 1) (f (98 * b + 2)) := by
    unfold mr_sA mr_bu mr_b2 mr_b1
    rw [← hcnt, ← hg, ← hcc]
  have c7 : ∀ i, mx_CA m b ≤ i → i < mx_CA m b + 2403 → Y7 i = mr_sA f m b i := by
    intro i h1 h2
    rw [hY7, hA]
    simp only [mz_u1]
    by_cases i1 : i = mx_CA m b + 1
    · rw [if_pos i1, if_pos i1]
    · rw [if_neg i1, if_neg i1]
      by_cases i0 : i = mx_CA m b
      · rw [if_pos i0, if_pos i0]
      · rw [if_neg i0, if_neg i0]
        exact l4 i (by omega)
  -- the second
  have hz : ∀ v, mz_fz (mx_nm Y7 (mx_CA m b + 2)) v Y6.2 = mz_fz (mx_nm B.1 (mx_CA m b + 2)) v (mr_sc f m b) := by
    intro v
    rw [c6]
    refine mz_fz_cong (fun k hk => ?_)
    show Y7 _ = B.1 _
    rw [c7 _ (by omega) (by omega), s5 _ (by omega)]
  have nn := ok4.2.2.1
  have qq := ok4.2.2.2.1
  obtain ⟨g1, g2, g3⟩ := mr_ds_loc m b Y6.2 (mr_sc f m b) (nI 2) hm hb Y4.2.1 Y7 B.1 Y4.2.1 Y4.2.2 0 (by omega) (by omega) (by omega) (fun i hi => by rw [z7 i (by omega)]; exact s2 i hi) (Or.inr hz) (by omega) (by omega)
  obtain ⟨k1, k2, k3⟩ := mr_ds_loc m b (mr_sc f m b) Y6.2 (nI 2) hm hb Y4.2.1 B.1 Y7 Y4.2.1 Y4.2.2 0 (by omega) (by omega) (by omega) (fun i hi => by rw [z7 i (by omega)]; exact (s2 i hi).symm) (Or.inr (fun v => (hz v).symm)) (by omega) (by omega)
  have hC : mr_sC f m b = mx_ds Y4.2.1 B.1 m b (mr_sc f m b) (nI 2) Y4.2.1 Y4.2.2 0 := by
    unfold mr_sC
    rw [← hB, s1]
  have hS : mx_yS f m b = (mx_ds Y4.2.1 Y7 m b Y6.2 (nI 2) Y4.2.1 Y4.2.2 0).1 := by
    unfold mx_yS mx_sy mx_y7 mx_y6 mx_y5
    rw [← hcnt, ← hg, ← hcc, ← hn, ← hq, ← hY4, ← hY5, ← hY6, ← hY7]
  rw [← hC] at g2 k3
  rw [hS]
  unfold mr_sD
  rw [← hcnt, ← hg]
  obtain ⟨C, hCe⟩ : ∃ C, C = mr_sC f m b := ⟨_, rfl⟩
  rw [← hCe] at g2 k3 ⊢
  have fC : ∀ i, 29393 ≤ i → i ≤ 29397 → C.1 i = f i := fun i h1 h2 => by rw [k3 i (by omega), s5 i (by omega), o1 i (by omega)]
  funext i
  by_cases hD : mr_DD m i
  · rw [g2 i hD]
    unfold mr_u3
    rw [mz_u1_o _ _ (by omega), mz_u1_o _ _ (by omega), mz_u1_o _ _ (by omega)]
  · rw [g3 i hD]
    by_cases hco2 : mx_CA m b ≤ i ∧ i < mx_CA m b + 2403
    · rw [c7 i hco2.1 hco2.2]
      unfold mr_u3
      rw [mz_u1_o _ _ (by omega), mz_u1_o _ _ (by omega), mz_u1_o _ _ (by omega), k3 i hD, s5 i hD]
    · rw [z7 i hco2, s3 i hD, mr_u3_y]
      unfold mr_u3
      rw [fC 29393 (by omega) (by omega), fC 29394 (by omega) (by omega), fC (29394 + mx_cs f m b) (by omega) (by omega)]
      simp only [mz_u1]
      rw [k3 i hD, s5 i hD, o1 i hco2]

