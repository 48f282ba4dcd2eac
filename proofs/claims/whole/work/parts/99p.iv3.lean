/-! ===== lists and syncing ===== -/
section IV
variable {f f' : Nat → Int32} {T T' K K' m b k : Nat}
/-- the names of a list after a row was put -/
theorem iv_pu_in (f : Nat → Int32) {L cnt : Nat} (name a b c : Int32) (v : Int32) : (∃ j, j < mx_pn f L cnt name ∧ mx_nm (mx_pu f L cnt name a b c) L j = v) ↔ (∃ j, j < cnt ∧ mx_nm f L j = v) ∨ v = name := by
  have hps := mx_ps_le (mx_nm f L) name cnt
  constructor
  · rintro ⟨j, hj, e⟩
    rw [mr_nm_pu f name a b c j hj] at e
    rcases mz_sor (mz_fz (mx_nm f L) name cnt) with q | ⟨k, q⟩
    · unfold mx_pn at hj
      rw [q] at hj e
      dsimp only at hj e
      by_cases h1 : j < mx_ps (mx_nm f L) name cnt
      · rw [if_pos h1] at e; exact Or.inl ⟨j, by omega, e⟩
      · rw [if_neg h1] at e
        by_cases h2 : j = mx_ps (mx_nm f L) name cnt
        · rw [if_pos h2] at e; exact Or.inr e.symm
        · rw [if_neg h2] at e; exact Or.inl ⟨j - 1, by omega, e⟩
    · unfold mx_pn at hj
      rw [q] at hj e
      dsimp only at hj e
      by_cases h1 : j = k
      · rw [if_pos h1] at e; exact Or.inr e.symm
      · rw [if_neg h1] at e; exact Or.inl ⟨j, hj, e⟩
  · intro h
    rcases mz_sor (mz_fz (mx_nm f L) name cnt) with q | ⟨k, q⟩
    · have hpn : mx_pn f L cnt name = cnt + 1 := by unfold mx_pn; rw [q]
      have hm : ∀ j, j < cnt + 1 → mx_nm (mx_pu f L cnt name a b c) L j = if j < mx_ps (mx_nm f L) name cnt then mx_nm f L j else if j = mx_ps (mx_nm f L) name cnt then name else mx_nm f L (j - 1) := fun j hj => by
        rw [mr_nm_pu f name a b c j (by rw [hpn]; exact hj), q]
      rw [hpn]
      rcases h with ⟨j, hj, e⟩ | e
      · by_cases h1 : j < mx_ps (mx_nm f L) name cnt
        · exact ⟨j, by omega, by rw [hm j (by omega), if_pos h1]; exact e⟩
        · exact ⟨j + 1, by omega, by rw [hm (j + 1) (by omega), if_neg (by omega), if_neg (by omega), Nat.add_sub_cancel]; exact e⟩
      · exact ⟨mx_ps (mx_nm f L) name cnt, by omega, by rw [hm _ (by omega), if_neg (by omega), if_pos rfl]; exact e.symm⟩
    · have hpn : mx_pn f L cnt name = cnt := by unfold mx_pn; rw [q]
      obtain ⟨k1, k2, -⟩ := mz_fz_some q
      have hm : ∀ j, j < cnt → mx_nm (mx_pu f L cnt name a b c) L j = if j = k then name else mx_nm f L j := fun j hj => by
        rw [mr_nm_pu f name a b c j (by rw [hpn]; exact hj), q]
      rw [hpn]
      have hm2 : ∀ j, j < cnt → mx_nm (mx_pu f L cnt name a b c) L j = mx_nm f L j := fun j hj => by
        rw [hm j hj]
        by_cases h1 : j = k
        · rw [if_pos h1, h1, k2]
        · rw [if_neg h1]
      rcases h with ⟨j, hj, e⟩ | e
      · exact ⟨j, hj, by rw [hm2 j hj]; exact e⟩
      · exact ⟨k, k1, by rw [hm2 k k1, k2]; exact e.symm⟩
/-- the names of a list after a row was dropped -/
theorem iv_dr_nm (f : Nat → Int32) {L cnt k : Nat} (hk : k < cnt) (j : Nat) (hj : j < cnt - 1) : mx_nm (mx_dr f L cnt k) L j = mx_nm f L (if j < k then j else j + 1) := by
  refine (mr_dr_m f hk j 0 hj (by omega)).trans ?_
  unfold mt_e
  split <;> rfl
theorem iv_dr_so (f : Nat → Int32) {L cnt k : Nat} (hk : k < cnt) (hs : mr_so f L cnt) : mr_so (mx_dr f L cnt k) L (cnt - 1) ∧ ∀ v, (∃ j, j < cnt - 1 ∧ mx_nm (mx_dr f L cnt k) L j = v) ↔ (∃ j, j < cnt ∧ mx_nm f L j = v) ∧ ¬ v = mx_nm f L k := by
  refine ⟨fun i j hij hj => ?_, fun v => ⟨?_, ?_⟩⟩
  · rw [iv_dr_nm f hk i (by omega), iv_dr_nm f hk j hj]
    refine hs _ _ ?_ ?_
    · split <;> split <;> omega
    · split <;> omega
  · rintro ⟨j, hj, ej⟩
    rw [iv_dr_nm f hk j hj] at ej
    refine ⟨⟨_, by split <;> omega, ej⟩, fun z => ?_⟩
    rw [z] at ej
    by_cases hjk : j < k
    · rw [if_pos hjk] at ej
      exact mz_lt_ne (hs j k hjk hk) ej
    · rw [if_neg hjk] at ej
      exact mz_lt_ne (hs k (j + 1) (by omega) (by omega)) ej.symm
  · rintro ⟨⟨j, hj, ej⟩, hne⟩
    by_cases hjk : j < k
    · exact ⟨j, by omega, by rw [iv_dr_nm f hk j (by omega), if_pos hjk]; exact ej⟩
    · have : ¬ j = k := fun z => hne (by rw [← ej, z])
      refine ⟨j - 1, by omega, ?_⟩
      rw [iv_dr_nm f hk (j - 1) (by omega), if_neg (by omega), show j - 1 + 1 = j by omega]
      exact ej
/-- what is kept of a list -/
theorem iv_l1 (L b w g cnt : Nat) (mark : Int32) (hL : 98 * b + 98 ≤ L) (hcn : cnt ≤ 20) (hg : g ≤ 6) : ∀ (d : Nat) (f : Nat → Int32) (cc k : Nat), k + d = cc → mr_so f L cc → mr_so (mx_l1 d f L b w g cnt mark cc k).1 L (mx_l1 d f L b w g cnt mark cc k).2 ∧ (∀ v, (∃ j, j < (mx_l1 d f L b w g cnt mark cc k).2 ∧ mx_nm (mx_l1 d f L b w g cnt mark cc k).1 L j = v) → ∃ j, j < cc ∧ mx_nm f L j = v) ∧ (w = 1 → (mx_l1 d f L b w g cnt mark cc k).2 ≤ k)
  | 0, f, cc, k, hk, hs => ⟨hs, fun v h => h, fun _ => by show cc ≤ k; omega⟩
  | d + 1, f, cc, k, hk, hs => by
    simp only [mx_l1]
    split
    · obtain ⟨h1, h2⟩ := iv_dr_so f (k := k) (by omega) hs
      obtain ⟨a1, a2, a3⟩ := iv_l1 L b w g cnt mark hL hcn hg d (mx_dr f L cc k) (cc - 1) k (by omega) h1
      exact ⟨a1, fun v hv => ((h2 v).1 (a2 v hv)).1, a3⟩
    · rename_i hn
      obtain ⟨a1, a2, a3⟩ := iv_l1 L b w g cnt mark hL hcn hg d f cc (k + 1) (by omega) hs
      exact ⟨a1, a2, fun hw => absurd (Or.inl hw) hn⟩
theorem iv_l2 (L b w : Nat) (mark : Int32) (hL : 98 * b + 98 ≤ L) : ∀ (d : Nat) (f : Nat → Int32) (cc i : Nat), i + d ≤ 20 → mr_so f L cc → mr_so (mx_l2 d f L b w mark cc i).1 L (mx_l2 d f L b w mark cc i).2 ∧ (∀ v, (∃ j, j < (mx_l2 d f L b w mark cc i).2 ∧ mx_nm (mx_l2 d f L b w mark cc i).1 L j = v) → (∃ j, j < cc ∧ mx_nm f L j = v) ∨ ∃ j, i ≤ j ∧ j < i + d ∧ mx_nm f (98 * b + 17) j = v)
  | 0, f, cc, i, _, hs => ⟨hs, fun v h => Or.inl h⟩
  | d + 1, f, cc, i, hi, hs => by
    simp only [mx_l2]
    split
    · have ag : ∀ j, i ≤ j → j < i + 1 + d → mx_nm (mx_pu f L cc (mx_nm f (98 * b + 17) i) (f (98 * b + 17 + 1 + 4 * i + 1)) (f (98 * b + 17 + 1 + 4 * i + 2)) (mx_mk f (98 * b + 17) i)) (98 * b + 17) j = mx_nm f (98 * b + 17) j := fun j h1 h2 => mx_pu_o f _ _ _ _ (Or.inl (by omega))
      obtain ⟨a1, a2⟩ := iv_l2 L b w mark hL d (mx_pu f L cc (mx_nm f (98 * b + 17) i) (f (98 * b + 17 + 1 + 4 * i + 1)) (f (98 * b + 17 + 1 + 4 * i + 2)) (mx_mk f (98 * b + 17) i)) (mx_pn f L cc (mx_nm f (98 * b + 17) i)) (i + 1) (by omega) (mr_so_pu hs _ _ _ _)
      refine ⟨a1, fun v hv => ?_⟩
      rcases a2 v hv with q | ⟨j, q1, q2, q3⟩
      · rcases (iv_pu_in f _ _ _ _ v).1 q with z | z
        · exact Or.inl z
        · exact Or.inr ⟨i, by omega, by omega, z.symm⟩
      · exact Or.inr ⟨j, by omega, by omega, by rw [← ag j (by omega) (by omega)]; exact q3⟩
    · obtain ⟨a1, a2⟩ := iv_l2 L b w mark hL d f cc (i + 1) (by omega) hs
      refine ⟨a1, fun v hv => ?_⟩
      rcases a2 v hv with q | ⟨j, q1, q2, q3⟩
      · exact Or.inl q
      · exact Or.inr ⟨j, by omega, by omega, q3⟩
/-- which deeds stay -/
theorem iv_ds (m b cc : Nat) (oc : Int32) (hm : m < 4) (hb : b < 3) (hcc : cc ≤ 552) : ∀ (d : Nat) (f : Nat → Int32) (n q k : Nat), k + d = n → n ≤ 8 → q ≤ 10 → ∃ φ : Nat → Nat, (∀ i j, i < j → φ i < φ j) ∧ (∀ i, i < k → φ i = i) ∧ (k ≤ (mx_ds d f m b cc oc n q k).2.1 ∧ (mx_ds d f m b cc oc n q k).2.1 ≤ n) ∧ ∀ i, i < (mx_ds d f m b cc oc n q k).2.1 → φ i < n ∧ (∀ j, j < 7 → (mx_ds d f m b cc oc n q k).1 (mx_DA m i + j) = f (mx_DA m (φ i) + j)) ∧ (k ≤ i → ¬ mx_isd f m b cc oc (φ i))
  | 0, f, n, q, k, hk, hn, hq => ⟨fun i => i, fun i j h => h, fun i _ => rfl, ⟨by show k ≤ n; omega, Nat.le_refl _⟩, fun i hi => ⟨hi, fun j _ => rfl, fun h => absurd hi (by show ¬ i < n; omega)⟩⟩
  | d + 1, f, n, q, k, hk, hn, hq => by
    simp only [mx_ds]
    split
    · rename_i hd
      obtain ⟨g, hg⟩ : ∃ g, g = mx_dd (mx_nt f q (f (mx_DA m k)) oc (-1)) m n k := ⟨_, rfl⟩
      rw [← hg]
      have hrow : ∀ i j, i < n - 1 → j < 7 → g (mx_DA m i + j) = f (mx_DA m (if i < k then i else i + 1) + j) := by
        intro i j hi hj
        have e1 := mr_dd_m (mx_nt f q (f (mx_DA m k)) oc (-1)) (m := m) (n := n) (k := k) hn (by omega) i j hi hj
        rw [hg, show mx_DA m i + j = 294 + 58 * m + 1 + 1 + 7 * i + j by unfold mx_DA; omega, e1]
        unfold mt_e
        split
        · rw [mr_DA, mx_nt_o _ _ _ _ _ hq (by unfold mx_DA; omega)]
        · rw [mr_DA, mx_nt_o _ _ _ _ _ hq (by unfold mx_DA; omega)]
      have hcp : ∀ v, mz_fz (mx_nm g (mx_CA m b + 2)) v cc = mz_fz (mx_nm f (mx_CA m b + 2)) v cc := fun v => mz_fz_cong (fun i hi => by
        show g _ = f _
        rw [hg, mr_dd_o _ hn (by omega) (by unfold mx_CA; omega), mx_nt_o _ _ _ _ _ hq (by unfold mx_CA; omega)])
      obtain ⟨φ, p1, p2, ⟨p3, p4⟩, p5⟩ := iv_ds m b cc oc hm hb hcc d g (n - 1) (mx_n1 q) k (by omega) (by omega) (by unfold mx_n1; split <;> omega)
      refine ⟨fun i => if φ i < k then φ i else φ i + 1, fun i j hij => ?_, fun i hi => ?_, ⟨p3, by omega⟩, fun i hi => ?_⟩
      · have := p1 i j hij
        dsimp only
        split <;> split <;> omega
      · dsimp only
        rw [p2 i hi, if_pos hi]
      · obtain ⟨q1, q2, q3⟩ := p5 i hi
        refine ⟨by dsimp only; split <;> omega, fun j hj => ?_, fun hki hisd => q3 hki ?_⟩
        · rw [q2 j hj, hrow _ j q1 hj]
        · unfold mx_isd at hisd ⊢
          have r1 := hrow (φ i) 1 q1 (by omega)
          have r2 := hrow (φ i) 2 q1 (by omega)
          have r3 := hrow (φ i) 3 q1 (by omega)
          rw [r1, r2, r3, hcp]
          exact hisd
    · rename_i hd
      obtain ⟨φ, p1, p2, ⟨p3, p4⟩, p5⟩ := iv_ds m b cc oc hm hb hcc d f n q (k + 1) (by omega) hn hq
      refine ⟨φ, p1, fun i hi => p2 i (by omega), ⟨by omega, p4⟩, fun i hi => ?_⟩
      obtain ⟨q1, q2, q3⟩ := p5 i hi
      refine ⟨q1, q2, fun hki => ?_⟩
      by_cases e : i = k
      · subst e
        rw [p2 i (by omega)]
        exact hd
      · exact q3 (by omega)
end IV

