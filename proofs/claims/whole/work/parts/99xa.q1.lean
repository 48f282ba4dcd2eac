/-! ===== counting: rows of the view in the box, rows of the box in the view ===== -/
def jq_c (p : Nat → Bool) : Nat → Nat
  | 0 => 0
  | n + 1 => jq_c p n + (if p n = true then 1 else 0)
def jq_d (p : Nat → Nat → Bool) (b : Nat) : Nat → Nat
  | 0 => 0
  | a + 1 => jq_d p b a + jq_c (p a) b
theorem jq_c0 {p : Nat → Bool} : ∀ {n : Nat}, (∀ i, i < n → p i = false) → jq_c p n = 0
  | 0, _ => rfl
  | n + 1, h => by
    simp only [jq_c]
    rw [jq_c0 (fun i hi => h i (by omega)), h n (by omega)]
    rfl
theorem jq_swap (p : Nat → Nat → Bool) (b : Nat) : ∀ a, jq_d p b a = jq_d (fun i j => p j i) a b
  | 0 => by
    have : ∀ n, jq_d (fun i j => p j i) 0 n = 0 := fun n => by
      induction n with
      | zero => rfl
      | succ n ih => simp only [jq_d, ih, jq_c]
    rw [this]; rfl
  | a + 1 => by
    have key : ∀ n, jq_d (fun i j => p j i) (a + 1) n = jq_d (fun i j => p j i) a n + jq_c (p a) n := fun n => by
      induction n with
      | zero => rfl
      | succ n ih =>
        simp only [jq_d, jq_c, ih]
        omega
    rw [key, ← jq_swap p b a]
    rfl
/-- at most one place: the count is whether it is found -/
theorem jq_one {g : Nat → Int32} {v : Int32} : ∀ {n : Nat}, (∀ i j, i < j → j < n → g i = v → g j = v → False) → jq_c (fun i => decide (g i = v)) n = if mz_fz g v n = none then 0 else 1
  | 0, _ => rfl
  | n + 1, h => by
    have ih := jq_one (g := g) (v := v) (n := n) (fun i j h1 h2 => h i j h1 (by omega))
    simp only [jq_c]
    by_cases e : mz_fz g v n = none
    · rw [ih, if_pos e]
      by_cases hn : g n = v
      · have e2 := mz_fz_hit e hn (show n < n + 1 by omega)
        rw [e2, if_pos (decide_eq_true hn), if_neg (fun z => by cases z)]
      · rw [mz_fz_miss e hn, if_neg (by simpa using hn), if_pos rfl]
    · rw [ih, if_neg e]
      obtain ⟨j, hj⟩ := Option.ne_none_iff_exists'.1 e
      obtain ⟨j1, j2, -⟩ := mz_fz_some hj
      have hn : ¬ g n = v := fun z => h j n j1 (by omega) j2 z
      rw [if_neg (by simpa using hn), mz_fz_keep hj (Nat.le_succ n), if_neg (fun z => by cases z)]
section JQ
variable {f v : Nat → Int32} {b cnt nv : Nat}
theorem jq_db : ∀ k, (∀ r, r < k → ∀ i j, i < j → j < cnt → mx_nm f (98 * b + 17) i = v (3 * r) → mx_nm f (98 * b + 17) j = v (3 * r) → False) → mx_db f v b cnt k = jq_d (fun r i => decide (mx_nm f (98 * b + 17) i = v (3 * r))) cnt k
  | 0, _ => rfl
  | k + 1, h => by
    simp only [mx_db, jq_d]
    rw [jq_db k (fun r hr => h r (by omega)), jq_one (h k (by omega))]
theorem jq_dm : ∀ k, (∀ i, i < k → ∀ r s, r < s → s < nv → v (3 * r) = mx_nm f (98 * b + 17) i → v (3 * s) = mx_nm f (98 * b + 17) i → False) → mx_dm f v b nv k + jq_d (fun i r => decide (v (3 * r) = mx_nm f (98 * b + 17) i)) nv k = k
  | 0, _ => rfl
  | k + 1, h => by
    have ih := jq_dm k (fun i hi => h i (by omega))
    simp only [mx_dm, jq_d]
    rw [jq_one (g := fun r => v (3 * r)) (h k (by omega))]
    split <;> omega
theorem jq_diff (h1 : ∀ i j, i < j → j < cnt → mx_nm f (98 * b + 17) i = mx_nm f (98 * b + 17) j → False) (h2 : ∀ i, i < cnt → ∀ r s, r < s → s < nv → v (3 * r) = mx_nm f (98 * b + 17) i → v (3 * s) = mx_nm f (98 * b + 17) i → False) : mx_dm f v b nv cnt + mx_db f v b cnt nv = cnt := by
  have a := jq_dm (f := f) (v := v) (b := b) (nv := nv) cnt h2
  have c := jq_db (f := f) (v := v) (b := b) (cnt := cnt) nv (fun r _ i j h3 h4 e1 e2 => h1 i j h3 h4 (e1.trans e2.symm))
  rw [jq_swap] at a
  rw [c]
  have : (fun i j => decide (v (3 * i) = mx_nm f (98 * b + 17) j)) = (fun r i => decide (mx_nm f (98 * b + 17) i = v (3 * r))) := by
    funext r i
    exact decide_eq_decide.mpr ⟨Eq.symm, Eq.symm⟩
  rw [this] at a
  exact a
end JQ
/-- the view's names: those of the copy, ascending; behind them the new messages, below 0 -/
theorem jq_w1 (f : Nat → Int32) (m b n : Nat) (v0 : Nat → Int32) (cc : Nat) (hs : mr_so f (mx_CA m b + 2) cc) : ∀ k, k ≤ cc → (∀ r, r < (mx_w1 f m b n v0 k).2 → ∃ j, j < k ∧ (mx_w1 f m b n v0 k).1 (3 * r) = mx_nm f (mx_CA m b + 2) j) ∧ ∀ r s, r < s → s < (mx_w1 f m b n v0 k).2 → (mx_w1 f m b n v0 k).1 (3 * r) < (mx_w1 f m b n v0 k).1 (3 * s)
  | 0, _ => ⟨fun r hr => absurd hr (by show ¬ r < 0; omega), fun r s _ hs => absurd hs (by show ¬ s < 0; omega)⟩
  | k + 1, hk => by
    obtain ⟨a, c⟩ := jq_w1 f m b n v0 cc hs k (by omega)
    simp only [mx_w1]
    split
    · generalize mx_w1 f m b n v0 k = s0 at a c ⊢
      have at_ : ∀ r, r < s0.2 → (mx_vp s0 (mx_nm f (mx_CA m b + 2) k) (f (mx_CA m b + 2 + 1 + 4 * k + 1)) (mx_vf f m b n (mx_nm f (mx_CA m b + 2) k) (f (mx_CA m b + 2 + 1 + 4 * k + 2)))).1 (3 * r) = s0.1 (3 * r) := fun r hr => by
        simp only [mx_vp, mz_u1]
        rw [if_neg (by omega), if_neg (by omega), if_neg (by omega)]
      have new : (mx_vp s0 (mx_nm f (mx_CA m b + 2) k) (f (mx_CA m b + 2 + 1 + 4 * k + 1)) (mx_vf f m b n (mx_nm f (mx_CA m b + 2) k) (f (mx_CA m b + 2 + 1 + 4 * k + 2)))).1 (3 * s0.2) = mx_nm f (mx_CA m b + 2) k := by
        simp only [mx_vp, mz_u1]
        rw [if_neg (by omega), if_neg (by omega), if_pos trivial]
      have cnt : (mx_vp s0 (mx_nm f (mx_CA m b + 2) k) (f (mx_CA m b + 2 + 1 + 4 * k + 1)) (mx_vf f m b n (mx_nm f (mx_CA m b + 2) k) (f (mx_CA m b + 2 + 1 + 4 * k + 2)))).2 = s0.2 + 1 := rfl
      rw [cnt]
      refine ⟨fun r hr => ?_, fun r s hrs hs' => ?_⟩
      · by_cases e : r < s0.2
        · obtain ⟨j, j1, j2⟩ := a r e
          exact ⟨j, by omega, by rw [at_ r e]; exact j2⟩
        · rw [show r = s0.2 by omega, new]
          exact ⟨k, by omega, rfl⟩
      · by_cases e : s < s0.2
        · rw [at_ r (by omega), at_ s e]; exact c r s hrs e
        · rw [show s = s0.2 by omega, new, at_ r (by omega)]
          obtain ⟨j, j1, j2⟩ := a r (by omega)
          rw [j2]
          exact hs j k j1 (by omega)
    · exact ⟨fun r hr => by obtain ⟨j, j1, j2⟩ := a r hr; exact ⟨j, by omega, j2⟩, c⟩
theorem jq_w2 (f : Nat → Int32) (m b : Nat) (s0 : (Nat → Int32) × Nat) (n : Nat) (hn : ∀ k, k < n → (-f (mx_DA m k)).toInt < 0) : ∀ k, k ≤ n → s0.2 ≤ (mx_w2 f m b s0 k).2 ∧ (∀ i, i < 3 * s0.2 → (mx_w2 f m b s0 k).1 i = s0.1 i) ∧ ∀ r, s0.2 ≤ r → r < (mx_w2 f m b s0 k).2 → ((mx_w2 f m b s0 k).1 (3 * r)).toInt < 0
  | 0, _ => ⟨Nat.le_refl _, fun _ _ => rfl, fun r h1 h2 => absurd h2 (by show ¬ r < s0.2; omega)⟩
  | k + 1, hk => by
    obtain ⟨a, c, d⟩ := jq_w2 f m b s0 n hn k (by omega)
    simp only [mx_w2]
    split
    · generalize mx_w2 f m b s0 k = s at a c d ⊢
      have at_ : ∀ i, i < 3 * s.2 → (mx_vp s (-f (mx_DA m k)) (f (mx_DA m k + 6)) (f (mx_DA m k + 4))).1 i = s.1 i := fun i hi => by
        simp only [mx_vp, mz_u1]
        rw [if_neg (by omega), if_neg (by omega), if_neg (by omega)]
      have new : (mx_vp s (-f (mx_DA m k)) (f (mx_DA m k + 6)) (f (mx_DA m k + 4))).1 (3 * s.2) = -f (mx_DA m k) := by
        simp only [mx_vp, mz_u1]
        rw [if_neg (by omega), if_neg (by omega), if_pos trivial]
      have cnt : (mx_vp s (-f (mx_DA m k)) (f (mx_DA m k + 6)) (f (mx_DA m k + 4))).2 = s.2 + 1 := rfl
      rw [cnt]
      refine ⟨by omega, fun i hi => by rw [at_ i (by omega)]; exact c i hi, fun r h1 h2 => ?_⟩
      by_cases e : r < s.2
      · rw [at_ _ (by omega)]; exact d r h1 e
      · rw [show r = s.2 by omega, new]; exact hn k (by omega)
    · exact ⟨a, c, d⟩
theorem jq_neg {v : Int32} (h : 1 ≤ v.toInt) (h2 : v.toInt < 100000) : (-v).toInt < 0 := by
  rw [Int32.toInt_neg, Int.bmod_def]
  omega
/-- box and view differ in as many rows, counted either way -/
theorem jq_view {f : Nat → Int32} {T K m b : Nat} (h : iv T K f) (hZ : iv_Z f) (hT : T ≤ 512) (hm : m < 4) (hb : b < 3) (v0 : Nat → Int32) : mx_dm f (mx_vw f m b (mx_cC f m b) (mx_nD f m) v0).1 b (mx_vw f m b (mx_cC f m b) (mx_nD f m) v0).2 (mx_cB f b) + mx_db f (mx_vw f m b (mx_cC f m b) (mx_nD f m) v0).1 b (mx_cB f b) (mx_vw f m b (mx_cC f m b) (mx_nD f m) v0).2 = mx_cB f b := by
  have hB := h.1.1 b hb
  have hC := h.1.2 m b hm hb
  obtain ⟨n1, -⟩ := h.2.1.2 m hm
  obtain ⟨a, c⟩ := jq_w1 f m b (mx_nD f m) v0 (mx_cC f m b) hC.2.1 (mx_cC f m b) (Nat.le_refl _)
  have l1 := h.2.2.2
  obtain ⟨d, e, g⟩ := jq_w2 f m b (mx_w1 f m b (mx_nD f m) v0 (mx_cC f m b)) (mx_nD f m) (fun k hk => by have := n1 k hk; exact jq_neg (by omega) (by omega)) (mx_nD f m) (Nat.le_refl _)
  refine jq_diff (fun i j hij hj e1 => ?_) (fun i hi r s hrs hs e1 e2 => ?_)
  · exact mz_lt_ne (hB.2.2.2.1 i j hij hj) e1
  · have pos := (hB.2.2.1 _ ⟨i, hi, rfl⟩).1
    by_cases hs1 : s < (mx_w1 f m b (mx_nD f m) v0 (mx_cC f m b)).2
    · have q1 := c r s hrs hs1
      have e3 : (mx_w1 f m b (mx_nD f m) v0 (mx_cC f m b)).1 (3 * r) = (mx_w1 f m b (mx_nD f m) v0 (mx_cC f m b)).1 (3 * s) := by
        rw [← e (3 * r) (by omega), ← e (3 * s) (by omega)]
        exact e1.trans e2.symm
      exact mz_lt_ne q1 e3
    · have := g s (by omega) hs
      have e4 : ((mx_w2 f m b (mx_w1 f m b (mx_nD f m) v0 (mx_cC f m b)) (mx_nD f m)).1 (3 * s)).toInt = (mx_nm f (98 * b + 17) i).toInt := by
        rw [← e2]; rfl
      omega
theorem jq_lf {g : Nat → Int32} {v : Int32} : ∀ {n : Nat}, (∀ i j, i < j → j < n → g i < g j) → mz_lf g v n = mz_fz g v n
  | 0, _ => rfl
  | n + 1, h => by
    have ih := jq_lf (g := g) (v := v) (n := n) (fun i j h1 h2 => h i j h1 (by omega))
    simp only [mz_lf]
    by_cases e : g n = v
    · rw [if_pos e]
      refine (mz_fz_hit (mz_fz_no (fun j hj z => ?_)) e (by omega)).symm
      exact mz_lt_ne (h j n hj (by omega)) (z.trans e.symm)
    · rw [if_neg e, ih]
      rcases mz_sor (mz_fz g v n) with q | ⟨j, q⟩
      · rw [q, mz_fz_miss q e]
      · rw [q, mz_fz_keep q (Nat.le_succ n)]
theorem jq_eqv {v w w' : Nat → Int32} : ∀ {n : Nat}, (∀ i, i < n → w i = w' i) → mx_eqv v w n = mx_eqv v w' n
  | 0, _ => rfl
  | n + 1, h => by
    simp only [mx_eqv]
    rw [jq_eqv (fun i hi => h i (by omega)), h n (by omega)]

