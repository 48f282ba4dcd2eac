/-! ===== the reference's object: its numbers and rows, as a tuple ===== -/
/-- now, past, viewRow, before; saved, refusal, viewMany; hash -/
abbrev mx_S : Type := ((Nat → Int32) × (Nat → Int32) × (Nat → Int32) × (Nat → Int32)) × (Int32 × Int32 × Int32) × Int64
def mx_now (x : mx_S) : Nat → Int32 := x.1.1
def mx_past (x : mx_S) : Nat → Int32 := x.1.2.1
def mx_view (x : mx_S) : Nat → Int32 := x.1.2.2.1
def mx_bef (x : mx_S) : Nat → Int32 := x.1.2.2.2
def mx_sv (x : mx_S) : Int32 := x.2.1.1
def mx_rf (x : mx_S) : Int32 := x.2.1.2.1
def mx_vm (x : mx_S) : Int32 := x.2.1.2.2
def mx_h (x : mx_S) : Int64 := x.2.2
def mx_wnow (x : mx_S) (f : Nat → Int32) : mx_S := ((f, mx_past x, mx_view x, mx_bef x), x.2)
def mx_wpast (x : mx_S) (f : Nat → Int32) : mx_S := ((mx_now x, f, mx_view x, mx_bef x), x.2)
def mx_wview (x : mx_S) (f : Nat → Int32) : mx_S := ((mx_now x, mx_past x, f, mx_bef x), x.2)
def mx_wbef (x : mx_S) (f : Nat → Int32) : mx_S := ((mx_now x, mx_past x, mx_view x, f), x.2)
def mx_wsv (x : mx_S) (v : Int32) : mx_S := (x.1, (v, mx_rf x, mx_vm x), mx_h x)
def mx_wrf (x : mx_S) (v : Int32) : mx_S := (x.1, (mx_sv x, v, mx_vm x), mx_h x)
def mx_wvm (x : mx_S) (v : Int32) : mx_S := (x.1, (mx_sv x, mx_rf x, v), mx_h x)
def mx_wh (x : mx_S) (v : Int64) : mx_S := (x.1, x.2.1, v)
/-- the addresses: the object, now, past, viewRow, before -/
abbrev mx_A : Type := Nat × Nat × Nat × Nat × Nat
def mx_G (A : mx_A) (G : mz_G) (x : mx_S) : mz_G :=
  (mz_K G, mz_n G, fun q => if q = A.2.1 then mx_now x else if q = A.2.2.1 then mx_past x else if q = A.2.2.2.1 then mx_view x else if q = A.2.2.2.2 then mx_bef x else if q = A.1 then (fun j => if j = 2 then mx_sv x else if j = 3 then mx_rf x else if j = 4 then mx_vm x else mz_i G q j) else mz_i G q,
    mz_r G, fun q j => if q = A.1 then (if j = 7 then mx_h x else mz_l G q j) else mz_l G q j)
/-- the shape: kinds, lengths, references -/
def mx_Ok (A : mx_A) (G : mz_G) : Prop :=
  (mz_K G A.1 = 6 ∧ mz_r G A.1 0 = some A.2.1 ∧ mz_r G A.1 1 = some A.2.2.1 ∧ mz_r G A.1 5 = some A.2.2.2.1 ∧ mz_r G A.1 6 = some A.2.2.2.2) ∧
  (mz_K G A.2.1 = 7 ∧ mz_K G A.2.2.1 = 7 ∧ mz_K G A.2.2.2.1 = 7 ∧ mz_K G A.2.2.2.2 = 7) ∧
  (mz_n G A.2.1 = 29401 ∧ mz_n G A.2.2.1 = 117604 ∧ mz_n G A.2.2.2.1 = 1900 ∧ mz_n G A.2.2.2.2 = 1900) ∧
  (A.2.1 ≠ A.2.2.1 ∧ A.2.1 ≠ A.2.2.2.1 ∧ A.2.1 ≠ A.2.2.2.2 ∧ A.2.2.1 ≠ A.2.2.2.1 ∧ A.2.2.1 ≠ A.2.2.2.2 ∧ A.2.2.2.1 ≠ A.2.2.2.2)
section MX
variable {A : mx_A} {G : mz_G} {x : mx_S}
theorem mx_K : mz_K (mx_G A G x) = mz_K G := rfl
theorem mx_n : mz_n (mx_G A G x) = mz_n G := rfl
theorem mx_r : mz_r (mx_G A G x) = mz_r G := rfl
theorem mx_in : mz_i (mx_G A G x) A.2.1 = mx_now x := by simp [mz_i, mx_G]
theorem mx_ip (h : mx_Ok A G) : mz_i (mx_G A G x) A.2.2.1 = mx_past x := by
  obtain ⟨-, -, -, h1, h2, h3, h4, h5, h6⟩ := h
  simp [mz_i, mx_G, h1.symm]
theorem mx_iv (h : mx_Ok A G) : mz_i (mx_G A G x) A.2.2.2.1 = mx_view x := by
  obtain ⟨-, -, -, h1, h2, h3, h4, h5, h6⟩ := h
  simp [mz_i, mx_G, h2.symm, h4.symm]
theorem mx_ib (h : mx_Ok A G) : mz_i (mx_G A G x) A.2.2.2.2 = mx_bef x := by
  obtain ⟨-, -, -, h1, h2, h3, h4, h5, h6⟩ := h
  simp [mz_i, mx_G, h3.symm, h5.symm, h6.symm]
theorem mx_ne (h : mx_Ok A G) : A.1 ≠ A.2.1 ∧ A.1 ≠ A.2.2.1 ∧ A.1 ≠ A.2.2.2.1 ∧ A.1 ≠ A.2.2.2.2 := by
  obtain ⟨⟨k, -⟩, ⟨k1, k2, k3, k4⟩, -⟩ := h
  refine ⟨fun e => ?_, fun e => ?_, fun e => ?_, fun e => ?_⟩ <;> (rw [e] at k; omega)
theorem mx_i2 (h : mx_Ok A G) : mz_i (mx_G A G x) A.1 2 = mx_sv x := by
  obtain ⟨h1, h2, h3, h4⟩ := mx_ne h
  simp [mz_i, mx_G, h1, h2, h3, h4]
theorem mx_i3 (h : mx_Ok A G) : mz_i (mx_G A G x) A.1 3 = mx_rf x := by
  obtain ⟨h1, h2, h3, h4⟩ := mx_ne h
  simp [mz_i, mx_G, h1, h2, h3, h4]
theorem mx_i4 (h : mx_Ok A G) : mz_i (mx_G A G x) A.1 4 = mx_vm x := by
  obtain ⟨h1, h2, h3, h4⟩ := mx_ne h
  simp [mz_i, mx_G, h1, h2, h3, h4]
theorem mx_l7 : mz_l (mx_G A G x) A.1 7 = mx_h x := by simp [mz_l, mx_G]
theorem mx_sn {j : Nat} {v : Int32} : mz_si (mx_G A G x) A.2.1 j v = mx_G A G (mx_wnow x (mz_u1 (mx_now x) j v)) := by
  refine Prod.ext rfl (Prod.ext rfl (Prod.ext ?_ (Prod.ext rfl rfl)))
  funext q k
  show mz_u2 (mz_i (mx_G A G x)) A.2.1 j v q k = mz_i (mx_G A G (mx_wnow x _)) q k
  by_cases hq : q = A.2.1
  · subst hq
    rw [mx_in]
    by_cases hk : k = j
    · subst hk; simp [mz_u2, mx_wnow, mx_now, mz_u1]
    · rw [mz_u2_j _ _ _ _ hk, mx_in]; simp [mx_wnow, mx_now, mz_u1, hk]
  · rw [mz_u2_a _ _ _ _ hq]
    simp [mz_i, mx_G, hq, mx_wnow, mx_past, mx_view, mx_bef, mx_sv, mx_rf, mx_vm]
theorem mx_sp (h : mx_Ok A G) {j : Nat} {v : Int32} : mz_si (mx_G A G x) A.2.2.1 j v = mx_G A G (mx_wpast x (mz_u1 (mx_past x) j v)) := by
  refine Prod.ext rfl (Prod.ext rfl (Prod.ext ?_ (Prod.ext rfl rfl)))
  funext q k
  show mz_u2 (mz_i (mx_G A G x)) A.2.2.1 j v q k = mz_i (mx_G A G (mx_wpast x _)) q k
  by_cases hq : q = A.2.2.1
  · subst hq
    rw [mx_ip h]
    by_cases hk : k = j
    · subst hk; simp [mz_u2, mx_wpast, mx_past, mz_u1]
    · rw [mz_u2_j _ _ _ _ hk, mx_ip h]; simp [mx_wpast, mx_past, mz_u1, hk]
  · rw [mz_u2_a _ _ _ _ hq]
    simp [mz_i, mx_G, hq, mx_wpast, mx_now, mx_view, mx_bef, mx_sv, mx_rf, mx_vm]
theorem mx_sw (h : mx_Ok A G) {j : Nat} {v : Int32} : mz_si (mx_G A G x) A.2.2.2.1 j v = mx_G A G (mx_wview x (mz_u1 (mx_view x) j v)) := by
  refine Prod.ext rfl (Prod.ext rfl (Prod.ext ?_ (Prod.ext rfl rfl)))
  funext q k
  show mz_u2 (mz_i (mx_G A G x)) A.2.2.2.1 j v q k = mz_i (mx_G A G (mx_wview x _)) q k
  by_cases hq : q = A.2.2.2.1
  · subst hq
    rw [mx_iv h]
    by_cases hk : k = j
    · subst hk; simp [mz_u2, mx_wview, mx_view, mz_u1]
    · rw [mz_u2_j _ _ _ _ hk, mx_iv h]; simp [mx_wview, mx_view, mz_u1, hk]
  · rw [mz_u2_a _ _ _ _ hq]
    simp [mz_i, mx_G, hq, mx_wview, mx_now, mx_past, mx_bef, mx_sv, mx_rf, mx_vm]
theorem mx_sb (h : mx_Ok A G) {j : Nat} {v : Int32} : mz_si (mx_G A G x) A.2.2.2.2 j v = mx_G A G (mx_wbef x (mz_u1 (mx_bef x) j v)) := by
  refine Prod.ext rfl (Prod.ext rfl (Prod.ext ?_ (Prod.ext rfl rfl)))
  funext q k
  show mz_u2 (mz_i (mx_G A G x)) A.2.2.2.2 j v q k = mz_i (mx_G A G (mx_wbef x _)) q k
  by_cases hq : q = A.2.2.2.2
  · subst hq
    rw [mx_ib h]
    by_cases hk : k = j
    · subst hk; simp [mz_u2, mx_wbef, mx_bef, mz_u1]
    · rw [mz_u2_j _ _ _ _ hk, mx_ib h]; simp [mx_wbef, mx_bef, mz_u1, hk]
  · rw [mz_u2_a _ _ _ _ hq]
    simp [mz_i, mx_G, hq, mx_wbef, mx_now, mx_past, mx_view, mx_sv, mx_rf, mx_vm]
theorem mx_s2 (h : mx_Ok A G) {v : Int32} : mz_si (mx_G A G x) A.1 2 v = mx_G A G (mx_wsv x v) := by
  obtain ⟨h1, h2, h3, h4⟩ := mx_ne h
  refine Prod.ext rfl (Prod.ext rfl (Prod.ext ?_ (Prod.ext rfl rfl)))
  funext q k
  show mz_u2 (mz_i (mx_G A G x)) A.1 2 v q k = mz_i (mx_G A G (mx_wsv x v)) q k
  by_cases hq : q = A.1
  · subst hq
    by_cases hk : k = 2
    · subst hk; simp [mz_u2, mz_i, mx_G, h1, h2, h3, h4, mx_wsv, mx_sv]
    · rw [mz_u2_j _ _ _ _ hk]; simp [mz_i, mx_G, h1, h2, h3, h4, mx_wsv, hk, mx_rf, mx_vm]
  · rw [mz_u2_a _ _ _ _ hq]
    simp [mz_i, mx_G, hq, mx_wsv, mx_now, mx_past, mx_view, mx_bef]
theorem mx_s3 (h : mx_Ok A G) {v : Int32} : mz_si (mx_G A G x) A.1 3 v = mx_G A G (mx_wrf x v) := by
  obtain ⟨h1, h2, h3, h4⟩ := mx_ne h
  refine Prod.ext rfl (Prod.ext rfl (Prod.ext ?_ (Prod.ext rfl rfl)))
  funext q k
  show mz_u2 (mz_i (mx_G A G x)) A.1 3 v q k = mz_i (mx_G A G (mx_wrf x v)) q k
  by_cases hq : q = A.1
  · subst hq
    by_cases hk : k = 3
    · subst hk; simp [mz_u2, mz_i, mx_G, h1, h2, h3, h4, mx_wrf, mx_rf]
    · rw [mz_u2_j _ _ _ _ hk]; simp [mz_i, mx_G, h1, h2, h3, h4, mx_wrf, hk, mx_sv, mx_vm]
  · rw [mz_u2_a _ _ _ _ hq]
    simp [mz_i, mx_G, hq, mx_wrf, mx_now, mx_past, mx_view, mx_bef]
theorem mx_s4 (h : mx_Ok A G) {v : Int32} : mz_si (mx_G A G x) A.1 4 v = mx_G A G (mx_wvm x v) := by
  obtain ⟨h1, h2, h3, h4⟩ := mx_ne h
  refine Prod.ext rfl (Prod.ext rfl (Prod.ext ?_ (Prod.ext rfl rfl)))
  funext q k
  show mz_u2 (mz_i (mx_G A G x)) A.1 4 v q k = mz_i (mx_G A G (mx_wvm x v)) q k
  by_cases hq : q = A.1
  · subst hq
    by_cases hk : k = 4
    · subst hk; simp [mz_u2, mz_i, mx_G, h1, h2, h3, h4, mx_wvm, mx_vm]
    · rw [mz_u2_j _ _ _ _ hk]; simp [mz_i, mx_G, h1, h2, h3, h4, mx_wvm, hk, mx_sv, mx_rf]
  · rw [mz_u2_a _ _ _ _ hq]
    simp [mz_i, mx_G, hq, mx_wvm, mx_now, mx_past, mx_view, mx_bef]
theorem mx_sh {v : Int64} : mz_sl (mx_G A G x) A.1 7 v = mx_G A G (mx_wh x v) := by
  refine Prod.ext rfl (Prod.ext rfl (Prod.ext rfl (Prod.ext rfl ?_)))
  funext q k
  show mz_u2 (mz_l (mx_G A G x)) A.1 7 v q k = mz_l (mx_G A G (mx_wh x v)) q k
  by_cases hq : q = A.1
  · subst hq
    by_cases hk : k = 7
    · subst hk; simp [mz_u2, mz_l, mx_G, mx_wh, mx_h]
    · rw [mz_u2_j _ _ _ _ hk]; simp [mz_l, mx_G, hk]
  · rw [mz_u2_a _ _ _ _ hq]
    simp [mz_l, mx_G, hq]
/-- a heap that holds them already -/
theorem mx_G_self (h : mx_Ok A G) : G = mx_G A G ((mz_i G A.2.1, mz_i G A.2.2.1, mz_i G A.2.2.2.1, mz_i G A.2.2.2.2), (mz_i G A.1 2, mz_i G A.1 3, mz_i G A.1 4), mz_l G A.1 7) := by
  refine Prod.ext rfl (Prod.ext rfl (Prod.ext ?_ (Prod.ext rfl ?_)))
  · funext q j
    show mz_i G q j = _
    simp only [mx_G, mx_now, mx_past, mx_view, mx_bef, mx_sv, mx_rf, mx_vm]
    split
    · rename_i e; rw [e]
    · split
      · rename_i e; rw [e]
      · split
        · rename_i e; rw [e]
        · split
          · rename_i e; rw [e]
          · split
            · rename_i e
              subst e
              dsimp only
              split
              · rename_i e; rw [e]
              · split
                · rename_i e; rw [e]
                · split
                  · rename_i e; rw [e]
                  · rfl
            · rfl
  · funext q j
    show mz_l G q j = _
    simp only [mx_G, mx_h]
    split
    · rename_i e
      subst e
      split
      · rename_i e; rw [e]
      · rfl
    · rfl
end MX
theorem mz_c0 : mz_c 0 = nI 0 := rfl
theorem mz_c1 : mz_c 1 = nI 1 := rfl
theorem mz_c2 : mz_c 2 = nI 2 := rfl
theorem mz_c3 : mz_c 3 = nI 3 := rfl
theorem mz_c4 : mz_c 4 = nI 4 := rfl
theorem mz_c5 : mz_c 5 = nI 5 := rfl
theorem mz_c6 : mz_c 6 = nI 6 := rfl
theorem mz_c7 : mz_c 7 = nI 7 := rfl
theorem mz_c8 : mz_c 8 = nI 8 := rfl
theorem mz_c10 : mz_c 10 = nI 10 := rfl
theorem mz_c17 : mz_c 17 = nI 17 := rfl
theorem mz_c20 : mz_c 20 = nI 20 := rfl
theorem mz_c28 : mz_c 28 = nI 28 := rfl
theorem mz_c58 : mz_c 58 = nI 58 := rfl
theorem mz_c63 : mz_c 63 = nI 63 := rfl
theorem mz_c98 : mz_c 98 = nI 98 := rfl
theorem mz_c294 : mz_c 294 = nI 294 := rfl
theorem mz_c526 : mz_c 526 = nI 526 := rfl
theorem mz_c532 : mz_c 532 = nI 532 := rfl
theorem mz_c540 : mz_c 540 = nI 540 := rfl
theorem mz_c999 : mz_c 999 = nI 999 := rfl
theorem mz_c1900 : mz_c 1900 = nI 1900 := rfl
theorem mz_c2403 : mz_c 2403 = nI 2403 := rfl
theorem mz_c29362 : mz_c 29362 = nI 29362 := rfl
theorem mz_c29363 : mz_c 29363 = nI 29363 := rfl
theorem mz_c29364 : mz_c 29364 = nI 29364 := rfl
theorem mz_c29390 : mz_c 29390 = nI 29390 := rfl
theorem mz_c29393 : mz_c 29393 = nI 29393 := rfl
theorem mz_c29394 : mz_c 29394 = nI 29394 := rfl
theorem mz_c29398 : mz_c 29398 = nI 29398 := rfl
theorem mz_c29399 : mz_c 29399 = nI 29399 := rfl
theorem mz_c29400 : mz_c 29400 = nI 29400 := rfl
theorem mz_c29401 : mz_c 29401 = nI 29401 := rfl
theorem mz_cm1 : mz_c (-1) = -1 := by decide
/-- what a method of the reference says: its answer, its state then -/
def mx_P (A : mx_A) (G : mz_G) (sz : Nat) (v0 : Option Value) (x' : mx_S) : Option Value → mz_G → Nat → Prop := fun v G' sz' => v = v0 ∧ G' = mx_G A G x' ∧ sz = sz'
def mx_M (l : Launch) (E : mz_E) (A : mx_A) (G : mz_G) (sz : Nat) (y : MethodName) (b : ByteArray) (nL : Nat) (ret : Option FieldType) (d : Nat) (av : List Value) (x : mx_S) (v0 : Option Value) (x' : mx_S) : Prop := mz_M l E y b nL ret d 0 0 (.ref A.1 :: av) (mx_G A G x) sz (mx_P A G sz v0 x')
/-- the first place below n where g holds v -/
def mz_fz (g : Nat → Int32) (v : Int32) : Nat → Option Nat
  | 0 => none
  | n + 1 => match mz_fz g v n with
    | some k => some k
    | none => if g n = v then some n else none
def mz_fi (g : Nat → Int32) (v : Int32) (n : Nat) : Int32 := match mz_fz g v n with
  | some k => nI k
  | none => -1
theorem mz_fz_keep {g : Nat → Int32} {v : Int32} {k : Nat} : ∀ {n m : Nat}, mz_fz g v n = some k → n ≤ m → mz_fz g v m = some k := by
  intro n m h hm
  induction m with
  | zero => have : n = 0 := by omega
            subst this; exact h
  | succ m ih =>
    by_cases he : n = m + 1
    · subst he; exact h
    · simp only [mz_fz, ih (by omega)]
theorem mz_fz_hit {g : Nat → Int32} {v : Int32} {k n : Nat} (h0 : mz_fz g v k = none) (hk : g k = v) (hn : k < n) : mz_fz g v n = some k := by
  refine mz_fz_keep (n := k + 1) ?_ hn
  simp only [mz_fz, h0, hk, if_true]
theorem mz_fz_miss {g : Nat → Int32} {v : Int32} {k : Nat} (h0 : mz_fz g v k = none) (hk : ¬ g k = v) : mz_fz g v (k + 1) = none := by
  simp only [mz_fz, h0, if_neg hk]
theorem mz_fz_some {g : Nat → Int32} {v : Int32} : ∀ {n k : Nat}, mz_fz g v n = some k → k < n ∧ g k = v ∧ ∀ j, j < k → g j ≠ v := by
  intro n
  induction n with
  | zero => intro k h; simp [mz_fz] at h
  | succ n ih =>
    intro k h
    simp only [mz_fz] at h
    split at h
    · rename_i q hq
      cases h
      obtain ⟨a, b, c⟩ := ih hq
      exact ⟨by omega, b, c⟩
    · rename_i hq
      split at h
      · rename_i hv
        cases h
        refine ⟨by omega, hv, fun j hj he => ?_⟩
        have : ∀ m, mz_fz g v m = none → ∀ j, j < m → g j ≠ v := by
          intro m
          induction m with
          | zero => intro _ j hj; omega
          | succ m ihm =>
            intro hm j hj
            simp only [mz_fz] at hm
            split at hm
            · cases hm
            · rename_i hm0
              split at hm
              · cases hm
              · rename_i hmv
                by_cases hjm : j = m
                · subst hjm; exact hmv
                · exact ihm hm0 j (by omega)
        exact this n hq j hj he
      · cases h
theorem mz_fz_none {g : Nat → Int32} {v : Int32} : ∀ {n : Nat}, mz_fz g v n = none → ∀ j, j < n → g j ≠ v := by
  intro m
  induction m with
  | zero => intro _ j hj; omega
  | succ m ihm =>
    intro hm j hj
    simp only [mz_fz] at hm
    split at hm
    · cases hm
    · rename_i hm0
      split at hm
      · cases hm
      · rename_i hmv
        by_cases hjm : j = m
        · subst hjm; exact hmv
        · exact ihm hm0 j (by omega)
theorem mz_fz_cong {g g' : Nat → Int32} {v : Int32} : ∀ {n : Nat}, (∀ k, k < n → g k = g' k) → mz_fz g v n = mz_fz g' v n := by
  intro n
  induction n with
  | zero => intro _; rfl
  | succ n ih => intro h; simp only [mz_fz, ih (fun k hk => h k (by omega)), h n (by omega)]
theorem mxq_now_now (x : mx_S) (v : Nat → Int32) : mx_now (mx_wnow x v) = v := rfl
theorem mxq_now_past (x : mx_S) (v : Nat → Int32) : mx_now (mx_wpast x v) = mx_now x := rfl
theorem mxq_now_view (x : mx_S) (v : Nat → Int32) : mx_now (mx_wview x v) = mx_now x := rfl
theorem mxq_now_bef (x : mx_S) (v : Nat → Int32) : mx_now (mx_wbef x v) = mx_now x := rfl
theorem mxq_now_sv (x : mx_S) (v : Int32) : mx_now (mx_wsv x v) = mx_now x := rfl
theorem mxq_now_rf (x : mx_S) (v : Int32) : mx_now (mx_wrf x v) = mx_now x := rfl
theorem mxq_now_vm (x : mx_S) (v : Int32) : mx_now (mx_wvm x v) = mx_now x := rfl
theorem mxq_now_h (x : mx_S) (v : Int64) : mx_now (mx_wh x v) = mx_now x := rfl
theorem mxq_past_now (x : mx_S) (v : Nat → Int32) : mx_past (mx_wnow x v) = mx_past x := rfl
theorem mxq_past_past (x : mx_S) (v : Nat → Int32) : mx_past (mx_wpast x v) = v := rfl
theorem mxq_past_view (x : mx_S) (v : Nat → Int32) : mx_past (mx_wview x v) = mx_past x := rfl
theorem mxq_past_bef (x : mx_S) (v : Nat → Int32) : mx_past (mx_wbef x v) = mx_past x := rfl
theorem mxq_past_sv (x : mx_S) (v : Int32) : mx_past (mx_wsv x v) = mx_past x := rfl
theorem mxq_past_rf (x : mx_S) (v : Int32) : mx_past (mx_wrf x v) = mx_past x := rfl
theorem mxq_past_vm (x : mx_S) (v : Int32) : mx_past (mx_wvm x v) = mx_past x := rfl
theorem mxq_past_h (x : mx_S) (v : Int64) : mx_past (mx_wh x v) = mx_past x := rfl
theorem mxq_view_now (x : mx_S) (v : Nat → Int32) : mx_view (mx_wnow x v) = mx_view x := rfl
theorem mxq_view_past (x : mx_S) (v : Nat → Int32) : mx_view (mx_wpast x v) = mx_view x := rfl
theorem mxq_view_view (x : mx_S) (v : Nat → Int32) : mx_view (mx_wview x v) = v := rfl
theorem mxq_view_bef (x : mx_S) (v : Nat → Int32) : mx_view (mx_wbef x v) = mx_view x := rfl
theorem mxq_view_sv (x : mx_S) (v : Int32) : mx_view (mx_wsv x v) = mx_view x := rfl
theorem mxq_view_rf (x : mx_S) (v : Int32) : mx_view (mx_wrf x v) = mx_view x := rfl
theorem mxq_view_vm (x : mx_S) (v : Int32) : mx_view (mx_wvm x v) = mx_view x := rfl
theorem mxq_view_h (x : mx_S) (v : Int64) : mx_view (mx_wh x v) = mx_view x := rfl
theorem mxq_bef_now (x : mx_S) (v : Nat → Int32) : mx_bef (mx_wnow x v) = mx_bef x := rfl
theorem mxq_bef_past (x : mx_S) (v : Nat → Int32) : mx_bef (mx_wpast x v) = mx_bef x := rfl
theorem mxq_bef_view (x : mx_S) (v : Nat → Int32) : mx_bef (mx_wview x v) = mx_bef x := rfl
theorem mxq_bef_bef (x : mx_S) (v : Nat → Int32) : mx_bef (mx_wbef x v) = v := rfl
theorem mxq_bef_sv (x : mx_S) (v : Int32) : mx_bef (mx_wsv x v) = mx_bef x := rfl
theorem mxq_bef_rf (x : mx_S) (v : Int32) : mx_bef (mx_wrf x v) = mx_bef x := rfl
theorem mxq_bef_vm (x : mx_S) (v : Int32) : mx_bef (mx_wvm x v) = mx_bef x := rfl
theorem mxq_bef_h (x : mx_S) (v : Int64) : mx_bef (mx_wh x v) = mx_bef x := rfl
theorem mxq_sv_now (x : mx_S) (v : Nat → Int32) : mx_sv (mx_wnow x v) = mx_sv x := rfl
theorem mxq_sv_past (x : mx_S) (v : Nat → Int32) : mx_sv (mx_wpast x v) = mx_sv x := rfl
theorem mxq_sv_view (x : mx_S) (v : Nat → Int32) : mx_sv (mx_wview x v) = mx_sv x := rfl
theorem mxq_sv_bef (x : mx_S) (v : Nat → Int32) : mx_sv (mx_wbef x v) = mx_sv x := rfl
theorem mxq_sv_sv (x : mx_S) (v : Int32) : mx_sv (mx_wsv x v) = v := rfl
theorem mxq_sv_rf (x : mx_S) (v : Int32) : mx_sv (mx_wrf x v) = mx_sv x := rfl
theorem mxq_sv_vm (x : mx_S) (v : Int32) : mx_sv (mx_wvm x v) = mx_sv x := rfl
theorem mxq_sv_h (x : mx_S) (v : Int64) : mx_sv (mx_wh x v) = mx_sv x := rfl
theorem mxq_rf_now (x : mx_S) (v : Nat → Int32) : mx_rf (mx_wnow x v) = mx_rf x := rfl
theorem mxq_rf_past (x : mx_S) (v : Nat → Int32) : mx_rf (mx_wpast x v) = mx_rf x := rfl
theorem mxq_rf_view (x : mx_S) (v : Nat → Int32) : mx_rf (mx_wview x v) = mx_rf x := rfl
theorem mxq_rf_bef (x : mx_S) (v : Nat → Int32) : mx_rf (mx_wbef x v) = mx_rf x := rfl
theorem mxq_rf_sv (x : mx_S) (v : Int32) : mx_rf (mx_wsv x v) = mx_rf x := rfl
theorem mxq_rf_rf (x : mx_S) (v : Int32) : mx_rf (mx_wrf x v) = v := rfl
theorem mxq_rf_vm (x : mx_S) (v : Int32) : mx_rf (mx_wvm x v) = mx_rf x := rfl
theorem mxq_rf_h (x : mx_S) (v : Int64) : mx_rf (mx_wh x v) = mx_rf x := rfl
theorem mxq_vm_now (x : mx_S) (v : Nat → Int32) : mx_vm (mx_wnow x v) = mx_vm x := rfl
theorem mxq_vm_past (x : mx_S) (v : Nat → Int32) : mx_vm (mx_wpast x v) = mx_vm x := rfl
theorem mxq_vm_view (x : mx_S) (v : Nat → Int32) : mx_vm (mx_wview x v) = mx_vm x := rfl
theorem mxq_vm_bef (x : mx_S) (v : Nat → Int32) : mx_vm (mx_wbef x v) = mx_vm x := rfl
theorem mxq_vm_sv (x : mx_S) (v : Int32) : mx_vm (mx_wsv x v) = mx_vm x := rfl
theorem mxq_vm_rf (x : mx_S) (v : Int32) : mx_vm (mx_wrf x v) = mx_vm x := rfl
theorem mxq_vm_vm (x : mx_S) (v : Int32) : mx_vm (mx_wvm x v) = v := rfl
theorem mxq_vm_h (x : mx_S) (v : Int64) : mx_vm (mx_wh x v) = mx_vm x := rfl
theorem mxq_h_now (x : mx_S) (v : Nat → Int32) : mx_h (mx_wnow x v) = mx_h x := rfl
theorem mxq_h_past (x : mx_S) (v : Nat → Int32) : mx_h (mx_wpast x v) = mx_h x := rfl
theorem mxq_h_view (x : mx_S) (v : Nat → Int32) : mx_h (mx_wview x v) = mx_h x := rfl
theorem mxq_h_bef (x : mx_S) (v : Nat → Int32) : mx_h (mx_wbef x v) = mx_h x := rfl
theorem mxq_h_sv (x : mx_S) (v : Int32) : mx_h (mx_wsv x v) = mx_h x := rfl
theorem mxq_h_rf (x : mx_S) (v : Int32) : mx_h (mx_wrf x v) = mx_h x := rfl
theorem mxq_h_vm (x : mx_S) (v : Int32) : mx_h (mx_wvm x v) = mx_h x := rfl
theorem mxq_h_h (x : mx_S) (v : Int64) : mx_h (mx_wh x v) = v := rfl
theorem mxw_now (x : mx_S) (v w : Nat → Int32) : mx_wnow (mx_wnow x v) w = mx_wnow x w := rfl
theorem mxw_past (x : mx_S) (v w : Nat → Int32) : mx_wpast (mx_wpast x v) w = mx_wpast x w := rfl
theorem mxw_view (x : mx_S) (v w : Nat → Int32) : mx_wview (mx_wview x v) w = mx_wview x w := rfl
theorem mxw_bef (x : mx_S) (v w : Nat → Int32) : mx_wbef (mx_wbef x v) w = mx_wbef x w := rfl
theorem mxw_sv (x : mx_S) (v w : Int32) : mx_wsv (mx_wsv x v) w = mx_wsv x w := rfl
theorem mxw_rf (x : mx_S) (v w : Int32) : mx_wrf (mx_wrf x v) w = mx_wrf x w := rfl
theorem mxw_vm (x : mx_S) (v w : Int32) : mx_wvm (mx_wvm x v) w = mx_wvm x w := rfl
theorem mxw_h (x : mx_S) (v w : Int64) : mx_wh (mx_wh x v) w = mx_wh x w := rfl
theorem mz_pp (n : Nat) : nI (n + 1) - mz_c 1 = nI n := nI_pred n
theorem mz_pq (n : Nat) : nI (n + 1) - nI 1 = nI n := nI_pred n
