/-! ===== the typed heap: K the kind of each address, n lengths, i ints, r references, l longs ===== -/
abbrev mz_G : Type := (Nat → Nat) × (Nat → Nat) × (Nat → Nat → Int32) × (Nat → Nat → Option Nat) × (Nat → Nat → Int64)
def mz_K (G : mz_G) : Nat → Nat := G.1
def mz_n (G : mz_G) : Nat → Nat := G.2.1
def mz_i (G : mz_G) : Nat → Nat → Int32 := G.2.2.1
def mz_r (G : mz_G) : Nat → Nat → Option Nat := G.2.2.2.1
def mz_l (G : mz_G) : Nat → Nat → Int64 := G.2.2.2.2
def mz_u1 {α : Type} (f : Nat → α) (a : Nat) (v : α) : Nat → α := fun b => if b = a then v else f b
def mz_u2 {α : Type} (f : Nat → Nat → α) (a j : Nat) (v : α) : Nat → Nat → α := fun b k => if b = a then (if k = j then v else f b k) else f b k
def mz_si (G : mz_G) (a j : Nat) (v : Int32) : mz_G := (mz_K G, mz_n G, mz_u2 (mz_i G) a j v, mz_r G, mz_l G)
def mz_sr (G : mz_G) (a j : Nat) (v : Option Nat) : mz_G := (mz_K G, mz_n G, mz_i G, mz_u2 (mz_r G) a j v, mz_l G)
def mz_sl (G : mz_G) (a j : Nat) (v : Int64) : mz_G := (mz_K G, mz_n G, mz_i G, mz_r G, mz_u2 (mz_l G) a j v)
/-- a new cell at a, of kind k, n places, all of them zero, null -/
def mz_nw (G : mz_G) (a k n : Nat) : mz_G := (mz_u1 (mz_K G) a k, mz_u1 (mz_n G) a n, mz_u1 (mz_i G) a (fun _ => 0), mz_u1 (mz_r G) a (fun _ => none), mz_u1 (mz_l G) a (fun _ => 0))
/-- a whole row of ints anew -/
def mz_sa (G : mz_G) (a : Nat) (f : Nat → Int32) : mz_G := (mz_K G, mz_n G, mz_u1 (mz_i G) a f, mz_r G, mz_l G)
theorem mz_u2_s {α : Type} (f : Nat → Nat → α) (a j : Nat) (v : α) : mz_u2 f a j v a j = v := by simp [mz_u2]
theorem mz_u2_a {α : Type} (f : Nat → Nat → α) {a b : Nat} (j k : Nat) (v : α) (h : b ≠ a) : mz_u2 f a j v b k = f b k := by simp [mz_u2, h]
theorem mz_u2_j {α : Type} (f : Nat → Nat → α) (a b : Nat) {j k : Nat} (v : α) (h : k ≠ j) : mz_u2 f a j v b k = f b k := by simp [mz_u2, h]
/-- the types of the fields: 0 int, 1 reference, 2 long -/
def mz_ft : Nat → List Nat
  | 0 => [0, 0, 0, 0, 1, 1]
  | 1 => [0, 0, 1]
  | 2 => [0, 1, 1]
  | 3 => [1, 1, 1, 1, 0]
  | 4 => [0, 0, 0, 1]
  | 5 => [1, 1, 0, 1, 1]
  | 6 => [1, 1, 0, 0, 0, 1, 1, 2]
  | _ => []
def mz_fv (G : mz_G) (q t j : Nat) : Value := match t with
  | 0 => .int (mz_i G q j)
  | 1 => va_rf (mz_r G q j)
  | _ => .long (mz_l G q j)
def mz_fs (G : mz_G) (q : Nat) : Nat → List Nat → List Value
  | _, [] => []
  | j, t :: ts => mz_fv G q t j :: mz_fs G q (j + 1) ts
abbrev mz_E : Type := va_G × (Nat → ClassId) × Nat
def mz_cel (E : mz_E) (G : mz_G) (q : Nat) : Option va_E :=
  if mz_K G q < 7 then some (.inr (mz_K G q, mz_fs G q 0 (mz_ft (mz_K G q))))
  else if mz_K G q = 7 then some (.inl (E.2.1 7, mz_n G q, .inl (mz_i G q)))
  else if mz_K G q < 12 then some (.inl (E.2.1 (mz_K G q), mz_n G q, .inr (.inr (.inr (.inr (mz_r G q))))))
  else if mz_K G q = 12 then some (.inl (E.2.1 12, mz_n G q, .inr (.inl (mz_l G q))))
  else none
def mz_H (E : mz_E) (G : mz_G) (H : Heap) : Prop := ∀ (q : Nat) (x : va_E), mz_cel E G q = some x → E.2.2 ≤ q ∧ va_at E.1 vwCl (q, x) H
def mz_A (E : mz_E) : Nat → Prop := fun q => E.2.2 ≤ q
def mz_tys (E : mz_E) : List (ClassId × FieldType) := [(E.2.1 7, .int), (E.2.1 8, .object RX0), (E.2.1 9, .object RX1), (E.2.1 10, .object RX2), (E.2.1 11, .object RX3), (E.2.1 12, .long)]
theorem mz_fs_len (G : mz_G) (q : Nat) : ∀ (ts : List Nat) (j : Nat), (mz_fs G q j ts).length = ts.length
  | [], _ => rfl
  | _ :: ts, j => by simp [mz_fs, mz_fs_len G q ts (j + 1)]
theorem mz_fs_get (G : mz_G) (q : Nat) : ∀ (ts : List Nat) (j k t : Nat), ts[k]? = some t → (mz_fs G q j ts)[k]? = some (mz_fv G q t (j + k))
  | [], _, k, t, h => by simp at h
  | t0 :: ts, j, 0, t, h => by simp at h; simp [mz_fs, h]
  | t0 :: ts, j, k + 1, t, h => by
    simp at h
    have := mz_fs_get G q ts (j + 1) k t h
    simp [mz_fs, this]
    congr 1
    omega
/-- a field anew, by the field's list -/
theorem mz_fs_set (G G' : mz_G) (q jj : Nat) (v : Value) (hoth : ∀ t j, j ≠ jj → mz_fv G' q t j = mz_fv G q t j) : ∀ (ts : List Nat) (j k t : Nat), ts[k]? = some t → jj = j + k → mz_fv G' q t jj = v → mz_fs G' q j ts = (mz_fs G q j ts).set k v
  | [], _, k, t, h, _, _ => by simp at h
  | t0 :: ts, j, 0, t, h, hj, hv => by
    simp at h
    subst h
    have hr : ∀ (us : List Nat) (i : Nat), jj < i → mz_fs G' q i us = mz_fs G q i us := by
      intro us
      induction us with
      | nil => intro i _; rfl
      | cons u us ih => intro i hi; simp [mz_fs, hoth u i (by omega), ih (i + 1) (by omega)]
    simp only [mz_fs, List.set_cons_zero]
    rw [hr ts (j + 1) (by omega), ← hv, hj]
    rfl
  | t0 :: ts, j, k + 1, t, h, hj, hv => by
    simp at h
    simp only [mz_fs, List.set_cons_succ]
    rw [hoth t0 j (by omega), mz_fs_set G G' q jj v hoth ts (j + 1) k t h (by omega) hv]
theorem mz_H.upd {E : mz_E} {G G' : mz_G} {H H' : Heap} {a : Nat} (h : mz_H E G H) (ho : ∀ q, q ≠ a → mz_cel E G' q = mz_cel E G q) (hq : ∀ q : Nat, q < H.size → q ≠ a → H'[q]? = H[q]?) (hn : ∀ x, mz_cel E G' a = some x → E.2.2 ≤ a ∧ va_at E.1 vwCl (a, x) H') : mz_H E G' H' := by
  intro q x hx
  by_cases hqa : q = a
  · subst hqa
    exact hn x hx
  · rw [ho q hqa] at hx
    obtain ⟨h1, h2⟩ := h q x hx
    exact ⟨h1, h2.kept (hq q h2.lt hqa)⟩
theorem mz_cel_o {E : mz_E} {G G' : mz_G} {q : Nat} (hK : mz_K G' q = mz_K G q) (hn : mz_n G' q = mz_n G q) (hi : mz_i G' q = mz_i G q) (hr : mz_r G' q = mz_r G q) (hl : mz_l G' q = mz_l G q) : mz_cel E G' q = mz_cel E G q := by
  have hv : ∀ t j, mz_fv G' q t j = mz_fv G q t j := by
    intro t j
    unfold mz_fv
    rw [hi, hr, hl]
  have hf : ∀ (ts : List Nat) (j : Nat), mz_fs G' q j ts = mz_fs G q j ts := by
    intro ts
    induction ts with
    | nil => intro j; rfl
    | cons t ts ih => intro j; simp [mz_fs, hv, ih]
  unfold mz_cel
  rw [hK, hn, hi, hr, hl, hf]
theorem mz_u2_o {α : Type} (f : Nat → Nat → α) {a b : Nat} (j : Nat) (v : α) (h : b ≠ a) : mz_u2 f a j v b = f b := by
  funext k
  simp [mz_u2, h]
theorem mz_u1_o {α : Type} (f : Nat → α) {a b : Nat} (v : α) (h : b ≠ a) : mz_u1 f a v b = f b := by simp [mz_u1, h]
theorem mz_u1_s {α : Type} (f : Nat → α) (a : Nat) (v : α) : mz_u1 f a v a = v := by simp [mz_u1]
theorem mz_si_o {E : mz_E} {G : mz_G} {a j : Nat} {v : Int32} (q : Nat) (h : q ≠ a) : mz_cel E (mz_si G a j v) q = mz_cel E G q := mz_cel_o rfl rfl (mz_u2_o _ _ _ h) rfl rfl
theorem mz_sr_o {E : mz_E} {G : mz_G} {a j : Nat} {v : Option Nat} (q : Nat) (h : q ≠ a) : mz_cel E (mz_sr G a j v) q = mz_cel E G q := mz_cel_o rfl rfl rfl (mz_u2_o _ _ _ h) rfl
theorem mz_sl_o {E : mz_E} {G : mz_G} {a j : Nat} {v : Int64} (q : Nat) (h : q ≠ a) : mz_cel E (mz_sl G a j v) q = mz_cel E G q := mz_cel_o rfl rfl rfl rfl (mz_u2_o _ _ _ h)
theorem mz_sa_o {E : mz_E} {G : mz_G} {a : Nat} {f : Nat → Int32} (q : Nat) (h : q ≠ a) : mz_cel E (mz_sa G a f) q = mz_cel E G q := mz_cel_o rfl rfl (mz_u1_o _ _ h) rfl rfl
theorem mz_nw_o {E : mz_E} {G : mz_G} {a k n : Nat} (q : Nat) (h : q ≠ a) : mz_cel E (mz_nw G a k n) q = mz_cel E G q := mz_cel_o (mz_u1_o _ _ h) (mz_u1_o _ _ h) (mz_u1_o _ _ h) (mz_u1_o _ _ h) (mz_u1_o _ _ h)
theorem mz_cel_ob {E : mz_E} {G : mz_G} {q ci : Nat} (h : mz_K G q = ci) (hc : ci < 7) : mz_cel E G q = some (.inr (ci, mz_fs G q 0 (mz_ft ci))) := by
  unfold mz_cel
  rw [h, if_pos hc]
theorem mz_cel_ia {E : mz_E} {G : mz_G} {q : Nat} (h : mz_K G q = 7) : mz_cel E G q = some (.inl (E.2.1 7, mz_n G q, .inl (mz_i G q))) := by
  unfold mz_cel
  rw [h, if_neg (by decide), if_pos rfl]
theorem mz_cel_ra {E : mz_E} {G : mz_G} {q k : Nat} (h : mz_K G q = k) (h1 : 8 ≤ k) (h2 : k < 12) : mz_cel E G q = some (.inl (E.2.1 k, mz_n G q, .inr (.inr (.inr (.inr (mz_r G q)))))) := by
  unfold mz_cel
  rw [h, if_neg (by omega), if_neg (by omega), if_pos h2]
theorem mz_cel_la {E : mz_E} {G : mz_G} {q : Nat} (h : mz_K G q = 12) : mz_cel E G q = some (.inl (E.2.1 12, mz_n G q, .inr (.inl (mz_l G q)))) := by
  unfold mz_cel
  rw [h, if_neg (by decide), if_neg (by decide), if_neg (by decide), if_pos rfl]
