/-! ===== the judgement V: the machine stands at pc with locals lv, stack st, over the typed heap G of size sz ===== -/
def mz_L (ls : Array Slot) (nL : Nat) (lv : List (Option Value)) : Prop := ls.size = nL ∧ lv_wf ls ∧ ∀ (j : Nat) (v : Value), lv[j]? = some (some v) → ls[j]? = some (.val v)
def mz_V (E : mz_E) (p : Program) (l : Launch) (e : Env) (R : Room) (s : State) (m : MethodId) (args : Array Value) (below : List Frame) (meth : Method) (c : Code) (nL k n : Nat) (Q : State → Prop) (G : mz_G) (sz pc : Nat) (lv : List (Option Value)) (st : List Value) : Prop :=
  ∀ (H : Heap) (locs : List Loc) (ls : Array Slot), mz_H E G H → H.size = sz → va_S (mz_A E) s.heap H locs → mz_L ls nL lv → W p l e R s m args below meth c H locs k n Q (F0 m pc ls st)
/-- what stays the same within a method's body -/
def mz_C (E : mz_E) (p : Program) (s : State) (m : MethodId) (args : Array Value) (meth : Method) (c : Code) (cc : ByteArray) (own : String) (nL : Nat) : Prop :=
  p.tables.exec = Jvm.exec ∧ c.code = cc ∧ c.maxLocals = nL ∧ s.vm.findClass own = some m.cls ∧ (∀ w ∈ mz_ws, w.before args s = true) ∧ meth.locks = false ∧ mz_EF E s
/-- constants as the code has them -/
def mz_c : Int → Int32
  | .ofNat k => nI k
  | .negSucc k => -(nI (k + 1))
def mz_off : Instr → Option Int
  | .goto o => some o
  | .ifCond _ o => some o
  | .if_icmp _ o => some o
  | _ => none
def mz_cok : Instr → Bool
  | .iconst n => Int32.ofInt n == mz_c n
  | .bipush n => (Int8.ofInt n).toInt32 == mz_c n
  | .sipush n => (Int16.ofInt n).toInt32 == mz_c n
  | .iinc _ n => Int32.ofInt n == mz_c n
  | _ => true
/-- the lengths of the instructions that rows know -/
def mz_ln : Instr → Nat
  | .bipush _ => 2
  | .sipush _ => 3
  | .iload _ => 2
  | .lload _ => 2
  | .aload _ => 2
  | .istore _ => 2
  | .lstore _ => 2
  | .astore _ => 2
  | .iinc _ _ => 3
  | .goto _ => 3
  | .ifCond _ _ => 3
  | .if_icmp _ _ => 3
  | .ldc _ => 2
  | .ldc_w _ => 3
  | .ldc2_w _ => 3
  | .getfield _ => 3
  | .putfield _ => 3
  | .new _ => 3
  | .newarray _ => 2
  | .anewarray _ => 3
  | .invokevirtual _ => 3
  | .invokestatic _ => 3
  | .invokespecial _ => 3
  | .checkcast _ => 3
  | .tableswitch _ _ _ _ => 0
  | .lookupswitch _ _ => 0
  | _ => 1
/-- a row of a code table: place, instruction, next place, target of a jump -/
abbrev mz_R : Type := Nat × Instr × Nat × Nat
def mz_tgo (i : Instr) (pc tg : Nat) : Bool := match mz_off i with
  | some o => decide ((pc : Int) + o = (tg : Int))
  | none => true
def mz_rok (cc : ByteArray) (q : mz_R) : Prop := decode cc q.1 = .ok (q.2.1, q.2.2.1 - q.1) ∧ q.1 < q.2.2.1 ∧ mz_tgo q.2.1 q.1 q.2.2.2 = true ∧ mz_cok q.2.1 = true ∧ (mz_ln q.2.1 = 0 ∨ q.2.2.1 = q.1 + mz_ln q.2.1)
def mz_T (cc : ByteArray) (T : List mz_R) : Prop := ∀ q ∈ T, mz_rok cc q
def mz_at : List mz_R → Nat → Option (Instr × Nat × Nat)
  | [], _ => none
  | (a, x) :: r, pc => match Nat.beq a pc with
    | true => some x
    | false => mz_at r pc
theorem mz_at_ok {cc : ByteArray} {T : List mz_R} (h : mz_T cc T) {pc : Nat} {x : Instr × Nat × Nat} (ha : mz_at T pc = some x) : mz_rok cc (pc, x) := by
  induction T with
  | nil => simp [mz_at] at ha
  | cons q r ih =>
    obtain ⟨a, y⟩ := q
    simp only [mz_at] at ha
    split at ha
    · rename_i hb
      cases ha
      have e := Nat.eq_of_beq_eq_true hb
      subst e
      exact h _ List.mem_cons_self
    · exact ih (fun z hz => h z (List.mem_cons_of_mem _ hz)) ha
theorem mz_dec {cc : ByteArray} {pc nx tg : Nat} {i : Instr} (d : Nat) (h : mz_rok cc (pc, i, nx, tg)) (hd : mz_ln i = d + 1) : decode cc pc = .ok (i, d + 1) ∧ nx = pc + (d + 1) := by
  obtain ⟨h1, h2, h3, h4, h5⟩ := h
  rcases h5 with h5 | h5
  · simp only at h5
    omega
  · simp only at h1 h5
    rw [hd] at h5
    refine ⟨?_, h5⟩
    rw [h1, h5]
    congr 2
    omega
/-- locals: read, write -/
def mz_set : List (Option Value) → Nat → Option Value → List (Option Value)
  | [], 0, x => [x]
  | [], i + 1, x => none :: mz_set [] i x
  | _ :: r, 0, x => x :: r
  | a :: r, i + 1, x => a :: mz_set r i x
def mz_kil : List (Option Value) → Nat → List (Option Value)
  | [], _ => []
  | a :: r, 0 => a :: r
  | a :: r, 1 => (match a with
    | some (.long _) => none
    | some (.double _) => none
    | x => x) :: r
  | a :: r, i + 2 => a :: mz_kil r (i + 1)
def mz_sto (lv : List (Option Value)) (i : Nat) (v : Value) : List (Option Value) := mz_set (mz_kil lv i) i (some v)
def mz_sto2 (lv : List (Option Value)) (i : Nat) (v : Value) : List (Option Value) := mz_set (mz_set (mz_kil lv i) i (some v)) (i + 1) none
theorem mz_set_get : ∀ (lv : List (Option Value)) (i : Nat) (x : Option Value) (j : Nat) (v : Value), (mz_set lv i x)[j]? = some (some v) → (j = i ∧ x = some v) ∨ (j ≠ i ∧ lv[j]? = some (some v))
  | [], 0, x, 0, v, h => by simp [mz_set] at h; exact Or.inl ⟨rfl, h⟩
  | [], 0, x, j + 1, v, h => by simp [mz_set] at h
  | [], i + 1, x, 0, v, h => by simp [mz_set] at h
  | [], i + 1, x, j + 1, v, h => by
    simp [mz_set] at h
    rcases mz_set_get [] i x j v h with ⟨a, b⟩ | ⟨a, b⟩
    · exact Or.inl ⟨by omega, b⟩
    · simp at b
  | a :: r, 0, x, 0, v, h => by simp [mz_set] at h; exact Or.inl ⟨rfl, h⟩
  | a :: r, 0, x, j + 1, v, h => by simp [mz_set] at h; exact Or.inr ⟨by omega, by simpa using h⟩
  | a :: r, i + 1, x, 0, v, h => by simp [mz_set] at h; exact Or.inr ⟨by omega, by simpa using h⟩
  | a :: r, i + 1, x, j + 1, v, h => by
    simp [mz_set] at h
    rcases mz_set_get r i x j v h with ⟨a1, b⟩ | ⟨a1, b⟩
    · exact Or.inl ⟨by omega, b⟩
    · exact Or.inr ⟨by omega, by simpa using b⟩
theorem mz_kil_get : ∀ (lv : List (Option Value)) (i j : Nat) (v : Value), (mz_kil lv i)[j]? = some (some v) → lv[j]? = some (some v) ∧ ¬ (j + 1 = i ∧ v.category = 2)
  | [], i, j, v, h => by simp [mz_kil] at h
  | a :: r, 0, j, v, h => by simp only [mz_kil] at h; exact ⟨h, fun z => by omega⟩
  | a :: r, 1, 0, v, h => by
    simp only [mz_kil, List.getElem?_cons_zero, Option.some.injEq] at h
    cases a with
    | none => simp at h
    | some w => cases w <;> simp at h <;> (subst h; simp [Value.category])
  | a :: r, 1, j + 1, v, h => by
    simp only [mz_kil, List.getElem?_cons_succ] at h
    exact ⟨by simpa using h, fun z => by omega⟩
  | a :: r, i + 2, 0, v, h => by
    simp only [mz_kil, List.getElem?_cons_zero, Option.some.injEq] at h
    exact ⟨by simp [h], fun z => by omega⟩
  | a :: r, i + 2, j + 1, v, h => by
    simp only [mz_kil, List.getElem?_cons_succ] at h
    obtain ⟨h1, h2⟩ := mz_kil_get r (i + 1) j v h
    exact ⟨by simpa using h1, fun z => h2 ⟨by omega, z.2⟩⟩
/-- the list of what is held -/
def mz_en (nL : Nat) (lv : List (Option Value)) : List (Nat × Value) := (List.range nL).filterMap (fun j => match lv[j]? with
  | some (some v) => some (j, v)
  | _ => none)
theorem mz_en_mem {nL : Nat} {lv : List (Option Value)} {j : Nat} {v : Value} (hj : j < nL) (h : lv[j]? = some (some v)) : (j, v) ∈ mz_en nL lv := List.mem_filterMap.mpr ⟨j, List.mem_range.mpr hj, by rw [h]⟩
theorem mz_en_of {nL : Nat} {lv : List (Option Value)} {q : Nat × Value} (h : q ∈ mz_en nL lv) : lv[q.1]? = some (some q.2) := by
  obtain ⟨j, -, hj⟩ := List.mem_filterMap.mp h
  split at hj
  · rename_i v hv
    cases hj
    exact hv
  · cases hj
theorem mz_L.has {ls : Array Slot} {nL : Nat} {lv : List (Option Value)} (h : mz_L ls nL lv) : lv_has ls nL (mz_en nL lv) := ⟨h.1, h.2.1, fun q hq => h.2.2 q.1 q.2 (mz_en_of hq)⟩
theorem mz_L.lt {ls : Array Slot} {nL : Nat} {lv : List (Option Value)} (h : mz_L ls nL lv) {j : Nat} {v : Value} (hj : lv[j]? = some (some v)) : j < nL := by
  have h1 := h.2.2 j v hj
  rw [← h.1]
  exact (Array.getElem?_eq_some_iff.mp h1).1
theorem mz_L.sto {ls0 ls : Array Slot} {nL i : Nat} {lv : List (Option Value)} {v : Value} (h0 : mz_L ls0 nL lv) (h : lv_has ls nL ((i, v) :: (mz_en nL lv).filter (fun q => !(q.1 == i) && !(q.1 + 1 == i && q.2.category == 2)))) : mz_L ls nL (mz_sto lv i v) := by
  refine ⟨h.1, h.2.1, fun j w hj => ?_⟩
  rcases mz_set_get _ _ _ _ _ hj with ⟨e1, e2⟩ | ⟨e1, e2⟩
  · subst e1
    cases e2
    exact h.2.2 _ List.mem_cons_self
  · obtain ⟨h1, h2⟩ := mz_kil_get _ _ _ _ e2
    refine h.2.2 (j, w) (List.mem_cons_of_mem _ (List.mem_filter.mpr ⟨mz_en_mem (h0.lt h1) h1, ?_⟩))
    simp only [Bool.and_eq_true, Bool.not_eq_true', beq_eq_false_iff_ne, ne_eq, Bool.and_eq_false_iff]
    refine ⟨e1, ?_⟩
    by_cases hz : j + 1 = i
    · exact Or.inr fun hc => h2 ⟨hz, hc⟩
    · exact Or.inl hz
theorem mz_L.sto2 {ls0 ls : Array Slot} {nL i : Nat} {lv : List (Option Value)} {v : Value} (h0 : mz_L ls0 nL lv) (h : lv_has ls nL ((i, v) :: (mz_en nL lv).filter (fun q => !(q.1 == i) && (!(q.1 == i + 1) && !(q.1 + 1 == i && q.2.category == 2))))) : mz_L ls nL (mz_sto2 lv i v) := by
  refine ⟨h.1, h.2.1, fun j w hj => ?_⟩
  rcases mz_set_get _ _ _ _ _ hj with ⟨e1, e2⟩ | ⟨e1, e2⟩
  · cases e2
  · rcases mz_set_get _ _ _ _ _ e2 with ⟨e3, e4⟩ | ⟨e3, e4⟩
    · subst e3
      cases e4
      exact h.2.2 _ List.mem_cons_self
    · obtain ⟨h1, h2⟩ := mz_kil_get _ _ _ _ e4
      refine h.2.2 (j, w) (List.mem_cons_of_mem _ (List.mem_filter.mpr ⟨mz_en_mem (h0.lt h1) h1, ?_⟩))
      simp only [Bool.and_eq_true, Bool.not_eq_true', beq_eq_false_iff_ne, ne_eq, Bool.and_eq_false_iff]
      refine ⟨e3, e1, ?_⟩
      by_cases hz : j + 1 = i
      · exact Or.inr fun hc => h2 ⟨hz, hc⟩
      · exact Or.inl hz
/-- fewer locals known -/
def mz_sub : List (Option Value) → List (Option Value) → Prop
  | [], _ => True
  | none :: r, [] => mz_sub r []
  | some _ :: _, [] => False
  | none :: r, _ :: r' => mz_sub r r'
  | some v :: r, x :: r' => x = some v ∧ mz_sub r r'
theorem mz_sub_get : ∀ (a b : List (Option Value)), mz_sub a b → ∀ (j : Nat) (v : Value), a[j]? = some (some v) → b[j]? = some (some v)
  | [], _, _, j, v, h => by simp at h
  | none :: r, [], hs, 0, v, h => by simp at h
  | none :: r, [], hs, j + 1, v, h => by
    simp at h
    have := mz_sub_get r [] hs j v h
    simp at this
  | some _ :: _, [], hs, _, _, _ => hs.elim
  | none :: r, x :: r', hs, 0, v, h => by simp at h
  | none :: r, x :: r', hs, j + 1, v, h => by
    simp at h
    simpa using mz_sub_get r r' hs j v h
  | some w :: r, x :: r', hs, 0, v, h => by
    simp at h
    subst h
    simp [hs.1]
  | some w :: r, x :: r', hs, j + 1, v, h => by
    simp at h
    simpa using mz_sub_get r r' hs.2 j v h
section MZV
variable {E : mz_E} {p : Program} {l : Launch} {e : Env} {R : Room} {s : State} {m : MethodId} {args : Array Value} {below : List Frame} {meth : Method} {c : Code} {nL k n : Nat} {Q : State → Prop} {G : mz_G} {sz pc : Nat} {lv : List (Option Value)} {st : List Value}
theorem mz_V.sub {lv' : List (Option Value)} (hs : mz_sub lv' lv) (h : mz_V E p l e R s m args below meth c nL k n Q G sz pc lv' st) : mz_V E p l e R s m args below meth c nL k n Q G sz pc lv st :=
  fun H locs ls h1 h2 h3 h4 => h H locs ls h1 h2 h3 ⟨h4.1, h4.2.1, fun j v hj => h4.2.2 j v (mz_sub_get _ _ hs j v hj)⟩
theorem mz_V.widen {k' n' : Nat} (hk : k ≤ k') (hn : n ≤ n') (h : mz_V E p l e R s m args below meth c nL k' n' Q G sz pc lv st) : mz_V E p l e R s m args below meth c nL k n Q G sz pc lv st :=
  fun H locs ls h1 h2 h3 h4 => W.widen hk hn (h H locs ls h1 h2 h3 h4)
theorem mz_V.heap {G' : mz_G} (hg : ∀ H, mz_H E G H → mz_H E G' H) (h : mz_V E p l e R s m args below meth c nL k n Q G' sz pc lv st) : mz_V E p l e R s m args below meth c nL k n Q G sz pc lv st :=
  fun H locs ls h1 h2 h3 h4 => h H locs ls (hg H h1) h2 h3 h4
/-- from a row of W at the same heap -/
theorem mz_V.go {pc' : Nat} {st' : List Value} (h : ∀ (H : Heap) (locs : List Loc) (ls : Array Slot), mz_H E G H → mz_L ls nL lv → W p l e R s m args below meth c H locs k n Q (F0 m pc' ls st') → W p l e R s m args below meth c H locs k n Q (F0 m pc ls st)) (hv : mz_V E p l e R s m args below meth c nL k n Q G sz pc' lv st') : mz_V E p l e R s m args below meth c nL k n Q G sz pc lv st :=
  fun H locs ls h1 h2 h3 h4 => h H locs ls h1 h4 (hv H locs ls h1 h2 h3 h4)
end MZV
