/-! ===== branches, switches, returns, a method's start ===== -/
def mz_cp (x y : Int32) : Jvm.ClassFile.Cond → Prop
  | .eq => x = y
  | .ne => ¬ x = y
  | .lt => x < y
  | .ge => y ≤ x
  | .gt => y < x
  | .le => x ≤ y
/-- the condition of a branch, its target, the next place, the stack behind it -/
def mz_br (T : List mz_R) (pc : Nat) (st : List Value) : Option (Prop × Nat × Nat × List Value) := match mz_at T pc with
  | none => none
  | some (ins, nx, tg) => match ins with
    | .if_icmp q _ => mz_s2i st fun x y r => some (mz_cp x y q, tg, nx, r)
    | .ifCond q _ => mz_s1i st fun x r => some (mz_cp x 0 q, tg, nx, r)
    | _ => none
section MZF
variable {E : mz_E} {p : Program} {l : Launch} {e : Env} {R : Room} {s : State} {m : MethodId} {args : Array Value} {below : List Frame} {meth : Method} {c : Code} {cc : ByteArray} {own : String} {nL k n : Nat} {Q : State → Prop} {T : List mz_R} {P : mz_P} {G : mz_G} {sz pc : Nat} {lv : List (Option Value)} {st : List Value}
theorem mz_br_ok (hC : mz_C E p s m args meth c cc own nL) (hT : mz_T cc T) {cd : Prop} {tg nx : Nat} {r : List Value} (h : mz_br T pc st = some (cd, tg, nx, r)) (kt : cd → mz_V E p l e R s m args below meth c nL k n Q G sz tg lv r) (kf : ¬ cd → mz_V E p l e R s m args below meth c nL k n Q G sz nx lv r) : mz_V E p l e R s m args below meth c nL k n Q G sz pc lv st := by
  obtain ⟨hx, hb, -⟩ := hC
  unfold mz_br at h
  split at h
  · cases h
  · rename_i ins nx0 tg0 hat
    have hr := mz_at_ok hT hat
    have hoff := hr.2.2.1
    split at h
    · rename_i q off
      obtain ⟨x, y, r, rfl, h⟩ := mz_s2i_o h
      cases h
      obtain ⟨hd, rfl⟩ := mz_dec 2 hr rfl
      have ho : (pc : Int) + off = (tg : Int) := by simpa [mz_tgo, mz_off] using hoff
      intro H locs ls h1 h2 h3 h4
      have kt' := fun z => kt z H locs ls h1 h2 h3 h4
      have kf' := fun z => kf z H locs ls h1 h2 h3 h4
      cases q with
      | eq => exact lv_icmp_eq hx hb hd ho kt' kf'
      | ne => exact lv_icmp_ne hx hb hd ho kt' (fun z => kf' (fun w => w z))
      | lt => exact lv_icmp_lt hx hb hd ho kt' kf'
      | ge => exact lv_icmp_ge hx hb hd ho kt' kf'
      | gt => exact lv_icmp_gt hx hb hd ho kt' kf'
      | le => exact lv_icmp_le hx hb hd ho kt' kf'
    · rename_i q off
      obtain ⟨x, r, rfl, h⟩ := mz_s1i_o h
      cases h
      obtain ⟨hd, rfl⟩ := mz_dec 2 hr rfl
      have ho : (pc : Int) + off = (tg : Int) := by simpa [mz_tgo, mz_off] using hoff
      intro H locs ls h1 h2 h3 h4
      have kt' := fun z => kt z H locs ls h1 h2 h3 h4
      have kf' := fun z => kf z H locs ls h1 h2 h3 h4
      cases q with
      | eq => exact lv_if_eq hx hb hd ho kt' kf'
      | ne => exact lv_if_ne hx hb hd ho kt' (fun z => kf' (fun w => w z))
      | lt => exact lv_if_lt hx hb hd ho kt' kf'
      | ge => exact lv_if_ge hx hb hd ho kt' kf'
      | gt => exact lv_if_gt hx hb hd ho kt' kf'
      | le => exact lv_if_le hx hb hd ho kt' kf'
    · cases h
/-- a branch whose condition is known -/
theorem mz_br_t (hC : mz_C E p s m args meth c cc own nL) (hT : mz_T cc T) {cd : Prop} {tg nx : Nat} {r : List Value} (h : mz_br T pc st = some (cd, tg, nx, r)) (hcd : cd) (kt : mz_V E p l e R s m args below meth c nL k n Q G sz tg lv r) : mz_V E p l e R s m args below meth c nL k n Q G sz pc lv st := mz_br_ok hC hT h (fun _ => kt) (fun z => absurd hcd z)
theorem mz_br_f (hC : mz_C E p s m args meth c cc own nL) (hT : mz_T cc T) {cd : Prop} {tg nx : Nat} {r : List Value} (h : mz_br T pc st = some (cd, tg, nx, r)) (hcd : ¬ cd) (kf : mz_V E p l e R s m args below meth c nL k n Q G sz nx lv r) : mz_V E p l e R s m args below meth c nL k n Q G sz pc lv st := mz_br_ok hC hT h (fun z => absurd z hcd) (fun _ => kf)
/-- how a method's end is said, of one that returns (x = none) or may throw (x = the thrown's word) -/
def mz_Z (E : mz_E) (below : List Frame) (args : Array Value) (s : State) (mc ms : Nat) (post : Option Value → mz_G → Nat → Prop) : State → Prop := MQ below (mz_Q E post) args s mc ms (mz_A E)
theorem mz_ret_w {post : Option Value → mz_G → Nat → Prop} {v : Option Value} {H : Heap} {locs : List Loc} (h1 : mz_H E G H) (h2 : H.size = sz) (h3 : va_S (mz_A E) s.heap H locs) (hp : post v G sz) : (∀ t : State, t.heap = H → s.WarmedH t.vm → mz_Q E post args s (.returned v) t) ∧ ∀ q ∈ locs, mz_A E q.base :=
  ⟨fun t ht _ => ⟨⟨v, G, sz, rfl, hp, by rw [ht]; exact h2, by rw [ht]; exact h1⟩, h3.F ht⟩, h3.2.2⟩
theorem mz_Vireturn (hC : mz_C E p s m args meth c cc own nL) (hT : mz_T cc T) {nx tg mc ms : Nat} {x : Int32} {ty : FieldType} {post : Option Value → mz_G → Nat → Prop} (hat : mz_at T pc = some (.ireturn, nx, tg)) (hr : meth.sig.returnType = some ty) (hn : narrow ty (.int x) = .int x) (hk : k ≤ mc) (hs : n ≤ ms) (hp : post (some (.int x)) G sz) : mz_V E p l e R s m args below meth c nL k n (mz_Z E below args s mc ms post) G sz pc lv [.int x] := by
  obtain ⟨hx, hb, -, -, -, hlocks, -⟩ := hC
  obtain ⟨hd, -⟩ := mz_dec 0 (mz_at_ok hT hat) rfl
  intro H locs ls h1 h2 h3 h4
  obtain ⟨g1, g2⟩ := mz_ret_w (args := args) h1 h2 h3 hp
  exact W.widen hk hs (W.zret hx hb hr hn g1 g2 hd hlocks)
theorem mz_Vlreturn (hC : mz_C E p s m args meth c cc own nL) (hT : mz_T cc T) {nx tg mc ms : Nat} {x : Int64} {post : Option Value → mz_G → Nat → Prop} (hat : mz_at T pc = some (.lreturn, nx, tg)) (hr : meth.sig.returnType = some .long) (hk : k ≤ mc) (hs : n ≤ ms) (hp : post (some (.long x)) G sz) : mz_V E p l e R s m args below meth c nL k n (mz_Z E below args s mc ms post) G sz pc lv [.long x] := by
  obtain ⟨hx, hb, -, -, -, hlocks, -⟩ := hC
  obtain ⟨hd, -⟩ := mz_dec 0 (mz_at_ok hT hat) rfl
  intro H locs ls h1 h2 h3 h4
  obtain ⟨g1, g2⟩ := mz_ret_w (args := args) h1 h2 h3 hp
  exact W.widen hk hs (W.lret hx hb hr g1 g2 hd hlocks)
theorem mz_Vreturn (hC : mz_C E p s m args meth c cc own nL) (hT : mz_T cc T) {nx tg mc ms : Nat} {post : Option Value → mz_G → Nat → Prop} (hat : mz_at T pc = some (.return_, nx, tg)) (hr : meth.sig.returnType = none) (hk : k ≤ mc) (hs : n ≤ ms) (hp : post none G sz) : mz_V E p l e R s m args below meth c nL k n (mz_Z E below args s mc ms post) G sz pc lv [] := by
  obtain ⟨hx, hb, -, -, -, hlocks, -⟩ := hC
  obtain ⟨hd, -⟩ := mz_dec 0 (mz_at_ok hT hat) rfl
  intro H locs ls h1 h2 h3 h4
  obtain ⟨g1, g2⟩ := mz_ret_w (args := args) h1 h2 h3 hp
  exact W.widen hk hs (W.vret hx hb hr g1 g2 hd hlocks)
theorem mz_Vareturn (hC : mz_C E p s m args meth c cc own nL) (hT : mz_T cc T) {nx tg mc ms a : Nat} {ty : FieldType} {post : Option Value → mz_G → Nat → Prop} (hat : mz_at T pc = some (.areturn, nx, tg)) (hr : meth.sig.returnType = some ty) (hrt : (∃ n, ty = .object n) ∨ ∃ t, ty = .array t) (hk : k ≤ mc) (hs : n ≤ ms) (hp : post (some (.ref a)) G sz) : mz_V E p l e R s m args below meth c nL k n (mz_Z E below args s mc ms post) G sz pc lv [.ref a] := by
  obtain ⟨hx, hb, -, -, -, hlocks, -⟩ := hC
  obtain ⟨hd, -⟩ := mz_dec 0 (mz_at_ok hT hat) rfl
  intro H locs ls h1 h2 h3 h4
  obtain ⟨g1, g2⟩ := mz_ret_w (args := args) h1 h2 h3 hp
  exact W.widen hk hs (W.aret hx hb hr hrt (Or.inr ⟨a, rfl⟩) g1 g2 hd hlocks)
end MZF
/-- the locals at a method's start -/
def mz_la : List Value → List (Option Value)
  | [] => []
  | .long x :: r => some (.long x) :: none :: mz_la r
  | .double x :: r => some (.double x) :: none :: mz_la r
  | v :: r => some v :: mz_la r
theorem mz_la_get : ∀ (vs : List Value) (i j : Nat) (v : Value), (mz_la vs)[j]? = some (some v) → (i + j, v) ∈ lv_args i vs
  | [], i, j, v, h => by simp [mz_la] at h
  | w :: r, i, j, v, h => by
    have one : ∀ (u : Value), u.category = 1 → mz_la (u :: r) = some u :: mz_la r → (mz_la (u :: r))[j]? = some (some v) → (i + j, v) ∈ lv_args i (u :: r) := by
      intro u hu e h
      rw [e] at h
      cases j with
      | zero => simp at h; subst h; simp [lv_args]
      | succ j =>
        simp at h
        have := mz_la_get r (i + 1) j v h
        simp only [lv_args, hu]
        refine List.mem_cons_of_mem _ ?_
        simpa [Nat.add_assoc, Nat.add_comm 1 j] using this
    have two : ∀ (u : Value), u.category = 2 → mz_la (u :: r) = some u :: none :: mz_la r → (mz_la (u :: r))[j]? = some (some v) → (i + j, v) ∈ lv_args i (u :: r) := by
      intro u hu e h
      rw [e] at h
      match j, h with
      | 0, h => simp at h; subst h; simp [lv_args]
      | 1, h => simp at h
      | j + 2, h =>
        simp at h
        have := mz_la_get r (i + 2) j v h
        simp only [lv_args, hu]
        refine List.mem_cons_of_mem _ ?_
        simpa [Nat.add_assoc, Nat.add_comm 2 j] using this
    cases w with
    | long x => exact two _ rfl rfl h
    | double x => exact two _ rfl rfl h
    | int x => exact one _ rfl rfl h
    | float x => exact one _ rfl rfl h
    | ref x => exact one _ rfl rfl h
    | null => exact one _ rfl rfl h
    | retAddr x => exact one _ rfl rfl h
theorem mz_start {l : Launch} {E : mz_E} {y : MethodName} {b : ByteArray} {nL : Nat} {ret : Option FieldType} {d mc ms : Nat} {av : List Value} {G : mz_G} {sz : Nat} {post : Option Value → mz_G → Nat → Prop} (hy : plainName y.cls = true) (hav : (lg_sl av).length ≤ nL)
    (body : ∀ (p : Program) (e : Env) (s : State) (m : MethodId) (args : Array Value) (below : List Frame) (meth : Method) (c : Code), mz_C E p s m args meth c b y.cls nL → meth.sig.returnType = ret → meth.name = y.name → mz_V E p l e (mz_rm d mc ms) s m args below meth c nL 0 0 (mz_Z E below args s mc ms post) G sz 0 (mz_la av) []) : mz_M l E y b nL ret d mc ms av G sz post := by
  refine Met.ofW (cc := b) (maxL := nL) (ret := ret) hy rfl ?_
  intro p e s m args below meth c s₁ B hml hv
  obtain ⟨rfl, hsz, hH, hEF⟩ := hv
  have hts := atoms_spec (ws := Cond.code y b nL ret :: mz_ws) B.pre
  have hown : s.vm.findClass y.cls = some m.cls := findClass_of_methodNamed B.named
  have hl := lv_entry av (n := nL) hav
  rw [lg_entry_eq]
  refine body p e s m av.toArray below meth c ⟨B.exec, B.bytes, hml, hown, fun w hw => hts w (List.mem_cons_of_mem _ hw), B.notSynchronized, hEF⟩ B.returns (name_of_methodNamed B.named B.method).1 s.heap [] _ hH hsz va_S.rf ⟨hl.1, hl.2.1, fun j v hj => ?_⟩
  have := mz_la_get av 0 j v hj
  rw [Nat.zero_add] at this
  exact hl.2.2 (j, v) this
