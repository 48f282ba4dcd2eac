/-! ===== calls ===== -/
def mz_md (y : MethodName) (b : ByteArray) (nL : Nat) (ret : Option FieldType) (n : Nat) : Prop := Cond.code y b nL ret ∈ mz_ws ∧ Cond.initialized y.cls ∈ mz_ws ∧ (y.cls ≠ "java/lang/invoke/MethodHandle" ∧ y.cls ≠ "java/lang/invoke/VarHandle" ∧ (parseMethodDescriptor y.desc).map (fun d => d.parameters.length) = some n)
def mz_mi (y : MethodName) (b : ByteArray) (nL : Nat) (ret : Option FieldType) (n : Nat) : Prop := mz_md y b nL ret n ∧ Cond.instanceMethod y ∈ mz_ws ∧ Cond.selects y.cls y y ∈ mz_ws
def mz_ms (y : MethodName) (b : ByteArray) (nL : Nat) (ret : Option FieldType) (n : Nat) : Prop := mz_md y b nL ret n ∧ Cond.static y ∈ mz_ws
def mz_mk (y : MethodName) (b : ByteArray) (nL : Nat) (n : Nat) : Prop := mz_md y b nL none n ∧ Cond.instanceMethod y ∈ mz_ws ∧ y.name = "<init>"
def mz_tk : Nat → List Value → List Value → Option (List Value × List Value)
  | 0, st, acc => some (acc, st)
  | n + 1, v :: st, acc => mz_tk n st (v :: acc)
  | _ + 1, [], _ => none
theorem mz_tk_ok : ∀ (n : Nat) (st acc As rest : List Value), mz_tk n st acc = some (As, rest) → ∃ pre : List Value, st = pre ++ rest ∧ As = pre.reverse ++ acc ∧ pre.length = n
  | 0, st, acc, As, rest, h => by
    simp only [mz_tk, Option.some.injEq, Prod.mk.injEq] at h
    exact ⟨[], by simp [h.2], by simp [h.1], rfl⟩
  | n + 1, v :: st, acc, As, rest, h => by
    obtain ⟨pre, h1, h2, h3⟩ := mz_tk_ok n st (v :: acc) As rest h
    exact ⟨v :: pre, by simp [h1], by simp [h2], by simp [h3]⟩
  | n + 1, [], acc, As, rest, h => by simp [mz_tk] at h
theorem mz_tk_o {n : Nat} {st As rest : List Value} (h : mz_tk n st [] = some (As, rest)) : st = As.reverse ++ rest ∧ As.length = n := by
  obtain ⟨pre, h1, h2, h3⟩ := mz_tk_ok n st [] As rest h
  simp only [List.append_nil] at h2
  subst h2
  exact ⟨by simpa using h1, by simpa using h3⟩
theorem mz_nw_K (G : mz_G) (a k n : Nat) : mz_K (mz_nw G a k n) a = k := mz_u1_s (mz_K G) a k
theorem mz_nw_n (G : mz_G) (a k n : Nat) : mz_n (mz_nw G a k n) a = n := mz_u1_s (mz_n G) a n
theorem mz_nw_i (G : mz_G) (a k n : Nat) : mz_i (mz_nw G a k n) a = fun _ => 0 := mz_u1_s (mz_i G) a _
theorem mz_nw_r (G : mz_G) (a k n : Nat) : mz_r (mz_nw G a k n) a = fun _ => none := mz_u1_s (mz_r G) a _
theorem mz_nw_l (G : mz_G) (a k n : Nat) : mz_l (mz_nw G a k n) a = fun _ => 0 := mz_u1_s (mz_l G) a _
theorem mz_gws {y : MethodName} {b : ByteArray} {nL : Nat} {ret : Option FieldType} (h : Cond.code y b nL ret ∈ mz_ws) : GoodIn mz_ws (Cond.code y b nL ret :: mz_ws) := fun w hw => by
  rcases List.mem_cons.mp hw with rfl | hw
  · exact mz_good _ h
  · exact mz_good _ hw
section MZC
variable {E : mz_E} {p : Program} {l : Launch} {e : Env} {R : Room} {s : State} {m : MethodId} {args : Array Value} {below : List Frame} {meth : Method} {c : Code} {cc : ByteArray} {own : String} {nL k n : Nat} {Q : State → Prop} {T : List mz_R} {G : mz_G} {sz pc : Nat} {lv : List (Option Value)} {st : List Value}
theorem mz_run_V {H : Heap} {locs : List Loc} {ls : Array Slot} {rest : List Value} {a : Array Value} {mc ms : Nat} {post : Option Value → mz_G → Nat → Prop} {nx : Nat} (hnx : nx = pc + 3) (h2 : H.size = sz) (h3 : va_S (mz_A E) s.heap H locs) (h4 : mz_L ls nL lv) (hr : va_Run p l e R s m args below meth c H locs k n mc ms (F0 m pc ls st) rest (mz_Q E post a) (mz_A E))
    (kk : ∀ (v : Option Value) (G' : mz_G) (sz' : Nat), post v G' sz' → mz_V E p l e R s m args below meth c nL (k + mc) (n + ms) Q G' sz' nx lv (v.toList ++ rest)) : W p l e R s m args below meth c H locs k n Q (F0 m pc ls st) := by
  intro T hT X
  obtain ⟨v, st₀, t, T', L, h0, X', hL, e1, e2, ⟨⟨v', G', sz', hv, hp, hz, hH⟩, hF⟩, stp⟩ := hr T hT X
  cases hv
  subst hnx
  have hS : va_S (mz_A E) s.heap T'.heap (locs ++ L) := by
    obtain ⟨f1, f2⟩ := hF
    rw [h0] at f1 f2
    refine ⟨Nat.le_trans h3.1 (by rw [e1]; exact f1), fun q g1 g2 => ?_, fun q hq => ?_⟩
    · rw [e1, f2 q (Nat.lt_of_lt_of_le g1 h3.1) g2]
      exact h3.2.1 q g1 g2
    · rcases List.mem_append.mp hq with h | h
      · exact h3.2.2 q h
      · exact hL q h
  obtain ⟨t2, a1, b1⟩ := kk v G' sz' hp T'.heap (locs ++ L) ls (by rw [e1]; exact hH) (by rw [e1]; exact hz) hS h4 T' rfl X'
  exact ⟨t2, stp t2 a1, b1⟩
theorem mz_pre (hC : mz_C E p s m args meth c cc own nL) {H : Heap} {locs : List Loc} (h1 : mz_H E G H) (h2 : H.size = sz) (h3 : va_S (mz_A E) s.heap H locs) (av : List Value) : PreS s H (va_Pc av (mz_W E G sz)) av := by
  obtain ⟨-, -, -, -, -, -, hEF⟩ := hC
  exact ⟨mz_blind E G sz av, fun U hU hW => ⟨rfl, by rw [hU]; exact h2, by rw [hU]; exact h1, hEF.at hW (by rw [hU]; exact h3)⟩⟩
theorem mz_recv (hC : mz_C E p s m args meth c cc own nL) {H : Heap} (h1 : mz_H E G H) {a : Nat} {C : String} (hc : (vwCl[mz_K G a]?).map (fun q => q.1) = some C) : ∃ cell : Cell, H[a]? = some cell ∧ cell.vm.isStatics = false ∧ s.vm.findClass C = some cell.cls := by
  obtain ⟨-, -, -, -, -, -, hEF⟩ := hC
  cases hq : vwCl[mz_K G a]? with
  | none => rw [hq] at hc; cases hc
  | some q =>
    rw [hq] at hc
    cases hc
    have h7 : mz_K G a < 7 := (List.getElem?_eq_some_iff.mp hq).1
    obtain ⟨r, g1, cell, g2, g3, g4, -⟩ := (h1 a _ (mz_cel_ob rfl h7)).2
    exact ⟨cell, g2, by rw [g4]; rfl, by rw [g3]; exact (hEF.1.1 _ q hq).2.1⟩
/-- a call of an instance method -/
theorem mz_Vcv (hC : mz_C E p s m args meth c cc own nL) (hT : mz_T cc T) {idx nx tg : Nat} (hat : mz_at T pc = some (.invokevirtual idx, nx, tg)) {y : MethodName} {b : ByteArray} {nL' : Nat} {ret : Option FieldType} {na : Nat} (hm : mz_mi y b nL' ret na) (hlk : Cond.methodLink own idx y ∈ mz_ws) {As rest : List Value} {a : Nat} (htk : mz_tk na st [] = some (As, .ref a :: rest)) {d' mc ms : Nat} {post : Option Value → mz_G → Nat → Prop} (hM : mz_M l E y b nL' ret d' mc ms (.ref a :: As) G sz post)
    (hrec : (vwCl[mz_K G a]?).map (fun q => q.1) = some y.cls) (hR : d' + 1 ≤ R.frames ∧ 8 + (nL' + 11) + 40 * d' ≤ R.locals) (hroom : k + mc ≤ R.cells ∧ n + ms ≤ R.slots) (hrest : (rest.map fun v => v.category).sum ≤ 8)
    (kk : ∀ (v : Option Value) (G' : mz_G) (sz' : Nat), post v G' sz' → mz_V E p l e R s m args below meth c nL (k + mc) (n + ms) Q G' sz' nx lv (v.toList ++ rest)) : mz_V E p l e R s m args below meth c nL k n Q G sz pc lv st := by
  obtain ⟨hd, hnx⟩ := mz_dec 2 (mz_at_ok hT hat) rfl
  obtain ⟨hst, hlen⟩ := mz_tk_o htk
  obtain ⟨⟨hcd, hini, hmn⟩, him, hse⟩ := hm
  have hC0 := hC
  obtain ⟨hx, hb, hml, hown, hts, -, hEF⟩ := hC
  intro H locs ls h1 h2 h3 h4
  refine mz_run_V hnx h2 h3 h4 (va_runV (C := y.cls) ⟨hx, hb, hml, hown, hts⟩ hM ⟨callB_of na hts (mz_gws hcd) rfl rfl rfl (hts _ hini) (hts _ hlk) hmn hR, hts _ him, hts _ hse⟩ ⟨(mz_pre hC0 h1 h2 h3 _).1, mz_recv hC0 h1 hrec, (mz_pre hC0 h1 h2 h3 _).2⟩ rfl hlen h4.1 hst (lv_room hrest) hd hroom) kk
/-- a call of a static method of the own class -/
theorem mz_Vcs (hC : mz_C E p s m args meth c cc own nL) (hT : mz_T cc T) {idx nx tg : Nat} (hat : mz_at T pc = some (.invokestatic idx, nx, tg)) {y : MethodName} {b : ByteArray} {nL' : Nat} {ret : Option FieldType} {na : Nat} (hm : mz_ms y b nL' ret na) (hlk : Cond.methodLink own idx y ∈ mz_ws) {As rest : List Value} (htk : mz_tk na st [] = some (As, rest)) {d' mc ms : Nat} {post : Option Value → mz_G → Nat → Prop} (hM : mz_M l E y b nL' ret d' mc ms As G sz post)
    (hR : d' + 1 ≤ R.frames ∧ 8 + (nL' + 11) + 40 * d' ≤ R.locals) (hroom : k + mc ≤ R.cells ∧ n + ms ≤ R.slots) (hrest : (rest.map fun v => v.category).sum ≤ 8)
    (kk : ∀ (v : Option Value) (G' : mz_G) (sz' : Nat), post v G' sz' → mz_V E p l e R s m args below meth c nL (k + mc) (n + ms) Q G' sz' nx lv (v.toList ++ rest)) : mz_V E p l e R s m args below meth c nL k n Q G sz pc lv st := by
  obtain ⟨hd, hnx⟩ := mz_dec 2 (mz_at_ok hT hat) rfl
  obtain ⟨hst, hlen⟩ := mz_tk_o htk
  obtain ⟨⟨hcd, hini, hmn⟩, hsm⟩ := hm
  have hC0 := hC
  obtain ⟨hx, hb, hml, hown, hts, -, hEF⟩ := hC
  intro H locs ls h1 h2 h3 h4
  refine mz_run_V hnx h2 h3 h4 (va_runS ⟨hx, hb, hml, hown, hts⟩ hM ⟨callB_of na hts (mz_gws hcd) rfl rfl rfl (hts _ hini) (hts _ hlk) hmn hR, hts _ hsm⟩ (mz_pre hC0 h1 h2 h3 _) rfl hlen h4.1 hst (lv_room hrest) hd hroom) kk
/-- a call of a private static method of a nest mate -/
theorem mz_Vcsn (hC : mz_C E p s m args meth c cc own nL) (hT : mz_T cc T) {idx nx tg : Nat} (hat : mz_at T pc = some (.invokestatic idx, nx, tg)) {y : MethodName} {b : ByteArray} {nL' : Nat} {ret : Option FieldType} {na : Nat} (hm : mz_ms y b nL' ret na) (hlk : (own, idx, y) ∈ mz_nM) {As rest : List Value} (htk : mz_tk na st [] = some (As, rest)) {d' mc ms : Nat} {post : Option Value → mz_G → Nat → Prop} (hM : mz_M l E y b nL' ret d' mc ms As G sz post)
    (hR : d' + 1 ≤ R.frames ∧ 8 + (nL' + 11) + 40 * d' ≤ R.locals) (hroom : k + mc ≤ R.cells ∧ n + ms ≤ R.slots) (hrest : (rest.map fun v => v.category).sum ≤ 8)
    (kk : ∀ (v : Option Value) (G' : mz_G) (sz' : Nat), post v G' sz' → mz_V E p l e R s m args below meth c nL (k + mc) (n + ms) Q G' sz' nx lv (v.toList ++ rest)) : mz_V E p l e R s m args below meth c nL k n Q G sz pc lv st := by
  obtain ⟨hd, hnx⟩ := mz_dec 2 (mz_at_ok hT hat) rfl
  obtain ⟨hst, hlen⟩ := mz_tk_o htk
  obtain ⟨⟨hcd, hini, hmn⟩, hsm⟩ := hm
  have hC0 := hC
  obtain ⟨hx, hb, hml, hown, hts, -, hEF⟩ := hC
  intro H locs ls h1 h2 h3 h4
  refine mz_run_V hnx h2 h3 h4 (va_runSN ⟨hx, hb, hml, hown, hts⟩ hM ⟨va_cnB na hts (mz_gws hcd) rfl rfl rfl (hEF.2.2.2.2.2.2.1 _ hlk) (hts _ hini) hmn hR, hts _ hsm, trivial⟩ (mz_pre hC0 h1 h2 h3 _) rfl hlen h4.1 hst (lv_room hrest) hd hroom) kk
/-- a constructor -/
theorem mz_Vci (hC : mz_C E p s m args meth c cc own nL) (hT : mz_T cc T) {idx nx tg : Nat} (hat : mz_at T pc = some (.invokespecial idx, nx, tg)) {y : MethodName} {b : ByteArray} {nL' : Nat} {na : Nat} (hm : mz_mk y b nL' na) (hlk : Cond.methodLink own idx y ∈ mz_ws) {As rest : List Value} {a : Nat} (htk : mz_tk na st [] = some (As, .ref a :: rest)) {d' mc ms : Nat} {post : Option Value → mz_G → Nat → Prop} (hM : mz_M l E y b nL' none d' mc ms (.ref a :: As) G sz post)
    (hR : d' + 1 ≤ R.frames ∧ 8 + (nL' + 11) + 40 * d' ≤ R.locals) (hroom : k + mc ≤ R.cells ∧ n + ms ≤ R.slots) (hrest : (rest.map fun v => v.category).sum ≤ 8)
    (kk : ∀ (v : Option Value) (G' : mz_G) (sz' : Nat), post v G' sz' → mz_V E p l e R s m args below meth c nL (k + mc) (n + ms) Q G' sz' nx lv (v.toList ++ rest)) : mz_V E p l e R s m args below meth c nL k n Q G sz pc lv st := by
  obtain ⟨hd, hnx⟩ := mz_dec 2 (mz_at_ok hT hat) rfl
  obtain ⟨hst, hlen⟩ := mz_tk_o htk
  obtain ⟨⟨hcd, hini, hmn⟩, him, hy1⟩ := hm
  have hC0 := hC
  obtain ⟨hx, hb, hml, hown, hts, -, hEF⟩ := hC
  intro H locs ls h1 h2 h3 h4
  refine mz_run_V hnx h2 h3 h4 (va_runI ⟨hx, hb, hml, hown, hts⟩ hM (cwI na hts (mz_gws hcd) rfl rfl rfl (hts _ hini) (hts _ hlk) (hts _ him) hy1 hmn hR) (mz_pre hC0 h1 h2 h3 _) rfl hlen h4.1 hst (lv_room hrest) hd hroom) kk
/-- a private constructor of a nest mate -/
theorem mz_Vcin (hC : mz_C E p s m args meth c cc own nL) (hT : mz_T cc T) {idx nx tg : Nat} (hat : mz_at T pc = some (.invokespecial idx, nx, tg)) {y : MethodName} {b : ByteArray} {nL' : Nat} {na : Nat} (hm : mz_mk y b nL' na) (hlk : (own, idx, y) ∈ mz_nM) {As rest : List Value} {a : Nat} (htk : mz_tk na st [] = some (As, .ref a :: rest)) {d' mc ms : Nat} {post : Option Value → mz_G → Nat → Prop} (hM : mz_M l E y b nL' none d' mc ms (.ref a :: As) G sz post)
    (hR : d' + 1 ≤ R.frames ∧ 8 + (nL' + 11) + 40 * d' ≤ R.locals) (hroom : k + mc ≤ R.cells ∧ n + ms ≤ R.slots) (hrest : (rest.map fun v => v.category).sum ≤ 8)
    (kk : ∀ (v : Option Value) (G' : mz_G) (sz' : Nat), post v G' sz' → mz_V E p l e R s m args below meth c nL (k + mc) (n + ms) Q G' sz' nx lv (v.toList ++ rest)) : mz_V E p l e R s m args below meth c nL k n Q G sz pc lv st := by
  obtain ⟨hd, hnx⟩ := mz_dec 2 (mz_at_ok hT hat) rfl
  obtain ⟨hst, hlen⟩ := mz_tk_o htk
  obtain ⟨⟨hcd, hini, hmn⟩, him, hy1⟩ := hm
  have hC0 := hC
  obtain ⟨hx, hb, hml, hown, hts, -, hEF⟩ := hC
  intro H locs ls h1 h2 h3 h4
  refine mz_run_V hnx h2 h3 h4 (va_runIN ⟨hx, hb, hml, hown, hts⟩ hM ⟨va_cnB na hts (mz_gws hcd) rfl rfl rfl (hEF.2.2.2.2.2.2.1 _ hlk) (hts _ hini) hmn hR, hy1, hts _ him⟩ (mz_pre hC0 h1 h2 h3 _) rfl hlen h4.1 hst (lv_room hrest) hd hroom) kk
/-- a new object -/
theorem mz_Vnew (hC : mz_C E p s m args meth c cc own nL) (hT : mz_T cc T) {idx nx tg : Nat} (hat : mz_at T pc = some (.new idx, nx, tg)) (ci : Nat) {C : String} {TT : u_T} {N : Nat} {ty : Nat → FieldType} (hcl : vwCl[ci]? = some (C, TT, N)) (hci : ci < 7) (hN : (mz_ft ci).length = N) (hin : ∀ w ∈ u_ws C TT N, w ∈ mz_ws) (hty : ∀ k, k < N → parseFieldDescriptor (TT k).2.2.1 = some (ty k)) (hlk : Cond.classLink own idx C ∈ mz_ws) (hit : Cond.instantiable C N ∈ mz_ws) (hini : Cond.initialized C ∈ mz_ws)
    (hfs : ∀ (G0 : mz_G) (q : Nat), (∀ j, mz_i G0 q j = 0) → (∀ j, mz_r G0 q j = none) → (∀ j, mz_l G0 q j = 0) → ∀ j, j < N → defaultValue (ty j) = vp_V (mz_fs G0 q 0 (mz_ft ci)) j)
    (hroom : k + 1 ≤ R.cells ∧ n + N ≤ R.slots) (kk : mz_V E p l e R s m args below meth c nL (k + 1) (n + N) Q (mz_nw G sz ci 0) (sz + 1) nx lv (.ref sz :: st)) : mz_V E p l e R s m args below meth c nL k n Q G sz pc lv st := by
  obtain ⟨hd, rfl⟩ := mz_dec 2 (mz_at_ok hT hat) rfl
  obtain ⟨hx, hb, hml, hown, hts, -, hEF⟩ := hC
  intro H locs ls h1 h2 h3 h4
  subst h2
  have hKn := hEF.1.1 ci _ hcl
  refine W.newcK hx hb hown (hts _ hlk) (hts _ hit) (hts _ hini) rfl hd hroom.1 hroom.2 hKn.2.1 rfl fun H1 kC hkC e1 z1 o1 => ?_
  have hA : E.2.2 ≤ H.size := Nat.le_trans hEF.2.2.2.2.1 h3.1
  refine kk H1 locs ls (h1.upd (a := H.size) mz_nw_o (fun q hq _ => o1 q hq) (fun x hx => ?_)) z1 ⟨Nat.le_trans h3.1 (by omega), fun q g1 g2 => (o1 q (Nat.lt_of_lt_of_le g1 h3.1)).trans (h3.2.1 q g1 g2), h3.2.2⟩ h4
  rw [mz_cel_ob (mz_nw_K G H.size ci 0) hci] at hx
  cases hx
  exact ⟨hA, _, hcl, (u_born ty hts hin hKn hkC e1 hty).to (hfs _ _ (fun j => by rw [mz_nw_i]) (fun j => by rw [mz_nw_r]) (fun j => by rw [mz_nw_l]))⟩
/-- Object's constructor -/
theorem mz_Vobj (hC : mz_C E p s m args meth c cc own nL) (hT : mz_T cc T) {idx nx tg a : Nat} (hat : mz_at T pc = some (.invokespecial idx, nx, tg)) (hlk : Cond.methodLink own idx objectInit ∈ mz_ws) (him : Cond.instanceMethod objectInit ∈ mz_ws) (hcd : Cond.code objectInit ⟨#[0xb1]⟩ 1 none ∈ mz_ws) (hf : 1 ≤ R.frames) (hl : (st.map fun v => v.category).sum + 12 ≤ R.locals)
    (kk : mz_V E p l e R s m args below meth c nL k n Q G sz nx lv st) : mz_V E p l e R s m args below meth c nL k n Q G sz pc lv (.ref a :: st) := by
  obtain ⟨hd, rfl⟩ := mz_dec 2 (mz_at_ok hT hat) rfl
  obtain ⟨hx, hb, hml, hown, hts, -, hEF⟩ := hC
  intro H locs ls h1 h2 h3 h4
  exact W.objInit hx hb hown (hts _ hlk) (hts _ him) (hts _ hcd) rfl (by rw [hml]; exact h4.1) rfl hd hf (by show 2 * (F0 m pc ls _).monitorRoom + _ + 12 ≤ _; simpa [JFrame.monitorRoom] using hl) (kk H locs ls h1 h2 h3 h4)
/-- a new array of ints, of longs -/
theorem mz_Vnewi (hC : mz_C E p s m args meth c cc own nL) (hT : mz_T cc T) {nx tg : Nat} (hat : mz_at T pc = some (.newarray .int, nx, tg)) {x : Int32} (N : Nat) (hx0 : x = nI N) (hN : N < 100000000) (hroom : k + 1 ≤ R.cells ∧ n + N ≤ R.slots) (hac : Cond.arrayClass .int ∈ mz_ws)
    (kk : mz_V E p l e R s m args below meth c nL (k + 1) (n + N) Q (mz_nw G sz 7 N) (sz + 1) nx lv (.ref sz :: st)) : mz_V E p l e R s m args below meth c nL k n Q G sz pc lv (.int x :: st) := by
  obtain ⟨hd, rfl⟩ := mz_dec 1 (mz_at_ok hT hat) rfl
  obtain ⟨hx, hb, hml, hown, hts, -, hEF⟩ := hC
  intro H locs ls h1 h2 h3 h4
  subst h2 hx0
  refine va_newaK (atype := .int) hx hb (hts _ hac) rfl hd rfl (nI_pos (by omega)) (nI_clamp (by omega)) (by show N * 4 ≤ _; omega) hroom.1 hroom.2 rfl fun H1 cA e1 z1 o1 hAr hNm => ?_
  have hA : E.2.2 ≤ H.size := Nat.le_trans hEF.2.2.2.2.1 h3.1
  have hcA : cA = E.2.1 7 := Option.some.inj (hNm.symm.trans (hEF.1.2 0 _ rfl).2)
  refine kk H1 locs ls (h1.upd (a := H.size) mz_nw_o (fun q hq _ => o1 q hq) (fun x hx => ?_)) z1 ⟨Nat.le_trans h3.1 (by omega), fun q g1 g2 => (o1 q (Nat.lt_of_lt_of_le g1 h3.1)).trans (h3.2.1 q g1 g2), h3.2.2⟩ h4
  rw [mz_cel_ia (mz_nw_K G H.size 7 N)] at hx
  cases hx
  refine ⟨hA, ?_⟩
  show H1[H.size]? = some (vp_cell _ _)
  rw [e1, hcA]
  rw [mz_nw_n, mz_nw_i]
  rfl
theorem mz_Vnewl (hC : mz_C E p s m args meth c cc own nL) (hT : mz_T cc T) {nx tg : Nat} (hat : mz_at T pc = some (.newarray .long, nx, tg)) {x : Int32} (N : Nat) (hx0 : x = nI N) (hN : N < 50000000) (hroom : k + 1 ≤ R.cells ∧ n + N ≤ R.slots) (hac : Cond.arrayClass .long ∈ mz_ws)
    (kk : mz_V E p l e R s m args below meth c nL (k + 1) (n + N) Q (mz_nw G sz 12 N) (sz + 1) nx lv (.ref sz :: st)) : mz_V E p l e R s m args below meth c nL k n Q G sz pc lv (.int x :: st) := by
  obtain ⟨hd, rfl⟩ := mz_dec 1 (mz_at_ok hT hat) rfl
  obtain ⟨hx, hb, hml, hown, hts, -, hEF⟩ := hC
  intro H locs ls h1 h2 h3 h4
  subst h2 hx0
  refine va_newaK (atype := .long) hx hb (hts _ hac) rfl hd rfl (nI_pos (by omega)) (nI_clamp (by omega)) (by show N * 8 ≤ _; omega) hroom.1 hroom.2 rfl fun H1 cA e1 z1 o1 hAr hNm => ?_
  have hA : E.2.2 ≤ H.size := Nat.le_trans hEF.2.2.2.2.1 h3.1
  have hcA : cA = E.2.1 12 := Option.some.inj (hNm.symm.trans (hEF.1.2 5 _ rfl).2)
  refine kk H1 locs ls (h1.upd (a := H.size) mz_nw_o (fun q hq _ => o1 q hq) (fun x hx => ?_)) z1 ⟨Nat.le_trans h3.1 (by omega), fun q g1 g2 => (o1 q (Nat.lt_of_lt_of_le g1 h3.1)).trans (h3.2.1 q g1 g2), h3.2.2⟩ h4
  rw [mz_cel_la (mz_nw_K G H.size 12 N)] at hx
  cases hx
  refine ⟨hA, ?_⟩
  show H1[H.size]? = some (vp_cell _ _)
  rw [e1, hcA]
  rw [mz_nw_n, mz_nw_l]
  rfl
end MZC
