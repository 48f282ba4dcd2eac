/-! ===== methods that throw: nothing else has changed ===== -/
def mz_XC (E : mz_E) (exc : String) (G : mz_G) (sz : Nat) : String → State → State → Prop := fun N st t => N = exc ∧ mz_H E G t.heap ∧ sz ≤ t.heap.size ∧ va_F (mz_A E) st t
/-- a contract of a method that throws -/
def mz_X (l : Launch) (E : mz_E) (y : MethodName) (b : ByteArray) (nL : Nat) (ret : Option FieldType) (d : Nat) (av : List Value) (G : mz_G) (sz : Nat) (exc : String) : Prop :=
  vx_Met l y (.code y b nL ret :: mz_ws) (mz_rm d 1 6) (va_Pc av (mz_W E G sz)) (fun _ _ _ _ => False) (mz_XC E exc G sz) 1 6 (mz_A E)
def mz_ZX (E : mz_E) (below : List Frame) (args : Array Value) (s : State) (exc : String) (G : mz_G) (sz : Nat) : State → Prop := vx_MQ below (fun _ _ _ _ => False) (mz_XC E exc G sz) args s 1 6 (mz_A E)
theorem mz_startX {l : Launch} {E : mz_E} {y : MethodName} {b : ByteArray} {nL : Nat} {ret : Option FieldType} {d : Nat} {av : List Value} {G : mz_G} {sz : Nat} {exc : String} (hy : plainName y.cls = true) (hav : (lg_sl av).length ≤ nL)
    (body : ∀ (p : Program) (e : Env) (s : State) (m : MethodId) (args : Array Value) (below : List Frame) (meth : Method) (c : Code), mz_C E p s m args meth c b y.cls nL → (∀ x ∈ c.exceptionTable.toList, False) → mz_V E p l e (mz_rm d 1 6) s m args below meth c nL 0 0 (mz_ZX E below args s exc G sz) G sz 0 (mz_la av) []) : mz_X l E y b nL ret d av G sz exc := by
  refine vx_ofW (cc := b) (maxL := nL) (ret := ret) hy rfl ?_
  intro p e s m args below meth c s₁ B hml hno hv
  obtain ⟨rfl, hsz, hH, hEF⟩ := hv
  have hts := atoms_spec (ws := Cond.code y b nL ret :: mz_ws) B.pre
  have hown : s.vm.findClass y.cls = some m.cls := findClass_of_methodNamed B.named
  have hl := lv_entry av (n := nL) hav
  rw [lg_entry_eq]
  refine body p e s m av.toArray below meth c ⟨B.exec, B.bytes, hml, hown, fun w hw => hts w (List.mem_cons_of_mem _ hw), B.notSynchronized, hEF⟩ hno s.heap [] _ hH hsz va_S.rf ⟨hl.1, hl.2.1, fun j v hj => ?_⟩
  have := mz_la_get av 0 j v hj
  rw [Nat.zero_add] at this
  exact hl.2.2 (j, v) this
section MZX
variable {E : mz_E} {p : Program} {l : Launch} {e : Env} {R : Room} {s : State} {m : MethodId} {args : Array Value} {below : List Frame} {meth : Method} {c : Code} {cc : ByteArray} {own : String} {nL k n : Nat} {Q : State → Prop} {T : List mz_R} {G : mz_G} {sz pc : Nat} {lv : List (Option Value)} {st : List Value} {exc : String}
theorem mz_xc {H : Heap} {locs : List Loc} (h1 : mz_H E G H) (h2 : H.size = sz) (h3 : va_S (mz_A E) s.heap H locs) (t : State) (hz : H.size ≤ t.heap.size) (hq : ∀ q : Nat, q < H.size → t.heap[q]? = H[q]?) : mz_XC E exc G sz exc s t := by
  refine ⟨rfl, fun q x hx => ?_, by omega, Nat.le_trans h3.1 hz, fun q g1 g2 => (hq q (Nat.lt_of_lt_of_le g1 h3.1)).trans (h3.2.1 q g1 g2)⟩
  obtain ⟨a1, a2⟩ := h1 q x hx
  exact ⟨a1, a2.kept (hq q a2.lt)⟩
/-- a call whose callee throws: it goes on to the caller -/
theorem mz_xout (hC : mz_C E p s m args meth c cc own nL) (hno : ∀ x ∈ c.exceptionTable.toList, False) {H : Heap} {locs : List Loc} {ls : Array Slot} {rest : List Value} (h2 : H.size = sz) (h3 : va_S (mz_A E) s.heap H locs)
    (hr : vx_Run p l e R s m args below meth c H locs 0 0 1 6 (F0 m pc ls st) rest (fun _ _ _ => False) (mz_XC E exc G sz) (mz_A E)) : W p l e R s m args below meth c H locs 0 0 (mz_ZX E below args s exc G sz) (F0 m pc ls st) := by
  obtain ⟨hx, hb, hml, hown, hts, hlk, hEF⟩ := hC
  intro T hT X
  rcases hr T hT X with ⟨v, st₀, t, T', L, h0, X', hL, e1, e2, hf, stp⟩ | ⟨q, st₀, t, T', L, N, ce, h0, X', hL, e1, e2, ⟨hN, hH, hz, hF⟩, hce, hcv, hcl, stp⟩
  · exact hf.elim
  · obtain ⟨k1, k2, k3⟩ := vx_keep h0 e1 h3 (fun q _ z => z) (fun q z => z) hL hF
    have ho := vx_out (p := p) (l := l) (e := e) (R := R) (m := m) (args := args) (below := below) (meth := meth) (c := c) (H := T'.heap) (locs := locs ++ L) (cells := 1) (slots := 6) (ls := ls) (rest := rest) (pc := pc) (mc := 1) (ms := 6) (free := mz_A E) (Qc := fun _ _ _ _ => False) (XC := mz_XC E exc G sz) (E := N) (ce := ce) (q := q) (s := s) (fun x hx => (hno x hx).elim) hlk (by rw [e1]; exact hce) hcv hcl (fun t2 ht2 _ => ⟨hN, by rw [ht2, e1]; exact hH, by rw [ht2, e1]; exact hz, by rw [ht2]; exact Nat.le_trans h3.1 k1, fun q g1 g2 => by rw [ht2]; exact k3.2.1 q g1 g2⟩) k3.2.2 (Nat.le_refl _) (Nat.le_refl _)
    obtain ⟨t2, a1, b1⟩ := ho T' rfl X'
    exact ⟨t2, stp.trans a1, b1⟩
theorem mz_VcsX (hC : mz_C E p s m args meth c cc own nL) (hno : ∀ x ∈ c.exceptionTable.toList, False) (hT : mz_T cc T) {idx nx tg : Nat} (hat : mz_at T pc = some (.invokestatic idx, nx, tg)) {y : MethodName} {b : ByteArray} {nL' : Nat} {ret : Option FieldType} {na : Nat} (hm : mz_ms y b nL' ret na) (hlk : Cond.methodLink own idx y ∈ mz_ws) {As rest : List Value} (htk : mz_tk na st [] = some (As, rest)) {d' : Nat} (hM : mz_X l E y b nL' ret d' As G sz exc)
    (hR : d' + 1 ≤ R.frames ∧ 8 + (nL' + 11) + 40 * d' ≤ R.locals) (hroom : 0 + 1 ≤ R.cells ∧ 0 + 6 ≤ R.slots) (hrest : (rest.map fun v => v.category).sum ≤ 8) : mz_V E p l e R s m args below meth c nL 0 0 (mz_ZX E below args s exc G sz) G sz pc lv st := by
  obtain ⟨hd, hnx⟩ := mz_dec 2 (mz_at_ok hT hat) rfl
  obtain ⟨hst, hlen⟩ := mz_tk_o htk
  obtain ⟨⟨hcd, hini, hmn⟩, hsm⟩ := hm
  have hC0 := hC
  obtain ⟨hx, hb, hml, hown, hts, -, hEF⟩ := hC
  intro H locs ls h1 h2 h3 h4
  exact mz_xout hC0 hno h2 h3 (vx_runS ⟨hx, hb, hml, hown, hts⟩ hM ⟨callB_of na hts (mz_gws hcd) rfl rfl rfl (hts _ hini) (hts _ hlk) hmn hR, hts _ hsm⟩ (mz_pre hC0 h1 h2 h3 _) rfl hlen h4.1 hst (lv_room hrest) hd hroom)
theorem mz_VcvX (hC : mz_C E p s m args meth c cc own nL) (hno : ∀ x ∈ c.exceptionTable.toList, False) (hT : mz_T cc T) {idx nx tg : Nat} (hat : mz_at T pc = some (.invokevirtual idx, nx, tg)) {y : MethodName} {b : ByteArray} {nL' : Nat} {ret : Option FieldType} {na : Nat} (hm : mz_mi y b nL' ret na) (hlk : Cond.methodLink own idx y ∈ mz_ws) {As rest : List Value} {a : Nat} (htk : mz_tk na st [] = some (As, .ref a :: rest)) {d' : Nat} (hM : mz_X l E y b nL' ret d' (.ref a :: As) G sz exc)
    (hrec : (vwCl[mz_K G a]?).map (fun q => q.1) = some y.cls) (hR : d' + 1 ≤ R.frames ∧ 8 + (nL' + 11) + 40 * d' ≤ R.locals) (hroom : 0 + 1 ≤ R.cells ∧ 0 + 6 ≤ R.slots) (hrest : (rest.map fun v => v.category).sum ≤ 8) : mz_V E p l e R s m args below meth c nL 0 0 (mz_ZX E below args s exc G sz) G sz pc lv st := by
  obtain ⟨hd, hnx⟩ := mz_dec 2 (mz_at_ok hT hat) rfl
  obtain ⟨hst, hlen⟩ := mz_tk_o htk
  obtain ⟨⟨hcd, hini, hmn⟩, him, hse⟩ := hm
  have hC0 := hC
  obtain ⟨hx, hb, hml, hown, hts, -, hEF⟩ := hC
  intro H locs ls h1 h2 h3 h4
  exact mz_xout hC0 hno h2 h3 (vx_runV (C := y.cls) ⟨hx, hb, hml, hown, hts⟩ hM ⟨callB_of na hts (mz_gws hcd) rfl rfl rfl (hts _ hini) (hts _ hlk) hmn hR, hts _ him, hts _ hse⟩ ⟨(mz_pre hC0 h1 h2 h3 _).1, mz_recv hC0 h1 hrec, (mz_pre hC0 h1 h2 h3 _).2⟩ rfl hlen h4.1 hst (lv_room hrest) hd hroom)
theorem mz_decl {x : MethodName} {bytes : ByteArray} {nl : Nat} {ret : Option FieldType} (h1 : (Cond.instanceMethod x).before args s = true) (h2 : (Cond.code x bytes nl ret).before args s = true) : (Cond.declares x).before args s = true := by
  obtain ⟨m1, meth1, a1, a2, a3, -⟩ := Cond.instanceMethod_spec h1
  obtain ⟨meth', c1, b1, b2, -, -, -, -, -, b8⟩ := Cond.code_spec a1 h2
  cases Option.some.inj (a2.symm.trans b1)
  show (Cond.declares x).holds args s none s [] = true
  simp [Cond.holds, Cond.value, a1, a2, a3, b8]
def mz_dcl : List Cond := [.declares (Bundle.initS "java/lang/RuntimeException"), .declares (Bundle.initS "java/lang/Exception"), .declares (Bundle.initS Bundle.tN)]
/-- what a throw of the class's own needs of the words -/
def mz_tw (ik ic : Nat) (exc : String) : Prop := Bundle.fit exc = true ∧ Cond.classLink RX5 ik exc ∈ mz_ws ∧ Cond.initialized exc ∈ mz_ws ∧ (exc, exc) ∈ mz_cst ∧ (∀ w ∈ vx_atS RX5 ic exc ["java/lang/RuntimeException", "java/lang/Exception"], w ∈ mz_ws ∨ w = .castable exc exc ∨ w ∈ mz_dcl) ∧ (∀ w ∈ Cond.classLink RX5 ik exc :: Cond.initialized exc :: vx_atS RX5 ic exc ["java/lang/RuntimeException", "java/lang/Exception"], vx_ot w = true)
theorem mz_dcl_ok (hts : ∀ w ∈ mz_ws, w.before args s = true) : ∀ w ∈ mz_dcl, w.before args s = true := by
  have i1 := im_java_lang_RuntimeException__init___Ljava_lang_String__V
  have i2 := im_java_lang_Exception__init___Ljava_lang_String__V
  have i3 := im_java_lang_Throwable__init___Ljava_lang_String__V
  obtain ⟨b1, c1⟩ : ∃ bytes, Cond.code ⟨"java/lang/RuntimeException", "<init>", "(Ljava/lang/String;)V"⟩ bytes 2 none ∈ mz_ws := ⟨_, mz_in2 (List.mem_of_getElem? (i := 237) rfl) rfl⟩
  obtain ⟨b2, c2⟩ : ∃ bytes, Cond.code ⟨"java/lang/Exception", "<init>", "(Ljava/lang/String;)V"⟩ bytes 2 none ∈ mz_ws := ⟨_, mz_in3 (List.mem_of_getElem? (i := 0) rfl) rfl⟩
  obtain ⟨b3, c3⟩ : ∃ bytes, Cond.code ⟨"java/lang/Throwable", "<init>", "(Ljava/lang/String;)V"⟩ bytes 2 none ∈ mz_ws := ⟨_, mz_in3 (List.mem_of_getElem? (i := 3) rfl) rfl⟩
  exact List.forall_mem_cons.mpr ⟨mz_decl (hts _ i1) (hts _ c1), List.forall_mem_cons.mpr ⟨mz_decl (hts _ i2) (hts _ c2), List.forall_mem_cons.mpr ⟨mz_decl (hts _ i3) (hts _ c3), fun _ h => absurd h List.not_mem_nil⟩⟩⟩
theorem mz_Vthrow (hC : mz_C E p s m args meth c cc RX5 nL) (hno : ∀ x ∈ c.exceptionTable.toList, False) (hl : l.stackTraces = false) (hT : mz_T cc T) {ik is ic t0 t3 t4 t6 t9 : Nat} (text : String) (a0 : mz_at T pc = some (.new ik, pc + 3, t0)) (a3 : mz_at T (pc + 3) = some (.dup, pc + 4, t3)) (a4 : mz_at T (pc + 4) = some (.ldc is, pc + 6, t4)) (a6 : mz_at T (pc + 6) = some (.invokespecial ic, pc + 9, t6)) (a9 : mz_at T (pc + 9) = some (.athrow, pc + 10, t9)) (hw : mz_tw ik ic exc) (hs : (is, text) ∈ mz_str) (hR : 5 < R.frames ∧ 0 + 1 ≤ R.cells ∧ 0 + 6 ≤ R.slots ∧ (st.map fun v => v.category).sum + 82 ≤ R.locals) : mz_V E p l e R s m args below meth c nL 0 0 (mz_ZX E below args s exc G sz) G sz pc lv st := by
  obtain ⟨w1, w2, w3, w4, w5, w6⟩ := hw
  obtain ⟨hx, hb, hml, hown, hts, hlk, hEF⟩ := hC
  obtain ⟨sa, hstr⟩ := hEF.2.1 _ hs
  intro H locs ls h1 h2 h3 h4
  refine vx_throwS (own := RX5) (cls := exc) (names := ["java/lang/RuntimeException", "java/lang/Exception"]) hx hb hl hown w1 (by decide) (hts _ w2) (hts _ w3) hstr (fun w hw => ?_) w6 hEF.2.2.1 hEF.2.2.2.1 h3 (by rw [h4.1, hml]) (mz_dec 2 (mz_at_ok hT a0) rfl).1 (mz_dec 0 (mz_at_ok hT a3) rfl).1 (mz_dec 1 (mz_at_ok hT a4) rfl).1 (mz_dec 2 (mz_at_ok hT a6) rfl).1 (mz_dec 0 (mz_at_ok hT a9) rfl).1 (fun x hx => (hno x hx).elim) hR.1 hR.2.2.2 hR.2.1 hR.2.2.1 hlk (fun t _ g2 g3 => mz_xc h1 h2 h3 t g2 g3) h3.2.2 (Nat.le_refl _) (Nat.le_refl _)
  rcases w5 w hw with h | h | h
  · exact hts w h
  · rw [h]
    exact va_Nw.use rfl (hEF.2.2.2.2.2.2.2.2.1 _ w4)
  · exact mz_dcl_ok hts w h
theorem mz_VthrowW (hC : mz_C E p s m args meth c cc RX5 nL) (hno : ∀ x ∈ c.exceptionTable.toList, False) (hl : l.stackTraces = false) (hT : mz_T cc T) {ik is ic t0 t3 t4 t6 t9 : Nat} (text : String) (a0 : mz_at T pc = some (.new ik, pc + 3, t0)) (a3 : mz_at T (pc + 3) = some (.dup, pc + 4, t3)) (a4 : mz_at T (pc + 4) = some (.ldc_w is, pc + 7, t4)) (a6 : mz_at T (pc + 7) = some (.invokespecial ic, pc + 10, t6)) (a9 : mz_at T (pc + 10) = some (.athrow, pc + 11, t9)) (hw : mz_tw ik ic exc) (hs : (is, text) ∈ mz_str) (hR : 5 < R.frames ∧ 0 + 1 ≤ R.cells ∧ 0 + 6 ≤ R.slots ∧ (st.map fun v => v.category).sum + 82 ≤ R.locals) : mz_V E p l e R s m args below meth c nL 0 0 (mz_ZX E below args s exc G sz) G sz pc lv st := by
  obtain ⟨w1, w2, w3, w4, w5, w6⟩ := hw
  obtain ⟨hx, hb, hml, hown, hts, hlk, hEF⟩ := hC
  obtain ⟨sa, hstr⟩ := hEF.2.1 _ hs
  intro H locs ls h1 h2 h3 h4
  refine vx_throwSW (own := RX5) (cls := exc) (names := ["java/lang/RuntimeException", "java/lang/Exception"]) hx hb hl hown w1 (by decide) (hts _ w2) (hts _ w3) hstr (fun w hw => ?_) w6 hEF.2.2.1 hEF.2.2.2.1 h3 (by rw [h4.1, hml]) (mz_dec 2 (mz_at_ok hT a0) rfl).1 (mz_dec 0 (mz_at_ok hT a3) rfl).1 (mz_dec 2 (mz_at_ok hT a4) rfl).1 (mz_dec 2 (mz_at_ok hT a6) rfl).1 (mz_dec 0 (mz_at_ok hT a9) rfl).1 (fun x hx => (hno x hx).elim) hR.1 hR.2.2.2 hR.2.1 hR.2.2.1 hlk (fun t _ g2 g3 => mz_xc h1 h2 h3 t g2 g3) h3.2.2 (Nat.le_refl _) (Nat.le_refl _)
  rcases w5 w hw with h | h | h
  · exact hts w h
  · rw [h]
    exact va_Nw.use rfl (hEF.2.2.2.2.2.2.2.2.1 _ w4)
  · exact mz_dcl_ok hts w h
end MZX

