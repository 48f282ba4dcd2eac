/-! ===== methods that catch: the law's wrappers ===== -/
/-- a contract of a method with an exception table, that returns -/
def mz_N (l : Launch) (E : mz_E) (y : MethodName) (b : ByteArray) (nL : Nat) (ret : Option FieldType) (hh : List (Nat × Nat × Nat × Nat)) (d mc ms : Nat) (av : List Value) (G : mz_G) (sz : Nat) (post : Option Value → mz_G → Nat → Prop) : Prop :=
  Met l y (.codeWith y b nL ret hh :: mz_ws) (mz_rm d mc ms) (va_Pc av (mz_W E G sz)) (mz_Q E post) mc ms (mz_A E)
theorem mz_startH {l : Launch} {E : mz_E} {y : MethodName} {b : ByteArray} {nL : Nat} {ret : Option FieldType} {hh : List (Nat × Nat × Nat × Nat)} {d mc ms : Nat} {av : List Value} {G : mz_G} {sz : Nat} {post : Option Value → mz_G → Nat → Prop} (hy : plainName y.cls = true) (hav : (lg_sl av).length ≤ nL)
    (body : ∀ (p : Program) (e : Env) (s : State) (m : MethodId) (args : Array Value) (below : List Frame) (meth : Method) (c : Code), mz_C E p s m args meth c b y.cls nL → meth.sig.returnType = ret → c.exceptionTable.toList = tableOf hh → mz_V E p l e (mz_rm d mc ms) s m args below meth c nL 0 0 (mz_Z E below args s mc ms post) G sz 0 (mz_la av) []) : mz_N l E y b nL ret hh d mc ms av G sz post := by
  unfold mz_N Met
  refine MetFree.of_bodyS (code := b) (maxLocals := nL) (ret := ret) hy ?_ ?_
  · intro args s m h hn
    obtain ⟨m9, meth, c, hn9, h1, h2, h3, h4, -, h5, h6, -⟩ := Cond.codeWith_spec (atoms_spec (ws := Cond.codeWith y b nL ret hh :: mz_ws) h _ List.mem_cons_self)
    cases hn.symm.trans hn9
    exact ⟨meth, c, h1, h2, h3, h4, h5, h6⟩
  · intro p e s m args below meth c s₁ B hml hP _
    have hh0 : s₁.heap = s.heap := by rw [B.state]; rfl
    have hts := atoms_spec (ws := Cond.codeWith y b nL ret hh :: mz_ws) B.pre
    have htab := vx_table (x := y) B (hts _ List.mem_cons_self)
    have hown : s.vm.findClass y.cls = some m.cls := findClass_of_methodNamed B.named
    obtain ⟨rfl, hsz, hH, hEF⟩ := hP
    have hl := lv_entry av (n := nL) hav
    have hW := body p e s m av.toArray below meth c ⟨B.exec, B.bytes, hml, hown, fun w hw => hts w (List.mem_cons_of_mem _ hw), B.notSynchronized, hEF⟩ B.returns htab s.heap [] _ hH hsz va_S.rf ⟨hl.1, hl.2.1, fun j v hj => by
      have := mz_la_get av 0 j v hj
      rw [Nat.zero_add] at this
      exact hl.2.2 (j, v) this⟩
    rw [← lg_entry_eq] at hW
    obtain ⟨t, a1, o, b1, b2, b3⟩ := hW s₁ hh0 (Stand.of_body B)
    exact ⟨t, o, a1, b1, b2, b3⟩
section MZH
variable {E : mz_E} {p : Program} {l : Launch} {e : Env} {R : Room} {s : State} {m : MethodId} {args : Array Value} {below : List Frame} {meth : Method} {c : Code} {cc : ByteArray} {own : String} {nL k n : Nat} {Q : State → Prop} {T : List mz_R} {G : mz_G} {sz pc : Nat} {lv : List (Option Value)} {st : List Value} {exc : String}
/-- a call that throws, caught here by the row hx of the table -/
theorem mz_VcvH (hC : mz_C E p s m args meth c cc own nL) {hpre hsuf : List (Nat × Nat × Nat × Nat)} {h0 h1 h2 h3 : Nat} (htab : c.exceptionTable.toList = tableOf (hpre ++ (h0, h1, h2, h3) :: hsuf)) (hpass : ∀ z ∈ hpre, z.2.2.2 ≠ 0 ∧ ∃ nm : String, Cond.classLink own z.2.2.2 nm ∈ mz_ws ∧ (exc, nm) ∈ mz_ncs) (hcov : h0 ≤ pc ∧ pc < h1) (hct : h3 ≠ 0) (hlx : Cond.classLink own h3 exc ∈ mz_ws) (hcs : (exc, exc) ∈ mz_cst)
    (hT : mz_T cc T) {idx nx tg : Nat} (hat : mz_at T pc = some (.invokevirtual idx, nx, tg)) {y : MethodName} {b : ByteArray} {nL' : Nat} {ret : Option FieldType} {na : Nat} (hm : mz_mi y b nL' ret na) (hlk : Cond.methodLink own idx y ∈ mz_ws) {As rest : List Value} {a : Nat} (htk : mz_tk na st [] = some (As, .ref a :: rest)) {d' : Nat} (hM : mz_X l E y b nL' ret d' (.ref a :: As) G sz exc)
    (hrec : (vwCl[mz_K G a]?).map (fun q => q.1) = some y.cls) (hR : d' + 1 ≤ R.frames ∧ 8 + (nL' + 11) + 40 * d' ≤ R.locals) (hroom : k + 1 ≤ R.cells ∧ n + 6 ≤ R.slots) (hrest : (rest.map fun v => v.category).sum ≤ 8)
    (kk : ∀ (q sz' : Nat), sz ≤ sz' → mz_V E p l e R s m args below meth c nL (k + 1) (n + 6) Q G sz' h2 lv [.ref q]) : mz_V E p l e R s m args below meth c nL k n Q G sz pc lv st := by
  obtain ⟨hd, hnx⟩ := mz_dec 2 (mz_at_ok hT hat) rfl
  obtain ⟨hst, hlen⟩ := mz_tk_o htk
  obtain ⟨⟨hcd, hini, hmn⟩, him, hse⟩ := hm
  have hC0 := hC
  obtain ⟨hx, hb, hml, hown, hts, hlk0, hEF⟩ := hC
  intro H locs ls g1 g2 g3 g4
  have hr := vx_runV (C := y.cls) (e := e) (below := below) (meth := meth) (locs := locs) (cells := k) (slots := n) (g := F0 m pc ls st) (rest := rest) ⟨hx, hb, hml, hown, hts⟩ hM ⟨callB_of na hts (mz_gws hcd) rfl rfl rfl (hts _ hini) (hts _ hlk) hmn hR, hts _ him, hts _ hse⟩ ⟨(mz_pre hC0 g1 g2 g3 _).1, mz_recv hC0 g1 hrec, (mz_pre hC0 g1 g2 g3 _).2⟩ rfl hlen g4.1 hst (lv_room hrest) hd hroom
  intro U hU X
  rcases hr U hU X with ⟨v, st₀, t, T', L, h0, X', hL, e1, e2, hf, stp⟩ | ⟨q, st₀, t, T', L, N, ce, z0, X', hL, e1, e2, ⟨hN, hH, hz, hF⟩, hce, hcv, hcl, stp⟩
  · exact hf.elim
  · obtain ⟨k1, k2, k3⟩ := vx_keep z0 e1 g3 (fun q _ z => z) (fun q z => z) hL hF
    subst hN
    have ho : vx_W p l e R s m args below meth c T'.heap (locs ++ L) (k + 1) (n + 6) Q (F0 m pc ls rest) q := by
      refine vx_catch (own := own) (name := N) (E := N) (ce := ce) hown (tableOf hpre) ⟨h0, h1, h2, h3⟩ (tableOf hsuf) (by rw [htab]; simp [tableOf]) ?_ ?_ hct (hts _ hlx) (va_Nw.use rfl (hEF.2.2.2.2.2.2.2.2.1 _ hcs)) (by rw [e1]; exact hce) hcv hcl ?_
      · intro z hz'
        obtain ⟨w, hw, rfl⟩ := List.mem_map.mp (show z ∈ hpre.map (fun w => (⟨w.1, w.2.1, w.2.2.1, w.2.2.2⟩ : ExceptionTableEntry)) from hz')
        obtain ⟨q1, nm, q2, q3⟩ := hpass w hw
        exact Or.inr ⟨q1, nm, hts _ q2, hEF.2.2.2.2.2.2.2.2.2 _ q3⟩
      · simp [covers, hcov.1, hcov.2]
      · exact kk q T'.heap.size (by rw [e1]; exact hz) T'.heap (locs ++ L) ls (by rw [e1]; exact hH) rfl ⟨Nat.le_trans g3.1 k1, fun q' w1 w2 => k3.2.1 q' w1 w2, k3.2.2⟩ g4
    obtain ⟨t2, a1, b1⟩ := ho T' rfl X'
    exact ⟨t2, stp.trans a1, b1⟩
/-- what a static method with a table is, by the words -/
def mz_mw (y : MethodName) (b : ByteArray) (nL : Nat) (ret : Option FieldType) (hh : List (Nat × Nat × Nat × Nat)) (n : Nat) : Prop :=
  (Cond.codeWith y b nL ret hh ∈ mz_ws ∧ Cond.initialized y.cls ∈ mz_ws ∧ Cond.static y ∈ mz_ws) ∧ y.cls ≠ "java/lang/invoke/MethodHandle" ∧ y.cls ≠ "java/lang/invoke/VarHandle" ∧ (parseMethodDescriptor y.desc).map (fun d => d.parameters.length) = some n
theorem mz_Vcsw (hC : mz_C E p s m args meth c cc own nL) (hT : mz_T cc T) {idx nx tg : Nat} (hat : mz_at T pc = some (.invokestatic idx, nx, tg)) {y : MethodName} {b : ByteArray} {nL' : Nat} {ret : Option FieldType} {hh : List (Nat × Nat × Nat × Nat)} {na : Nat} (hm : mz_mw y b nL' ret hh na) (hlk : Cond.methodLink own idx y ∈ mz_ws) {As rest : List Value} (htk : mz_tk na st [] = some (As, rest)) {d' mc ms : Nat} {post : Option Value → mz_G → Nat → Prop} (hM : mz_N l E y b nL' ret hh d' mc ms As G sz post)
    (hR : d' + 1 ≤ R.frames ∧ 8 + (nL' + 11) + 40 * d' ≤ R.locals) (hroom : k + mc ≤ R.cells ∧ n + ms ≤ R.slots) (hrest : (rest.map fun v => v.category).sum ≤ 8)
    (kk : ∀ (v : Option Value) (G' : mz_G) (sz' : Nat), post v G' sz' → mz_V E p l e R s m args below meth c nL (k + mc) (n + ms) Q G' sz' nx lv (v.toList ++ rest)) : mz_V E p l e R s m args below meth c nL k n Q G sz pc lv st := by
  obtain ⟨hd, hnx⟩ := mz_dec 2 (mz_at_ok hT hat) rfl
  obtain ⟨hst, hlen⟩ := mz_tk_o htk
  obtain ⟨⟨hcd, hini, hsm⟩, hmn1, hmn2, hmn3⟩ := hm
  have hC0 := hC
  obtain ⟨hx, hb, hml, hown, hts, -, hEF⟩ := hC
  intro H locs ls h1 h2 h3 h4
  have hgood : GoodIn mz_ws (Cond.codeWith y b nL' ret hh :: mz_ws) := fun w hw => (List.mem_cons.mp hw).elim (fun z => by rw [z]; exact mz_good _ hcd) (fun z => mz_good _ z)
  have hcw : vx_CSW R s args own idx y b nL' ret hh (Cond.codeWith y b nL' ret hh :: mz_ws) (mz_rm d' mc ms) mc ms na := by
    refine ⟨⟨rfl, rfl, hR.1, hR.2, pay_in hts hgood, List.mem_cons_self⟩, hts _ hcd, hts _ hini, ⟨hmn1, hmn2⟩, fun sig h => ?_, hts _ hlk, hts _ hsm⟩
    rw [h] at hmn3
    exact (Option.some.inj hmn3).symm
  exact mz_run_V hnx h2 h3 h4 (vx_runSW ⟨hx, hb, hml, hown, hts⟩ hM hcw (mz_pre hC0 h1 h2 h3 _) rfl hlen h4.1 hst (lv_room hrest) hd hroom) kk
end MZH

