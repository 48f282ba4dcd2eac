/-! ===== switches ===== -/
section MZSW
variable {E : mz_E} {p : Program} {l : Launch} {e : Env} {R : Room} {s : State} {m : MethodId} {args : Array Value} {below : List Frame} {meth : Method} {c : Code} {cc : ByteArray} {own : String} {nL k n : Nat} {Q : State → Prop} {T : List mz_R} {G : mz_G} {sz pc : Nat} {lv : List (Option Value)} {st : List Value}
theorem mz_Vtab (hC : mz_C E p s m args meth c cc own nL) (hT : mz_T cc T) {nx tg tgt : Nat} {dflt hi off : Int} {offs : Array Int} {x : Int32} (j : Nat) (hat : mz_at T pc = some (.tableswitch dflt 0 hi offs, nx, tg)) (hx : x = nI j) (hj : j < 1000) (hh : ¬ hi < (j : Int)) (ho : offs[j]? = some off) (ht : (pc : Int) + off = (tgt : Int)) (kk : mz_V E p l e R s m args below meth c nL k n Q G sz tgt lv st) : mz_V E p l e R s m args below meth c nL k n Q G sz pc lv (.int x :: st) := by
  obtain ⟨hxx, hb, -⟩ := hC
  have hr := (mz_at_ok hT hat).1
  have hv : x.toInt = (j : Int) := by rw [hx]; exact nI_toInt (by omega)
  intro H locs ls h1 h2 h3 h4
  exact lv_tableIn hxx hb hr (by rw [hv]; omega) (by rw [hv]; exact hh) (by rw [hv, show ((j : Int) - 0).toNat = j by omega]; exact ho) ht (kk H locs ls h1 h2 h3 h4)
theorem mz_Vtabd (hC : mz_C E p s m args meth c cc own nL) (hT : mz_T cc T) {nx tg tgt : Nat} {dflt hi : Int} {offs : Array Int} {x : Int32} (j : Nat) (hat : mz_at T pc = some (.tableswitch dflt 0 hi offs, nx, tg)) (hx : x = nI j) (hj : j < 1000) (hh : hi < (j : Int)) (ht : (pc : Int) + dflt = (tgt : Int)) (kk : mz_V E p l e R s m args below meth c nL k n Q G sz tgt lv st) : mz_V E p l e R s m args below meth c nL k n Q G sz pc lv (.int x :: st) := by
  obtain ⟨hxx, hb, -⟩ := hC
  have hr := (mz_at_ok hT hat).1
  have hv : x.toInt = (j : Int) := by rw [hx]; exact nI_toInt (by omega)
  intro H locs ls h1 h2 h3 h4
  exact lv_tableOut hxx hb hr (Or.inr (by rw [hv]; exact hh)) ht (kk H locs ls h1 h2 h3 h4)
theorem mz_Vlook (hC : mz_C E p s m args meth c cc own nL) (hT : mz_T cc T) {nx tg tgt : Nat} {dflt off : Int} {ps : Array (Int × Int)} {x : Int32} (j : Nat) (hat : mz_at T pc = some (.lookupswitch dflt ps, nx, tg)) (hx : x = nI j) (hj : j < 1000) (hp : (ps.toList.zip (ps.toList.drop 1)).all (fun (a, next) => a.1 < next.1) = true) (ho : Op.lookupswitch.offset ps.toList dflt (j : Int) = off) (ht : (pc : Int) + off = (tgt : Int)) (kk : mz_V E p l e R s m args below meth c nL k n Q G sz tgt lv st) : mz_V E p l e R s m args below meth c nL k n Q G sz pc lv (.int x :: st) := by
  obtain ⟨hxx, hb, -⟩ := hC
  have hr := (mz_at_ok hT hat).1
  have hv : x.toInt = (j : Int) := by rw [hx]; exact nI_toInt (by omega)
  intro H locs ls h1 h2 h3 h4
  exact lv_lookup hxx hb hr hp (by rw [hv]; exact ho) ht (kk H locs ls h1 h2 h3 h4)
end MZSW

