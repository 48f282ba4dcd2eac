/-! ===== one instruction: what needs no heap ===== -/
section MZR
variable {E : mz_E} {p : Program} {l : Launch} {e : Env} {R : Room} {s : State} {m : MethodId} {args : Array Value} {below : List Frame} {meth : Method} {c : Code} {cc : ByteArray} {own : String} {nL k n : Nat} {Q : State → Prop} {G : mz_G} {sz pc : Nat} {lv : List (Option Value)} {st : List Value}
def mz_s1i {β : Type} (st : List Value) (f : Int32 → List Value → Option β) : Option β := match st with
  | .int x :: r => f x r
  | _ => none
def mz_s2i {β : Type} (st : List Value) (f : Int32 → Int32 → List Value → Option β) : Option β := match st with
  | .int y :: .int x :: r => f x y r
  | _ => none
def mz_s1l {β : Type} (st : List Value) (f : Int64 → List Value → Option β) : Option β := match st with
  | .long x :: r => f x r
  | _ => none
def mz_s2l {β : Type} (st : List Value) (f : Int64 → Int64 → List Value → Option β) : Option β := match st with
  | .long y :: .long x :: r => f x y r
  | _ => none
def mz_s1r {β : Type} (st : List Value) (f : Nat → List Value → Option β) : Option β := match st with
  | .ref x :: r => f x r
  | _ => none
def mz_gi {β : Type} (lv : List (Option Value)) (i : Nat) (f : Int32 → Option β) : Option β := match lv[i]? with
  | some (some (.int x)) => f x
  | _ => none
def mz_gl {β : Type} (lv : List (Option Value)) (i : Nat) (f : Int64 → Option β) : Option β := match lv[i]? with
  | some (some (.long x)) => f x
  | _ => none
def mz_gr {β : Type} (lv : List (Option Value)) (i : Nat) (f : Nat → Option β) : Option β := match lv[i]? with
  | some (some (.ref x)) => f x
  | _ => none
def mz_d1 {β : Type} (st : List Value) (f : Value → List Value → Option β) : Option β := match st with
  | .int x :: r => f (.int x) r
  | .ref x :: r => f (.ref x) r
  | _ => none
def mz_d2 {β : Type} (st : List Value) (f : Value → Value → List Value → Option β) : Option β := match st with
  | .int x :: .ref y :: r => f (.int x) (.ref y) r
  | .int x :: .int y :: r => f (.int x) (.int y) r
  | _ => none
theorem mz_s1i_o {β : Type} {st : List Value} {f : Int32 → List Value → Option β} {b : β} (h : mz_s1i st f = some b) : ∃ x r, st = .int x :: r ∧ f x r = some b := by
  unfold mz_s1i at h; split at h
  · exact ⟨_, _, rfl, h⟩
  · cases h
theorem mz_s2i_o {β : Type} {st : List Value} {f : Int32 → Int32 → List Value → Option β} {b : β} (h : mz_s2i st f = some b) : ∃ x y r, st = .int y :: .int x :: r ∧ f x y r = some b := by
  unfold mz_s2i at h; split at h
  · exact ⟨_, _, _, rfl, h⟩
  · cases h
theorem mz_s1l_o {β : Type} {st : List Value} {f : Int64 → List Value → Option β} {b : β} (h : mz_s1l st f = some b) : ∃ x r, st = .long x :: r ∧ f x r = some b := by
  unfold mz_s1l at h; split at h
  · exact ⟨_, _, rfl, h⟩
  · cases h
theorem mz_s2l_o {β : Type} {st : List Value} {f : Int64 → Int64 → List Value → Option β} {b : β} (h : mz_s2l st f = some b) : ∃ x y r, st = .long y :: .long x :: r ∧ f x y r = some b := by
  unfold mz_s2l at h; split at h
  · exact ⟨_, _, _, rfl, h⟩
  · cases h
theorem mz_s1r_o {β : Type} {st : List Value} {f : Nat → List Value → Option β} {b : β} (h : mz_s1r st f = some b) : ∃ x r, st = .ref x :: r ∧ f x r = some b := by
  unfold mz_s1r at h; split at h
  · exact ⟨_, _, rfl, h⟩
  · cases h
theorem mz_gi_o {β : Type} {lv : List (Option Value)} {i : Nat} {f : Int32 → Option β} {b : β} (h : mz_gi lv i f = some b) : ∃ x, lv[i]? = some (some (.int x)) ∧ f x = some b := by
  unfold mz_gi at h; split at h
  · rename_i x hx; exact ⟨x, hx, h⟩
  · cases h
theorem mz_gl_o {β : Type} {lv : List (Option Value)} {i : Nat} {f : Int64 → Option β} {b : β} (h : mz_gl lv i f = some b) : ∃ x, lv[i]? = some (some (.long x)) ∧ f x = some b := by
  unfold mz_gl at h; split at h
  · rename_i x hx; exact ⟨x, hx, h⟩
  · cases h
theorem mz_gr_o {β : Type} {lv : List (Option Value)} {i : Nat} {f : Nat → Option β} {b : β} (h : mz_gr lv i f = some b) : ∃ x, lv[i]? = some (some (.ref x)) ∧ f x = some b := by
  unfold mz_gr at h; split at h
  · rename_i x hx; exact ⟨x, hx, h⟩
  · cases h
theorem mz_d1_o {β : Type} {st : List Value} {f : Value → List Value → Option β} {b : β} (h : mz_d1 st f = some b) : ∃ v r, st = v :: r ∧ v.category = 1 ∧ f v r = some b := by
  unfold mz_d1 at h; split at h
  · exact ⟨_, _, rfl, rfl, h⟩
  · exact ⟨_, _, rfl, rfl, h⟩
  · cases h
theorem mz_d2_o {β : Type} {st : List Value} {f : Value → Value → List Value → Option β} {b : β} (h : mz_d2 st f = some b) : ∃ v w r, st = v :: w :: r ∧ v.category = 1 ∧ w.category = 1 ∧ f v w r = some b := by
  unfold mz_d2 at h; split at h
  · exact ⟨_, _, _, rfl, rfl, rfl, h⟩
  · exact ⟨_, _, _, rfl, rfl, rfl, h⟩
  · cases h
abbrev mz_O : Type := Nat × List (Option Value) × List Value
/-- instructions over locals and stack alone -/
def mz_op (nL : Nat) (ins : Instr) (nx tg : Nat) (lv : List (Option Value)) (st : List Value) : Option mz_O := match ins with
  | .iconst n => some (nx, lv, .int (mz_c n) :: st)
  | .bipush n => some (nx, lv, .int (mz_c n) :: st)
  | .sipush n => some (nx, lv, .int (mz_c n) :: st)
  | .lconst n => some (nx, lv, .long (lN n.val) :: st)
  | .iload_n i => mz_gi lv i.val fun x => some (nx, lv, .int x :: st)
  | .iload i => mz_gi lv i fun x => some (nx, lv, .int x :: st)
  | .lload_n i => mz_gl lv i.val fun x => some (nx, lv, .long x :: st)
  | .lload i => mz_gl lv i fun x => some (nx, lv, .long x :: st)
  | .aload_n i => mz_gr lv i.val fun x => some (nx, lv, .ref x :: st)
  | .aload i => mz_gr lv i fun x => some (nx, lv, .ref x :: st)
  | .istore_n i => if i.val < nL then mz_s1i st fun x r => some (nx, mz_sto lv i.val (.int x), r) else none
  | .istore i => if i < nL then mz_s1i st fun x r => some (nx, mz_sto lv i (.int x), r) else none
  | .lstore_n i => if i.val + 1 < nL then mz_s1l st fun x r => some (nx, mz_sto2 lv i.val (.long x), r) else none
  | .lstore i => if i + 1 < nL then mz_s1l st fun x r => some (nx, mz_sto2 lv i (.long x), r) else none
  | .astore_n i => if i.val < nL then mz_s1r st fun x r => some (nx, mz_sto lv i.val (.ref x), r) else none
  | .astore i => if i < nL then mz_s1r st fun x r => some (nx, mz_sto lv i (.ref x), r) else none
  | .iinc i n => mz_gi lv i fun x => some (nx, mz_sto lv i (.int (x + mz_c n)), st)
  | .iadd => mz_s2i st fun x y r => some (nx, lv, .int (x + y) :: r)
  | .isub => mz_s2i st fun x y r => some (nx, lv, .int (x - y) :: r)
  | .imul => mz_s2i st fun x y r => some (nx, lv, .int (x * y) :: r)
  | .iand => mz_s2i st fun x y r => some (nx, lv, .int (x &&& y) :: r)
  | .ior => mz_s2i st fun x y r => some (nx, lv, .int (x ||| y) :: r)
  | .ixor => mz_s2i st fun x y r => some (nx, lv, .int (x ^^^ y) :: r)
  | .ineg => mz_s1i st fun x r => some (nx, lv, .int (-x) :: r)
  | .ladd => mz_s2l st fun x y r => some (nx, lv, .long (x + y) :: r)
  | .lmul => mz_s2l st fun x y r => some (nx, lv, .long (x * y) :: r)
  | .lcmp => mz_s2l st fun x y r => some (nx, lv, .int (lg_cmp x y) :: r)
  | .i2l => mz_s1i st fun x r => some (nx, lv, .long x.toInt64 :: r)
  | .dup => mz_d1 st fun v r => some (nx, lv, v :: v :: r)
  | .pop => mz_d1 st fun _ r => some (nx, lv, r)
  | .dup2 => mz_d2 st fun v w r => some (nx, lv, v :: w :: v :: w :: r)
  | .goto _ => some (tg, lv, st)
  | _ => none
theorem mz_Vsto {i : Nat} {v : Value} {st' : List Value} {pc' : Nat} (hr : ∀ (H : Heap) (locs : List Loc) (ls : Array Slot), lv_has ls nL (mz_en nL lv) → (∀ ls' : Array Slot, lv_has ls' nL ((i, v) :: (mz_en nL lv).filter (fun q => !(q.1 == i) && !(q.1 + 1 == i && q.2.category == 2))) → W p l e R s m args below meth c H locs k n Q (F0 m pc' ls' st')) → W p l e R s m args below meth c H locs k n Q (F0 m pc ls st))
    (kk : mz_V E p l e R s m args below meth c nL k n Q G sz pc' (mz_sto lv i v) st') : mz_V E p l e R s m args below meth c nL k n Q G sz pc lv st :=
  fun H locs ls h1 h2 h3 h4 => hr H locs ls h4.has (fun ls' h' => kk H locs ls' h1 h2 h3 (h4.sto h'))
theorem mz_Vsto2 {i : Nat} {v : Value} {st' : List Value} {pc' : Nat} (hr : ∀ (H : Heap) (locs : List Loc) (ls : Array Slot), lv_has ls nL (mz_en nL lv) → (∀ ls' : Array Slot, lv_has ls' nL ((i, v) :: (mz_en nL lv).filter (fun q => !(q.1 == i) && (!(q.1 == i + 1) && !(q.1 + 1 == i && q.2.category == 2)))) → W p l e R s m args below meth c H locs k n Q (F0 m pc' ls' st')) → W p l e R s m args below meth c H locs k n Q (F0 m pc ls st))
    (kk : mz_V E p l e R s m args below meth c nL k n Q G sz pc' (mz_sto2 lv i v) st') : mz_V E p l e R s m args below meth c nL k n Q G sz pc lv st :=
  fun H locs ls h1 h2 h3 h4 => hr H locs ls h4.has (fun ls' h' => kk H locs ls' h1 h2 h3 (h4.sto2 h'))
theorem mz_op_ok (hC : mz_C E p s m args meth c cc own nL) {ins : Instr} {nx tg : Nat} (hr : mz_rok cc (pc, ins, nx, tg)) {pc' : Nat} {lv' : List (Option Value)} {st' : List Value} (h : mz_op nL ins nx tg lv st = some (pc', lv', st')) (kk : mz_V E p l e R s m args below meth c nL k n Q G sz pc' lv' st') : mz_V E p l e R s m args below meth c nL k n Q G sz pc lv st := by
  obtain ⟨hx, hb, -⟩ := hC
  have hoff := hr.2.2.1
  have hcok := hr.2.2.2.1
  cases ins with
  | iconst z =>
    obtain ⟨hd, rfl⟩ := mz_dec 0 hr rfl
    cases h
    exact mz_V.go (fun H locs ls _ hl w => lv_iconst hx hb hd (by simpa [mz_cok] using hcok) w) kk
  | bipush z =>
    obtain ⟨hd, rfl⟩ := mz_dec 1 hr rfl
    cases h
    exact mz_V.go (fun H locs ls _ hl w => lv_bipush hx hb hd (by simpa [mz_cok] using hcok) w) kk
  | sipush z =>
    obtain ⟨hd, rfl⟩ := mz_dec 2 hr rfl
    cases h
    exact mz_V.go (fun H locs ls _ hl w => lv_sipush hx hb hd (by simpa [mz_cok] using hcok) w) kk
  | lconst z =>
    obtain ⟨hd, rfl⟩ := mz_dec 0 hr rfl
    cases h
    exact mz_V.go (fun H locs ls _ hl w => lv_lconst hx hb hd rfl w) kk
  | iload_n z =>
    obtain ⟨hd, rfl⟩ := mz_dec 0 hr rfl
    obtain ⟨x, h1, h2⟩ := mz_gi_o h
    cases h2
    exact mz_V.go (fun H locs ls _ hl w => lv_iload_n hx hb hd rfl (hl.2.2 _ _ h1) w) kk
  | iload z =>
    obtain ⟨hd, rfl⟩ := mz_dec 1 hr rfl
    obtain ⟨x, h1, h2⟩ := mz_gi_o h
    cases h2
    exact mz_V.go (fun H locs ls _ hl w => lv_iload hx hb hd (hl.2.2 _ _ h1) w) kk
  | lload_n z =>
    obtain ⟨hd, rfl⟩ := mz_dec 0 hr rfl
    obtain ⟨x, h1, h2⟩ := mz_gl_o h
    cases h2
    exact mz_V.go (fun H locs ls _ hl w => lv_lload_n hx hb hd rfl (hl.2.2 _ _ h1) w) kk
  | lload z =>
    obtain ⟨hd, rfl⟩ := mz_dec 1 hr rfl
    obtain ⟨x, h1, h2⟩ := mz_gl_o h
    cases h2
    exact mz_V.go (fun H locs ls _ hl w => lv_lload hx hb hd (hl.2.2 _ _ h1) w) kk
  | aload_n z =>
    obtain ⟨hd, rfl⟩ := mz_dec 0 hr rfl
    obtain ⟨x, h1, h2⟩ := mz_gr_o h
    cases h2
    exact mz_V.go (fun H locs ls _ hl w => lv_aload_n hx hb hd rfl (hl.2.2 _ _ h1) w) kk
  | aload z =>
    obtain ⟨hd, rfl⟩ := mz_dec 1 hr rfl
    obtain ⟨x, h1, h2⟩ := mz_gr_o h
    cases h2
    exact mz_V.go (fun H locs ls _ hl w => lv_aload hx hb hd (hl.2.2 _ _ h1) w) kk
  | istore_n z =>
    obtain ⟨hd, rfl⟩ := mz_dec 0 hr rfl
    simp only [mz_op] at h
    split at h
    · rename_i hz
      obtain ⟨x, r, rfl, h2⟩ := mz_s1i_o h
      cases h2
      exact mz_Vsto (fun H locs ls hl w => lv_istore_n hx hb hd rfl hl hz rfl w) kk
    · cases h
  | istore z =>
    obtain ⟨hd, rfl⟩ := mz_dec 1 hr rfl
    simp only [mz_op] at h
    split at h
    · rename_i hz
      obtain ⟨x, r, rfl, h2⟩ := mz_s1i_o h
      cases h2
      exact mz_Vsto (fun H locs ls hl w => lv_istore hx hb hd hl hz rfl w) kk
    · cases h
  | astore_n z =>
    obtain ⟨hd, rfl⟩ := mz_dec 0 hr rfl
    simp only [mz_op] at h
    split at h
    · rename_i hz
      obtain ⟨x, r, rfl, h2⟩ := mz_s1r_o h
      cases h2
      exact mz_Vsto (fun H locs ls hl w => lv_astore_n hx hb hd rfl hl hz rfl w) kk
    · cases h
  | astore z =>
    obtain ⟨hd, rfl⟩ := mz_dec 1 hr rfl
    simp only [mz_op] at h
    split at h
    · rename_i hz
      obtain ⟨x, r, rfl, h2⟩ := mz_s1r_o h
      cases h2
      exact mz_Vsto (fun H locs ls hl w => lv_astore hx hb hd hl hz rfl w) kk
    · cases h
  | lstore_n z =>
    obtain ⟨hd, rfl⟩ := mz_dec 0 hr rfl
    simp only [mz_op] at h
    split at h
    · rename_i hz
      obtain ⟨x, r, rfl, h2⟩ := mz_s1l_o h
      cases h2
      exact mz_Vsto2 (fun H locs ls hl w => lv_lstore_n hx hb hd rfl hl hz rfl w) kk
    · cases h
  | lstore z =>
    obtain ⟨hd, rfl⟩ := mz_dec 1 hr rfl
    simp only [mz_op] at h
    split at h
    · rename_i hz
      obtain ⟨x, r, rfl, h2⟩ := mz_s1l_o h
      cases h2
      exact mz_Vsto2 (fun H locs ls hl w => lv_lstore hx hb hd hl hz rfl w) kk
    · cases h
  | iinc z q =>
    obtain ⟨hd, rfl⟩ := mz_dec 2 hr rfl
    obtain ⟨x, h1, h2⟩ := mz_gi_o h
    cases h2
    intro H locs ls h3 h4 h5 h6
    obtain ⟨j, hj⟩ := List.getElem?_of_mem (mz_en_mem (h6.lt h1) h1)
    exact lv_iinc hx hb hd h6.has hj (by rw [show Int32.ofInt q = mz_c q by simpa [mz_cok] using hcok]) (h6.lt h1) rfl (fun ls' h' => kk H locs ls' h3 h4 h5 (h6.sto h'))
  | iadd =>
    obtain ⟨hd, rfl⟩ := mz_dec 0 hr rfl
    obtain ⟨x, y, r, rfl, h2⟩ := mz_s2i_o h
    cases h2
    exact mz_V.go (fun H locs ls _ hl w => lv_iadd hx hb hd w) kk
  | isub =>
    obtain ⟨hd, rfl⟩ := mz_dec 0 hr rfl
    obtain ⟨x, y, r, rfl, h2⟩ := mz_s2i_o h
    cases h2
    exact mz_V.go (fun H locs ls _ hl w => lv_isub hx hb hd w) kk
  | imul =>
    obtain ⟨hd, rfl⟩ := mz_dec 0 hr rfl
    obtain ⟨x, y, r, rfl, h2⟩ := mz_s2i_o h
    cases h2
    exact mz_V.go (fun H locs ls _ hl w => lv_imul hx hb hd w) kk
  | iand =>
    obtain ⟨hd, rfl⟩ := mz_dec 0 hr rfl
    obtain ⟨x, y, r, rfl, h2⟩ := mz_s2i_o h
    cases h2
    exact mz_V.go (fun H locs ls _ hl w => lv_iand hx hb hd w) kk
  | ior =>
    obtain ⟨hd, rfl⟩ := mz_dec 0 hr rfl
    obtain ⟨x, y, r, rfl, h2⟩ := mz_s2i_o h
    cases h2
    exact mz_V.go (fun H locs ls _ hl w => lv_ior hx hb hd w) kk
  | ixor =>
    obtain ⟨hd, rfl⟩ := mz_dec 0 hr rfl
    obtain ⟨x, y, r, rfl, h2⟩ := mz_s2i_o h
    cases h2
    exact mz_V.go (fun H locs ls _ hl w => lv_ixor hx hb hd w) kk
  | ineg =>
    obtain ⟨hd, rfl⟩ := mz_dec 0 hr rfl
    obtain ⟨x, r, rfl, h2⟩ := mz_s1i_o h
    cases h2
    exact mz_V.go (fun H locs ls _ hl w => lv_ineg hx hb hd w) kk
  | ladd =>
    obtain ⟨hd, rfl⟩ := mz_dec 0 hr rfl
    obtain ⟨x, y, r, rfl, h2⟩ := mz_s2l_o h
    cases h2
    exact mz_V.go (fun H locs ls _ hl w => lv_ladd hx hb hd w) kk
  | lmul =>
    obtain ⟨hd, rfl⟩ := mz_dec 0 hr rfl
    obtain ⟨x, y, r, rfl, h2⟩ := mz_s2l_o h
    cases h2
    exact mz_V.go (fun H locs ls _ hl w => lv_lmul hx hb hd w) kk
  | lcmp =>
    obtain ⟨hd, rfl⟩ := mz_dec 0 hr rfl
    obtain ⟨x, y, r, rfl, h2⟩ := mz_s2l_o h
    cases h2
    exact mz_V.go (fun H locs ls _ hl w => W.lcmp hx hb hd w) kk
  | i2l =>
    obtain ⟨hd, rfl⟩ := mz_dec 0 hr rfl
    obtain ⟨x, r, rfl, h2⟩ := mz_s1i_o h
    cases h2
    exact mz_V.go (fun H locs ls _ hl w => lv_i2l hx hb hd rfl w) kk
  | dup =>
    obtain ⟨hd, rfl⟩ := mz_dec 0 hr rfl
    simp only [mz_op] at h
    obtain ⟨v, r, rfl, hc1, h2⟩ := mz_d1_o h
    cases h2
    exact mz_V.go (fun H locs ls _ hl w => lv_dup hx hb hd hc1 w) kk
  | pop =>
    obtain ⟨hd, rfl⟩ := mz_dec 0 hr rfl
    simp only [mz_op] at h
    obtain ⟨v, r, rfl, hc1, h2⟩ := mz_d1_o h
    cases h2
    exact mz_V.go (fun H locs ls _ hl w => lv_pop hx hb hd hc1 w) kk
  | dup2 =>
    obtain ⟨hd, rfl⟩ := mz_dec 0 hr rfl
    simp only [mz_op] at h
    obtain ⟨v, w0, r, rfl, hc1, hc2, h2⟩ := mz_d2_o h
    cases h2
    exact mz_V.go (fun H locs ls _ hl w => lv_dup2_11 hx hb hd hc1 hc2 w) kk
  | goto z =>
    obtain ⟨hd, rfl⟩ := mz_dec 2 hr rfl
    cases h
    exact mz_V.go (fun H locs ls _ hl w => lv_goto hx hb hd (by simpa [mz_tgo, mz_off] using hoff) w) kk
  | _ => simp [mz_op] at h
end MZR
