/-! ===== System.arraycopy over the typed heap ===== -/
section MZAC
variable {E : mz_E} {p : Program} {l : Launch} {e : Env} {R : Room} {s : State} {m : MethodId} {args : Array Value} {below : List Frame} {meth : Method} {c : Code} {nL k n : Nat} {Q : State → Prop} {G : mz_G} {sz pc : Nat} {lv : List (Option Value)} {st : List Value} {cc : ByteArray} {own : String} {T : List mz_R}
theorem mz_Vacopy (hC : mz_C E p s m args meth c cc own nL) (hT : mz_T cc T) {idx nx tg : Nat} (hat : mz_at T pc = some (.invokestatic idx, nx, tg)) (hlk : Cond.methodLink own idx arraycopyName ∈ mz_ws) (sp dp nn : Nat) {a0 a : Nat} {x y z : Int32} (hx0 : x = nI sp) (hy0 : y = nI dp) (hz0 : z = nI nn) (hK0 : mz_K G a0 = 7) (hK1 : mz_K G a = 7) (h4 : sp + nn ≤ mz_n G a0) (h5 : dp + nn ≤ mz_n G a) (hN0 : mz_n G a0 < 2147483648) (hN1 : mz_n G a < 2147483648) (hf : 1 ≤ R.frames) (hl : (st.map fun v => v.category).sum + (nativeFrameWords "java/lang/System" "arraycopy" 5 + 11) ≤ R.locals)
    (kk : mz_V E p l e R s m args below meth c nL k n Q (mz_sa G a (va_cpy (mz_i G a0) (mz_i G a) sp dp nn)) sz nx lv st) : mz_V E p l e R s m args below meth c nL k n Q G sz pc lv (.int z :: .int y :: .ref a :: .int x :: .ref a0 :: st) := by
  obtain ⟨hd, rfl⟩ := mz_dec 2 (mz_at_ok hT hat) rfl
  obtain ⟨hx, hb, hml, hown, hts, -, hEF⟩ := hC
  subst hx0 hy0 hz0
  intro H locs ls h1 h2 h3 hL U hU X
  obtain ⟨hA0, hat0⟩ := h1 a0 _ (mz_cel_ia hK0)
  obtain ⟨hA1, hat1⟩ := h1 a _ (mz_cel_ia hK1)
  have hat0 : H[a0]? = some (vp_cell (E.2.1 7) (mz_n G a0, .inl (mz_i G a0))) := hat0
  have hat1 : H[a]? = some (vp_cell (E.2.1 7) (mz_n G a, .inl (mz_i G a))) := hat1
  have c1 : (nI sp).toNatClampNeg = sp := nI_clamp (by omega)
  have c2 : (nI dp).toNatClampNeg = dp := nI_clamp (by omega)
  have c3 : (nI nn).toNatClampNeg = nn := nI_clamp (by omega)
  have z1 : ∀ {q : Nat}, q < 2147483648 → ¬ nI q < 0 := fun hq => mz_n_lt (mz_nn _ hq)
  have z2 : ∀ {q : Nat}, q < 2147483648 → (nI q).toInt = (q : Int) := fun {q} hq => by
    have w1 := nI_clamp (n := q) hq
    have w2 : (0 : Int) ≤ (nI q).toInt := by have := mz_nn q hq; rw [mz_leI] at this; exact this
    have w3 : (nI q).toInt.toNat = q := w1
    omega
  obtain ⟨-, k0, hk0, cm0, hkk0⟩ := (hEF.1.2 0 _ rfl).1 (mz_n G a0) (fun j => .int (mz_i G a0 j))
  obtain ⟨-, k1, hk1, cm1, hkk1⟩ := (hEF.1.2 0 _ rfl).1 (mz_n G a) (fun j => .int (mz_i G a j))
  obtain ⟨vm', X', step⟩ := X.arraycopy hx hown (hts _ hlk) (hts _ nv_java_lang_System_arraycopy__Ljava_lang_Object_ILjava_lang_Object_II_V) (hts _ sm_java_lang_System_arraycopy__Ljava_lang_Object_ILjava_lang_Object_II_V) (hts _ in_RJ10) (src := a0) (dst := a) (cs := vp_cell (E.2.1 7) (mz_n G a0, .inl (mz_i G a0))) (cd := vp_cell (E.2.1 7) (mz_n G a, .inl (mz_i G a))) (srcPos := nI sp) (destPos := nI dp) (n := nI nn) (by rw [hU]; exact hat0) (by rw [hU]; exact hat1)
    (fun _ h => by cases h) (fun _ h => by cases h) (fun h => by cases h) (fun h => by cases h) hk0 hk1 hkk0 hkk1 (by simp [refKind]) (z1 (by omega)) (z1 (by omega)) (z1 (by omega))
    (by rw [z2 (by omega), z2 (by omega)]; show ¬ _ > ((arrV _ _ _).slots.size : Int); rw [arrV_size]; omega)
    (by rw [z2 (by omega), z2 (by omega)]; show ¬ _ > ((arrV _ _ _).slots.size : Int); rw [arrV_size]; omega)
    (fun vm₁ _ i hi => by
      rw [c3] at hi
      have ee : (vp_cell (E.2.1 7) (mz_n G a0, .inl (mz_i G a0))).slots.getD ((nI sp).toNatClampNeg + i) .null = .int (mz_i G a0 (sp + i)) := by
        rw [c1]
        show (arrV _ _ (fun j => Value.int (mz_i G a0 j))).slots.getD _ _ = _
        rw [Array.getD_eq_getD_getElem?, arrV_read _ _ (by omega)]
        rfl
      rw [ee]
      exact ⟨rfl, trivial⟩)
    (g := F0 m pc ls (.int (nI nn) :: .int (nI dp) :: .ref a :: .int (nI sp) :: .ref a0 :: st)) rfl (by rw [hml]; exact hL.1) (rest := st) rfl (by rw [hb]; exact hd) hf (by show 2 * 0 + _ + _ ≤ _; omega)
  have e1 : copied (vp_cell (E.2.1 7) (mz_n G a0, .inl (mz_i G a0))) (vp_cell (E.2.1 7) (mz_n G a, .inl (mz_i G a))) (nI sp) (nI dp) (nI nn) = vp_cell (E.2.1 7) (mz_n G a, .inl (va_cpy (mz_i G a0) (mz_i G a) sp dp nn)) := by
    unfold copied
    rw [c1, c2, c3]
    exact va_copied (fun z => .int z) _ _ _ _ h4
  rw [e1] at X' step
  have hla : a < H.size := (Array.getElem?_eq_some_iff.mp hat1).1
  have hheap : ((U.setVm vm').setCell a (vp_cell (E.2.1 7) (mz_n G a, .inl (va_cpy (mz_i G a0) (mz_i G a) sp dp nn)))).heap = H.setIfInBounds a (vp_cell (E.2.1 7) (mz_n G a, .inl (va_cpy (mz_i G a0) (mz_i G a) sp dp nn))) := by rw [← hU]; rfl
  have oq : ∀ q : Nat, q ≠ a → (H.setIfInBounds a (vp_cell (E.2.1 7) (mz_n G a, .inl (va_cpy (mz_i G a0) (mz_i G a) sp dp nn))))[q]? = H[q]? := fun q hq => by simp [Array.getElem?_setIfInBounds, Ne.symm hq]
  have f1 : mz_H E (mz_sa G a (va_cpy (mz_i G a0) (mz_i G a) sp dp nn)) (H.setIfInBounds a (vp_cell (E.2.1 7) (mz_n G a, .inl (va_cpy (mz_i G a0) (mz_i G a) sp dp nn)))) := by
    refine h1.upd (a := a) mz_sa_o (fun q _ hq => oq q hq) (fun w hw => ?_)
    rw [mz_cel_ia (G := mz_sa G a _) (by exact hK1)] at hw
    cases hw
    refine ⟨hA1, ?_⟩
    show (H.setIfInBounds a _)[a]? = some (vp_cell _ _)
    rw [show mz_i (mz_sa G a (va_cpy (mz_i G a0) (mz_i G a) sp dp nn)) a = va_cpy (mz_i G a0) (mz_i G a) sp dp nn from by simp [mz_sa, mz_i, mz_u1]]
    rw [Array.getElem?_setIfInBounds, if_pos rfl, if_pos hla]
    rfl
  have f2 : ∀ q : Nat, q < s.heap.size → ¬ mz_A E q → (H.setIfInBounds a (vp_cell (E.2.1 7) (mz_n G a, .inl (va_cpy (mz_i G a0) (mz_i G a) sp dp nn))))[q]? = s.heap[q]? := fun q g1 g2 => by
    rw [oq q (fun z => g2 (by rw [z]; exact hA1))]
    exact h3.2.1 q g1 g2
  obtain ⟨t, t1, t2⟩ := kk _ _ ls f1 (by simp; exact h2) ⟨by simp; exact h3.1, f2, fun q hq => by
    rcases List.mem_append.mp hq with h | h
    · exact h3.2.2 q h
    · obtain ⟨w, -, hw⟩ := List.mem_map.mp h
      rw [← hw]
      exact hA1⟩ hL _ hheap X'
  exact ⟨t, step t t1, t2⟩
end MZAC

