/-! ===== new objects, new rows of references; constructors ===== -/
section MZNA
variable {E : mz_E} {p : Program} {l : Launch} {e : Env} {R : Room} {s : State} {m : MethodId} {args : Array Value} {below : List Frame} {meth : Method} {c : Code} {cc : ByteArray} {own : String} {nL k n : Nat} {Q : State → Prop} {T : List mz_R} {G : mz_G} {sz pc : Nat} {lv : List (Option Value)} {st : List Value}
theorem mz_Vnewa (hC : mz_C E p s m args meth c cc own nL) (hT : mz_T cc T) {idx nx tg : Nat} (hat : mz_at T pc = some (.anewarray idx, nx, tg)) (kd j : Nat) (C : String) (hkd : 8 ≤ kd ∧ kd < 12) (hty : (mz_tys E)[j]? = some (E.2.1 kd, .object C)) (hlk : Cond.classLink own idx C ∈ mz_ws) (hAO : C ∈ [RX0, RX1, RX2, RX3]) {x : Int32} (N : Nat) (hx0 : x = nI N) (hN : N < 1000) (hroom : k + 1 ≤ R.cells ∧ n + N ≤ R.slots)
    (kk : mz_V E p l e R s m args below meth c nL (k + 1) (n + N) Q (mz_nw G sz kd N) (sz + 1) nx lv (.ref sz :: st)) : mz_V E p l e R s m args below meth c nL k n Q G sz pc lv (.int x :: st) := by
  obtain ⟨hd, rfl⟩ := mz_dec 2 (mz_at_ok hT hat) rfl
  obtain ⟨hx, hb, hml, hown, hts, -, hEF⟩ := hC
  intro H locs ls h1 h2 h3 h4
  subst h2 hx0
  have hcl := nI_clamp (n := N) (by omega)
  refine W.anew hx hb hown (hts _ hlk) (va_AO.use (hEF.2.2.2.2.2.2.2.1 C hAO)) rfl hd rfl (nI_pos (by omega)) (by rw [hcl]; omega) hroom.1 (by rw [hcl]; exact hroom.2) fun cA kA comp f1 f2 f3 f4 => ?_
  rw [hcl]
  generalize hH1 : H.push ({ cls := cA, slots := Array.replicate N .null, vm := .none } : Cell) = H1
  have z1 : H1.size = H.size + 1 := by rw [← hH1, Array.size_push]
  have e1 : H1[H.size]? = some (arrV cA N (fun _ => .null)) := by rw [← hH1, Array.getElem?_push_size, ← arrV_new]
  have o1 : ∀ q : Nat, q < H.size → H1[q]? = H[q]? := fun q hq => by rw [← hH1, Array.getElem?_push, if_neg (Nat.ne_of_lt hq)]
  have hA : E.2.2 ≤ H.size := Nat.le_trans hEF.2.2.2.2.1 h3.1
  have hcA : cA = E.2.1 kd := by
    obtain ⟨-, -, -, -, -, hf⟩ := (hEF.1.2 j _ hty).2
    exact Option.some.inj (f1.symm.trans hf)
  refine kk H1 locs ls (h1.upd (a := H.size) mz_nw_o (fun q hq _ => o1 q hq) (fun x hx => ?_)) z1 ⟨Nat.le_trans h3.1 (by omega), fun q g1 g2 => (o1 q (Nat.lt_of_lt_of_le g1 h3.1)).trans (h3.2.1 q g1 g2), h3.2.2⟩ h4
  rw [mz_cel_ra (mz_nw_K G H.size kd N) hkd.1 hkd.2] at hx
  cases hx
  refine ⟨hA, ?_⟩
  show H1[H.size]? = some (vp_cell _ _)
  rw [e1, hcA]
  rw [mz_nw_n, mz_nw_r]
  rfl
theorem mz_Vnew4 (hC : mz_C E p s m args meth c cc own nL) (hT : mz_T cc T) {idx nx tg : Nat} (hat : mz_at T pc = some (.new idx, nx, tg)) (hlk : Cond.classLink own idx RX4 ∈ mz_ws) (hroom : k + 1 ≤ R.cells ∧ n + 4 ≤ R.slots) (kk : mz_V E p l e R s m args below meth c nL (k + 1) (n + 4) Q (mz_nw G sz 4 0) (sz + 1) nx lv (.ref sz :: st)) : mz_V E p l e R s m args below meth c nL k n Q G sz pc lv st :=
  mz_Vnew hC hT hat 4 (C := RX4) (TT := TX4) (N := 4) (ty := tyX4) rfl (by omega) rfl ix_4 tyX4_ok hlk it_RX4 in_RX4 (fun G0 q h1 h2 h3 j hj => by
    rcases (show j = 0 ∨ j = 1 ∨ j = 2 ∨ j = 3 by omega) with rfl | rfl | rfl | rfl
    · show Value.int 0 = .int (mz_i G0 q 0); rw [h1]
    · show Value.int 0 = .int (mz_i G0 q 1); rw [h1]
    · show Value.int 0 = .int (mz_i G0 q 2); rw [h1]
    · show Value.null = va_rf (mz_r G0 q 3); rw [h2]; rfl) hroom kk
theorem mz_Vnew0 (hC : mz_C E p s m args meth c cc own nL) (hT : mz_T cc T) {idx nx tg : Nat} (hat : mz_at T pc = some (.new idx, nx, tg)) (hlk : Cond.classLink own idx RX0 ∈ mz_ws) (hroom : k + 1 ≤ R.cells ∧ n + 6 ≤ R.slots) (kk : mz_V E p l e R s m args below meth c nL (k + 1) (n + 6) Q (mz_nw G sz 0 0) (sz + 1) nx lv (.ref sz :: st)) : mz_V E p l e R s m args below meth c nL k n Q G sz pc lv st :=
  mz_Vnew hC hT hat 0 (C := RX0) (TT := TX0) (N := 6) (ty := tyX0) rfl (by omega) rfl ix_0 tyX0_ok hlk it_RX0 in_RX0 (fun G0 q h1 h2 h3 j hj => by
    rcases (show j = 0 ∨ j = 1 ∨ j = 2 ∨ j = 3 ∨ j = 4 ∨ j = 5 by omega) with rfl | rfl | rfl | rfl | rfl | rfl
    · show Value.int 0 = .int (mz_i G0 q 0); rw [h1]
    · show Value.int 0 = .int (mz_i G0 q 1); rw [h1]
    · show Value.int 0 = .int (mz_i G0 q 2); rw [h1]
    · show Value.int 0 = .int (mz_i G0 q 3); rw [h1]
    · show Value.null = va_rf (mz_r G0 q 4); rw [h2]; rfl
    · show Value.null = va_rf (mz_r G0 q 5); rw [h2]; rfl) hroom kk
theorem mz_Vnew1 (hC : mz_C E p s m args meth c cc own nL) (hT : mz_T cc T) {idx nx tg : Nat} (hat : mz_at T pc = some (.new idx, nx, tg)) (hlk : Cond.classLink own idx RX1 ∈ mz_ws) (hroom : k + 1 ≤ R.cells ∧ n + 3 ≤ R.slots) (kk : mz_V E p l e R s m args below meth c nL (k + 1) (n + 3) Q (mz_nw G sz 1 0) (sz + 1) nx lv (.ref sz :: st)) : mz_V E p l e R s m args below meth c nL k n Q G sz pc lv st :=
  mz_Vnew hC hT hat 1 (C := RX1) (TT := TX1) (N := 3) (ty := tyX1) rfl (by omega) rfl ix_1 tyX1_ok hlk it_RX1 in_RX1 (fun G0 q h1 h2 h3 j hj => by
    rcases (show j = 0 ∨ j = 1 ∨ j = 2 by omega) with rfl | rfl | rfl
    · show Value.int 0 = .int (mz_i G0 q 0); rw [h1]
    · show Value.int 0 = .int (mz_i G0 q 1); rw [h1]
    · show Value.null = va_rf (mz_r G0 q 2); rw [h2]; rfl) hroom kk
theorem mz_Vnew2 (hC : mz_C E p s m args meth c cc own nL) (hT : mz_T cc T) {idx nx tg : Nat} (hat : mz_at T pc = some (.new idx, nx, tg)) (hlk : Cond.classLink own idx RX2 ∈ mz_ws) (hroom : k + 1 ≤ R.cells ∧ n + 3 ≤ R.slots) (kk : mz_V E p l e R s m args below meth c nL (k + 1) (n + 3) Q (mz_nw G sz 2 0) (sz + 1) nx lv (.ref sz :: st)) : mz_V E p l e R s m args below meth c nL k n Q G sz pc lv st :=
  mz_Vnew hC hT hat 2 (C := RX2) (TT := TX2) (N := 3) (ty := tyX2) rfl (by omega) rfl ix_2 tyX2_ok hlk it_RX2 in_RX2 (fun G0 q h1 h2 h3 j hj => by
    rcases (show j = 0 ∨ j = 1 ∨ j = 2 by omega) with rfl | rfl | rfl
    · show Value.int 0 = .int (mz_i G0 q 0); rw [h1]
    · show Value.null = va_rf (mz_r G0 q 1); rw [h2]; rfl
    · show Value.null = va_rf (mz_r G0 q 2); rw [h2]; rfl) hroom kk
theorem mz_Vnew3 (hC : mz_C E p s m args meth c cc own nL) (hT : mz_T cc T) {idx nx tg : Nat} (hat : mz_at T pc = some (.new idx, nx, tg)) (hlk : Cond.classLink own idx RX3 ∈ mz_ws) (hroom : k + 1 ≤ R.cells ∧ n + 5 ≤ R.slots) (kk : mz_V E p l e R s m args below meth c nL (k + 1) (n + 5) Q (mz_nw G sz 3 0) (sz + 1) nx lv (.ref sz :: st)) : mz_V E p l e R s m args below meth c nL k n Q G sz pc lv st :=
  mz_Vnew hC hT hat 3 (C := RX3) (TT := TX3) (N := 5) (ty := tyX3) rfl (by omega) rfl ix_3 tyX3_ok hlk it_RX3 in_RX3 (fun G0 q h1 h2 h3 j hj => by
    rcases (show j = 0 ∨ j = 1 ∨ j = 2 ∨ j = 3 ∨ j = 4 by omega) with rfl | rfl | rfl | rfl | rfl
    · show Value.null = va_rf (mz_r G0 q 0); rw [h2]; rfl
    · show Value.null = va_rf (mz_r G0 q 1); rw [h2]; rfl
    · show Value.null = va_rf (mz_r G0 q 2); rw [h2]; rfl
    · show Value.null = va_rf (mz_r G0 q 3); rw [h2]; rfl
    · show Value.int 0 = .int (mz_i G0 q 4); rw [h1]) hroom kk
end MZNA

