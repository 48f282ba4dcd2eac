/-! ===== one instruction: what reads and writes the heap ===== -/
/-- the field j of class ci, under the number idx of own's pool -/
def mz_tyk (t : Nat) (ty : FieldType) : Prop := match t with
  | 0 => ty = .int
  | 1 => (∃ C, ty = .object C) ∨ ∃ u, ty = .array u
  | _ => ty = .long
def mz_fok (own : String) (idx ci j : Nat) : Prop := ∃ (C : String) (T : u_T) (N : Nat) (ty : Nat → FieldType) (t : Nat), vwCl[ci]? = some (C, T, N) ∧ j < N ∧ ci < 7 ∧ (mz_ft ci).length = N ∧ (mz_ft ci)[j]? = some t ∧ (∀ w ∈ u_ws C T N, w ∈ mz_ws) ∧ (∀ k, k < N → parseFieldDescriptor (T k).2.2.1 = some (ty k)) ∧ (∀ a, a < N → ∀ b, b < N → a ≠ b → (T a).2.1 ≠ (T b).2.1) ∧ mz_tyk t (ty j) ∧ (T j).1 = C ∧
  (Cond.fieldLink own idx C (T j).2.1 (T j).2.2.1 ∈ mz_ws ∨ (own, idx, C, (T j).2.1, (T j).2.2.1) ∈ mz_nF)
def mz_fin (ci j : Nat) : Bool := match vwCl[ci]? with
  | some q => (q.2.1 j).2.2.2
  | none => true
theorem mz_i_si {G : mz_G} {a j : Nat} {v : Int32} : mz_i (mz_si G a j v) = mz_u2 (mz_i G) a j v := rfl
theorem mz_r_sr {G : mz_G} {a j : Nat} {v : Option Nat} : mz_r (mz_sr G a j v) = mz_u2 (mz_r G) a j v := rfl
theorem mz_l_sl {G : mz_G} {a j : Nat} {v : Int64} : mz_l (mz_sl G a j v) = mz_u2 (mz_l G) a j v := rfl
section MZH
variable {E : mz_E} {p : Program} {l : Launch} {e : Env} {R : Room} {s : State} {m : MethodId} {args : Array Value} {below : List Frame} {meth : Method} {c : Code} {cc : ByteArray} {own : String} {nL k n : Nat} {Q : State → Prop} {G : mz_G} {sz pc : Nat} {lv : List (Option Value)} {st : List Value}
theorem mz_Vget (hC : mz_C E p s m args meth c cc own nL) {idx ci j t a nx tg : Nat} (hr : mz_rok cc (pc, .getfield idx, nx, tg)) (hf : mz_fok own idx ci j) (hK : mz_K G a = ci) (ht : (mz_ft ci)[j]? = some t) (kk : mz_V E p l e R s m args below meth c nL k n Q G sz nx lv (mz_fv G a t j :: st)) : mz_V E p l e R s m args below meth c nL k n Q G sz pc lv (.ref a :: st) := by
  obtain ⟨hx, hb, -, hown, hts, -, hEF⟩ := hC
  obtain ⟨hd, rfl⟩ := mz_dec 2 hr rfl
  obtain ⟨C, T, N, ty, t', hc, hj, hci, hln, ht', hin, hty, hnm, htk, hTC, hlk⟩ := hf
  intro H locs ls h1 h2 h3 h4
  have hP : va_P E.1 vwCl [(a, .inr (ci, mz_fs G a 0 (mz_ft ci)))] H := fun k q hk => by
    cases k with
    | zero => simp at hk; subst hk; exact (h1 a _ (mz_cel_ob hK hci)).2
    | succ k => simp at hk
  have hv := mz_fs_get G a (mz_ft ci) 0 j t ht
  rw [Nat.zero_add] at hv
  have kw := kk H locs ls h1 h2 h3 h4
  rcases hlk with hlk | hlk
  · exact va_get (D := E.1) hx hb hts hin hown hEF.1 hP 0 rfl hc j hj (hts _ hlk) (fun x hx => by rw [hTC] at hx; exact hx) hv hd kw
  · exact va_getN (D := E.1) hx hb hts hin hown hEF.1 hP 0 rfl hc j hj ((hEF.2.2.2.2.2.1 _ hlk).use rfl) (fun x hx => by rw [hTC] at hx; exact hx) hv hd kw
/-- a field is written -/
theorem mz_Vput0 (hC : mz_C E p s m args meth c cc own nL) {idx ci j t a nx tg : Nat} {v : Value} {G' : mz_G} (hr : mz_rok cc (pc, .putfield idx, nx, tg)) (hf : mz_fok own idx ci j) (hK : mz_K G a = ci) (ht : (mz_ft ci)[j]? = some t) (hfin : mz_fin ci j = false)
    (hval : ∀ u, mz_tyk t u → narrow u v = v ∧ fits u v = true) (ho : ∀ q, q ≠ a → mz_cel E G' q = mz_cel E G q) (hK' : mz_K G' a = ci) (hfs : mz_fs G' a 0 (mz_ft ci) = (mz_fs G a 0 (mz_ft ci)).set j v)
    (kk : mz_V E p l e R s m args below meth c nL k n Q G' sz nx lv st) : mz_V E p l e R s m args below meth c nL k n Q G sz pc lv (v :: .ref a :: st) := by
  obtain ⟨hx, hb, -, hown, hts, -, hEF⟩ := hC
  obtain ⟨hd, rfl⟩ := mz_dec 2 hr rfl
  obtain ⟨C, T, N, ty, t', hc, hj, hci, hln, ht', hin, hty, hnm, htk, hTC, hlk⟩ := hf
  have htt : t' = t := Option.some.inj (ht'.symm.trans ht)
  subst htt
  obtain ⟨hnar, hfit⟩ := hval _ htk
  have hfin' : (T j).2.2.2 = false := by
    unfold mz_fin at hfin
    rw [hc] at hfin
    exact hfin
  intro H locs ls h1 h2 h3 h4
  obtain ⟨hA, hat⟩ := h1 a _ (mz_cel_ob hK hci)
  have hap := va_apart (own := own) (D := E.1) hts hin ty hty hnm hEF.1 hc
  obtain ⟨r, g1, cell, q1, q2, q3, q4⟩ := hat
  have hr0 : r = (C, T, N) := Option.some.inj (g1.symm.trans hc)
  subst hr0
  obtain ⟨hS, hfc, kC, hkC, hkind⟩ := hEF.1.1 ci _ hc
  obtain ⟨cf, kf, fi, f, hi, hsl⟩ := hS j hj
  have hlay := hts _ (hin _ (u_in_lay hj))
  unfold u_lay at hlay
  rw [if_neg (by rw [hfin']; decide)] at hlay
  have hst := (u_facts hfc hkC (u_lays hts hin hj) hi).1
  have h6 := u_store hfc hkC hkind hlay hi (hty j hj) hnar hfit
  have hl : j < (mz_fs G a 0 (mz_ft ci)).length := by rw [mz_fs_len, hln]; exact hj
  have fin : ∀ H' : Heap, H'[a]? = some (cell.setSlot f.slot v) → H'.size = H.size → (∀ q, q ≠ a → H'[q]? = H[q]?) → W p l e R s m args below meth c H' (locs ++ [⟨a, f.slot⟩]) k n Q (F0 m (pc + 3) ls st) := by
    intro H' e1 e2 e3
    rw [hsl] at e1 ⊢
    refine kk H' _ ls (h1.upd ho (fun q _ hq => e3 q hq) (fun x hx => ?_)) (by rw [e2]; exact h2) (h3.put e2 e3 hA) h4
    rw [mz_cel_ob hK' hci] at hx
    cases hx
    refine ⟨hA, _, hc, ?_⟩
    rw [hfs]
    exact t_OB.to (V := updV (vp_V (mz_fs G a 0 (mz_ft ci))) j v) ⟨_, e1, q2, q3, t_set q4 hap hj v⟩ (fun i _ => vp_updV_set hl v i)
  have hi' : s.fieldFound? C (T j).2.1 (T j).2.2.1 = some (cf, kf, fi, f) := by rw [hTC] at hi; exact hi
  rcases hlk with hlk | hlk
  · exact W.putK hx hb (f := f) ⟨hown, hts _ hlk, ⟨_, _, _, hi'⟩, hst⟩ (by rw [q2]; exact h6) q1 q3 (by rw [hsl]; exact k2_hasslot (q4 j hj)) rfl rfl hd fin
  · exact va_WputK hx hb (f := f) hown ((hEF.2.2.2.2.2.1 _ hlk).use rfl) hi' hst (by rw [q2]; exact h6) q1 q3 (by rw [hsl]; exact k2_hasslot (q4 j hj)) rfl rfl hd fin
/-- a final field is written, in a constructor -/
theorem mz_VputF0 (hC : mz_C E p s m args meth c cc own nL) (hin2 : meth.name = "<init>") {idx ci j t a nx tg : Nat} {v : Value} {G' : mz_G} (hr : mz_rok cc (pc, .putfield idx, nx, tg)) (hf : mz_fok own idx ci j) (hK : mz_K G a = ci) (ht : (mz_ft ci)[j]? = some t) (hfin : mz_fin ci j = true) (hoc : (vwCl[ci]?).map (fun q => q.1) = some own) (hlk0 : ∀ C T N, vwCl[ci]? = some (C, T, N) → Cond.fieldLink own idx C (T j).2.1 (T j).2.2.1 ∈ mz_ws)
    (hval : ∀ u, mz_tyk t u → narrow u v = v ∧ fits u v = true) (ho : ∀ q, q ≠ a → mz_cel E G' q = mz_cel E G q) (hK' : mz_K G' a = ci) (hfs : mz_fs G' a 0 (mz_ft ci) = (mz_fs G a 0 (mz_ft ci)).set j v)
    (kk : mz_V E p l e R s m args below meth c nL k n Q G' sz nx lv st) : mz_V E p l e R s m args below meth c nL k n Q G sz pc lv (v :: .ref a :: st) := by
  obtain ⟨hx, hb, -, hown, hts, -, hEF⟩ := hC
  obtain ⟨hd, rfl⟩ := mz_dec 2 hr rfl
  obtain ⟨C, T, N, ty, t', hc, hj, hci, hln, ht', hin, hty, hnm, htk, hTC, hlk⟩ := hf
  have htt : t' = t := Option.some.inj (ht'.symm.trans ht)
  subst htt
  obtain ⟨hnar, hfit⟩ := hval _ htk
  have hfin' : (T j).2.2.2 = true := by
    unfold mz_fin at hfin
    rw [hc] at hfin
    exact hfin
  have hCo : C = own := by rw [hc] at hoc; exact Option.some.inj hoc
  intro H locs ls h1 h2 h3 h4
  obtain ⟨hA, hat⟩ := h1 a _ (mz_cel_ob hK hci)
  have hap := va_apart (own := own) (D := E.1) hts hin ty hty hnm hEF.1 hc
  obtain ⟨r, g1, cell, q1, q2, q3, q4⟩ := hat
  have hr0 : r = (C, T, N) := Option.some.inj (g1.symm.trans hc)
  subst hr0
  obtain ⟨hS, hfc, kC, hkC, hkind⟩ := hEF.1.1 ci _ hc
  obtain ⟨cf, kf, fi, f, hi, hsl⟩ := hS j hj
  have hlay := hts _ (hin _ (u_in_lay hj))
  unfold u_lay at hlay
  rw [if_pos hfin'] at hlay
  have hst := (u_facts hfc hkC (u_lays hts hin hj) hi).1
  have hcf : m.cls = cf := by
    obtain ⟨_, _, c', _, _, _, -, -, hf', -, -, -, hown2, -⟩ := Cond.laysFinal_spec hlay
    have e1 : c' = cf := by have := hi.symm.trans hf'; simp at this; exact this.1.symm
    rw [hTC, hCo] at hown2
    rw [← e1]; exact Option.some.inj (hown.symm.trans hown2)
  have h6 := u_fits hfc hkC hkind (Or.inr hlay) hi (hty j hj) hnar hfit
  have hl : j < (mz_fs G a 0 (mz_ft ci)).length := by rw [mz_fs_len, hln]; exact hj
  have hi' : s.fieldFound? C (T j).2.1 (T j).2.2.1 = some (cf, kf, fi, f) := by rw [hTC] at hi; exact hi
  refine W.putFinK hx hb hown (hts _ (hlk0 C T N hc)) hi' hst hcf hin2 (by rw [q2]; exact h6) q1 q3 (by rw [hsl]; exact k2_hasslot (q4 j hj)) rfl rfl hd fun H' e1 e2 e3 => ?_
  rw [hsl] at e1 ⊢
  refine kk H' _ ls (h1.upd ho (fun q _ hq => e3 q hq) (fun x hx => ?_)) (by rw [e2]; exact h2) (h3.put e2 e3 hA) h4
  rw [mz_cel_ob hK' hci] at hx
  cases hx
  refine ⟨hA, _, hc, ?_⟩
  rw [hfs]
  exact t_OB.to (V := updV (vp_V (mz_fs G a 0 (mz_ft ci))) j v) ⟨_, e1, q2, q3, t_set q4 hap hj v⟩ (fun i _ => vp_updV_set hl v i)
theorem mz_fs_si {G : mz_G} {a j ci : Nat} {v : Int32} (ht : (mz_ft ci)[j]? = some 0) : mz_fs (mz_si G a j v) a 0 (mz_ft ci) = (mz_fs G a 0 (mz_ft ci)).set j (.int v) := by
  refine mz_fs_set G _ a j _ (fun t i hi => ?_) (mz_ft ci) 0 j 0 ht (by omega) ?_
  · unfold mz_fv
    rw [mz_i_si, mz_u2_j _ _ _ _ hi]
    rfl
  · simp only [mz_fv, mz_i_si, mz_u2_s]
theorem mz_fs_sr {G : mz_G} {a j ci b : Nat} (ht : (mz_ft ci)[j]? = some 1) : mz_fs (mz_sr G a j (some b)) a 0 (mz_ft ci) = (mz_fs G a 0 (mz_ft ci)).set j (.ref b) := by
  refine mz_fs_set G _ a j _ (fun t i hi => ?_) (mz_ft ci) 0 j 1 ht (by omega) ?_
  · unfold mz_fv
    rw [mz_r_sr, mz_u2_j _ _ _ _ hi]
    rfl
  · simp only [mz_fv, mz_r_sr, mz_u2_s]
    rfl
theorem mz_fs_sl {G : mz_G} {a j ci : Nat} {v : Int64} (ht : (mz_ft ci)[j]? = some 2) : mz_fs (mz_sl G a j v) a 0 (mz_ft ci) = (mz_fs G a 0 (mz_ft ci)).set j (.long v) := by
  refine mz_fs_set G _ a j _ (fun t i hi => ?_) (mz_ft ci) 0 j 2 ht (by omega) ?_
  · unfold mz_fv
    rw [mz_l_sl, mz_u2_j _ _ _ _ hi]
    rfl
  · simp only [mz_fv, mz_l_sl, mz_u2_s]
theorem mz_vali (x : Int32) : ∀ u, mz_tyk 0 u → narrow u (.int x) = .int x ∧ fits u (.int x) = true := by
  intro u hu
  have : u = .int := hu
  subst this
  exact ⟨rfl, rfl⟩
theorem mz_valr (b : Nat) : ∀ u, mz_tyk 1 u → narrow u (.ref b) = .ref b ∧ fits u (.ref b) = true := by
  intro u hu
  rcases (show (∃ C, u = .object C) ∨ ∃ w, u = .array w from hu) with ⟨C, rfl⟩ | ⟨w, rfl⟩
  · exact ⟨rfl, rfl⟩
  · exact ⟨rfl, rfl⟩
theorem mz_vall (x : Int64) : ∀ u, mz_tyk 2 u → narrow u (.long x) = .long x ∧ fits u (.long x) = true := by
  intro u hu
  have : u = .long := hu
  subst this
  exact ⟨rfl, rfl⟩
theorem mz_Pof {a : Nat} {x : va_E} {H : Heap} (h : va_at E.1 vwCl (a, x) H) : va_P E.1 vwCl [(a, x)] H := fun k q hk => by
  cases k with
  | zero => simp at hk; subst hk; exact h
  | succ k => simp at hk
theorem mz_idx {x : Int32} {j N : Nat} (hx : x = nI j) (hj : j < N) (hN : N < 2147483648) : vp_in x N ∧ x.toNatClampNeg = j := by
  subst hx
  exact ⟨vp_in_nI hj (by omega), nI_clamp (by omega)⟩
theorem mz_Vialoa (hC : mz_C E p s m args meth c cc own nL) {a j nx tg : Nat} {x : Int32} (hr : mz_rok cc (pc, .iaload, nx, tg)) (hK : mz_K G a = 7) (hx0 : x = nI j) (hj : j < mz_n G a) (hN : mz_n G a < 2147483648) (kk : mz_V E p l e R s m args below meth c nL k n Q G sz nx lv (.int (mz_i G a j) :: st)) : mz_V E p l e R s m args below meth c nL k n Q G sz pc lv (.int x :: .ref a :: st) := by
  obtain ⟨hx, hb, -, hown, hts, -, hEF⟩ := hC
  obtain ⟨hd, rfl⟩ := mz_dec 0 hr rfl
  obtain ⟨i1, i2⟩ := mz_idx hx0 hj hN
  intro H locs ls h1 h2 h3 h4
  refine va_iald (D := E.1) hx hb hEF.1 (mz_Pof (h1 a _ (mz_cel_ia hK)).2) 0 0 rfl rfl i1 hd ?_
  rw [i2]
  exact kk H locs ls h1 h2 h3 h4
theorem mz_Vlaloa (hC : mz_C E p s m args meth c cc own nL) {a j nx tg : Nat} {x : Int32} (hr : mz_rok cc (pc, .laload, nx, tg)) (hK : mz_K G a = 12) (hx0 : x = nI j) (hj : j < mz_n G a) (hN : mz_n G a < 2147483648) (kk : mz_V E p l e R s m args below meth c nL k n Q G sz nx lv (.long (mz_l G a j) :: st)) : mz_V E p l e R s m args below meth c nL k n Q G sz pc lv (.int x :: .ref a :: st) := by
  obtain ⟨hx, hb, -, hown, hts, -, hEF⟩ := hC
  obtain ⟨hd, rfl⟩ := mz_dec 0 hr rfl
  obtain ⟨i1, i2⟩ := mz_idx hx0 hj hN
  intro H locs ls h1 h2 h3 h4
  refine va_lald (D := E.1) hx hb hEF.1 (mz_Pof (h1 a _ (mz_cel_la hK)).2) 0 5 rfl rfl i1 hd ?_
  rw [i2]
  exact kk H locs ls h1 h2 h3 h4
theorem mz_Vaaloa (hC : mz_C E p s m args meth c cc own nL) {a j b nx tg : Nat} {x : Int32} (hr : mz_rok cc (pc, .aaload, nx, tg)) (h8 : 8 ≤ mz_K G a) (h12 : mz_K G a < 12) (hx0 : x = nI j) (hj : j < mz_n G a) (hN : mz_n G a < 2147483648) (hv : mz_r G a j = some b) (kk : mz_V E p l e R s m args below meth c nL k n Q G sz nx lv (.ref b :: st)) : mz_V E p l e R s m args below meth c nL k n Q G sz pc lv (.int x :: .ref a :: st) := by
  obtain ⟨hx, hb, -, hown, hts, -, hEF⟩ := hC
  obtain ⟨hd, rfl⟩ := mz_dec 0 hr rfl
  obtain ⟨i1, i2⟩ := mz_idx hx0 hj hN
  intro H locs ls h1 h2 h3 h4
  have hP := mz_Pof (h1 a _ (mz_cel_ra rfl h8 h12)).2
  have kw := kk H locs ls h1 h2 h3 h4
  have key : ∀ (t0 : Nat) (C : String), (mz_tys E)[t0]? = some (E.2.1 (mz_K G a), .object C) → W p l e R s m args below meth c H locs k n Q (F0 m pc ls (.int x :: .ref a :: st)) := by
    intro t0 C ht
    refine va_aldq (D := E.1) hx hb hEF.1 hP 0 t0 rfl ht i1 hd ?_
    rw [i2, hv]
    exact kw
  rcases (show mz_K G a = 8 ∨ mz_K G a = 9 ∨ mz_K G a = 10 ∨ mz_K G a = 11 by omega) with h | h | h | h
  · exact key 1 RX0 (by rw [h]; rfl)
  · exact key 2 RX1 (by rw [h]; rfl)
  · exact key 3 RX2 (by rw [h]; rfl)
  · exact key 4 RX3 (by rw [h]; rfl)
theorem mz_Valen (hC : mz_C E p s m args meth c cc own nL) {a nx tg : Nat} (hr : mz_rok cc (pc, .arraylength, nx, tg)) (hK : mz_K G a = 7) (kk : mz_V E p l e R s m args below meth c nL k n Q G sz nx lv (.int (nI (mz_n G a)) :: st)) : mz_V E p l e R s m args below meth c nL k n Q G sz pc lv (.ref a :: st) := by
  obtain ⟨hx, hb, -, hown, hts, -, hEF⟩ := hC
  obtain ⟨hd, rfl⟩ := mz_dec 0 hr rfl
  intro H locs ls h1 h2 h3 h4
  exact va_alen (D := E.1) hx hb hEF.1 (mz_Pof (h1 a _ (mz_cel_ia hK)).2) 0 0 rfl rfl rfl hd (kk H locs ls h1 h2 h3 h4)
theorem mz_arrs {f : Nat → Value} {g : Nat → Value} {cA : ClassId} {N j : Nat} {v : Value} (hg : ∀ i, g i = if i = j then v else f i) : (arrV cA N f).setSlot j v = arrV cA N g := by
  rw [arrV_store]
  congr 1
  funext q
  rw [hg q]
  by_cases hq : q = j
  · subst hq; simp [updV]
  · simp [updV, hq]
theorem mz_Viast (hC : mz_C E p s m args meth c cc own nL) {a j nx tg : Nat} {x y : Int32} (hr : mz_rok cc (pc, .iastore, nx, tg)) (hK : mz_K G a = 7) (hx0 : x = nI j) (hj : j < mz_n G a) (hN : mz_n G a < 2147483648) (kk : mz_V E p l e R s m args below meth c nL k n Q (mz_si G a j y) sz nx lv st) : mz_V E p l e R s m args below meth c nL k n Q G sz pc lv (.int y :: .int x :: .ref a :: st) := by
  obtain ⟨hx, hb, -, hown, hts, -, hEF⟩ := hC
  obtain ⟨hd, rfl⟩ := mz_dec 0 hr rfl
  obtain ⟨i1, i2⟩ := mz_idx hx0 hj hN
  intro H locs ls h1 h2 h3 h4
  obtain ⟨hA, hat⟩ := h1 a _ (mz_cel_ia hK)
  refine W.iast hx hb hat ((hEF.1.2 0 _ rfl).1 (mz_n G a) (fun q => .int (mz_i G a q))) (fun q => by cases q) (by show ¬ (x < 0 ∨ (arrV _ _ _).slots.size ≤ _); rw [arrV_size]; exact i1) rfl rfl hd fun H1 e1 e2 e3 => ?_
  refine kk H1 _ ls (h1.upd (mz_si_o) (fun q _ hq => e3 q hq) (fun z hz => ?_)) (by rw [e2]; exact h2) (h3.put e2 e3 hA) h4
  rw [mz_cel_ia (G := mz_si G a j y) (by exact hK)] at hz
  cases hz
  refine ⟨hA, ?_⟩
  show H1[a]? = some (vp_cell _ _)
  rw [e1, i2]
  show some ((arrV (E.2.1 7) (mz_n G a) (fun q => .int (mz_i G a q))).setSlot j (.int y)) = some (arrV (E.2.1 7) (mz_n G a) (fun q => .int (mz_u2 (mz_i G) a j y a q)))
  refine congrArg some (mz_arrs fun i => ?_)
  by_cases hi : i = j
  · subst hi; simp [mz_u2]
  · simp [mz_u2, hi]
theorem mz_Vlast (hC : mz_C E p s m args meth c cc own nL) {a j nx tg : Nat} {x : Int32} {y : Int64} (hr : mz_rok cc (pc, .lastore, nx, tg)) (hK : mz_K G a = 12) (hx0 : x = nI j) (hj : j < mz_n G a) (hN : mz_n G a < 2147483648) (kk : mz_V E p l e R s m args below meth c nL k n Q (mz_sl G a j y) sz nx lv st) : mz_V E p l e R s m args below meth c nL k n Q G sz pc lv (.long y :: .int x :: .ref a :: st) := by
  obtain ⟨hx, hb, -, hown, hts, -, hEF⟩ := hC
  obtain ⟨hd, rfl⟩ := mz_dec 0 hr rfl
  obtain ⟨i1, i2⟩ := mz_idx hx0 hj hN
  intro H locs ls h1 h2 h3 h4
  obtain ⟨hA, hat⟩ := h1 a _ (mz_cel_la hK)
  refine W.last hx hb hat ((hEF.1.2 5 _ rfl).1 (mz_n G a) (fun q => .long (mz_l G a q))) (fun q => by cases q) (by show ¬ (x < 0 ∨ (arrV _ _ _).slots.size ≤ _); rw [arrV_size]; exact i1) rfl rfl hd fun H1 e1 e2 e3 => ?_
  refine kk H1 _ ls (h1.upd (mz_sl_o) (fun q _ hq => e3 q hq) (fun z hz => ?_)) (by rw [e2]; exact h2) (h3.put e2 e3 hA) h4
  rw [mz_cel_la (G := mz_sl G a j y) (by exact hK)] at hz
  cases hz
  refine ⟨hA, ?_⟩
  show H1[a]? = some (vp_cell _ _)
  rw [e1, i2]
  show some ((arrV (E.2.1 12) (mz_n G a) (fun q => .long (mz_l G a q))).setSlot j (.long y)) = some (arrV (E.2.1 12) (mz_n G a) (fun q => .long (mz_u2 (mz_l G) a j y a q)))
  refine congrArg some (mz_arrs fun i => ?_)
  by_cases hi : i = j
  · subst hi; simp [mz_u2]
  · simp [mz_u2, hi]
theorem mz_Vaast (hC : mz_C E p s m args meth c cc own nL) {a j b nx tg : Nat} {x : Int32} (hr : mz_rok cc (pc, .aastore, nx, tg)) (hKb : mz_K G b < 4) (hK : mz_K G a = 8 + mz_K G b) (hx0 : x = nI j) (hj : j < mz_n G a) (hN : mz_n G a < 2147483648) (kk : mz_V E p l e R s m args below meth c nL k n Q (mz_sr G a j (some b)) sz nx lv st) : mz_V E p l e R s m args below meth c nL k n Q G sz pc lv (.ref b :: .int x :: .ref a :: st) := by
  obtain ⟨hx, hb, -, hown, hts, -, hEF⟩ := hC
  obtain ⟨hd, rfl⟩ := mz_dec 0 hr rfl
  obtain ⟨i1, i2⟩ := mz_idx hx0 hj hN
  intro H locs ls h1 h2 h3 h4
  obtain ⟨hA, hat⟩ := h1 a _ (mz_cel_ra rfl (by omega) (by omega))
  obtain ⟨-, hbt⟩ := h1 b _ (mz_cel_ob rfl (by omega))
  have h0 : ¬ x < 0 := fun q => i1 (Or.inl q)
  have hlt : x.toNatClampNeg < mz_n G a := by rw [i2]; exact hj
  obtain ⟨r', hr', cellV, g1, g2, g3, -⟩ := hbt
  have key : ∀ (t0 : Nat) (r : vw_C), (mz_tys E)[t0]? = some (E.2.1 (mz_K G a), .object r.1) → vwCl[mz_K G b]? = some r → W p l e R s m args below meth c H locs k n Q (F0 m pc ls (.ref b :: .int x :: .ref a :: st)) := by
    intro t0 r ht hc
    have hcls := (hEF.1.1 _ r hc).2
    obtain ⟨kA, comp, k1, k2, k3, -⟩ := (hEF.1.2 t0 _ ht).2
    have hcomp : comp = E.1.1 (mz_K G b) := Option.some.inj (k3.symm.trans hcls.1)
    subst hcomp
    obtain ⟨kC, hkC, -⟩ := hcls.2
    refine W.aast hx hb hat (fun q h => by cases h) (fun h => by cases h) k1 k2 rfl hkC ⟨h0, by show _ < (arrV _ _ _).slots.size; rw [arrV_size]; exact hlt⟩ g1 (fun q h => by rw [g3] at h; cases h) (by rw [g2]; exact hkC) (by rw [g2]; exact va_assign hcls) rfl rfl hd fun H1 e1 e2 e3 => ?_
    refine kk H1 _ ls (h1.upd (mz_sr_o) (fun q _ hq => e3 q hq) (fun z hz => ?_)) (by rw [e2]; exact h2) (h3.put e2 e3 hA) h4
    rw [mz_cel_ra (G := mz_sr G a j (some b)) (k := mz_K G a) rfl (by omega) (by omega)] at hz
    cases hz
    refine ⟨hA, ?_⟩
    show H1[a]? = some (vp_cell _ _)
    rw [e1, i2]
    show some ((arrV (E.2.1 (mz_K G a)) (mz_n G a) (fun q => va_rf (mz_r G a q))).setSlot j (.ref b)) = some (arrV (E.2.1 (mz_K G a)) (mz_n G a) (fun q => va_rf (mz_u2 (mz_r G) a j (some b) a q)))
    refine congrArg some (mz_arrs fun i => ?_)
    by_cases hi : i = j
    · subst hi; simp [mz_u2, va_rf]
    · simp [mz_u2, hi]
  rcases (show mz_K G b = 0 ∨ mz_K G b = 1 ∨ mz_K G b = 2 ∨ mz_K G b = 3 by omega) with h | h | h | h
  · exact key 1 (RX0, TX0, 6) (by rw [hK, h]; rfl) (by rw [h]; rfl)
  · exact key 2 (RX1, TX1, 3) (by rw [hK, h]; rfl) (by rw [h]; rfl)
  · exact key 3 (RX2, TX2, 3) (by rw [hK, h]; rfl) (by rw [h]; rfl)
  · exact key 4 (RX3, TX3, 5) (by rw [hK, h]; rfl) (by rw [h]; rfl)
end MZH
