/-! ===== several instructions at once: mz_st one, mz_sn many; side conditions are collected; numbers of cells and places read are named ahead (o) ===== -/
/-- pools: fields (idx, class, field), ints, longs -/
abbrev mz_P : Type := List (Nat × Nat × Nat) × List (Nat × Int32) × List (Nat × Int64)
def mz_Pok (own : String) (P : mz_P) : Prop := (∀ q ∈ P.1, mz_fok own q.1 q.2.1 q.2.2) ∧ (∀ q ∈ P.2.1, Cond.constant own q.1 q.2 ∈ mz_ws) ∧ ∀ q ∈ P.2.2, Cond.constantLong own q.1 q.2 ∈ mz_ws
def mz_lu {β : Type} : List (Nat × β) → Nat → Option β
  | [], _ => none
  | (a, x) :: r, i => match Nat.beq a i with
    | true => some x
    | false => mz_lu r i
theorem mz_lu_mem {β : Type} : ∀ (L : List (Nat × β)) (i : Nat) (x : β), mz_lu L i = some x → (i, x) ∈ L
  | [], i, x, h => by simp [mz_lu] at h
  | (a, y) :: r, i, x, h => by
    simp only [mz_lu] at h
    split at h
    · rename_i hb
      cases h
      rw [Nat.eq_of_beq_eq_true hb]
      exact List.mem_cons_self
    · exact List.mem_cons_of_mem _ (mz_lu_mem r i x h)
abbrev mz_S : Type := List Nat × List Prop × Nat × List (Option Value) × List Value × mz_G
def mz_hd {β : Type} (o : List Nat) (f : Nat → List Nat → Option β) : Option β := match o with
  | a :: r => f a r
  | [] => none
theorem mz_hd_o {β : Type} {o : List Nat} {f : Nat → List Nat → Option β} {b : β} (h : mz_hd o f = some b) : ∃ a r, o = a :: r ∧ f a r = some b := by
  unfold mz_hd at h; split at h
  · exact ⟨_, _, rfl, h⟩
  · cases h
/-- an index and its array; a value, an index, an array -/
def mz_ra {β : Type} (st : List Value) (f : Int32 → Nat → List Value → Option β) : Option β := match st with
  | .int x :: .ref a :: r => f x a r
  | _ => none
def mz_wi {β : Type} (st : List Value) (f : Int32 → Int32 → Nat → List Value → Option β) : Option β := match st with
  | .int y :: .int x :: .ref a :: r => f y x a r
  | _ => none
def mz_wl {β : Type} (st : List Value) (f : Int64 → Int32 → Nat → List Value → Option β) : Option β := match st with
  | .long y :: .int x :: .ref a :: r => f y x a r
  | _ => none
def mz_wr {β : Type} (st : List Value) (f : Nat → Int32 → Nat → List Value → Option β) : Option β := match st with
  | .ref y :: .int x :: .ref a :: r => f y x a r
  | _ => none
def mz_pi {β : Type} (st : List Value) (f : Int32 → Nat → List Value → Option β) : Option β := match st with
  | .int y :: .ref a :: r => f y a r
  | _ => none
def mz_pr {β : Type} (st : List Value) (f : Nat → Nat → List Value → Option β) : Option β := match st with
  | .ref y :: .ref a :: r => f y a r
  | _ => none
def mz_pl {β : Type} (st : List Value) (f : Int64 → Nat → List Value → Option β) : Option β := match st with
  | .long y :: .ref a :: r => f y a r
  | _ => none
theorem mz_ra_o {β : Type} {st : List Value} {f : Int32 → Nat → List Value → Option β} {b : β} (h : mz_ra st f = some b) : ∃ x a r, st = .int x :: .ref a :: r ∧ f x a r = some b := by
  unfold mz_ra at h; split at h
  · exact ⟨_, _, _, rfl, h⟩
  · cases h
theorem mz_wi_o {β : Type} {st : List Value} {f : Int32 → Int32 → Nat → List Value → Option β} {b : β} (h : mz_wi st f = some b) : ∃ y x a r, st = .int y :: .int x :: .ref a :: r ∧ f y x a r = some b := by
  unfold mz_wi at h; split at h
  · exact ⟨_, _, _, _, rfl, h⟩
  · cases h
theorem mz_wl_o {β : Type} {st : List Value} {f : Int64 → Int32 → Nat → List Value → Option β} {b : β} (h : mz_wl st f = some b) : ∃ y x a r, st = .long y :: .int x :: .ref a :: r ∧ f y x a r = some b := by
  unfold mz_wl at h; split at h
  · exact ⟨_, _, _, _, rfl, h⟩
  · cases h
theorem mz_wr_o {β : Type} {st : List Value} {f : Nat → Int32 → Nat → List Value → Option β} {b : β} (h : mz_wr st f = some b) : ∃ y x a r, st = .ref y :: .int x :: .ref a :: r ∧ f y x a r = some b := by
  unfold mz_wr at h; split at h
  · exact ⟨_, _, _, _, rfl, h⟩
  · cases h
theorem mz_pi_o {β : Type} {st : List Value} {f : Int32 → Nat → List Value → Option β} {b : β} (h : mz_pi st f = some b) : ∃ y a r, st = .int y :: .ref a :: r ∧ f y a r = some b := by
  unfold mz_pi at h; split at h
  · exact ⟨_, _, _, rfl, h⟩
  · cases h
theorem mz_pr_o {β : Type} {st : List Value} {f : Nat → Nat → List Value → Option β} {b : β} (h : mz_pr st f = some b) : ∃ y a r, st = .ref y :: .ref a :: r ∧ f y a r = some b := by
  unfold mz_pr at h; split at h
  · exact ⟨_, _, _, rfl, h⟩
  · cases h
theorem mz_pl_o {β : Type} {st : List Value} {f : Int64 → Nat → List Value → Option β} {b : β} (h : mz_pl st f = some b) : ∃ y a r, st = .long y :: .ref a :: r ∧ f y a r = some b := by
  unfold mz_pl at h; split at h
  · exact ⟨_, _, _, rfl, h⟩
  · cases h
/-- the value that a field's read pushes: a reference's address is named -/
def mz_rd (o : List Nat) (G : mz_G) (a t j ci : Nat) (f : List Nat → List Prop → Value → Option mz_S) : Option mz_S := match t with
  | 0 => f o [mz_K G a = ci] (.int (mz_i G a j))
  | 1 => mz_hd o fun b o' => f o' [mz_K G a = ci, mz_r G a j = some b] (.ref b)
  | _ => f o [mz_K G a = ci] (.long (mz_l G a j))
def mz_wt (G : mz_G) (ci j t : Nat) (st : List Value) (f : List Prop → List Value → mz_G → Option mz_S) : Option mz_S := match t with
  | 0 => mz_pi st fun y a r => f [mz_K G a = ci] r (mz_si G a j y)
  | 1 => mz_pr st fun y a r => f [mz_K G a = ci] r (mz_sr G a j (some y))
  | _ => mz_pl st fun y a r => f [mz_K G a = ci] r (mz_sl G a j y)
def mz_st (T : List mz_R) (P : mz_P) (nL : Nat) (o : List Nat) (pc : Nat) (lv : List (Option Value)) (st : List Value) (G : mz_G) : Option mz_S := match mz_at T pc with
  | none => none
  | some (ins, nx, tg) => match ins with
    | .getfield i => match mz_lu P.1 i with
      | none => none
      | some (ci, j) => match (mz_ft ci)[j]? with
        | none => none
        | some t => mz_s1r st fun a r => mz_rd o G a t j ci fun o' ps v => some (o', ps, nx, lv, v :: r, G)
    | .putfield i => match mz_lu P.1 i with
      | none => none
      | some (ci, j) => match mz_fin ci j with
        | true => none
        | false => match (mz_ft ci)[j]? with
          | none => none
          | some t => mz_wt G ci j t st fun ps r G' => some (o, ps, nx, lv, r, G')
    | .ldc i => match mz_lu P.2.1 i with
      | none => none
      | some v => some (o, [], nx, lv, .int v :: st, G)
    | .ldc_w i => match mz_lu P.2.1 i with
      | none => none
      | some v => some (o, [], nx, lv, .int v :: st, G)
    | .ldc2_w i => match mz_lu P.2.2 i with
      | none => none
      | some v => some (o, [], nx, lv, .long v :: st, G)
    | .iaload => mz_ra st fun x a r => mz_hd o fun j o' => some (o', [mz_K G a = 7, x = nI j, j < mz_n G a, mz_n G a < 2147483648], nx, lv, .int (mz_i G a j) :: r, G)
    | .laload => mz_ra st fun x a r => mz_hd o fun j o' => some (o', [mz_K G a = 12, x = nI j, j < mz_n G a, mz_n G a < 2147483648], nx, lv, .long (mz_l G a j) :: r, G)
    | .aaload => mz_ra st fun x a r => mz_hd o fun j o' => mz_hd o' fun b o'' => some (o'', [8 ≤ mz_K G a, mz_K G a < 12, x = nI j, j < mz_n G a, mz_n G a < 2147483648, mz_r G a j = some b], nx, lv, .ref b :: r, G)
    | .iastore => mz_wi st fun y x a r => mz_hd o fun j o' => some (o', [mz_K G a = 7, x = nI j, j < mz_n G a, mz_n G a < 2147483648], nx, lv, r, mz_si G a j y)
    | .lastore => mz_wl st fun y x a r => mz_hd o fun j o' => some (o', [mz_K G a = 12, x = nI j, j < mz_n G a, mz_n G a < 2147483648], nx, lv, r, mz_sl G a j y)
    | .aastore => mz_wr st fun b x a r => mz_hd o fun j o' => some (o', [mz_K G b < 4, mz_K G a = 8 + mz_K G b, x = nI j, j < mz_n G a, mz_n G a < 2147483648], nx, lv, r, mz_sr G a j (some b))
    | .arraylength => mz_s1r st fun a r => some (o, [mz_K G a = 7], nx, lv, .int (nI (mz_n G a)) :: r, G)
    | .irem => mz_s2i st fun x y r => some (o, [¬ y = 0], nx, lv, .int (x - x / y * y) :: r, G)
    | i => match mz_op nL i nx tg lv st with
      | none => none
      | some (pc', lv', st') => some (o, [], pc', lv', st', G)
def mz_al : List Prop → Prop
  | [] => True
  | p :: r => p ∧ mz_al r
theorem mz_al_app : ∀ (a b : List Prop), mz_al (a ++ b) → mz_al a ∧ mz_al b
  | [], b, h => ⟨trivial, h⟩
  | p :: a, b, h => ⟨⟨h.1, (mz_al_app a b h.2).1⟩, (mz_al_app a b h.2).2⟩
def mz_sn (T : List mz_R) (P : mz_P) (nL : Nat) : Nat → List Nat → Nat → List (Option Value) → List Value → mz_G → Option (List Prop × Nat × List (Option Value) × List Value × mz_G)
  | 0, _, pc, lv, st, G => some ([], pc, lv, st, G)
  | n + 1, o, pc, lv, st, G => match mz_st T P nL o pc lv st G with
    | none => none
    | some (o', ps, pc', lv', st', G') => match mz_sn T P nL n o' pc' lv' st' G' with
      | none => none
      | some (qs, x) => some (ps ++ qs, x)
theorem mz_ft_le {ci t : Nat} (h : t ∈ mz_ft ci) : t ≤ 2 := by
  unfold mz_ft at h
  split at h <;> simp at h <;> omega
section MZS
variable {E : mz_E} {p : Program} {l : Launch} {e : Env} {R : Room} {s : State} {m : MethodId} {args : Array Value} {below : List Frame} {meth : Method} {c : Code} {cc : ByteArray} {own : String} {nL k n : Nat} {Q : State → Prop} {T : List mz_R} {P : mz_P}
theorem mz_st_ok (hC : mz_C E p s m args meth c cc own nL) (hT : mz_T cc T) (hP : mz_Pok own P) {G G' : mz_G} {sz pc pc' : Nat} {o o' : List Nat} {ps : List Prop} {lv lv' : List (Option Value)} {st st' : List Value} (h : mz_st T P nL o pc lv st G = some (o', ps, pc', lv', st', G')) (hps : mz_al ps) (kk : mz_V E p l e R s m args below meth c nL k n Q G' sz pc' lv' st') : mz_V E p l e R s m args below meth c nL k n Q G sz pc lv st := by
  unfold mz_st at h
  split at h
  · cases h
  · rename_i ins nx tg hat
    have hr := mz_at_ok hT hat
    split at h
    · rename_i i
      split at h
      · cases h
      · rename_i ci j hlu
        have hf := hP.1 _ (mz_lu_mem _ _ _ hlu)
        split at h
        · cases h
        · rename_i t ht
          obtain ⟨a, r, rfl, h⟩ := mz_s1r_o h
          unfold mz_rd at h
          split at h
          · cases h
            exact mz_Vget hC hr hf hps.1 ht kk
          · obtain ⟨b, o1, rfl, h⟩ := mz_hd_o h
            cases h
            refine mz_Vget hC hr hf hps.1 ht ?_
            simp only [mz_fv]
            rw [hps.2.1]
            exact kk
          · rename_i h0 h1
            cases h
            refine mz_Vget hC hr hf hps.1 ht ?_
            unfold mz_fv
            split
            · exact absurd rfl h0
            · exact absurd rfl h1
            · exact kk
    · rename_i i
      split at h
      · cases h
      · rename_i ci j hlu
        have hf := hP.1 _ (mz_lu_mem _ _ _ hlu)
        split at h
        · cases h
        · rename_i hfin
          split at h
          · cases h
          · rename_i t ht
            unfold mz_wt at h
            split at h
            · obtain ⟨y, a, r, rfl, h⟩ := mz_pi_o h
              cases h
              exact mz_Vput0 hC hr hf hps.1 ht hfin (mz_vali y) mz_si_o hps.1 (mz_fs_si ht) kk
            · obtain ⟨y, a, r, rfl, h⟩ := mz_pr_o h
              cases h
              exact mz_Vput0 hC hr hf hps.1 ht hfin (mz_valr y) mz_sr_o hps.1 (mz_fs_sr ht) kk
            · rename_i h0 h1
              obtain ⟨y, a, r, rfl, h⟩ := mz_pl_o h
              cases h
              have ht2 : t = 2 := by
                have hm := mz_ft_le (List.mem_of_getElem? ht)
                have e0 : t ≠ 0 := fun z => h0 z
                have e1 : t ≠ 1 := fun z => h1 z
                omega
              subst ht2
              exact mz_Vput0 hC hr hf hps.1 ht hfin (mz_vall y) mz_sl_o hps.1 (mz_fs_sl ht) kk
    · rename_i i
      split at h
      · cases h
      · rename_i v hlu
        cases h
        obtain ⟨hx, hb, -, hown, hts, -⟩ := hC
        obtain ⟨hd, rfl⟩ := mz_dec 1 hr rfl
        exact mz_V.go (fun H locs ls _ hl w => lv_ldc hx hb hown (hts _ (hP.2.1 _ (mz_lu_mem _ _ _ hlu))) hd w) kk
    · rename_i i
      split at h
      · cases h
      · rename_i v hlu
        cases h
        obtain ⟨hx, hb, -, hown, hts, -⟩ := hC
        obtain ⟨hd, rfl⟩ := mz_dec 2 hr rfl
        exact mz_V.go (fun H locs ls _ hl w => lv_ldcw hx hb hown (hts _ (hP.2.1 _ (mz_lu_mem _ _ _ hlu))) hd w) kk
    · rename_i i
      split at h
      · cases h
      · rename_i v hlu
        cases h
        obtain ⟨hx, hb, -, hown, hts, -⟩ := hC
        obtain ⟨hd, rfl⟩ := mz_dec 2 hr rfl
        exact mz_V.go (fun H locs ls _ hl w => lv_ldc2 hx hb hown (hts _ (hP.2.2 _ (mz_lu_mem _ _ _ hlu))) hd w) kk
    · obtain ⟨x, a, r, rfl, h⟩ := mz_ra_o h
      obtain ⟨j, o1, rfl, h⟩ := mz_hd_o h
      cases h
      exact mz_Vialoa hC hr hps.1 hps.2.1 hps.2.2.1 hps.2.2.2.1 kk
    · obtain ⟨x, a, r, rfl, h⟩ := mz_ra_o h
      obtain ⟨j, o1, rfl, h⟩ := mz_hd_o h
      cases h
      exact mz_Vlaloa hC hr hps.1 hps.2.1 hps.2.2.1 hps.2.2.2.1 kk
    · obtain ⟨x, a, r, rfl, h⟩ := mz_ra_o h
      obtain ⟨j, o1, rfl, h⟩ := mz_hd_o h
      obtain ⟨b, o2, rfl, h⟩ := mz_hd_o h
      cases h
      exact mz_Vaaloa hC hr hps.1 hps.2.1 hps.2.2.1 hps.2.2.2.1 hps.2.2.2.2.1 hps.2.2.2.2.2.1 kk
    · obtain ⟨y, x, a, r, rfl, h⟩ := mz_wi_o h
      obtain ⟨j, o1, rfl, h⟩ := mz_hd_o h
      cases h
      exact mz_Viast hC hr hps.1 hps.2.1 hps.2.2.1 hps.2.2.2.1 kk
    · obtain ⟨y, x, a, r, rfl, h⟩ := mz_wl_o h
      obtain ⟨j, o1, rfl, h⟩ := mz_hd_o h
      cases h
      exact mz_Vlast hC hr hps.1 hps.2.1 hps.2.2.1 hps.2.2.2.1 kk
    · obtain ⟨y, x, a, r, rfl, h⟩ := mz_wr_o h
      obtain ⟨j, o1, rfl, h⟩ := mz_hd_o h
      cases h
      exact mz_Vaast hC hr hps.1 hps.2.1 hps.2.2.1 hps.2.2.2.1 hps.2.2.2.2.1 kk
    · obtain ⟨a, r, rfl, h⟩ := mz_s1r_o h
      cases h
      exact mz_Valen hC hr hps.1 kk
    · obtain ⟨x, y, r, rfl, h⟩ := mz_s2i_o h
      cases h
      obtain ⟨hx, hb, -⟩ := hC
      obtain ⟨hd, rfl⟩ := mz_dec 0 hr rfl
      exact mz_V.go (fun H locs ls _ hl w => lv_irem hx hb hd hps.1 w) kk
    · split at h
      · cases h
      · rename_i pc1 lv1 st1 hop
        cases h
        exact mz_op_ok hC hr hop kk
theorem mz_sn_ok (hC : mz_C E p s m args meth c cc own nL) (hT : mz_T cc T) (hP : mz_Pok own P) {sz : Nat} : ∀ (cnt : Nat) (o : List Nat) {pc pc' : Nat} {qs : List Prop} {lv lv' : List (Option Value)} {st st' : List Value} {G G' : mz_G}, mz_sn T P nL cnt o pc lv st G = some (qs, pc', lv', st', G') → mz_al qs → mz_V E p l e R s m args below meth c nL k n Q G' sz pc' lv' st' → mz_V E p l e R s m args below meth c nL k n Q G sz pc lv st
  | 0, o, pc, pc', qs, lv, lv', st, st', G, G', h, _, kk => by
    cases h
    exact kk
  | cnt + 1, o, pc, pc', qs, lv, lv', st, st', G, G', h, hq, kk => by
    simp only [mz_sn] at h
    split at h
    · cases h
    · rename_i o1 ps pc1 lv1 st1 G1 h1
      split at h
      · cases h
      · rename_i qs1 x h2
        cases h
        obtain ⟨ha, hb⟩ := mz_al_app _ _ hq
        exact mz_st_ok hC hT hP h1 ha (mz_sn_ok hC hT hP cnt o1 h2 hb kk)
end MZS
