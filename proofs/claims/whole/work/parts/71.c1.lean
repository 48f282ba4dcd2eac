/-! ===== a contract with more room; the class: a copy ===== -/
theorem mz_room {s : State} {pl : Platform} {r r' : Room} (hf : r.frames ≤ r'.frames) (hl : r.locals ≤ r'.locals) (hc : r.cells ≤ r'.cells) (hs : r.slots ≤ r'.slots) (h : s.hasRoom pl r' = true) : s.hasRoom pl r = true := by
  simp only [State.hasRoom, Bool.and_eq_true, decide_eq_true_eq] at h ⊢
  obtain ⟨⟨⟨⟨y, a, b, c, d, e⟩, f⟩, g⟩, i⟩ := h
  exact ⟨⟨⟨⟨by omega, by omega, by omega, by omega, by omega, e⟩, by omega⟩, by omega⟩, i⟩
theorem mz_M.wk {l : Launch} {E : mz_E} {y : MethodName} {b : ByteArray} {nL : Nat} {ret : Option FieldType} {d mc ms mc' ms' : Nat} {av : List Value} {G : mz_G} {sz : Nat} {post post' : Option Value → mz_G → Nat → Prop} (h : mz_M l E y b nL ret d mc ms av G sz post) (hc : mc ≤ mc') (hs : ms ≤ ms') (hp : ∀ v G' sz', post v G' sz' → post' v G' sz') : mz_M l E y b nL ret d mc' ms' av G sz post' := by
  intro p e ha hcs hk s m args below hfr happ hP hK
  obtain ⟨a1, a2, a3, a4, a5, a6, a7, a8⟩ := (Spec.appliesLoose_iff hfr).mp happ
  obtain ⟨n, o, q1, q2, q3, ⟨⟨v, G', sz', w1, w2, w3, w4⟩, q4⟩, L, q5, q6⟩ := h p e ha hcs hk s m args below hfr ((Spec.appliesLoose_iff hfr).mpr ⟨a1, a2, a3, a4, a5, a6, mz_room (r := mz_rm d mc ms) (r' := mz_rm d mc' ms') (Nat.le_refl _) (Nat.le_refl _) hc hs a7, a8⟩) hP hK
  exact ⟨n, o, q1, q2, q3, ⟨⟨v, G', sz', w1, hp _ _ _ w2, w3, w4⟩, q4⟩, L, ⟨q5.1, q5.2.1, q5.2.2.mono hc hs⟩, q6⟩
/-- a copy of the class in its parts -/
def mr_Cn (G : mz_G) (O : Nat → Nat) (sz γ τ : Nat) (z0 z1 : Int32) (cc len : Nat) (h : Nat → Nat → Int32) : Prop :=
  (((mz_K G γ = 1 ∧ O γ = γ ∧ γ < sz) ∧ (mz_i G γ 0 = z0 ∧ mz_i G γ 1 = z1)) ∧ mz_r G γ 2 = some τ) ∧ mt_T G O sz τ 4 532 cc len h
/-- a copy of the class holds copy (m, b) of f -/
def mr_C (G : mz_G) (O : Nat → Nat) (sz γ τ : Nat) (f : Nat → Int32) (m b cc len : Nat) : Prop :=
  mr_Cn G O sz γ τ (f (mx_CA m b)) (f (mx_CA m b + 1)) cc len (mr_h f (mx_CA m b + 2) 4) ∧ f (mx_CA m b + 2) = nI cc
def mr_Y (γ τ : Nat) : Nat → Prop := fun q => q = γ ∨ q = τ
section MRC
variable {X : Nat → Prop} {G G' : mz_G} {O O' : Nat → Nat} {sz sz' γ τ : Nat} {z0 z1 : Int32} {f f' : Nat → Int32} {m b cc len cc' len' : Nat} {h h' : Nat → Nat → Int32}
theorem mr_Cn.ne (hY : mr_Cn G O sz γ τ z0 z1 cc len h) : γ ≠ τ := by
  obtain ⟨⟨⟨⟨hK, -⟩, -⟩, -⟩, t⟩ := hY
  have := t.K
  exact fun z => by rw [z] at hK; omega
theorem mr_Cn.fr (hY : mr_Cn G O sz γ τ z0 z1 cc len h) (hF : mt_F X G G' O O' sz sz') (h1 : ¬ X γ) (h2 : ¬ X τ) : mr_Cn G' O' sz' γ τ z0 z1 cc len h := by
  obtain ⟨⟨⟨⟨hK, hO, hs⟩, i0, i1⟩, r2⟩, t⟩ := hY
  obtain ⟨o1, f1⟩ := hF.2 γ hs
  obtain ⟨e1, e2, e3, e4, e5⟩ := f1 (by rw [hO]; exact h1)
  have := hF.1
  exact ⟨⟨⟨⟨by rw [e1, hK], by rw [o1, hO], by omega⟩, by rw [e3, i0], by rw [e3, i1]⟩, by rw [e4, r2]⟩, t.fr hF h2⟩
theorem mr_C.fr (hY : mr_C G O sz γ τ f m b cc len) (hF : mt_F X G G' O O' sz sz') (h1 : ¬ X γ) (h2 : ¬ X τ) : mr_C G' O' sz' γ τ f m b cc len := ⟨hY.1.fr hF h1 h2, hY.2⟩
/-- its messages changed -/
theorem mr_Cn.msg (hY : mr_Cn G O sz γ τ z0 z1 cc len h) (hF : mt_F (fun q => q = τ) G G' O O' sz sz') (ht : mt_T G' O' sz' τ 4 532 cc' len' h') : mr_Cn G' O' sz' γ τ z0 z1 cc' len' h' := by
  have hne := hY.ne
  obtain ⟨⟨⟨⟨hK, hO, hs⟩, i0, i1⟩, r2⟩, t⟩ := hY
  obtain ⟨o1, f1⟩ := hF.2 γ hs
  obtain ⟨e1, e2, e3, e4, e5⟩ := f1 (by rw [hO]; exact hne)
  have := hF.1
  exact ⟨⟨⟨⟨by rw [e1, hK], by rw [o1, hO], by omega⟩, by rw [e3, i0], by rw [e3, i1]⟩, by rw [e4, r2]⟩, ht⟩
theorem mr_Cn.s0 (hY : mr_Cn G O sz γ τ z0 z1 cc len h) (v : Int32) : mr_Cn (mz_si G γ 0 v) O sz γ τ v z1 cc len h ∧ mt_F (fun q => q = γ) G (mz_si G γ 0 v) O O sz sz := by
  have hne := hY.ne
  obtain ⟨⟨⟨⟨hK, hO, hs⟩, i0, i1⟩, r2⟩, t⟩ := hY
  have hF : mt_F (fun q => q = γ) G (mz_si G γ 0 v) O O sz sz := mt_F_si hO
  refine ⟨⟨⟨⟨⟨hK, hO, hs⟩, ?_, ?_⟩, r2⟩, t.fr hF (Ne.symm hne)⟩, hF⟩
  · show mz_u2 (mz_i G) γ 0 v γ 0 = _; rw [mz_u2_s]
  · show mz_u2 (mz_i G) γ 0 v γ 1 = _; rw [mz_u2_j _ _ _ _ (by omega), i1]
theorem mr_Cn.s1 (hY : mr_Cn G O sz γ τ z0 z1 cc len h) (v : Int32) : mr_Cn (mz_si G γ 1 v) O sz γ τ z0 v cc len h ∧ mt_F (fun q => q = γ) G (mz_si G γ 1 v) O O sz sz := by
  have hne := hY.ne
  obtain ⟨⟨⟨⟨hK, hO, hs⟩, i0, i1⟩, r2⟩, t⟩ := hY
  have hF : mt_F (fun q => q = γ) G (mz_si G γ 1 v) O O sz sz := mt_F_si hO
  refine ⟨⟨⟨⟨⟨hK, hO, hs⟩, ?_, ?_⟩, r2⟩, t.fr hF (Ne.symm hne)⟩, hF⟩
  · show mz_u2 (mz_i G) γ 1 v γ 0 = _; rw [mz_u2_j _ _ _ _ (by omega), i0]
  · show mz_u2 (mz_i G) γ 1 v γ 1 = _; rw [mz_u2_s]
theorem mr_C.cong (hY : mr_C G O sz γ τ f m b cc len) (e : ∀ i, mx_CA m b ≤ i → i < mx_CA m b + 2403 → f' i = f i) : mr_C G O sz γ τ f' m b cc len := by
  obtain ⟨⟨⟨⟨hk, i0, i1⟩, r2⟩, t⟩, hc⟩ := hY
  obtain ⟨b1, -, -⟩ := t.b
  refine ⟨⟨⟨⟨hk, ?_, ?_⟩, r2⟩, t.same (fun k j h1 h2 => ?_)⟩, ?_⟩
  · rw [i0, e _ (by omega) (by omega)]
  · rw [i1, e _ (by omega) (by omega)]
  · exact (e (mx_CA m b + 2 + 1 + 4 * k + j) (by omega) (by omega)).symm
  · rw [e _ (by omega) (by omega)]; exact hc
end MRC
theorem mz_eqI (a b : Int32) : a = b ↔ a.toInt = b.toInt := ⟨fun z => by rw [z], fun z => Int32.toInt_inj.mp z⟩
theorem mr_ps_lo {g : Nat → Int32} {v : Int32} : ∀ {n : Nat}, (∀ i j, i < j → j < n → g i < g j) → (∀ k, k < n → ¬ g k = v) → (∀ k, k < mx_ps g v n → ¬ v ≤ g k) ∧ (mx_ps g v n < n → v < g (mx_ps g v n))
  | 0, _, _ => ⟨fun k hk => absurd hk (by simp [mx_ps]), fun h => absurd h (by omega)⟩
  | n + 1, hs, hn => by
    unfold mx_ps
    by_cases hv : v < g n
    · rw [if_pos hv]
      obtain ⟨a, b⟩ := mr_ps_lo (g := g) (v := v) (n := n) (fun i j h1 h2 => hs i j h1 (by omega)) (fun k hk => hn k (by omega))
      refine ⟨a, fun _ => ?_⟩
      by_cases hq : mx_ps g v n < n
      · exact b hq
      · have := mx_ps_le g v n
        rw [show mx_ps g v n = n by omega]
        exact hv
    · rw [if_neg hv]
      refine ⟨fun k hk hle => ?_, fun h => absurd h (by omega)⟩
      by_cases hkn : k = n
      · subst hkn
        refine hn k (by omega) ?_
        rw [mz_eqI]
        rw [mz_leI] at hle
        rw [mz_ltI] at hv
        omega
      · have := hs k n (by omega) (by omega)
        rw [mz_leI] at hle
        rw [mz_ltI] at hv this
        omega
/-- what is put into an ordered list -/
theorem mr_pu_m (f : Nat → Int32) {L cnt : Nat} (name a b c : Int32) (k j : Nat) (hk : k < mx_pn f L cnt name) (hj : j < 4) : mx_pu f L cnt name a b c (L + 1 + 4 * k + j) = (match mz_fz (mx_nm f L) name cnt with
    | some q => mt_w (mr_h f L 4) q name a b c k j
    | none => mt_w (mt_o (mr_h f L 4) (mx_ps (mx_nm f L) name cnt)) (mx_ps (mx_nm f L) name cnt) name a b c k j) := by
  unfold mx_pn at hk
  unfold mx_pu
  have hle := mx_ps_le (mx_nm f L) name cnt
  cases hz : mz_fz (mx_nm f L) name cnt with
  | some q =>
    rw [hz] at hk
    dsimp only at hk ⊢
    obtain ⟨h1, -, -⟩ := mz_fz_some hz
    simp only [mx_rw, mz_u1, mt_w, mt_u, mr_h]
    by_cases hkq : k = q
    · subst hkq
      rcases (show j = 0 ∨ j = 1 ∨ j = 2 ∨ j = 3 by omega) with rfl | rfl | rfl | rfl <;> simp (disch := omega) only [if_pos, if_neg, and_self, if_true, and_true, true_and, and_false, false_and, if_false]
    · simp (disch := omega) only [if_pos, if_neg, and_self, if_true, and_true, true_and, and_false, false_and, if_false]
  | none =>
    rw [hz] at hk
    dsimp only at hk ⊢
    obtain ⟨q, hq⟩ : ∃ q, q = mx_ps (mx_nm f L) name cnt := ⟨_, rfl⟩
    rw [← hq] at hle ⊢
    simp only [mx_rw, mz_u1, mx_in1, mt_w, mt_u, mt_o, mr_h]
    by_cases hkq : k = q
    · subst hkq
      rcases (show j = 0 ∨ j = 1 ∨ j = 2 ∨ j = 3 by omega) with rfl | rfl | rfl | rfl <;> simp (disch := omega) only [if_pos, if_neg, and_self, if_true, and_true, true_and, and_false, false_and, if_false]
    · by_cases hlt : k < q
      · simp (disch := omega) only [if_pos, if_neg, and_self, if_true, and_true, true_and, and_false, false_and, if_false]
      · simp (disch := omega) only [if_pos, if_neg, and_self, if_true, and_true, true_and, and_false, false_and, if_false]
        congr 1 <;> omega
section MRC
variable (l : Launch) (E : mz_E) {G : mz_G} {O : Nat → Nat} {sz γ τ : Nat} {f : Nat → Int32} {L cc len0 : Nat}
/-- a message is stored in a table of a copy -/
theorem cc_store (hch : mr_ch len0) (hT : mt_T G O sz τ 4 532 cc (mt_gr 4 532 len0 cc) (mr_h f L 4)) (hs : mr_so f L cc) (hcc : cc < 532) (name ct fl mk : Int32) : mz_M l E yX4_storeMessage cX4_storeMessage 7 none 5 (mr_ph (mt_gr 4 532 len0 cc) - mr_ph (mt_gr 4 532 len0 (mx_pn f L cc name))) (mr_ph (mt_gr 4 532 len0 cc) - mr_ph (mt_gr 4 532 len0 (mx_pn f L cc name))) [.ref τ, .int name, .int ct, .int fl, .int mk] G sz (fun v' G' sz' => v' = none ∧ ∃ O', mt_T G' O' sz' τ 4 532 (mx_pn f L cc name) (mt_gr 4 532 len0 (mx_pn f L cc name)) (mr_h (mx_pu f L cc name ct fl mk) L 4) ∧ mt_F (fun z => z = τ) G G' O O' sz sz') := by
  have hm := mr_pu_m f (L := L) (cnt := cc) name ct fl mk
  have hcg := (mt_gr_ch hch (n := cc) (by omega)).1
  have hle : cc * 4 ≤ mt_gr 4 532 len0 cc := by
    rcases mt_gr_ge 4 532 len0 cc (by omega) with q | q
    · exact q
    · omega
  unfold mx_pn at hm ⊢
  cases hz : mz_fz (mx_nm f L) name cc with
  | some q =>
    rw [hz] at hm
    obtain ⟨h1, h2, -⟩ := mz_fz_some hz
    refine (ct_store_in l E hT name ct fl mk q h1 (fun k hk => ?_) h2).wk (Nat.zero_le _) (Nat.zero_le _) (fun v G' sz' hp => ?_)
    · have := hs k q hk h1
      rw [h2] at this
      exact mz_lt_nle this
    · obtain ⟨p1, p2, p3, p4⟩ := hp
      rw [← p2]
      exact ⟨p1, O, p3.same (fun k j hk hj => (hm k j hk hj).symm), p4⟩
  | none =>
    rw [hz] at hm
    obtain ⟨g1, g2, g3⟩ := mr_ch_gl hcg hle hcc
    obtain ⟨q1, q2⟩ := mr_ps_lo hs (mz_fz_none hz)
    refine (ct_store_new l E hT name ct fl mk (mx_ps (mx_nm f L) name cc) (mx_ps_le _ _ _) hcc q1 (fun z => ?_) (fun z => ?_)).wk ?_ ?_ (fun v G' sz' hp => ?_)
    · have := q2 z
      show name ≤ mx_nm f L _
      rw [mz_ltI] at this
      rw [mz_leI]
      omega
    · exact fun y => mz_lt_ne (q2 z) (show name = mx_nm f L _ from y.symm)
    · show _ ≤ _ - mr_ph (mt_gl 4 532 cc (mt_gr 4 532 len0 cc))
      omega
    · show _ ≤ _ - mr_ph (mt_gl 4 532 cc (mt_gr 4 532 len0 cc))
      omega
    · obtain ⟨p1, p2, O', p3, p4⟩ := hp
      exact ⟨p1, O', p3.same (fun k j hk hj => (hm k j hk hj).symm), p4⟩
end MRC

