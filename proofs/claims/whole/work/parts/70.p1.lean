/-! ===== pure: rows of a list, what is dropped, how tables grow ===== -/
theorem mr_dr_m (f : Nat → Int32) {L cnt k : Nat} (hk : k < cnt) (k' j' : Nat) (h1 : k' < cnt - 1) (h2 : j' < 4) : mx_dr f L cnt k (L + 1 + 4 * k' + j') = mt_e (mr_h f L 4) k k' j' := by
  unfold mx_dr mz_fl mz_sf mt_e mr_h
  simp only [mz_u1]
  by_cases hkk : k' < k
  · simp (disch := omega) only [if_pos, if_neg, and_self, if_true, and_true, true_and, and_false, false_and, if_false]
  · simp (disch := omega) only [if_pos, if_neg, and_self, if_true, and_true, true_and, and_false, false_and, if_false]
    congr 1 <;> omega
def mr_R (h : Nat → Nat → Int32) (n : Nat) : List (Int32 × Int32 × Int32 × Int32) := (List.range n).map (fun k => (h k 0, h k 1, h k 2, h k 3))
theorem mr_R_len (h : Nat → Nat → Int32) (n : Nat) : (mr_R h n).length = n := by simp [mr_R]
theorem mr_R_get (h : Nat → Nat → Int32) {n k : Nat} (hk : k < n) : (mr_R h n)[k]? = some (h k 0, h k 1, h k 2, h k 3) := by simp [mr_R, hk]
theorem mr_R_ext {h h' : Nat → Nat → Int32} {n : Nat} (e : mr_R h n = mr_R h' n) (k j : Nat) (hk : k < n) (hj : j < 4) : h k j = h' k j := by
  have e1 := mr_R_get h hk
  rw [e, mr_R_get h' hk] at e1
  injection e1 with e1
  injection e1 with a e1
  injection e1 with b e1
  injection e1 with c d
  rcases (show j = 0 ∨ j = 1 ∨ j = 2 ∨ j = 3 by omega) with rfl | rfl | rfl | rfl
  · exact a.symm
  · exact b.symm
  · exact c.symm
  · exact d.symm
theorem mr_R_cong {h h' : Nat → Nat → Int32} {n : Nat} (e : ∀ k j, k < n → j < 4 → h k j = h' k j) : mr_R h n = mr_R h' n := by
  unfold mr_R
  refine List.map_congr_left (fun k hk => ?_)
  have hk := List.mem_range.mp hk
  rw [e k 0 hk (by omega), e k 1 hk (by omega), e k 2 hk (by omega), e k 3 hk (by omega)]
theorem mr_R_e (h : Nat → Nat → Int32) {n k : Nat} (hk : k < n) : mr_R (mt_e h k) (n - 1) = (mr_R h n).eraseIdx k := by
  refine List.ext_getElem? (fun i => ?_)
  rw [List.getElem?_eraseIdx]
  by_cases hi : i < n - 1
  · rw [mr_R_get _ hi]
    unfold mt_e
    split
    · rename_i hik
      rw [mr_R_get _ (by omega)]
    · rename_i hik
      rw [mr_R_get _ (by omega)]
  · rw [List.getElem?_eq_none (by rw [mr_R_len]; omega)]
    split
    · rw [List.getElem?_eq_none (by rw [mr_R_len]; omega)]
    · rw [List.getElem?_eq_none (by rw [mr_R_len]; omega)]
theorem mr_R_dr (f : Nat → Int32) {L n k : Nat} (hk : k < n) : mr_R (mr_h (mx_dr f L n k) L 4) (n - 1) = (mr_R (mr_h f L 4) n).eraseIdx k := by
  rw [← mr_R_e _ hk]
  exact mr_R_cong (fun k' j' h1 h2 => mr_dr_m f hk k' j' h1 h2)
/-- names ascend -/
def mr_so (f : Nat → Int32) (L n : Nat) : Prop := ∀ i j, i < j → j < n → mx_nm f L i < mx_nm f L j
def mr_sl (q : List (Int32 × Int32 × Int32 × Int32)) : Prop := q.Pairwise (fun x y => x.1 < y.1)
theorem mr_so_sl {f : Nat → Int32} {L n : Nat} : mr_so f L n ↔ mr_sl (mr_R (mr_h f L 4) n) := by
  unfold mr_sl mr_R
  rw [List.pairwise_map, List.pairwise_iff_getElem]
  constructor
  · intro h i j hi hj hij
    simp only [List.getElem_range, List.length_range] at *
    exact h i j hij (by simpa using hj)
  · intro h i j hij hj
    have := h i j (by simp; omega) (by simp; omega) hij
    simp only [List.getElem_range] at this
    exact this
theorem mz_lt_tr {a b c : Int32} (h1 : a < b) (h2 : b < c) : a < c := by rw [mz_ltI] at *; omega
theorem mr_er (name : Int32) : ∀ (q : List (Int32 × Int32 × Int32 × Int32)) (k : Nat), mr_sl q → (q[k]?).map (fun r => r.1) = some name → q.eraseIdx k = q.filter (fun r => !decide (r.1 = name))
  | [], k, _, h => by simp at h
  | a :: t, 0, hs, h => by
    simp at h
    simp only [List.eraseIdx_cons_zero, List.filter_cons, h, decide_true, Bool.not_true]
    refine (List.filter_eq_self.mpr (fun r hr => ?_)).symm
    have := (List.pairwise_cons.mp hs).1 r hr
    rw [h] at this
    simp only [Bool.not_eq_true', decide_eq_false_iff_not]
    exact fun z => mz_lt_ne this z.symm
  | a :: t, k + 1, hs, h => by
    simp only [List.getElem?_cons_succ] at h
    have ha : ¬ a.1 = name := by
      cases hk : t[k]? with
      | none => rw [hk] at h; simp at h
      | some r =>
        rw [hk] at h
        simp at h
        have := (List.pairwise_cons.mp hs).1 r (List.mem_of_getElem? hk)
        rw [h] at this
        exact mz_lt_ne this
    simp only [List.eraseIdx_cons_succ, List.filter_cons, ha, decide_false, Bool.not_false, if_true]
    rw [mr_er name t k (List.pairwise_cons.mp hs).2 h]
/-- the class drops what vanished: by names -/
def mr_k1 (f : Nat → Int32) (b L : Nat) (mark : Int32) (cc : Nat) : Nat → (Nat → Int32) × Nat
  | 0 => (f, cc)
  | i + 1 => if mark < f (98 * b + 4 + 2 + 2 * i) then
      match mz_fz (mx_nm (mr_k1 f b L mark cc i).1 L) (f (98 * b + 4 + 1 + 2 * i)) (mr_k1 f b L mark cc i).2 with
      | none => mr_k1 f b L mark cc i
      | some h => (mx_dr (mr_k1 f b L mark cc i).1 L (mr_k1 f b L mark cc i).2 h, (mr_k1 f b L mark cc i).2 - 1)
    else mr_k1 f b L mark cc i
/-- the class drops what the box lacks: from the last row on -/
def mr_k3 (b cnt L : Nat) : Nat → (Nat → Int32) → Nat → (Nat → Int32) × Nat
  | 0, f, cc => (f, cc)
  | r + 1, f, cc => if mz_fz (mx_nm f (98 * b + 17)) (mx_nm f L r) cnt = none then mr_k3 b cnt L r (mx_dr f L cc r) (cc - 1) else mr_k3 b cnt L r f cc
theorem mr_k1_R (f : Nat → Int32) {b L : Nat} (mark : Int32) {cc : Nat} (hs : mr_so f L cc) : ∀ i, mr_R (mr_h (mr_k1 f b L mark cc i).1 L 4) (mr_k1 f b L mark cc i).2 = (mr_R (mr_h f L 4) cc).filter (fun r => !mx_hv f b r.1 mark i)
  | 0 => by
    simp only [mr_k1, mx_hv, Bool.not_false]
    exact (List.filter_eq_self.mpr (fun _ _ => rfl)).symm
  | i + 1 => by
    have ih := mr_k1_R f mark hs i (b := b)
    obtain ⟨S, hS⟩ : ∃ S, S = mr_k1 f b L mark cc i := ⟨_, rfl⟩
    rw [← hS] at ih
    have hsl : mr_sl (mr_R (mr_h S.1 L 4) S.2) := by rw [ih]; exact (mr_so_sl.mp hs).filter _
    simp only [mr_k1, mx_hv]
    rw [← hS]
    have hff : (mr_R (mr_h f L 4) cc).filter (fun r => !(mx_hv f b r.1 mark i || decide (f (98 * b + 4 + 1 + 2 * i) = r.1 ∧ mark < f (98 * b + 4 + 2 + 2 * i)))) = (mr_R (mr_h S.1 L 4) S.2).filter (fun r => !decide (f (98 * b + 4 + 1 + 2 * i) = r.1 ∧ mark < f (98 * b + 4 + 2 + 2 * i))) := by
      rw [ih, List.filter_filter]
      congr 1
      funext r
      rw [Bool.not_or, Bool.and_comm]
    rw [hff]
    by_cases hm : mark < f (98 * b + 4 + 2 + 2 * i)
    · rw [if_pos hm]
      simp only [hm, and_true]
      cases hz : mz_fz (mx_nm S.1 L) (f (98 * b + 4 + 1 + 2 * i)) S.2 with
      | none =>
        dsimp only
        refine (List.filter_eq_self.mpr (fun r hr => ?_)).symm
        obtain ⟨k, hk⟩ := List.getElem?_of_mem hr
        have hkl : k < S.2 := by
          have := (List.getElem?_eq_some_iff.mp hk).1
          rw [mr_R_len] at this
          exact this
        rw [mr_R_get _ hkl] at hk
        injection hk with hk
        simp only [Bool.not_eq_true', decide_eq_false_iff_not]
        rw [← hk]
        exact fun z => mz_fz_none hz k hkl z.symm
      | some h =>
        dsimp only
        obtain ⟨h1, h2, -⟩ := mz_fz_some hz
        rw [mr_R_dr _ h1, mr_er (f (98 * b + 4 + 1 + 2 * i)) _ h hsl (by rw [mr_R_get _ h1]; exact congrArg some h2)]
        congr 1
        funext r
        congr 1
        exact decide_eq_decide.mpr eq_comm
    · rw [if_neg hm]
      simp only [hm, and_false, decide_false, Bool.not_false]
      exact (List.filter_eq_self.mpr (fun _ _ => rfl)).symm
/-- a box's row is not touched by what is dropped behind it -/
theorem mr_k3_R (b cnt L : Nat) (hL : 98 * b + 98 ≤ L) (hcn : cnt ≤ 20) (f0 : Nat → Int32) : ∀ (r : Nat) (f : Nat → Int32) (cc : Nat), r ≤ cc → (∀ i, i < L → f i = f0 i) → mr_R (mr_h (mr_k3 b cnt L r f cc).1 L 4) (mr_k3 b cnt L r f cc).2 = ((mr_R (mr_h f L 4) cc).take r).filter (fun x => !decide (mz_fz (mx_nm f0 (98 * b + 17)) x.1 cnt = none)) ++ (mr_R (mr_h f L 4) cc).drop r
  | 0, f, cc, _, _ => by simp [mr_k3]
  | r + 1, f, cc, hr, hf => by
    have hz : mz_fz (mx_nm f (98 * b + 17)) (mx_nm f L r) cnt = mz_fz (mx_nm f0 (98 * b + 17)) (mx_nm f L r) cnt := mz_fz_cong (fun k hk => hf _ (by omega))
    have ht : (mr_R (mr_h f L 4) cc).take (r + 1) = (mr_R (mr_h f L 4) cc).take r ++ [(mr_h f L 4 r 0, mr_h f L 4 r 1, mr_h f L 4 r 2, mr_h f L 4 r 3)] := by
      rw [List.take_add_one, mr_R_get _ (show r < cc by omega)]
      rfl
    have hd : (mr_R (mr_h f L 4) cc).drop r = (mr_h f L 4 r 0, mr_h f L 4 r 1, mr_h f L 4 r 2, mr_h f L 4 r 3) :: (mr_R (mr_h f L 4) cc).drop (r + 1) := by
      rw [List.drop_eq_getElem_cons (by rw [mr_R_len]; omega)]
      congr 1
      have := mr_R_get (mr_h f L 4) (show r < cc by omega)
      rw [List.getElem?_eq_getElem (by rw [mr_R_len]; omega)] at this
      injection this
    rw [ht, List.filter_append]
    simp only [mr_k3, hz]
    by_cases hn : mz_fz (mx_nm f0 (98 * b + 17)) (mx_nm f L r) cnt = none
    · rw [if_pos hn, mr_k3_R b cnt L hL hcn f0 r _ _ (by omega) (fun i hi => by rw [mx_dr_o f (by omega) (Or.inl hi)]; exact hf i hi)]
      rw [mr_R_dr f (show r < cc by omega), List.eraseIdx_eq_take_drop_succ]
      have hle : ((mr_R (mr_h f L 4) cc).take r).length = r := by rw [List.length_take, mr_R_len]; omega
      rw [List.take_append_of_le_length (by omega), List.take_of_length_le (by omega), List.drop_append_of_le_length (by omega), List.drop_of_length_le (by omega), List.nil_append]
      rw [List.filter_cons, if_neg (by rw [show mr_h f L 4 r 0 = mx_nm f L r from rfl, hn]; decide), List.filter_nil, List.append_nil]
    · rw [if_neg hn, mr_k3_R b cnt L hL hcn f0 r _ _ (by omega) hf, hd]
      rw [List.filter_cons, if_pos (by rw [show mr_h f L 4 r 0 = mx_nm f L r from rfl]; simpa using hn), List.filter_nil, List.append_assoc, List.singleton_append]
abbrev mr_go (f : Nat → Int32) (b w g cnt : Nat) (mark name : Int32) : Prop := w = 1 ∨ (w = 2 ∧ mx_hv f b name mark g = true) ∨ (w = 3 ∧ mz_fz (mx_nm f (98 * b + 17)) name cnt = none)
/-- the reference drops from the copy -/
theorem mr_l1_R (L b w g cnt : Nat) (mark : Int32) (hL : 98 * b + 98 ≤ L) (hcn : cnt ≤ 20) (hg : g ≤ 6) (f0 : Nat → Int32) : ∀ (d : Nat) (f : Nat → Int32) (cc k : Nat), k + d = cc → (∀ i, i < L → f i = f0 i) → mr_R (mr_h (mx_l1 d f L b w g cnt mark cc k).1 L 4) (mx_l1 d f L b w g cnt mark cc k).2 = (mr_R (mr_h f L 4) cc).take k ++ ((mr_R (mr_h f L 4) cc).drop k).filter (fun x => !decide (mr_go f0 b w g cnt mark x.1))
  | 0, f, cc, k, hk, _ => by
    simp only [mx_l1]
    rw [List.drop_of_length_le (by rw [mr_R_len]; omega), List.take_of_length_le (by rw [mr_R_len]; omega)]
    simp
  | d + 1, f, cc, k, hk, hf => by
    have hz : ∀ v, mz_fz (mx_nm f (98 * b + 17)) v cnt = mz_fz (mx_nm f0 (98 * b + 17)) v cnt := fun v => mz_fz_cong (fun k hk => hf _ (by omega))
    have hv : ∀ v, ∀ n, n ≤ 6 → mx_hv f b v mark n = mx_hv f0 b v mark n := by
      intro v n
      induction n with
      | zero => intro _; rfl
      | succ n ih => intro hn; simp only [mx_hv]; rw [ih (by omega), hf _ (by omega), hf _ (by omega)]
    have hd : (mr_R (mr_h f L 4) cc).drop k = (mr_h f L 4 k 0, mr_h f L 4 k 1, mr_h f L 4 k 2, mr_h f L 4 k 3) :: (mr_R (mr_h f L 4) cc).drop (k + 1) := by
      rw [List.drop_eq_getElem_cons (by rw [mr_R_len]; omega)]
      congr 1
      have := mr_R_get (mr_h f L 4) (show k < cc by omega)
      rw [List.getElem?_eq_getElem (by rw [mr_R_len]; omega)] at this
      injection this
    have ht : (mr_R (mr_h f L 4) cc).take (k + 1) = (mr_R (mr_h f L 4) cc).take k ++ [(mr_h f L 4 k 0, mr_h f L 4 k 1, mr_h f L 4 k 2, mr_h f L 4 k 3)] := by
      rw [List.take_add_one, mr_R_get _ (show k < cc by omega)]
      rfl
    have hle : ((mr_R (mr_h f L 4) cc).take k).length = k := by rw [List.length_take, mr_R_len]; omega
    simp only [mx_l1, hz, hv _ g hg]
    by_cases hgo : mr_go f0 b w g cnt mark (mx_nm f L k)
    · rw [if_pos hgo, mr_l1_R L b w g cnt mark hL hcn hg f0 d _ _ _ (by omega) (fun i hi => by rw [mx_dr_o f (by omega) (Or.inl hi)]; exact hf i hi)]
      rw [mr_R_dr f (show k < cc by omega), List.eraseIdx_eq_take_drop_succ]
      rw [List.take_append_of_le_length (by omega), List.take_of_length_le (by omega), List.drop_append_of_le_length (by omega), List.drop_of_length_le (by omega), List.nil_append, hd]
      rw [List.filter_cons, if_neg (by show ¬ (!decide (mr_go f0 b w g cnt mark (mx_nm f L k))) = true; rw [decide_eq_true hgo]; decide)]
    · rw [if_neg hgo, mr_l1_R L b w g cnt mark hL hcn hg f0 d _ _ _ (by omega) hf, hd, ht]
      rw [List.filter_cons, if_pos (by show (!decide (mr_go f0 b w g cnt mark (mx_nm f L k))) = true; rw [decide_eq_false hgo]; rfl), List.append_assoc, List.singleton_append]
/-- what a table of messages may still cost -/
def mr_ph (len : Nat) : Nat := if len ≤ 80 then 4736 else if len ≤ 168 then 4568 else if len ≤ 344 then 4224 else if len ≤ 696 then 3528 else if len ≤ 1400 then 2128 else 0
def mr_ch (len : Nat) : Prop := len = 80 ∨ len = 168 ∨ len = 344 ∨ len = 696 ∨ len = 1400 ∨ len = 2128
theorem mr_ch_gl {len n : Nat} (h : mr_ch len) (h1 : n * 4 ≤ len) (h2 : n < 532) : mr_ch (mt_gl 4 532 n len) ∧ mt_gs 4 532 n len + mr_ph (mt_gl 4 532 n len) = mr_ph len ∧ mt_gc 4 n len ≤ mt_gs 4 532 n len := by
  unfold mt_gl mt_gs mt_gc
  by_cases hg : (n + 1) * 4 ≤ len
  · simp only [if_pos hg]
    exact ⟨h, by omega, by omega⟩
  · simp only [if_neg hg]
    unfold mr_ch at *
    rcases h with rfl | rfl | rfl | rfl | rfl | rfl
    · rw [show n = 20 by omega]; decide
    · rw [show n = 42 by omega]; decide
    · rw [show n = 86 by omega]; decide
    · rw [show n = 174 by omega]; decide
    · rw [show n = 350 by omega]; decide
    · omega
/-- the room of a table that has had N rows -/
def mt_gr (W lim len : Nat) : Nat → Nat
  | 0 => len
  | n + 1 => mt_gl W lim n (mt_gr W lim len n)
theorem mt_gr_id (W lim : Nat) {len : Nat} : ∀ {n : Nat}, n * W ≤ len → mt_gr W lim len n = len
  | 0, _ => rfl
  | n + 1, h => by
    have h1 : n * W ≤ len := by rw [Nat.add_mul] at h; omega
    simp only [mt_gr]
    rw [mt_gr_id W lim h1]
    unfold mt_gl
    rw [if_pos h]
theorem mt_gr_ge (W lim : Nat) (len : Nat) : ∀ n, n ≤ lim → n * W ≤ mt_gr W lim len n ∨ n = 0
  | 0, _ => Or.inr rfl
  | n + 1, h => by
    refine Or.inl ?_
    simp only [mt_gr]
    unfold mt_gl
    split
    · assumption
    · exact Nat.mul_le_mul_right W (by omega)
theorem mt_gr_ch {len : Nat} (h : mr_ch len) : ∀ {n : Nat}, n ≤ 532 → mr_ch (mt_gr 4 532 len n) ∧ mr_ph (mt_gr 4 532 len n) ≤ mr_ph len
  | 0, _ => ⟨h, Nat.le_refl _⟩
  | n + 1, hn => by
    obtain ⟨a, b⟩ := mt_gr_ch h (n := n) (by omega)
    have hle : n * 4 ≤ mt_gr 4 532 len n := by
      rcases mt_gr_ge 4 532 len n (by omega) with q | q
      · exact q
      · omega
    obtain ⟨c, d, -⟩ := mr_ch_gl a hle (by omega)
    exact ⟨c, by show mr_ph (mt_gl 4 532 n _) ≤ _; omega⟩
theorem mt_gr_mo {len : Nat} (h : mr_ch len) {n m : Nat} (hnm : n ≤ m) (hm : m ≤ 532) : mr_ph (mt_gr 4 532 len m) ≤ mr_ph (mt_gr 4 532 len n) := by
  obtain ⟨d, rfl⟩ := Nat.exists_eq_add_of_le hnm
  clear hnm
  induction d with
  | zero => exact Nat.le_refl _
  | succ d ih =>
    have i1 := ih (by omega)
    obtain ⟨a, -⟩ := mt_gr_ch h (n := n + d) (by omega)
    have hle : (n + d) * 4 ≤ mt_gr 4 532 len (n + d) := by
      rcases mt_gr_ge 4 532 len (n + d) (by omega) with q | q
      · exact q
      · omega
    obtain ⟨-, e, -⟩ := mr_ch_gl a hle (by omega)
    show mr_ph (mt_gl 4 532 (n + d) (mt_gr 4 532 len (n + d))) ≤ _
    omega

