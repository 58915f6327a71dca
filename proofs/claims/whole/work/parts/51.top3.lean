/-! THE CLASS'S CALLS OF THE DOCUMENT, part 3: the line is meddled with -/
def sWy.un (W : sWy) : Nat := W.fs.length - wu_first W.ar
def sWy.drop (W : sWy) (j : Nat) : sWy := (W.q.take (wa_pos W.fs W.ar (wu_first W.ar + j)) ++ W.q.drop (wa_pos W.fs W.ar (wu_first W.ar + j) + W.fs.getD (wu_first W.ar + j) 0), W.fs.eraseIdx (wu_first W.ar + j), W.ar, W.rf)
def sWy.dup (W : sWy) (j : Nat) : sWy := if W.q.length + W.fs.getD (wu_first W.ar + j) 0 ≤ 2000 then (W.q.take (wa_pos W.fs W.ar (wu_first W.ar + j) + W.fs.getD (wu_first W.ar + j) 0) ++ W.q.drop (wa_pos W.fs W.ar (wu_first W.ar + j)), W.fs.take (wu_first W.ar + j + 1) ++ W.fs.drop (wu_first W.ar + j), W.ar, W.rf) else (W.q, W.fs, W.ar, W.rf + 1)
def sWy.lieAt (W : sWy) (j mk : Nat) : sWy := (W.q.set j (W.q.getD j 0 ^^^ mk), W.fs, W.ar, W.rf)
def sWy.none (W : sWy) : sWy := ([], [], 0, W.rf)
theorem wl_erase_sum : ∀ {l : List Nat} {k : Nat}, k < l.length → (l.eraseIdx k).sum + l.getD k 0 = l.sum
  | [], k, h => absurd h (by simp)
  | a :: l, 0, h => by
    simp
    omega
  | a :: l, k + 1, h => by
    have := wl_erase_sum (l := l) (k := k) (by simpa using h)
    simp at this ⊢
    omega
theorem wl_dup_sum {l : List Nat} {k : Nat} (h : k < l.length) : (l.take (k + 1) ++ l.drop k).sum = l.sum + l.getD k 0 := by
  rw [List.sum_append, wl_sum_take l k h]
  have : (l.take k).sum + (l.drop k).sum = l.sum := by rw [← List.sum_append, List.take_append_drop]
  omega
theorem wu_first0 {ar : Nat} (h : wu_first ar = 0) : ar = 0 := by
  unfold wu_first at h
  split at h <;> omega
theorem wv_drop {q fs : List Nat} {ar j : Nat} (h : wv_ok q fs ar) (hj : j < fs.length - wu_first ar) : wv_ok (q.take (wa_pos fs ar (wu_first ar + j)) ++ q.drop (wa_pos fs ar (wu_first ar + j) + fs.getD (wu_first ar + j) 0)) (fs.eraseIdx (wu_first ar + j)) ar := by
  obtain ⟨a1, a2⟩ := wl_ar_le h hj
  have h' := h
  obtain ⟨h1, h2, h3, h4⟩ := h
  have hs := wl_erase_sum (l := fs) (k := wu_first ar + j) (by omega)
  refine ⟨fun x hx => ?_, fun x hx => h2 x (List.mem_of_mem_eraseIdx hx), ?_, fun f hf => ?_⟩
  · rcases List.mem_append.mp hx with hx | hx
    · exact h1 x (List.mem_of_mem_take hx)
    · exact h1 x (List.mem_of_mem_drop hx)
  · unfold wa_pos
    rw [List.length_append, List.length_take, List.length_drop]
    omega
  · by_cases c : wu_first ar + j = 0
    · have := wu_first0 (show wu_first ar = 0 by omega)
      have hm := h2 f (List.mem_of_mem_eraseIdx (List.mem_of_mem_head? hf))
      omega
    · apply h4
      cases fs with
      | nil => exact absurd hj (by simp)
      | cons g fs =>
        obtain ⟨k, hk⟩ : ∃ k, wu_first ar + j = k + 1 := ⟨wu_first ar + j - 1, by omega⟩
        rw [hk] at hf
        simpa using hf
theorem wv_dup {q fs : List Nat} {ar j : Nat} (h : wv_ok q fs ar) (hj : j < fs.length - wu_first ar) : wv_ok (q.take (wa_pos fs ar (wu_first ar + j) + fs.getD (wu_first ar + j) 0) ++ q.drop (wa_pos fs ar (wu_first ar + j))) (fs.take (wu_first ar + j + 1) ++ fs.drop (wu_first ar + j)) ar := by
  obtain ⟨a1, a2⟩ := wl_ar_le h hj
  obtain ⟨h1, h2, h3, h4⟩ := h
  have hs := wl_dup_sum (l := fs) (k := wu_first ar + j) (by omega)
  refine ⟨fun x hx => ?_, fun x hx => ?_, ?_, fun f hf => ?_⟩
  · rcases List.mem_append.mp hx with hx | hx
    · exact h1 x (List.mem_of_mem_take hx)
    · exact h1 x (List.mem_of_mem_drop hx)
  · rcases List.mem_append.mp hx with hx | hx
    · exact h2 x (List.mem_of_mem_take hx)
    · exact h2 x (List.mem_of_mem_drop hx)
  · unfold wa_pos
    rw [List.length_append, List.length_take, List.length_drop, hs]
    omega
  · apply h4
    cases fs with
    | nil => exact absurd hj (by simp)
    | cons g fs => simpa using hf
theorem wv_lie {q fs : List Nat} {ar j mk : Nat} (h : wv_ok q fs ar) (hj : j < q.length) (hm : mk < 256) : wv_ok (q.set j (q.getD j 0 ^^^ mk)) fs ar := by
  obtain ⟨h1, h2, h3, h4⟩ := h
  refine ⟨fun x hx => ?_, h2, by rw [List.length_set]; exact h3, h4⟩
  rcases List.mem_or_eq_of_mem_set hx with hx | hx
  · exact h1 x hx
  · rw [hx]
    have : q.getD j 0 < 256 := by
      have hmem : q.getD j 0 ∈ q := by
        rw [List.getD_eq_getElem?_getD, List.getElem?_eq_getElem hj]
        exact List.getElem_mem _
      exact h1 _ hmem
    exact Nat.xor_lt_two_pow (n := 8) this hm
section TP3
variable {K : am_K} {I I' : pm_I} {J J' : pm_J} {p w : Nat} {T : sT} {W : sWy}
theorem wy_drop (L : wl_ok K w) (h : wy_at I w p W) {j : Nat} (hj : j < W.un) (d : Nat) : ∃ I' : pm_I, f_X7_dropFrame (d + 2) w (nI j) (K, I, J) = some ((nI 1, 0, none), (K, I', J)) ∧ wy_at I' w p (W.drop j) ∧ pm_fr I I' w 3 := by
  obtain ⟨⟨hd, ff, h1⟩, h2, h3, h4⟩ := h
  obtain ⟨I1, g1, g2, g3, g4⟩ := wc_drop (J := J) L h1 h2 hj d
  exact ⟨I1, g1, ⟨⟨hd, ff, g2⟩, wv_drop h2 hj, g3.trans h3, h4⟩, fun a ha => g4 a (by omega) (by omega) (by omega)⟩
theorem wy_drop0 (L : wl_ok K w) (h : wy_at I w p W) {x : Int32} (hx : wu_in x W.un = 0) (d : Nat) : f_X7_dropFrame (d + 2) w x (K, I, J) = some ((nI 0, 0, none), (K, I, J)) := by
  obtain ⟨⟨hd, ff, h1⟩, h2, h3, h4⟩ := h
  exact wc_drop0 L h1 h2 x hx d
theorem wy_dup (L : wl_ok K w) (h : wy_at I w p W) {j : Nat} (hj : j < W.un) (d : Nat) : ∃ I' : pm_I, f_X7_repeatFrame (d + 2) w (nI j) (K, I, J) = some ((nI 1, 0, none), (K, I', J)) ∧ wy_at I' w p (W.dup j) ∧ pm_fr I I' w 3 := by
  obtain ⟨⟨hd, ff, h1⟩, h2, h3, h4⟩ := h
  unfold sWy.dup
  by_cases c : W.q.length + W.fs.getD (wu_first W.ar + j) 0 ≤ 2000
  · obtain ⟨I1, hd1, ff1, g1, g2, g3, g4⟩ := wc_twice (J := J) L h1 h2 hj c d
    rw [if_pos c]
    exact ⟨I1, g1, ⟨⟨hd1, ff1, g2⟩, wv_dup h2 hj, g3.trans h3, h4⟩, fun a ha => g4 a (by omega) (by omega) (by omega)⟩
  · obtain ⟨I1, g1, g2, g3, g4⟩ := wc_twice1 (J := J) L h1 h2 hj (by omega) d
    rw [if_neg c]
    exact ⟨I1, g1, ⟨⟨hd, ff, g2⟩, h2, g3.trans h3, h4⟩, fun a ha => g4 a (by omega)⟩
theorem wy_dup0 (L : wl_ok K w) (h : wy_at I w p W) {x : Int32} (hx : wu_in x W.un = 0) (d : Nat) : f_X7_repeatFrame (d + 2) w x (K, I, J) = some ((nI 0, 0, none), (K, I, J)) := by
  obtain ⟨⟨hd, ff, h1⟩, h2, h3, h4⟩ := h
  exact wc_twice0 L h1 h2 x hx d
theorem wy_lie (L : wl_ok K w) (h : wy_at I w p W) {j mk : Nat} (hj : j < W.q.length) (hm : 0 < mk) (hm2 : mk < 256) (d : Nat) : ∃ I' : pm_I, f_X7_changeByte d w (nI j) (nI mk) (K, I, J) = some ((nI 1, 0, none), (K, I', J)) ∧ wy_at I' w p (W.lieAt j mk) ∧ pm_fr I I' w 3 := by
  obtain ⟨⟨hd, ff, h1⟩, h2, h3, h4⟩ := h
  obtain ⟨I1, g1, g2, g4⟩ := wc_change (J := J) L h1 hj hm hm2 d
  refine ⟨I1, g1, ⟨⟨hd, ff, g2⟩, wv_lie h2 hj hm2, ?_, h4⟩, fun a ha => g4 a (by omega)⟩
  rw [g4 w (by omega)]
  exact h3
theorem wy_lie0 (L : wl_ok K w) (h : wy_at I w p W) {x : Int32} {mk : Nat} (hm2 : mk < 256) (hx : wu_in x W.q.length = 0 ∨ mk = 0) (d : Nat) : f_X7_changeByte d w x (nI mk) (K, I, J) = some ((nI 0, 0, none), (K, I, J)) := by
  obtain ⟨⟨hd, ff, h1⟩, h2, h3, h4⟩ := h
  exact wc_change0 L h1 x hm2 hx d
theorem wy_clear (L : wl_ok K w) (h : wy_at I w p W) (d : Nat) : ∃ I' : pm_I, f_X7_clear d w (K, I, J) = some ((0, 0, none), (K, I', J)) ∧ wy_at I' w p W.none ∧ pm_fr I I' w 1 := by
  obtain ⟨h1, h2, h3, h4⟩ := h
  obtain ⟨I1, g1, g2, g3, g4⟩ := wc_clear (J := J) L h1 d
  exact ⟨I1, g1, ⟨g2, (show wv_ok [] [] 0 from ⟨by simp, by simp, rfl, by simp⟩), g3.trans h3, h4⟩, fun a ha => g4 a (by omega)⟩
theorem wy_un (L : wl_ok K w) (h : wy_at I w p W) (d : Nat) : f_X7_untouched d w (K, I, J) = some ((nI W.un, 0, none), (K, I, J)) := by
  obtain ⟨⟨hd, ff, h1⟩, h2, h3, h4⟩ := h
  exact wc_untouchedA L h1 h2 d
theorem wy_len (h : wy_at I w p W) : I w 5 = nI W.q.length ∧ W.q.length ≤ 2000 := by
  obtain ⟨⟨hd, ff, q4, q5, q6, q7, q8, q9, b1, b2, q10⟩, h2⟩ := h
  exact ⟨q5, by omega⟩
theorem wy_rf (h : wy_at I w p W) : I w 9 = nI W.rf := by
  obtain ⟨⟨hd, ff, q4, q5, q6, q7, q8, q9, b1, b2, q10⟩, h2⟩ := h
  exact q9
theorem tc_w0 (h : tc_at I J p T) (e : pm_fr I I' 1 4) (hw : wy_at I' 1 p W) : tc_at I' J p (T.setW0 W) := by
  have hk : kc_at I' J p W T.cs T.mk T.ck := by
    obtain ⟨h1, h2, h3, h4, h5, h6, h7⟩ := h.1
    refine ⟨hw, ?_, ?_, h4, h5, fun i hi => cc_congr (h6 i hi) (fun a _ _ => e a (by omega)) (fun _ _ _ => rfl), h7⟩
    · rw [e 13 (by omega)]
      exact h2
    · rw [e 13 (by omega)]
      exact h3
  exact tc_kc h hk (fun a ha => e a (by omega)) (kg_at.refl _)
theorem tc_w1 (h : tc_at I J p T) (e : pm_fr I I' 5 4) (hw : wy_at I' 5 p W) : tc_at I' J p (T.setW1 W) := tc_sv h (sv_way h.2.1 e hw) (fun a ha => e a (by omega)) (sf_at.refl _)
theorem tc_isEnd {x : Int32} {σ : am_H} (d : Nat) : f_X8_isEnd d x σ = some ((nI (if x = nI 0 ∨ x = nI 1 then 1 else 0), 0, none), σ) := by
  rw [e_X8_isEnd]
  by_cases c0 : x = nI 0
  · rw [if_pos (Or.inl c0)]
    simp (disch := first | assumption | omega) only [pm_gI, pm_gJ, pm_gR, pm_pI, pm_pZ, pm_pJ, pm_ldI, pm_ldJ, pm_ldR, pm_stI, pm_stZ, pm_stJ, pm_pZ0, pm_pZ1, pm_stZ0, pm_stZ1, pm_len, pm_cpyI, pm_cpyJ, pm_is, Option.bind_some, pm_u, pm_ur, pm_lt, pm_le, pm_eq, pm_ne, pm_add, pm_sub, pm_z0, pm_z1, cond_true, cond_false, decide_true, decide_false, not_false_eq_true, not_true_eq_false, reduceIte, Nat.reduceEqDiff, Nat.add_eq_left, Nat.left_eq_add, Nat.add_left_cancel_iff, Nat.one_ne_zero, am_cs, c0]
  · by_cases c1 : x = nI 1
    · rw [if_pos (Or.inr c1)]
      simp (disch := first | assumption | omega) only [pm_gI, pm_gJ, pm_gR, pm_pI, pm_pZ, pm_pJ, pm_ldI, pm_ldJ, pm_ldR, pm_stI, pm_stZ, pm_stJ, pm_pZ0, pm_pZ1, pm_stZ0, pm_stZ1, pm_len, pm_cpyI, pm_cpyJ, pm_is, Option.bind_some, pm_u, pm_ur, pm_lt, pm_le, pm_eq, pm_ne, pm_add, pm_sub, pm_z0, pm_z1, cond_true, cond_false, decide_true, decide_false, not_false_eq_true, not_true_eq_false, reduceIte, Nat.reduceEqDiff, Nat.add_eq_left, Nat.left_eq_add, Nat.add_left_cancel_iff, Nat.one_ne_zero, am_cs, c0, c1]
    · rw [if_neg (by rintro (h | h) <;> contradiction)]
      simp (disch := first | assumption | omega) only [pm_gI, pm_gJ, pm_gR, pm_pI, pm_pZ, pm_pJ, pm_ldI, pm_ldJ, pm_ldR, pm_stI, pm_stZ, pm_stJ, pm_pZ0, pm_pZ1, pm_stZ0, pm_stZ1, pm_len, pm_cpyI, pm_cpyJ, pm_is, Option.bind_some, pm_u, pm_ur, pm_lt, pm_le, pm_eq, pm_ne, pm_add, pm_sub, pm_z0, pm_z1, cond_true, cond_false, decide_true, decide_false, not_false_eq_true, not_true_eq_false, reduceIte, Nat.reduceEqDiff, Nat.add_eq_left, Nat.left_eq_add, Nat.add_left_cancel_iff, Nat.one_ne_zero, am_cs, c0, c1]
theorem tc_wayFrom (L : tl_ok K) {x : Int32} (d : Nat) : f_X8_wayFrom d 0 x (K, I, J) = some ((0, 0, some (if x = nI 0 then 1 else 5)), (K, I, J)) := by
  obtain ⟨l0, l1, l2, l3, l4, l5, l6, l7, l8, l9, l10⟩ := L
  rw [e_X8_wayFrom]
  by_cases c0 : x = nI 0
  · rw [if_pos c0]
    simp (disch := first | assumption | omega) only [pm_gI, pm_gJ, pm_gR, pm_pI, pm_pZ, pm_pJ, pm_ldI, pm_ldJ, pm_ldR, pm_stI, pm_stZ, pm_stJ, pm_pZ0, pm_pZ1, pm_stZ0, pm_stZ1, pm_len, pm_cpyI, pm_cpyJ, pm_is, Option.bind_some, pm_u, pm_ur, pm_lt, pm_le, pm_eq, pm_ne, pm_add, pm_sub, pm_z0, pm_z1, cond_true, cond_false, decide_true, decide_false, not_false_eq_true, not_true_eq_false, reduceIte, Nat.reduceEqDiff, Nat.add_eq_left, Nat.left_eq_add, Nat.add_left_cancel_iff, Nat.one_ne_zero, am_cs, c0]
  · rw [if_neg c0]
    simp (disch := first | assumption | omega) only [pm_gI, pm_gJ, pm_gR, pm_pI, pm_pZ, pm_pJ, pm_ldI, pm_ldJ, pm_ldR, pm_stI, pm_stZ, pm_stJ, pm_pZ0, pm_pZ1, pm_stZ0, pm_stZ1, pm_len, pm_cpyI, pm_cpyJ, pm_is, Option.bind_some, pm_u, pm_ur, pm_lt, pm_le, pm_eq, pm_ne, pm_add, pm_sub, pm_z0, pm_z1, cond_true, cond_false, decide_true, decide_false, not_false_eq_true, not_true_eq_false, reduceIte, Nat.reduceEqDiff, Nat.add_eq_left, Nat.left_eq_add, Nat.add_left_cancel_iff, Nat.one_ne_zero, am_cs, c0]
theorem px_10 : ¬ nI 1 = nI 0 := by decide +kernel
def st_underway (x y : Int32) (T : sT) : Int32 := if x = nI 0 then (if y < 0 then -nI 1 else if nI T.w0.q.length ≤ y then -nI 1 else nI (T.w0.q.getD y.toNatClampNeg 0)) else if x = nI 1 then (if y < 0 then -nI 1 else if nI T.w1.q.length ≤ y then -nI 1 else nI (T.w1.q.getD y.toNatClampNeg 0)) else -nI 1
theorem tc_underway (L : tl_ok K) (h : tc_at I J p T) (x y : Int32) (d : Nat) : f_X8_underway (d + 1) 0 x y (K, I, J) = some ((st_underway x y T, 0, none), (K, I, J)) := by
  have he := tc_isEnd (x := x) (σ := (K, I, J)) d
  have hw := tc_wayFrom (I := I) (J := J) (x := x) L d
  have b0 := wc_byteAt (J := J) L.2.2.2.2.2.2.2.1.2.2.2.2.1 h.1.1.1 y d
  have b1 := wc_byteAt (J := J) L.2.2.2.2.2.2.2.2.1.2.2.2.2.2.2.2.2.2.2.1 h.2.1.1.1 y d
  obtain ⟨l0, l1, l2, l3, l4, l5, l6, l7, l8, l9, l10⟩ := L
  have w0 := l7.2.2.2.2.1.1
  have w1 := l8.2.2.2.2.2.2.2.2.2.2.1.1
  rw [e_X8_underway]
  unfold st_underway
  by_cases c0 : x = nI 0
  · rw [if_pos (Or.inl c0)] at he
    rw [if_pos c0] at hw ⊢
    simp (disch := first | assumption | omega) only [pm_gI, pm_gJ, pm_gR, pm_pI, pm_pZ, pm_pJ, pm_ldI, pm_ldJ, pm_ldR, pm_stI, pm_stZ, pm_stJ, pm_pZ0, pm_pZ1, pm_stZ0, pm_stZ1, pm_len, pm_cpyI, pm_cpyJ, pm_is, Option.bind_some, pm_u, pm_ur, pm_lt, pm_le, pm_eq, pm_ne, pm_add, pm_sub, pm_z0, pm_z1, cond_true, cond_false, decide_true, decide_false, not_false_eq_true, not_true_eq_false, reduceIte, Nat.reduceEqDiff, Nat.add_eq_left, Nat.left_eq_add, Nat.add_left_cancel_iff, Nat.one_ne_zero, am_cs, he, hw, b0]
  · rw [if_neg c0] at hw ⊢
    by_cases c1 : x = nI 1
    · rw [if_pos (Or.inr c1)] at he
      rw [if_pos c1]
      simp (disch := first | assumption | omega) only [pm_gI, pm_gJ, pm_gR, pm_pI, pm_pZ, pm_pJ, pm_ldI, pm_ldJ, pm_ldR, pm_stI, pm_stZ, pm_stJ, pm_pZ0, pm_pZ1, pm_stZ0, pm_stZ1, pm_len, pm_cpyI, pm_cpyJ, pm_is, Option.bind_some, pm_u, pm_ur, pm_lt, pm_le, pm_eq, pm_ne, pm_add, pm_sub, pm_z0, pm_z1, cond_true, cond_false, decide_true, decide_false, not_false_eq_true, not_true_eq_false, reduceIte, Nat.reduceEqDiff, Nat.add_eq_left, Nat.left_eq_add, Nat.add_left_cancel_iff, Nat.one_ne_zero, am_cs, he, hw, b1]
    · rw [if_neg (by rintro (h | h) <;> contradiction)] at he
      rw [if_neg c1]
      simp (disch := first | assumption | omega) only [pm_gI, pm_gJ, pm_gR, pm_pI, pm_pZ, pm_pJ, pm_ldI, pm_ldJ, pm_ldR, pm_stI, pm_stZ, pm_stJ, pm_pZ0, pm_pZ1, pm_stZ0, pm_stZ1, pm_len, pm_cpyI, pm_cpyJ, pm_is, Option.bind_some, pm_u, pm_ur, pm_lt, pm_le, pm_eq, pm_ne, pm_add, pm_sub, pm_z0, pm_z1, cond_true, cond_false, decide_true, decide_false, not_false_eq_true, not_true_eq_false, reduceIte, Nat.reduceEqDiff, Nat.add_eq_left, Nat.left_eq_add, Nat.add_left_cancel_iff, Nat.one_ne_zero, am_cs, he]
def st_lose (x y : Int32) (T : sT) : Int32 × sT := if x = nI 0 then (if wu_in y T.w0.un = 1 then (nI 1, T.setW0 (T.w0.drop y.toNatClampNeg)) else (nI 0, T)) else if x = nI 1 then (if wu_in y T.w1.un = 1 then (nI 1, T.setW1 (T.w1.drop y.toNatClampNeg)) else (nI 0, T)) else (nI 0, T)
theorem wy_un_le (h : wy_at I w p W) : W.un < 1000 := by
  obtain ⟨⟨hd, ff, q4, q5, q6, q7, q8, q9, b1, b2, q10⟩, h2⟩ := h
  unfold sWy.un
  omega
theorem tc_lose (L : tl_ok K) (h : tc_at I J p T) (x y : Int32) (d : Nat) : ∃ I' : pm_I, f_X8_lose (d + 3) 0 x y (K, I, J) = some (((st_lose x y T).1, 0, none), (K, I', J)) ∧ tc_at I' J p (st_lose x y T).2 ∧ tf_at I I' := by
  have he := tc_isEnd (x := x) (σ := (K, I, J)) (d + 2)
  have hw := tc_wayFrom (I := I) (J := J) (x := x) L (d + 2)
  obtain ⟨l0, l1, l2, l3, l4, l5, l6, l7, l8, l9, l10⟩ := L
  have w0 := l7.2.2.2.2.1.1
  have w1 := l8.2.2.2.2.2.2.2.2.2.2.1.1
  rw [e_X8_lose]
  unfold st_lose
  by_cases c0 : x = nI 0
  · rw [if_pos (Or.inl c0)] at he
    rw [if_pos c0] at hw ⊢
    by_cases c2 : wu_in y T.w0.un = 1
    · rw [if_pos c2]
      obtain ⟨j, hj, rfl⟩ := wu_in1 (by have := wy_un_le h.1.1; omega) c2
      rw [nI_clamp (by have := wy_un_le h.1.1; omega)]
      obtain ⟨I1, g1, g2, g3⟩ := wy_drop (J := J) l7.2.2.2.2.1 h.1.1 hj d
      simp (disch := first | assumption | omega) only [pm_gI, pm_gJ, pm_gR, pm_pI, pm_pZ, pm_pJ, pm_ldI, pm_ldJ, pm_ldR, pm_stI, pm_stZ, pm_stJ, pm_pZ0, pm_pZ1, pm_stZ0, pm_stZ1, pm_len, pm_cpyI, pm_cpyJ, pm_is, Option.bind_some, pm_u, pm_ur, pm_lt, pm_le, pm_eq, pm_ne, pm_add, pm_sub, pm_z0, pm_z1, cond_true, cond_false, decide_true, decide_false, not_false_eq_true, not_true_eq_false, reduceIte, Nat.reduceEqDiff, Nat.add_eq_left, Nat.left_eq_add, Nat.add_left_cancel_iff, Nat.one_ne_zero, am_cs, he, hw, g1]
      exact ⟨I1, rfl, tc_w0 h (g3.mono (by omega) (by omega)) g2, tf_fr g3 (by omega)⟩
    · rw [if_neg c2]
      have g1 := wy_drop0 (J := J) l7.2.2.2.2.1 h.1.1 (wu_0 c2) d
      simp (disch := first | assumption | omega) only [pm_gI, pm_gJ, pm_gR, pm_pI, pm_pZ, pm_pJ, pm_ldI, pm_ldJ, pm_ldR, pm_stI, pm_stZ, pm_stJ, pm_pZ0, pm_pZ1, pm_stZ0, pm_stZ1, pm_len, pm_cpyI, pm_cpyJ, pm_is, Option.bind_some, pm_u, pm_ur, pm_lt, pm_le, pm_eq, pm_ne, pm_add, pm_sub, pm_z0, pm_z1, cond_true, cond_false, decide_true, decide_false, not_false_eq_true, not_true_eq_false, reduceIte, Nat.reduceEqDiff, Nat.add_eq_left, Nat.left_eq_add, Nat.add_left_cancel_iff, Nat.one_ne_zero, am_cs, he, hw, g1]
      exact ⟨I, rfl, h, tf_at.refl _⟩
  · rw [if_neg c0] at hw ⊢
    by_cases c1 : x = nI 1
    · rw [if_pos (Or.inr c1)] at he
      rw [if_pos c1]
      by_cases c2 : wu_in y T.w1.un = 1
      · rw [if_pos c2]
        obtain ⟨j, hj, rfl⟩ := wu_in1 (by have := wy_un_le h.2.1.1; omega) c2
        rw [nI_clamp (by have := wy_un_le h.2.1.1; omega)]
        obtain ⟨I1, g1, g2, g3⟩ := wy_drop (J := J) l8.2.2.2.2.2.2.2.2.2.2.1 h.2.1.1 hj d
        simp (disch := first | assumption | omega) only [pm_gI, pm_gJ, pm_gR, pm_pI, pm_pZ, pm_pJ, pm_ldI, pm_ldJ, pm_ldR, pm_stI, pm_stZ, pm_stJ, pm_pZ0, pm_pZ1, pm_stZ0, pm_stZ1, pm_len, pm_cpyI, pm_cpyJ, pm_is, Option.bind_some, pm_u, pm_ur, pm_lt, pm_le, pm_eq, pm_ne, pm_add, pm_sub, pm_z0, pm_z1, cond_true, cond_false, decide_true, decide_false, not_false_eq_true, not_true_eq_false, reduceIte, Nat.reduceEqDiff, Nat.add_eq_left, Nat.left_eq_add, Nat.add_left_cancel_iff, Nat.one_ne_zero, am_cs, he, hw, g1]
        exact ⟨I1, rfl, tc_w1 h (g3.mono (by omega) (by omega)) g2, tf_fr g3 (by omega)⟩
      · rw [if_neg c2]
        have g1 := wy_drop0 (J := J) l8.2.2.2.2.2.2.2.2.2.2.1 h.2.1.1 (wu_0 c2) d
        simp (disch := first | assumption | omega) only [pm_gI, pm_gJ, pm_gR, pm_pI, pm_pZ, pm_pJ, pm_ldI, pm_ldJ, pm_ldR, pm_stI, pm_stZ, pm_stJ, pm_pZ0, pm_pZ1, pm_stZ0, pm_stZ1, pm_len, pm_cpyI, pm_cpyJ, pm_is, Option.bind_some, pm_u, pm_ur, pm_lt, pm_le, pm_eq, pm_ne, pm_add, pm_sub, pm_z0, pm_z1, cond_true, cond_false, decide_true, decide_false, not_false_eq_true, not_true_eq_false, reduceIte, Nat.reduceEqDiff, Nat.add_eq_left, Nat.left_eq_add, Nat.add_left_cancel_iff, Nat.one_ne_zero, am_cs, he, hw, g1]
        exact ⟨I, rfl, h, tf_at.refl _⟩
    · rw [if_neg (by rintro (h | h) <;> contradiction)] at he
      rw [if_neg c1]
      simp (disch := first | assumption | omega) only [pm_gI, pm_gJ, pm_gR, pm_pI, pm_pZ, pm_pJ, pm_ldI, pm_ldJ, pm_ldR, pm_stI, pm_stZ, pm_stJ, pm_pZ0, pm_pZ1, pm_stZ0, pm_stZ1, pm_len, pm_cpyI, pm_cpyJ, pm_is, Option.bind_some, pm_u, pm_ur, pm_lt, pm_le, pm_eq, pm_ne, pm_add, pm_sub, pm_z0, pm_z1, cond_true, cond_false, decide_true, decide_false, not_false_eq_true, not_true_eq_false, reduceIte, Nat.reduceEqDiff, Nat.add_eq_left, Nat.left_eq_add, Nat.add_left_cancel_iff, Nat.one_ne_zero, am_cs, he]
      exact ⟨I, rfl, h, tf_at.refl _⟩
def st_twice (x y : Int32) (T : sT) : Int32 × sT := if x = nI 0 then (if wu_in y T.w0.un = 1 then (nI 1, T.setW0 (T.w0.dup y.toNatClampNeg)) else (nI 0, T)) else if x = nI 1 then (if wu_in y T.w1.un = 1 then (nI 1, T.setW1 (T.w1.dup y.toNatClampNeg)) else (nI 0, T)) else (nI 0, T)
theorem tc_twice (L : tl_ok K) (h : tc_at I J p T) (x y : Int32) (d : Nat) : ∃ I' : pm_I, f_X8_twice (d + 3) 0 x y (K, I, J) = some (((st_twice x y T).1, 0, none), (K, I', J)) ∧ tc_at I' J p (st_twice x y T).2 ∧ tf_at I I' := by
  have he := tc_isEnd (x := x) (σ := (K, I, J)) (d + 2)
  have hw := tc_wayFrom (I := I) (J := J) (x := x) L (d + 2)
  obtain ⟨l0, l1, l2, l3, l4, l5, l6, l7, l8, l9, l10⟩ := L
  have w0 := l7.2.2.2.2.1.1
  have w1 := l8.2.2.2.2.2.2.2.2.2.2.1.1
  rw [e_X8_twice]
  unfold st_twice
  by_cases c0 : x = nI 0
  · rw [if_pos (Or.inl c0)] at he
    rw [if_pos c0] at hw ⊢
    by_cases c2 : wu_in y T.w0.un = 1
    · rw [if_pos c2]
      obtain ⟨j, hj, rfl⟩ := wu_in1 (by have := wy_un_le h.1.1; omega) c2
      rw [nI_clamp (by have := wy_un_le h.1.1; omega)]
      obtain ⟨I1, g1, g2, g3⟩ := wy_dup (J := J) l7.2.2.2.2.1 h.1.1 hj d
      simp (disch := first | assumption | omega) only [pm_gI, pm_gJ, pm_gR, pm_pI, pm_pZ, pm_pJ, pm_ldI, pm_ldJ, pm_ldR, pm_stI, pm_stZ, pm_stJ, pm_pZ0, pm_pZ1, pm_stZ0, pm_stZ1, pm_len, pm_cpyI, pm_cpyJ, pm_is, Option.bind_some, pm_u, pm_ur, pm_lt, pm_le, pm_eq, pm_ne, pm_add, pm_sub, pm_z0, pm_z1, cond_true, cond_false, decide_true, decide_false, not_false_eq_true, not_true_eq_false, reduceIte, Nat.reduceEqDiff, Nat.add_eq_left, Nat.left_eq_add, Nat.add_left_cancel_iff, Nat.one_ne_zero, am_cs, he, hw, g1]
      exact ⟨I1, rfl, tc_w0 h (g3.mono (by omega) (by omega)) g2, tf_fr g3 (by omega)⟩
    · rw [if_neg c2]
      have g1 := wy_dup0 (J := J) l7.2.2.2.2.1 h.1.1 (wu_0 c2) d
      simp (disch := first | assumption | omega) only [pm_gI, pm_gJ, pm_gR, pm_pI, pm_pZ, pm_pJ, pm_ldI, pm_ldJ, pm_ldR, pm_stI, pm_stZ, pm_stJ, pm_pZ0, pm_pZ1, pm_stZ0, pm_stZ1, pm_len, pm_cpyI, pm_cpyJ, pm_is, Option.bind_some, pm_u, pm_ur, pm_lt, pm_le, pm_eq, pm_ne, pm_add, pm_sub, pm_z0, pm_z1, cond_true, cond_false, decide_true, decide_false, not_false_eq_true, not_true_eq_false, reduceIte, Nat.reduceEqDiff, Nat.add_eq_left, Nat.left_eq_add, Nat.add_left_cancel_iff, Nat.one_ne_zero, am_cs, he, hw, g1]
      exact ⟨I, rfl, h, tf_at.refl _⟩
  · rw [if_neg c0] at hw ⊢
    by_cases c1 : x = nI 1
    · rw [if_pos (Or.inr c1)] at he
      rw [if_pos c1]
      by_cases c2 : wu_in y T.w1.un = 1
      · rw [if_pos c2]
        obtain ⟨j, hj, rfl⟩ := wu_in1 (by have := wy_un_le h.2.1.1; omega) c2
        rw [nI_clamp (by have := wy_un_le h.2.1.1; omega)]
        obtain ⟨I1, g1, g2, g3⟩ := wy_dup (J := J) l8.2.2.2.2.2.2.2.2.2.2.1 h.2.1.1 hj d
        simp (disch := first | assumption | omega) only [pm_gI, pm_gJ, pm_gR, pm_pI, pm_pZ, pm_pJ, pm_ldI, pm_ldJ, pm_ldR, pm_stI, pm_stZ, pm_stJ, pm_pZ0, pm_pZ1, pm_stZ0, pm_stZ1, pm_len, pm_cpyI, pm_cpyJ, pm_is, Option.bind_some, pm_u, pm_ur, pm_lt, pm_le, pm_eq, pm_ne, pm_add, pm_sub, pm_z0, pm_z1, cond_true, cond_false, decide_true, decide_false, not_false_eq_true, not_true_eq_false, reduceIte, Nat.reduceEqDiff, Nat.add_eq_left, Nat.left_eq_add, Nat.add_left_cancel_iff, Nat.one_ne_zero, am_cs, he, hw, g1]
        exact ⟨I1, rfl, tc_w1 h (g3.mono (by omega) (by omega)) g2, tf_fr g3 (by omega)⟩
      · rw [if_neg c2]
        have g1 := wy_dup0 (J := J) l8.2.2.2.2.2.2.2.2.2.2.1 h.2.1.1 (wu_0 c2) d
        simp (disch := first | assumption | omega) only [pm_gI, pm_gJ, pm_gR, pm_pI, pm_pZ, pm_pJ, pm_ldI, pm_ldJ, pm_ldR, pm_stI, pm_stZ, pm_stJ, pm_pZ0, pm_pZ1, pm_stZ0, pm_stZ1, pm_len, pm_cpyI, pm_cpyJ, pm_is, Option.bind_some, pm_u, pm_ur, pm_lt, pm_le, pm_eq, pm_ne, pm_add, pm_sub, pm_z0, pm_z1, cond_true, cond_false, decide_true, decide_false, not_false_eq_true, not_true_eq_false, reduceIte, Nat.reduceEqDiff, Nat.add_eq_left, Nat.left_eq_add, Nat.add_left_cancel_iff, Nat.one_ne_zero, am_cs, he, hw, g1]
        exact ⟨I, rfl, h, tf_at.refl _⟩
    · rw [if_neg (by rintro (h | h) <;> contradiction)] at he
      rw [if_neg c1]
      simp (disch := first | assumption | omega) only [pm_gI, pm_gJ, pm_gR, pm_pI, pm_pZ, pm_pJ, pm_ldI, pm_ldJ, pm_ldR, pm_stI, pm_stZ, pm_stJ, pm_pZ0, pm_pZ1, pm_stZ0, pm_stZ1, pm_len, pm_cpyI, pm_cpyJ, pm_is, Option.bind_some, pm_u, pm_ur, pm_lt, pm_le, pm_eq, pm_ne, pm_add, pm_sub, pm_z0, pm_z1, cond_true, cond_false, decide_true, decide_false, not_false_eq_true, not_true_eq_false, reduceIte, Nat.reduceEqDiff, Nat.add_eq_left, Nat.left_eq_add, Nat.add_left_cancel_iff, Nat.one_ne_zero, am_cs, he]
      exact ⟨I, rfl, h, tf_at.refl _⟩
def st_lie (x y z : Int32) (T : sT) : Int32 × sT := if x = nI 0 then (if wu_in y T.w0.q.length = 1 ∧ 0 < by8 z then (nI 1, T.setW0 (T.w0.lieAt y.toNatClampNeg (by8 z))) else (nI 0, T)) else if x = nI 1 then (if wu_in y T.w1.q.length = 1 ∧ 0 < by8 z then (nI 1, T.setW1 (T.w1.lieAt y.toNatClampNeg (by8 z))) else (nI 0, T)) else (nI 0, T)
theorem tc_lie (L : tl_ok K) (h : tc_at I J p T) (x y z : Int32) (d : Nat) : ∃ I' : pm_I, f_X8_lie (d + 1) 0 x y z (K, I, J) = some (((st_lie x y z T).1, 0, none), (K, I', J)) ∧ tc_at I' J p (st_lie x y z T).2 ∧ tf_at I I' := by
  have he := tc_isEnd (x := x) (σ := (K, I, J)) d
  have hw := tc_wayFrom (I := I) (J := J) (x := x) L d
  obtain ⟨l0, l1, l2, l3, l4, l5, l6, l7, l8, l9, l10⟩ := L
  have w0 := l7.2.2.2.2.1.1
  have w1 := l8.2.2.2.2.2.2.2.2.2.2.1.1
  obtain ⟨hz1, hz2⟩ := by8_eq z
  rw [e_X8_lie]
  unfold st_lie
  by_cases c0 : x = nI 0
  · rw [if_pos (Or.inl c0)] at he
    rw [if_pos c0] at hw ⊢
    have hl := (wy_len h.1.1).2
    by_cases c2 : wu_in y T.w0.q.length = 1 ∧ 0 < by8 z
    · rw [if_pos c2]
      obtain ⟨j, hj, rfl⟩ := wu_in1 (by omega) c2.1
      rw [nI_clamp (by omega)]
      obtain ⟨I1, g1, g2, g3⟩ := wy_lie (J := J) l7.2.2.2.2.1 h.1.1 hj c2.2 hz1 d
      simp (disch := first | assumption | omega) only [pm_gI, pm_gJ, pm_gR, pm_pI, pm_pZ, pm_pJ, pm_ldI, pm_ldJ, pm_ldR, pm_stI, pm_stZ, pm_stJ, pm_pZ0, pm_pZ1, pm_stZ0, pm_stZ1, pm_len, pm_cpyI, pm_cpyJ, pm_is, Option.bind_some, pm_u, pm_ur, pm_lt, pm_le, pm_eq, pm_ne, pm_add, pm_sub, pm_z0, pm_z1, cond_true, cond_false, decide_true, decide_false, not_false_eq_true, not_true_eq_false, reduceIte, Nat.reduceEqDiff, Nat.add_eq_left, Nat.left_eq_add, Nat.add_left_cancel_iff, Nat.one_ne_zero, am_cs, he, hw, hz2, g1]
      exact ⟨I1, rfl, tc_w0 h (g3.mono (by omega) (by omega)) g2, tf_fr g3 (by omega)⟩
    · rw [if_neg c2]
      have g1 := wy_lie0 (J := J) (x := y) l7.2.2.2.2.1 h.1.1 hz1 (by
        by_cases c3 : wu_in y T.w0.q.length = 1
        · exact Or.inr (by omega)
        · exact Or.inl (wu_0 c3)) d
      simp (disch := first | assumption | omega) only [pm_gI, pm_gJ, pm_gR, pm_pI, pm_pZ, pm_pJ, pm_ldI, pm_ldJ, pm_ldR, pm_stI, pm_stZ, pm_stJ, pm_pZ0, pm_pZ1, pm_stZ0, pm_stZ1, pm_len, pm_cpyI, pm_cpyJ, pm_is, Option.bind_some, pm_u, pm_ur, pm_lt, pm_le, pm_eq, pm_ne, pm_add, pm_sub, pm_z0, pm_z1, cond_true, cond_false, decide_true, decide_false, not_false_eq_true, not_true_eq_false, reduceIte, Nat.reduceEqDiff, Nat.add_eq_left, Nat.left_eq_add, Nat.add_left_cancel_iff, Nat.one_ne_zero, am_cs, he, hw, hz2, g1]
      exact ⟨I, rfl, h, tf_at.refl _⟩
  · rw [if_neg c0] at hw ⊢
    by_cases c1 : x = nI 1
    · rw [if_pos (Or.inr c1)] at he
      rw [if_pos c1]
      have hl := (wy_len h.2.1.1).2
      by_cases c2 : wu_in y T.w1.q.length = 1 ∧ 0 < by8 z
      · rw [if_pos c2]
        obtain ⟨j, hj, rfl⟩ := wu_in1 (by omega) c2.1
        rw [nI_clamp (by omega)]
        obtain ⟨I1, g1, g2, g3⟩ := wy_lie (J := J) l8.2.2.2.2.2.2.2.2.2.2.1 h.2.1.1 hj c2.2 hz1 d
        simp (disch := first | assumption | omega) only [pm_gI, pm_gJ, pm_gR, pm_pI, pm_pZ, pm_pJ, pm_ldI, pm_ldJ, pm_ldR, pm_stI, pm_stZ, pm_stJ, pm_pZ0, pm_pZ1, pm_stZ0, pm_stZ1, pm_len, pm_cpyI, pm_cpyJ, pm_is, Option.bind_some, pm_u, pm_ur, pm_lt, pm_le, pm_eq, pm_ne, pm_add, pm_sub, pm_z0, pm_z1, cond_true, cond_false, decide_true, decide_false, not_false_eq_true, not_true_eq_false, reduceIte, Nat.reduceEqDiff, Nat.add_eq_left, Nat.left_eq_add, Nat.add_left_cancel_iff, Nat.one_ne_zero, am_cs, he, hw, hz2, g1]
        exact ⟨I1, rfl, tc_w1 h (g3.mono (by omega) (by omega)) g2, tf_fr g3 (by omega)⟩
      · rw [if_neg c2]
        have g1 := wy_lie0 (J := J) (x := y) l8.2.2.2.2.2.2.2.2.2.2.1 h.2.1.1 hz1 (by
          by_cases c3 : wu_in y T.w1.q.length = 1
          · exact Or.inr (by omega)
          · exact Or.inl (wu_0 c3)) d
        simp (disch := first | assumption | omega) only [pm_gI, pm_gJ, pm_gR, pm_pI, pm_pZ, pm_pJ, pm_ldI, pm_ldJ, pm_ldR, pm_stI, pm_stZ, pm_stJ, pm_pZ0, pm_pZ1, pm_stZ0, pm_stZ1, pm_len, pm_cpyI, pm_cpyJ, pm_is, Option.bind_some, pm_u, pm_ur, pm_lt, pm_le, pm_eq, pm_ne, pm_add, pm_sub, pm_z0, pm_z1, cond_true, cond_false, decide_true, decide_false, not_false_eq_true, not_true_eq_false, reduceIte, Nat.reduceEqDiff, Nat.add_eq_left, Nat.left_eq_add, Nat.add_left_cancel_iff, Nat.one_ne_zero, am_cs, he, hw, hz2, g1]
        exact ⟨I, rfl, h, tf_at.refl _⟩
    · rw [if_neg (by rintro (h | h) <;> contradiction)] at he
      rw [if_neg c1]
      simp (disch := first | assumption | omega) only [pm_gI, pm_gJ, pm_gR, pm_pI, pm_pZ, pm_pJ, pm_ldI, pm_ldJ, pm_ldR, pm_stI, pm_stZ, pm_stJ, pm_pZ0, pm_pZ1, pm_stZ0, pm_stZ1, pm_len, pm_cpyI, pm_cpyJ, pm_is, Option.bind_some, pm_u, pm_ur, pm_lt, pm_le, pm_eq, pm_ne, pm_add, pm_sub, pm_z0, pm_z1, cond_true, cond_false, decide_true, decide_false, not_false_eq_true, not_true_eq_false, reduceIte, Nat.reduceEqDiff, Nat.add_eq_left, Nat.left_eq_add, Nat.add_left_cancel_iff, Nat.one_ne_zero, am_cs, he]
      exact ⟨I, rfl, h, tf_at.refl _⟩
end TP3
