/-! THE CLASS'S WAY: room, frames that are sent, lost, doubled -/
def wc_at (I : pm_I) (w hd ff : Nat) (q fs : List Nat) (ar rf : Nat) : Prop := I w 4 = nI hd ∧ I w 5 = nI q.length ∧ I w 6 = nI ff ∧ I w 7 = nI fs.length ∧ I w 8 = nI ar ∧ I w 9 = nI rf ∧ hd + q.length ≤ 2000 ∧ ff + fs.length ≤ 400 ∧ (∀ i, i < q.length → I (w + 1) (hd + i) = nI (q.getD i 0)) ∧ (∀ i, i < fs.length → I (w + 2) (ff + i) = nI (fs.getD i 0))
theorem wc_at.ok {I : pm_I} {w hd ff : Nat} {q fs : List Nat} {ar rf : Nat} (h : wc_at I w hd ff q fs ar rf) : wc_ok I w q fs ar rf := ⟨hd, ff, h⟩
theorem wc_untouchedA {K : am_K} {I : pm_I} {J : pm_J} {w hd ff ar rf : Nat} {q fs : List Nat} (L : wl_ok K w) (hw : wc_at I w hd ff q fs ar rf) (hv : wv_ok q fs ar) (d : Nat) :
    f_X7_untouched d w (K, I, J) = some ((nI (fs.length - wu_first ar), 0, none), (K, I, J)) := by
  refine wc_untouched L hw.ok (by have := wv_ar hv; omega) (fun h => ?_) d
  rintro rfl
  have h3 : 0 = q.length + ar := hv.2.2.1
  omega
theorem wu_le {q fs : List Nat} {ar : Nat} (hv : wv_ok q fs ar) : wu_first ar ≤ fs.length := by
  unfold wu_first
  split
  · cases fs with
    | nil =>
      have h3 : 0 = q.length + ar := hv.2.2.1
      omega
    | cons _ _ => simp
  · omega
/-- whether there is an untouched frame of this number -/
def wu_in (x : Int32) (n : Nat) : Nat := if x < 0 then 0 else if nI n ≤ x then 0 else 1
theorem wc_isUn {K : am_K} {I : pm_I} {J : pm_J} {w hd ff ar rf : Nat} {q fs : List Nat} (L : wl_ok K w) (hw : wc_at I w hd ff q fs ar rf) (hv : wv_ok q fs ar) (x : Int32) (d : Nat) :
    f_X7_isUntouched (d + 1) w x (K, I, J) = some ((nI (wu_in x (fs.length - wu_first ar)), 0, none), (K, I, J)) := by
  have h1 := wc_untouchedA (J := J) L hw hv d
  obtain ⟨L0, L1, L2, L3, R1, R2, R3⟩ := L
  rw [e_X7_isUntouched]
  unfold wu_in
  by_cases h0 : x < 0
  · rw [if_pos h0, decide_eq_true (show x < nI 0 from h0)]
    simp (disch := first | assumption | omega) only [pm_gI, pm_gJ, pm_gR, pm_pI, pm_pZ, pm_pJ, pm_ldI, pm_ldJ, pm_ldR, pm_stI, pm_stZ, pm_stJ, pm_pZ0, pm_pZ1, pm_stZ0, pm_stZ1, pm_len, pm_cpyI, pm_cpyJ, pm_is, Option.bind_some, pm_u, pm_ur, pm_lt, pm_le, pm_eq, pm_ne, pm_add, pm_sub, pm_z0, pm_z1, cond_true, cond_false, decide_true, decide_false, not_false_eq_true, not_true_eq_false, reduceIte, Nat.reduceEqDiff, Nat.add_eq_left, Nat.left_eq_add, Nat.add_left_cancel_iff, Nat.one_ne_zero, am_cs]
  · rw [if_neg h0, decide_eq_false (show ¬ x < nI 0 from h0)]
    simp (disch := first | assumption | omega) only [pm_gI, pm_gJ, pm_gR, pm_pI, pm_pZ, pm_pJ, pm_ldI, pm_ldJ, pm_ldR, pm_stI, pm_stZ, pm_stJ, pm_pZ0, pm_pZ1, pm_stZ0, pm_stZ1, pm_len, pm_cpyI, pm_cpyJ, pm_is, Option.bind_some, pm_u, pm_ur, pm_lt, pm_le, pm_eq, pm_ne, pm_add, pm_sub, pm_z0, pm_z1, cond_true, cond_false, decide_true, decide_false, not_false_eq_true, not_true_eq_false, reduceIte, Nat.reduceEqDiff, Nat.add_eq_left, Nat.left_eq_add, Nat.add_left_cancel_iff, Nat.one_ne_zero, am_cs, h1]
    by_cases h2 : nI (fs.length - wu_first ar) ≤ x
    · rw [if_pos h2, decide_eq_true h2]
      simp (disch := first | assumption | omega) only [pm_gI, pm_gJ, pm_gR, pm_pI, pm_pZ, pm_pJ, pm_ldI, pm_ldJ, pm_ldR, pm_stI, pm_stZ, pm_stJ, pm_pZ0, pm_pZ1, pm_stZ0, pm_stZ1, pm_len, pm_cpyI, pm_cpyJ, pm_is, Option.bind_some, pm_u, pm_ur, pm_lt, pm_le, pm_eq, pm_ne, pm_add, pm_sub, pm_z0, pm_z1, cond_true, cond_false, decide_true, decide_false, not_false_eq_true, not_true_eq_false, reduceIte, Nat.reduceEqDiff, Nat.add_eq_left, Nat.left_eq_add, Nat.add_left_cancel_iff, Nat.one_ne_zero, am_cs]
    · rw [if_neg h2, decide_eq_false h2]
      simp (disch := first | assumption | omega) only [pm_gI, pm_gJ, pm_gR, pm_pI, pm_pZ, pm_pJ, pm_ldI, pm_ldJ, pm_ldR, pm_stI, pm_stZ, pm_stJ, pm_pZ0, pm_pZ1, pm_stZ0, pm_stZ1, pm_len, pm_cpyI, pm_cpyJ, pm_is, Option.bind_some, pm_u, pm_ur, pm_lt, pm_le, pm_eq, pm_ne, pm_add, pm_sub, pm_z0, pm_z1, cond_true, cond_false, decide_true, decide_false, not_false_eq_true, not_true_eq_false, reduceIte, Nat.reduceEqDiff, Nat.add_eq_left, Nat.left_eq_add, Nat.add_left_cancel_iff, Nat.one_ne_zero, am_cs]
theorem wc_frameIndex {K : am_K} {I : pm_I} {J : pm_J} {w hd ff ar rf j : Nat} {q fs : List Nat} (L : wl_ok K w) (hw : wc_at I w hd ff q fs ar rf) (hv : wv_ok q fs ar) (d : Nat) :
    f_X7_frameIndex (d + 1) w (nI j) (K, I, J) = some ((nI (ff + wu_first ar + j), 0, none), (K, I, J)) := by
  have h1 := wc_untouchedA (J := J) L hw hv d
  have h2 := wu_le hv
  obtain ⟨L0, L1, L2, L3, R1, R2, R3⟩ := L
  obtain ⟨h4, h5, h6, h7, h8, h9, b1, b2, hq, hs⟩ := hw
  rw [e_X7_frameIndex]
  simp (disch := first | assumption | omega) only [pm_gI, pm_gJ, pm_gR, pm_pI, pm_pZ, pm_pJ, pm_ldI, pm_ldJ, pm_ldR, pm_stI, pm_stZ, pm_stJ, pm_pZ0, pm_pZ1, pm_stZ0, pm_stZ1, pm_len, pm_cpyI, pm_cpyJ, pm_is, Option.bind_some, pm_u, pm_ur, pm_lt, pm_le, pm_eq, pm_ne, pm_add, pm_sub, pm_z0, pm_z1, cond_true, cond_false, decide_true, decide_false, not_false_eq_true, not_true_eq_false, reduceIte, Nat.reduceEqDiff, Nat.add_eq_left, Nat.left_eq_add, Nat.add_left_cancel_iff, Nat.one_ne_zero, am_cs, h6, h7, h1]
  congr 5
  omega
theorem wl_sum_take (fs : List Nat) (k : Nat) (h : k < fs.length) : (fs.take (k + 1)).sum = (fs.take k).sum + fs.getD k 0 := by
  rw [List.take_add_one, List.sum_append]
  simp [List.getD_eq_getElem?_getD, List.getElem?_eq_getElem h]
theorem wc_startLoop {K : am_K} {I : pm_I} {J : pm_J} {w hd ff ar rf k : Nat} {q fs : List Nat} (L : wl_ok K w) (hw : wc_at I w hd ff q fs ar rf) (hk : k ≤ fs.length) (d : Nat) :
    ∀ n i, i + n = k → l_X7_startOf_15 d w (nI (ff + k)) (nI (hd + (fs.take i).sum) - nI ar) (nI (ff + i)) (K, I, J) = some ((nI (hd + (fs.take k).sum) - nI ar, 0, none), (K, I, J)) := by
  obtain ⟨L0, L1, L2, L3, R1, R2, R3⟩ := L
  obtain ⟨h4, h5, h6, h7, h8, h9, b1, b2, hq, hs⟩ := hw
  intro n
  induction n with
  | zero =>
    intro i hi
    obtain rfl : i = k := by omega
    rw [e_l_X7_startOf_15]
    simp (disch := first | assumption | omega) only [pm_gI, pm_gJ, pm_gR, pm_pI, pm_pZ, pm_pJ, pm_ldI, pm_ldJ, pm_ldR, pm_stI, pm_stZ, pm_stJ, pm_pZ0, pm_pZ1, pm_stZ0, pm_stZ1, pm_len, pm_cpyI, pm_cpyJ, pm_is, Option.bind_some, pm_u, pm_ur, pm_lt, pm_le, pm_eq, pm_ne, pm_add, pm_sub, pm_z0, pm_z1, cond_true, cond_false, decide_true, decide_false, not_false_eq_true, not_true_eq_false, reduceIte, Nat.reduceEqDiff, Nat.add_eq_left, Nat.left_eq_add, Nat.add_left_cancel_iff, Nat.one_ne_zero, am_cs]
    rw [decide_eq_true (Nat.le_refl _)]
    rfl
  | succ n ih =>
    intro i hi
    have hsi := hs i (by omega)
    rw [e_l_X7_startOf_15]
    simp (disch := first | assumption | omega) only [pm_gI, pm_gJ, pm_gR, pm_pI, pm_pZ, pm_pJ, pm_ldI, pm_ldJ, pm_ldR, pm_stI, pm_stZ, pm_stJ, pm_pZ0, pm_pZ1, pm_stZ0, pm_stZ1, pm_len, pm_cpyI, pm_cpyJ, pm_is, Option.bind_some, pm_u, pm_ur, pm_lt, pm_le, pm_eq, pm_ne, pm_add, pm_sub, pm_z0, pm_z1, cond_true, cond_false, decide_true, decide_false, not_false_eq_true, not_true_eq_false, reduceIte, Nat.reduceEqDiff, Nat.add_eq_left, Nat.left_eq_add, Nat.add_left_cancel_iff, Nat.one_ne_zero, am_cs]
    rw [decide_eq_false (show ¬ ff + k ≤ ff + i by omega)]
    simp (disch := first | assumption | omega) only [pm_gI, pm_gJ, pm_gR, pm_pI, pm_pZ, pm_pJ, pm_ldI, pm_ldJ, pm_ldR, pm_stI, pm_stZ, pm_stJ, pm_pZ0, pm_pZ1, pm_stZ0, pm_stZ1, pm_len, pm_cpyI, pm_cpyJ, pm_is, Option.bind_some, pm_u, pm_ur, pm_lt, pm_le, pm_eq, pm_ne, pm_add, pm_sub, pm_z0, pm_z1, cond_true, cond_false, decide_true, decide_false, not_false_eq_true, not_true_eq_false, reduceIte, Nat.reduceEqDiff, Nat.add_eq_left, Nat.left_eq_add, Nat.add_left_cancel_iff, Nat.one_ne_zero, am_cs, hsi]
    have e1 : nI (hd + (fs.take i).sum) - nI ar + nI (fs.getD i 0) = nI (hd + (fs.take (i + 1)).sum) - nI ar := by
      rw [wl_sum_take fs i (by omega), ← Nat.add_assoc, ← nI_add (hd + (fs.take i).sum)]
      rw [Int32.sub_eq_add_neg, Int32.sub_eq_add_neg, Int32.add_assoc, Int32.add_comm (-nI ar), ← Int32.add_assoc]
    rw [e1]
    exact ih (i + 1) (by omega)
theorem wc_startOf {K : am_K} {I : pm_I} {J : pm_J} {w hd ff ar rf k : Nat} {q fs : List Nat} (L : wl_ok K w) (hw : wc_at I w hd ff q fs ar rf) (hk : k ≤ fs.length) (har : ar ≤ (fs.take k).sum) (d : Nat) :
    f_X7_startOf d w (nI (ff + k)) (K, I, J) = some ((nI (hd + (fs.take k).sum - ar), 0, none), (K, I, J)) := by
  have h1 := wc_startLoop (J := J) L hw hk d k 0 (by omega)
  obtain ⟨L0, L1, L2, L3, R1, R2, R3⟩ := L
  obtain ⟨h4, h5, h6, h7, h8, h9, b1, b2, hq, hs⟩ := hw
  rw [e_X7_startOf]
  simp (disch := first | assumption | omega) only [pm_gI, Option.bind_some, h4, h6, h8]
  have h1 : l_X7_startOf_15 d w (nI (ff + k)) (nI hd - nI ar) (nI ff) (K, I, J) = some ((nI (hd + (fs.take k).sum) - nI ar, 0, none), (K, I, J)) := h1
  rw [h1, pm_sub (by omega)]
/-- lists: without a stretch, with a stretch twice -/
theorem wl_cut {q : List Nat} {p n i : Nat} (h : p + n ≤ q.length) : (q.take p ++ q.drop (p + n)).getD i 0 = if i < p then q.getD i 0 else q.getD (i + n) 0 := by
  simp only [List.getD_eq_getElem?_getD]
  by_cases hi : i < p
  · rw [if_pos hi, List.getElem?_append_left (by simp; omega), List.getElem?_take_of_lt hi]
  · rw [if_neg hi, List.getElem?_append_right (by simp; omega), List.getElem?_drop]
    congr 2
    simp
    omega
theorem wl_dup {q : List Nat} {p n i : Nat} (h : p + n ≤ q.length) : (q.take (p + n) ++ q.drop p).getD i 0 = if i < p + n then q.getD i 0 else q.getD (i - n) 0 := by
  simp only [List.getD_eq_getElem?_getD]
  by_cases hi : i < p + n
  · rw [if_pos hi, List.getElem?_append_left (by simp; omega), List.getElem?_take_of_lt hi]
  · rw [if_neg hi, List.getElem?_append_right (by simp; omega), List.getElem?_drop]
    congr 2
    simp
    omega
