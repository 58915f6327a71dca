/-! THE CLASS'S WAY: frames lost and doubled, bytes changed, room made -/
/-- where frame k begins among the bytes underway -/
def wa_pos (fs : List Nat) (ar k : Nat) : Nat := (fs.take k).sum - ar
theorem wl_sum_le {fs : List Nat} {k : Nat} : (fs.take k).sum ≤ fs.sum := by
  have : fs.sum = (fs.take k).sum + (fs.drop k).sum := by rw [← List.sum_append, List.take_append_drop]
  omega
theorem wl_ar_le {q fs : List Nat} {ar j : Nat} (hv : wv_ok q fs ar) (hj : j < fs.length - wu_first ar) : ar ≤ (fs.take (wu_first ar + j)).sum ∧ (fs.take (wu_first ar + j)).sum + fs.getD (wu_first ar + j) 0 ≤ q.length + ar := by
  have h1 := wl_sum_take fs (wu_first ar + j) (by omega)
  have h2 := wl_sum_le (fs := fs) (k := wu_first ar + j + 1)
  have h3 := hv.2.2.1
  refine ⟨?_, by omega⟩
  by_cases h : 0 < ar
  · have hf : wu_first ar = 1 := by simp [wu_first, h]
    cases fs with
    | nil => simp at hj
    | cons f fs =>
      have := hv.2.2.2 f rfl
      rw [hf, Nat.add_comm 1 j]
      simp
      omega
  · omega
theorem wv_size {q fs : List Nat} {ar k : Nat} (hv : wv_ok q fs ar) (hk : k < fs.length) : 5 ≤ fs.getD k 0 ∧ fs.getD k 0 ≤ 45 := by
  have : fs.getD k 0 ∈ fs := by
    rw [List.getD_eq_getElem?_getD, List.getElem?_eq_getElem hk]
    exact List.getElem_mem hk
  exact hv.2.1 _ this
theorem wu_in1 {x : Int32} {n : Nat} (hn : n < 2147483648) (h : wu_in x n = 1) : ∃ j, j < n ∧ x = nI j := by
  rcases pk_ix x hn with h1 | h1 | h1
  · simp [wu_in, h1] at h
  · by_cases h0 : x < 0
    · simp [wu_in, h0] at h
    · simp [wu_in, h0, h1] at h
  · exact h1
theorem wu_in01 (x : Int32) (n : Nat) : wu_in x n = 0 ∨ wu_in x n = 1 := by
  unfold wu_in
  split
  · exact Or.inl rfl
  · split
    · exact Or.inl rfl
    · exact Or.inr rfl
theorem wu_inN {j n : Nat} (h : j < n) (hn : n < 2147483648) : wu_in (nI j) n = 1 := by
  unfold wu_in
  rw [if_neg (nI_pos (by omega)), if_neg (nI_ge h hn)]
theorem wc_drop {K : am_K} {I : pm_I} {J : pm_J} {w hd ff ar rf j : Nat} {q fs : List Nat} (L : wl_ok K w) (hw : wc_at I w hd ff q fs ar rf) (hv : wv_ok q fs ar) (hj : j < fs.length - wu_first ar) (d : Nat) :
    ∃ I' : pm_I, f_X7_dropFrame (d + 2) w (nI j) (K, I, J) = some ((nI 1, 0, none), (K, I', J)) ∧ wc_at I' w hd ff (q.take (wa_pos fs ar (wu_first ar + j)) ++ q.drop (wa_pos fs ar (wu_first ar + j) + fs.getD (wu_first ar + j) 0)) (fs.eraseIdx (wu_first ar + j)) ar rf ∧ I' w 0 = I w 0 ∧ ∀ a, a ≠ w → a ≠ w + 1 → a ≠ w + 2 → I' a = I a := by
  have h1 := wc_isUn (J := J) L hw hv (nI j) d
  rw [wu_inN hj (by have := hw.2.2.2.2.2.2.2.1; omega)] at h1
  have h2 := wc_frameIndex (J := J) (j := j) L hw hv d
  obtain ⟨a1, a2⟩ := wl_ar_le hv hj
  have h3 := wc_startOf (J := J) (k := wu_first ar + j) L hw (by omega) a1 (d + 1)
  have hsz := wv_size hv (show wu_first ar + j < fs.length by omega)
  obtain ⟨L0, L1, L2, L3, R1, R2, R3⟩ := L
  obtain ⟨h4, h5, h6, h7, h8, h9, b1, b2, hq, hs⟩ := hw
  have hsk := hs (wu_first ar + j) (by omega)
  rw [← Nat.add_assoc] at hsk h3
  unfold wa_pos
  generalize hn : fs.getD (wu_first ar + j) 0 = n at *
  generalize hp : (fs.take (wu_first ar + j)).sum = p at *
  generalize hk : wu_first ar + j = k at *
  have hfk : ff + wu_first ar + j = ff + k := by omega
  rw [hfk] at h2 hsk h3
  rw [e_X7_dropFrame]
  simp (disch := first | assumption | omega) only [pm_gI, pm_gJ, pm_gR, pm_pI, pm_pZ, pm_pJ, pm_ldI, pm_ldJ, pm_ldR, pm_stI, pm_stZ, pm_stJ, pm_pZ0, pm_pZ1, pm_stZ0, pm_stZ1, pm_len, pm_cpyI, pm_cpyJ, pm_is, Option.bind_some, pm_u, pm_ur, pm_lt, pm_le, pm_eq, pm_ne, pm_add, pm_sub, pm_z0, pm_z1, cond_true, cond_false, decide_true, decide_false, not_false_eq_true, not_true_eq_false, reduceIte, Nat.reduceEqDiff, Nat.add_eq_left, Nat.left_eq_add, Nat.add_left_cancel_iff, Nat.one_ne_zero, am_cs, h1, h2, h3, hsk, h4, h5, h6, h7]
  refine ⟨_, rfl, ⟨?_, ?_, ?_, ?_, ?_, ?_, ?_, ?_, fun i hi => ?_, fun i hi => ?_⟩, by simp [pm_u, pm_ur], fun a ha hb hc => ?_⟩
  · simp [pm_u, pm_ur, h4]
  · simp [pm_u, pm_ur]
    congr 1
    omega
  · simp [pm_u, pm_ur, h6]
  · simp [pm_u, pm_ur]
    rw [List.length_eraseIdx_of_lt (by omega)]
  · simp [pm_u, pm_ur, h8]
  · simp [pm_u, pm_ur, h9]
  · simp
    omega
  · rw [List.length_eraseIdx_of_lt (by omega)]
    omega
  · rw [wl_cut (by omega)]
    simp at hi
    simp [pm_u, pm_ur, va_cpy]
    by_cases h : i < p - ar
    · rw [if_pos h, if_neg (by omega)]
      simpa using hq i (by omega)
    · rw [if_neg h, if_pos (by omega)]
      have := hq (i + n) (by omega)
      rw [show hd + p - ar + n + (hd + i - (hd + p - ar)) = hd + (i + n) by omega]
      simpa using this
  · rw [List.length_eraseIdx_of_lt (by omega)] at hi
    simp [pm_u, pm_ur, va_cpy]
    rw [List.getElem?_eraseIdx]
    by_cases h : i < k
    · rw [if_pos h, if_neg (by omega)]
      have := hs i (by omega)
      simpa using this
    · rw [if_neg h, if_pos (by omega)]
      have := hs (i + 1) (by omega)
      rw [show ff + k + 1 + (ff + i - (ff + k)) = ff + (i + 1) by omega]
      simpa using this
  · simp [am_u_ne, am_ur_ne, ha, hb, hc]
theorem wc_drop0 {K : am_K} {I : pm_I} {J : pm_J} {w hd ff ar rf : Nat} {q fs : List Nat} (L : wl_ok K w) (hw : wc_at I w hd ff q fs ar rf) (hv : wv_ok q fs ar) (x : Int32) (hx : wu_in x (fs.length - wu_first ar) = 0) (d : Nat) :
    f_X7_dropFrame (d + 2) w x (K, I, J) = some ((nI 0, 0, none), (K, I, J)) := by
  have h1 := wc_isUn (J := J) L hw hv x d
  rw [hx] at h1
  obtain ⟨L0, L1, L2, L3, R1, R2, R3⟩ := L
  rw [e_X7_dropFrame]
  simp (disch := first | assumption | omega) only [pm_gI, pm_gJ, pm_gR, pm_pI, pm_pZ, pm_pJ, pm_ldI, pm_ldJ, pm_ldR, pm_stI, pm_stZ, pm_stJ, pm_pZ0, pm_pZ1, pm_stZ0, pm_stZ1, pm_len, pm_cpyI, pm_cpyJ, pm_is, Option.bind_some, pm_u, pm_ur, pm_lt, pm_le, pm_eq, pm_ne, pm_add, pm_sub, pm_z0, pm_z1, cond_true, cond_false, decide_true, decide_false, not_false_eq_true, not_true_eq_false, reduceIte, Nat.reduceEqDiff, Nat.add_eq_left, Nat.left_eq_add, Nat.add_left_cancel_iff, Nat.one_ne_zero, am_cs, h1]
