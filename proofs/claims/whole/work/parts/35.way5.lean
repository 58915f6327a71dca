/-! THE CLASS'S WAY: frames doubled; sums; frames sent -/
theorem wl_insert {fs : List Nat} {k i n : Nat} (hk : k < fs.length) (hn : fs.getD k 0 = n) : (fs.take (k + 1) ++ fs.drop k).getD i 0 = if i < k + 1 then fs.getD i 0 else fs.getD (i - 1) 0 := wl_dup (p := k) (n := 1) (by omega)
theorem wc_twice {K : am_K} {I : pm_I} {J : pm_J} {w hd ff ar rf j : Nat} {q fs : List Nat} (L : wl_ok K w) (hw : wc_at I w hd ff q fs ar rf) (hv : wv_ok q fs ar) (hj : j < fs.length - wu_first ar) (hr : q.length + fs.getD (wu_first ar + j) 0 ≤ 2000) (d : Nat) :
    ∃ (I' : pm_I) (hd' ff' : Nat), f_X7_repeatFrame (d + 2) w (nI j) (K, I, J) = some ((nI 1, 0, none), (K, I', J)) ∧ wc_at I' w hd' ff' (q.take (wa_pos fs ar (wu_first ar + j) + fs.getD (wu_first ar + j) 0) ++ q.drop (wa_pos fs ar (wu_first ar + j))) (fs.take (wu_first ar + j + 1) ++ fs.drop (wu_first ar + j)) ar rf ∧ I' w 0 = I w 0 ∧ ∀ a, a ≠ w → a ≠ w + 1 → a ≠ w + 2 → I' a = I a := by
  have h1 := wc_isUn (J := J) L hw hv (nI j) d
  rw [wu_inN hj (by have := hw.2.2.2.2.2.2.2.1; omega)] at h1
  have h2 := wc_frameIndex (J := J) (j := j) L hw hv d
  obtain ⟨a1, a2⟩ := wl_ar_le hv hj
  have hsz := wv_size hv (show wu_first ar + j < fs.length by omega)
  obtain ⟨I1, hd1, ff1, g1, g2, g3, g4, gz, g5⟩ := wc_room (J := J) L hw hv hsz.1 hsz.2 hr (d + 1)
  have h2b := wc_frameIndex (J := J) (j := j) L g2 hv d
  have h3 := wc_startOf (J := J) (k := wu_first ar + j) L g2 (by omega) a1 (d + 1)
  obtain ⟨L0, L1, L2, L3, R1, R2, R3⟩ := L
  have hsk := hw.2.2.2.2.2.2.2.2.2 (wu_first ar + j) (by omega)
  have b20 := hw.2.2.2.2.2.2.2.1
  obtain ⟨h4, h5, h6, h7, h8, h9, b1, b2, hq, hs⟩ := g2
  rw [← Nat.add_assoc] at hsk h3
  have hins := fun i => wl_insert (fs := fs) (k := wu_first ar + j) (i := i) (by omega) rfl
  have hdup := fun i => wl_dup (q := q) (p := (fs.take (wu_first ar + j)).sum - ar) (n := fs.getD (wu_first ar + j) 0) (i := i) (by omega)
  unfold wa_pos
  generalize hn : fs.getD (wu_first ar + j) 0 = n at *
  generalize hp : (fs.take (wu_first ar + j)).sum = p at *
  generalize hk : wu_first ar + j = k at *
  have hfk : ff + wu_first ar + j = ff + k := by omega
  have hfk1 : ff1 + wu_first ar + j = ff1 + k := by omega
  rw [hfk] at h2 hsk
  rw [hfk1] at h2b h3
  rw [e_X7_repeatFrame]
  simp (disch := first | assumption | omega) only [pm_gI, pm_gJ, pm_gR, pm_pI, pm_pZ, pm_pJ, pm_ldI, pm_ldJ, pm_ldR, pm_stI, pm_stZ, pm_stJ, pm_pZ0, pm_pZ1, pm_stZ0, pm_stZ1, pm_len, pm_cpyI, pm_cpyJ, pm_is, Option.bind_some, pm_u, pm_ur, pm_lt, pm_le, pm_eq, pm_ne, pm_add, pm_sub, pm_z0, pm_z1, cond_true, cond_false, decide_true, decide_false, not_false_eq_true, not_true_eq_false, reduceIte, Nat.reduceEqDiff, Nat.add_eq_left, Nat.left_eq_add, Nat.add_left_cancel_iff, Nat.one_ne_zero, am_cs, h1, h2, hsk, g1, h2b, h3, h4, h5, h6, h7]
  refine ⟨_, hd1, ff1, rfl, ⟨?_, ?_, ?_, ?_, ?_, ?_, ?_, ?_, fun i hi => ?_, fun i hi => ?_⟩, by simp [pm_u, pm_ur, gz], fun a ha hb hc => ?_⟩
  · simp [pm_u, pm_ur, h4]
  · simp [pm_u, pm_ur]
    congr 1
    omega
  · simp [pm_u, pm_ur, h6]
  · simp [pm_u, pm_ur]
    congr 1
    omega
  · simp [pm_u, pm_ur, h8]
  · simp [pm_u, pm_ur, h9]
  · simp
    omega
  · simp
    omega
  · rw [hdup i]
    simp at hi
    simp [pm_u, pm_ur, va_cpy]
    by_cases h : i < p - ar + n
    · rw [if_pos h, if_neg (by omega)]
      simpa using hq i (by omega)
    · rw [if_neg h, if_pos (by omega)]
      have := hq (i - n) (by omega)
      rw [show hd1 + p - ar + (hd1 + i - (hd1 + p - ar + n)) = hd1 + (i - n) by omega]
      simpa using this
  · rw [hins i]
    simp at hi
    simp [pm_u, pm_ur, va_cpy]
    by_cases h : i < k + 1
    · rw [if_pos h, if_neg (by omega)]
      simpa using hs i (by omega)
    · rw [if_neg h, if_pos (by omega)]
      have := hs (i - 1) (by omega)
      rw [show ff1 + k + (ff1 + i - (ff1 + k + 1)) = ff1 + (i - 1) by omega]
      simpa using this
  · simp [am_u_ne, am_ur_ne, ha, hb, hc, g5 a ha hb hc]
theorem wc_twice1 {K : am_K} {I : pm_I} {J : pm_J} {w hd ff ar rf j : Nat} {q fs : List Nat} (L : wl_ok K w) (hw : wc_at I w hd ff q fs ar rf) (hv : wv_ok q fs ar) (hj : j < fs.length - wu_first ar) (hr : 2000 < q.length + fs.getD (wu_first ar + j) 0) (d : Nat) :
    ∃ I' : pm_I, f_X7_repeatFrame (d + 2) w (nI j) (K, I, J) = some ((nI 1, 0, none), (K, I', J)) ∧ wc_at I' w hd ff q fs ar (rf + 1) ∧ I' w 0 = I w 0 ∧ ∀ a, a ≠ w → I' a = I a := by
  have h1 := wc_isUn (J := J) L hw hv (nI j) d
  rw [wu_inN hj (by have := hw.2.2.2.2.2.2.2.1; omega)] at h1
  have h2 := wc_frameIndex (J := J) (j := j) L hw hv d
  have hsz := wv_size hv (show wu_first ar + j < fs.length by omega)
  obtain ⟨I1, g1, g2, g3⟩ := wc_room0 (J := J) L hw hsz.2 hr (d + 1)
  obtain ⟨L0, L1, L2, L3, R1, R2, R3⟩ := L
  have hsk := hw.2.2.2.2.2.2.2.2.2 (wu_first ar + j) (by omega)
  have b20 := hw.2.2.2.2.2.2.2.1
  rw [← Nat.add_assoc] at hsk
  rw [e_X7_repeatFrame]
  simp (disch := first | assumption | omega) only [pm_gI, pm_gJ, pm_gR, pm_pI, pm_pZ, pm_pJ, pm_ldI, pm_ldJ, pm_ldR, pm_stI, pm_stZ, pm_stJ, pm_pZ0, pm_pZ1, pm_stZ0, pm_stZ1, pm_len, pm_cpyI, pm_cpyJ, pm_is, Option.bind_some, pm_u, pm_ur, pm_lt, pm_le, pm_eq, pm_ne, pm_add, pm_sub, pm_z0, pm_z1, cond_true, cond_false, decide_true, decide_false, not_false_eq_true, not_true_eq_false, reduceIte, Nat.reduceEqDiff, Nat.add_eq_left, Nat.left_eq_add, Nat.add_left_cancel_iff, Nat.one_ne_zero, am_cs, h1, h2, hsk, g1]
  exact ⟨I1, rfl, g2, g3⟩
theorem wc_twice0 {K : am_K} {I : pm_I} {J : pm_J} {w hd ff ar rf : Nat} {q fs : List Nat} (L : wl_ok K w) (hw : wc_at I w hd ff q fs ar rf) (hv : wv_ok q fs ar) (x : Int32) (hx : wu_in x (fs.length - wu_first ar) = 0) (d : Nat) :
    f_X7_repeatFrame (d + 2) w x (K, I, J) = some ((nI 0, 0, none), (K, I, J)) := by
  have h1 := wc_isUn (J := J) L hw hv x d
  rw [hx] at h1
  obtain ⟨L0, L1, L2, L3, R1, R2, R3⟩ := L
  rw [e_X7_repeatFrame]
  simp (disch := first | assumption | omega) only [pm_gI, pm_gJ, pm_gR, pm_pI, pm_pZ, pm_pJ, pm_ldI, pm_ldJ, pm_ldR, pm_stI, pm_stZ, pm_stJ, pm_pZ0, pm_pZ1, pm_stZ0, pm_stZ1, pm_len, pm_cpyI, pm_cpyJ, pm_is, Option.bind_some, pm_u, pm_ur, pm_lt, pm_le, pm_eq, pm_ne, pm_add, pm_sub, pm_z0, pm_z1, cond_true, cond_false, decide_true, decide_false, not_false_eq_true, not_true_eq_false, reduceIte, Nat.reduceEqDiff, Nat.add_eq_left, Nat.left_eq_add, Nat.add_left_cancel_iff, Nat.one_ne_zero, am_cs, h1]
/-- an int array holds a list from a place on -/
def wl_at (I : pm_I) (a p : Nat) (l : List Nat) : Prop := ∀ i, i < l.length → I a (p + i) = nI (l.getD i 0)
theorem wl_sumLoop {K : am_K} {I : pm_I} {J : pm_J} {a p n : Nat} {l : List Nat} (hsh : pm_sh K a = (1, n)) (hl : wl_at I a p l) (hn : p + l.length ≤ n) (hn2 : n < 100000) (d : Nat) :
    ∀ m i, i + m = l.length → l_X8_sumOf_5 d a (nI (p + l.length)) (nI (l.take i).sum) (nI (p + i)) (K, I, J) = some ((nI l.sum &&& nI 255, 0, none), (K, I, J)) := by
  intro m
  induction m with
  | zero =>
    intro i hi
    obtain rfl : i = l.length := by omega
    rw [e_l_X8_sumOf_5]
    simp (disch := first | assumption | omega) only [pm_gI, pm_gJ, pm_gR, pm_pI, pm_pZ, pm_pJ, pm_ldI, pm_ldJ, pm_ldR, pm_stI, pm_stZ, pm_stJ, pm_pZ0, pm_pZ1, pm_stZ0, pm_stZ1, pm_len, pm_cpyI, pm_cpyJ, pm_is, Option.bind_some, pm_u, pm_ur, pm_lt, pm_le, pm_eq, pm_ne, pm_add, pm_sub, pm_z0, pm_z1, cond_true, cond_false, decide_true, decide_false, not_false_eq_true, not_true_eq_false, reduceIte, Nat.reduceEqDiff, Nat.add_eq_left, Nat.left_eq_add, Nat.add_left_cancel_iff, Nat.one_ne_zero, am_cs]
    rw [decide_eq_true (Nat.le_refl _)]
    simp
  | succ m ih =>
    intro i hi
    have hli := hl i (by omega)
    rw [e_l_X8_sumOf_5]
    simp (disch := first | assumption | omega) only [pm_gI, pm_gJ, pm_gR, pm_pI, pm_pZ, pm_pJ, pm_ldI, pm_ldJ, pm_ldR, pm_stI, pm_stZ, pm_stJ, pm_pZ0, pm_pZ1, pm_stZ0, pm_stZ1, pm_len, pm_cpyI, pm_cpyJ, pm_is, Option.bind_some, pm_u, pm_ur, pm_lt, pm_le, pm_eq, pm_ne, pm_add, pm_sub, pm_z0, pm_z1, cond_true, cond_false, decide_true, decide_false, not_false_eq_true, not_true_eq_false, reduceIte, Nat.reduceEqDiff, Nat.add_eq_left, Nat.left_eq_add, Nat.add_left_cancel_iff, Nat.one_ne_zero, am_cs]
    rw [decide_eq_false (show ¬ p + l.length ≤ p + i by omega)]
    simp (disch := first | assumption | omega) only [pm_gI, pm_gJ, pm_gR, pm_pI, pm_pZ, pm_pJ, pm_ldI, pm_ldJ, pm_ldR, pm_stI, pm_stZ, pm_stJ, pm_pZ0, pm_pZ1, pm_stZ0, pm_stZ1, pm_len, pm_cpyI, pm_cpyJ, pm_is, Option.bind_some, pm_u, pm_ur, pm_lt, pm_le, pm_eq, pm_ne, pm_add, pm_sub, pm_z0, pm_z1, cond_true, cond_false, decide_true, decide_false, not_false_eq_true, not_true_eq_false, reduceIte, Nat.reduceEqDiff, Nat.add_eq_left, Nat.left_eq_add, Nat.add_left_cancel_iff, Nat.one_ne_zero, am_cs, hli]
    have := ih (i + 1) (by omega)
    rw [wl_sum_take l i (by omega)] at this
    rw [← this]
    rfl
theorem wl_sumOf {K : am_K} {I : pm_I} {J : pm_J} {a p n : Nat} {l : List Nat} (hsh : pm_sh K a = (1, n)) (hl : wl_at I a p l) (hn : p + l.length ≤ n) (hn2 : n < 100000) (hs : l.sum < 100000) (d : Nat) :
    f_X8_sumOf d a (nI p) (nI (p + l.length)) (K, I, J) = some ((nI (l.sum % 256), 0, none), (K, I, J)) := by
  rw [e_X8_sumOf]
  have h := wl_sumLoop (J := J) hsh hl hn hn2 d l.length 0 (by omega)
  have h : l_X8_sumOf_5 d a (nI (p + l.length)) (nI 0) (nI p) (K, I, J) = some ((nI l.sum &&& nI 255, 0, none), (K, I, J)) := h
  rw [h, pk_andN (by omega) 8 (by decide +kernel)]
