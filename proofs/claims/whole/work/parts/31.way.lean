/-! THE CLASS'S WAY -/
/-- where a way's cells lie -/
def wl_ok (K : am_K) (w : Nat) : Prop := pm_sh K w = (0, 7) ∧ pm_sh K (w + 1) = (1, 2000) ∧ pm_sh K (w + 2) = (1, 400) ∧ pm_sh K (w + 3) = (1, 8) ∧ pm_R K w 1 = some (w + 1) ∧ pm_R K w 2 = some (w + 2) ∧ pm_R K w 3 = some (w + 3)
/-- a way's memory holds the bytes q underway, in frames of the sizes fs, ar bytes of the first one have arrived; rf were refused -/
def wc_ok (I : pm_I) (w : Nat) (q fs : List Nat) (ar rf : Nat) : Prop := ∃ hd ff : Nat, I w 4 = nI hd ∧ I w 5 = nI q.length ∧ I w 6 = nI ff ∧ I w 7 = nI fs.length ∧ I w 8 = nI ar ∧ I w 9 = nI rf ∧ hd + q.length ≤ 2000 ∧ ff + fs.length ≤ 400 ∧ (∀ i, i < q.length → I (w + 1) (hd + i) = nI (q.getD i 0)) ∧ (∀ i, i < fs.length → I (w + 2) (ff + i) = nI (fs.getD i 0))
/-- what a way's values keep to -/
def wv_ok (q fs : List Nat) (ar : Nat) : Prop := (∀ x ∈ q, x < 256) ∧ (∀ f ∈ fs, 5 ≤ f ∧ f ≤ 45) ∧ fs.sum = q.length + ar ∧ (∀ f, fs.head? = some f → ar < f)
theorem wv_ar {q fs : List Nat} {ar : Nat} (h : wv_ok q fs ar) : ar < 45 := by
  obtain ⟨-, h2, h3, h4⟩ := h
  cases fs with
  | nil =>
    have h3 : 0 = q.length + ar := h3
    omega
  | cons f fs =>
    have := h4 f rfl
    have := (h2 f List.mem_cons_self).2
    omega
theorem wc_next {K : am_K} {I : pm_I} {J : pm_J} {w b ar rf f : Nat} {q fs : List Nat} (L : wl_ok K w) (hw : wc_ok I w (b :: q) (f :: fs) ar rf) (har : ar < 46) (hf : f < 46) (d : Nat) :
    ∃ I' : pm_I, f_X7_nextByte d w (K, I, J) = some ((nI b, 0, none), (K, I', J)) ∧ wc_ok I' w q (if ar + 1 < f then f :: fs else fs) (if ar + 1 < f then ar + 1 else 0) rf ∧ I' w 0 = I w 0 ∧ ∀ a, a ≠ w → I' a = I a := by
  obtain ⟨L0, L1, L2, L3, R1, R2, R3⟩ := L
  obtain ⟨hd, ff, h4, h5, h6, h7, h8, h9, b1, b2, hq, hs⟩ := hw
  have hb : I (w + 1) hd = nI b := hq 0 (by simp)
  have hff : I (w + 2) ff = nI f := hs 0 (by simp)
  simp only [List.length_cons] at b1 b2 h5 h7
  rw [e_X7_nextByte]
  simp (disch := first | assumption | omega) only [pm_gI, pm_gJ, pm_gR, pm_pI, pm_pZ, pm_pJ, pm_ldI, pm_ldJ, pm_ldR, pm_stI, pm_stZ, pm_stJ, pm_pZ0, pm_pZ1, pm_stZ0, pm_stZ1, pm_len, pm_cpyI, pm_cpyJ, pm_is, Option.bind_some, pm_u, pm_ur, pm_lt, pm_le, pm_eq, pm_ne, pm_add, pm_sub, pm_z0, pm_z1, cond_true, cond_false, decide_true, decide_false, not_false_eq_true, not_true_eq_false, reduceIte, Nat.reduceEqDiff, Nat.add_eq_left, Nat.left_eq_add, Nat.add_left_cancel_iff, Nat.one_ne_zero, am_cs, h4, h5, h6, h7, h8, hb, hff]
  rw [decide_eq_false (show ¬ q.length + 1 < 1 by omega), decide_eq_true (show 1 ≤ fs.length + 1 by omega)]
  by_cases h : ar + 1 < f
  · rw [decide_eq_true h, if_pos h, if_pos h]
    refine ⟨_, rfl, ⟨hd + 1, ff, ?_⟩, by simp [pm_u], fun a ha => ?_⟩
    · simp [pm_u, h4, h5, h6, h7, h8, h9]
      refine ⟨by omega, by omega, fun i hi => ?_, fun i hi => by simpa using hs i (by simpa using hi)⟩
      have := hq (i + 1) (by simpa using hi)
      simpa [Nat.add_assoc, Nat.add_comm 1 i] using this
    · simp [am_u_ne, ha]
  · rw [decide_eq_false h, if_neg h, if_neg h]
    refine ⟨_, rfl, ⟨hd + 1, ff + 1, ?_⟩, by simp [pm_u], fun a ha => ?_⟩
    · simp [pm_u, h4, h5, h6, h7, h8, h9]
      refine ⟨by omega, by omega, fun i hi => ?_, fun i hi => ?_⟩
      · have := hq (i + 1) (by simpa using hi)
        simpa [Nat.add_assoc, Nat.add_comm 1 i] using this
      · have := hs (i + 1) (by simpa using hi)
        simpa [Nat.add_assoc, Nat.add_comm 1 i] using this
    · simp [am_u_ne, ha]
theorem wc_clear {K : am_K} {I : pm_I} {J : pm_J} {w ar rf : Nat} {q fs : List Nat} (L : wl_ok K w) (hw : wc_ok I w q fs ar rf) (d : Nat) :
    ∃ I' : pm_I, f_X7_clear d w (K, I, J) = some ((0, 0, none), (K, I', J)) ∧ wc_ok I' w [] [] 0 rf ∧ I' w 0 = I w 0 ∧ ∀ a, a ≠ w → I' a = I a := by
  obtain ⟨L0, L1, L2, L3, R1, R2, R3⟩ := L
  obtain ⟨hd, ff, h4, h5, h6, h7, h8, h9, b1, b2, hq, hs⟩ := hw
  rw [e_X7_clear]
  simp (disch := first | assumption | omega) only [pm_gI, pm_gJ, pm_gR, pm_pI, pm_pZ, pm_pJ, pm_ldI, pm_ldJ, pm_ldR, pm_stI, pm_stZ, pm_stJ, pm_pZ0, pm_pZ1, pm_stZ0, pm_stZ1, pm_len, pm_cpyI, pm_cpyJ, pm_is, Option.bind_some, pm_u, pm_ur, pm_lt, pm_le, pm_eq, pm_ne, pm_add, pm_sub, pm_z0, pm_z1, cond_true, cond_false, decide_true, decide_false, not_false_eq_true, not_true_eq_false, reduceIte, Nat.reduceEqDiff, Nat.add_eq_left, Nat.left_eq_add, Nat.add_left_cancel_iff, Nat.one_ne_zero, am_cs]
  refine ⟨_, rfl, ⟨0, 0, ?_⟩, by simp [pm_u], fun a ha => ?_⟩
  · simp [pm_u, h9]
  · simp [am_u_ne, ha]
/-- how many frames are untouched; the place of the first one of them -/
def wu_first (ar : Nat) : Nat := if 0 < ar then 1 else 0
theorem wc_untouched {K : am_K} {I : pm_I} {J : pm_J} {w ar rf : Nat} {q fs : List Nat} (L : wl_ok K w) (hw : wc_ok I w q fs ar rf) (har : ar < 46) (hne : 0 < ar → fs ≠ []) (d : Nat) :
    f_X7_untouched d w (K, I, J) = some ((nI (fs.length - wu_first ar), 0, none), (K, I, J)) := by
  obtain ⟨L0, L1, L2, L3, R1, R2, R3⟩ := L
  obtain ⟨hd, ff, h4, h5, h6, h7, h8, h9, b1, b2, hq, hs⟩ := hw
  rw [e_X7_untouched]
  simp (disch := first | assumption | omega) only [pm_gI, pm_gJ, pm_gR, pm_pI, pm_pZ, pm_pJ, pm_ldI, pm_ldJ, pm_ldR, pm_stI, pm_stZ, pm_stJ, pm_pZ0, pm_pZ1, pm_stZ0, pm_stZ1, pm_len, pm_cpyI, pm_cpyJ, pm_is, Option.bind_some, pm_u, pm_ur, pm_lt, pm_le, pm_eq, pm_ne, pm_add, pm_sub, pm_z0, pm_z1, cond_true, cond_false, decide_true, decide_false, not_false_eq_true, not_true_eq_false, reduceIte, Nat.reduceEqDiff, Nat.add_eq_left, Nat.left_eq_add, Nat.add_left_cancel_iff, Nat.one_ne_zero, am_cs, h8, h7]
  unfold wu_first
  by_cases h : 0 < ar
  · have : 1 ≤ fs.length := by
      cases fs with
      | nil => exact absurd rfl (hne h)
      | cons _ _ => simp
    rw [if_pos h, decide_eq_false (show ¬ ar ≤ 0 by omega)]
    simp (disch := first | assumption | omega) only [pm_gI, pm_gJ, pm_gR, pm_pI, pm_pZ, pm_pJ, pm_ldI, pm_ldJ, pm_ldR, pm_stI, pm_stZ, pm_stJ, pm_pZ0, pm_pZ1, pm_stZ0, pm_stZ1, pm_len, pm_cpyI, pm_cpyJ, pm_is, Option.bind_some, pm_u, pm_ur, pm_lt, pm_le, pm_eq, pm_ne, pm_add, pm_sub, pm_z0, pm_z1, cond_true, cond_false, decide_true, decide_false, not_false_eq_true, not_true_eq_false, reduceIte, Nat.reduceEqDiff, Nat.add_eq_left, Nat.left_eq_add, Nat.add_left_cancel_iff, Nat.one_ne_zero, am_cs]
  · rw [if_neg h, decide_eq_true (show ar ≤ 0 by omega)]
    simp (disch := first | assumption | omega) only [pm_gI, pm_gJ, pm_gR, pm_pI, pm_pZ, pm_pJ, pm_ldI, pm_ldJ, pm_ldR, pm_stI, pm_stZ, pm_stJ, pm_pZ0, pm_pZ1, pm_stZ0, pm_stZ1, pm_len, pm_cpyI, pm_cpyJ, pm_is, Option.bind_some, pm_u, pm_ur, pm_lt, pm_le, pm_eq, pm_ne, pm_add, pm_sub, pm_z0, pm_z1, cond_true, cond_false, decide_true, decide_false, not_false_eq_true, not_true_eq_false, reduceIte, Nat.reduceEqDiff, Nat.add_eq_left, Nat.left_eq_add, Nat.add_left_cancel_iff, Nat.one_ne_zero, am_cs]
    simp
theorem wc_byteAt {K : am_K} {I : pm_I} {J : pm_J} {w ar rf : Nat} {q fs : List Nat} (L : wl_ok K w) (hw : wc_ok I w q fs ar rf) (x : Int32) (d : Nat) :
    f_X7_byteAt d w x (K, I, J) = some ((if x < 0 then -nI 1 else if nI q.length ≤ x then -nI 1 else nI (q.getD x.toNatClampNeg 0), 0, none), (K, I, J)) := by
  obtain ⟨L0, L1, L2, L3, R1, R2, R3⟩ := L
  obtain ⟨hd, ff, h4, h5, h6, h7, h8, h9, b1, b2, hq, hs⟩ := hw
  rw [e_X7_byteAt]
  rcases pk_ix x (n := q.length) (by omega) with h | h | ⟨j, hj, rfl⟩
  · rw [if_pos h, decide_eq_true (show x < nI 0 from h)]
    rfl
  · have h0 : ¬ x < 0 := by
      intro h2
      have a1 := Int32.le_iff_toInt_le.mp h
      have a2 := Int32.lt_iff_toInt_lt.mp h2
      rw [nI_toInt (by omega)] at a1
      simp at a2
      omega
    rw [if_neg h0, if_pos h, decide_eq_false (show ¬ x < nI 0 from h0)]
    simp (disch := first | assumption | omega) only [pm_gI, pm_gJ, pm_gR, pm_pI, pm_pZ, pm_pJ, pm_ldI, pm_ldJ, pm_ldR, pm_stI, pm_stZ, pm_stJ, pm_pZ0, pm_pZ1, pm_stZ0, pm_stZ1, pm_len, pm_cpyI, pm_cpyJ, pm_is, Option.bind_some, pm_u, pm_ur, pm_lt, pm_le, pm_eq, pm_ne, pm_add, pm_sub, pm_z0, pm_z1, cond_true, cond_false, decide_true, decide_false, not_false_eq_true, not_true_eq_false, reduceIte, Nat.reduceEqDiff, Nat.add_eq_left, Nat.left_eq_add, Nat.add_left_cancel_iff, Nat.one_ne_zero, am_cs, h5]
    rw [decide_eq_true h]
    rfl
  · have hqj := hq j hj
    rw [if_neg (nI_pos (by omega)), if_neg (nI_ge hj (by omega)), nI_clamp (by omega)]
    simp (disch := first | assumption | omega) only [pm_gI, pm_gJ, pm_gR, pm_pI, pm_pZ, pm_pJ, pm_ldI, pm_ldJ, pm_ldR, pm_stI, pm_stZ, pm_stJ, pm_pZ0, pm_pZ1, pm_stZ0, pm_stZ1, pm_len, pm_cpyI, pm_cpyJ, pm_is, Option.bind_some, pm_u, pm_ur, pm_lt, pm_le, pm_eq, pm_ne, pm_add, pm_sub, pm_z0, pm_z1, cond_true, cond_false, decide_true, decide_false, not_false_eq_true, not_true_eq_false, reduceIte, Nat.reduceEqDiff, Nat.add_eq_left, Nat.left_eq_add, Nat.add_left_cancel_iff, Nat.one_ne_zero, am_cs, h5, h4]
    rw [decide_eq_false (show ¬ j < 0 by omega), decide_eq_false (show ¬ q.length ≤ j by omega)]
    simp (disch := first | assumption | omega) only [pm_gI, pm_gJ, pm_gR, pm_pI, pm_pZ, pm_pJ, pm_ldI, pm_ldJ, pm_ldR, pm_stI, pm_stZ, pm_stJ, pm_pZ0, pm_pZ1, pm_stZ0, pm_stZ1, pm_len, pm_cpyI, pm_cpyJ, pm_is, Option.bind_some, pm_u, pm_ur, pm_lt, pm_le, pm_eq, pm_ne, pm_add, pm_sub, pm_z0, pm_z1, cond_true, cond_false, decide_true, decide_false, not_false_eq_true, not_true_eq_false, reduceIte, Nat.reduceEqDiff, Nat.add_eq_left, Nat.left_eq_add, Nat.add_left_cancel_iff, Nat.one_ne_zero, am_cs, hqj]
