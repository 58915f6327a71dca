/-! THE CLASS'S WAY: bytes changed, room made, frames doubled -/
theorem px_xor (a b : Nat) : nI a ^^^ nI b = nI (a ^^^ b) := by
  apply Int32.toBitVec_inj.mp
  show (BitVec.ofNat 32 a) ^^^ (BitVec.ofNat 32 b) = BitVec.ofNat 32 (a ^^^ b)
  exact (BitVec.ofNat_xor).symm
theorem wc_change {K : am_K} {I : pm_I} {J : pm_J} {w hd ff ar rf j mk : Nat} {q fs : List Nat} (L : wl_ok K w) (hw : wc_at I w hd ff q fs ar rf) (hj : j < q.length) (hm : 0 < mk) (hm2 : mk < 256) (d : Nat) :
    ∃ I' : pm_I, f_X7_changeByte d w (nI j) (nI mk) (K, I, J) = some ((nI 1, 0, none), (K, I', J)) ∧ wc_at I' w hd ff (q.set j (q.getD j 0 ^^^ mk)) fs ar rf ∧ ∀ a, a ≠ w + 1 → I' a = I a := by
  obtain ⟨L0, L1, L2, L3, R1, R2, R3⟩ := L
  obtain ⟨h4, h5, h6, h7, h8, h9, b1, b2, hq, hs⟩ := hw
  have hqj := hq j hj
  rw [e_X7_changeByte]
  simp (disch := first | assumption | omega) only [pm_gI, pm_gJ, pm_gR, pm_pI, pm_pZ, pm_pJ, pm_ldI, pm_ldJ, pm_ldR, pm_stI, pm_stZ, pm_stJ, pm_pZ0, pm_pZ1, pm_stZ0, pm_stZ1, pm_len, pm_cpyI, pm_cpyJ, pm_is, Option.bind_some, pm_u, pm_ur, pm_lt, pm_le, pm_eq, pm_ne, pm_add, pm_sub, pm_z0, pm_z1, cond_true, cond_false, decide_true, decide_false, not_false_eq_true, not_true_eq_false, reduceIte, Nat.reduceEqDiff, Nat.add_eq_left, Nat.left_eq_add, Nat.add_left_cancel_iff, Nat.one_ne_zero, am_cs, h4, h5]
  rw [decide_eq_false (show ¬ j < 0 by omega), decide_eq_false (show ¬ q.length ≤ j by omega), decide_eq_true (show ¬ mk = 0 by omega)]
  simp (disch := first | assumption | omega) only [pm_gI, pm_gJ, pm_gR, pm_pI, pm_pZ, pm_pJ, pm_ldI, pm_ldJ, pm_ldR, pm_stI, pm_stZ, pm_stJ, pm_pZ0, pm_pZ1, pm_stZ0, pm_stZ1, pm_len, pm_cpyI, pm_cpyJ, pm_is, Option.bind_some, pm_u, pm_ur, pm_lt, pm_le, pm_eq, pm_ne, pm_add, pm_sub, pm_z0, pm_z1, cond_true, cond_false, decide_true, decide_false, not_false_eq_true, not_true_eq_false, reduceIte, Nat.reduceEqDiff, Nat.add_eq_left, Nat.left_eq_add, Nat.add_left_cancel_iff, Nat.one_ne_zero, am_cs, h4, h5, hqj, px_xor]
  refine ⟨_, rfl, ⟨?_, ?_, ?_, ?_, ?_, ?_, ?_, ?_, fun i hi => ?_, fun i hi => ?_⟩, fun a ha => ?_⟩
  · simp [pm_u, h4]
  · simp [pm_u, h5]
  · simp [pm_u, h6]
  · simp [pm_u, h7]
  · simp [pm_u, h8]
  · simp [pm_u, h9]
  · simpa using b1
  · simpa using b2
  · simp at hi
    simp [pm_u]
    by_cases h : i = j
    · subst h
      simp [hj]
    · rw [if_neg h, List.getElem?_set_ne (Ne.symm h)]
      simpa using hq i hi
  · simp [pm_u]
    simpa using hs i hi
  · simp [am_u_ne, ha]
theorem wc_change0 {K : am_K} {I : pm_I} {J : pm_J} {w hd ff ar rf mk : Nat} {q fs : List Nat} (L : wl_ok K w) (hw : wc_at I w hd ff q fs ar rf) (x : Int32) (hm2 : mk < 256) (hx : wu_in x q.length = 0 ∨ mk = 0) (d : Nat) :
    f_X7_changeByte d w x (nI mk) (K, I, J) = some ((nI 0, 0, none), (K, I, J)) := by
  obtain ⟨L0, L1, L2, L3, R1, R2, R3⟩ := L
  obtain ⟨h4, h5, h6, h7, h8, h9, b1, b2, hq, hs⟩ := hw
  rw [e_X7_changeByte]
  by_cases h0 : x < 0
  · rw [decide_eq_true (show x < nI 0 from h0)]
    simp (disch := first | assumption | omega) only [pm_gI, pm_gJ, pm_gR, pm_pI, pm_pZ, pm_pJ, pm_ldI, pm_ldJ, pm_ldR, pm_stI, pm_stZ, pm_stJ, pm_pZ0, pm_pZ1, pm_stZ0, pm_stZ1, pm_len, pm_cpyI, pm_cpyJ, pm_is, Option.bind_some, pm_u, pm_ur, pm_lt, pm_le, pm_eq, pm_ne, pm_add, pm_sub, pm_z0, pm_z1, cond_true, cond_false, decide_true, decide_false, not_false_eq_true, not_true_eq_false, reduceIte, Nat.reduceEqDiff, Nat.add_eq_left, Nat.left_eq_add, Nat.add_left_cancel_iff, Nat.one_ne_zero, am_cs]
  · rw [decide_eq_false (show ¬ x < nI 0 from h0)]
    simp (disch := first | assumption | omega) only [pm_gI, pm_gJ, pm_gR, pm_pI, pm_pZ, pm_pJ, pm_ldI, pm_ldJ, pm_ldR, pm_stI, pm_stZ, pm_stJ, pm_pZ0, pm_pZ1, pm_stZ0, pm_stZ1, pm_len, pm_cpyI, pm_cpyJ, pm_is, Option.bind_some, pm_u, pm_ur, pm_lt, pm_le, pm_eq, pm_ne, pm_add, pm_sub, pm_z0, pm_z1, cond_true, cond_false, decide_true, decide_false, not_false_eq_true, not_true_eq_false, reduceIte, Nat.reduceEqDiff, Nat.add_eq_left, Nat.left_eq_add, Nat.add_left_cancel_iff, Nat.one_ne_zero, am_cs, h5]
    by_cases h1 : nI q.length ≤ x
    · rw [decide_eq_true h1]
      simp (disch := first | assumption | omega) only [pm_gI, pm_gJ, pm_gR, pm_pI, pm_pZ, pm_pJ, pm_ldI, pm_ldJ, pm_ldR, pm_stI, pm_stZ, pm_stJ, pm_pZ0, pm_pZ1, pm_stZ0, pm_stZ1, pm_len, pm_cpyI, pm_cpyJ, pm_is, Option.bind_some, pm_u, pm_ur, pm_lt, pm_le, pm_eq, pm_ne, pm_add, pm_sub, pm_z0, pm_z1, cond_true, cond_false, decide_true, decide_false, not_false_eq_true, not_true_eq_false, reduceIte, Nat.reduceEqDiff, Nat.add_eq_left, Nat.left_eq_add, Nat.add_left_cancel_iff, Nat.one_ne_zero, am_cs]
    · rw [decide_eq_false h1]
      rcases hx with hx | rfl
      · simp [wu_in, h0, h1] at hx
      · simp (disch := first | assumption | omega) only [pm_gI, pm_gJ, pm_gR, pm_pI, pm_pZ, pm_pJ, pm_ldI, pm_ldJ, pm_ldR, pm_stI, pm_stZ, pm_stJ, pm_pZ0, pm_pZ1, pm_stZ0, pm_stZ1, pm_len, pm_cpyI, pm_cpyJ, pm_is, Option.bind_some, pm_u, pm_ur, pm_lt, pm_le, pm_eq, pm_ne, pm_add, pm_sub, pm_z0, pm_z1, cond_true, cond_false, decide_true, decide_false, not_false_eq_true, not_true_eq_false, reduceIte, Nat.reduceEqDiff, Nat.add_eq_left, Nat.left_eq_add, Nat.add_left_cancel_iff, Nat.one_ne_zero, am_cs]
/-- a frame of n bytes has room: behind the last one, maybe after all was moved to the front -/
theorem wc_room {K : am_K} {I : pm_I} {J : pm_J} {w hd ff ar rf n : Nat} {q fs : List Nat} (L : wl_ok K w) (hw : wc_at I w hd ff q fs ar rf) (hv : wv_ok q fs ar) (hn : 5 ≤ n) (hn2 : n ≤ 45) (hr : q.length + n ≤ 2000) (d : Nat) :
    ∃ (I' : pm_I) (hd' ff' : Nat), f_X7_makeRoom d w (nI n) (K, I, J) = some ((nI 1, 0, none), (K, I', J)) ∧ wc_at I' w hd' ff' q fs ar rf ∧ hd' + q.length + n ≤ 2000 ∧ ff' + fs.length < 400 ∧ I' w 0 = I w 0 ∧ ∀ a, a ≠ w → a ≠ w + 1 → a ≠ w + 2 → I' a = I a := by
  have hlen : fs.length < 400 := by
    have h1 : ∀ l : List Nat, (∀ f ∈ l, 5 ≤ f ∧ f ≤ 45) → 5 * l.length ≤ l.sum := by
      intro l
      induction l with
      | nil => intro _; simp
      | cons f l ih =>
        intro h
        have a1 := (h f List.mem_cons_self).1
        have a2 := ih (fun g hg => h g (List.mem_cons_of_mem _ hg))
        simp
        omega
    cases fs with
    | nil => simp
    | cons f fs =>
      have a1 := h1 fs (fun g hg => hv.2.1 g (List.mem_cons_of_mem _ hg))
      have a2 := hv.2.2.1
      have a3 := hv.2.2.2 f rfl
      simp at a2 ⊢
      omega
  obtain ⟨L0, L1, L2, L3, R1, R2, R3⟩ := L
  have hw0 := hw
  obtain ⟨h4, h5, h6, h7, h8, h9, b1, b2, hq, hs⟩ := hw
  have hmove : ∃ I' : pm_I, l_X7_makeRoom_66 d w (K, I, J) = some ((nI 1, 0, none), (K, I', J)) ∧ wc_at I' w 0 0 q fs ar rf ∧ I' w 0 = I w 0 ∧ ∀ a, a ≠ w → a ≠ w + 1 → a ≠ w + 2 → I' a = I a := by
    rw [e_l_X7_makeRoom_66]
    simp (disch := first | assumption | omega) only [pm_gI, pm_gJ, pm_gR, pm_pI, pm_pZ, pm_pJ, pm_ldI, pm_ldJ, pm_ldR, pm_stI, pm_stZ, pm_stJ, pm_pZ0, pm_pZ1, pm_stZ0, pm_stZ1, pm_len, pm_cpyI, pm_cpyJ, pm_is, Option.bind_some, pm_u, pm_ur, pm_lt, pm_le, pm_eq, pm_ne, pm_add, pm_sub, pm_z0, pm_z1, cond_true, cond_false, decide_true, decide_false, not_false_eq_true, not_true_eq_false, reduceIte, Nat.reduceEqDiff, Nat.add_eq_left, Nat.left_eq_add, Nat.add_left_cancel_iff, Nat.one_ne_zero, am_cs, h4, h5, h6, h7]
    refine ⟨_, rfl, ⟨?_, ?_, ?_, ?_, ?_, ?_, ?_, ?_, fun i hi => ?_, fun i hi => ?_⟩, by simp [pm_u, pm_ur], fun a ha hb hc => ?_⟩
    · simp [pm_u]
    · simp [pm_u, pm_ur, h5]
    · simp [pm_u]
    · simp [pm_u, pm_ur, h7]
    · simp [pm_u, pm_ur, h8]
    · simp [pm_u, pm_ur, h9]
    · omega
    · omega
    · simp [pm_u, pm_ur, va_cpy, hi]
      simpa [hi] using hq i hi
    · simp [pm_u, pm_ur, va_cpy, hi]
      simpa [hi] using hs i hi
    · simp [am_u_ne, am_ur_ne, ha, hb, hc]
  rw [e_X7_makeRoom]
  simp (disch := first | assumption | omega) only [pm_gI, pm_gJ, pm_gR, pm_pI, pm_pZ, pm_pJ, pm_ldI, pm_ldJ, pm_ldR, pm_stI, pm_stZ, pm_stJ, pm_pZ0, pm_pZ1, pm_stZ0, pm_stZ1, pm_len, pm_cpyI, pm_cpyJ, pm_is, Option.bind_some, pm_u, pm_ur, pm_lt, pm_le, pm_eq, pm_ne, pm_add, pm_sub, pm_z0, pm_z1, cond_true, cond_false, decide_true, decide_false, not_false_eq_true, not_true_eq_false, reduceIte, Nat.reduceEqDiff, Nat.add_eq_left, Nat.left_eq_add, Nat.add_left_cancel_iff, Nat.one_ne_zero, am_cs, h4, h5, h6, h7]
  rw [decide_eq_false (show ¬ 2000 < q.length + n by omega), decide_eq_true hlen]
  by_cases c1 : 2000 < hd + q.length + n
  · rw [decide_eq_true c1]
    obtain ⟨I', g1, g2, g3⟩ := hmove
    exact ⟨I', 0, 0, g1, g2, by omega, by omega, g3⟩
  · rw [decide_eq_false c1]
    by_cases c2 : ff + fs.length < 400
    · rw [decide_eq_true c2]
      exact ⟨I, hd, ff, rfl, hw0, by omega, c2, rfl, fun _ _ _ _ => rfl⟩
    · rw [decide_eq_false c2]
      obtain ⟨I', g1, g2, g3⟩ := hmove
      exact ⟨I', 0, 0, g1, g2, by omega, by omega, g3⟩
theorem wc_room0 {K : am_K} {I : pm_I} {J : pm_J} {w hd ff ar rf n : Nat} {q fs : List Nat} (L : wl_ok K w) (hw : wc_at I w hd ff q fs ar rf) (hn2 : n ≤ 45) (hr : 2000 < q.length + n) (d : Nat) :
    ∃ I' : pm_I, f_X7_makeRoom d w (nI n) (K, I, J) = some ((nI 0, 0, none), (K, I', J)) ∧ wc_at I' w hd ff q fs ar (rf + 1) ∧ I' w 0 = I w 0 ∧ ∀ a, a ≠ w → I' a = I a := by
  obtain ⟨L0, L1, L2, L3, R1, R2, R3⟩ := L
  obtain ⟨h4, h5, h6, h7, h8, h9, b1, b2, hq, hs⟩ := hw
  rw [e_X7_makeRoom]
  simp (disch := first | assumption | omega) only [pm_gI, pm_gJ, pm_gR, pm_pI, pm_pZ, pm_pJ, pm_ldI, pm_ldJ, pm_ldR, pm_stI, pm_stZ, pm_stJ, pm_pZ0, pm_pZ1, pm_stZ0, pm_stZ1, pm_len, pm_cpyI, pm_cpyJ, pm_is, Option.bind_some, pm_u, pm_ur, pm_lt, pm_le, pm_eq, pm_ne, pm_add, pm_sub, pm_z0, pm_z1, cond_true, cond_false, decide_true, decide_false, not_false_eq_true, not_true_eq_false, reduceIte, Nat.reduceEqDiff, Nat.add_eq_left, Nat.left_eq_add, Nat.add_left_cancel_iff, Nat.one_ne_zero, am_cs, h5, h9]
  rw [decide_eq_true hr]
  refine ⟨_, rfl, ⟨?_, ?_, ?_, ?_, ?_, ?_, b1, b2, fun i hi => ?_, fun i hi => ?_⟩, by simp [pm_u], fun a ha => ?_⟩
  · simp [pm_u, h4]
  · simp [pm_u, h5]
  · simp [pm_u, h6]
  · simp [pm_u, h7]
  · simp [pm_u, h8]
  · simp [pm_u]
  · simp [pm_u]
    simpa using hq i hi
  · simp [pm_u]
    simpa using hs i hi
  · simp [am_u_ne, ha]
