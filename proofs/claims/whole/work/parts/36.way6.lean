/-! THE CLASS'S WAY: a frame is sent -/
/-- a frame's bytes ahead of its sum; a whole frame -/
def wf_head (c kd pl : Nat) (dat : List Nat) : List Nat := (4 + dat.length) :: c :: kd :: pl :: dat
def wf_all (c kd pl : Nat) (dat : List Nat) : List Nat := wf_head c kd pl dat ++ [(wf_head c kd pl dat).sum % 256]
theorem wf_head_len (c kd pl : Nat) (dat : List Nat) : (wf_head c kd pl dat).length = 4 + dat.length := by simp [wf_head]; omega
theorem wf_all_len (c kd pl : Nat) (dat : List Nat) : (wf_all c kd pl dat).length = 5 + dat.length := by simp [wf_all, wf_head]; omega
theorem wl_sum_bd : ∀ {l : List Nat}, (∀ x ∈ l, x < 256) → l.sum ≤ 256 * l.length
  | [], _ => by simp
  | x :: l, h => by
    have h1 := h x List.mem_cons_self
    have h2 := wl_sum_bd (l := l) (fun y hy => h y (List.mem_cons_of_mem _ hy))
    simp
    omega
theorem wf_head_bd {c kd pl : Nat} {dat : List Nat} (hc : c < 256) (hk : kd < 256) (hp : pl < 256) (hd : ∀ x ∈ dat, x < 256) (hn : dat.length ≤ 40) : (wf_head c kd pl dat).sum < 100000 := by
  have := wl_sum_bd hd
  simp [wf_head]
  omega
theorem wl_append_at {q r : List Nat} {i : Nat} : (q ++ r).getD i 0 = if i < q.length then q.getD i 0 else r.getD (i - q.length) 0 := by
  simp only [List.getD_eq_getElem?_getD]
  by_cases h : i < q.length
  · rw [if_pos h, List.getElem?_append_left h]
  · rw [if_neg h, List.getElem?_append_right (by omega)]
theorem wc_send {K : am_K} {I : pm_I} {J : pm_J} {w hd ff ar rf c kd pl da m fr n : Nat} {q fs dat : List Nat} (L : wl_ok K w) (hw : wc_at I w hd ff q fs ar rf) (hv : wv_ok q fs ar) (hda : pm_sh K da = (1, m)) (hne0 : da ≠ w) (hne1 : da ≠ w + 1) (hne2 : da ≠ w + 2) (hdat : wl_at I da fr dat) (hm : fr + dat.length ≤ m) (hm2 : m < 100000) (hn : dat.length = n) (hn40 : n ≤ 40) (hc : c < 256) (hk : kd < 256) (hp : pl < 256) (hb : ∀ x ∈ dat, x < 256) (hr : q.length + (5 + n) ≤ 2000) (d : Nat) :
    ∃ (I' : pm_I) (hd' ff' : Nat), f_X7_send (d + 1) w (nI c) (nI kd) (nI pl) da (nI fr) (nI n) (K, I, J) = some ((0, 0, none), (K, I', J)) ∧ wc_at I' w hd' ff' (q ++ wf_all c kd pl dat) (fs ++ [5 + n]) ar rf ∧ I' w 0 = I w 0 ∧ ∀ a, a ≠ w → a ≠ w + 1 → a ≠ w + 2 → I' a = I a := by
  obtain ⟨I1, hd1, ff1, g1, g2, g3, g4, gz, g5⟩ := wc_room (J := J) (n := 5 + n) L hw hv (by omega) (by omega) hr d
  obtain ⟨L0, L1, L2, L3, R1, R2, R3⟩ := L
  obtain ⟨h4, h5, h6, h7, h8, h9, b1, b2, hq, hs⟩ := g2
  have hdat1 : wl_at I1 da fr dat := fun i hi => by rw [g5 da hne0 hne1 hne2]; exact hdat i hi
  rw [e_X7_send]
  simp (disch := first | assumption | omega) only [pm_gI, pm_gJ, pm_gR, pm_pI, pm_pZ, pm_pJ, pm_ldI, pm_ldJ, pm_ldR, pm_stI, pm_stZ, pm_stJ, pm_pZ0, pm_pZ1, pm_stZ0, pm_stZ1, pm_len, pm_cpyI, pm_cpyJ, pm_is, Option.bind_some, pm_u, pm_ur, pm_lt, pm_le, pm_eq, pm_ne, pm_add, pm_sub, pm_z0, pm_z1, cond_true, cond_false, decide_true, decide_false, not_false_eq_true, not_true_eq_false, reduceIte, Nat.reduceEqDiff, Nat.add_eq_left, Nat.left_eq_add, Nat.add_left_cancel_iff, Nat.one_ne_zero, am_cs, g1, h4, h5, h6, h7]
  have e1 : hd1 + q.length + (5 + n) - 1 = hd1 + q.length + (wf_head c kd pl dat).length := by rw [wf_head_len]; omega
  generalize hI : am_ur _ (w + 1) _ = I13
  have f1 : ∀ a, a ≠ w + 1 → I13 a = I1 a := fun a ha => by rw [← hI, am_ur_ne _ _ ha, am_u_ne _ _ ha, am_u_ne _ _ ha, am_u_ne _ _ ha, am_u_ne _ _ ha]
  have f3 : ∀ x, x < hd1 + q.length → I13 (w + 1) x = I1 (w + 1) x := by
    intro x hx
    rw [← hI, am_ur_self]
    unfold va_cpy
    rw [if_neg (by omega), am_u_self, if_neg (by omega), am_u_self, if_neg (by omega), am_u_self, if_neg (by omega), am_u_self, if_neg (by omega)]
  have f2 : wl_at I13 (w + 1) (hd1 + q.length) (wf_head c kd pl dat) := by
    intro i hi
    rw [wf_head_len] at hi
    rw [← hI, am_ur_self]
    unfold va_cpy
    rcases i with _ | _ | _ | _ | i
    · rw [if_neg (by omega), am_u_self, if_neg (by omega), am_u_self, if_neg (by omega), am_u_self, if_neg (by omega), am_u_self, if_pos (by omega)]
      simp [wf_head]
      congr 1
      omega
    · rw [if_neg (by omega), am_u_self, if_neg (by omega), am_u_self, if_neg (by omega), am_u_self, if_pos (by omega)]
      simp [wf_head]
    · rw [if_neg (by omega), am_u_self, if_neg (by omega), am_u_self, if_pos (by omega)]
      simp [wf_head]
    · rw [if_neg (by omega), am_u_self, if_pos (by omega)]
      simp [wf_head]
    · rw [if_pos (by omega), am_u_ne _ _ hne1, am_u_ne _ _ hne1, am_u_ne _ _ hne1, am_u_ne _ _ hne1]
      have := hdat1 i (by omega)
      rw [show fr + (hd1 + q.length + (i + 1 + 1 + 1 + 1) - (hd1 + q.length + 4)) = fr + i by omega]
      simpa [wf_head] using this
  have k4 : I13 w 4 = nI hd1 := by rw [f1 w (by omega)]; exact h4
  have k5 : I13 w 5 = nI q.length := by rw [f1 w (by omega)]; exact h5
  have k6 : I13 w 6 = nI ff1 := by rw [f1 w (by omega)]; exact h6
  have k7 : I13 w 7 = nI fs.length := by rw [f1 w (by omega)]; exact h7
  have k8 : I13 w 8 = nI ar := by rw [f1 w (by omega)]; exact h8
  have k9 : I13 w 9 = nI rf := by rw [f1 w (by omega)]; exact h9
  have ks : I13 (w + 2) = I1 (w + 2) := f1 _ (by omega)
  have hlen := wf_head_len c kd pl dat
  rw [e1, wl_sumOf (l := wf_head c kd pl dat) L1 f2 (by omega) (by omega) (wf_head_bd hc hk hp hb (by omega))]
  simp (disch := first | assumption | omega) only [pm_gI, pm_gJ, pm_gR, pm_pI, pm_pZ, pm_pJ, pm_ldI, pm_ldJ, pm_ldR, pm_stI, pm_stZ, pm_stJ, pm_pZ0, pm_pZ1, pm_stZ0, pm_stZ1, pm_len, pm_cpyI, pm_cpyJ, pm_is, Option.bind_some, pm_u, pm_ur, pm_lt, pm_le, pm_eq, pm_ne, pm_add, pm_sub, pm_z0, pm_z1, cond_true, cond_false, decide_true, decide_false, not_false_eq_true, not_true_eq_false, reduceIte, Nat.reduceEqDiff, Nat.add_eq_left, Nat.left_eq_add, Nat.add_left_cancel_iff, Nat.one_ne_zero, am_cs, k4, k5, k6, k7]
  refine ⟨_, hd1, ff1, rfl, ⟨?_, ?_, ?_, ?_, ?_, ?_, ?_, ?_, fun i hi => ?_, fun i hi => ?_⟩, by simp [pm_u, pm_ur, f1 w (by omega), gz], fun a ha hb hc => ?_⟩
  · simp [pm_u, k4]
  · simp [pm_u, wf_all_len, hn]
  · simp [pm_u, k6]
  · simp [pm_u]
  · simp [pm_u, k8]
  · simp [pm_u, k9]
  · simp [wf_all_len]
    omega
  · simp
    omega
  · simp only [List.length_append, wf_all_len] at hi
    rw [wl_append_at]
    unfold wf_all
    rw [wl_append_at, hlen]
    simp only [pm_u]
    rw [if_neg (by omega), if_neg (by omega), if_neg (by omega), if_pos trivial]
    by_cases h : i < q.length
    · rw [if_neg (by omega), if_pos h, f3 _ (by omega)]
      exact hq i h
    · rw [if_neg h]
      by_cases h2 : i - q.length < 4 + dat.length
      · rw [if_neg (by omega), if_pos h2]
        have := f2 (i - q.length) (by omega)
        rw [show hd1 + q.length + (i - q.length) = hd1 + i by omega] at this
        exact this
      · rw [if_pos (by omega), if_neg h2, show i - q.length - (4 + dat.length) = 0 by omega]
        rfl
  · simp at hi
    rw [wl_append_at]
    simp only [pm_u]
    rw [if_neg (by omega), if_neg (by omega), if_pos trivial]
    by_cases h : i < fs.length
    · rw [if_neg (by omega), if_pos h, if_neg (by omega), ks]
      exact hs i h
    · obtain rfl : i = fs.length := by omega
      simp
  · rw [am_u_ne _ _ ha, am_u_ne _ _ ha, am_u_ne _ _ hc, am_u_ne _ _ hb, f1 a hb, g5 a ha hb hc]
theorem wc_send0 {K : am_K} {I : pm_I} {J : pm_J} {w hd ff ar rf da n : Nat} {q fs : List Nat} (L : wl_ok K w) (hw : wc_at I w hd ff q fs ar rf) (hn40 : n ≤ 40) (hr : 2000 < q.length + (5 + n)) (x1 x2 x3 x5 : Int32) (d : Nat) :
    ∃ I' : pm_I, f_X7_send (d + 1) w x1 x2 x3 da x5 (nI n) (K, I, J) = some ((0, 0, none), (K, I', J)) ∧ wc_at I' w hd ff q fs ar (rf + 1) ∧ I' w 0 = I w 0 ∧ ∀ a, a ≠ w → I' a = I a := by
  obtain ⟨I1, g1, g2, g3⟩ := wc_room0 (J := J) (n := 5 + n) L hw (by omega) hr d
  obtain ⟨L0, L1, L2, L3, R1, R2, R3⟩ := L
  rw [e_X7_send]
  simp (disch := first | assumption | omega) only [pm_gI, pm_gJ, pm_gR, pm_pI, pm_pZ, pm_pJ, pm_ldI, pm_ldJ, pm_ldR, pm_stI, pm_stZ, pm_stJ, pm_pZ0, pm_pZ1, pm_stZ0, pm_stZ1, pm_len, pm_cpyI, pm_cpyJ, pm_is, Option.bind_some, pm_u, pm_ur, pm_lt, pm_le, pm_eq, pm_ne, pm_add, pm_sub, pm_z0, pm_z1, cond_true, cond_false, decide_true, decide_false, not_false_eq_true, not_true_eq_false, reduceIte, Nat.reduceEqDiff, Nat.add_eq_left, Nat.left_eq_add, Nat.add_left_cancel_iff, Nat.one_ne_zero, am_cs, g1]
  exact ⟨I1, rfl, g2, g3⟩
