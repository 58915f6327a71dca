/-! THE CLASS'S CLIENT AS A WHOLE -/
def su_at (cs : Nat → sCl) (m : Nat) (C : sCl) : Nat → sCl := fun i => if i = m then C else cs i
theorem su_self (cs : Nat → sCl) (m : Nat) (C : sCl) : su_at cs m C m = C := if_pos rfl
theorem su_ne (cs : Nat → sCl) {m i : Nat} (C : sCl) (h : i ≠ m) : su_at cs m C i = cs i := if_neg h
def kc_at (I : pm_I) (J : pm_J) (p : Nat) (W : sWy) (cs : Nat → sCl) (mk ck : Nat) : Prop := wy_at I 1 p W ∧ I 13 2 = nI mk ∧ I 13 3 = nI ck ∧ mk ≤ 30 ∧ ck ≤ 1000000 ∧ (∀ i, i < 30 → cc_at I J (15 + 5 * i) i (cs i)) ∧ (∀ i, mk ≤ i → cs i = sCl.new)
/-- nothing but the client's cells and its way's has changed -/
def kg_at {α : Type} (I I' : Nat → α) : Prop := ∀ a, a < 1 ∨ (5 ≤ a ∧ a < 13) ∨ 165 ≤ a → I' a = I a
theorem kg_at.refl {α : Type} (I : Nat → α) : kg_at I I := fun _ _ => rfl
theorem kg_at.trans {α : Type} {I I' I'' : Nat → α} (h : kg_at I I') (h' : kg_at I' I'') : kg_at I I'' := fun a ha => (h' a ha).trans (h a ha)
section KCM
variable {K : am_K} {I I' : pm_I} {J J' : pm_J} {m p x f pl ck mk : Nat} {C : sCl} {W W' : sWy} {cs : Nat → sCl} {dat : List Nat}
theorem kc_congr (h : kc_at I J p W cs mk ck) (e : ∀ a, (1 ≤ a ∧ a < 5) ∨ (13 ≤ a ∧ a < 165) → I' a = I a) (g : ∀ a, (1 ≤ a ∧ a < 5) ∨ (13 ≤ a ∧ a < 165) → J' a = J a) : kc_at I' J' p W cs mk ck := by
  obtain ⟨h1, h2, h3, h4, h5, h6, h7⟩ := h
  refine ⟨wy_congr h1 (e _ (by omega)) (e _ (by omega)) (e _ (by omega)), ?_, ?_, h4, h5, fun i hi => cc_congr (h6 i hi) (fun a _ _ => e a (by omega)) (fun a _ _ => g a (by omega)), h7⟩
  · rw [e 13 (by omega)]
    exact h2
  · rw [e 13 (by omega)]
    exact h3
theorem kc_upd (h : kc_at I J p W cs mk ck) (hm : m < mk) (hw : wy_at I' 1 p W') (hc : cc_at I' J' (15 + 5 * m) m C) (e : kf_at I I' (15 + 5 * m)) (g : kf_at J J' (15 + 5 * m)) : kc_at I' J' p W' (su_at cs m C) mk ck ∧ kg_at I I' ∧ kg_at J J' := by
  obtain ⟨h1, h2, h3, h4, h5, h6, h7⟩ := h
  refine ⟨⟨hw, ?_, ?_, h4, h5, fun i hi => ?_, fun i hi => ?_⟩, fun a ha => e a (by omega) (by omega), fun a ha => g a (by omega) (by omega)⟩
  · rw [e 13 (by omega) (by omega)]
    exact h2
  · rw [e 13 (by omega) (by omega)]
    exact h3
  · by_cases c : i = m
    · subst c
      rw [su_self]
      exact hc
    · rw [su_ne _ _ c]
      exact cc_congr (h6 i hi) (fun a _ _ => e a (by omega) (by omega)) (fun a _ _ => g a (by omega) (by omega))
  · rw [su_ne _ _ (by omega)]
    exact h7 i hi
theorem kc_callAt (L : kl_ok K) (h : kc_at I J p W cs mk ck) {j : Nat} (hj : j < mk) (d : Nat) : f_X1_callAt d 13 (nI j) (K, I, J) = some ((0, 0, some (15 + 5 * j)), (K, I, J)) := by
  obtain ⟨h1, h2, h3, h4, h5, h6, h7⟩ := h
  obtain ⟨k0, k1, k2, k3, k4, k5⟩ := L
  have k6 := (k5 j (by omega)).1
  have c0 : ¬ j < 0 := by omega
  have c1 : ¬ mk ≤ j := by omega
  rw [e_X1_callAt]
  simp (disch := first | assumption | omega) only [pm_gI, pm_gJ, pm_gR, pm_pI, pm_pZ, pm_pJ, pm_ldI, pm_ldJ, pm_ldR, pm_stI, pm_stZ, pm_stJ, pm_pZ0, pm_pZ1, pm_stZ0, pm_stZ1, pm_len, pm_cpyI, pm_cpyJ, pm_is, Option.bind_some, pm_u, pm_ur, pm_lt, pm_le, pm_eq, pm_ne, pm_add, pm_sub, pm_z0, pm_z1, cond_true, cond_false, decide_true, decide_false, not_false_eq_true, not_true_eq_false, reduceIte, Nat.reduceEqDiff, Nat.add_eq_left, Nat.left_eq_add, Nat.add_left_cancel_iff, Nat.one_ne_zero, am_cs, h2, c0, c1]
theorem kc_callAt0 (L : kl_ok K) (h : kc_at I J p W cs mk ck) {y : Int32} (hy : wu_in y mk = 0) (d : Nat) : f_X1_callAt d 13 y (K, I, J) = some ((0, 0, none), (K, I, J)) := by
  obtain ⟨h1, h2, h3, h4, h5, h6, h7⟩ := h
  obtain ⟨k0, k1, k2, k3, k4, k5⟩ := L
  rw [e_X1_callAt]
  unfold wu_in at hy
  by_cases c0 : y < 0
  · have c0 : y < nI 0 := c0
    simp (disch := first | assumption | omega) only [pm_gI, pm_gJ, pm_gR, pm_pI, pm_pZ, pm_pJ, pm_ldI, pm_ldJ, pm_ldR, pm_stI, pm_stZ, pm_stJ, pm_pZ0, pm_pZ1, pm_stZ0, pm_stZ1, pm_len, pm_cpyI, pm_cpyJ, pm_is, Option.bind_some, pm_u, pm_ur, pm_lt, pm_le, pm_eq, pm_ne, pm_add, pm_sub, pm_z0, pm_z1, cond_true, cond_false, decide_true, decide_false, not_false_eq_true, not_true_eq_false, reduceIte, Nat.reduceEqDiff, Nat.add_eq_left, Nat.left_eq_add, Nat.add_left_cancel_iff, Nat.one_ne_zero, am_cs, c0]
  · rw [if_neg c0] at hy
    have c0 : ¬ y < nI 0 := c0
    have c1 : nI mk ≤ y := by
      by_cases c1 : nI mk ≤ y
      · exact c1
      · rw [if_neg c1] at hy
        omega
    simp (disch := first | assumption | omega) only [pm_gI, pm_gJ, pm_gR, pm_pI, pm_pZ, pm_pJ, pm_ldI, pm_ldJ, pm_ldR, pm_stI, pm_stZ, pm_stJ, pm_pZ0, pm_pZ1, pm_stZ0, pm_stZ1, pm_len, pm_cpyI, pm_cpyJ, pm_is, Option.bind_some, pm_u, pm_ur, pm_lt, pm_le, pm_eq, pm_ne, pm_add, pm_sub, pm_z0, pm_z1, cond_true, cond_false, decide_true, decide_false, not_false_eq_true, not_true_eq_false, reduceIte, Nat.reduceEqDiff, Nat.add_eq_left, Nat.left_eq_add, Nat.add_left_cancel_iff, Nat.one_ne_zero, am_cs, c0, h2, c1]
theorem kc_writeAt (L : kl_ok K) (h : kc_at I J p W cs mk ck) {j : Nat} (hj : j < mk) (d : Nat) : f_X1_writeAt (d + 1) 13 (nI j) (K, I, J) = some ((0, 0, if (cs j).kd = 1 then some (15 + 5 * j) else none), (K, I, J)) := by
  have h0 := kc_callAt L h hj d
  obtain ⟨h1, h2, h3, h4, h5, h6, h7⟩ := h
  obtain ⟨k0, k1, k2, k3, k4, k5⟩ := L
  have k6 := (k5 j (by omega)).2.1
  have s1 := (h6 j (by omega)).1.2.1
  have b1 := (h6 j (by omega)).2.2.2.2.1
  rw [e_X1_writeAt]
  by_cases c : (cs j).kd = 1
  · rw [if_pos c]
    simp (disch := first | assumption | omega) only [pm_gI, pm_gJ, pm_gR, pm_pI, pm_pZ, pm_pJ, pm_ldI, pm_ldJ, pm_ldR, pm_stI, pm_stZ, pm_stJ, pm_pZ0, pm_pZ1, pm_stZ0, pm_stZ1, pm_len, pm_cpyI, pm_cpyJ, pm_is, Option.bind_some, pm_u, pm_ur, pm_lt, pm_le, pm_eq, pm_ne, pm_add, pm_sub, pm_z0, pm_z1, cond_true, cond_false, decide_true, decide_false, not_false_eq_true, not_true_eq_false, reduceIte, Nat.reduceEqDiff, Nat.add_eq_left, Nat.left_eq_add, Nat.add_left_cancel_iff, Nat.one_ne_zero, am_cs, h0, s1, c]
  · rw [if_neg c]
    simp (disch := first | assumption | omega) only [pm_gI, pm_gJ, pm_gR, pm_pI, pm_pZ, pm_pJ, pm_ldI, pm_ldJ, pm_ldR, pm_stI, pm_stZ, pm_stJ, pm_pZ0, pm_pZ1, pm_stZ0, pm_stZ1, pm_len, pm_cpyI, pm_cpyJ, pm_is, Option.bind_some, pm_u, pm_ur, pm_lt, pm_le, pm_eq, pm_ne, pm_add, pm_sub, pm_z0, pm_z1, cond_true, cond_false, decide_true, decide_false, not_false_eq_true, not_true_eq_false, reduceIte, Nat.reduceEqDiff, Nat.add_eq_left, Nat.left_eq_add, Nat.add_left_cancel_iff, Nat.one_ne_zero, am_cs, h0, s1, c]
theorem kc_writeAt0 (L : kl_ok K) (h : kc_at I J p W cs mk ck) {y : Int32} (hy : wu_in y mk = 0) (d : Nat) : f_X1_writeAt (d + 1) 13 y (K, I, J) = some ((0, 0, none), (K, I, J)) := by
  have h0 := kc_callAt0 L h hy d
  obtain ⟨k0, k1, k2, k3, k4, k5⟩ := L
  rw [e_X1_writeAt]
  simp (disch := first | assumption | omega) only [pm_gI, pm_gJ, pm_gR, pm_pI, pm_pZ, pm_pJ, pm_ldI, pm_ldJ, pm_ldR, pm_stI, pm_stZ, pm_stJ, pm_pZ0, pm_pZ1, pm_stZ0, pm_stZ1, pm_len, pm_cpyI, pm_cpyJ, pm_is, Option.bind_some, pm_u, pm_ur, pm_lt, pm_le, pm_eq, pm_ne, pm_add, pm_sub, pm_z0, pm_z1, cond_true, cond_false, decide_true, decide_false, not_false_eq_true, not_true_eq_false, reduceIte, Nat.reduceEqDiff, Nat.add_eq_left, Nat.left_eq_add, Nat.add_left_cancel_iff, Nat.one_ne_zero, am_cs, h0]
def sCl.made (j : Nat) (v : Int64) : sCl := (j, v, 0, 0, 0, 0, 0, 0, [], [], fun _ => 0, 0)
theorem kc_makeCall (L : kl_ok K) (h : kc_at I J p W cs mk ck) {j : Nat} (hj : j ≤ 4) (hm : mk < 30) (v : Int64) (d : Nat) : ∃ (I' : pm_I) (J' : pm_J), f_X1_makeCall d 13 (nI j) v (K, I, J) = some ((nI mk, 0, none), (K, I', J')) ∧ kc_at I' J' p W (su_at cs mk (sCl.made j v)) (mk + 1) ck ∧ kg_at I I' ∧ kg_at J J' := by
  obtain ⟨h1, h2, h3, h4, h5, h6, h7⟩ := h
  obtain ⟨k0, k1, k2, k3, k4, k5⟩ := L
  have k6 := (k5 mk hm).1
  have k7 := (k5 mk hm).2.1
  have c0 : ¬ j < 0 := by omega
  have c1 : ¬ 30 ≤ mk := by omega
  have c2 : ¬ 13 = 15 + 5 * mk := by omega
  have h6m := h6 mk hm
  rw [h7 mk (Nat.le_refl _)] at h6m
  obtain ⟨⟨s0, s1, s3, s4, s5, s6, s7, s8, s11, s13, t2, t14⟩, g2, g3, g4, b1, b2, b3, b4, b5, b6, b7, b8, b9, b10, b11⟩ := h6m
  rw [e_X1_makeCall]
  simp (disch := first | assumption | omega) only [pm_gI, pm_gJ, pm_gR, pm_pI, pm_pZ, pm_pJ, pm_ldI, pm_ldJ, pm_ldR, pm_stI, pm_stZ, pm_stJ, pm_pZ0, pm_pZ1, pm_stZ0, pm_stZ1, pm_len, pm_cpyI, pm_cpyJ, pm_is, Option.bind_some, pm_u, pm_ur, pm_lt, pm_le, pm_eq, pm_ne, pm_add, pm_sub, pm_z0, pm_z1, cond_true, cond_false, decide_true, decide_false, not_false_eq_true, not_true_eq_false, reduceIte, Nat.reduceEqDiff, Nat.add_eq_left, Nat.left_eq_add, Nat.add_left_cancel_iff, Nat.one_ne_zero, am_cs, h2, c0, c1, c2, hj, Nat.add_sub_cancel]
  refine ⟨_, _, rfl, ⟨wy_congr h1 ?_ ?_ ?_, ?_, ?_, by omega, h5, fun i hi => ?_, fun i hi => ?_⟩, fun a ha => ?_, fun a ha => ?_⟩
  · (repeat (rw [am_u_ne _ _ (by omega)]))
  · (repeat (rw [am_u_ne _ _ (by omega)]))
  · (repeat (rw [am_u_ne _ _ (by omega)]))
  · simp [pm_u]
  · rw [← h3]
    simp [pm_u, c2]
  · by_cases c : i = mk
    · subst c
      rw [su_self]
      refine ⟨?_, rc_congr g2 ?_ ?_, ?_, ?_, hj, b2, b3, b4, b5, b6, b7, b8, b9, b10, fun _ _ => rfl⟩
      · have c3 : ¬ 15 + 5 * i = 13 := by omega
        simp [cs_at, pm_u, c3, s0, s3, s4, s5, s6, s7, s8, s11, s13, t14]
        exact ⟨rfl, rfl, rfl, rfl, rfl, rfl, rfl, rfl, rfl, rfl, rfl⟩
      · (repeat (rw [am_u_ne _ _ (by omega)]))
      · (repeat (rw [am_u_ne _ _ (by omega)]))
      · intro i hi
        exact absurd hi (by simp [sCl.made, sCl.dg])
      · intro n hn
        (repeat (rw [am_u_ne _ _ (by omega)]))
        exact g4 n hn
    · rw [su_ne _ _ c]
      refine cc_congr (h6 i hi) (fun a _ _ => ?_) (fun a _ _ => ?_)
      · (repeat (rw [am_u_ne _ _ (by omega)]))
      · (repeat (rw [am_u_ne _ _ (by omega)]))
  · rw [su_ne _ _ (by omega)]
    exact h7 i (by omega)
  · (repeat (rw [am_u_ne _ _ (by omega)]))
  · (repeat (rw [am_u_ne _ _ (by omega)]))
theorem kc_makeCall0 (L : kl_ok K) (h : kc_at I J p W cs mk ck) {y : Int32} (hy : wu_in y 5 = 0 ∨ mk = 30) (v : Int64) (d : Nat) : f_X1_makeCall d 13 y v (K, I, J) = some ((-nI 1, 0, none), (K, I, J)) := by
  obtain ⟨h1, h2, h3, h4, h5, h6, h7⟩ := h
  obtain ⟨k0, k1, k2, k3, k4, k5⟩ := L
  rw [e_X1_makeCall]
  by_cases c : mk = 30
  · rw [c] at h2
    simp (disch := first | assumption | omega) only [pm_gI, pm_gJ, pm_gR, pm_pI, pm_pZ, pm_pJ, pm_ldI, pm_ldJ, pm_ldR, pm_stI, pm_stZ, pm_stJ, pm_pZ0, pm_pZ1, pm_stZ0, pm_stZ1, pm_len, pm_cpyI, pm_cpyJ, pm_is, Option.bind_some, pm_u, pm_ur, pm_lt, pm_le, pm_eq, pm_ne, pm_add, pm_sub, pm_z0, pm_z1, cond_true, cond_false, decide_true, decide_false, not_false_eq_true, not_true_eq_false, reduceIte, Nat.reduceEqDiff, Nat.add_eq_left, Nat.left_eq_add, Nat.add_left_cancel_iff, Nat.one_ne_zero, am_cs, h2, Nat.le_refl]
  · have hy : wu_in y 5 = 0 := by
      rcases hy with hy | hy
      · exact hy
      · exact absurd hy c
    have c1 : ¬ 30 ≤ mk := by omega
    unfold wu_in at hy
    by_cases c0 : y < 0
    · have c0 : y < nI 0 := c0
      simp (disch := first | assumption | omega) only [pm_gI, pm_gJ, pm_gR, pm_pI, pm_pZ, pm_pJ, pm_ldI, pm_ldJ, pm_ldR, pm_stI, pm_stZ, pm_stJ, pm_pZ0, pm_pZ1, pm_stZ0, pm_stZ1, pm_len, pm_cpyI, pm_cpyJ, pm_is, Option.bind_some, pm_u, pm_ur, pm_lt, pm_le, pm_eq, pm_ne, pm_add, pm_sub, pm_z0, pm_z1, cond_true, cond_false, decide_true, decide_false, not_false_eq_true, not_true_eq_false, reduceIte, Nat.reduceEqDiff, Nat.add_eq_left, Nat.left_eq_add, Nat.add_left_cancel_iff, Nat.one_ne_zero, am_cs, h2, c0, c1]
    · rw [if_neg c0] at hy
      have c0 : ¬ y < nI 0 := c0
      have c2 : ¬ y ≤ nI 4 := by
        by_cases c2 : nI 5 ≤ y
        · intro c3
          have : nI 5 ≤ nI 4 := Int32.le_trans c2 c3
          revert this
          decide +kernel
        · rw [if_neg c2] at hy
          omega
      simp (disch := first | assumption | omega) only [pm_gI, pm_gJ, pm_gR, pm_pI, pm_pZ, pm_pJ, pm_ldI, pm_ldJ, pm_ldR, pm_stI, pm_stZ, pm_stJ, pm_pZ0, pm_pZ1, pm_stZ0, pm_stZ1, pm_len, pm_cpyI, pm_cpyJ, pm_is, Option.bind_some, pm_u, pm_ur, pm_lt, pm_le, pm_eq, pm_ne, pm_add, pm_sub, pm_z0, pm_z1, cond_true, cond_false, decide_true, decide_false, not_false_eq_true, not_true_eq_false, reduceIte, Nat.reduceEqDiff, Nat.add_eq_left, Nat.left_eq_add, Nat.add_left_cancel_iff, Nat.one_ne_zero, am_cs, h2, c0, c1, c2]
/-- the calls, and the client's way, when a frame has been heeded -/
def sk_heedC (cs : Nat → sCl) (mk ck c f pl : Nat) (dat : List Nat) : Nat → sCl := if c < mk ∧ (cs c).on = 1 then su_at cs c (so_heedC ck (cs c) f pl dat) else cs
def sk_heedW (p : Nat) (cs : Nat → sCl) (mk c : Nat) (W : sWy) (f pl : Nat) : sWy := if c < mk ∧ (cs c).on = 1 then (if f = 13 then W else so_heedW p c (cs c) W f pl) else W
theorem so_on {C : sCl} (h : C.on = 1) : C.oc = 0 := by
  unfold sCl.on at h
  split at h
  · omega
  · split at h
    · assumption
    · omega
theorem so_on01 (C : sCl) : C.on = 0 ∨ C.on = 1 := by
  unfold sCl.on
  split
  · exact Or.inl rfl
  · split
    · exact Or.inr rfl
    · exact Or.inl rfl
theorem kc_act (L : kl_ok K) (N : xl_ok K x) (hx5 : 5 ≤ x) (hx12 : x + 2 ≤ 13) (h : kc_at I J p W cs mk ck) {c : Nat} (hx : xf_at I x c f pl dat) (d : Nat) : ∃ (I' : pm_I) (J' : pm_J), f_X1_act (d + 4) 13 x (K, I, J) = some ((0, 0, none), (K, I', J')) ∧ kc_at I' J' p (sk_heedW p cs mk c W f pl) (sk_heedC cs mk ck c f pl dat) mk ck ∧ kg_at I I' ∧ kg_at J J' := by
  have hn := xf_number (J := J) N hx (d + 3)
  have hk := xf_kind (J := J) N hx (d + 3)
  have n0 := N.1
  have k0 := L.1
  have hfb := hx.2.2.2.2.2.2.2.2.1
  rw [e_X1_act]
  unfold sk_heedC sk_heedW
  by_cases c0 : c < mk
  · have hcall := kc_callAt L h c0 (d + 3)
    have hc := h.2.2.2.2.2.1 c (by have := h.2.2.2.1; omega)
    have M := (L.2.2.2.2.2 c (by have := h.2.2.2.1; omega)).2
    have hgo := cc_goesOn M hc (d + 3)
    have m0 := M.1
    by_cases c1 : (cs c).on = 1
    · rw [if_pos (And.intro c0 c1), if_pos (And.intro c0 c1)]
      rw [c1] at hgo
      have ho := so_on c1
      have s1 := hc.1.2.1
      have b1 := hc.2.2.2.2.1
      unfold so_heedC
      by_cases c2 : f = 13
      · obtain ⟨I', g1, g2, g3⟩ := kc_err L M N (by omega) hc hx ho h.2.2.1 h.2.2.2.2.1 (d + 1)
        rw [if_pos c2, if_pos c2]
        rw [c2] at hk
        simp (disch := first | assumption | omega) only [pm_gI, pm_gJ, pm_gR, pm_pI, pm_pZ, pm_pJ, pm_ldI, pm_ldJ, pm_ldR, pm_stI, pm_stZ, pm_stJ, pm_pZ0, pm_pZ1, pm_stZ0, pm_stZ1, pm_len, pm_cpyI, pm_cpyJ, pm_is, Option.bind_some, pm_u, pm_ur, pm_lt, pm_le, pm_eq, pm_ne, pm_add, pm_sub, pm_z0, pm_z1, cond_true, cond_false, decide_true, decide_false, not_false_eq_true, not_true_eq_false, reduceIte, Nat.reduceEqDiff, Nat.add_eq_left, Nat.left_eq_add, Nat.add_left_cancel_iff, Nat.one_ne_zero, am_cs, hn, hcall, hgo, hk, g1]
        exact ⟨I', J, rfl, kc_upd h c0 (wy_call h.1 (by omega) g3) g2 (kf_call g3 (by omega) (by omega)) (kf_at.refl _ _)⟩
      · rw [if_neg c2, if_neg c2]
        have : (cs c).kd = 0 ∨ (cs c).kd = 1 ∨ (cs c).kd = 2 ∨ (cs c).kd = 3 ∨ (cs c).kd = 4 := by omega
        rcases this with c3 | c3 | c3 | c3 | c3
        · obtain ⟨I', g1, g2, g3⟩ := kc_find L M N hc c3 hx (d + 1)
          rw [if_pos c3]
          unfold so_heedW
          rw [if_neg (by omega)]
          rw [c3] at s1
          simp (disch := first | assumption | omega) only [pm_gI, pm_gJ, pm_gR, pm_pI, pm_pZ, pm_pJ, pm_ldI, pm_ldJ, pm_ldR, pm_stI, pm_stZ, pm_stJ, pm_pZ0, pm_pZ1, pm_stZ0, pm_stZ1, pm_len, pm_cpyI, pm_cpyJ, pm_is, Option.bind_some, pm_u, pm_ur, pm_lt, pm_le, pm_eq, pm_ne, pm_add, pm_sub, pm_z0, pm_z1, cond_true, cond_false, decide_true, decide_false, not_false_eq_true, not_true_eq_false, reduceIte, Nat.reduceEqDiff, Nat.add_eq_left, Nat.left_eq_add, Nat.add_left_cancel_iff, Nat.one_ne_zero, am_cs, hn, hcall, hgo, hk, c2, s1, g1]
          exact ⟨I', J, rfl, kc_upd h c0 (wy_call h.1 (by omega) g3) g2 (kf_call g3 (by omega) (by omega)) (kf_at.refl _ _)⟩
        · obtain ⟨I', g1, g2, g3, g4⟩ := kc_write L M N (by omega) hx.2.2.2.2.2.2.2.1 h.1 hc c3 hx d
          rw [if_neg (by omega), if_pos c3]
          rw [c3] at s1
          simp (disch := first | assumption | omega) only [pm_gI, pm_gJ, pm_gR, pm_pI, pm_pZ, pm_pJ, pm_ldI, pm_ldJ, pm_ldR, pm_stI, pm_stZ, pm_stJ, pm_pZ0, pm_pZ1, pm_stZ0, pm_stZ1, pm_len, pm_cpyI, pm_cpyJ, pm_is, Option.bind_some, pm_u, pm_ur, pm_lt, pm_le, pm_eq, pm_ne, pm_add, pm_sub, pm_z0, pm_z1, cond_true, cond_false, decide_true, decide_false, not_false_eq_true, not_true_eq_false, reduceIte, Nat.reduceEqDiff, Nat.add_eq_left, Nat.left_eq_add, Nat.add_left_cancel_iff, Nat.one_ne_zero, am_cs, hn, hcall, hgo, hk, c2, s1, g1]
          exact ⟨I', J, rfl, kc_upd h c0 g2 g3 g4 (kf_at.refl _ _)⟩
        · obtain ⟨I', g1, g2, g3⟩ := kc_read L M N (by omega) (by omega) hc hx ho h.2.2.1 h.2.2.2.2.1 d
          rw [if_neg (by omega), if_neg (by omega), if_pos c3]
          unfold so_heedW
          rw [if_neg (by omega)]
          rw [c3] at s1
          simp (disch := first | assumption | omega) only [pm_gI, pm_gJ, pm_gR, pm_pI, pm_pZ, pm_pJ, pm_ldI, pm_ldJ, pm_ldR, pm_stI, pm_stZ, pm_stJ, pm_pZ0, pm_pZ1, pm_stZ0, pm_stZ1, pm_len, pm_cpyI, pm_cpyJ, pm_is, Option.bind_some, pm_u, pm_ur, pm_lt, pm_le, pm_eq, pm_ne, pm_add, pm_sub, pm_z0, pm_z1, cond_true, cond_false, decide_true, decide_false, not_false_eq_true, not_true_eq_false, reduceIte, Nat.reduceEqDiff, Nat.add_eq_left, Nat.left_eq_add, Nat.add_left_cancel_iff, Nat.one_ne_zero, am_cs, hn, hcall, hgo, hk, c2, s1, g1]
          exact ⟨I', J, rfl, kc_upd h c0 (wy_call h.1 (by omega) g3) g2 (kf_call g3 (by omega) (by omega)) (kf_at.refl _ _)⟩
        · obtain ⟨I', J', g1, g2, g3, g4⟩ := kc_ask L M N (by omega) hc hx ho h.2.2.1 h.2.2.2.2.1 d
          rw [if_neg (by omega), if_neg (by omega), if_neg (by omega), if_pos c3]
          unfold so_heedW
          rw [if_neg (by omega)]
          rw [c3] at s1
          simp (disch := first | assumption | omega) only [pm_gI, pm_gJ, pm_gR, pm_pI, pm_pZ, pm_pJ, pm_ldI, pm_ldJ, pm_ldR, pm_stI, pm_stZ, pm_stJ, pm_pZ0, pm_pZ1, pm_stZ0, pm_stZ1, pm_len, pm_cpyI, pm_cpyJ, pm_is, Option.bind_some, pm_u, pm_ur, pm_lt, pm_le, pm_eq, pm_ne, pm_add, pm_sub, pm_z0, pm_z1, cond_true, cond_false, decide_true, decide_false, not_false_eq_true, not_true_eq_false, reduceIte, Nat.reduceEqDiff, Nat.add_eq_left, Nat.left_eq_add, Nat.add_left_cancel_iff, Nat.one_ne_zero, am_cs, hn, hcall, hgo, hk, c2, s1, g1]
          exact ⟨I', J', rfl, kc_upd h c0 (wy_call h.1 (by omega) g3) g2 (kf_call g3 (by omega) (by omega)) (kf_call g4 (by omega) (by omega))⟩
        · obtain ⟨I', g1, g2, g3⟩ := kc_tell L M N hc hx d
          rw [if_neg (by omega), if_neg (by omega), if_neg (by omega), if_neg (by omega)]
          unfold so_heedW
          rw [if_neg (by omega)]
          rw [c3] at s1
          simp (disch := first | assumption | omega) only [pm_gI, pm_gJ, pm_gR, pm_pI, pm_pZ, pm_pJ, pm_ldI, pm_ldJ, pm_ldR, pm_stI, pm_stZ, pm_stJ, pm_pZ0, pm_pZ1, pm_stZ0, pm_stZ1, pm_len, pm_cpyI, pm_cpyJ, pm_is, Option.bind_some, pm_u, pm_ur, pm_lt, pm_le, pm_eq, pm_ne, pm_add, pm_sub, pm_z0, pm_z1, cond_true, cond_false, decide_true, decide_false, not_false_eq_true, not_true_eq_false, reduceIte, Nat.reduceEqDiff, Nat.add_eq_left, Nat.left_eq_add, Nat.add_left_cancel_iff, Nat.one_ne_zero, am_cs, hn, hcall, hgo, hk, c2, s1, g1]
          exact ⟨I', J, rfl, kc_upd h c0 (wy_call h.1 (by omega) g3) g2 (kf_call g3 (by omega) (by omega)) (kf_at.refl _ _)⟩
    · have c2 : (cs c).on = 0 := by
        rcases so_on01 (cs c) with h0 | h0
        · exact h0
        · exact absurd h0 c1
      rw [if_neg (fun hh => c1 hh.2), if_neg (fun hh => c1 hh.2)]
      rw [c2] at hgo
      simp (disch := first | assumption | omega) only [pm_gI, pm_gJ, pm_gR, pm_pI, pm_pZ, pm_pJ, pm_ldI, pm_ldJ, pm_ldR, pm_stI, pm_stZ, pm_stJ, pm_pZ0, pm_pZ1, pm_stZ0, pm_stZ1, pm_len, pm_cpyI, pm_cpyJ, pm_is, Option.bind_some, pm_u, pm_ur, pm_lt, pm_le, pm_eq, pm_ne, pm_add, pm_sub, pm_z0, pm_z1, cond_true, cond_false, decide_true, decide_false, not_false_eq_true, not_true_eq_false, reduceIte, Nat.reduceEqDiff, Nat.add_eq_left, Nat.left_eq_add, Nat.add_left_cancel_iff, Nat.one_ne_zero, am_cs, hn, hcall, hgo]
      exact ⟨I, J, rfl, h, kg_at.refl _, kg_at.refl _⟩
  · have hcall := kc_callAt0 L h (y := nI c) (by
      have hcb := hx.2.2.2.2.2.2.2.1
      unfold wu_in
      rw [if_neg (nI_pos (by omega)), if_pos (nI_le (by omega) (by omega))]) (d + 3)
    rw [if_neg (fun hh => c0 hh.1), if_neg (fun hh => c0 hh.1)]
    simp (disch := first | assumption | omega) only [pm_gI, pm_gJ, pm_gR, pm_pI, pm_pZ, pm_pJ, pm_ldI, pm_ldJ, pm_ldR, pm_stI, pm_stZ, pm_stJ, pm_pZ0, pm_pZ1, pm_stZ0, pm_stZ1, pm_len, pm_cpyI, pm_cpyJ, pm_is, Option.bind_some, pm_u, pm_ur, pm_lt, pm_le, pm_eq, pm_ne, pm_add, pm_sub, pm_z0, pm_z1, cond_true, cond_false, decide_true, decide_false, not_false_eq_true, not_true_eq_false, reduceIte, Nat.reduceEqDiff, Nat.add_eq_left, Nat.left_eq_add, Nat.add_left_cancel_iff, Nat.one_ne_zero, am_cs, hn, hcall]
    exact ⟨I, J, rfl, h, kg_at.refl _, kg_at.refl _⟩
end KCM
