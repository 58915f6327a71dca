/-! THE CLASS'S CALLS OF THE DOCUMENT, part 5: the clock -/
theorem sk_due_le (cs : Nat → sCl) : ∀ n i t, sk_due cs n i t ≤ t := by
  intro n
  induction n with
  | zero => intro i t; exact Nat.le_refl _
  | succ n ih =>
    intro i t
    unfold sk_due
    refine Nat.le_trans (ih _ _) ?_
    split
    · exact Nat.le_refl _
    · split <;> omega
def st_run (t : Nat) (T : sT) : Nat × sT := ((sk_run t T.mk 0 0 T.cs T.w0).1, T.setK (sk_run t T.mk 0 0 T.cs T.w0).2.2 (sk_run t T.mk 0 0 T.cs T.w0).2.1 T.mk t)
def st_jump (tg : Nat) : Nat → Nat → sT → Nat × sT
  | 0, late, T => (late, T)
  | n + 1, late, T => if tg ≤ T.ck then (late, T) else st_jump tg n (late + (st_run (sk_due T.cs T.mk 0 tg) T).1) (st_run (sk_due T.cs T.mk 0 tg) T).2
section TP5
variable {K : am_K} {p : Nat}
theorem kc_setck {I : pm_I} {J : pm_J} {W : sWy} {cs : Nat → sCl} {mk ck t : Nat} (h : kc_at I J p W cs mk ck) (ht : t ≤ 1000000) : kc_at (am_u I 13 3 (nI t)) J p W cs mk t := by
  have f0 : pm_fr I (am_u I 13 3 (nI t)) 13 1 := pm_fr_u (by omega)
  obtain ⟨h1, h2, h3, h4, h5, h6, h7⟩ := h
  refine ⟨wy_fr h1 f0 (by omega), ?_, ?_, h4, ht, fun i hi => cc_congr (h6 i hi) (fun a _ _ => f0 a (by omega)) (fun _ _ _ => rfl), h7⟩
  · simp [pm_u, h2]
  · simp [pm_u]
theorem tc_jump (L : tl_ok K) (d N tg : Nat) (hN : N ≤ 1000) (htg : tg ≤ 1000000) : ∀ (n s late : Nat) (I : pm_I) (J : pm_J) (T : sT), s + n = N → tc_at I J p T →
    ∃ I' : pm_I, l_X8_tick_42 (d + 6) 0 (nI N) (nI tg) (nI late) (nI s) (K, I, J) = some ((nI (st_jump tg n late T).1, 0, none), (K, I', J)) ∧ tc_at I' J p (st_jump tg n late T).2 ∧ tf_at I I' := by
  obtain ⟨l0, l1, l2, l3, l4, l5, l6, l7, l8, l9, l10⟩ := L
  have k0 := l7.1
  intro n
  induction n with
  | zero =>
    intro s late I J T hs h
    have c0 : N ≤ s := by omega
    rw [e_l_X8_tick_42]
    unfold st_jump
    simp (disch := first | assumption | omega) only [pm_gI, pm_gJ, pm_gR, pm_pI, pm_pZ, pm_pJ, pm_ldI, pm_ldJ, pm_ldR, pm_stI, pm_stZ, pm_stJ, pm_pZ0, pm_pZ1, pm_stZ0, pm_stZ1, pm_len, pm_cpyI, pm_cpyJ, pm_is, Option.bind_some, pm_u, pm_ur, pm_lt, pm_le, pm_eq, pm_ne, pm_add, pm_sub, pm_z0, pm_z1, cond_true, cond_false, decide_true, decide_false, not_false_eq_true, not_true_eq_false, reduceIte, Nat.reduceEqDiff, Nat.add_eq_left, Nat.left_eq_add, Nat.add_left_cancel_iff, Nat.one_ne_zero, am_cs, c0]
    exact ⟨I, rfl, h, tf_at.refl _⟩
  | succ n ih =>
    intro s late I J T hs h
    have c0 : ¬ N ≤ s := by omega
    have hck := h.1.2.2.1
    have hck2 := h.1.2.2.2.2.1
    rw [e_l_X8_tick_42]
    unfold st_jump
    by_cases c1 : tg ≤ T.ck
    · rw [if_pos c1]
      simp (disch := first | assumption | omega) only [pm_gI, pm_gJ, pm_gR, pm_pI, pm_pZ, pm_pJ, pm_ldI, pm_ldJ, pm_ldR, pm_stI, pm_stZ, pm_stJ, pm_pZ0, pm_pZ1, pm_stZ0, pm_stZ1, pm_len, pm_cpyI, pm_cpyJ, pm_is, Option.bind_some, pm_u, pm_ur, pm_lt, pm_le, pm_eq, pm_ne, pm_add, pm_sub, pm_z0, pm_z1, cond_true, cond_false, decide_true, decide_false, not_false_eq_true, not_true_eq_false, reduceIte, Nat.reduceEqDiff, Nat.add_eq_left, Nat.left_eq_add, Nat.add_left_cancel_iff, Nat.one_ne_zero, am_cs, c0, hck, c1]
      exact ⟨I, rfl, h, tf_at.refl _⟩
    · rw [if_neg c1]
      have hdue := kc_nextDue l7 h.1 (show tg ≤ 2000000 by omega) (d + 4)
      have hle := sk_due_le T.cs T.mk 0 tg
      have h1 := kc_setck h.1 (show sk_due T.cs T.mk 0 tg ≤ 1000000 by omega)
      have f0 : pm_fr I (am_u I 13 3 (nI (sk_due T.cs T.mk 0 tg))) 13 1 := pm_fr_u (by omega)
      obtain ⟨I1, a1, a2, a3⟩ := kc_runTick l7 h1 d
      have h2 : tc_at I1 J p (st_run (sk_due T.cs T.mk 0 tg) T).2 := tc_kc h a2 (fun a ha => by rw [a3 a ha, f0 a (by omega)]) (kg_at.refl _)
      obtain ⟨I2, b1, b2, b3⟩ := ih (s + 1) (late + (st_run (sk_due T.cs T.mk 0 tg) T).1) I1 J _ (by omega) h2
      have b1' : l_X8_tick_42 (d + 6) 0 (nI N) (nI tg) (nI (late + (sk_run (sk_due T.cs T.mk 0 tg) T.mk 0 0 T.cs T.w0).1)) (nI (s + 1)) (K, I1, J) = _ := b1
      simp (disch := first | assumption | omega) only [pm_gI, pm_gJ, pm_gR, pm_pI, pm_pZ, pm_pJ, pm_ldI, pm_ldJ, pm_ldR, pm_stI, pm_stZ, pm_stJ, pm_pZ0, pm_pZ1, pm_stZ0, pm_stZ1, pm_len, pm_cpyI, pm_cpyJ, pm_is, Option.bind_some, pm_u, pm_ur, pm_lt, pm_le, pm_eq, pm_ne, pm_add, pm_sub, pm_z0, pm_z1, cond_true, cond_false, decide_true, decide_false, not_false_eq_true, not_true_eq_false, reduceIte, Nat.reduceEqDiff, Nat.add_eq_left, Nat.left_eq_add, Nat.add_left_cancel_iff, Nat.one_ne_zero, am_cs, c0, hck, c1, hdue, a1]
      exact ⟨I2, b1, b2, (tf_fr f0 (by omega)).trans ((tf_kg a3).trans b3)⟩
def st_tickJ (x : Int32) (T : sT) : Int32 × sT := if wu_in x 1001 = 1 ∧ T.ck + x.toNatClampNeg ≤ 1000000 then (nI (st_jump (T.ck + x.toNatClampNeg) x.toNatClampNeg 0 T).1, (st_jump (T.ck + x.toNatClampNeg) x.toNatClampNeg 0 T).2) else (-nI 1, T)
theorem tc_tick {I : pm_I} {J : pm_J} {T : sT} (L : tl_ok K) (h : tc_at I J p T) (x : Int32) (d : Nat) : ∃ I' : pm_I, f_X8_tick (d + 6) 0 x (K, I, J) = some (((st_tickJ x T).1, 0, none), (K, I', J)) ∧ tc_at I' J p (st_tickJ x T).2 ∧ tf_at I I' := by
  have L' := L
  obtain ⟨l0, l1, l2, l3, l4, l5, l6, l7, l8, l9, l10⟩ := L
  have k0 := l7.1
  have hck := h.1.2.2.1
  have hck2 := h.1.2.2.2.2.1
  rw [e_X8_tick]
  unfold st_tickJ
  by_cases c : wu_in x 1001 = 1
  · obtain ⟨j, hj, rfl⟩ := wu_in1 (by omega) c
    rw [nI_clamp (by omega)]
    have c0 : ¬ j < 0 := by omega
    have c1 : ¬ 1000 < j := by omega
    by_cases c2 : T.ck + j ≤ 1000000
    · rw [if_pos ⟨c, c2⟩]
      obtain ⟨I1, g1, g2, g3⟩ := tc_jump (p := p) L' d j (T.ck + j) (by omega) c2 j 0 0 I J T (Nat.zero_add _) h
      simp (disch := first | assumption | omega) only [pm_gI, pm_gJ, pm_gR, pm_pI, pm_pZ, pm_pJ, pm_ldI, pm_ldJ, pm_ldR, pm_stI, pm_stZ, pm_stJ, pm_pZ0, pm_pZ1, pm_stZ0, pm_stZ1, pm_len, pm_cpyI, pm_cpyJ, pm_is, Option.bind_some, pm_u, pm_ur, pm_lt, pm_le, pm_eq, pm_ne, pm_add, pm_sub, pm_z0, pm_z1, cond_true, cond_false, decide_true, decide_false, not_false_eq_true, not_true_eq_false, reduceIte, Nat.reduceEqDiff, Nat.add_eq_left, Nat.left_eq_add, Nat.add_left_cancel_iff, Nat.one_ne_zero, am_cs, c0, c1, hck, c2]
      exact ⟨I1, g1, g2, g3⟩
    · rw [if_neg (fun hh => c2 hh.2)]
      simp (disch := first | assumption | omega) only [pm_gI, pm_gJ, pm_gR, pm_pI, pm_pZ, pm_pJ, pm_ldI, pm_ldJ, pm_ldR, pm_stI, pm_stZ, pm_stJ, pm_pZ0, pm_pZ1, pm_stZ0, pm_stZ1, pm_len, pm_cpyI, pm_cpyJ, pm_is, Option.bind_some, pm_u, pm_ur, pm_lt, pm_le, pm_eq, pm_ne, pm_add, pm_sub, pm_z0, pm_z1, cond_true, cond_false, decide_true, decide_false, not_false_eq_true, not_true_eq_false, reduceIte, Nat.reduceEqDiff, Nat.add_eq_left, Nat.left_eq_add, Nat.add_left_cancel_iff, Nat.one_ne_zero, am_cs, c0, c1, hck, c2]
      exact ⟨I, rfl, h, tf_at.refl _⟩
  · rw [if_neg (fun hh => c hh.1)]
    unfold wu_in at c
    by_cases c0 : x < nI 0
    · simp (disch := first | assumption | omega) only [pm_gI, pm_gJ, pm_gR, pm_pI, pm_pZ, pm_pJ, pm_ldI, pm_ldJ, pm_ldR, pm_stI, pm_stZ, pm_stJ, pm_pZ0, pm_pZ1, pm_stZ0, pm_stZ1, pm_len, pm_cpyI, pm_cpyJ, pm_is, Option.bind_some, pm_u, pm_ur, pm_lt, pm_le, pm_eq, pm_ne, pm_add, pm_sub, pm_z0, pm_z1, cond_true, cond_false, decide_true, decide_false, not_false_eq_true, not_true_eq_false, reduceIte, Nat.reduceEqDiff, Nat.add_eq_left, Nat.left_eq_add, Nat.add_left_cancel_iff, Nat.one_ne_zero, am_cs, c0]
      exact ⟨I, rfl, h, tf_at.refl _⟩
    · rw [if_neg (show ¬ x < 0 from c0)] at c
      have c1 : nI 1000 < x := by
        by_cases c2 : nI 1001 ≤ x
        · exact Int32.lt_of_lt_of_le (by decide +kernel) c2
        · rw [if_neg c2] at c
          exact absurd rfl c
      simp (disch := first | assumption | omega) only [pm_gI, pm_gJ, pm_gR, pm_pI, pm_pZ, pm_pJ, pm_ldI, pm_ldJ, pm_ldR, pm_stI, pm_stZ, pm_stJ, pm_pZ0, pm_pZ1, pm_stZ0, pm_stZ1, pm_len, pm_cpyI, pm_cpyJ, pm_is, Option.bind_some, pm_u, pm_ur, pm_lt, pm_le, pm_eq, pm_ne, pm_add, pm_sub, pm_z0, pm_z1, cond_true, cond_false, decide_true, decide_false, not_false_eq_true, not_true_eq_false, reduceIte, Nat.reduceEqDiff, Nat.add_eq_left, Nat.left_eq_add, Nat.add_left_cancel_iff, Nat.one_ne_zero, am_cs, c0, c1]
      exact ⟨I, rfl, h, tf_at.refl _⟩
end TP5
