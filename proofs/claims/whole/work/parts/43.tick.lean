/-! THE CLASS'S CLIENT: the clock -/
def sk_due (cs : Nat → sCl) : Nat → Nat → Nat → Nat
  | 0, _, t => t
  | n + 1, i, t => sk_due cs n (i + 1) (if (cs i).on = 0 then t else if (cs i).wt = 0 then min (cs i).la t else min (cs i).wk (min (cs i).la t))
theorem px_min {a b : Nat} (ha : a < 2147483648) (hb : b < 2147483648) : (if nI a < nI b then nI a else nI b) = nI (min a b) := by
  by_cases h : a < b
  · rw [if_pos (nI_lt h hb), Nat.min_eq_left (by omega)]
  · rw [if_neg (nI_nlt (by omega) ha), Nat.min_eq_right (by omega)]
/-- one tick: calls that are late end, calls that wait are opened again -/
def sk_run (ck : Nat) : Nat → Nat → Nat → (Nat → sCl) → sWy → Nat × (Nat → sCl) × sWy
  | 0, _, late, cs, W => (late, cs, W)
  | n + 1, i, late, cs, W => if (cs i).on = 0 then sk_run ck n (i + 1) late cs W else if ck < (cs i).la then (if (cs i).wt = 0 ∨ ck < (cs i).wk then sk_run ck n (i + 1) late cs W else sk_run ck n (i + 1) late (su_at cs i (so_openC ((cs i).setWt 0 (cs i).wk (cs i).tr))) (so_openW i ((cs i).setWt 0 (cs i).wk (cs i).tr) W)) else sk_run ck n (i + 1) (late + 1) (su_at cs i ((cs i).fin (-nI 1))) W
section TCK
variable {K : am_K} {J : pm_J} {p ck mk : Nat} {W : sWy} {cs : Nat → sCl}
theorem kc_dueLoop {I : pm_I} (L : kl_ok K) (h : kc_at I J p W cs mk ck) (d : Nat) : ∀ (n i t : Nat), i + n = mk → t ≤ 2000000 →
    l_X1_nextDue_4 (d + 1) 13 (nI t) (nI i) (K, I, J) = some ((nI (sk_due cs n i t), 0, none), (K, I, J)) := by
  obtain ⟨h1, h2, h3, h4, h5, h6, h7⟩ := h
  obtain ⟨k0, k1, k2, k3, k4, k5⟩ := L
  intro n
  induction n with
  | zero =>
    intro i t hi ht
    have c1 : mk ≤ i := by omega
    rw [e_l_X1_nextDue_4]
    simp (disch := first | assumption | omega) only [pm_gI, pm_gJ, pm_gR, pm_pI, pm_pZ, pm_pJ, pm_ldI, pm_ldJ, pm_ldR, pm_stI, pm_stZ, pm_stJ, pm_pZ0, pm_pZ1, pm_stZ0, pm_stZ1, pm_len, pm_cpyI, pm_cpyJ, pm_is, Option.bind_some, pm_u, pm_ur, pm_lt, pm_le, pm_eq, pm_ne, pm_add, pm_sub, pm_z0, pm_z1, cond_true, cond_false, decide_true, decide_false, not_false_eq_true, not_true_eq_false, reduceIte, Nat.reduceEqDiff, Nat.add_eq_left, Nat.left_eq_add, Nat.add_left_cancel_iff, Nat.one_ne_zero, am_cs, h2, c1]
    rfl
  | succ n ih =>
    intro i t hi ht
    have c1 : ¬ mk ≤ i := by omega
    have k6 := (k5 i (by omega)).1
    have M := (k5 i (by omega)).2
    have m0 := M.1
    have hc := h6 i (by omega)
    have hgo := cc_goesOn M hc d
    obtain ⟨⟨s0, s1, s3, s4, s5, s6, s7, s8, s11, s13, t2, t14⟩, g2, g3, g4, b1, b2, b3, b4, b5, b6, b7, b8, b9, b10, b11⟩ := hc
    rw [e_l_X1_nextDue_4]
    unfold sk_due
    by_cases c2 : (cs i).on = 0
    · rw [if_pos c2]
      rw [c2] at hgo
      simp (disch := first | assumption | omega) only [pm_gI, pm_gJ, pm_gR, pm_pI, pm_pZ, pm_pJ, pm_ldI, pm_ldJ, pm_ldR, pm_stI, pm_stZ, pm_stJ, pm_pZ0, pm_pZ1, pm_stZ0, pm_stZ1, pm_len, pm_cpyI, pm_cpyJ, pm_is, Option.bind_some, pm_u, pm_ur, pm_lt, pm_le, pm_eq, pm_ne, pm_add, pm_sub, pm_z0, pm_z1, cond_true, cond_false, decide_true, decide_false, not_false_eq_true, not_true_eq_false, reduceIte, Nat.reduceEqDiff, Nat.add_eq_left, Nat.left_eq_add, Nat.add_left_cancel_iff, Nat.one_ne_zero, am_cs, h2, c1, hgo]
      exact ih (i + 1) t (by omega) ht
    · rw [if_neg c2]
      have c2 : (cs i).on = 1 := by
        rcases so_on01 (cs i) with h0 | h0
        · exact absurd h0 c2
        · exact h0
      rw [c2] at hgo
      have e1 := px_min (a := (cs i).la) (b := t) (by omega) (by omega)
      by_cases c3 : (cs i).wt = 0
      · rw [if_pos c3]
        simp (disch := first | assumption | omega) only [pm_gI, pm_gJ, pm_gR, pm_pI, pm_pZ, pm_pJ, pm_ldI, pm_ldJ, pm_ldR, pm_stI, pm_stZ, pm_stJ, pm_pZ0, pm_pZ1, pm_stZ0, pm_stZ1, pm_len, pm_cpyI, pm_cpyJ, pm_is, Option.bind_some, pm_u, pm_ur, pm_lt, pm_le, pm_eq, pm_ne, pm_add, pm_sub, pm_z0, pm_z1, cond_true, cond_false, decide_true, decide_false, not_false_eq_true, not_true_eq_false, reduceIte, Nat.reduceEqDiff, Nat.add_eq_left, Nat.left_eq_add, Nat.add_left_cancel_iff, Nat.one_ne_zero, am_cs, h2, c1, hgo, s5, s6, c3]
        rw [e1]
        exact ih (i + 1) _ (by omega) (by omega)
      · rw [if_neg c3]
        simp (disch := first | assumption | omega) only [pm_gI, pm_gJ, pm_gR, pm_pI, pm_pZ, pm_pJ, pm_ldI, pm_ldJ, pm_ldR, pm_stI, pm_stZ, pm_stJ, pm_pZ0, pm_pZ1, pm_stZ0, pm_stZ1, pm_len, pm_cpyI, pm_cpyJ, pm_is, Option.bind_some, pm_u, pm_ur, pm_lt, pm_le, pm_eq, pm_ne, pm_add, pm_sub, pm_z0, pm_z1, cond_true, cond_false, decide_true, decide_false, not_false_eq_true, not_true_eq_false, reduceIte, Nat.reduceEqDiff, Nat.add_eq_left, Nat.left_eq_add, Nat.add_left_cancel_iff, Nat.one_ne_zero, am_cs, h2, c1, hgo, s5, s6, s7, c3]
        rw [e1, px_min (by omega) (by omega)]
        exact ih (i + 1) _ (by omega) (by omega)
theorem kc_nextDue {I : pm_I} (L : kl_ok K) (h : kc_at I J p W cs mk ck) {t : Nat} (ht : t ≤ 2000000) (d : Nat) : f_X1_nextDue (d + 1) 13 (nI t) (K, I, J) = some ((nI (sk_due cs mk 0 t), 0, none), (K, I, J)) := by
  rw [e_X1_nextDue]
  exact kc_dueLoop L h d mk 0 t (Nat.zero_add _) ht
theorem kc_runLoop (L : kl_ok K) (d : Nat) : ∀ (n i late : Nat) (I : pm_I) (cs : Nat → sCl) (W : sWy), i + n = mk → kc_at I J p W cs mk ck →
    ∃ I' : pm_I, l_X1_runTick_4 (d + 5) 13 (nI late) (nI i) (K, I, J) = some ((nI (sk_run ck n i late cs W).1, 0, none), (K, I', J)) ∧ kc_at I' J p (sk_run ck n i late cs W).2.2 (sk_run ck n i late cs W).2.1 mk ck ∧ kg_at I I' := by
  intro n
  induction n with
  | zero =>
    intro i late I cs W hi h
    have c1 : mk ≤ i := by omega
    have h2 := h.2.1
    have h4 := h.2.2.2.1
    have k0 := L.1
    rw [e_l_X1_runTick_4]
    simp (disch := first | assumption | omega) only [pm_gI, pm_gJ, pm_gR, pm_pI, pm_pZ, pm_pJ, pm_ldI, pm_ldJ, pm_ldR, pm_stI, pm_stZ, pm_stJ, pm_pZ0, pm_pZ1, pm_stZ0, pm_stZ1, pm_len, pm_cpyI, pm_cpyJ, pm_is, Option.bind_some, pm_u, pm_ur, pm_lt, pm_le, pm_eq, pm_ne, pm_add, pm_sub, pm_z0, pm_z1, cond_true, cond_false, decide_true, decide_false, not_false_eq_true, not_true_eq_false, reduceIte, Nat.reduceEqDiff, Nat.add_eq_left, Nat.left_eq_add, Nat.add_left_cancel_iff, Nat.one_ne_zero, am_cs, h2, c1]
    exact ⟨I, rfl, h, kg_at.refl _⟩
  | succ n ih =>
    intro i late I cs W hi h
    have h' := h
    obtain ⟨h1, h2, h3, h4, h5, h6, h7⟩ := h
    have L' := L
    obtain ⟨k0, k1, k2, k3, k4, k5⟩ := L
    have c1 : ¬ mk ≤ i := by omega
    have hil : i < mk := by omega
    have k6 := (k5 i (by omega)).1
    have M := (k5 i (by omega)).2
    have m0 := M.1
    have hc := h6 i (by omega)
    have hgo := cc_goesOn M hc (d + 4)
    have hc' := hc
    obtain ⟨⟨s0, s1, s3, s4, s5, s6, s7, s8, s11, s13, t2, t14⟩, g2, g3, g4, b1, b2, b3, b4, b5, b6, b7, b8, b9, b10, b11⟩ := hc
    rw [e_l_X1_runTick_4]
    unfold sk_run
    by_cases c2 : (cs i).on = 0
    · rw [if_pos c2]
      rw [c2] at hgo
      simp (disch := first | assumption | omega) only [pm_gI, pm_gJ, pm_gR, pm_pI, pm_pZ, pm_pJ, pm_ldI, pm_ldJ, pm_ldR, pm_stI, pm_stZ, pm_stJ, pm_pZ0, pm_pZ1, pm_stZ0, pm_stZ1, pm_len, pm_cpyI, pm_cpyJ, pm_is, Option.bind_some, pm_u, pm_ur, pm_lt, pm_le, pm_eq, pm_ne, pm_add, pm_sub, pm_z0, pm_z1, cond_true, cond_false, decide_true, decide_false, not_false_eq_true, not_true_eq_false, reduceIte, Nat.reduceEqDiff, Nat.add_eq_left, Nat.left_eq_add, Nat.add_left_cancel_iff, Nat.one_ne_zero, am_cs, h2, c1, hgo]
      exact ih (i + 1) late I cs W (by omega) h'
    · rw [if_neg c2]
      have c2 : (cs i).on = 1 := by
        rcases so_on01 (cs i) with h0 | h0
        · exact absurd h0 c2
        · exact h0
      rw [c2] at hgo
      by_cases c3 : ck < (cs i).la
      · rw [if_pos c3]
        by_cases c4 : (cs i).wt = 0
        · rw [if_pos (Or.inl c4)]
          simp (disch := first | assumption | omega) only [pm_gI, pm_gJ, pm_gR, pm_pI, pm_pZ, pm_pJ, pm_ldI, pm_ldJ, pm_ldR, pm_stI, pm_stZ, pm_stJ, pm_pZ0, pm_pZ1, pm_stZ0, pm_stZ1, pm_len, pm_cpyI, pm_cpyJ, pm_is, Option.bind_some, pm_u, pm_ur, pm_lt, pm_le, pm_eq, pm_ne, pm_add, pm_sub, pm_z0, pm_z1, cond_true, cond_false, decide_true, decide_false, not_false_eq_true, not_true_eq_false, reduceIte, Nat.reduceEqDiff, Nat.add_eq_left, Nat.left_eq_add, Nat.add_left_cancel_iff, Nat.one_ne_zero, am_cs, h2, c1, hgo, h3, s5, c3, s6, c4]
          exact ih (i + 1) late I cs W (by omega) h'
        · by_cases c5 : ck < (cs i).wk
          · rw [if_pos (Or.inr c5)]
            simp (disch := first | assumption | omega) only [pm_gI, pm_gJ, pm_gR, pm_pI, pm_pZ, pm_pJ, pm_ldI, pm_ldJ, pm_ldR, pm_stI, pm_stZ, pm_stJ, pm_pZ0, pm_pZ1, pm_stZ0, pm_stZ1, pm_len, pm_cpyI, pm_cpyJ, pm_is, Option.bind_some, pm_u, pm_ur, pm_lt, pm_le, pm_eq, pm_ne, pm_add, pm_sub, pm_z0, pm_z1, cond_true, cond_false, decide_true, decide_false, not_false_eq_true, not_true_eq_false, reduceIte, Nat.reduceEqDiff, Nat.add_eq_left, Nat.left_eq_add, Nat.add_left_cancel_iff, Nat.one_ne_zero, am_cs, h2, c1, hgo, h3, s5, c3, s6, c4, s7, c5]
            exact ih (i + 1) late I cs W (by omega) h'
          · rw [if_neg (by omega)]
            have f0 : pm_fr I (am_u I (15 + 5 * i) 6 (nI 0)) (15 + 5 * i) 1 := pm_fr_u (by omega)
            have hc2 : cc_at (am_u I (15 + 5 * i) 6 (nI 0)) J (15 + 5 * i) i ((cs i).setWt 0 (cs i).wk (cs i).tr) := by
              refine ⟨?_, rc_congr g2 (f0 _ (by omega)) (f0 _ (by omega)), g3, ?_, b1, b2, b3, by simp [sCl_kd_fin, sCl_ac_fin, sCl_bg_fin, sCl_oc_fin, sCl_la_fin, sCl_wt_fin, sCl_wk_fin, sCl_tr_fin, sCl_row_fin, sCl_dg_fin, sCl_an_fin, sCl_xr_fin, sCl_kd_setRow, sCl_ac_setRow, sCl_bg_setRow, sCl_oc_setRow, sCl_la_setRow, sCl_wt_setRow, sCl_wk_setRow, sCl_tr_setRow, sCl_row_setRow, sCl_dg_setRow, sCl_an_setRow, sCl_xr_setRow, sCl_kd_setDg, sCl_ac_setDg, sCl_bg_setDg, sCl_oc_setDg, sCl_la_setDg, sCl_wt_setDg, sCl_wk_setDg, sCl_tr_setDg, sCl_row_setDg, sCl_dg_setDg, sCl_an_setDg, sCl_xr_setDg, sCl_kd_setAn, sCl_ac_setAn, sCl_bg_setAn, sCl_oc_setAn, sCl_la_setAn, sCl_wt_setAn, sCl_wk_setAn, sCl_tr_setAn, sCl_row_setAn, sCl_dg_setAn, sCl_an_setAn, sCl_xr_setAn, sCl_kd_setXr, sCl_ac_setXr, sCl_bg_setXr, sCl_oc_setXr, sCl_la_setXr, sCl_wt_setXr, sCl_wk_setXr, sCl_tr_setXr, sCl_row_setXr, sCl_dg_setXr, sCl_an_setXr, sCl_xr_setXr, sCl_kd_setWt, sCl_ac_setWt, sCl_bg_setWt, sCl_oc_setWt, sCl_la_setWt, sCl_wt_setWt, sCl_wk_setWt, sCl_tr_setWt, sCl_row_setWt, sCl_dg_setWt, sCl_an_setWt, sCl_xr_setWt, sCl_kd_setBg, sCl_ac_setBg, sCl_bg_setBg, sCl_oc_setBg, sCl_la_setBg, sCl_wt_setBg, sCl_wk_setBg, sCl_tr_setBg, sCl_row_setBg, sCl_dg_setBg, sCl_an_setBg, sCl_xr_setBg, sCl_kd_new, sCl_ac_new, sCl_bg_new, sCl_oc_new, sCl_la_new, sCl_wt_new, sCl_wk_new, sCl_tr_new, sCl_row_new, sCl_dg_new, sCl_an_new, sCl_xr_new], b5, b6, b7, b8, b9, b10, b11⟩
              · simp [cs_at, sCl_kd_fin, sCl_ac_fin, sCl_bg_fin, sCl_oc_fin, sCl_la_fin, sCl_wt_fin, sCl_wk_fin, sCl_tr_fin, sCl_row_fin, sCl_dg_fin, sCl_an_fin, sCl_xr_fin, sCl_kd_setRow, sCl_ac_setRow, sCl_bg_setRow, sCl_oc_setRow, sCl_la_setRow, sCl_wt_setRow, sCl_wk_setRow, sCl_tr_setRow, sCl_row_setRow, sCl_dg_setRow, sCl_an_setRow, sCl_xr_setRow, sCl_kd_setDg, sCl_ac_setDg, sCl_bg_setDg, sCl_oc_setDg, sCl_la_setDg, sCl_wt_setDg, sCl_wk_setDg, sCl_tr_setDg, sCl_row_setDg, sCl_dg_setDg, sCl_an_setDg, sCl_xr_setDg, sCl_kd_setAn, sCl_ac_setAn, sCl_bg_setAn, sCl_oc_setAn, sCl_la_setAn, sCl_wt_setAn, sCl_wk_setAn, sCl_tr_setAn, sCl_row_setAn, sCl_dg_setAn, sCl_an_setAn, sCl_xr_setAn, sCl_kd_setXr, sCl_ac_setXr, sCl_bg_setXr, sCl_oc_setXr, sCl_la_setXr, sCl_wt_setXr, sCl_wk_setXr, sCl_tr_setXr, sCl_row_setXr, sCl_dg_setXr, sCl_an_setXr, sCl_xr_setXr, sCl_kd_setWt, sCl_ac_setWt, sCl_bg_setWt, sCl_oc_setWt, sCl_la_setWt, sCl_wt_setWt, sCl_wk_setWt, sCl_tr_setWt, sCl_row_setWt, sCl_dg_setWt, sCl_an_setWt, sCl_xr_setWt, sCl_kd_setBg, sCl_ac_setBg, sCl_bg_setBg, sCl_oc_setBg, sCl_la_setBg, sCl_wt_setBg, sCl_wk_setBg, sCl_tr_setBg, sCl_row_setBg, sCl_dg_setBg, sCl_an_setBg, sCl_xr_setBg, sCl_kd_new, sCl_ac_new, sCl_bg_new, sCl_oc_new, sCl_la_new, sCl_wt_new, sCl_wk_new, sCl_tr_new, sCl_row_new, sCl_dg_new, sCl_an_new, sCl_xr_new, pm_u, s0, s1, s3, s4, s5, s7, s8, s11, s13, t2, t14]
              · intro n hn
                (repeat (rw [am_u_ne _ _ (by omega)]))
                exact g4 n hn
            obtain ⟨I1, q1, q2, q3, q4⟩ := kc_open L' M (by omega) (by omega) (wy_call h1 (by omega) f0) hc2 d
            obtain ⟨r1, r2, -⟩ := kc_upd h' hil q2 q3 ((kf_call f0 (by omega) (by omega)).trans q4) (kf_at.refl _ _)
            obtain ⟨I2, u1, u2, u3⟩ := ih (i + 1) late I1 _ _ (by omega) r1
            simp (disch := first | assumption | omega) only [pm_gI, pm_gJ, pm_gR, pm_pI, pm_pZ, pm_pJ, pm_ldI, pm_ldJ, pm_ldR, pm_stI, pm_stZ, pm_stJ, pm_pZ0, pm_pZ1, pm_stZ0, pm_stZ1, pm_len, pm_cpyI, pm_cpyJ, pm_is, Option.bind_some, pm_u, pm_ur, pm_lt, pm_le, pm_eq, pm_ne, pm_add, pm_sub, pm_z0, pm_z1, cond_true, cond_false, decide_true, decide_false, not_false_eq_true, not_true_eq_false, reduceIte, Nat.reduceEqDiff, Nat.add_eq_left, Nat.left_eq_add, Nat.add_left_cancel_iff, Nat.one_ne_zero, am_cs, h2, c1, hgo, h3, s5, c3, s6, c4, s7, c5, q1]
            exact ⟨I2, u1, u2, r2.trans u3⟩
      · rw [if_neg c3]
        obtain ⟨I1, q1, q2, q3⟩ := cc_finish M hc' (-nI 1) (px_neg (by omega) (by omega)) (d + 4)
        obtain ⟨r1, r2, -⟩ := kc_upd h' hil (wy_call h1 (by omega) q3) q2 (kf_call q3 (by omega) (by omega)) (kf_at.refl _ _)
        obtain ⟨I2, u1, u2, u3⟩ := ih (i + 1) (late + 1) I1 _ _ (by omega) r1
        simp (disch := first | assumption | omega) only [pm_gI, pm_gJ, pm_gR, pm_pI, pm_pZ, pm_pJ, pm_ldI, pm_ldJ, pm_ldR, pm_stI, pm_stZ, pm_stJ, pm_pZ0, pm_pZ1, pm_stZ0, pm_stZ1, pm_len, pm_cpyI, pm_cpyJ, pm_is, Option.bind_some, pm_u, pm_ur, pm_lt, pm_le, pm_eq, pm_ne, pm_add, pm_sub, pm_z0, pm_z1, cond_true, cond_false, decide_true, decide_false, not_false_eq_true, not_true_eq_false, reduceIte, Nat.reduceEqDiff, Nat.add_eq_left, Nat.left_eq_add, Nat.add_left_cancel_iff, Nat.one_ne_zero, am_cs, h2, c1, hgo, h3, s5, c3, q1]
        exact ⟨I2, u1, u2, r2.trans u3⟩
theorem kc_runTick {I : pm_I} (L : kl_ok K) (h : kc_at I J p W cs mk ck) (d : Nat) : ∃ I' : pm_I, f_X1_runTick (d + 5) 13 (K, I, J) = some ((nI (sk_run ck mk 0 0 cs W).1, 0, none), (K, I', J)) ∧ kc_at I' J p (sk_run ck mk 0 0 cs W).2.2 (sk_run ck mk 0 0 cs W).2.1 mk ck ∧ kg_at I I' := by
  rw [e_X1_runTick]
  exact kc_runLoop L d mk 0 0 I cs W (Nat.zero_add _) h
end TCK
