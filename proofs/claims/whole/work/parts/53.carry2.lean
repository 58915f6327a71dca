/-! THE CLASS CARRIES BYTES: the loops -/
section CA2
variable {K : am_K} {p : Nat}
theorem sWy_nx_len (W : sWy) : W.nx.q.length = W.q.length - 1 := by
  show W.q.tail.length = _
  simp
theorem byte0_w0 (T : sT) : (st_byte0 p T).w0 = T.w0.nx := by
  unfold st_byte0
  split <;> rfl
theorem byte1_w1 (T : sT) : (st_byte1 p T).w1 = T.w1.nx := by
  unfold st_byte1
  split <;> rfl
theorem tc_car0 (L : tl_ok K) (d all : Nat) (ha : all ≤ 2000) : ∀ (n k : Nat) (I : pm_I) (J : pm_J) (T : sT), k + n = all → n ≤ T.w0.q.length → tc_at I J p T →
    ∃ (I' : pm_I) (J' : pm_J), l_X8_carryFrom_36 (d + 5) 0 (nI 0) 1 9 (nI all) (nI (k + 1)) (K, I, J) = some ((nI (st_car0 p n k T).1, 0, none), (K, I', J')) ∧ tc_at I' J' p (st_car0 p n k T).2 ∧ tf_at I I' ∧ tf_at J J' := by
  have L' := L
  obtain ⟨l0, l1, l2, l3, l4, l5, l6, l7, l8, l9, l10⟩ := L
  have w0 := l7.2.2.2.2.1
  have w00 := w0.1
  have x0 := l9.1
  have s0 := l8.1
  intro n
  induction n with
  | zero =>
    intro k I J T hk hn h
    have c0 : all < k + 1 := by omega
    rw [e_l_X8_carryFrom_36]
    unfold st_car0
    simp (disch := first | assumption | omega) only [pm_gI, pm_gJ, pm_gR, pm_pI, pm_pZ, pm_pJ, pm_ldI, pm_ldJ, pm_ldR, pm_stI, pm_stZ, pm_stJ, pm_pZ0, pm_pZ1, pm_stZ0, pm_stZ1, pm_len, pm_cpyI, pm_cpyJ, pm_is, Option.bind_some, pm_u, pm_ur, pm_lt, pm_le, pm_eq, pm_ne, pm_add, pm_sub, pm_z0, pm_z1, cond_true, cond_false, decide_true, decide_false, not_false_eq_true, not_true_eq_false, reduceIte, Nat.reduceEqDiff, Nat.add_eq_left, Nat.left_eq_add, Nat.add_left_cancel_iff, Nat.one_ne_zero, am_cs, c0]
    obtain rfl : all = k := by omega
    exact ⟨I, J, rfl, h, tf_at.refl _, tf_at.refl _⟩
  | succ n ih =>
    intro k I J T hk hn h
    have c0 : ¬ all < k + 1 := by omega
    have hp := h.1.1.2.2.2
    obtain ⟨I1, a1, a2, a3, a4⟩ := wy_next (J := J) w0 h.1.1 (by omega) (d + 4)
    have h1 : tc_at I1 J p (T.setW0 T.w0.nx) := tc_w0 h (a3.mono (by omega) (by omega)) a2
    obtain ⟨I2, b1, b2, b3, b4⟩ := xc_gather (J := J) l9 h1.2.2.1.1 h1.2.2.1.2 hp.2 a4 (d + 3)
    have hc : sg_code p (T.setW0 T.w0.nx).g0 (T.w0.q.headD 0) = sg_c0 p T := rfl
    rw [hc] at b1 b3
    have k2 : kc_at I2 J p T.w0.nx T.cs T.mk T.ck := kc_congr h1.1 (fun a _ => b4 a (by omega)) (fun _ _ => rfl)
    have v2 : sv_at I2 J p T.w1 T.sv := sv_congr h1.2.1 (fun a _ => b4 a (by omega)) (fun _ _ => rfl)
    have y2 : xc_at I2 11 p T.g1 := xc_congr h1.2.2.2.1.1 (b4 _ (by omega)) (b4 _ (by omega))
    have z2 : I2 0 6 = nI T.bk := by
      rw [b4 _ (by omega)]
      exact h1.2.2.2.2
    have t2 : tf_at I I2 := (tf_fr a3 (by omega)).trans (tf_fr b4 (by omega))
    have hlen := sWy_nx_len T.w0
    have hb0 := byte0_w0 (p := p) T
    rw [e_l_X8_carryFrom_36]
    unfold st_car0
    rcases sg_code_012 p T.g0 (T.w0.q.headD 0) with c1 | c1 | c1
    · have c1 : sg_c0 p T = 0 := c1
      rw [if_neg (by omega)]
      have h2 : tc_at I2 J p ((T.setW0 T.w0.nx).setG0 (sg_n0 T)) := tc_g0 h1 b4 (b3 (by omega)) (sg_code0 h1.2.2.1.2 c1)
      have hby : st_byte0 p T = (T.setW0 T.w0.nx).setG0 (sg_n0 T) := by
        unfold st_byte0
        rw [if_pos c1]
      rw [← hby] at h2
      obtain ⟨I3, J3, e1, e2, e3, e4⟩ := ih (k + 1) I2 J _ (by omega) (by rw [hb0]; omega) h2
      rw [c1] at b1
      simp (disch := first | assumption | omega) only [pm_gI, pm_gJ, pm_gR, pm_pI, pm_pZ, pm_pJ, pm_ldI, pm_ldJ, pm_ldR, pm_stI, pm_stZ, pm_stJ, pm_pZ0, pm_pZ1, pm_stZ0, pm_stZ1, pm_len, pm_cpyI, pm_cpyJ, pm_is, Option.bind_some, pm_u, pm_ur, pm_lt, pm_le, pm_eq, pm_ne, pm_add, pm_sub, pm_z0, pm_z1, cond_true, cond_false, decide_true, decide_false, not_false_eq_true, not_true_eq_false, reduceIte, Nat.reduceEqDiff, Nat.add_eq_left, Nat.left_eq_add, Nat.add_left_cancel_iff, Nat.one_ne_zero, am_cs, c0, a1, b1, w00, x0]
      exact ⟨I3, J3, e1, e2, t2.trans e3, e4⟩
    · have c1 : sg_c0 p T = 1 := c1
      rw [if_neg (by omega)]
      obtain ⟨f1, f2, f3⟩ := sg_code1 h1.2.2.1.2 c1
      have hx := xf_of (b3 (by omega)) f1 (by omega) f3
      obtain ⟨I3, J3, e1, e2, e3, e4⟩ := sv_act l8 l9 (by omega) (by omega) v2 hx d
      obtain ⟨I4, g1, g2, g3⟩ := xc_clear (J := J3) l9 (p := p) (show I3 9 0 = nI (4 + p) by rw [e3 _ (by omega)]; exact b2) (d + 4)
      have h4 : tc_at I4 J3 p (st_byte0 p T) := by
        unfold st_byte0
        rw [if_neg (by omega)]
        refine ⟨kc_congr k2 (fun a _ => by rw [g3 _ (by omega), e3 _ (by omega)]) (fun a _ => by rw [e4 _ (by omega)]), sv_congr e2 (fun a _ => g3 _ (by omega)) (fun _ _ => rfl), ⟨g2, Or.inl rfl⟩, ⟨xc_congr y2 (by rw [g3 _ (by omega), e3 _ (by omega)]) (by rw [g3 _ (by omega), e3 _ (by omega)]), h1.2.2.2.1.2⟩, ?_⟩
        rw [g3 _ (by omega), e3 _ (by omega)]
        exact z2
      obtain ⟨I5, J5, u1, u2, u3, u4⟩ := ih (k + 1) I4 J3 _ (by omega) (by rw [hb0]; omega) h4
      rw [c1] at b1
      simp (disch := first | assumption | omega) only [pm_gI, pm_gJ, pm_gR, pm_pI, pm_pZ, pm_pJ, pm_ldI, pm_ldJ, pm_ldR, pm_stI, pm_stZ, pm_stJ, pm_pZ0, pm_pZ1, pm_stZ0, pm_stZ1, pm_len, pm_cpyI, pm_cpyJ, pm_is, Option.bind_some, pm_u, pm_ur, pm_lt, pm_le, pm_eq, pm_ne, pm_add, pm_sub, pm_z0, pm_z1, cond_true, cond_false, decide_true, decide_false, not_false_eq_true, not_true_eq_false, reduceIte, Nat.reduceEqDiff, Nat.add_eq_left, Nat.left_eq_add, Nat.add_left_cancel_iff, Nat.one_ne_zero, am_cs, c0, a1, b1, w00, x0, s0, e1, g1]
      exact ⟨I5, J5, u1, u2, t2.trans ((tf_sf e3).trans ((tf_fr g3 (by omega)).trans u3)), (tf_sf e4).trans u4⟩
    · have c1 : sg_c0 p T = 2 := c1
      rw [if_pos c1]
      have f0 : pm_fr I2 (am_u I2 0 6 (nI (T.bk + 1))) 0 1 := pm_fr_u (by omega)
      have hb : tb_at (am_u I2 0 6 (nI (T.bk + 1))) J p ((T.setW0 T.w0.nx).setBk (T.bk + 1)) := by
        refine ⟨kc_congr k2 (fun a _ => f0 a (by omega)) (fun _ _ => rfl), sv_congr v2 (fun a _ => f0 a (by omega)) (fun _ _ => rfl), ?_, ?_, ?_⟩
        · rw [f0 _ (by omega)]
          exact b2
        · rw [f0 _ (by omega)]
          exact y2.1
        · simp [pm_u]
          rfl
      obtain ⟨I3, e1, e2, e3⟩ := tb_clear L' hb (d + 3)
      rw [c1] at b1
      simp (disch := first | assumption | omega) only [pm_gI, pm_gJ, pm_gR, pm_pI, pm_pZ, pm_pJ, pm_ldI, pm_ldJ, pm_ldR, pm_stI, pm_stZ, pm_stJ, pm_pZ0, pm_pZ1, pm_stZ0, pm_stZ1, pm_len, pm_cpyI, pm_cpyJ, pm_is, Option.bind_some, pm_u, pm_ur, pm_lt, pm_le, pm_eq, pm_ne, pm_add, pm_sub, pm_z0, pm_z1, cond_true, cond_false, decide_true, decide_false, not_false_eq_true, not_true_eq_false, reduceIte, Nat.reduceEqDiff, Nat.add_eq_left, Nat.left_eq_add, Nat.add_left_cancel_iff, Nat.one_ne_zero, am_cs, c0, a1, b1, w00, x0, z2, e1]
      exact ⟨I3, J, rfl, e2, t2.trans ((tf_fr f0 (by omega)).trans e3), tf_at.refl _⟩
theorem tc_car1 (L : tl_ok K) (d all : Nat) (ha : all ≤ 2000) : ∀ (n k : Nat) (I : pm_I) (J : pm_J) (T : sT), k + n = all → n ≤ T.w1.q.length → tc_at I J p T →
    ∃ (I' : pm_I) (J' : pm_J), l_X8_carryFrom_36 (d + 5) 0 (nI 1) 5 11 (nI all) (nI (k + 1)) (K, I, J) = some ((nI (st_car1 p n k T).1, 0, none), (K, I', J')) ∧ tc_at I' J' p (st_car1 p n k T).2 ∧ tf_at I I' ∧ tf_at J J' := by
  have L' := L
  obtain ⟨l0, l1, l2, l3, l4, l5, l6, l7, l8, l9, l10⟩ := L
  have w1 := l8.2.2.2.2.2.2.2.2.2.2.1
  have w10 := w1.1
  have x1 := l10.1
  have k0 := l7.1
  intro n
  induction n with
  | zero =>
    intro k I J T hk hn h
    have c0 : all < k + 1 := by omega
    rw [e_l_X8_carryFrom_36]
    unfold st_car1
    simp (disch := first | assumption | omega) only [pm_gI, pm_gJ, pm_gR, pm_pI, pm_pZ, pm_pJ, pm_ldI, pm_ldJ, pm_ldR, pm_stI, pm_stZ, pm_stJ, pm_pZ0, pm_pZ1, pm_stZ0, pm_stZ1, pm_len, pm_cpyI, pm_cpyJ, pm_is, Option.bind_some, pm_u, pm_ur, pm_lt, pm_le, pm_eq, pm_ne, pm_add, pm_sub, pm_z0, pm_z1, cond_true, cond_false, decide_true, decide_false, not_false_eq_true, not_true_eq_false, reduceIte, Nat.reduceEqDiff, Nat.add_eq_left, Nat.left_eq_add, Nat.add_left_cancel_iff, Nat.one_ne_zero, am_cs, c0]
    obtain rfl : all = k := by omega
    exact ⟨I, J, rfl, h, tf_at.refl _, tf_at.refl _⟩
  | succ n ih =>
    intro k I J T hk hn h
    have c0 : ¬ all < k + 1 := by omega
    have hp := h.1.1.2.2.2
    obtain ⟨I1, a1, a2, a3, a4⟩ := wy_next (J := J) w1 h.2.1.1 (by omega) (d + 4)
    have h1 : tc_at I1 J p (T.setW1 T.w1.nx) := tc_w1 h (a3.mono (by omega) (by omega)) a2
    obtain ⟨I2, b1, b2, b3, b4⟩ := xc_gather (J := J) l10 h1.2.2.2.1.1 h1.2.2.2.1.2 hp.2 a4 (d + 3)
    have hc : sg_code p (T.setW1 T.w1.nx).g1 (T.w1.q.headD 0) = sg_c1 p T := rfl
    rw [hc] at b1 b3
    have k2 : kc_at I2 J p T.w0 T.cs T.mk T.ck := kc_congr h1.1 (fun a _ => b4 a (by omega)) (fun _ _ => rfl)
    have v2 : sv_at I2 J p T.w1.nx T.sv := sv_congr h1.2.1 (fun a _ => b4 a (by omega)) (fun _ _ => rfl)
    have y2 : xc_at I2 9 p T.g0 := xc_congr h1.2.2.1.1 (b4 _ (by omega)) (b4 _ (by omega))
    have z2 : I2 0 6 = nI T.bk := by
      rw [b4 _ (by omega)]
      exact h1.2.2.2.2
    have t2 : tf_at I I2 := (tf_fr a3 (by omega)).trans (tf_fr b4 (by omega))
    have hlen := sWy_nx_len T.w1
    have hb0 := byte1_w1 (p := p) T
    rw [e_l_X8_carryFrom_36]
    unfold st_car1
    rcases sg_code_012 p T.g1 (T.w1.q.headD 0) with c1 | c1 | c1
    · have c1 : sg_c1 p T = 0 := c1
      rw [if_neg (by omega)]
      have h2 : tc_at I2 J p ((T.setW1 T.w1.nx).setG1 (sg_n1 T)) := tc_g1 h1 b4 (b3 (by omega)) (sg_code0 h1.2.2.2.1.2 c1)
      have hby : st_byte1 p T = (T.setW1 T.w1.nx).setG1 (sg_n1 T) := by
        unfold st_byte1
        rw [if_pos c1]
      rw [← hby] at h2
      obtain ⟨I3, J3, e1, e2, e3, e4⟩ := ih (k + 1) I2 J _ (by omega) (by rw [hb0]; omega) h2
      rw [c1] at b1
      simp (disch := first | assumption | omega) only [pm_gI, pm_gJ, pm_gR, pm_pI, pm_pZ, pm_pJ, pm_ldI, pm_ldJ, pm_ldR, pm_stI, pm_stZ, pm_stJ, pm_pZ0, pm_pZ1, pm_stZ0, pm_stZ1, pm_len, pm_cpyI, pm_cpyJ, pm_is, Option.bind_some, pm_u, pm_ur, pm_lt, pm_le, pm_eq, pm_ne, pm_add, pm_sub, pm_z0, pm_z1, cond_true, cond_false, decide_true, decide_false, not_false_eq_true, not_true_eq_false, reduceIte, Nat.reduceEqDiff, Nat.add_eq_left, Nat.left_eq_add, Nat.add_left_cancel_iff, Nat.one_ne_zero, am_cs, c0, a1, b1, w10, x1]
      exact ⟨I3, J3, e1, e2, t2.trans e3, e4⟩
    · have c1 : sg_c1 p T = 1 := c1
      rw [if_neg (by omega)]
      obtain ⟨f1, f2, f3⟩ := sg_code1 h1.2.2.2.1.2 c1
      have hx := xf_of (b3 (by omega)) f1 (by omega) f3
      obtain ⟨I3, J3, e1, e2, e3, e4⟩ := kc_act l7 l10 (by omega) (by omega) k2 hx d
      obtain ⟨I4, g1, g2, g3⟩ := xc_clear (J := J3) l10 (p := p) (show I3 11 0 = nI (4 + p) by rw [e3 _ (by omega)]; exact b2) (d + 4)
      have h4 : tc_at I4 J3 p (st_byte1 p T) := by
        unfold st_byte1
        rw [if_neg (by omega)]
        refine ⟨kc_congr e2 (fun a _ => g3 _ (by omega)) (fun _ _ => rfl), sv_congr v2 (fun a _ => by rw [g3 _ (by omega), e3 _ (by omega)]) (fun a _ => by rw [e4 _ (by omega)]), ⟨xc_congr y2 (by rw [g3 _ (by omega), e3 _ (by omega)]) (by rw [g3 _ (by omega), e3 _ (by omega)]), h1.2.2.1.2⟩, ⟨g2, Or.inl rfl⟩, ?_⟩
        rw [g3 _ (by omega), e3 _ (by omega)]
        exact z2
      obtain ⟨I5, J5, u1, u2, u3, u4⟩ := ih (k + 1) I4 J3 _ (by omega) (by rw [hb0]; omega) h4
      rw [c1] at b1
      simp (disch := first | assumption | omega) only [pm_gI, pm_gJ, pm_gR, pm_pI, pm_pZ, pm_pJ, pm_ldI, pm_ldJ, pm_ldR, pm_stI, pm_stZ, pm_stJ, pm_pZ0, pm_pZ1, pm_stZ0, pm_stZ1, pm_len, pm_cpyI, pm_cpyJ, pm_is, Option.bind_some, pm_u, pm_ur, pm_lt, pm_le, pm_eq, pm_ne, pm_add, pm_sub, pm_z0, pm_z1, cond_true, cond_false, decide_true, decide_false, not_false_eq_true, not_true_eq_false, reduceIte, Nat.reduceEqDiff, Nat.add_eq_left, Nat.left_eq_add, Nat.add_left_cancel_iff, Nat.one_ne_zero, am_cs, c0, a1, b1, w10, x1, k0, e1, g1]
      exact ⟨I5, J5, u1, u2, t2.trans ((tf_kg e3).trans ((tf_fr g3 (by omega)).trans u3)), (tf_kg e4).trans u4⟩
    · have c1 : sg_c1 p T = 2 := c1
      rw [if_pos c1]
      have f0 : pm_fr I2 (am_u I2 0 6 (nI (T.bk + 1))) 0 1 := pm_fr_u (by omega)
      have hb : tb_at (am_u I2 0 6 (nI (T.bk + 1))) J p ((T.setW1 T.w1.nx).setBk (T.bk + 1)) := by
        refine ⟨kc_congr k2 (fun a _ => f0 a (by omega)) (fun _ _ => rfl), sv_congr v2 (fun a _ => f0 a (by omega)) (fun _ _ => rfl), ?_, ?_, ?_⟩
        · rw [f0 _ (by omega)]
          exact y2.1
        · rw [f0 _ (by omega)]
          exact b2
        · simp [pm_u]
          rfl
      obtain ⟨I3, e1, e2, e3⟩ := tb_clear L' hb (d + 3)
      rw [c1] at b1
      simp (disch := first | assumption | omega) only [pm_gI, pm_gJ, pm_gR, pm_pI, pm_pZ, pm_pJ, pm_ldI, pm_ldJ, pm_ldR, pm_stI, pm_stZ, pm_stJ, pm_pZ0, pm_pZ1, pm_stZ0, pm_stZ1, pm_len, pm_cpyI, pm_cpyJ, pm_is, Option.bind_some, pm_u, pm_ur, pm_lt, pm_le, pm_eq, pm_ne, pm_add, pm_sub, pm_z0, pm_z1, cond_true, cond_false, decide_true, decide_false, not_false_eq_true, not_true_eq_false, reduceIte, Nat.reduceEqDiff, Nat.add_eq_left, Nat.left_eq_add, Nat.add_left_cancel_iff, Nat.one_ne_zero, am_cs, c0, a1, b1, w10, x1, z2, e1]
      exact ⟨I3, J, rfl, e2, t2.trans ((tf_fr f0 (by omega)).trans e3), tf_at.refl _⟩
end CA2
