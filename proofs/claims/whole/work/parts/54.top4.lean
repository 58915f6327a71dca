/-! THE CLASS'S CALLS OF THE DOCUMENT, part 4 -/
theorem px_nn {y : Int32} (h : ¬ y < nI 0) : y = nI y.toNatClampNeg ∧ y.toNatClampNeg < 2147483648 := by
  have h' : ¬ y < 0 := h
  rcases pk_ix y (n := 2147483647) (by omega) with h1 | h1 | ⟨j, hj, rfl⟩
  · exact absurd h1 h'
  · have h2 : y = nI 2147483647 := by
      apply Int32.le_antisymm
      · exact Int32.le_maxValue y
      · exact h1
    rw [h2]
    decide +kernel
  · rw [nI_clamp (by omega)]
    exact ⟨rfl, by omega⟩
def st_carry0 (p : Nat) (n : Nat) (T : sT) : Nat × sT := st_car0 p (min T.w0.q.length n) 0 T
def st_carry1 (p : Nat) (n : Nat) (T : sT) : Nat × sT := st_car1 p (min T.w1.q.length n) 0 T
section TP4
variable {K : am_K} {I I' : pm_I} {J J' : pm_J} {p : Nat} {T : sT}
theorem tc_carryFrom0 (L : tl_ok K) (h : tc_at I J p T) {n : Nat} (hn : n < 2147483648) (d : Nat) : ∃ (I' : pm_I) (J' : pm_J), f_X8_carryFrom (d + 5) 0 (nI 0) (nI n) (K, I, J) = some ((nI (st_carry0 p n T).1, 0, none), (K, I', J')) ∧ tc_at I' J' p (st_carry0 p n T).2 ∧ tf_at I I' ∧ tf_at J J' := by
  have hw := tc_wayFrom (I := I) (J := J) (x := nI 0) L (d + 4)
  rw [if_pos rfl] at hw
  obtain ⟨hl, hl2⟩ := wy_len h.1.1
  obtain ⟨I1, J1, g1, g2⟩ := tc_car0 (p := p) L d (min T.w0.q.length n) (by omega) (min T.w0.q.length n) 0 I J T (Nat.zero_add _) (by omega) h
  have w00 := L.2.2.2.2.2.2.2.1.2.2.2.2.1.1
  obtain ⟨l0, l1, l2, l3, l4, l5, l6, l7, l8, l9, l10⟩ := L
  have hmin := px_min (a := T.w0.q.length) (b := n) (by omega) hn
  rw [e_X8_carryFrom]
  simp (disch := first | assumption | omega) only [pm_gI, pm_gJ, pm_gR, pm_pI, pm_pZ, pm_pJ, pm_ldI, pm_ldJ, pm_ldR, pm_stI, pm_stZ, pm_stJ, pm_pZ0, pm_pZ1, pm_stZ0, pm_stZ1, pm_len, pm_cpyI, pm_cpyJ, pm_is, Option.bind_some, pm_u, pm_ur, pm_lt, pm_le, pm_eq, pm_ne, pm_add, pm_sub, pm_z0, pm_z1, cond_true, cond_false, decide_true, decide_false, not_false_eq_true, not_true_eq_false, reduceIte, Nat.reduceEqDiff, Nat.add_eq_left, Nat.left_eq_add, Nat.add_left_cancel_iff, Nat.one_ne_zero, am_cs, hw, hl, hmin]
  exact ⟨I1, J1, g1, g2⟩
theorem tc_carryFrom1 (L : tl_ok K) (h : tc_at I J p T) {n : Nat} (hn : n < 2147483648) (d : Nat) : ∃ (I' : pm_I) (J' : pm_J), f_X8_carryFrom (d + 5) 0 (nI 1) (nI n) (K, I, J) = some ((nI (st_carry1 p n T).1, 0, none), (K, I', J')) ∧ tc_at I' J' p (st_carry1 p n T).2 ∧ tf_at I I' ∧ tf_at J J' := by
  have hw := tc_wayFrom (I := I) (J := J) (x := nI 1) L (d + 4)
  rw [if_neg px_10] at hw
  obtain ⟨hl, hl2⟩ := wy_len h.2.1.1
  obtain ⟨I1, J1, g1, g2⟩ := tc_car1 (p := p) L d (min T.w1.q.length n) (by omega) (min T.w1.q.length n) 0 I J T (Nat.zero_add _) (by omega) h
  have w10 := L.2.2.2.2.2.2.2.2.1.2.2.2.2.2.2.2.2.2.2.1.1
  obtain ⟨l0, l1, l2, l3, l4, l5, l6, l7, l8, l9, l10⟩ := L
  have hmin := px_min (a := T.w1.q.length) (b := n) (by omega) hn
  rw [e_X8_carryFrom]
  simp (disch := first | assumption | omega) only [pm_gI, pm_gJ, pm_gR, pm_pI, pm_pZ, pm_pJ, pm_ldI, pm_ldJ, pm_ldR, pm_stI, pm_stZ, pm_stJ, pm_pZ0, pm_pZ1, pm_stZ0, pm_stZ1, pm_len, pm_cpyI, pm_cpyJ, pm_is, Option.bind_some, pm_u, pm_ur, pm_lt, pm_le, pm_eq, pm_ne, pm_add, pm_sub, pm_z0, pm_z1, cond_true, cond_false, decide_true, decide_false, not_false_eq_true, not_true_eq_false, reduceIte, Nat.reduceEqDiff, Nat.add_eq_left, Nat.left_eq_add, Nat.add_left_cancel_iff, Nat.one_ne_zero, am_cs, hw, hl, hmin]
  exact ⟨I1, J1, g1, g2⟩
def st_carry (p : Nat) (x y : Int32) (T : sT) : Int32 × sT := if y < nI 0 then (-nI 1, T) else if x = nI 0 then (nI (st_carry0 p y.toNatClampNeg T).1, (st_carry0 p y.toNatClampNeg T).2) else if x = nI 1 then (nI (st_carry1 p y.toNatClampNeg T).1, (st_carry1 p y.toNatClampNeg T).2) else (-nI 1, T)
theorem tc_carry (L : tl_ok K) (h : tc_at I J p T) (x y : Int32) (d : Nat) : ∃ (I' : pm_I) (J' : pm_J), f_X8_carry (d + 6) 0 x y (K, I, J) = some (((st_carry p x y T).1, 0, none), (K, I', J')) ∧ tc_at I' J' p (st_carry p x y T).2 ∧ tf_at I I' ∧ tf_at J J' := by
  have he := tc_isEnd (x := x) (σ := (K, I, J)) (d + 5)
  have l0 := L.1
  rw [e_X8_carry]
  unfold st_carry
  by_cases c2 : y < nI 0
  · rw [if_pos c2]
    have c3 : ¬ nI 0 ≤ y := Int32.not_le.mpr c2
    by_cases c0 : x = nI 0 ∨ x = nI 1
    · rw [if_pos c0] at he
      simp (disch := first | assumption | omega) only [pm_gI, pm_gJ, pm_gR, pm_pI, pm_pZ, pm_pJ, pm_ldI, pm_ldJ, pm_ldR, pm_stI, pm_stZ, pm_stJ, pm_pZ0, pm_pZ1, pm_stZ0, pm_stZ1, pm_len, pm_cpyI, pm_cpyJ, pm_is, Option.bind_some, pm_u, pm_ur, pm_lt, pm_le, pm_eq, pm_ne, pm_add, pm_sub, pm_z0, pm_z1, cond_true, cond_false, decide_true, decide_false, not_false_eq_true, not_true_eq_false, reduceIte, Nat.reduceEqDiff, Nat.add_eq_left, Nat.left_eq_add, Nat.add_left_cancel_iff, Nat.one_ne_zero, am_cs, he, c3]
      exact ⟨I, J, rfl, h, tf_at.refl _, tf_at.refl _⟩
    · rw [if_neg c0] at he
      simp (disch := first | assumption | omega) only [pm_gI, pm_gJ, pm_gR, pm_pI, pm_pZ, pm_pJ, pm_ldI, pm_ldJ, pm_ldR, pm_stI, pm_stZ, pm_stJ, pm_pZ0, pm_pZ1, pm_stZ0, pm_stZ1, pm_len, pm_cpyI, pm_cpyJ, pm_is, Option.bind_some, pm_u, pm_ur, pm_lt, pm_le, pm_eq, pm_ne, pm_add, pm_sub, pm_z0, pm_z1, cond_true, cond_false, decide_true, decide_false, not_false_eq_true, not_true_eq_false, reduceIte, Nat.reduceEqDiff, Nat.add_eq_left, Nat.left_eq_add, Nat.add_left_cancel_iff, Nat.one_ne_zero, am_cs, he]
      exact ⟨I, J, rfl, h, tf_at.refl _, tf_at.refl _⟩
  · rw [if_neg c2]
    have c3 : nI 0 ≤ y := Int32.not_lt.mp c2
    obtain ⟨hy, hy2⟩ := px_nn c2
    by_cases c0 : x = nI 0
    · rw [if_pos c0]
      rw [if_pos (Or.inl c0)] at he
      obtain ⟨I1, J1, g1, g2⟩ := tc_carryFrom0 L h hy2 d
      rw [← hy] at g1
      subst c0
      simp (disch := first | assumption | omega) only [pm_gI, pm_gJ, pm_gR, pm_pI, pm_pZ, pm_pJ, pm_ldI, pm_ldJ, pm_ldR, pm_stI, pm_stZ, pm_stJ, pm_pZ0, pm_pZ1, pm_stZ0, pm_stZ1, pm_len, pm_cpyI, pm_cpyJ, pm_is, Option.bind_some, pm_u, pm_ur, pm_lt, pm_le, pm_eq, pm_ne, pm_add, pm_sub, pm_z0, pm_z1, cond_true, cond_false, decide_true, decide_false, not_false_eq_true, not_true_eq_false, reduceIte, Nat.reduceEqDiff, Nat.add_eq_left, Nat.left_eq_add, Nat.add_left_cancel_iff, Nat.one_ne_zero, am_cs, he, c3, g1]
      exact ⟨I1, J1, rfl, g2⟩
    · rw [if_neg c0]
      by_cases c1 : x = nI 1
      · rw [if_pos c1]
        rw [if_pos (Or.inr c1)] at he
        obtain ⟨I1, J1, g1, g2⟩ := tc_carryFrom1 L h hy2 d
        rw [← hy] at g1
        subst c1
        simp (disch := first | assumption | omega) only [pm_gI, pm_gJ, pm_gR, pm_pI, pm_pZ, pm_pJ, pm_ldI, pm_ldJ, pm_ldR, pm_stI, pm_stZ, pm_stJ, pm_pZ0, pm_pZ1, pm_stZ0, pm_stZ1, pm_len, pm_cpyI, pm_cpyJ, pm_is, Option.bind_some, pm_u, pm_ur, pm_lt, pm_le, pm_eq, pm_ne, pm_add, pm_sub, pm_z0, pm_z1, cond_true, cond_false, decide_true, decide_false, not_false_eq_true, not_true_eq_false, reduceIte, Nat.reduceEqDiff, Nat.add_eq_left, Nat.left_eq_add, Nat.add_left_cancel_iff, Nat.one_ne_zero, am_cs, he, c3, g1]
        exact ⟨I1, J1, rfl, g2⟩
      · rw [if_neg c1]
        rw [if_neg (by rintro (h | h) <;> contradiction)] at he
        simp (disch := first | assumption | omega) only [pm_gI, pm_gJ, pm_gR, pm_pI, pm_pZ, pm_pJ, pm_ldI, pm_ldJ, pm_ldR, pm_stI, pm_stZ, pm_stJ, pm_pZ0, pm_pZ1, pm_stZ0, pm_stZ1, pm_len, pm_cpyI, pm_cpyJ, pm_is, Option.bind_some, pm_u, pm_ur, pm_lt, pm_le, pm_eq, pm_ne, pm_add, pm_sub, pm_z0, pm_z1, cond_true, cond_false, decide_true, decide_false, not_false_eq_true, not_true_eq_false, reduceIte, Nat.reduceEqDiff, Nat.add_eq_left, Nat.left_eq_add, Nat.add_left_cancel_iff, Nat.one_ne_zero, am_cs, he]
        exact ⟨I, J, rfl, h, tf_at.refl _, tf_at.refl _⟩
def st_clear (T : sT) : sT := T.setL T.w0.none T.w1.none [] []
def st_cut (p : Nat) (x y : Int32) (T : sT) : Int32 × sT := if x < nI 0 ∨ y < nI 0 then (-nI 1, T) else (nI ((st_carry1 p y.toNatClampNeg (st_carry0 p x.toNatClampNeg T).2).2.w0.q.length + (st_carry1 p y.toNatClampNeg (st_carry0 p x.toNatClampNeg T).2).2.w1.q.length), st_clear (st_carry1 p y.toNatClampNeg (st_carry0 p x.toNatClampNeg T).2).2)
theorem tc_cut (L : tl_ok K) (h : tc_at I J p T) (x y : Int32) (d : Nat) : ∃ (I' : pm_I) (J' : pm_J), f_X8_cut (d + 6) 0 x y (K, I, J) = some (((st_cut p x y T).1, 0, none), (K, I', J')) ∧ tc_at I' J' p (st_cut p x y T).2 ∧ tf_at I I' ∧ tf_at J J' := by
  have L' := L
  obtain ⟨l0, l1, l2, l3, l4, l5, l6, l7, l8, l9, l10⟩ := L
  have w00 := l7.2.2.2.2.1.1
  have w10 := l8.2.2.2.2.2.2.2.2.2.2.1.1
  rw [e_X8_cut]
  unfold st_cut
  by_cases c1 : x < nI 0
  · rw [if_pos (Or.inl c1)]
    simp (disch := first | assumption | omega) only [pm_gI, pm_gJ, pm_gR, pm_pI, pm_pZ, pm_pJ, pm_ldI, pm_ldJ, pm_ldR, pm_stI, pm_stZ, pm_stJ, pm_pZ0, pm_pZ1, pm_stZ0, pm_stZ1, pm_len, pm_cpyI, pm_cpyJ, pm_is, Option.bind_some, pm_u, pm_ur, pm_lt, pm_le, pm_eq, pm_ne, pm_add, pm_sub, pm_z0, pm_z1, cond_true, cond_false, decide_true, decide_false, not_false_eq_true, not_true_eq_false, reduceIte, Nat.reduceEqDiff, Nat.add_eq_left, Nat.left_eq_add, Nat.add_left_cancel_iff, Nat.one_ne_zero, am_cs, c1]
    exact ⟨I, J, rfl, h, tf_at.refl _, tf_at.refl _⟩
  · by_cases c2 : y < nI 0
    · rw [if_pos (Or.inr c2)]
      have c3 : ¬ nI 0 ≤ y := Int32.not_le.mpr c2
      simp (disch := first | assumption | omega) only [pm_gI, pm_gJ, pm_gR, pm_pI, pm_pZ, pm_pJ, pm_ldI, pm_ldJ, pm_ldR, pm_stI, pm_stZ, pm_stJ, pm_pZ0, pm_pZ1, pm_stZ0, pm_stZ1, pm_len, pm_cpyI, pm_cpyJ, pm_is, Option.bind_some, pm_u, pm_ur, pm_lt, pm_le, pm_eq, pm_ne, pm_add, pm_sub, pm_z0, pm_z1, cond_true, cond_false, decide_true, decide_false, not_false_eq_true, not_true_eq_false, reduceIte, Nat.reduceEqDiff, Nat.add_eq_left, Nat.left_eq_add, Nat.add_left_cancel_iff, Nat.one_ne_zero, am_cs, c1, c3]
      exact ⟨I, J, rfl, h, tf_at.refl _, tf_at.refl _⟩
    · rw [if_neg (by rintro (h | h) <;> contradiction)]
      have c3 : nI 0 ≤ y := Int32.not_lt.mp c2
      obtain ⟨hx, hx2⟩ := px_nn c1
      obtain ⟨hy, hy2⟩ := px_nn c2
      obtain ⟨I1, J1, a1, a2, a3, a4⟩ := tc_carryFrom0 L' h hx2 d
      obtain ⟨I2, J2, b1, b2, b3, b4⟩ := tc_carryFrom1 L' a2 hy2 d
      obtain ⟨I3, e1, e2, e3⟩ := tb_clear L' (tc_tb b2) (d + 4)
      rw [← hx] at a1
      rw [← hy] at b1
      have q0 := (wy_len b2.1.1).1
      have q1 := (wy_len b2.2.1.1).1
      simp (disch := first | assumption | omega) only [pm_gI, pm_gJ, pm_gR, pm_pI, pm_pZ, pm_pJ, pm_ldI, pm_ldJ, pm_ldR, pm_stI, pm_stZ, pm_stJ, pm_pZ0, pm_pZ1, pm_stZ0, pm_stZ1, pm_len, pm_cpyI, pm_cpyJ, pm_is, Option.bind_some, pm_u, pm_ur, pm_lt, pm_le, pm_eq, pm_ne, pm_add, pm_sub, pm_z0, pm_z1, cond_true, cond_false, decide_true, decide_false, not_false_eq_true, not_true_eq_false, reduceIte, Nat.reduceEqDiff, Nat.add_eq_left, Nat.left_eq_add, Nat.add_left_cancel_iff, Nat.one_ne_zero, am_cs, c1, c3, a1, b1, q0, q1, e1]
      exact ⟨I3, J2, rfl, e2, a3.trans (b3.trans e3), a4.trans b4⟩
def st_busy (x : Int32) (T : sT) : Int32 × sT := if wu_in x 101 = 1 then (nI 1, T.setS T.w1 (T.sv.setBz x.toNatClampNeg)) else (nI 0, T)
theorem tc_busy (L : tl_ok K) (h : tc_at I J p T) (x : Int32) (d : Nat) : ∃ I' : pm_I, f_X8_busy d 0 x (K, I, J) = some (((st_busy x T).1, 0, none), (K, I', J)) ∧ tc_at I' J p (st_busy x T).2 ∧ tf_at I I' := by
  obtain ⟨l0, l1, l2, l3, l4, l5, l6, l7, l8, l9, l10⟩ := L
  have s0 := l8.1
  rw [e_X8_busy]
  unfold st_busy
  by_cases c : wu_in x 101 = 1
  · obtain ⟨j, hj, rfl⟩ := wu_in1 (by omega) c
    rw [if_pos c, nI_clamp (by omega)]
    have c0 : ¬ j < 0 := by omega
    have c1 : j ≤ 100 := by omega
    simp (disch := first | assumption | omega) only [pm_gI, pm_gJ, pm_gR, pm_pI, pm_pZ, pm_pJ, pm_ldI, pm_ldJ, pm_ldR, pm_stI, pm_stZ, pm_stJ, pm_pZ0, pm_pZ1, pm_stZ0, pm_stZ1, pm_len, pm_cpyI, pm_cpyJ, pm_is, Option.bind_some, pm_u, pm_ur, pm_lt, pm_le, pm_eq, pm_ne, pm_add, pm_sub, pm_z0, pm_z1, cond_true, cond_false, decide_true, decide_false, not_false_eq_true, not_true_eq_false, reduceIte, Nat.reduceEqDiff, Nat.add_eq_left, Nat.left_eq_add, Nat.add_left_cancel_iff, Nat.one_ne_zero, am_cs, c0, c1]
    have f0 : pm_fr I (am_u I 165 5 (nI j)) 165 1 := pm_fr_u (by omega)
    exact ⟨_, rfl, tc_sv h (sv_setBz h.2.1 c1) (sf_fr f0 (by omega)) (sf_at.refl _), tf_fr f0 (by omega)⟩
  · rw [if_neg c]
    unfold wu_in at c
    by_cases c0 : x < nI 0
    · simp (disch := first | assumption | omega) only [pm_gI, pm_gJ, pm_gR, pm_pI, pm_pZ, pm_pJ, pm_ldI, pm_ldJ, pm_ldR, pm_stI, pm_stZ, pm_stJ, pm_pZ0, pm_pZ1, pm_stZ0, pm_stZ1, pm_len, pm_cpyI, pm_cpyJ, pm_is, Option.bind_some, pm_u, pm_ur, pm_lt, pm_le, pm_eq, pm_ne, pm_add, pm_sub, pm_z0, pm_z1, cond_true, cond_false, decide_true, decide_false, not_false_eq_true, not_true_eq_false, reduceIte, Nat.reduceEqDiff, Nat.add_eq_left, Nat.left_eq_add, Nat.add_left_cancel_iff, Nat.one_ne_zero, am_cs, c0]
      exact ⟨I, rfl, h, tf_at.refl _⟩
    · rw [if_neg (show ¬ x < 0 from c0)] at c
      have c1 : ¬ x ≤ nI 100 := by
        by_cases c2 : nI 101 ≤ x
        · intro c3
          have : nI 101 ≤ nI 100 := Int32.le_trans c2 c3
          revert this
          decide +kernel
        · rw [if_neg c2] at c
          exact absurd rfl c
      simp (disch := first | assumption | omega) only [pm_gI, pm_gJ, pm_gR, pm_pI, pm_pZ, pm_pJ, pm_ldI, pm_ldJ, pm_ldR, pm_stI, pm_stZ, pm_stJ, pm_pZ0, pm_pZ1, pm_stZ0, pm_stZ1, pm_len, pm_cpyI, pm_cpyJ, pm_is, Option.bind_some, pm_u, pm_ur, pm_lt, pm_le, pm_eq, pm_ne, pm_add, pm_sub, pm_z0, pm_z1, cond_true, cond_false, decide_true, decide_false, not_false_eq_true, not_true_eq_false, reduceIte, Nat.reduceEqDiff, Nat.add_eq_left, Nat.left_eq_add, Nat.add_left_cancel_iff, Nat.one_ne_zero, am_cs, c0, c1]
      exact ⟨I, rfl, h, tf_at.refl _⟩
def st_forget (x : Int32) (T : sT) : Int32 × sT := if wu_in x T.mk = 1 ∧ (cx T x).kd = 1 then (nI (ss_drop (sd_dig (cx T x).row) T.sv).1, T.setS T.w1 (ss_drop (sd_dig (cx T x).row) T.sv).2) else (nI 0, T)
theorem tc_forget (L : tl_ok K) (h : tc_at I J p T) (x : Int32) (d : Nat) : ∃ I' : pm_I, f_X8_forget (d + 2) 0 x (K, I, J) = some (((st_forget x T).1, 0, none), (K, I', J)) ∧ tc_at I' J p (st_forget x T).2 ∧ tf_at I I' := by
  have L' := L
  obtain ⟨l0, l1, l2, l3, l4, l5, l6, l7, l8, l9, l10⟩ := L
  have k0 := l7.1
  have s0 := l8.1
  have hmk := tc_mk h
  rw [e_X8_forget]
  unfold st_forget
  by_cases c0 : wu_in x T.mk = 1
  · obtain ⟨j, hj, rfl⟩ := wu_in1 (by omega) c0
    have hx : cx T (nI j) = T.cs j := by
      unfold cx
      rw [nI_clamp (by omega)]
    rw [hx]
    have hw := kc_writeAt l7 h.1 hj d
    have M := tl_c L' (show j < 30 by omega)
    have m0 := M.1
    have m9 := M.2.2.2.2.1
    have mr := M.2.1.1
    by_cases c1 : (T.cs j).kd = 1
    · rw [if_pos ⟨c0, c1⟩]
      rw [if_pos c1] at hw
      have hd := rc_digest (J := J) M.2.1 (tc_c h hj).2.1 (d + 1)
      obtain ⟨I1, g1, g2, g3⟩ := sv_drop l8 h.2.1 (sd_dig (T.cs j).row) d
      have h01 : (ss_drop (sd_dig (T.cs j).row) T.sv).1 = 0 ∨ (ss_drop (sd_dig (T.cs j).row) T.sv).1 = 1 := by
        unfold ss_drop
        split
        · exact Or.inl rfl
        · exact Or.inr rfl
      have hend := tc_sv h g2 g3 (sf_at.refl _)
      rcases h01 with e | e
      · rw [e] at g1 ⊢
        simp (disch := first | assumption | omega) only [pm_gI, pm_gJ, pm_gR, pm_pI, pm_pZ, pm_pJ, pm_ldI, pm_ldJ, pm_ldR, pm_stI, pm_stZ, pm_stJ, pm_pZ0, pm_pZ1, pm_stZ0, pm_stZ1, pm_len, pm_cpyI, pm_cpyJ, pm_is, Option.bind_some, pm_u, pm_ur, pm_lt, pm_le, pm_eq, pm_ne, pm_add, pm_sub, pm_z0, pm_z1, cond_true, cond_false, decide_true, decide_false, not_false_eq_true, not_true_eq_false, reduceIte, Nat.reduceEqDiff, Nat.add_eq_left, Nat.left_eq_add, Nat.add_left_cancel_iff, Nat.one_ne_zero, am_cs, hw, hd, g1]
        exact ⟨I1, rfl, hend, tf_sf g3⟩
      · rw [e] at g1 ⊢
        simp (disch := first | assumption | omega) only [pm_gI, pm_gJ, pm_gR, pm_pI, pm_pZ, pm_pJ, pm_ldI, pm_ldJ, pm_ldR, pm_stI, pm_stZ, pm_stJ, pm_pZ0, pm_pZ1, pm_stZ0, pm_stZ1, pm_len, pm_cpyI, pm_cpyJ, pm_is, Option.bind_some, pm_u, pm_ur, pm_lt, pm_le, pm_eq, pm_ne, pm_add, pm_sub, pm_z0, pm_z1, cond_true, cond_false, decide_true, decide_false, not_false_eq_true, not_true_eq_false, reduceIte, Nat.reduceEqDiff, Nat.add_eq_left, Nat.left_eq_add, Nat.add_left_cancel_iff, Nat.one_ne_zero, am_cs, hw, hd, g1]
        exact ⟨I1, rfl, hend, tf_sf g3⟩
    · rw [if_neg (fun hh => c1 hh.2)]
      rw [if_neg c1] at hw
      simp (disch := first | assumption | omega) only [pm_gI, pm_gJ, pm_gR, pm_pI, pm_pZ, pm_pJ, pm_ldI, pm_ldJ, pm_ldR, pm_stI, pm_stZ, pm_stJ, pm_pZ0, pm_pZ1, pm_stZ0, pm_stZ1, pm_len, pm_cpyI, pm_cpyJ, pm_is, Option.bind_some, pm_u, pm_ur, pm_lt, pm_le, pm_eq, pm_ne, pm_add, pm_sub, pm_z0, pm_z1, cond_true, cond_false, decide_true, decide_false, not_false_eq_true, not_true_eq_false, reduceIte, Nat.reduceEqDiff, Nat.add_eq_left, Nat.left_eq_add, Nat.add_left_cancel_iff, Nat.one_ne_zero, am_cs, hw]
      exact ⟨I, rfl, h, tf_at.refl _⟩
  · rw [if_neg (fun hh => c0 hh.1)]
    have hw := kc_writeAt0 l7 h.1 (wu_0 c0) d
    simp (disch := first | assumption | omega) only [pm_gI, pm_gJ, pm_gR, pm_pI, pm_pZ, pm_pJ, pm_ldI, pm_ldJ, pm_ldR, pm_stI, pm_stZ, pm_stJ, pm_pZ0, pm_pZ1, pm_stZ0, pm_stZ1, pm_len, pm_cpyI, pm_cpyJ, pm_is, Option.bind_some, pm_u, pm_ur, pm_lt, pm_le, pm_eq, pm_ne, pm_add, pm_sub, pm_z0, pm_z1, cond_true, cond_false, decide_true, decide_false, not_false_eq_true, not_true_eq_false, reduceIte, Nat.reduceEqDiff, Nat.add_eq_left, Nat.left_eq_add, Nat.add_left_cancel_iff, Nat.one_ne_zero, am_cs, hw]
    exact ⟨I, rfl, h, tf_at.refl _⟩
def st_count (x : Int32) (T : sT) : Int32 := if x = nI 0 then nI T.w0.q.length else if x = nI 1 then nI T.w1.q.length else if x = nI 2 then nI T.w0.un else if x = nI 3 then nI T.w1.un else if x = nI 4 then nI T.sv.nb else if x = nI 5 then nI T.sv.nr else if x = nI 6 then nI T.bk else if x = nI 7 then nI (T.w0.rf + T.w1.rf) else if x = nI 8 then nI T.sv.bz else -nI 1
theorem tc_count (L : tl_ok K) (h : tc_at I J p T) (x : Int32) (d : Nat) : f_X8_count (d + 1) 0 x (K, I, J) = some ((st_count x T, 0, none), (K, I, J)) := by
  obtain ⟨l0, l1, l2, l3, l4, l5, l6, l7, l8, l9, l10⟩ := L
  have w00 := l7.2.2.2.2.1.1
  have w10 := l8.2.2.2.2.2.2.2.2.2.2.1.1
  have s0 := l8.1
  have q0 := (wy_len h.1.1).1
  have q1 := (wy_len h.2.1.1).1
  have r0 := wy_rf h.1.1
  have r1 := wy_rf h.2.1.1
  have u0 := wy_un (J := J) l7.2.2.2.2.1 h.1.1 d
  have u1 := wy_un (J := J) l8.2.2.2.2.2.2.2.2.2.2.1 h.2.1.1 d
  have n0 := sv_blobCount l8 h.2.1 d
  have n1 := sv_resultCount l8 h.2.1 d
  have z0 := h.2.2.2.2
  have z1 := h.2.1.2.1.1
  rw [e_X8_count]
  unfold st_count
  by_cases c0 : x = nI 0
  · subst c0
    rw [if_pos rfl]
    simp (disch := first | assumption | omega) only [pm_gI, pm_gJ, pm_gR, pm_pI, pm_pZ, pm_pJ, pm_ldI, pm_ldJ, pm_ldR, pm_stI, pm_stZ, pm_stJ, pm_pZ0, pm_pZ1, pm_stZ0, pm_stZ1, pm_len, pm_cpyI, pm_cpyJ, pm_is, Option.bind_some, pm_u, pm_ur, pm_lt, pm_le, pm_eq, pm_ne, pm_add, pm_sub, pm_z0, pm_z1, cond_true, cond_false, decide_true, decide_false, not_false_eq_true, not_true_eq_false, reduceIte, Nat.reduceEqDiff, Nat.add_eq_left, Nat.left_eq_add, Nat.add_left_cancel_iff, Nat.one_ne_zero, am_cs, q0]
  rw [if_neg c0]
  by_cases c1 : x = nI 1
  · subst c1
    rw [if_pos rfl]
    simp (disch := first | assumption | omega) only [pm_gI, pm_gJ, pm_gR, pm_pI, pm_pZ, pm_pJ, pm_ldI, pm_ldJ, pm_ldR, pm_stI, pm_stZ, pm_stJ, pm_pZ0, pm_pZ1, pm_stZ0, pm_stZ1, pm_len, pm_cpyI, pm_cpyJ, pm_is, Option.bind_some, pm_u, pm_ur, pm_lt, pm_le, pm_eq, pm_ne, pm_add, pm_sub, pm_z0, pm_z1, cond_true, cond_false, decide_true, decide_false, not_false_eq_true, not_true_eq_false, reduceIte, Nat.reduceEqDiff, Nat.add_eq_left, Nat.left_eq_add, Nat.add_left_cancel_iff, Nat.one_ne_zero, am_cs, q1]
  rw [if_neg c1]
  by_cases c2 : x = nI 2
  · subst c2
    rw [if_pos rfl]
    simp (disch := first | assumption | omega) only [pm_gI, pm_gJ, pm_gR, pm_pI, pm_pZ, pm_pJ, pm_ldI, pm_ldJ, pm_ldR, pm_stI, pm_stZ, pm_stJ, pm_pZ0, pm_pZ1, pm_stZ0, pm_stZ1, pm_len, pm_cpyI, pm_cpyJ, pm_is, Option.bind_some, pm_u, pm_ur, pm_lt, pm_le, pm_eq, pm_ne, pm_add, pm_sub, pm_z0, pm_z1, cond_true, cond_false, decide_true, decide_false, not_false_eq_true, not_true_eq_false, reduceIte, Nat.reduceEqDiff, Nat.add_eq_left, Nat.left_eq_add, Nat.add_left_cancel_iff, Nat.one_ne_zero, am_cs, u0]
  rw [if_neg c2]
  by_cases c3 : x = nI 3
  · subst c3
    rw [if_pos rfl]
    simp (disch := first | assumption | omega) only [pm_gI, pm_gJ, pm_gR, pm_pI, pm_pZ, pm_pJ, pm_ldI, pm_ldJ, pm_ldR, pm_stI, pm_stZ, pm_stJ, pm_pZ0, pm_pZ1, pm_stZ0, pm_stZ1, pm_len, pm_cpyI, pm_cpyJ, pm_is, Option.bind_some, pm_u, pm_ur, pm_lt, pm_le, pm_eq, pm_ne, pm_add, pm_sub, pm_z0, pm_z1, cond_true, cond_false, decide_true, decide_false, not_false_eq_true, not_true_eq_false, reduceIte, Nat.reduceEqDiff, Nat.add_eq_left, Nat.left_eq_add, Nat.add_left_cancel_iff, Nat.one_ne_zero, am_cs, u1]
  rw [if_neg c3]
  by_cases c4 : x = nI 4
  · subst c4
    rw [if_pos rfl]
    simp (disch := first | assumption | omega) only [pm_gI, pm_gJ, pm_gR, pm_pI, pm_pZ, pm_pJ, pm_ldI, pm_ldJ, pm_ldR, pm_stI, pm_stZ, pm_stJ, pm_pZ0, pm_pZ1, pm_stZ0, pm_stZ1, pm_len, pm_cpyI, pm_cpyJ, pm_is, Option.bind_some, pm_u, pm_ur, pm_lt, pm_le, pm_eq, pm_ne, pm_add, pm_sub, pm_z0, pm_z1, cond_true, cond_false, decide_true, decide_false, not_false_eq_true, not_true_eq_false, reduceIte, Nat.reduceEqDiff, Nat.add_eq_left, Nat.left_eq_add, Nat.add_left_cancel_iff, Nat.one_ne_zero, am_cs, n0]
  rw [if_neg c4]
  by_cases c5 : x = nI 5
  · subst c5
    rw [if_pos rfl]
    simp (disch := first | assumption | omega) only [pm_gI, pm_gJ, pm_gR, pm_pI, pm_pZ, pm_pJ, pm_ldI, pm_ldJ, pm_ldR, pm_stI, pm_stZ, pm_stJ, pm_pZ0, pm_pZ1, pm_stZ0, pm_stZ1, pm_len, pm_cpyI, pm_cpyJ, pm_is, Option.bind_some, pm_u, pm_ur, pm_lt, pm_le, pm_eq, pm_ne, pm_add, pm_sub, pm_z0, pm_z1, cond_true, cond_false, decide_true, decide_false, not_false_eq_true, not_true_eq_false, reduceIte, Nat.reduceEqDiff, Nat.add_eq_left, Nat.left_eq_add, Nat.add_left_cancel_iff, Nat.one_ne_zero, am_cs, n1]
  rw [if_neg c5]
  by_cases c6 : x = nI 6
  · subst c6
    rw [if_pos rfl]
    simp (disch := first | assumption | omega) only [pm_gI, pm_gJ, pm_gR, pm_pI, pm_pZ, pm_pJ, pm_ldI, pm_ldJ, pm_ldR, pm_stI, pm_stZ, pm_stJ, pm_pZ0, pm_pZ1, pm_stZ0, pm_stZ1, pm_len, pm_cpyI, pm_cpyJ, pm_is, Option.bind_some, pm_u, pm_ur, pm_lt, pm_le, pm_eq, pm_ne, pm_add, pm_sub, pm_z0, pm_z1, cond_true, cond_false, decide_true, decide_false, not_false_eq_true, not_true_eq_false, reduceIte, Nat.reduceEqDiff, Nat.add_eq_left, Nat.left_eq_add, Nat.add_left_cancel_iff, Nat.one_ne_zero, am_cs, z0]
  rw [if_neg c6]
  by_cases c7 : x = nI 7
  · subst c7
    rw [if_pos rfl]
    simp (disch := first | assumption | omega) only [pm_gI, pm_gJ, pm_gR, pm_pI, pm_pZ, pm_pJ, pm_ldI, pm_ldJ, pm_ldR, pm_stI, pm_stZ, pm_stJ, pm_pZ0, pm_pZ1, pm_stZ0, pm_stZ1, pm_len, pm_cpyI, pm_cpyJ, pm_is, Option.bind_some, pm_u, pm_ur, pm_lt, pm_le, pm_eq, pm_ne, pm_add, pm_sub, pm_z0, pm_z1, cond_true, cond_false, decide_true, decide_false, not_false_eq_true, not_true_eq_false, reduceIte, Nat.reduceEqDiff, Nat.add_eq_left, Nat.left_eq_add, Nat.add_left_cancel_iff, Nat.one_ne_zero, am_cs, r0, r1]
  rw [if_neg c7]
  by_cases c8 : x = nI 8
  · subst c8
    rw [if_pos rfl]
    simp (disch := first | assumption | omega) only [pm_gI, pm_gJ, pm_gR, pm_pI, pm_pZ, pm_pJ, pm_ldI, pm_ldJ, pm_ldR, pm_stI, pm_stZ, pm_stJ, pm_pZ0, pm_pZ1, pm_stZ0, pm_stZ1, pm_len, pm_cpyI, pm_cpyJ, pm_is, Option.bind_some, pm_u, pm_ur, pm_lt, pm_le, pm_eq, pm_ne, pm_add, pm_sub, pm_z0, pm_z1, cond_true, cond_false, decide_true, decide_false, not_false_eq_true, not_true_eq_false, reduceIte, Nat.reduceEqDiff, Nat.add_eq_left, Nat.left_eq_add, Nat.add_left_cancel_iff, Nat.one_ne_zero, am_cs, z1]
  rw [if_neg c8]
  simp (disch := first | assumption | omega) only [pm_gI, pm_gJ, pm_gR, pm_pI, pm_pZ, pm_pJ, pm_ldI, pm_ldJ, pm_ldR, pm_stI, pm_stZ, pm_stJ, pm_pZ0, pm_pZ1, pm_stZ0, pm_stZ1, pm_len, pm_cpyI, pm_cpyJ, pm_is, Option.bind_some, pm_u, pm_ur, pm_lt, pm_le, pm_eq, pm_ne, pm_add, pm_sub, pm_z0, pm_z1, cond_true, cond_false, decide_true, decide_false, not_false_eq_true, not_true_eq_false, reduceIte, Nat.reduceEqDiff, Nat.add_eq_left, Nat.left_eq_add, Nat.add_left_cancel_iff, Nat.one_ne_zero, am_cs, c0, c1, c2, c3, c4, c5, c6, c7, c8]
end TP4
