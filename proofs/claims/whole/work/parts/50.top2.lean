/-! THE CLASS'S CALLS OF THE DOCUMENT, part 2 -/
theorem px_rng {x : Int32} {n : Nat} (hn : n < 2147483647) (h1 : ¬ x < nI 1) (h2 : x ≤ nI n) : ∃ j, 1 ≤ j ∧ j ≤ n ∧ x = nI j := by
  have h0 : ¬ x < 0 := by
    intro hh
    exact h1 (Int32.lt_trans hh (by decide +kernel))
  have h3 : wu_in x (n + 1) = 1 := by
    unfold wu_in
    rw [if_neg h0]
    by_cases c : nI (n + 1) ≤ x
    · have : nI (n + 1) ≤ nI n := Int32.le_trans c h2
      exact absurd this (nI_ge (by omega) (by omega))
    · rw [if_neg c]
  obtain ⟨j, hj, rfl⟩ := wu_in1 (by omega) h3
  refine ⟨j, ?_, by omega, rfl⟩
  by_cases c : 1 ≤ j
  · exact c
  · exact absurd (nI_lt (show j < 1 by omega) (by omega)) h1
section TP2
variable {K : am_K} {I I' : pm_I} {J J' : pm_J} {p : Nat} {T : sT}
abbrev cx (T : sT) (x : Int32) : sCl := T.cs x.toNatClampNeg
def st_name (x y : Int32) (v : Int64) (T : sT) : Int32 × sT :=
  if wu_in x T.mk = 1 ∧ wu_in y T.mk = 1 ∧ (cx T y).kd = 1 ∧ (cx T x).bg = 0 then
    (if (cx T x).kd = 1 then (if x = y then (nI 1, T.setC T.w0 (su_at T.cs x.toNatClampNeg ((cx T x).setXr v))) else (-nI 1, T))
    else if (cx T x).dg.length < (cx T x).most then (nI ((cx T x).dg.length + 1), T.setC T.w0 (su_at T.cs x.toNatClampNeg ((cx T x).setDg ((cx T x).dg ++ [sd_dig (cx T y).row ^^^ v])))) else (-nI 1, T))
  else (-nI 1, T)
theorem so_most_le (C : sCl) : C.most ≤ 4 := by
  unfold sCl.most
  split
  · omega
  · split
    · omega
    · split <;> omega
theorem tc_name (L : tl_ok K) (h : tc_at I J p T) (x y : Int32) (v : Int64) (d : Nat) : ∃ (I' : pm_I) (J' : pm_J), f_X8_name (d + 2) 0 x y v (K, I, J) = some (((st_name x y v T).1, 0, none), (K, I', J')) ∧ tc_at I' J' p (st_name x y v T).2 ∧ tf_at I I' ∧ tf_at J J' := by
  have L' := L
  obtain ⟨l0, l1, l2, l3, l4, l5, l6, l7, l8, l9, l10⟩ := L
  have k0 := l7.1
  have hmk := tc_mk h
  rw [e_X8_name]
  unfold st_name
  by_cases c0 : wu_in x T.mk = 1
  · obtain ⟨j, hj, rfl⟩ := wu_in1 (by omega) c0
    have hcall := kc_callAt l7 h.1 hj (d + 1)
    have hx : cx T (nI j) = T.cs j := by
      unfold cx
      rw [nI_clamp (by omega)]
    rw [hx, nI_clamp (by omega)]
    have M := tl_c L' (show j < 30 by omega)
    have hc := tc_c h hj
    have m0 := M.1
    have s3 := hc.1.2.2.1
    have s1 := hc.1.2.1
    have b1 := hc.2.2.2.2.1
    have b2 := hc.2.2.2.2.2.1
    by_cases c1 : wu_in y T.mk = 1
    · obtain ⟨i, hi, rfl⟩ := wu_in1 (by omega) c1
      have hw := kc_writeAt l7 h.1 hi d
      have hy : cx T (nI i) = T.cs i := by
        unfold cx
        rw [nI_clamp (by omega)]
      rw [hy]
      by_cases c2 : (T.cs i).kd = 1
      · rw [if_pos c2] at hw
        have N := tl_c L' (show i < 30 by omega)
        have n0 := N.1
        have n9 := N.2.2.2.2.1
        have nr := N.2.1.1
        by_cases c3 : (T.cs j).bg = 0
        · rw [if_pos ⟨c0, c1, c2, c3⟩]
          rw [c3] at s3
          by_cases c4 : (T.cs j).kd = 1
          · rw [if_pos c4]
            rw [c4] at s1
            by_cases c5 : nI j = nI i
            · rw [if_pos c5]
              simp (disch := first | assumption | omega) only [pm_gI, pm_gJ, pm_gR, pm_pI, pm_pZ, pm_pJ, pm_ldI, pm_ldJ, pm_ldR, pm_stI, pm_stZ, pm_stJ, pm_pZ0, pm_pZ1, pm_stZ0, pm_stZ1, pm_len, pm_cpyI, pm_cpyJ, pm_is, Option.bind_some, pm_u, pm_ur, pm_lt, pm_le, pm_eq, pm_ne, pm_add, pm_sub, pm_z0, pm_z1, cond_true, cond_false, decide_true, decide_false, not_false_eq_true, not_true_eq_false, reduceIte, Nat.reduceEqDiff, Nat.add_eq_left, Nat.left_eq_add, Nat.add_left_cancel_iff, Nat.one_ne_zero, am_cs, hcall, hw, s3, s1]
              rw [decide_eq_true ((nI_eq (by omega) (by omega)).mp c5)]
              have f1 : pm_fr J (am_u J (15 + 5 * j) 14 v) (15 + 5 * j) 1 := fun a ha => am_u_ne _ _ (by omega)
              refine ⟨I, _, rfl, tc_call h hj h.1.1 ?_ (kf_at.refl _ _) (kf_call f1 (by omega) (by omega))⟩
              obtain ⟨⟨s0, s1, s3, s4, s5, s6, s7, s8, s11, s13, t2, t14⟩, h2, h3, h4, hb⟩ := hc
              refine ⟨?_, h2, ?_, h4, hb⟩
              · simp [cs_at, sCl_kd_fin, sCl_ac_fin, sCl_bg_fin, sCl_oc_fin, sCl_la_fin, sCl_wt_fin, sCl_wk_fin, sCl_tr_fin, sCl_row_fin, sCl_dg_fin, sCl_an_fin, sCl_xr_fin, sCl_kd_setRow, sCl_ac_setRow, sCl_bg_setRow, sCl_oc_setRow, sCl_la_setRow, sCl_wt_setRow, sCl_wk_setRow, sCl_tr_setRow, sCl_row_setRow, sCl_dg_setRow, sCl_an_setRow, sCl_xr_setRow, sCl_kd_setDg, sCl_ac_setDg, sCl_bg_setDg, sCl_oc_setDg, sCl_la_setDg, sCl_wt_setDg, sCl_wk_setDg, sCl_tr_setDg, sCl_row_setDg, sCl_dg_setDg, sCl_an_setDg, sCl_xr_setDg, sCl_kd_setAn, sCl_ac_setAn, sCl_bg_setAn, sCl_oc_setAn, sCl_la_setAn, sCl_wt_setAn, sCl_wk_setAn, sCl_tr_setAn, sCl_row_setAn, sCl_dg_setAn, sCl_an_setAn, sCl_xr_setAn, sCl_kd_setXr, sCl_ac_setXr, sCl_bg_setXr, sCl_oc_setXr, sCl_la_setXr, sCl_wt_setXr, sCl_wk_setXr, sCl_tr_setXr, sCl_row_setXr, sCl_dg_setXr, sCl_an_setXr, sCl_xr_setXr, sCl_kd_setWt, sCl_ac_setWt, sCl_bg_setWt, sCl_oc_setWt, sCl_la_setWt, sCl_wt_setWt, sCl_wk_setWt, sCl_tr_setWt, sCl_row_setWt, sCl_dg_setWt, sCl_an_setWt, sCl_xr_setWt, sCl_kd_setBg, sCl_ac_setBg, sCl_bg_setBg, sCl_oc_setBg, sCl_la_setBg, sCl_wt_setBg, sCl_wk_setBg, sCl_tr_setBg, sCl_row_setBg, sCl_dg_setBg, sCl_an_setBg, sCl_xr_setBg, sCl_kd_new, sCl_ac_new, sCl_bg_new, sCl_oc_new, sCl_la_new, sCl_wt_new, sCl_wk_new, sCl_tr_new, sCl_row_new, sCl_dg_new, sCl_an_new, sCl_xr_new, pm_u, s0, s1, s3, s4, s5, s6, s7, s8, s11, s13, t2]
              · rw [f1 _ (by omega)]
                exact h3
            · rw [if_neg c5]
              simp (disch := first | assumption | omega) only [pm_gI, pm_gJ, pm_gR, pm_pI, pm_pZ, pm_pJ, pm_ldI, pm_ldJ, pm_ldR, pm_stI, pm_stZ, pm_stJ, pm_pZ0, pm_pZ1, pm_stZ0, pm_stZ1, pm_len, pm_cpyI, pm_cpyJ, pm_is, Option.bind_some, pm_u, pm_ur, pm_lt, pm_le, pm_eq, pm_ne, pm_add, pm_sub, pm_z0, pm_z1, cond_true, cond_false, decide_true, decide_false, not_false_eq_true, not_true_eq_false, reduceIte, Nat.reduceEqDiff, Nat.add_eq_left, Nat.left_eq_add, Nat.add_left_cancel_iff, Nat.one_ne_zero, am_cs, hcall, hw, s3, s1]
              rw [decide_eq_false (fun e => c5 (by rw [e]))]
              exact ⟨I, J, rfl, h, tf_at.refl _, tf_at.refl _⟩
          · rw [if_neg c4]
            have hd := rc_digest (J := J) N.2.1 (tc_c h hi).2.1 (d + 1)
            have hmo := cc_most M hc (d + 1)
            have hm4 := so_most_le (T.cs j)
            by_cases c5 : (T.cs j).dg.length < (T.cs j).most
            · rw [if_pos c5]
              obtain ⟨I1, J1, g1, g2, g3, g4⟩ := cc_addDigest M hc (sd_dig (T.cs i).row ^^^ v) (T.cs j).most hm4 c5 (d + 1)
              simp (disch := first | assumption | omega) only [pm_gI, pm_gJ, pm_gR, pm_pI, pm_pZ, pm_pJ, pm_ldI, pm_ldJ, pm_ldR, pm_stI, pm_stZ, pm_stJ, pm_pZ0, pm_pZ1, pm_stZ0, pm_stZ1, pm_len, pm_cpyI, pm_cpyJ, pm_is, Option.bind_some, pm_u, pm_ur, pm_lt, pm_le, pm_eq, pm_ne, pm_add, pm_sub, pm_z0, pm_z1, cond_true, cond_false, decide_true, decide_false, not_false_eq_true, not_true_eq_false, reduceIte, Nat.reduceEqDiff, Nat.add_eq_left, Nat.left_eq_add, Nat.add_left_cancel_iff, Nat.one_ne_zero, am_cs, hcall, hw, s3, s1, c4, hd, hmo, g1]
              exact ⟨I1, J1, rfl, tc_call h hj (wy_call h.1.1 (by omega) g3) g2 (kf_call g3 (by omega) (by omega)) (kf_call g4 (by omega) (by omega))⟩
            · rw [if_neg c5]
              have g1 := cc_addDigest0 M hc (sd_dig (T.cs i).row ^^^ v) (T.cs j).most hm4 (by omega) (d + 1)
              simp (disch := first | assumption | omega) only [pm_gI, pm_gJ, pm_gR, pm_pI, pm_pZ, pm_pJ, pm_ldI, pm_ldJ, pm_ldR, pm_stI, pm_stZ, pm_stJ, pm_pZ0, pm_pZ1, pm_stZ0, pm_stZ1, pm_len, pm_cpyI, pm_cpyJ, pm_is, Option.bind_some, pm_u, pm_ur, pm_lt, pm_le, pm_eq, pm_ne, pm_add, pm_sub, pm_z0, pm_z1, cond_true, cond_false, decide_true, decide_false, not_false_eq_true, not_true_eq_false, reduceIte, Nat.reduceEqDiff, Nat.add_eq_left, Nat.left_eq_add, Nat.add_left_cancel_iff, Nat.one_ne_zero, am_cs, hcall, hw, s3, s1, c4, hd, hmo, g1]
              exact ⟨I, J, rfl, h, tf_at.refl _, tf_at.refl _⟩
        · rw [if_neg (fun hh => c3 hh.2.2.2)]
          simp (disch := first | assumption | omega) only [pm_gI, pm_gJ, pm_gR, pm_pI, pm_pZ, pm_pJ, pm_ldI, pm_ldJ, pm_ldR, pm_stI, pm_stZ, pm_stJ, pm_pZ0, pm_pZ1, pm_stZ0, pm_stZ1, pm_len, pm_cpyI, pm_cpyJ, pm_is, Option.bind_some, pm_u, pm_ur, pm_lt, pm_le, pm_eq, pm_ne, pm_add, pm_sub, pm_z0, pm_z1, cond_true, cond_false, decide_true, decide_false, not_false_eq_true, not_true_eq_false, reduceIte, Nat.reduceEqDiff, Nat.add_eq_left, Nat.left_eq_add, Nat.add_left_cancel_iff, Nat.one_ne_zero, am_cs, hcall, hw, s3, c3]
          exact ⟨I, J, rfl, h, tf_at.refl _, tf_at.refl _⟩
      · rw [if_neg (fun hh => c2 hh.2.2.1)]
        rw [if_neg c2] at hw
        simp (disch := first | assumption | omega) only [pm_gI, pm_gJ, pm_gR, pm_pI, pm_pZ, pm_pJ, pm_ldI, pm_ldJ, pm_ldR, pm_stI, pm_stZ, pm_stJ, pm_pZ0, pm_pZ1, pm_stZ0, pm_stZ1, pm_len, pm_cpyI, pm_cpyJ, pm_is, Option.bind_some, pm_u, pm_ur, pm_lt, pm_le, pm_eq, pm_ne, pm_add, pm_sub, pm_z0, pm_z1, cond_true, cond_false, decide_true, decide_false, not_false_eq_true, not_true_eq_false, reduceIte, Nat.reduceEqDiff, Nat.add_eq_left, Nat.left_eq_add, Nat.add_left_cancel_iff, Nat.one_ne_zero, am_cs, hcall, hw]
        exact ⟨I, J, rfl, h, tf_at.refl _, tf_at.refl _⟩
    · rw [if_neg (fun hh => c1 hh.2.1)]
      have hw := kc_writeAt0 l7 h.1 (wu_0 c1) d
      simp (disch := first | assumption | omega) only [pm_gI, pm_gJ, pm_gR, pm_pI, pm_pZ, pm_pJ, pm_ldI, pm_ldJ, pm_ldR, pm_stI, pm_stZ, pm_stJ, pm_pZ0, pm_pZ1, pm_stZ0, pm_stZ1, pm_len, pm_cpyI, pm_cpyJ, pm_is, Option.bind_some, pm_u, pm_ur, pm_lt, pm_le, pm_eq, pm_ne, pm_add, pm_sub, pm_z0, pm_z1, cond_true, cond_false, decide_true, decide_false, not_false_eq_true, not_true_eq_false, reduceIte, Nat.reduceEqDiff, Nat.add_eq_left, Nat.left_eq_add, Nat.add_left_cancel_iff, Nat.one_ne_zero, am_cs, hcall, hw]
      exact ⟨I, J, rfl, h, tf_at.refl _, tf_at.refl _⟩
  · rw [if_neg (fun hh => c0 hh.1)]
    have hcall := kc_callAt0 l7 h.1 (wu_0 c0) (d + 1)
    by_cases c1 : wu_in y T.mk = 1
    · obtain ⟨i, hi, rfl⟩ := wu_in1 (by omega) c1
      have hw := kc_writeAt l7 h.1 hi d
      by_cases c2 : (T.cs i).kd = 1
      · rw [if_pos c2] at hw
        simp (disch := first | assumption | omega) only [pm_gI, pm_gJ, pm_gR, pm_pI, pm_pZ, pm_pJ, pm_ldI, pm_ldJ, pm_ldR, pm_stI, pm_stZ, pm_stJ, pm_pZ0, pm_pZ1, pm_stZ0, pm_stZ1, pm_len, pm_cpyI, pm_cpyJ, pm_is, Option.bind_some, pm_u, pm_ur, pm_lt, pm_le, pm_eq, pm_ne, pm_add, pm_sub, pm_z0, pm_z1, cond_true, cond_false, decide_true, decide_false, not_false_eq_true, not_true_eq_false, reduceIte, Nat.reduceEqDiff, Nat.add_eq_left, Nat.left_eq_add, Nat.add_left_cancel_iff, Nat.one_ne_zero, am_cs, hcall, hw]
        exact ⟨I, J, rfl, h, tf_at.refl _, tf_at.refl _⟩
      · rw [if_neg c2] at hw
        simp (disch := first | assumption | omega) only [pm_gI, pm_gJ, pm_gR, pm_pI, pm_pZ, pm_pJ, pm_ldI, pm_ldJ, pm_ldR, pm_stI, pm_stZ, pm_stJ, pm_pZ0, pm_pZ1, pm_stZ0, pm_stZ1, pm_len, pm_cpyI, pm_cpyJ, pm_is, Option.bind_some, pm_u, pm_ur, pm_lt, pm_le, pm_eq, pm_ne, pm_add, pm_sub, pm_z0, pm_z1, cond_true, cond_false, decide_true, decide_false, not_false_eq_true, not_true_eq_false, reduceIte, Nat.reduceEqDiff, Nat.add_eq_left, Nat.left_eq_add, Nat.add_left_cancel_iff, Nat.one_ne_zero, am_cs, hcall, hw]
        exact ⟨I, J, rfl, h, tf_at.refl _, tf_at.refl _⟩
    · have hw := kc_writeAt0 l7 h.1 (wu_0 c1) d
      simp (disch := first | assumption | omega) only [pm_gI, pm_gJ, pm_gR, pm_pI, pm_pZ, pm_pJ, pm_ldI, pm_ldJ, pm_ldR, pm_stI, pm_stZ, pm_stJ, pm_pZ0, pm_pZ1, pm_stZ0, pm_stZ1, pm_len, pm_cpyI, pm_cpyJ, pm_is, Option.bind_some, pm_u, pm_ur, pm_lt, pm_le, pm_eq, pm_ne, pm_add, pm_sub, pm_z0, pm_z1, cond_true, cond_false, decide_true, decide_false, not_false_eq_true, not_true_eq_false, reduceIte, Nat.reduceEqDiff, Nat.add_eq_left, Nat.left_eq_add, Nat.add_left_cancel_iff, Nat.one_ne_zero, am_cs, hcall, hw]
      exact ⟨I, J, rfl, h, tf_at.refl _, tf_at.refl _⟩
def st_begin (x y : Int32) (T : sT) : Int32 × sT :=
  if wu_in x T.mk = 1 ∧ (cx T x).bg = 0 ∧ ¬ y < nI 1 ∧ y ≤ nI 100000 then (nI 1, T.setC (so_openW x.toNatClampNeg ((cx T x).setBg 1 (T.ck + y.toNatClampNeg)) T.w0) (su_at T.cs x.toNatClampNeg (so_openC ((cx T x).setBg 1 (T.ck + y.toNatClampNeg))))) else (nI 0, T)
theorem tc_begin (L : tl_ok K) (h : tc_at I J p T) (x y : Int32) (d : Nat) : ∃ (I' : pm_I) (J' : pm_J), f_X8_begin (d + 5) 0 x y (K, I, J) = some (((st_begin x y T).1, 0, none), (K, I', J')) ∧ tc_at I' J' p (st_begin x y T).2 ∧ tf_at I I' ∧ tf_at J J' := by
  have L' := L
  obtain ⟨l0, l1, l2, l3, l4, l5, l6, l7, l8, l9, l10⟩ := L
  have k0 := l7.1
  have hmk := tc_mk h
  have hck := h.1.2.2.1
  have hck2 := h.1.2.2.2.2.1
  rw [e_X8_begin]
  unfold st_begin
  by_cases c0 : wu_in x T.mk = 1
  · obtain ⟨j, hj, rfl⟩ := wu_in1 (by omega) c0
    have hcall := kc_callAt l7 h.1 hj (d + 4)
    have hx : cx T (nI j) = T.cs j := by
      unfold cx
      rw [nI_clamp (by omega)]
    rw [hx, nI_clamp (by omega)]
    have M := tl_c L' (show j < 30 by omega)
    have hc := tc_c h hj
    have m0 := M.1
    have s3 := hc.1.2.2.1
    have b2 := hc.2.2.2.2.2.1
    by_cases c1 : (T.cs j).bg = 0
    · by_cases c2 : y < nI 1
      · rw [if_neg (fun hh => hh.2.2.1 c2)]
        rw [c1] at s3
        simp (disch := first | assumption | omega) only [pm_gI, pm_gJ, pm_gR, pm_pI, pm_pZ, pm_pJ, pm_ldI, pm_ldJ, pm_ldR, pm_stI, pm_stZ, pm_stJ, pm_pZ0, pm_pZ1, pm_stZ0, pm_stZ1, pm_len, pm_cpyI, pm_cpyJ, pm_is, Option.bind_some, pm_u, pm_ur, pm_lt, pm_le, pm_eq, pm_ne, pm_add, pm_sub, pm_z0, pm_z1, cond_true, cond_false, decide_true, decide_false, not_false_eq_true, not_true_eq_false, reduceIte, Nat.reduceEqDiff, Nat.add_eq_left, Nat.left_eq_add, Nat.add_left_cancel_iff, Nat.one_ne_zero, am_cs, hcall, s3, c2]
        exact ⟨I, J, rfl, h, tf_at.refl _, tf_at.refl _⟩
      · by_cases c3 : y ≤ nI 100000
        · rw [if_pos ⟨c0, c1, c2, c3⟩]
          obtain ⟨n, hn1, hn2, rfl⟩ := px_rng (by omega) c2 c3
          rw [nI_clamp (by omega)]
          have hne : ¬ 13 = 15 + 5 * j := by omega
          have f1 : pm_fr I (am_u (am_u I (15 + 5 * j) 3 (nI 1)) (15 + 5 * j) 5 (nI (T.ck + n))) (15 + 5 * j) 1 := fun a ha => by rw [am_u_ne _ _ (by omega), am_u_ne _ _ (by omega)]
          have hc2 : cc_at (am_u (am_u I (15 + 5 * j) 3 (nI 1)) (15 + 5 * j) 5 (nI (T.ck + n))) J (15 + 5 * j) j ((T.cs j).setBg 1 (T.ck + n)) := by
            obtain ⟨⟨s0, s1, s3, s4, s5, s6, s7, s8, s11, s13, t2, t14⟩, h2, h3, h4, b1, b2, b3, b4, b5, b6, b7, b8⟩ := hc
            refine ⟨?_, rc_congr h2 (f1 _ (by omega)) (f1 _ (by omega)), h3, ?_, b1, by simp [sCl_kd_fin, sCl_ac_fin, sCl_bg_fin, sCl_oc_fin, sCl_la_fin, sCl_wt_fin, sCl_wk_fin, sCl_tr_fin, sCl_row_fin, sCl_dg_fin, sCl_an_fin, sCl_xr_fin, sCl_kd_setRow, sCl_ac_setRow, sCl_bg_setRow, sCl_oc_setRow, sCl_la_setRow, sCl_wt_setRow, sCl_wk_setRow, sCl_tr_setRow, sCl_row_setRow, sCl_dg_setRow, sCl_an_setRow, sCl_xr_setRow, sCl_kd_setDg, sCl_ac_setDg, sCl_bg_setDg, sCl_oc_setDg, sCl_la_setDg, sCl_wt_setDg, sCl_wk_setDg, sCl_tr_setDg, sCl_row_setDg, sCl_dg_setDg, sCl_an_setDg, sCl_xr_setDg, sCl_kd_setAn, sCl_ac_setAn, sCl_bg_setAn, sCl_oc_setAn, sCl_la_setAn, sCl_wt_setAn, sCl_wk_setAn, sCl_tr_setAn, sCl_row_setAn, sCl_dg_setAn, sCl_an_setAn, sCl_xr_setAn, sCl_kd_setXr, sCl_ac_setXr, sCl_bg_setXr, sCl_oc_setXr, sCl_la_setXr, sCl_wt_setXr, sCl_wk_setXr, sCl_tr_setXr, sCl_row_setXr, sCl_dg_setXr, sCl_an_setXr, sCl_xr_setXr, sCl_kd_setWt, sCl_ac_setWt, sCl_bg_setWt, sCl_oc_setWt, sCl_la_setWt, sCl_wt_setWt, sCl_wk_setWt, sCl_tr_setWt, sCl_row_setWt, sCl_dg_setWt, sCl_an_setWt, sCl_xr_setWt, sCl_kd_setBg, sCl_ac_setBg, sCl_bg_setBg, sCl_oc_setBg, sCl_la_setBg, sCl_wt_setBg, sCl_wk_setBg, sCl_tr_setBg, sCl_row_setBg, sCl_dg_setBg, sCl_an_setBg, sCl_xr_setBg, sCl_kd_new, sCl_ac_new, sCl_bg_new, sCl_oc_new, sCl_la_new, sCl_wt_new, sCl_wk_new, sCl_tr_new, sCl_row_new, sCl_dg_new, sCl_an_new, sCl_xr_new], ?_, b4, b5, b6, b7, b8⟩
            · simp [cs_at, sCl_kd_fin, sCl_ac_fin, sCl_bg_fin, sCl_oc_fin, sCl_la_fin, sCl_wt_fin, sCl_wk_fin, sCl_tr_fin, sCl_row_fin, sCl_dg_fin, sCl_an_fin, sCl_xr_fin, sCl_kd_setRow, sCl_ac_setRow, sCl_bg_setRow, sCl_oc_setRow, sCl_la_setRow, sCl_wt_setRow, sCl_wk_setRow, sCl_tr_setRow, sCl_row_setRow, sCl_dg_setRow, sCl_an_setRow, sCl_xr_setRow, sCl_kd_setDg, sCl_ac_setDg, sCl_bg_setDg, sCl_oc_setDg, sCl_la_setDg, sCl_wt_setDg, sCl_wk_setDg, sCl_tr_setDg, sCl_row_setDg, sCl_dg_setDg, sCl_an_setDg, sCl_xr_setDg, sCl_kd_setAn, sCl_ac_setAn, sCl_bg_setAn, sCl_oc_setAn, sCl_la_setAn, sCl_wt_setAn, sCl_wk_setAn, sCl_tr_setAn, sCl_row_setAn, sCl_dg_setAn, sCl_an_setAn, sCl_xr_setAn, sCl_kd_setXr, sCl_ac_setXr, sCl_bg_setXr, sCl_oc_setXr, sCl_la_setXr, sCl_wt_setXr, sCl_wk_setXr, sCl_tr_setXr, sCl_row_setXr, sCl_dg_setXr, sCl_an_setXr, sCl_xr_setXr, sCl_kd_setWt, sCl_ac_setWt, sCl_bg_setWt, sCl_oc_setWt, sCl_la_setWt, sCl_wt_setWt, sCl_wk_setWt, sCl_tr_setWt, sCl_row_setWt, sCl_dg_setWt, sCl_an_setWt, sCl_xr_setWt, sCl_kd_setBg, sCl_ac_setBg, sCl_bg_setBg, sCl_oc_setBg, sCl_la_setBg, sCl_wt_setBg, sCl_wk_setBg, sCl_tr_setBg, sCl_row_setBg, sCl_dg_setBg, sCl_an_setBg, sCl_xr_setBg, sCl_kd_new, sCl_ac_new, sCl_bg_new, sCl_oc_new, sCl_la_new, sCl_wt_new, sCl_wk_new, sCl_tr_new, sCl_row_new, sCl_dg_new, sCl_an_new, sCl_xr_new, pm_u, s0, s1, s4, s6, s7, s8, s11, s13, t2, t14]
            · intro i hi
              rw [f1 _ (by omega)]
              exact h4 i hi
            · simp [sCl_kd_fin, sCl_ac_fin, sCl_bg_fin, sCl_oc_fin, sCl_la_fin, sCl_wt_fin, sCl_wk_fin, sCl_tr_fin, sCl_row_fin, sCl_dg_fin, sCl_an_fin, sCl_xr_fin, sCl_kd_setRow, sCl_ac_setRow, sCl_bg_setRow, sCl_oc_setRow, sCl_la_setRow, sCl_wt_setRow, sCl_wk_setRow, sCl_tr_setRow, sCl_row_setRow, sCl_dg_setRow, sCl_an_setRow, sCl_xr_setRow, sCl_kd_setDg, sCl_ac_setDg, sCl_bg_setDg, sCl_oc_setDg, sCl_la_setDg, sCl_wt_setDg, sCl_wk_setDg, sCl_tr_setDg, sCl_row_setDg, sCl_dg_setDg, sCl_an_setDg, sCl_xr_setDg, sCl_kd_setAn, sCl_ac_setAn, sCl_bg_setAn, sCl_oc_setAn, sCl_la_setAn, sCl_wt_setAn, sCl_wk_setAn, sCl_tr_setAn, sCl_row_setAn, sCl_dg_setAn, sCl_an_setAn, sCl_xr_setAn, sCl_kd_setXr, sCl_ac_setXr, sCl_bg_setXr, sCl_oc_setXr, sCl_la_setXr, sCl_wt_setXr, sCl_wk_setXr, sCl_tr_setXr, sCl_row_setXr, sCl_dg_setXr, sCl_an_setXr, sCl_xr_setXr, sCl_kd_setWt, sCl_ac_setWt, sCl_bg_setWt, sCl_oc_setWt, sCl_la_setWt, sCl_wt_setWt, sCl_wk_setWt, sCl_tr_setWt, sCl_row_setWt, sCl_dg_setWt, sCl_an_setWt, sCl_xr_setWt, sCl_kd_setBg, sCl_ac_setBg, sCl_bg_setBg, sCl_oc_setBg, sCl_la_setBg, sCl_wt_setBg, sCl_wk_setBg, sCl_tr_setBg, sCl_row_setBg, sCl_dg_setBg, sCl_an_setBg, sCl_xr_setBg, sCl_kd_new, sCl_ac_new, sCl_bg_new, sCl_oc_new, sCl_la_new, sCl_wt_new, sCl_wk_new, sCl_tr_new, sCl_row_new, sCl_dg_new, sCl_an_new, sCl_xr_new]
              omega
          obtain ⟨I1, g1, g2, g3, g4⟩ := kc_open (m := j) l7 M (by omega) (by omega) (wy_call h.1.1 (by omega) f1) hc2 d
          rw [c1] at s3
          have c4 : ¬ n < 1 := by omega
          simp (disch := first | assumption | omega) only [pm_gI, pm_gJ, pm_gR, pm_pI, pm_pZ, pm_pJ, pm_ldI, pm_ldJ, pm_ldR, pm_stI, pm_stZ, pm_stJ, pm_pZ0, pm_pZ1, pm_stZ0, pm_stZ1, pm_len, pm_cpyI, pm_cpyJ, pm_is, Option.bind_some, pm_u, pm_ur, pm_lt, pm_le, pm_eq, pm_ne, pm_add, pm_sub, pm_z0, pm_z1, cond_true, cond_false, decide_true, decide_false, not_false_eq_true, not_true_eq_false, reduceIte, Nat.reduceEqDiff, Nat.add_eq_left, Nat.left_eq_add, Nat.add_left_cancel_iff, Nat.one_ne_zero, am_cs, hcall, s3, c4, hn2, hck, hne, g1]
          exact ⟨I1, J, rfl, tc_call h hj g2 g3 ((kf_call f1 (by omega) (by omega)).trans g4) (kf_at.refl _ _)⟩
        · rw [if_neg (fun hh => c3 hh.2.2.2)]
          rw [c1] at s3
          simp (disch := first | assumption | omega) only [pm_gI, pm_gJ, pm_gR, pm_pI, pm_pZ, pm_pJ, pm_ldI, pm_ldJ, pm_ldR, pm_stI, pm_stZ, pm_stJ, pm_pZ0, pm_pZ1, pm_stZ0, pm_stZ1, pm_len, pm_cpyI, pm_cpyJ, pm_is, Option.bind_some, pm_u, pm_ur, pm_lt, pm_le, pm_eq, pm_ne, pm_add, pm_sub, pm_z0, pm_z1, cond_true, cond_false, decide_true, decide_false, not_false_eq_true, not_true_eq_false, reduceIte, Nat.reduceEqDiff, Nat.add_eq_left, Nat.left_eq_add, Nat.add_left_cancel_iff, Nat.one_ne_zero, am_cs, hcall, s3, c2, c3]
          exact ⟨I, J, rfl, h, tf_at.refl _, tf_at.refl _⟩
    · rw [if_neg (fun hh => c1 hh.2.1)]
      simp (disch := first | assumption | omega) only [pm_gI, pm_gJ, pm_gR, pm_pI, pm_pZ, pm_pJ, pm_ldI, pm_ldJ, pm_ldR, pm_stI, pm_stZ, pm_stJ, pm_pZ0, pm_pZ1, pm_stZ0, pm_stZ1, pm_len, pm_cpyI, pm_cpyJ, pm_is, Option.bind_some, pm_u, pm_ur, pm_lt, pm_le, pm_eq, pm_ne, pm_add, pm_sub, pm_z0, pm_z1, cond_true, cond_false, decide_true, decide_false, not_false_eq_true, not_true_eq_false, reduceIte, Nat.reduceEqDiff, Nat.add_eq_left, Nat.left_eq_add, Nat.add_left_cancel_iff, Nat.one_ne_zero, am_cs, hcall, s3, c1]
      exact ⟨I, J, rfl, h, tf_at.refl _, tf_at.refl _⟩
  · rw [if_neg (fun hh => c0 hh.1)]
    have hcall := kc_callAt0 l7 h.1 (wu_0 c0) (d + 4)
    simp (disch := first | assumption | omega) only [pm_gI, pm_gJ, pm_gR, pm_pI, pm_pZ, pm_pJ, pm_ldI, pm_ldJ, pm_ldR, pm_stI, pm_stZ, pm_stJ, pm_pZ0, pm_pZ1, pm_stZ0, pm_stZ1, pm_len, pm_cpyI, pm_cpyJ, pm_is, Option.bind_some, pm_u, pm_ur, pm_lt, pm_le, pm_eq, pm_ne, pm_add, pm_sub, pm_z0, pm_z1, cond_true, cond_false, decide_true, decide_false, not_false_eq_true, not_true_eq_false, reduceIte, Nat.reduceEqDiff, Nat.add_eq_left, Nat.left_eq_add, Nat.add_left_cancel_iff, Nat.one_ne_zero, am_cs, hcall]
    exact ⟨I, J, rfl, h, tf_at.refl _, tf_at.refl _⟩
def st_resume (x : Int32) (T : sT) : Int32 × sT :=
  if wu_in x T.mk = 1 ∧ (cx T x).on = 1 then (nI (if (so_openC ((cx T x).setWt 0 (cx T x).wk (cx T x).tr)).kd = 3 then 0 else (so_openC ((cx T x).setWt 0 (cx T x).wk (cx T x).tr)).come), T.setC (so_openW x.toNatClampNeg ((cx T x).setWt 0 (cx T x).wk (cx T x).tr) T.w0) (su_at T.cs x.toNatClampNeg (so_openC ((cx T x).setWt 0 (cx T x).wk (cx T x).tr)))) else (-nI 1, T)
theorem tc_resume (L : tl_ok K) (h : tc_at I J p T) (x : Int32) (d : Nat) : ∃ (I' : pm_I) (J' : pm_J), f_X8_resume (d + 5) 0 x (K, I, J) = some (((st_resume x T).1, 0, none), (K, I', J')) ∧ tc_at I' J' p (st_resume x T).2 ∧ tf_at I I' ∧ tf_at J J' := by
  have L' := L
  obtain ⟨l0, l1, l2, l3, l4, l5, l6, l7, l8, l9, l10⟩ := L
  have k0 := l7.1
  have hmk := tc_mk h
  rw [e_X8_resume]
  unfold st_resume
  by_cases c0 : wu_in x T.mk = 1
  · obtain ⟨j, hj, rfl⟩ := wu_in1 (by omega) c0
    have hcall := kc_callAt l7 h.1 hj (d + 4)
    have hx : cx T (nI j) = T.cs j := by
      unfold cx
      rw [nI_clamp (by omega)]
    rw [hx, nI_clamp (by omega)]
    have M := tl_c L' (show j < 30 by omega)
    have hc := tc_c h hj
    have m0 := M.1
    have hgo := cc_goesOn M hc (d + 4)
    rcases so_on01 (T.cs j) with c1 | c1
    · rw [if_neg (by omega)]
      rw [c1] at hgo
      simp (disch := first | assumption | omega) only [pm_gI, pm_gJ, pm_gR, pm_pI, pm_pZ, pm_pJ, pm_ldI, pm_ldJ, pm_ldR, pm_stI, pm_stZ, pm_stJ, pm_pZ0, pm_pZ1, pm_stZ0, pm_stZ1, pm_len, pm_cpyI, pm_cpyJ, pm_is, Option.bind_some, pm_u, pm_ur, pm_lt, pm_le, pm_eq, pm_ne, pm_add, pm_sub, pm_z0, pm_z1, cond_true, cond_false, decide_true, decide_false, not_false_eq_true, not_true_eq_false, reduceIte, Nat.reduceEqDiff, Nat.add_eq_left, Nat.left_eq_add, Nat.add_left_cancel_iff, Nat.one_ne_zero, am_cs, hcall, hgo]
      exact ⟨I, J, rfl, h, tf_at.refl _, tf_at.refl _⟩
    · rw [if_pos ⟨c0, c1⟩]
      rw [c1] at hgo
      have f0 : pm_fr I (am_u I (15 + 5 * j) 6 (nI 0)) (15 + 5 * j) 1 := pm_fr_u (by omega)
      have hc2 : cc_at (am_u I (15 + 5 * j) 6 (nI 0)) J (15 + 5 * j) j ((T.cs j).setWt 0 (T.cs j).wk (T.cs j).tr) := by
        obtain ⟨⟨s0, s1, s3, s4, s5, s6, s7, s8, s11, s13, t2, t14⟩, h2, h3, h4, b1, b2, b3, b4, b5, b6, b7, b8⟩ := hc
        refine ⟨?_, rc_congr h2 (f0 _ (by omega)) (f0 _ (by omega)), h3, ?_, b1, b2, b3, by simp [sCl_kd_fin, sCl_ac_fin, sCl_bg_fin, sCl_oc_fin, sCl_la_fin, sCl_wt_fin, sCl_wk_fin, sCl_tr_fin, sCl_row_fin, sCl_dg_fin, sCl_an_fin, sCl_xr_fin, sCl_kd_setRow, sCl_ac_setRow, sCl_bg_setRow, sCl_oc_setRow, sCl_la_setRow, sCl_wt_setRow, sCl_wk_setRow, sCl_tr_setRow, sCl_row_setRow, sCl_dg_setRow, sCl_an_setRow, sCl_xr_setRow, sCl_kd_setDg, sCl_ac_setDg, sCl_bg_setDg, sCl_oc_setDg, sCl_la_setDg, sCl_wt_setDg, sCl_wk_setDg, sCl_tr_setDg, sCl_row_setDg, sCl_dg_setDg, sCl_an_setDg, sCl_xr_setDg, sCl_kd_setAn, sCl_ac_setAn, sCl_bg_setAn, sCl_oc_setAn, sCl_la_setAn, sCl_wt_setAn, sCl_wk_setAn, sCl_tr_setAn, sCl_row_setAn, sCl_dg_setAn, sCl_an_setAn, sCl_xr_setAn, sCl_kd_setXr, sCl_ac_setXr, sCl_bg_setXr, sCl_oc_setXr, sCl_la_setXr, sCl_wt_setXr, sCl_wk_setXr, sCl_tr_setXr, sCl_row_setXr, sCl_dg_setXr, sCl_an_setXr, sCl_xr_setXr, sCl_kd_setWt, sCl_ac_setWt, sCl_bg_setWt, sCl_oc_setWt, sCl_la_setWt, sCl_wt_setWt, sCl_wk_setWt, sCl_tr_setWt, sCl_row_setWt, sCl_dg_setWt, sCl_an_setWt, sCl_xr_setWt, sCl_kd_setBg, sCl_ac_setBg, sCl_bg_setBg, sCl_oc_setBg, sCl_la_setBg, sCl_wt_setBg, sCl_wk_setBg, sCl_tr_setBg, sCl_row_setBg, sCl_dg_setBg, sCl_an_setBg, sCl_xr_setBg, sCl_kd_new, sCl_ac_new, sCl_bg_new, sCl_oc_new, sCl_la_new, sCl_wt_new, sCl_wk_new, sCl_tr_new, sCl_row_new, sCl_dg_new, sCl_an_new, sCl_xr_new], b5, b6, b7, b8⟩
        · simp [cs_at, sCl_kd_fin, sCl_ac_fin, sCl_bg_fin, sCl_oc_fin, sCl_la_fin, sCl_wt_fin, sCl_wk_fin, sCl_tr_fin, sCl_row_fin, sCl_dg_fin, sCl_an_fin, sCl_xr_fin, sCl_kd_setRow, sCl_ac_setRow, sCl_bg_setRow, sCl_oc_setRow, sCl_la_setRow, sCl_wt_setRow, sCl_wk_setRow, sCl_tr_setRow, sCl_row_setRow, sCl_dg_setRow, sCl_an_setRow, sCl_xr_setRow, sCl_kd_setDg, sCl_ac_setDg, sCl_bg_setDg, sCl_oc_setDg, sCl_la_setDg, sCl_wt_setDg, sCl_wk_setDg, sCl_tr_setDg, sCl_row_setDg, sCl_dg_setDg, sCl_an_setDg, sCl_xr_setDg, sCl_kd_setAn, sCl_ac_setAn, sCl_bg_setAn, sCl_oc_setAn, sCl_la_setAn, sCl_wt_setAn, sCl_wk_setAn, sCl_tr_setAn, sCl_row_setAn, sCl_dg_setAn, sCl_an_setAn, sCl_xr_setAn, sCl_kd_setXr, sCl_ac_setXr, sCl_bg_setXr, sCl_oc_setXr, sCl_la_setXr, sCl_wt_setXr, sCl_wk_setXr, sCl_tr_setXr, sCl_row_setXr, sCl_dg_setXr, sCl_an_setXr, sCl_xr_setXr, sCl_kd_setWt, sCl_ac_setWt, sCl_bg_setWt, sCl_oc_setWt, sCl_la_setWt, sCl_wt_setWt, sCl_wk_setWt, sCl_tr_setWt, sCl_row_setWt, sCl_dg_setWt, sCl_an_setWt, sCl_xr_setWt, sCl_kd_setBg, sCl_ac_setBg, sCl_bg_setBg, sCl_oc_setBg, sCl_la_setBg, sCl_wt_setBg, sCl_wk_setBg, sCl_tr_setBg, sCl_row_setBg, sCl_dg_setBg, sCl_an_setBg, sCl_xr_setBg, sCl_kd_new, sCl_ac_new, sCl_bg_new, sCl_oc_new, sCl_la_new, sCl_wt_new, sCl_wk_new, sCl_tr_new, sCl_row_new, sCl_dg_new, sCl_an_new, sCl_xr_new, pm_u, s0, s1, s3, s4, s5, s7, s8, s11, s13, t2, t14]
        · intro i hi
          rw [f0 _ (by omega)]
          exact h4 i hi
      obtain ⟨I1, g1, g2, g3, g4⟩ := kc_open (m := j) l7 M (by omega) (by omega) (wy_call h.1.1 (by omega) f0) hc2 d
      have t1 := g3.1.2.1
      have tb := g3.2.2.2.2.1
      have hco := cc_come M g3 (d + 4)
      have hend := tc_call h hj g2 g3 ((kf_call f0 (by omega) (by omega)).trans g4) (kf_at.refl _ _)
      generalize so_openC ((T.cs j).setWt 0 (T.cs j).wk (T.cs j).tr) = D at *
      by_cases c2 : D.kd = 3
      · rw [if_pos c2]
        rw [c2] at t1
        simp (disch := first | assumption | omega) only [pm_gI, pm_gJ, pm_gR, pm_pI, pm_pZ, pm_pJ, pm_ldI, pm_ldJ, pm_ldR, pm_stI, pm_stZ, pm_stJ, pm_pZ0, pm_pZ1, pm_stZ0, pm_stZ1, pm_len, pm_cpyI, pm_cpyJ, pm_is, Option.bind_some, pm_u, pm_ur, pm_lt, pm_le, pm_eq, pm_ne, pm_add, pm_sub, pm_z0, pm_z1, cond_true, cond_false, decide_true, decide_false, not_false_eq_true, not_true_eq_false, reduceIte, Nat.reduceEqDiff, Nat.add_eq_left, Nat.left_eq_add, Nat.add_left_cancel_iff, Nat.one_ne_zero, am_cs, hcall, hgo, g1, t1]
        exact ⟨I1, J, rfl, hend⟩
      · rw [if_neg c2]
        simp (disch := first | assumption | omega) only [pm_gI, pm_gJ, pm_gR, pm_pI, pm_pZ, pm_pJ, pm_ldI, pm_ldJ, pm_ldR, pm_stI, pm_stZ, pm_stJ, pm_pZ0, pm_pZ1, pm_stZ0, pm_stZ1, pm_len, pm_cpyI, pm_cpyJ, pm_is, Option.bind_some, pm_u, pm_ur, pm_lt, pm_le, pm_eq, pm_ne, pm_add, pm_sub, pm_z0, pm_z1, cond_true, cond_false, decide_true, decide_false, not_false_eq_true, not_true_eq_false, reduceIte, Nat.reduceEqDiff, Nat.add_eq_left, Nat.left_eq_add, Nat.add_left_cancel_iff, Nat.one_ne_zero, am_cs, hcall, hgo, g1, t1, c2, hco]
        exact ⟨I1, J, rfl, hend⟩
  · rw [if_neg (fun hh => c0 hh.1)]
    have hcall := kc_callAt0 l7 h.1 (wu_0 c0) (d + 4)
    simp (disch := first | assumption | omega) only [pm_gI, pm_gJ, pm_gR, pm_pI, pm_pZ, pm_pJ, pm_ldI, pm_ldJ, pm_ldR, pm_stI, pm_stZ, pm_stJ, pm_pZ0, pm_pZ1, pm_stZ0, pm_stZ1, pm_len, pm_cpyI, pm_cpyJ, pm_is, Option.bind_some, pm_u, pm_ur, pm_lt, pm_le, pm_eq, pm_ne, pm_add, pm_sub, pm_z0, pm_z1, cond_true, cond_false, decide_true, decide_false, not_false_eq_true, not_true_eq_false, reduceIte, Nat.reduceEqDiff, Nat.add_eq_left, Nat.left_eq_add, Nat.add_left_cancel_iff, Nat.one_ne_zero, am_cs, hcall]
    exact ⟨I, J, rfl, h, tf_at.refl _, tf_at.refl _⟩
def st_end (x : Int32) (T : sT) : Int32 := if wu_in x T.mk = 1 then (cx T x).oc else -nI 9
theorem tc_end (L : tl_ok K) (h : tc_at I J p T) (x : Int32) (d : Nat) : f_X8_end (d + 1) 0 x (K, I, J) = some ((st_end x T, 0, none), (K, I, J)) := by
  have L' := L
  obtain ⟨l0, l1, l2, l3, l4, l5, l6, l7, l8, l9, l10⟩ := L
  have k0 := l7.1
  have hmk := tc_mk h
  rw [e_X8_end]
  unfold st_end
  by_cases c0 : wu_in x T.mk = 1
  · obtain ⟨j, hj, rfl⟩ := wu_in1 (by omega) c0
    have hcall := kc_callAt l7 h.1 hj d
    have hx : cx T (nI j) = T.cs j := by
      unfold cx
      rw [nI_clamp (by omega)]
    have m0 := (tl_c L' (show j < 30 by omega)).1
    have s4 := (tc_c h hj).1.2.2.2.1
    rw [hx, if_pos c0]
    simp (disch := first | assumption | omega) only [pm_gI, pm_gJ, pm_gR, pm_pI, pm_pZ, pm_pJ, pm_ldI, pm_ldJ, pm_ldR, pm_stI, pm_stZ, pm_stJ, pm_pZ0, pm_pZ1, pm_stZ0, pm_stZ1, pm_len, pm_cpyI, pm_cpyJ, pm_is, Option.bind_some, pm_u, pm_ur, pm_lt, pm_le, pm_eq, pm_ne, pm_add, pm_sub, pm_z0, pm_z1, cond_true, cond_false, decide_true, decide_false, not_false_eq_true, not_true_eq_false, reduceIte, Nat.reduceEqDiff, Nat.add_eq_left, Nat.left_eq_add, Nat.add_left_cancel_iff, Nat.one_ne_zero, am_cs, hcall, s4]
  · rw [if_neg c0]
    have hcall := kc_callAt0 l7 h.1 (wu_0 c0) d
    simp (disch := first | assumption | omega) only [pm_gI, pm_gJ, pm_gR, pm_pI, pm_pZ, pm_pJ, pm_ldI, pm_ldJ, pm_ldR, pm_stI, pm_stZ, pm_stJ, pm_pZ0, pm_pZ1, pm_stZ0, pm_stZ1, pm_len, pm_cpyI, pm_cpyJ, pm_is, Option.bind_some, pm_u, pm_ur, pm_lt, pm_le, pm_eq, pm_ne, pm_add, pm_sub, pm_z0, pm_z1, cond_true, cond_false, decide_true, decide_false, not_false_eq_true, not_true_eq_false, reduceIte, Nat.reduceEqDiff, Nat.add_eq_left, Nat.left_eq_add, Nat.add_left_cancel_iff, Nat.one_ne_zero, am_cs, hcall]
/-- the byte that got answers, or none where it throws -/
def st_got (x y : Int32) (T : sT) : Option Nat := if wu_in x T.mk = 1 ∧ (cx T x).kd = 2 ∧ wu_in y (cx T x).row.length = 1 then some ((cx T x).row.getD y.toNatClampNeg 0) else none
theorem tc_got (L : tl_ok K) (h : tc_at I J p T) (x y : Int32) (d : Nat) : f_X8_got (d + 1) 0 x y (K, I, J) = some (match st_got x y T with | some b => ((nI b, 0, none), (K, I, J)) | none => ((0, 1, none), (K, I, J))) := by
  have L' := L
  obtain ⟨l0, l1, l2, l3, l4, l5, l6, l7, l8, l9, l10⟩ := L
  have k0 := l7.1
  have hmk := tc_mk h
  rw [e_X8_got]
  unfold st_got
  by_cases c0 : wu_in x T.mk = 1
  · obtain ⟨j, hj, rfl⟩ := wu_in1 (by omega) c0
    have hcall := kc_callAt l7 h.1 hj d
    have hx : cx T (nI j) = T.cs j := by
      unfold cx
      rw [nI_clamp (by omega)]
    have M := tl_c L' (show j < 30 by omega)
    have m0 := M.1
    have m9 := M.2.2.2.2.1
    obtain ⟨r0, r1, r2⟩ := M.2.1
    have hc := tc_c h hj
    have s1 := hc.1.2.1
    have b1 := hc.2.2.2.2.1
    have hl := hc.2.1.1
    have hl60 := hc.2.1.2.1
    have hat := hc.2.1.2.2.1
    rw [hx]
    by_cases c1 : (T.cs j).kd = 2
    · by_cases c2 : wu_in y (T.cs j).row.length = 1
      · obtain ⟨i, hi, rfl⟩ := wu_in1 (by omega) c2
        rw [if_pos ⟨c0, c1, c2⟩, nI_clamp (by omega)]
        have hb := hat i hi
        rw [Nat.zero_add] at hb
        rw [c1] at s1
        have c3 : ¬ i < 0 := by omega
        simp (disch := first | assumption | omega) only [pm_gI, pm_gJ, pm_gR, pm_pI, pm_pZ, pm_pJ, pm_ldI, pm_ldJ, pm_ldR, pm_stI, pm_stZ, pm_stJ, pm_pZ0, pm_pZ1, pm_stZ0, pm_stZ1, pm_len, pm_cpyI, pm_cpyJ, pm_is, Option.bind_some, pm_u, pm_ur, pm_lt, pm_le, pm_eq, pm_ne, pm_add, pm_sub, pm_z0, pm_z1, cond_true, cond_false, decide_true, decide_false, not_false_eq_true, not_true_eq_false, reduceIte, Nat.reduceEqDiff, Nat.add_eq_left, Nat.left_eq_add, Nat.add_left_cancel_iff, Nat.one_ne_zero, am_cs, hcall, s1, c3, hl, hi, hb]
      · rw [if_neg (fun hh => c2 hh.2.2)]
        rw [c1] at s1
        unfold wu_in at c2
        by_cases c3 : y < nI 0
        · simp (disch := first | assumption | omega) only [pm_gI, pm_gJ, pm_gR, pm_pI, pm_pZ, pm_pJ, pm_ldI, pm_ldJ, pm_ldR, pm_stI, pm_stZ, pm_stJ, pm_pZ0, pm_pZ1, pm_stZ0, pm_stZ1, pm_len, pm_cpyI, pm_cpyJ, pm_is, Option.bind_some, pm_u, pm_ur, pm_lt, pm_le, pm_eq, pm_ne, pm_add, pm_sub, pm_z0, pm_z1, cond_true, cond_false, decide_true, decide_false, not_false_eq_true, not_true_eq_false, reduceIte, Nat.reduceEqDiff, Nat.add_eq_left, Nat.left_eq_add, Nat.add_left_cancel_iff, Nat.one_ne_zero, am_cs, hcall, s1, c3, e_l_X8_got_36]
        · rw [if_neg (show ¬ y < 0 from c3)] at c2
          have c4 : ¬ y < nI (T.cs j).row.length := by
            by_cases c5 : nI (T.cs j).row.length ≤ y
            · exact Int32.not_lt.mpr c5
            · rw [if_neg c5] at c2
              exact absurd rfl c2
          simp (disch := first | assumption | omega) only [pm_gI, pm_gJ, pm_gR, pm_pI, pm_pZ, pm_pJ, pm_ldI, pm_ldJ, pm_ldR, pm_stI, pm_stZ, pm_stJ, pm_pZ0, pm_pZ1, pm_stZ0, pm_stZ1, pm_len, pm_cpyI, pm_cpyJ, pm_is, Option.bind_some, pm_u, pm_ur, pm_lt, pm_le, pm_eq, pm_ne, pm_add, pm_sub, pm_z0, pm_z1, cond_true, cond_false, decide_true, decide_false, not_false_eq_true, not_true_eq_false, reduceIte, Nat.reduceEqDiff, Nat.add_eq_left, Nat.left_eq_add, Nat.add_left_cancel_iff, Nat.one_ne_zero, am_cs, hcall, s1, c3, hl, c4, e_l_X8_got_36]
    · rw [if_neg (fun hh => c1 hh.2.1)]
      simp (disch := first | assumption | omega) only [pm_gI, pm_gJ, pm_gR, pm_pI, pm_pZ, pm_pJ, pm_ldI, pm_ldJ, pm_ldR, pm_stI, pm_stZ, pm_stJ, pm_pZ0, pm_pZ1, pm_stZ0, pm_stZ1, pm_len, pm_cpyI, pm_cpyJ, pm_is, Option.bind_some, pm_u, pm_ur, pm_lt, pm_le, pm_eq, pm_ne, pm_add, pm_sub, pm_z0, pm_z1, cond_true, cond_false, decide_true, decide_false, not_false_eq_true, not_true_eq_false, reduceIte, Nat.reduceEqDiff, Nat.add_eq_left, Nat.left_eq_add, Nat.add_left_cancel_iff, Nat.one_ne_zero, am_cs, hcall, s1, c1, e_l_X8_got_36]
  · rw [if_neg (fun hh => c0 hh.1)]
    have hcall := kc_callAt0 l7 h.1 (wu_0 c0) d
    simp (disch := first | assumption | omega) only [pm_gI, pm_gJ, pm_gR, pm_pI, pm_pZ, pm_pJ, pm_ldI, pm_ldJ, pm_ldR, pm_stI, pm_stZ, pm_stJ, pm_pZ0, pm_pZ1, pm_stZ0, pm_stZ1, pm_len, pm_cpyI, pm_cpyJ, pm_is, Option.bind_some, pm_u, pm_ur, pm_lt, pm_le, pm_eq, pm_ne, pm_add, pm_sub, pm_z0, pm_z1, cond_true, cond_false, decide_true, decide_false, not_false_eq_true, not_true_eq_false, reduceIte, Nat.reduceEqDiff, Nat.add_eq_left, Nat.left_eq_add, Nat.add_left_cancel_iff, Nat.one_ne_zero, am_cs, hcall, e_l_X8_got_36]
def st_named (x y : Int32) (T : sT) : Int64 := if wu_in x T.mk = 1 then (cx T x).digAt y else lN 0
theorem tc_named (L : tl_ok K) (h : tc_at I J p T) (x y : Int32) (d : Nat) : f_X8_named (d + 2) 0 x y (K, I, J) = some ((0, st_named x y T, none), (K, I, J)) := by
  have L' := L
  obtain ⟨l0, l1, l2, l3, l4, l5, l6, l7, l8, l9, l10⟩ := L
  have k0 := l7.1
  have hmk := tc_mk h
  rw [e_X8_named]
  unfold st_named
  by_cases c0 : wu_in x T.mk = 1
  · obtain ⟨j, hj, rfl⟩ := wu_in1 (by omega) c0
    have hcall := kc_callAt l7 h.1 hj (d + 1)
    have hx : cx T (nI j) = T.cs j := by
      unfold cx
      rw [nI_clamp (by omega)]
    have M := tl_c L' (show j < 30 by omega)
    have m0 := M.1
    have hda := cc_digestAt M (tc_c h hj) y d
    rw [hx, if_pos c0]
    simp (disch := first | assumption | omega) only [pm_gI, pm_gJ, pm_gR, pm_pI, pm_pZ, pm_pJ, pm_ldI, pm_ldJ, pm_ldR, pm_stI, pm_stZ, pm_stJ, pm_pZ0, pm_pZ1, pm_stZ0, pm_stZ1, pm_len, pm_cpyI, pm_cpyJ, pm_is, Option.bind_some, pm_u, pm_ur, pm_lt, pm_le, pm_eq, pm_ne, pm_add, pm_sub, pm_z0, pm_z1, cond_true, cond_false, decide_true, decide_false, not_false_eq_true, not_true_eq_false, reduceIte, Nat.reduceEqDiff, Nat.add_eq_left, Nat.left_eq_add, Nat.add_left_cancel_iff, Nat.one_ne_zero, am_cs, hcall, hda]
  · rw [if_neg c0]
    have hcall := kc_callAt0 l7 h.1 (wu_0 c0) (d + 1)
    simp (disch := first | assumption | omega) only [pm_gI, pm_gJ, pm_gR, pm_pI, pm_pZ, pm_pJ, pm_ldI, pm_ldJ, pm_ldR, pm_stI, pm_stZ, pm_stJ, pm_pZ0, pm_pZ1, pm_stZ0, pm_stZ1, pm_len, pm_cpyI, pm_cpyJ, pm_is, Option.bind_some, pm_u, pm_ur, pm_lt, pm_le, pm_eq, pm_ne, pm_add, pm_sub, pm_z0, pm_z1, cond_true, cond_false, decide_true, decide_false, not_false_eq_true, not_true_eq_false, reduceIte, Nat.reduceEqDiff, Nat.add_eq_left, Nat.left_eq_add, Nat.add_left_cancel_iff, Nat.one_ne_zero, am_cs, hcall]
def st_missing (x y : Int32) (T : sT) : Int32 := if wu_in x T.mk = 1 then sc_miss (cx T x).an y (cx T x).dg.length 0 (nI 0) else -nI 1
theorem tc_missing (L : tl_ok K) (h : tc_at I J p T) (x y : Int32) (d : Nat) : f_X8_missing (d + 1) 0 x y (K, I, J) = some ((st_missing x y T, 0, none), (K, I, J)) := by
  have L' := L
  obtain ⟨l0, l1, l2, l3, l4, l5, l6, l7, l8, l9, l10⟩ := L
  have k0 := l7.1
  have hmk := tc_mk h
  rw [e_X8_missing]
  unfold st_missing
  by_cases c0 : wu_in x T.mk = 1
  · obtain ⟨j, hj, rfl⟩ := wu_in1 (by omega) c0
    have hcall := kc_callAt l7 h.1 hj d
    have hx : cx T (nI j) = T.cs j := by
      unfold cx
      rw [nI_clamp (by omega)]
    have M := tl_c L' (show j < 30 by omega)
    have m0 := M.1
    have hda := cc_missing M (tc_c h hj) y d
    rw [hx, if_pos c0]
    simp (disch := first | assumption | omega) only [pm_gI, pm_gJ, pm_gR, pm_pI, pm_pZ, pm_pJ, pm_ldI, pm_ldJ, pm_ldR, pm_stI, pm_stZ, pm_stJ, pm_pZ0, pm_pZ1, pm_stZ0, pm_stZ1, pm_len, pm_cpyI, pm_cpyJ, pm_is, Option.bind_some, pm_u, pm_ur, pm_lt, pm_le, pm_eq, pm_ne, pm_add, pm_sub, pm_z0, pm_z1, cond_true, cond_false, decide_true, decide_false, not_false_eq_true, not_true_eq_false, reduceIte, Nat.reduceEqDiff, Nat.add_eq_left, Nat.left_eq_add, Nat.add_left_cancel_iff, Nat.one_ne_zero, am_cs, hcall, hda]
  · rw [if_neg c0]
    have hcall := kc_callAt0 l7 h.1 (wu_0 c0) d
    simp (disch := first | assumption | omega) only [pm_gI, pm_gJ, pm_gR, pm_pI, pm_pZ, pm_pJ, pm_ldI, pm_ldJ, pm_ldR, pm_stI, pm_stZ, pm_stJ, pm_pZ0, pm_pZ1, pm_stZ0, pm_stZ1, pm_len, pm_cpyI, pm_cpyJ, pm_is, Option.bind_some, pm_u, pm_ur, pm_lt, pm_le, pm_eq, pm_ne, pm_add, pm_sub, pm_z0, pm_z1, cond_true, cond_false, decide_true, decide_false, not_false_eq_true, not_true_eq_false, reduceIte, Nat.reduceEqDiff, Nat.add_eq_left, Nat.left_eq_add, Nat.add_left_cancel_iff, Nat.one_ne_zero, am_cs, hcall]
def st_about (x y : Int32) (T : sT) : Int32 := if wu_in x T.mk = 1 then (if y = nI 0 then (if (cx T x).wt = 0 then nI 0 else nI (cx T x).wk - nI T.ck) else if y = nI 1 then nI (cx T x).tr else if y = nI 2 then nI (cx T x).come else if y = nI 3 then (match T.sv.pt x.toNatClampNeg with | none => -nI 1 | some z => nI z.2.length) else -nI 1) else -nI 1
theorem tc_about (L : tl_ok K) (h : tc_at I J p T) (x y : Int32) (d : Nat) : f_X8_about (d + 1) 0 x y (K, I, J) = some ((st_about x y T, 0, none), (K, I, J)) := by
  have L' := L
  obtain ⟨l0, l1, l2, l3, l4, l5, l6, l7, l8, l9, l10⟩ := L
  have k0 := l7.1
  have hmk := tc_mk h
  have s0 := l8.1
  have hck := h.1.2.2.1
  rw [e_X8_about]
  unfold st_about
  by_cases c0 : wu_in x T.mk = 1
  · obtain ⟨j, hj, rfl⟩ := wu_in1 (by omega) c0
    have hcall := kc_callAt l7 h.1 hj d
    have hx : cx T (nI j) = T.cs j := by
      unfold cx
      rw [nI_clamp (by omega)]
    have M := tl_c L' (show j < 30 by omega)
    have m0 := M.1
    have hc := tc_c h hj
    have hco := cc_come M hc d
    have hpa := sv_partial l8 h.2.1 (show j < 30 by omega) d
    obtain ⟨⟨s0', s1, s3, s4, s5, s6, s7, s8, s11, s13, t2, t14⟩, h2, h3, h4, b1, b2, b3, b4, b5, b6, b7, b8⟩ := hc
    rw [hx, if_pos c0, nI_clamp (by omega)]
    by_cases y0 : y = nI 0
    · subst y0
      rw [if_pos rfl]
      by_cases c1 : (T.cs j).wt = 0
      · rw [if_pos c1]
        simp (disch := first | assumption | omega) only [pm_gI, pm_gJ, pm_gR, pm_pI, pm_pZ, pm_pJ, pm_ldI, pm_ldJ, pm_ldR, pm_stI, pm_stZ, pm_stJ, pm_pZ0, pm_pZ1, pm_stZ0, pm_stZ1, pm_len, pm_cpyI, pm_cpyJ, pm_is, Option.bind_some, pm_u, pm_ur, pm_lt, pm_le, pm_eq, pm_ne, pm_add, pm_sub, pm_z0, pm_z1, cond_true, cond_false, decide_true, decide_false, not_false_eq_true, not_true_eq_false, reduceIte, Nat.reduceEqDiff, Nat.add_eq_left, Nat.left_eq_add, Nat.add_left_cancel_iff, Nat.one_ne_zero, am_cs, hcall, s6, c1]
      · rw [if_neg c1]
        unfold pm_sh at *
        simp (disch := first | assumption | omega) only [pm_gI, pm_gR, Option.bind_some, pm_is, pm_eq, cond_true, cond_false, decide_true, decide_false, am_cs, hcall, s6, s7, hck, l5, c1, pm_is k0]
    · by_cases y1 : y = nI 1
      · subst y1
        rw [if_neg y0, if_pos rfl]
        simp (disch := first | assumption | omega) only [pm_gI, pm_gJ, pm_gR, pm_pI, pm_pZ, pm_pJ, pm_ldI, pm_ldJ, pm_ldR, pm_stI, pm_stZ, pm_stJ, pm_pZ0, pm_pZ1, pm_stZ0, pm_stZ1, pm_len, pm_cpyI, pm_cpyJ, pm_is, Option.bind_some, pm_u, pm_ur, pm_lt, pm_le, pm_eq, pm_ne, pm_add, pm_sub, pm_z0, pm_z1, cond_true, cond_false, decide_true, decide_false, not_false_eq_true, not_true_eq_false, reduceIte, Nat.reduceEqDiff, Nat.add_eq_left, Nat.left_eq_add, Nat.add_left_cancel_iff, Nat.one_ne_zero, am_cs, hcall, s8]
      · by_cases y2 : y = nI 2
        · subst y2
          rw [if_neg y0, if_neg y1, if_pos rfl]
          simp (disch := first | assumption | omega) only [pm_gI, pm_gJ, pm_gR, pm_pI, pm_pZ, pm_pJ, pm_ldI, pm_ldJ, pm_ldR, pm_stI, pm_stZ, pm_stJ, pm_pZ0, pm_pZ1, pm_stZ0, pm_stZ1, pm_len, pm_cpyI, pm_cpyJ, pm_is, Option.bind_some, pm_u, pm_ur, pm_lt, pm_le, pm_eq, pm_ne, pm_add, pm_sub, pm_z0, pm_z1, cond_true, cond_false, decide_true, decide_false, not_false_eq_true, not_true_eq_false, reduceIte, Nat.reduceEqDiff, Nat.add_eq_left, Nat.left_eq_add, Nat.add_left_cancel_iff, Nat.one_ne_zero, am_cs, hcall, hco]
        · by_cases y3 : y = nI 3
          · subst y3
            rw [if_neg y0, if_neg y1, if_neg y2, if_pos rfl]
            simp (disch := first | assumption | omega) only [pm_gI, pm_gJ, pm_gR, pm_pI, pm_pZ, pm_pJ, pm_ldI, pm_ldJ, pm_ldR, pm_stI, pm_stZ, pm_stJ, pm_pZ0, pm_pZ1, pm_stZ0, pm_stZ1, pm_len, pm_cpyI, pm_cpyJ, pm_is, Option.bind_some, pm_u, pm_ur, pm_lt, pm_le, pm_eq, pm_ne, pm_add, pm_sub, pm_z0, pm_z1, cond_true, cond_false, decide_true, decide_false, not_false_eq_true, not_true_eq_false, reduceIte, Nat.reduceEqDiff, Nat.add_eq_left, Nat.left_eq_add, Nat.add_left_cancel_iff, Nat.one_ne_zero, am_cs, hcall, hpa]
            cases T.sv.pt j <;> rfl
          · rw [if_neg y0, if_neg y1, if_neg y2, if_neg y3]
            simp (disch := first | assumption | omega) only [pm_gI, pm_gJ, pm_gR, pm_pI, pm_pZ, pm_pJ, pm_ldI, pm_ldJ, pm_ldR, pm_stI, pm_stZ, pm_stJ, pm_pZ0, pm_pZ1, pm_stZ0, pm_stZ1, pm_len, pm_cpyI, pm_cpyJ, pm_is, Option.bind_some, pm_u, pm_ur, pm_lt, pm_le, pm_eq, pm_ne, pm_add, pm_sub, pm_z0, pm_z1, cond_true, cond_false, decide_true, decide_false, not_false_eq_true, not_true_eq_false, reduceIte, Nat.reduceEqDiff, Nat.add_eq_left, Nat.left_eq_add, Nat.add_left_cancel_iff, Nat.one_ne_zero, am_cs, hcall, y0, y1, y2, y3]
  · rw [if_neg c0]
    have hcall := kc_callAt0 l7 h.1 (wu_0 c0) d
    simp (disch := first | assumption | omega) only [pm_gI, pm_gJ, pm_gR, pm_pI, pm_pZ, pm_pJ, pm_ldI, pm_ldJ, pm_ldR, pm_stI, pm_stZ, pm_stJ, pm_pZ0, pm_pZ1, pm_stZ0, pm_stZ1, pm_len, pm_cpyI, pm_cpyJ, pm_is, Option.bind_some, pm_u, pm_ur, pm_lt, pm_le, pm_eq, pm_ne, pm_add, pm_sub, pm_z0, pm_z1, cond_true, cond_false, decide_true, decide_false, not_false_eq_true, not_true_eq_false, reduceIte, Nat.reduceEqDiff, Nat.add_eq_left, Nat.left_eq_add, Nat.add_left_cancel_iff, Nat.one_ne_zero, am_cs, hcall]
end TP2
