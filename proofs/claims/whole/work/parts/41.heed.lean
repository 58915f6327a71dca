/-! THE CLASS'S CLIENT: frames are heeded -/
def so_wait (ck : Nat) (C : sCl) : sCl := if C.tr + 1 < 5 then C.setWt 1 (ck + 2 ^ C.tr) (C.tr + 1) else (C.setWt C.wt C.wk (C.tr + 1)).fin (-nI 5)
def so_err (ck : Nat) (C : sCl) (dat : List Nat) : sCl := if dat.length = 1 then (if dat.getD 0 0 = 1 then so_wait ck C else if 2 ≤ dat.getD 0 0 ∧ dat.getD 0 0 ≤ 4 then C.fin (-nI (dat.getD 0 0)) else C) else C
def so_find (C : sCl) (f pl : Nat) (dat : List Nat) : sCl := if f = 10 ∧ dat.length = 1 then C.take pl (if dat.getD 0 0 = 0 then 2 else 1) else C
def so_read (ck : Nat) (C : sCl) (f pl : Nat) (dat : List Nat) : sCl := if f = 7 then C.setRow (sr_piece C.row pl dat) else if f = 8 then (if pl = C.row.length then C.fin (if sd_dig C.row = C.digAt (nI 0) then nI 1 else -nI 3) else so_wait ck C) else C
def so_ask (ck : Nat) (C : sCl) (f pl : Nat) (dat : List Nat) : sCl := if f = 5 then (if dat.length = 8 ∧ pl = C.dg.length ∧ C.dg.length < 3 then C.setDg (C.dg ++ [sd_num dat]) else C) else if f = 6 then (if pl = C.dg.length then C.fin (nI 1) else so_wait ck C) else C
/-- a call, when a frame has been heeded for it -/
def so_heedC (ck : Nat) (C : sCl) (f pl : Nat) (dat : List Nat) : sCl := if f = 13 then so_err ck C dat else if C.kd = 0 then so_find C f pl dat else if C.kd = 1 then (if f = 11 then C.fin (nI 1) else C) else if C.kd = 2 then so_read ck C f pl dat else if C.kd = 3 then so_ask ck C f pl dat else if f = 11 then C.fin (nI 1) else C
/-- the way, likewise -/
def so_heedW (p m : Nat) (C : sCl) (W : sWy) (f pl : Nat) : sWy := if C.kd = 1 ∧ f = 12 ∧ pl ≤ C.row.length then W.pieces p m C.row 8 pl else W
theorem px_shl {t : Nat} (h : t < 4) : (nI 1) <<< ((nI (t + 1) - nI 1) &&& 31) = nI (2 ^ t) := by
  rcases t with _ | _ | _ | _ | t
  · decide +kernel
  · decide +kernel
  · decide +kernel
  · decide +kernel
  · omega
theorem px_shl2 {t : Nat} (h : t < 4) : (nI 1) <<< (nI t &&& 31) = nI (2 ^ t) := by
  rcases t with _ | _ | _ | _ | t
  · decide +kernel
  · decide +kernel
  · decide +kernel
  · decide +kernel
  · omega
theorem px_neg {n : Nat} (h : 0 < n) (h2 : n < 10) : -nI n ≠ 0 := by
  rcases n with _ | _ | _ | _ | _ | _ | _ | _ | _ | _ | n
  · omega
  · decide +kernel
  · decide +kernel
  · decide +kernel
  · decide +kernel
  · decide +kernel
  · decide +kernel
  · decide +kernel
  · decide +kernel
  · decide +kernel
  · omega
theorem px_cmp {a b : Int64} : decide (lg_cmp a b = nI 0) = decide (a = b) := decide_eq_decide.mpr (lg_cmp_eq a b)
section HED
variable {K : am_K} {I : pm_I} {J : pm_J} {k m p x f pl ck : Nat} {C : sCl} {W : sWy} {dat : List Nat}
theorem kc_wait (L : kl_ok K) (M : cl_ok K k) (hk : 15 ≤ k) (hc : cc_at I J k m C) (ho : C.oc = 0) (hck : I 13 3 = nI ck) (hck2 : ck ≤ 1000000) (d : Nat) :
    ∃ I' : pm_I, f_X1_makeWait (d + 1) 13 k (K, I, J) = some ((0, 0, none), (K, I', J)) ∧ cc_at I' J k m (so_wait ck C) ∧ pm_fr I I' k 1 := by
  have hc' := hc
  obtain ⟨⟨s0, s1, s3, s4, s5, s6, s7, s8, s11, s13, t2, t14⟩, h2, h3, h4, b1, b2, b3, b4, b5, b6, b7, b8, b9, b10, b11⟩ := hc
  have b7 := b7 ho
  have m0 := M.1
  have k0 := L.1
  have k13 : ¬ 13 = k := by omega
  rw [e_X1_makeWait]
  unfold so_wait
  have f0 : pm_fr I (am_u I k 8 (nI (C.tr + 1))) k 1 := pm_fr_u (by omega)
  by_cases c : C.tr + 1 < 5
  · rw [if_pos c]
    simp (disch := first | assumption | omega) only [pm_gI, pm_gJ, pm_gR, pm_pI, pm_pZ, pm_pJ, pm_ldI, pm_ldJ, pm_ldR, pm_stI, pm_stZ, pm_stJ, pm_pZ0, pm_pZ1, pm_stZ0, pm_stZ1, pm_len, pm_cpyI, pm_cpyJ, pm_is, Option.bind_some, pm_u, pm_ur, pm_lt, pm_le, pm_eq, pm_ne, pm_add, pm_sub, pm_z0, pm_z1, cond_true, cond_false, decide_true, decide_false, not_false_eq_true, not_true_eq_false, reduceIte, Nat.reduceEqDiff, Nat.add_eq_left, Nat.left_eq_add, Nat.add_left_cancel_iff, Nat.one_ne_zero, am_cs, s8, c, hck, k13, px_shl2, Nat.add_sub_cancel]
    refine ⟨_, rfl, ⟨?_, rc_congr h2 ?_ ?_, h3, ?_, b1, b2, b3, by simp [sCl_kd_fin, sCl_ac_fin, sCl_bg_fin, sCl_oc_fin, sCl_la_fin, sCl_wt_fin, sCl_wk_fin, sCl_tr_fin, sCl_row_fin, sCl_dg_fin, sCl_an_fin, sCl_xr_fin, sCl_kd_setRow, sCl_ac_setRow, sCl_bg_setRow, sCl_oc_setRow, sCl_la_setRow, sCl_wt_setRow, sCl_wk_setRow, sCl_tr_setRow, sCl_row_setRow, sCl_dg_setRow, sCl_an_setRow, sCl_xr_setRow, sCl_kd_setDg, sCl_ac_setDg, sCl_bg_setDg, sCl_oc_setDg, sCl_la_setDg, sCl_wt_setDg, sCl_wk_setDg, sCl_tr_setDg, sCl_row_setDg, sCl_dg_setDg, sCl_an_setDg, sCl_xr_setDg, sCl_kd_setAn, sCl_ac_setAn, sCl_bg_setAn, sCl_oc_setAn, sCl_la_setAn, sCl_wt_setAn, sCl_wk_setAn, sCl_tr_setAn, sCl_row_setAn, sCl_dg_setAn, sCl_an_setAn, sCl_xr_setAn, sCl_kd_setXr, sCl_ac_setXr, sCl_bg_setXr, sCl_oc_setXr, sCl_la_setXr, sCl_wt_setXr, sCl_wk_setXr, sCl_tr_setXr, sCl_row_setXr, sCl_dg_setXr, sCl_an_setXr, sCl_xr_setXr, sCl_kd_setWt, sCl_ac_setWt, sCl_bg_setWt, sCl_oc_setWt, sCl_la_setWt, sCl_wt_setWt, sCl_wk_setWt, sCl_tr_setWt, sCl_row_setWt, sCl_dg_setWt, sCl_an_setWt, sCl_xr_setWt, sCl_kd_setBg, sCl_ac_setBg, sCl_bg_setBg, sCl_oc_setBg, sCl_la_setBg, sCl_wt_setBg, sCl_wk_setBg, sCl_tr_setBg, sCl_row_setBg, sCl_dg_setBg, sCl_an_setBg, sCl_xr_setBg, sCl_kd_new, sCl_ac_new, sCl_bg_new, sCl_oc_new, sCl_la_new, sCl_wt_new, sCl_wk_new, sCl_tr_new, sCl_row_new, sCl_dg_new, sCl_an_new, sCl_xr_new], ?_, ?_, ?_, b8, b9, b10, b11⟩, fun a ha => ?_⟩
    · simp [cs_at, sCl_kd_fin, sCl_ac_fin, sCl_bg_fin, sCl_oc_fin, sCl_la_fin, sCl_wt_fin, sCl_wk_fin, sCl_tr_fin, sCl_row_fin, sCl_dg_fin, sCl_an_fin, sCl_xr_fin, sCl_kd_setRow, sCl_ac_setRow, sCl_bg_setRow, sCl_oc_setRow, sCl_la_setRow, sCl_wt_setRow, sCl_wk_setRow, sCl_tr_setRow, sCl_row_setRow, sCl_dg_setRow, sCl_an_setRow, sCl_xr_setRow, sCl_kd_setDg, sCl_ac_setDg, sCl_bg_setDg, sCl_oc_setDg, sCl_la_setDg, sCl_wt_setDg, sCl_wk_setDg, sCl_tr_setDg, sCl_row_setDg, sCl_dg_setDg, sCl_an_setDg, sCl_xr_setDg, sCl_kd_setAn, sCl_ac_setAn, sCl_bg_setAn, sCl_oc_setAn, sCl_la_setAn, sCl_wt_setAn, sCl_wk_setAn, sCl_tr_setAn, sCl_row_setAn, sCl_dg_setAn, sCl_an_setAn, sCl_xr_setAn, sCl_kd_setXr, sCl_ac_setXr, sCl_bg_setXr, sCl_oc_setXr, sCl_la_setXr, sCl_wt_setXr, sCl_wk_setXr, sCl_tr_setXr, sCl_row_setXr, sCl_dg_setXr, sCl_an_setXr, sCl_xr_setXr, sCl_kd_setWt, sCl_ac_setWt, sCl_bg_setWt, sCl_oc_setWt, sCl_la_setWt, sCl_wt_setWt, sCl_wk_setWt, sCl_tr_setWt, sCl_row_setWt, sCl_dg_setWt, sCl_an_setWt, sCl_xr_setWt, sCl_kd_setBg, sCl_ac_setBg, sCl_bg_setBg, sCl_oc_setBg, sCl_la_setBg, sCl_wt_setBg, sCl_wk_setBg, sCl_tr_setBg, sCl_row_setBg, sCl_dg_setBg, sCl_an_setBg, sCl_xr_setBg, sCl_kd_new, sCl_ac_new, sCl_bg_new, sCl_oc_new, sCl_la_new, sCl_wt_new, sCl_wk_new, sCl_tr_new, sCl_row_new, sCl_dg_new, sCl_an_new, sCl_xr_new, pm_u, s0, s1, s3, s4, s5, s11, s13, t2, t14]
    · (repeat (rw [am_u_ne _ _ (by omega)]))
    · (repeat (rw [am_u_ne _ _ (by omega)]))
    · intro i hi
      (repeat (rw [am_u_ne _ _ (by omega)]))
      exact h4 i hi
    · show ck + 2 ^ C.tr ≤ 2000000
      have : C.tr = 0 ∨ C.tr = 1 ∨ C.tr = 2 ∨ C.tr = 3 := by omega
      rcases this with h | h | h | h <;> (rw [h]; omega)
    · show C.tr + 1 ≤ 5
      omega
    · intro _
      show C.tr + 1 ≤ 4
      omega
    · (repeat (rw [am_u_ne _ _ (by omega)]))
  · rw [if_neg c]
    have hmid : cc_at (am_u I k 8 (nI (C.tr + 1))) J k m ((C.setWt C.wt C.wk (C.tr + 1)).setDg C.dg) ∨ True := Or.inr trivial
    have hfin : ∃ I' : pm_I, f_X0_finish d k (-nI 5) (K, am_u I k 8 (nI (C.tr + 1)), J) = some ((0, 0, none), (K, I', J)) ∧ cc_at I' J k m ((C.setWt C.wt C.wk (C.tr + 1)).fin (-nI 5)) ∧ pm_fr (am_u I k 8 (nI (C.tr + 1))) I' k 1 := by
      rw [e_X0_finish]
      simp (disch := first | assumption | omega) only [pm_gI, pm_gJ, pm_gR, pm_pI, pm_pZ, pm_pJ, pm_ldI, pm_ldJ, pm_ldR, pm_stI, pm_stZ, pm_stJ, pm_pZ0, pm_pZ1, pm_stZ0, pm_stZ1, pm_len, pm_cpyI, pm_cpyJ, pm_is, Option.bind_some, pm_u, pm_ur, pm_lt, pm_le, pm_eq, pm_ne, pm_add, pm_sub, pm_z0, pm_z1, cond_true, cond_false, decide_true, decide_false, not_false_eq_true, not_true_eq_false, reduceIte, Nat.reduceEqDiff, Nat.add_eq_left, Nat.left_eq_add, Nat.add_left_cancel_iff, Nat.one_ne_zero, am_cs]
      refine ⟨_, rfl, ⟨?_, rc_congr h2 ?_ ?_, h3, ?_, b1, b2, b3, by simp [sCl_kd_fin, sCl_ac_fin, sCl_bg_fin, sCl_oc_fin, sCl_la_fin, sCl_wt_fin, sCl_wk_fin, sCl_tr_fin, sCl_row_fin, sCl_dg_fin, sCl_an_fin, sCl_xr_fin, sCl_kd_setRow, sCl_ac_setRow, sCl_bg_setRow, sCl_oc_setRow, sCl_la_setRow, sCl_wt_setRow, sCl_wk_setRow, sCl_tr_setRow, sCl_row_setRow, sCl_dg_setRow, sCl_an_setRow, sCl_xr_setRow, sCl_kd_setDg, sCl_ac_setDg, sCl_bg_setDg, sCl_oc_setDg, sCl_la_setDg, sCl_wt_setDg, sCl_wk_setDg, sCl_tr_setDg, sCl_row_setDg, sCl_dg_setDg, sCl_an_setDg, sCl_xr_setDg, sCl_kd_setAn, sCl_ac_setAn, sCl_bg_setAn, sCl_oc_setAn, sCl_la_setAn, sCl_wt_setAn, sCl_wk_setAn, sCl_tr_setAn, sCl_row_setAn, sCl_dg_setAn, sCl_an_setAn, sCl_xr_setAn, sCl_kd_setXr, sCl_ac_setXr, sCl_bg_setXr, sCl_oc_setXr, sCl_la_setXr, sCl_wt_setXr, sCl_wk_setXr, sCl_tr_setXr, sCl_row_setXr, sCl_dg_setXr, sCl_an_setXr, sCl_xr_setXr, sCl_kd_setWt, sCl_ac_setWt, sCl_bg_setWt, sCl_oc_setWt, sCl_la_setWt, sCl_wt_setWt, sCl_wk_setWt, sCl_tr_setWt, sCl_row_setWt, sCl_dg_setWt, sCl_an_setWt, sCl_xr_setWt, sCl_kd_setBg, sCl_ac_setBg, sCl_bg_setBg, sCl_oc_setBg, sCl_la_setBg, sCl_wt_setBg, sCl_wk_setBg, sCl_tr_setBg, sCl_row_setBg, sCl_dg_setBg, sCl_an_setBg, sCl_xr_setBg, sCl_kd_new, sCl_ac_new, sCl_bg_new, sCl_oc_new, sCl_la_new, sCl_wt_new, sCl_wk_new, sCl_tr_new, sCl_row_new, sCl_dg_new, sCl_an_new, sCl_xr_new], b5, ?_, ?_, b8, b9, b10, b11⟩, fun a ha => ?_⟩
      · simp [cs_at, sCl_kd_fin, sCl_ac_fin, sCl_bg_fin, sCl_oc_fin, sCl_la_fin, sCl_wt_fin, sCl_wk_fin, sCl_tr_fin, sCl_row_fin, sCl_dg_fin, sCl_an_fin, sCl_xr_fin, sCl_kd_setRow, sCl_ac_setRow, sCl_bg_setRow, sCl_oc_setRow, sCl_la_setRow, sCl_wt_setRow, sCl_wk_setRow, sCl_tr_setRow, sCl_row_setRow, sCl_dg_setRow, sCl_an_setRow, sCl_xr_setRow, sCl_kd_setDg, sCl_ac_setDg, sCl_bg_setDg, sCl_oc_setDg, sCl_la_setDg, sCl_wt_setDg, sCl_wk_setDg, sCl_tr_setDg, sCl_row_setDg, sCl_dg_setDg, sCl_an_setDg, sCl_xr_setDg, sCl_kd_setAn, sCl_ac_setAn, sCl_bg_setAn, sCl_oc_setAn, sCl_la_setAn, sCl_wt_setAn, sCl_wk_setAn, sCl_tr_setAn, sCl_row_setAn, sCl_dg_setAn, sCl_an_setAn, sCl_xr_setAn, sCl_kd_setXr, sCl_ac_setXr, sCl_bg_setXr, sCl_oc_setXr, sCl_la_setXr, sCl_wt_setXr, sCl_wk_setXr, sCl_tr_setXr, sCl_row_setXr, sCl_dg_setXr, sCl_an_setXr, sCl_xr_setXr, sCl_kd_setWt, sCl_ac_setWt, sCl_bg_setWt, sCl_oc_setWt, sCl_la_setWt, sCl_wt_setWt, sCl_wk_setWt, sCl_tr_setWt, sCl_row_setWt, sCl_dg_setWt, sCl_an_setWt, sCl_xr_setWt, sCl_kd_setBg, sCl_ac_setBg, sCl_bg_setBg, sCl_oc_setBg, sCl_la_setBg, sCl_wt_setBg, sCl_wk_setBg, sCl_tr_setBg, sCl_row_setBg, sCl_dg_setBg, sCl_an_setBg, sCl_xr_setBg, sCl_kd_new, sCl_ac_new, sCl_bg_new, sCl_oc_new, sCl_la_new, sCl_wt_new, sCl_wk_new, sCl_tr_new, sCl_row_new, sCl_dg_new, sCl_an_new, sCl_xr_new, pm_u, s0, s1, s3, s5, s7, s11, s13, t2, t14]
      · (repeat (rw [am_u_ne _ _ (by omega)]))
      · (repeat (rw [am_u_ne _ _ (by omega)]))
      · intro i hi
        (repeat (rw [am_u_ne _ _ (by omega)]))
        exact h4 i hi
      · show C.tr + 1 ≤ 5
        omega
      · intro hh
        exact absurd hh (px_neg (n := 5) (by omega) (by omega))
      · rw [am_u_ne _ _ (by omega), am_u_ne _ _ (by omega)]
    obtain ⟨I', g1, g2, g3⟩ := hfin
    simp (disch := first | assumption | omega) only [pm_gI, pm_gJ, pm_gR, pm_pI, pm_pZ, pm_pJ, pm_ldI, pm_ldJ, pm_ldR, pm_stI, pm_stZ, pm_stJ, pm_pZ0, pm_pZ1, pm_stZ0, pm_stZ1, pm_len, pm_cpyI, pm_cpyJ, pm_is, Option.bind_some, pm_u, pm_ur, pm_lt, pm_le, pm_eq, pm_ne, pm_add, pm_sub, pm_z0, pm_z1, cond_true, cond_false, decide_true, decide_false, not_false_eq_true, not_true_eq_false, reduceIte, Nat.reduceEqDiff, Nat.add_eq_left, Nat.left_eq_add, Nat.add_left_cancel_iff, Nat.one_ne_zero, am_cs, s8, c, g1]
    exact ⟨I', rfl, g2, f0.trans g3⟩
theorem kc_err (L : kl_ok K) (M : cl_ok K k) (N : xl_ok K x) (hk : 15 ≤ k) (hc : cc_at I J k m C) (hx : xf_at I x m f pl dat) (ho : C.oc = 0) (hck : I 13 3 = nI ck) (hck2 : ck ≤ 1000000) (d : Nat) :
    ∃ I' : pm_I, f_X1_takeError (d + 2) 13 k x (K, I, J) = some ((0, 0, none), (K, I', J)) ∧ cc_at I' J k m (so_err ck C dat) ∧ pm_fr I I' k 1 := by
  have h1 := xf_dataSize (J := J) N hx (d + 1)
  have h2 := xf_dataAt (J := J) (i := 0) N hx (by omega) d
  have h40 := hx.2.2.2.2.2.1
  have n0 := N.1
  have m0 := M.1
  have k0 := L.1
  rw [e_X1_takeError]
  unfold so_err
  by_cases c1 : dat.length = 1
  · have hb : dat.getD 0 0 < 256 := by
      have hmem : dat.getD 0 0 ∈ dat := by
        rw [List.getD_eq_getElem?_getD, List.getElem?_eq_getElem (by omega)]
        exact List.getElem_mem _
      exact hx.2.2.2.2.2.2.1 _ hmem
    rw [if_pos c1]
    rw [c1] at h1
    generalize dat.getD 0 0 = r at *
    by_cases c2 : r = 1
    · obtain ⟨I', g1, g2, g3⟩ := kc_wait L M hk hc ho hck hck2 d
      rw [if_pos c2]
      rw [c2] at h2
      simp (disch := first | assumption | omega) only [pm_gI, pm_gJ, pm_gR, pm_pI, pm_pZ, pm_pJ, pm_ldI, pm_ldJ, pm_ldR, pm_stI, pm_stZ, pm_stJ, pm_pZ0, pm_pZ1, pm_stZ0, pm_stZ1, pm_len, pm_cpyI, pm_cpyJ, pm_is, Option.bind_some, pm_u, pm_ur, pm_lt, pm_le, pm_eq, pm_ne, pm_add, pm_sub, pm_z0, pm_z1, cond_true, cond_false, decide_true, decide_false, not_false_eq_true, not_true_eq_false, reduceIte, Nat.reduceEqDiff, Nat.add_eq_left, Nat.left_eq_add, Nat.add_left_cancel_iff, Nat.one_ne_zero, am_cs, h1, h2, g1]
      exact ⟨I', rfl, g2, g3⟩
    · rw [if_neg c2]
      by_cases c3 : r < 2
      · rw [if_neg (by omega)]
        simp (disch := first | assumption | omega) only [pm_gI, pm_gJ, pm_gR, pm_pI, pm_pZ, pm_pJ, pm_ldI, pm_ldJ, pm_ldR, pm_stI, pm_stZ, pm_stJ, pm_pZ0, pm_pZ1, pm_stZ0, pm_stZ1, pm_len, pm_cpyI, pm_cpyJ, pm_is, Option.bind_some, pm_u, pm_ur, pm_lt, pm_le, pm_eq, pm_ne, pm_add, pm_sub, pm_z0, pm_z1, cond_true, cond_false, decide_true, decide_false, not_false_eq_true, not_true_eq_false, reduceIte, Nat.reduceEqDiff, Nat.add_eq_left, Nat.left_eq_add, Nat.add_left_cancel_iff, Nat.one_ne_zero, am_cs, h1, h2, c2, c3]
        exact ⟨I, rfl, hc, pm_fr.refl _ _ _⟩
      · by_cases c4 : 4 < r
        · rw [if_neg (by omega)]
          simp (disch := first | assumption | omega) only [pm_gI, pm_gJ, pm_gR, pm_pI, pm_pZ, pm_pJ, pm_ldI, pm_ldJ, pm_ldR, pm_stI, pm_stZ, pm_stJ, pm_pZ0, pm_pZ1, pm_stZ0, pm_stZ1, pm_len, pm_cpyI, pm_cpyJ, pm_is, Option.bind_some, pm_u, pm_ur, pm_lt, pm_le, pm_eq, pm_ne, pm_add, pm_sub, pm_z0, pm_z1, cond_true, cond_false, decide_true, decide_false, not_false_eq_true, not_true_eq_false, reduceIte, Nat.reduceEqDiff, Nat.add_eq_left, Nat.left_eq_add, Nat.add_left_cancel_iff, Nat.one_ne_zero, am_cs, h1, h2, c2, c3, c4]
          exact ⟨I, rfl, hc, pm_fr.refl _ _ _⟩
        · obtain ⟨I', g1, g2, g3⟩ := cc_finish M hc (-nI r) (px_neg (by omega) (by omega)) (d + 1)
          rw [if_pos (by omega)]
          simp (disch := first | assumption | omega) only [pm_gI, pm_gJ, pm_gR, pm_pI, pm_pZ, pm_pJ, pm_ldI, pm_ldJ, pm_ldR, pm_stI, pm_stZ, pm_stJ, pm_pZ0, pm_pZ1, pm_stZ0, pm_stZ1, pm_len, pm_cpyI, pm_cpyJ, pm_is, Option.bind_some, pm_u, pm_ur, pm_lt, pm_le, pm_eq, pm_ne, pm_add, pm_sub, pm_z0, pm_z1, cond_true, cond_false, decide_true, decide_false, not_false_eq_true, not_true_eq_false, reduceIte, Nat.reduceEqDiff, Nat.add_eq_left, Nat.left_eq_add, Nat.add_left_cancel_iff, Nat.one_ne_zero, am_cs, h1, h2, c2, c3, c4, g1]
          exact ⟨I', rfl, g2, g3⟩
  · rw [if_neg c1]
    simp (disch := first | assumption | omega) only [pm_gI, pm_gJ, pm_gR, pm_pI, pm_pZ, pm_pJ, pm_ldI, pm_ldJ, pm_ldR, pm_stI, pm_stZ, pm_stJ, pm_pZ0, pm_pZ1, pm_stZ0, pm_stZ1, pm_len, pm_cpyI, pm_cpyJ, pm_is, Option.bind_some, pm_u, pm_ur, pm_lt, pm_le, pm_eq, pm_ne, pm_add, pm_sub, pm_z0, pm_z1, cond_true, cond_false, decide_true, decide_false, not_false_eq_true, not_true_eq_false, reduceIte, Nat.reduceEqDiff, Nat.add_eq_left, Nat.left_eq_add, Nat.add_left_cancel_iff, Nat.one_ne_zero, am_cs, h1, c1]
    exact ⟨I, rfl, hc, pm_fr.refl _ _ _⟩
theorem kc_find (L : kl_ok K) (M : cl_ok K k) (N : xl_ok K x) (hc : cc_at I J k m C) (hkd : C.kd = 0) (hx : xf_at I x m f pl dat) (d : Nat) :
    ∃ I' : pm_I, f_X1_actForFind (d + 2) 13 k x (K, I, J) = some ((0, 0, none), (K, I', J)) ∧ cc_at I' J k m (so_find C f pl dat) ∧ pm_fr I I' k 5 := by
  have h0 := xf_kind (J := J) N hx (d + 1)
  have h1 := xf_dataSize (J := J) N hx (d + 1)
  have h2 := xf_dataAt (J := J) (i := 0) N hx (by omega) d
  have h3 := xf_place (J := J) N hx (d + 1)
  obtain ⟨-, -, -, -, -, h40, hbd, hcb, hfb, hpb⟩ := hx
  have n0 := N.1
  have m0 := M.1
  rw [e_X1_actForFind]
  unfold so_find
  by_cases c0 : f = 10
  · by_cases c1 : dat.length = 1
    · have hb : dat.getD 0 0 < 256 := by
        have hmem : dat.getD 0 0 ∈ dat := by
          rw [List.getD_eq_getElem?_getD, List.getElem?_eq_getElem (by omega)]
          exact List.getElem_mem _
        exact hbd _ hmem
      rw [if_pos ⟨c0, c1⟩]
      rw [c0] at h0
      rw [c1] at h1
      generalize dat.getD 0 0 = r at *
      by_cases c2 : r = 0
      · obtain ⟨I', g1, g2, g3⟩ := cc_take M hc hkd (pl := pl) (t := 0) hpb (by omega) d
        rw [if_pos c2]
        rw [c2] at h2
        simp (disch := first | assumption | omega) only [pm_gI, pm_gJ, pm_gR, pm_pI, pm_pZ, pm_pJ, pm_ldI, pm_ldJ, pm_ldR, pm_stI, pm_stZ, pm_stJ, pm_pZ0, pm_pZ1, pm_stZ0, pm_stZ1, pm_len, pm_cpyI, pm_cpyJ, pm_is, Option.bind_some, pm_u, pm_ur, pm_lt, pm_le, pm_eq, pm_ne, pm_add, pm_sub, pm_z0, pm_z1, cond_true, cond_false, decide_true, decide_false, not_false_eq_true, not_true_eq_false, reduceIte, Nat.reduceEqDiff, Nat.add_eq_left, Nat.left_eq_add, Nat.add_left_cancel_iff, Nat.one_ne_zero, am_cs, h0, h1, h2, h3, g1]
        exact ⟨I', rfl, g2, g3⟩
      · obtain ⟨I', g1, g2, g3⟩ := cc_take M hc hkd (pl := pl) (t := 1) hpb (by omega) d
        rw [if_neg c2]
        simp (disch := first | assumption | omega) only [pm_gI, pm_gJ, pm_gR, pm_pI, pm_pZ, pm_pJ, pm_ldI, pm_ldJ, pm_ldR, pm_stI, pm_stZ, pm_stJ, pm_pZ0, pm_pZ1, pm_stZ0, pm_stZ1, pm_len, pm_cpyI, pm_cpyJ, pm_is, Option.bind_some, pm_u, pm_ur, pm_lt, pm_le, pm_eq, pm_ne, pm_add, pm_sub, pm_z0, pm_z1, cond_true, cond_false, decide_true, decide_false, not_false_eq_true, not_true_eq_false, reduceIte, Nat.reduceEqDiff, Nat.add_eq_left, Nat.left_eq_add, Nat.add_left_cancel_iff, Nat.one_ne_zero, am_cs, h0, h1, h2, h3, c2, g1]
        exact ⟨I', rfl, g2, g3⟩
    · rw [if_neg (fun h => c1 h.2)]
      simp (disch := first | assumption | omega) only [pm_gI, pm_gJ, pm_gR, pm_pI, pm_pZ, pm_pJ, pm_ldI, pm_ldJ, pm_ldR, pm_stI, pm_stZ, pm_stJ, pm_pZ0, pm_pZ1, pm_stZ0, pm_stZ1, pm_len, pm_cpyI, pm_cpyJ, pm_is, Option.bind_some, pm_u, pm_ur, pm_lt, pm_le, pm_eq, pm_ne, pm_add, pm_sub, pm_z0, pm_z1, cond_true, cond_false, decide_true, decide_false, not_false_eq_true, not_true_eq_false, reduceIte, Nat.reduceEqDiff, Nat.add_eq_left, Nat.left_eq_add, Nat.add_left_cancel_iff, Nat.one_ne_zero, am_cs, h0, h1, c0, c1]
      exact ⟨I, rfl, hc, pm_fr.refl _ _ _⟩
  · rw [if_neg (fun h => c0 h.1)]
    simp (disch := first | assumption | omega) only [pm_gI, pm_gJ, pm_gR, pm_pI, pm_pZ, pm_pJ, pm_ldI, pm_ldJ, pm_ldR, pm_stI, pm_stZ, pm_stJ, pm_pZ0, pm_pZ1, pm_stZ0, pm_stZ1, pm_len, pm_cpyI, pm_cpyJ, pm_is, Option.bind_some, pm_u, pm_ur, pm_lt, pm_le, pm_eq, pm_ne, pm_add, pm_sub, pm_z0, pm_z1, cond_true, cond_false, decide_true, decide_false, not_false_eq_true, not_true_eq_false, reduceIte, Nat.reduceEqDiff, Nat.add_eq_left, Nat.left_eq_add, Nat.add_left_cancel_iff, Nat.one_ne_zero, am_cs, h0, c0]
    exact ⟨I, rfl, hc, pm_fr.refl _ _ _⟩
theorem kc_write (L : kl_ok K) (M : cl_ok K k) (N : xl_ok K x) (hk : 15 ≤ k) (hm : m < 256) (hw : wy_at I 1 p W) (hc : cc_at I J k m C) (hkd : C.kd = 1) (hx : xf_at I x m f pl dat) (d : Nat) :
    ∃ I' : pm_I, f_X1_actForWrite (d + 3) 13 k x (K, I, J) = some ((0, 0, none), (K, I', J)) ∧ wy_at I' 1 p (so_heedW p m C W f pl) ∧ cc_at I' J k m (if f = 11 then C.fin (nI 1) else C) ∧ kf_at I I' k := by
  have h0 := xf_kind (J := J) N hx (d + 2)
  have h3 := xf_place (J := J) N hx (d + 2)
  obtain ⟨-, -, -, -, -, h40, hbd, hcb, hfb, hpb⟩ := hx
  have n0 := N.1
  have m0 := M.1
  have m9 := M.2.2.2.2.1
  have mr := M.2.1.1
  have s0 := hc.1.1
  have hr := hc.2.1.1
  have hr2 := hc.2.1.2.1
  have k0 := L.1
  have k2 := L.2.2.1
  have k4 := L.2.2.2.2.1
  have k4' := k4.1
  rw [e_X1_actForWrite]
  unfold so_heedW
  by_cases c0 : f = 11
  · obtain ⟨I', g1, g2, g3⟩ := cc_finish M hc (nI 1) (by decide +kernel) (d + 2)
    rw [if_pos c0, if_neg (by omega)]
    rw [c0] at h0
    simp (disch := first | assumption | omega) only [pm_gI, pm_gJ, pm_gR, pm_pI, pm_pZ, pm_pJ, pm_ldI, pm_ldJ, pm_ldR, pm_stI, pm_stZ, pm_stJ, pm_pZ0, pm_pZ1, pm_stZ0, pm_stZ1, pm_len, pm_cpyI, pm_cpyJ, pm_is, Option.bind_some, pm_u, pm_ur, pm_lt, pm_le, pm_eq, pm_ne, pm_add, pm_sub, pm_z0, pm_z1, cond_true, cond_false, decide_true, decide_false, not_false_eq_true, not_true_eq_false, reduceIte, Nat.reduceEqDiff, Nat.add_eq_left, Nat.left_eq_add, Nat.add_left_cancel_iff, Nat.one_ne_zero, am_cs, h0, g1]
    exact ⟨I', rfl, wy_call hw hk g3, g2, kf_call g3 (by omega) (by omega)⟩
  · rw [if_neg c0]
    by_cases c1 : f = 12
    · by_cases c2 : C.row.length < pl
      · rw [if_neg (by omega)]
        simp (disch := first | assumption | omega) only [pm_gI, pm_gJ, pm_gR, pm_pI, pm_pZ, pm_pJ, pm_ldI, pm_ldJ, pm_ldR, pm_stI, pm_stZ, pm_stJ, pm_pZ0, pm_pZ1, pm_stZ0, pm_stZ1, pm_len, pm_cpyI, pm_cpyJ, pm_is, Option.bind_some, pm_u, pm_ur, pm_lt, pm_le, pm_eq, pm_ne, pm_add, pm_sub, pm_z0, pm_z1, cond_true, cond_false, decide_true, decide_false, not_false_eq_true, not_true_eq_false, reduceIte, Nat.reduceEqDiff, Nat.add_eq_left, Nat.left_eq_add, Nat.add_left_cancel_iff, Nat.one_ne_zero, am_cs, h0, c0, c1, h3, hr, c2]
        exact ⟨I, rfl, hw, hc, kf_at.refl _ _⟩
      · obtain ⟨I', g1, g2, g3⟩ := wy_sendPieces (J := J) (i := pl) k4 hw M.2.1 hc.2.1 (by omega) hm hpb d
        rw [if_pos ⟨hkd, c1, by omega⟩]
        simp (disch := first | assumption | omega) only [pm_gI, pm_gJ, pm_gR, pm_pI, pm_pZ, pm_pJ, pm_ldI, pm_ldJ, pm_ldR, pm_stI, pm_stZ, pm_stJ, pm_pZ0, pm_pZ1, pm_stZ0, pm_stZ1, pm_len, pm_cpyI, pm_cpyJ, pm_is, Option.bind_some, pm_u, pm_ur, pm_lt, pm_le, pm_eq, pm_ne, pm_add, pm_sub, pm_z0, pm_z1, cond_true, cond_false, decide_true, decide_false, not_false_eq_true, not_true_eq_false, reduceIte, Nat.reduceEqDiff, Nat.add_eq_left, Nat.left_eq_add, Nat.add_left_cancel_iff, Nat.one_ne_zero, am_cs, h0, c0, c1, h3, hr, c2, s0, k4', g1]
        exact ⟨I', rfl, g2, cc_way hc hk g3, kf_way g3⟩
    · rw [if_neg (fun h => c1 h.2.1)]
      simp (disch := first | assumption | omega) only [pm_gI, pm_gJ, pm_gR, pm_pI, pm_pZ, pm_pJ, pm_ldI, pm_ldJ, pm_ldR, pm_stI, pm_stZ, pm_stJ, pm_pZ0, pm_pZ1, pm_stZ0, pm_stZ1, pm_len, pm_cpyI, pm_cpyJ, pm_is, Option.bind_some, pm_u, pm_ur, pm_lt, pm_le, pm_eq, pm_ne, pm_add, pm_sub, pm_z0, pm_z1, cond_true, cond_false, decide_true, decide_false, not_false_eq_true, not_true_eq_false, reduceIte, Nat.reduceEqDiff, Nat.add_eq_left, Nat.left_eq_add, Nat.add_left_cancel_iff, Nat.one_ne_zero, am_cs, h0, c0, c1]
      exact ⟨I, rfl, hw, hc, kf_at.refl _ _⟩
theorem kc_read (L : kl_ok K) (M : cl_ok K k) (N : xl_ok K x) (hk : 15 ≤ k) (hx5 : x + 2 ≤ k) (hc : cc_at I J k m C) (hx : xf_at I x m f pl dat) (ho : C.oc = 0) (hck : I 13 3 = nI ck) (hck2 : ck ≤ 1000000) (d : Nat) :
    ∃ I' : pm_I, f_X1_actForRead (d + 3) 13 k x (K, I, J) = some ((0, 0, none), (K, I', J)) ∧ cc_at I' J k m (so_read ck C f pl dat) ∧ pm_fr I I' k 5 := by
  have h0 := xf_kind (J := J) N hx (d + 2)
  have h3 := xf_place (J := J) N hx (d + 2)
  have hdig := cc_digestAt M hc (nI 0) (d + 1)
  have hrd := rc_digest (J := J) M.2.1 hc.2.1 (d + 2)
  have hx' := hx
  obtain ⟨-, -, -, -, -, h40, hbd, hcb, hfb, hpb⟩ := hx
  have n0 := N.1
  have m0 := M.1
  have m9 := M.2.2.2.2.1
  have mr := M.2.1.1
  have hr := hc.2.1.1
  have hr2 := hc.2.1.2.1
  have k0 := L.1
  rw [e_X1_actForRead]
  unfold so_read
  by_cases c0 : f = 7
  · obtain ⟨I', g1, g2, g3⟩ := rc_piece (J := J) M.2.1 N (by omega) hc.2.1 hx' d
    rw [if_pos c0]
    rw [c0] at h0
    simp (disch := first | assumption | omega) only [pm_gI, pm_gJ, pm_gR, pm_pI, pm_pZ, pm_pJ, pm_ldI, pm_ldJ, pm_ldR, pm_stI, pm_stZ, pm_stJ, pm_pZ0, pm_pZ1, pm_stZ0, pm_stZ1, pm_len, pm_cpyI, pm_cpyJ, pm_is, Option.bind_some, pm_u, pm_ur, pm_lt, pm_le, pm_eq, pm_ne, pm_add, pm_sub, pm_z0, pm_z1, cond_true, cond_false, decide_true, decide_false, not_false_eq_true, not_true_eq_false, reduceIte, Nat.reduceEqDiff, Nat.add_eq_left, Nat.left_eq_add, Nat.add_left_cancel_iff, Nat.one_ne_zero, am_cs, h0, g1]
    obtain ⟨q1, q2, q3, q4, q5⟩ := hc
    refine ⟨I', rfl, ⟨?_, g2, q3, ?_, q5⟩, g3.mono (by omega) (by omega)⟩
    · rw [g3 k (by omega)]
      exact q1
    · rw [g3 (k + 4) (by omega)]
      exact q4
  · rw [if_neg c0]
    by_cases c1 : f = 8
    · rw [if_pos c1]
      rw [c1] at h0
      by_cases c2 : pl = C.row.length
      · rw [if_pos c2]
        rw [c2] at h3
        by_cases c3 : sd_dig C.row = C.digAt (nI 0)
        · obtain ⟨I', g1, g2, g3⟩ := cc_finish M hc (nI 1) (by decide +kernel) (d + 2)
          rw [if_pos c3]
          simp (disch := first | assumption | omega) only [pm_gI, pm_gJ, pm_gR, pm_pI, pm_pZ, pm_pJ, pm_ldI, pm_ldJ, pm_ldR, pm_stI, pm_stZ, pm_stJ, pm_pZ0, pm_pZ1, pm_stZ0, pm_stZ1, pm_len, pm_cpyI, pm_cpyJ, pm_is, Option.bind_some, pm_u, pm_ur, pm_lt, pm_le, pm_eq, pm_ne, pm_add, pm_sub, pm_z0, pm_z1, cond_true, cond_false, decide_true, decide_false, not_false_eq_true, not_true_eq_false, reduceIte, Nat.reduceEqDiff, Nat.add_eq_left, Nat.left_eq_add, Nat.add_left_cancel_iff, Nat.one_ne_zero, am_cs, h0, h3, hr, hrd, hdig, px_cmp, decide_not, c3, g1]
          exact ⟨I', rfl, g2, g3.mono (by omega) (by omega)⟩
        · obtain ⟨I', g1, g2, g3⟩ := cc_finish M hc (-nI 3) (px_neg (by omega) (by omega)) (d + 2)
          rw [if_neg c3]
          simp (disch := first | assumption | omega) only [pm_gI, pm_gJ, pm_gR, pm_pI, pm_pZ, pm_pJ, pm_ldI, pm_ldJ, pm_ldR, pm_stI, pm_stZ, pm_stJ, pm_pZ0, pm_pZ1, pm_stZ0, pm_stZ1, pm_len, pm_cpyI, pm_cpyJ, pm_is, Option.bind_some, pm_u, pm_ur, pm_lt, pm_le, pm_eq, pm_ne, pm_add, pm_sub, pm_z0, pm_z1, cond_true, cond_false, decide_true, decide_false, not_false_eq_true, not_true_eq_false, reduceIte, Nat.reduceEqDiff, Nat.add_eq_left, Nat.left_eq_add, Nat.add_left_cancel_iff, Nat.one_ne_zero, am_cs, h0, h3, hr, hrd, hdig, px_cmp, decide_not, c3, g1]
          exact ⟨I', rfl, g2, g3.mono (by omega) (by omega)⟩
      · obtain ⟨I', g1, g2, g3⟩ := kc_wait L M hk hc ho hck hck2 (d + 1)
        rw [if_neg c2]
        simp (disch := first | assumption | omega) only [pm_gI, pm_gJ, pm_gR, pm_pI, pm_pZ, pm_pJ, pm_ldI, pm_ldJ, pm_ldR, pm_stI, pm_stZ, pm_stJ, pm_pZ0, pm_pZ1, pm_stZ0, pm_stZ1, pm_len, pm_cpyI, pm_cpyJ, pm_is, Option.bind_some, pm_u, pm_ur, pm_lt, pm_le, pm_eq, pm_ne, pm_add, pm_sub, pm_z0, pm_z1, cond_true, cond_false, decide_true, decide_false, not_false_eq_true, not_true_eq_false, reduceIte, Nat.reduceEqDiff, Nat.add_eq_left, Nat.left_eq_add, Nat.add_left_cancel_iff, Nat.one_ne_zero, am_cs, h0, h3, hr, c2, g1]
        exact ⟨I', rfl, g2, g3.mono (by omega) (by omega)⟩
    · rw [if_neg c1]
      simp (disch := first | assumption | omega) only [pm_gI, pm_gJ, pm_gR, pm_pI, pm_pZ, pm_pJ, pm_ldI, pm_ldJ, pm_ldR, pm_stI, pm_stZ, pm_stJ, pm_pZ0, pm_pZ1, pm_stZ0, pm_stZ1, pm_len, pm_cpyI, pm_cpyJ, pm_is, Option.bind_some, pm_u, pm_ur, pm_lt, pm_le, pm_eq, pm_ne, pm_add, pm_sub, pm_z0, pm_z1, cond_true, cond_false, decide_true, decide_false, not_false_eq_true, not_true_eq_false, reduceIte, Nat.reduceEqDiff, Nat.add_eq_left, Nat.left_eq_add, Nat.add_left_cancel_iff, Nat.one_ne_zero, am_cs, h0, c0, c1]
      exact ⟨I, rfl, hc, pm_fr.refl _ _ _⟩
theorem kc_ask (L : kl_ok K) (M : cl_ok K k) (N : xl_ok K x) (hk : 15 ≤ k) (hc : cc_at I J k m C) (hx : xf_at I x m f pl dat) (ho : C.oc = 0) (hck : I 13 3 = nI ck) (hck2 : ck ≤ 1000000) (d : Nat) :
    ∃ (I' : pm_I) (J' : pm_J), f_X1_actForAsk (d + 3) 13 k x (K, I, J) = some ((0, 0, none), (K, I', J')) ∧ cc_at I' J' k m (so_ask ck C f pl dat) ∧ pm_fr I I' k 5 ∧ pm_fr J J' k 5 := by
  have h0 := xf_kind (J := J) N hx (d + 2)
  have h3 := xf_place (J := J) N hx (d + 2)
  have hn := xf_hasNumber (J := J) N hx (d + 1)
  have hx' := hx
  obtain ⟨-, -, -, -, -, h40, hbd, hcb, hfb, hpb⟩ := hx
  have n0 := N.1
  have m0 := M.1
  have s11 := hc.1.2.2.2.2.2.2.2.2.1
  have b8 := hc.2.2.2.2.2.2.2.2.2.2.2.1
  have k0 := L.1
  rw [e_X1_actForAsk]
  unfold so_ask
  by_cases c0 : f = 5
  · rw [if_pos c0]
    rw [c0] at h0
    by_cases c1 : dat.length = 8
    · have hnum := xf_numberData (J := J) N hx' c1 d
      rw [if_pos c1] at hn
      by_cases c2 : pl = C.dg.length
      · rw [c2] at h3
        by_cases c3 : C.dg.length < 3
        · obtain ⟨I', J', g1, g2, g3, g4⟩ := cc_addDigest M hc (sd_num dat) 3 (by omega) c3 (d + 2)
          rw [if_pos ⟨c1, c2, c3⟩]
          simp (disch := first | assumption | omega) only [pm_gI, pm_gJ, pm_gR, pm_pI, pm_pZ, pm_pJ, pm_ldI, pm_ldJ, pm_ldR, pm_stI, pm_stZ, pm_stJ, pm_pZ0, pm_pZ1, pm_stZ0, pm_stZ1, pm_len, pm_cpyI, pm_cpyJ, pm_is, Option.bind_some, pm_u, pm_ur, pm_lt, pm_le, pm_eq, pm_ne, pm_add, pm_sub, pm_z0, pm_z1, cond_true, cond_false, decide_true, decide_false, not_false_eq_true, not_true_eq_false, reduceIte, Nat.reduceEqDiff, Nat.add_eq_left, Nat.left_eq_add, Nat.add_left_cancel_iff, Nat.one_ne_zero, am_cs, h0, hn, h3, s11, hnum, g1]
          exact ⟨I', J', rfl, g2, g3.mono (by omega) (by omega), g4.mono (by omega) (by omega)⟩
        · have g1 := cc_addDigest0 M hc (sd_num dat) 3 (by omega) (by omega) (d + 2)
          rw [if_neg (fun h => c3 h.2.2)]
          simp (disch := first | assumption | omega) only [pm_gI, pm_gJ, pm_gR, pm_pI, pm_pZ, pm_pJ, pm_ldI, pm_ldJ, pm_ldR, pm_stI, pm_stZ, pm_stJ, pm_pZ0, pm_pZ1, pm_stZ0, pm_stZ1, pm_len, pm_cpyI, pm_cpyJ, pm_is, Option.bind_some, pm_u, pm_ur, pm_lt, pm_le, pm_eq, pm_ne, pm_add, pm_sub, pm_z0, pm_z1, cond_true, cond_false, decide_true, decide_false, not_false_eq_true, not_true_eq_false, reduceIte, Nat.reduceEqDiff, Nat.add_eq_left, Nat.left_eq_add, Nat.add_left_cancel_iff, Nat.one_ne_zero, am_cs, h0, hn, h3, s11, hnum, g1]
          exact ⟨I, J, rfl, hc, pm_fr.refl _ _ _, pm_fr.refl _ _ _⟩
      · rw [if_neg (fun h => c2 h.2.1)]
        simp (disch := first | assumption | omega) only [pm_gI, pm_gJ, pm_gR, pm_pI, pm_pZ, pm_pJ, pm_ldI, pm_ldJ, pm_ldR, pm_stI, pm_stZ, pm_stJ, pm_pZ0, pm_pZ1, pm_stZ0, pm_stZ1, pm_len, pm_cpyI, pm_cpyJ, pm_is, Option.bind_some, pm_u, pm_ur, pm_lt, pm_le, pm_eq, pm_ne, pm_add, pm_sub, pm_z0, pm_z1, cond_true, cond_false, decide_true, decide_false, not_false_eq_true, not_true_eq_false, reduceIte, Nat.reduceEqDiff, Nat.add_eq_left, Nat.left_eq_add, Nat.add_left_cancel_iff, Nat.one_ne_zero, am_cs, h0, hn, h3, s11, c2]
        exact ⟨I, J, rfl, hc, pm_fr.refl _ _ _, pm_fr.refl _ _ _⟩
    · rw [if_neg c1] at hn
      rw [if_neg (fun h => c1 h.1)]
      simp (disch := first | assumption | omega) only [pm_gI, pm_gJ, pm_gR, pm_pI, pm_pZ, pm_pJ, pm_ldI, pm_ldJ, pm_ldR, pm_stI, pm_stZ, pm_stJ, pm_pZ0, pm_pZ1, pm_stZ0, pm_stZ1, pm_len, pm_cpyI, pm_cpyJ, pm_is, Option.bind_some, pm_u, pm_ur, pm_lt, pm_le, pm_eq, pm_ne, pm_add, pm_sub, pm_z0, pm_z1, cond_true, cond_false, decide_true, decide_false, not_false_eq_true, not_true_eq_false, reduceIte, Nat.reduceEqDiff, Nat.add_eq_left, Nat.left_eq_add, Nat.add_left_cancel_iff, Nat.one_ne_zero, am_cs, h0, hn]
      exact ⟨I, J, rfl, hc, pm_fr.refl _ _ _, pm_fr.refl _ _ _⟩
  · rw [if_neg c0]
    by_cases c1 : f = 6
    · rw [if_pos c1]
      rw [c1] at h0
      by_cases c2 : pl = C.dg.length
      · obtain ⟨I', g1, g2, g3⟩ := cc_finish M hc (nI 1) (by decide +kernel) (d + 2)
        rw [if_pos c2]
        rw [c2] at h3
        simp (disch := first | assumption | omega) only [pm_gI, pm_gJ, pm_gR, pm_pI, pm_pZ, pm_pJ, pm_ldI, pm_ldJ, pm_ldR, pm_stI, pm_stZ, pm_stJ, pm_pZ0, pm_pZ1, pm_stZ0, pm_stZ1, pm_len, pm_cpyI, pm_cpyJ, pm_is, Option.bind_some, pm_u, pm_ur, pm_lt, pm_le, pm_eq, pm_ne, pm_add, pm_sub, pm_z0, pm_z1, cond_true, cond_false, decide_true, decide_false, not_false_eq_true, not_true_eq_false, reduceIte, Nat.reduceEqDiff, Nat.add_eq_left, Nat.left_eq_add, Nat.add_left_cancel_iff, Nat.one_ne_zero, am_cs, h0, h3, s11, g1]
        exact ⟨I', J, rfl, g2, g3.mono (by omega) (by omega), pm_fr.refl _ _ _⟩
      · obtain ⟨I', g1, g2, g3⟩ := kc_wait L M hk hc ho hck hck2 (d + 1)
        rw [if_neg c2]
        simp (disch := first | assumption | omega) only [pm_gI, pm_gJ, pm_gR, pm_pI, pm_pZ, pm_pJ, pm_ldI, pm_ldJ, pm_ldR, pm_stI, pm_stZ, pm_stJ, pm_pZ0, pm_pZ1, pm_stZ0, pm_stZ1, pm_len, pm_cpyI, pm_cpyJ, pm_is, Option.bind_some, pm_u, pm_ur, pm_lt, pm_le, pm_eq, pm_ne, pm_add, pm_sub, pm_z0, pm_z1, cond_true, cond_false, decide_true, decide_false, not_false_eq_true, not_true_eq_false, reduceIte, Nat.reduceEqDiff, Nat.add_eq_left, Nat.left_eq_add, Nat.add_left_cancel_iff, Nat.one_ne_zero, am_cs, h0, h3, s11, c2, g1]
        exact ⟨I', J, rfl, g2, g3.mono (by omega) (by omega), pm_fr.refl _ _ _⟩
    · rw [if_neg c1]
      simp (disch := first | assumption | omega) only [pm_gI, pm_gJ, pm_gR, pm_pI, pm_pZ, pm_pJ, pm_ldI, pm_ldJ, pm_ldR, pm_stI, pm_stZ, pm_stJ, pm_pZ0, pm_pZ1, pm_stZ0, pm_stZ1, pm_len, pm_cpyI, pm_cpyJ, pm_is, Option.bind_some, pm_u, pm_ur, pm_lt, pm_le, pm_eq, pm_ne, pm_add, pm_sub, pm_z0, pm_z1, cond_true, cond_false, decide_true, decide_false, not_false_eq_true, not_true_eq_false, reduceIte, Nat.reduceEqDiff, Nat.add_eq_left, Nat.left_eq_add, Nat.add_left_cancel_iff, Nat.one_ne_zero, am_cs, h0, c0, c1]
      exact ⟨I, J, rfl, hc, pm_fr.refl _ _ _, pm_fr.refl _ _ _⟩
theorem kc_tell (L : kl_ok K) (M : cl_ok K k) (N : xl_ok K x) (hc : cc_at I J k m C) (hx : xf_at I x m f pl dat) (d : Nat) :
    ∃ I' : pm_I, f_X1_actForTell (d + 3) 13 k x (K, I, J) = some ((0, 0, none), (K, I', J)) ∧ cc_at I' J k m (if f = 11 then C.fin (nI 1) else C) ∧ pm_fr I I' k 5 := by
  have h0 := xf_kind (J := J) N hx (d + 2)
  obtain ⟨-, -, -, -, -, h40, hbd, hcb, hfb, hpb⟩ := hx
  have n0 := N.1
  have m0 := M.1
  rw [e_X1_actForTell]
  by_cases c0 : f = 11
  · obtain ⟨I', g1, g2, g3⟩ := cc_finish M hc (nI 1) (by decide +kernel) (d + 2)
    rw [if_pos c0]
    rw [c0] at h0
    simp (disch := first | assumption | omega) only [pm_gI, pm_gJ, pm_gR, pm_pI, pm_pZ, pm_pJ, pm_ldI, pm_ldJ, pm_ldR, pm_stI, pm_stZ, pm_stJ, pm_pZ0, pm_pZ1, pm_stZ0, pm_stZ1, pm_len, pm_cpyI, pm_cpyJ, pm_is, Option.bind_some, pm_u, pm_ur, pm_lt, pm_le, pm_eq, pm_ne, pm_add, pm_sub, pm_z0, pm_z1, cond_true, cond_false, decide_true, decide_false, not_false_eq_true, not_true_eq_false, reduceIte, Nat.reduceEqDiff, Nat.add_eq_left, Nat.left_eq_add, Nat.add_left_cancel_iff, Nat.one_ne_zero, am_cs, h0, g1]
    exact ⟨I', rfl, g2, g3.mono (by omega) (by omega)⟩
  · rw [if_neg c0]
    simp (disch := first | assumption | omega) only [pm_gI, pm_gJ, pm_gR, pm_pI, pm_pZ, pm_pJ, pm_ldI, pm_ldJ, pm_ldR, pm_stI, pm_stZ, pm_stJ, pm_pZ0, pm_pZ1, pm_stZ0, pm_stZ1, pm_len, pm_cpyI, pm_cpyJ, pm_is, Option.bind_some, pm_u, pm_ur, pm_lt, pm_le, pm_eq, pm_ne, pm_add, pm_sub, pm_z0, pm_z1, cond_true, cond_false, decide_true, decide_false, not_false_eq_true, not_true_eq_false, reduceIte, Nat.reduceEqDiff, Nat.add_eq_left, Nat.left_eq_add, Nat.add_left_cancel_iff, Nat.one_ne_zero, am_cs, h0, c0]
    exact ⟨I, rfl, hc, pm_fr.refl _ _ _⟩
end HED
