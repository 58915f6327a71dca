/-! THE SPEC'S CALL, and the class's call -/
/-- kind, action, begun, outcome, late at, waits, wakes at, tries, row, digests, answers, xor -/
abbrev sCl : Type := Nat × Int64 × Nat × Int32 × Nat × Nat × Nat × Nat × List Nat × List Int64 × (Nat → Nat) × Int64
def sCl.kd (C : sCl) : Nat := C.1
def sCl.ac (C : sCl) : Int64 := C.2.1
def sCl.bg (C : sCl) : Nat := C.2.2.1
def sCl.oc (C : sCl) : Int32 := C.2.2.2.1
def sCl.la (C : sCl) : Nat := C.2.2.2.2.1
def sCl.wt (C : sCl) : Nat := C.2.2.2.2.2.1
def sCl.wk (C : sCl) : Nat := C.2.2.2.2.2.2.1
def sCl.tr (C : sCl) : Nat := C.2.2.2.2.2.2.2.1
def sCl.row (C : sCl) : List Nat := C.2.2.2.2.2.2.2.2.1
def sCl.dg (C : sCl) : List Int64 := C.2.2.2.2.2.2.2.2.2.1
def sCl.an (C : sCl) : Nat → Nat := C.2.2.2.2.2.2.2.2.2.2.1
def sCl.xr (C : sCl) : Int64 := C.2.2.2.2.2.2.2.2.2.2.2
def sCl.new : sCl := (0, 0, 0, 0, 0, 0, 0, 0, [], [], fun _ => 0, 0)
def sCl.fin (C : sCl) (how : Int32) : sCl := (C.kd, C.ac, C.bg, how, C.la, 0, C.wk, C.tr, C.row, C.dg, C.an, C.xr)
def sCl.setRow (C : sCl) (row : List Nat) : sCl := (C.kd, C.ac, C.bg, C.oc, C.la, C.wt, C.wk, C.tr, row, C.dg, C.an, C.xr)
def sCl.setDg (C : sCl) (dg : List Int64) : sCl := (C.kd, C.ac, C.bg, C.oc, C.la, C.wt, C.wk, C.tr, C.row, dg, C.an, C.xr)
def sCl.setAn (C : sCl) (an : Nat → Nat) : sCl := (C.kd, C.ac, C.bg, C.oc, C.la, C.wt, C.wk, C.tr, C.row, C.dg, an, C.xr)
def sCl.setXr (C : sCl) (xr : Int64) : sCl := (C.kd, C.ac, C.bg, C.oc, C.la, C.wt, C.wk, C.tr, C.row, C.dg, C.an, xr)
def sCl.setWt (C : sCl) (wt wk tr : Nat) : sCl := (C.kd, C.ac, C.bg, C.oc, C.la, wt, wk, tr, C.row, C.dg, C.an, C.xr)
def sCl.setBg (C : sCl) (bg la : Nat) : sCl := (C.kd, C.ac, bg, C.oc, la, C.wt, C.wk, C.tr, C.row, C.dg, C.an, C.xr)
theorem sCl_kd_fin (C : sCl) (x1 : Int32) : (C.fin x1).kd = C.kd := rfl
theorem sCl_ac_fin (C : sCl) (x1 : Int32) : (C.fin x1).ac = C.ac := rfl
theorem sCl_bg_fin (C : sCl) (x1 : Int32) : (C.fin x1).bg = C.bg := rfl
theorem sCl_oc_fin (C : sCl) (x1 : Int32) : (C.fin x1).oc = x1 := rfl
theorem sCl_la_fin (C : sCl) (x1 : Int32) : (C.fin x1).la = C.la := rfl
theorem sCl_wt_fin (C : sCl) (x1 : Int32) : (C.fin x1).wt = 0 := rfl
theorem sCl_wk_fin (C : sCl) (x1 : Int32) : (C.fin x1).wk = C.wk := rfl
theorem sCl_tr_fin (C : sCl) (x1 : Int32) : (C.fin x1).tr = C.tr := rfl
theorem sCl_row_fin (C : sCl) (x1 : Int32) : (C.fin x1).row = C.row := rfl
theorem sCl_dg_fin (C : sCl) (x1 : Int32) : (C.fin x1).dg = C.dg := rfl
theorem sCl_an_fin (C : sCl) (x1 : Int32) : (C.fin x1).an = C.an := rfl
theorem sCl_xr_fin (C : sCl) (x1 : Int32) : (C.fin x1).xr = C.xr := rfl
theorem sCl_kd_setRow (C : sCl) (x1 : List Nat) : (C.setRow x1).kd = C.kd := rfl
theorem sCl_ac_setRow (C : sCl) (x1 : List Nat) : (C.setRow x1).ac = C.ac := rfl
theorem sCl_bg_setRow (C : sCl) (x1 : List Nat) : (C.setRow x1).bg = C.bg := rfl
theorem sCl_oc_setRow (C : sCl) (x1 : List Nat) : (C.setRow x1).oc = C.oc := rfl
theorem sCl_la_setRow (C : sCl) (x1 : List Nat) : (C.setRow x1).la = C.la := rfl
theorem sCl_wt_setRow (C : sCl) (x1 : List Nat) : (C.setRow x1).wt = C.wt := rfl
theorem sCl_wk_setRow (C : sCl) (x1 : List Nat) : (C.setRow x1).wk = C.wk := rfl
theorem sCl_tr_setRow (C : sCl) (x1 : List Nat) : (C.setRow x1).tr = C.tr := rfl
theorem sCl_row_setRow (C : sCl) (x1 : List Nat) : (C.setRow x1).row = x1 := rfl
theorem sCl_dg_setRow (C : sCl) (x1 : List Nat) : (C.setRow x1).dg = C.dg := rfl
theorem sCl_an_setRow (C : sCl) (x1 : List Nat) : (C.setRow x1).an = C.an := rfl
theorem sCl_xr_setRow (C : sCl) (x1 : List Nat) : (C.setRow x1).xr = C.xr := rfl
theorem sCl_kd_setDg (C : sCl) (x1 : List Int64) : (C.setDg x1).kd = C.kd := rfl
theorem sCl_ac_setDg (C : sCl) (x1 : List Int64) : (C.setDg x1).ac = C.ac := rfl
theorem sCl_bg_setDg (C : sCl) (x1 : List Int64) : (C.setDg x1).bg = C.bg := rfl
theorem sCl_oc_setDg (C : sCl) (x1 : List Int64) : (C.setDg x1).oc = C.oc := rfl
theorem sCl_la_setDg (C : sCl) (x1 : List Int64) : (C.setDg x1).la = C.la := rfl
theorem sCl_wt_setDg (C : sCl) (x1 : List Int64) : (C.setDg x1).wt = C.wt := rfl
theorem sCl_wk_setDg (C : sCl) (x1 : List Int64) : (C.setDg x1).wk = C.wk := rfl
theorem sCl_tr_setDg (C : sCl) (x1 : List Int64) : (C.setDg x1).tr = C.tr := rfl
theorem sCl_row_setDg (C : sCl) (x1 : List Int64) : (C.setDg x1).row = C.row := rfl
theorem sCl_dg_setDg (C : sCl) (x1 : List Int64) : (C.setDg x1).dg = x1 := rfl
theorem sCl_an_setDg (C : sCl) (x1 : List Int64) : (C.setDg x1).an = C.an := rfl
theorem sCl_xr_setDg (C : sCl) (x1 : List Int64) : (C.setDg x1).xr = C.xr := rfl
theorem sCl_kd_setAn (C : sCl) (x1 : Nat → Nat) : (C.setAn x1).kd = C.kd := rfl
theorem sCl_ac_setAn (C : sCl) (x1 : Nat → Nat) : (C.setAn x1).ac = C.ac := rfl
theorem sCl_bg_setAn (C : sCl) (x1 : Nat → Nat) : (C.setAn x1).bg = C.bg := rfl
theorem sCl_oc_setAn (C : sCl) (x1 : Nat → Nat) : (C.setAn x1).oc = C.oc := rfl
theorem sCl_la_setAn (C : sCl) (x1 : Nat → Nat) : (C.setAn x1).la = C.la := rfl
theorem sCl_wt_setAn (C : sCl) (x1 : Nat → Nat) : (C.setAn x1).wt = C.wt := rfl
theorem sCl_wk_setAn (C : sCl) (x1 : Nat → Nat) : (C.setAn x1).wk = C.wk := rfl
theorem sCl_tr_setAn (C : sCl) (x1 : Nat → Nat) : (C.setAn x1).tr = C.tr := rfl
theorem sCl_row_setAn (C : sCl) (x1 : Nat → Nat) : (C.setAn x1).row = C.row := rfl
theorem sCl_dg_setAn (C : sCl) (x1 : Nat → Nat) : (C.setAn x1).dg = C.dg := rfl
theorem sCl_an_setAn (C : sCl) (x1 : Nat → Nat) : (C.setAn x1).an = x1 := rfl
theorem sCl_xr_setAn (C : sCl) (x1 : Nat → Nat) : (C.setAn x1).xr = C.xr := rfl
theorem sCl_kd_setXr (C : sCl) (x1 : Int64) : (C.setXr x1).kd = C.kd := rfl
theorem sCl_ac_setXr (C : sCl) (x1 : Int64) : (C.setXr x1).ac = C.ac := rfl
theorem sCl_bg_setXr (C : sCl) (x1 : Int64) : (C.setXr x1).bg = C.bg := rfl
theorem sCl_oc_setXr (C : sCl) (x1 : Int64) : (C.setXr x1).oc = C.oc := rfl
theorem sCl_la_setXr (C : sCl) (x1 : Int64) : (C.setXr x1).la = C.la := rfl
theorem sCl_wt_setXr (C : sCl) (x1 : Int64) : (C.setXr x1).wt = C.wt := rfl
theorem sCl_wk_setXr (C : sCl) (x1 : Int64) : (C.setXr x1).wk = C.wk := rfl
theorem sCl_tr_setXr (C : sCl) (x1 : Int64) : (C.setXr x1).tr = C.tr := rfl
theorem sCl_row_setXr (C : sCl) (x1 : Int64) : (C.setXr x1).row = C.row := rfl
theorem sCl_dg_setXr (C : sCl) (x1 : Int64) : (C.setXr x1).dg = C.dg := rfl
theorem sCl_an_setXr (C : sCl) (x1 : Int64) : (C.setXr x1).an = C.an := rfl
theorem sCl_xr_setXr (C : sCl) (x1 : Int64) : (C.setXr x1).xr = x1 := rfl
theorem sCl_kd_setWt (C : sCl) (x1 x2 x3 : Nat) : (C.setWt x1 x2 x3).kd = C.kd := rfl
theorem sCl_ac_setWt (C : sCl) (x1 x2 x3 : Nat) : (C.setWt x1 x2 x3).ac = C.ac := rfl
theorem sCl_bg_setWt (C : sCl) (x1 x2 x3 : Nat) : (C.setWt x1 x2 x3).bg = C.bg := rfl
theorem sCl_oc_setWt (C : sCl) (x1 x2 x3 : Nat) : (C.setWt x1 x2 x3).oc = C.oc := rfl
theorem sCl_la_setWt (C : sCl) (x1 x2 x3 : Nat) : (C.setWt x1 x2 x3).la = C.la := rfl
theorem sCl_wt_setWt (C : sCl) (x1 x2 x3 : Nat) : (C.setWt x1 x2 x3).wt = x1 := rfl
theorem sCl_wk_setWt (C : sCl) (x1 x2 x3 : Nat) : (C.setWt x1 x2 x3).wk = x2 := rfl
theorem sCl_tr_setWt (C : sCl) (x1 x2 x3 : Nat) : (C.setWt x1 x2 x3).tr = x3 := rfl
theorem sCl_row_setWt (C : sCl) (x1 x2 x3 : Nat) : (C.setWt x1 x2 x3).row = C.row := rfl
theorem sCl_dg_setWt (C : sCl) (x1 x2 x3 : Nat) : (C.setWt x1 x2 x3).dg = C.dg := rfl
theorem sCl_an_setWt (C : sCl) (x1 x2 x3 : Nat) : (C.setWt x1 x2 x3).an = C.an := rfl
theorem sCl_xr_setWt (C : sCl) (x1 x2 x3 : Nat) : (C.setWt x1 x2 x3).xr = C.xr := rfl
theorem sCl_kd_setBg (C : sCl) (x1 x2 : Nat) : (C.setBg x1 x2).kd = C.kd := rfl
theorem sCl_ac_setBg (C : sCl) (x1 x2 : Nat) : (C.setBg x1 x2).ac = C.ac := rfl
theorem sCl_bg_setBg (C : sCl) (x1 x2 : Nat) : (C.setBg x1 x2).bg = x1 := rfl
theorem sCl_oc_setBg (C : sCl) (x1 x2 : Nat) : (C.setBg x1 x2).oc = C.oc := rfl
theorem sCl_la_setBg (C : sCl) (x1 x2 : Nat) : (C.setBg x1 x2).la = x2 := rfl
theorem sCl_wt_setBg (C : sCl) (x1 x2 : Nat) : (C.setBg x1 x2).wt = C.wt := rfl
theorem sCl_wk_setBg (C : sCl) (x1 x2 : Nat) : (C.setBg x1 x2).wk = C.wk := rfl
theorem sCl_tr_setBg (C : sCl) (x1 x2 : Nat) : (C.setBg x1 x2).tr = C.tr := rfl
theorem sCl_row_setBg (C : sCl) (x1 x2 : Nat) : (C.setBg x1 x2).row = C.row := rfl
theorem sCl_dg_setBg (C : sCl) (x1 x2 : Nat) : (C.setBg x1 x2).dg = C.dg := rfl
theorem sCl_an_setBg (C : sCl) (x1 x2 : Nat) : (C.setBg x1 x2).an = C.an := rfl
theorem sCl_xr_setBg (C : sCl) (x1 x2 : Nat) : (C.setBg x1 x2).xr = C.xr := rfl
theorem sCl_kd_new : sCl.new.kd = 0 := rfl
theorem sCl_ac_new : sCl.new.ac = 0 := rfl
theorem sCl_bg_new : sCl.new.bg = 0 := rfl
theorem sCl_oc_new : sCl.new.oc = 0 := rfl
theorem sCl_la_new : sCl.new.la = 0 := rfl
theorem sCl_wt_new : sCl.new.wt = 0 := rfl
theorem sCl_wk_new : sCl.new.wk = 0 := rfl
theorem sCl_tr_new : sCl.new.tr = 0 := rfl
theorem sCl_row_new : sCl.new.row = [] := rfl
theorem sCl_dg_new : sCl.new.dg = [] := rfl
theorem sCl_an_new : sCl.new.an = (fun _ => 0) := rfl
theorem sCl_xr_new : sCl.new.xr = 0 := rfl
/-- how many answers have come -/
def sc_na (an : Nat → Nat) : Nat := (if an 0 = 0 then 0 else 1) + (if an 1 = 0 then 0 else 1) + (if an 2 = 0 then 0 else 1) + (if an 3 = 0 then 0 else 1)
theorem sc_na_le (an : Nat → Nat) : sc_na an ≤ 4 := by
  unfold sc_na
  split <;> split <;> split <;> split <;> omega
theorem sc_na_set (an : Nat → Nat) (j v : Nat) (hj : j < 4) (h0 : an j = 0) (hv : 0 < v) : sc_na (fun i => if i = j then v else an i) = sc_na an + 1 := by
  have hv0 : ¬ v = 0 := by omega
  have hj' : j = 0 ∨ j = 1 ∨ j = 2 ∨ j = 3 := by omega
  unfold sc_na
  rcases hj' with rfl | rfl | rfl | rfl
  · simp [h0, hv0]; omega
  · simp [h0, hv0]; omega
  · simp [h0, hv0]; omega
  · simp [h0, hv0]
def cs_at (f : Nat → Int32) (g : Nat → Int64) (m : Nat) (C : sCl) : Prop := f 0 = nI m ∧ f 1 = nI C.kd ∧ f 3 = nI C.bg ∧ f 4 = C.oc ∧ f 5 = nI C.la ∧ f 6 = nI C.wt ∧ f 7 = nI C.wk ∧ f 8 = nI C.tr ∧ f 11 = nI C.dg.length ∧ f 13 = nI (sc_na C.an) ∧ g 2 = C.ac ∧ g 14 = C.xr
/-- what a call's values keep to -/
def cb_ok (C : sCl) : Prop := C.kd ≤ 4 ∧ C.bg ≤ 1 ∧ C.la ≤ 2000000 ∧ C.wt ≤ 1 ∧ C.wk ≤ 2000000 ∧ C.tr ≤ 5 ∧ (C.oc = 0 → C.tr ≤ 4) ∧ C.dg.length ≤ 4 ∧ (∀ i, C.an i ≤ 2) ∧ (∀ i, C.dg.length ≤ i → C.an i = 0) ∧ (∀ i, C.kd ≠ 0 → C.an i = 0)
def cd_at (g : Nat → Int64) (dg : List Int64) : Prop := ∀ i, i < dg.length → g i = dg.getD i 0
def cc_at (I : pm_I) (J : pm_J) (k m : Nat) (C : sCl) : Prop := cs_at (I k) (J k) m C ∧ rc_at I (k + 1) C.row ∧ cd_at (J (k + 3)) C.dg ∧ (∀ i, i < 4 → I (k + 4) i = nI (C.an i)) ∧ cb_ok C
/-- where a call's cells lie -/
def cl_ok (K : am_K) (k : Nat) : Prop := pm_sh K k = (0, 0) ∧ rl_ok K (k + 1) ∧ pm_sh K (k + 3) = (2, 4) ∧ pm_sh K (k + 4) = (1, 4) ∧ pm_R K k 9 = some (k + 1) ∧ pm_R K k 10 = some (k + 3) ∧ pm_R K k 12 = some (k + 4)
theorem cc_congr {I I' : pm_I} {J J' : pm_J} {k m : Nat} {C : sCl} (h : cc_at I J k m C) (e : ∀ a, k ≤ a → a < k + 5 → I' a = I a) (f : ∀ a, k ≤ a → a < k + 5 → J' a = J a) : cc_at I' J' k m C := by
  obtain ⟨h1, h2, h3, h4, h5⟩ := h
  refine ⟨?_, rc_congr h2 (e _ (by omega) (by omega)) (e _ (by omega) (by omega)), ?_, ?_, h5⟩
  · rw [e k (by omega) (by omega), f k (by omega) (by omega)]
    exact h1
  · rw [f (k + 3) (by omega) (by omega)]
    exact h3
  · rw [e (k + 4) (by omega) (by omega)]
    exact h4
section CLM
variable {K : am_K} {I : pm_I} {J : pm_J} {k m : Nat} {C : sCl}
/-- does a call go on -/
def sCl.on (C : sCl) : Nat := if C.bg = 0 then 0 else if C.oc = 0 then 1 else 0
theorem cc_goesOn (L : cl_ok K k) (h : cc_at I J k m C) (d : Nat) : f_X0_goesOn d k (K, I, J) = some ((nI C.on, 0, none), (K, I, J)) := by
  obtain ⟨L0, L1, L2, L3, R1, R2, R3⟩ := L
  obtain ⟨⟨s0, s1, s3, s4, s5, s6, s7, s8, s11, s13, t2, t14⟩, h2, h3, h4, b1, b2, b3, b4, b5, b6, b7, b8, b9, b10, b11⟩ := h
  rw [e_X0_goesOn]
  unfold sCl.on
  by_cases c1 : C.bg = 0
  · rw [if_pos c1]
    simp (disch := first | assumption | omega) only [pm_gI, pm_gJ, pm_gR, pm_pI, pm_pZ, pm_pJ, pm_ldI, pm_ldJ, pm_ldR, pm_stI, pm_stZ, pm_stJ, pm_pZ0, pm_pZ1, pm_stZ0, pm_stZ1, pm_len, pm_cpyI, pm_cpyJ, pm_is, Option.bind_some, pm_u, pm_ur, pm_lt, pm_le, pm_eq, pm_ne, pm_add, pm_sub, pm_z0, pm_z1, cond_true, cond_false, decide_true, decide_false, not_false_eq_true, not_true_eq_false, reduceIte, Nat.reduceEqDiff, Nat.add_eq_left, Nat.left_eq_add, Nat.add_left_cancel_iff, Nat.one_ne_zero, am_cs, s3, c1]
  · rw [if_neg c1]
    simp (disch := first | assumption | omega) only [pm_gI, pm_gJ, pm_gR, pm_pI, pm_pZ, pm_pJ, pm_ldI, pm_ldJ, pm_ldR, pm_stI, pm_stZ, pm_stJ, pm_pZ0, pm_pZ1, pm_stZ0, pm_stZ1, pm_len, pm_cpyI, pm_cpyJ, pm_is, Option.bind_some, pm_u, pm_ur, pm_lt, pm_le, pm_eq, pm_ne, pm_add, pm_sub, pm_z0, pm_z1, cond_true, cond_false, decide_true, decide_false, not_false_eq_true, not_true_eq_false, reduceIte, Nat.reduceEqDiff, Nat.add_eq_left, Nat.left_eq_add, Nat.add_left_cancel_iff, Nat.one_ne_zero, am_cs, s3, s4, c1]
    by_cases c2 : C.oc = 0
    · rw [if_pos c2, c2]
      rfl
    · rw [if_neg c2]
      have : decide (C.oc = nI 0) = false := decide_eq_false c2
      rw [decide_eq_true (show ¬ C.oc = nI 0 from c2)]
      rfl
theorem cc_finish (L : cl_ok K k) (h : cc_at I J k m C) (how : Int32) (hh : how ≠ 0) (d : Nat) : ∃ I' : pm_I, f_X0_finish d k how (K, I, J) = some ((0, 0, none), (K, I', J)) ∧ cc_at I' J k m (C.fin how) ∧ pm_fr I I' k 1 := by
  obtain ⟨L0, L1, L2, L3, R1, R2, R3⟩ := L
  obtain ⟨⟨s0, s1, s3, s4, s5, s6, s7, s8, s11, s13, t2, t14⟩, h2, h3, h4, b1, b2, b3, b4, b5, b6, b7, b8⟩ := h
  rw [e_X0_finish]
  simp (disch := first | assumption | omega) only [pm_gI, pm_gJ, pm_gR, pm_pI, pm_pZ, pm_pJ, pm_ldI, pm_ldJ, pm_ldR, pm_stI, pm_stZ, pm_stJ, pm_pZ0, pm_pZ1, pm_stZ0, pm_stZ1, pm_len, pm_cpyI, pm_cpyJ, pm_is, Option.bind_some, pm_u, pm_ur, pm_lt, pm_le, pm_eq, pm_ne, pm_add, pm_sub, pm_z0, pm_z1, cond_true, cond_false, decide_true, decide_false, not_false_eq_true, not_true_eq_false, reduceIte, Nat.reduceEqDiff, Nat.add_eq_left, Nat.left_eq_add, Nat.add_left_cancel_iff, Nat.one_ne_zero, am_cs]
  refine ⟨_, rfl, ⟨?_, rc_congr h2 ?_ ?_, h3, ?_, b1, b2, b3, by show 0 ≤ 1; omega, b5, b6, fun hc => absurd hc hh, b8⟩, fun a ha => ?_⟩
  · simp [cs_at, sCl_kd_fin, sCl_ac_fin, sCl_bg_fin, sCl_oc_fin, sCl_la_fin, sCl_wt_fin, sCl_wk_fin, sCl_tr_fin, sCl_row_fin, sCl_dg_fin, sCl_an_fin, sCl_xr_fin, sCl_kd_setRow, sCl_ac_setRow, sCl_bg_setRow, sCl_oc_setRow, sCl_la_setRow, sCl_wt_setRow, sCl_wk_setRow, sCl_tr_setRow, sCl_row_setRow, sCl_dg_setRow, sCl_an_setRow, sCl_xr_setRow, sCl_kd_setDg, sCl_ac_setDg, sCl_bg_setDg, sCl_oc_setDg, sCl_la_setDg, sCl_wt_setDg, sCl_wk_setDg, sCl_tr_setDg, sCl_row_setDg, sCl_dg_setDg, sCl_an_setDg, sCl_xr_setDg, sCl_kd_setAn, sCl_ac_setAn, sCl_bg_setAn, sCl_oc_setAn, sCl_la_setAn, sCl_wt_setAn, sCl_wk_setAn, sCl_tr_setAn, sCl_row_setAn, sCl_dg_setAn, sCl_an_setAn, sCl_xr_setAn, sCl_kd_setXr, sCl_ac_setXr, sCl_bg_setXr, sCl_oc_setXr, sCl_la_setXr, sCl_wt_setXr, sCl_wk_setXr, sCl_tr_setXr, sCl_row_setXr, sCl_dg_setXr, sCl_an_setXr, sCl_xr_setXr, sCl_kd_setWt, sCl_ac_setWt, sCl_bg_setWt, sCl_oc_setWt, sCl_la_setWt, sCl_wt_setWt, sCl_wk_setWt, sCl_tr_setWt, sCl_row_setWt, sCl_dg_setWt, sCl_an_setWt, sCl_xr_setWt, sCl_kd_setBg, sCl_ac_setBg, sCl_bg_setBg, sCl_oc_setBg, sCl_la_setBg, sCl_wt_setBg, sCl_wk_setBg, sCl_tr_setBg, sCl_row_setBg, sCl_dg_setBg, sCl_an_setBg, sCl_xr_setBg, sCl_kd_new, sCl_ac_new, sCl_bg_new, sCl_oc_new, sCl_la_new, sCl_wt_new, sCl_wk_new, sCl_tr_new, sCl_row_new, sCl_dg_new, sCl_an_new, sCl_xr_new, pm_u, s0, s1, s3, s5, s7, s8, s11, s13, t2, t14]
  · (repeat (rw [am_u_ne _ _ (by omega)]))
  · (repeat (rw [am_u_ne _ _ (by omega)]))
  · intro i hi
    (repeat (rw [am_u_ne _ _ (by omega)]))
    exact h4 i hi
  · rw [am_u_ne _ _ (by omega), am_u_ne _ _ (by omega)]
/-- how many digests a call may name -/
def sCl.most (C : sCl) : Nat := if C.kd = 0 then 4 else if C.kd = 2 then 1 else if C.kd = 4 then 3 else 0
theorem cc_most (L : cl_ok K k) (h : cc_at I J k m C) (d : Nat) : f_X0_mostNamed d k (K, I, J) = some ((nI C.most, 0, none), (K, I, J)) := by
  obtain ⟨L0, L1, L2, L3, R1, R2, R3⟩ := L
  obtain ⟨⟨s0, s1, s3, s4, s5, s6, s7, s8, s11, s13, t2, t14⟩, h2, h3, h4, b1, b2, b3, b4, b5, b6, b7, b8⟩ := h
  rw [e_X0_mostNamed]
  unfold sCl.most
  simp (disch := first | assumption | omega) only [pm_gI, pm_gJ, pm_gR, pm_pI, pm_pZ, pm_pJ, pm_ldI, pm_ldJ, pm_ldR, pm_stI, pm_stZ, pm_stJ, pm_pZ0, pm_pZ1, pm_stZ0, pm_stZ1, pm_len, pm_cpyI, pm_cpyJ, pm_is, Option.bind_some, pm_u, pm_ur, pm_lt, pm_le, pm_eq, pm_ne, pm_add, pm_sub, pm_z0, pm_z1, cond_true, cond_false, decide_true, decide_false, not_false_eq_true, not_true_eq_false, reduceIte, Nat.reduceEqDiff, Nat.add_eq_left, Nat.left_eq_add, Nat.add_left_cancel_iff, Nat.one_ne_zero, am_cs, s1]
  have : C.kd = 0 ∨ C.kd = 1 ∨ C.kd = 2 ∨ C.kd = 3 ∨ C.kd = 4 := by omega
  rcases this with c | c | c | c | c <;> (rw [c]; rfl)
theorem cc_addDigest (L : cl_ok K k) (h : cc_at I J k m C) (v : Int64) (n : Nat) (hn : n ≤ 4) (hl : C.dg.length < n) (d : Nat) : ∃ (I' : pm_I) (J' : pm_J), f_X0_addDigest d k v (nI n) (K, I, J) = some ((nI (C.dg.length + 1), 0, none), (K, I', J')) ∧ cc_at I' J' k m (C.setDg (C.dg ++ [v])) ∧ pm_fr I I' k 1 ∧ pm_fr J J' (k + 3) 1 := by
  obtain ⟨L0, L1, L2, L3, R1, R2, R3⟩ := L
  obtain ⟨⟨s0, s1, s3, s4, s5, s6, s7, s8, s11, s13, t2, t14⟩, h2, h3, h4, b1, b2, b3, b4, b5, b6, b7, b8, b9, b10, b11⟩ := h
  rw [e_X0_addDigest]
  have c1 : ¬ n ≤ C.dg.length := by omega
  have c2 : C.dg.length < 4 := by omega
  simp (disch := first | assumption | omega) only [pm_gI, pm_gJ, pm_gR, pm_pI, pm_pZ, pm_pJ, pm_ldI, pm_ldJ, pm_ldR, pm_stI, pm_stZ, pm_stJ, pm_pZ0, pm_pZ1, pm_stZ0, pm_stZ1, pm_len, pm_cpyI, pm_cpyJ, pm_is, Option.bind_some, pm_u, pm_ur, pm_lt, pm_le, pm_eq, pm_ne, pm_add, pm_sub, pm_z0, pm_z1, cond_true, cond_false, decide_true, decide_false, not_false_eq_true, not_true_eq_false, reduceIte, Nat.reduceEqDiff, Nat.add_eq_left, Nat.left_eq_add, Nat.add_left_cancel_iff, Nat.one_ne_zero, am_cs, s11, c1, c2]
  refine ⟨_, _, rfl, ⟨?_, rc_congr h2 ?_ ?_, ?_, ?_, b1, b2, b3, b4, b5, b6, b7, ?_, b9, fun i hi => b10 i (by simp [sCl_kd_fin, sCl_ac_fin, sCl_bg_fin, sCl_oc_fin, sCl_la_fin, sCl_wt_fin, sCl_wk_fin, sCl_tr_fin, sCl_row_fin, sCl_dg_fin, sCl_an_fin, sCl_xr_fin, sCl_kd_setRow, sCl_ac_setRow, sCl_bg_setRow, sCl_oc_setRow, sCl_la_setRow, sCl_wt_setRow, sCl_wk_setRow, sCl_tr_setRow, sCl_row_setRow, sCl_dg_setRow, sCl_an_setRow, sCl_xr_setRow, sCl_kd_setDg, sCl_ac_setDg, sCl_bg_setDg, sCl_oc_setDg, sCl_la_setDg, sCl_wt_setDg, sCl_wk_setDg, sCl_tr_setDg, sCl_row_setDg, sCl_dg_setDg, sCl_an_setDg, sCl_xr_setDg, sCl_kd_setAn, sCl_ac_setAn, sCl_bg_setAn, sCl_oc_setAn, sCl_la_setAn, sCl_wt_setAn, sCl_wk_setAn, sCl_tr_setAn, sCl_row_setAn, sCl_dg_setAn, sCl_an_setAn, sCl_xr_setAn, sCl_kd_setXr, sCl_ac_setXr, sCl_bg_setXr, sCl_oc_setXr, sCl_la_setXr, sCl_wt_setXr, sCl_wk_setXr, sCl_tr_setXr, sCl_row_setXr, sCl_dg_setXr, sCl_an_setXr, sCl_xr_setXr, sCl_kd_setWt, sCl_ac_setWt, sCl_bg_setWt, sCl_oc_setWt, sCl_la_setWt, sCl_wt_setWt, sCl_wk_setWt, sCl_tr_setWt, sCl_row_setWt, sCl_dg_setWt, sCl_an_setWt, sCl_xr_setWt, sCl_kd_setBg, sCl_ac_setBg, sCl_bg_setBg, sCl_oc_setBg, sCl_la_setBg, sCl_wt_setBg, sCl_wk_setBg, sCl_tr_setBg, sCl_row_setBg, sCl_dg_setBg, sCl_an_setBg, sCl_xr_setBg, sCl_kd_new, sCl_ac_new, sCl_bg_new, sCl_oc_new, sCl_la_new, sCl_wt_new, sCl_wk_new, sCl_tr_new, sCl_row_new, sCl_dg_new, sCl_an_new, sCl_xr_new] at hi; omega), b11⟩, fun a ha => ?_, fun a ha => ?_⟩
  · simp [cs_at, sCl_kd_fin, sCl_ac_fin, sCl_bg_fin, sCl_oc_fin, sCl_la_fin, sCl_wt_fin, sCl_wk_fin, sCl_tr_fin, sCl_row_fin, sCl_dg_fin, sCl_an_fin, sCl_xr_fin, sCl_kd_setRow, sCl_ac_setRow, sCl_bg_setRow, sCl_oc_setRow, sCl_la_setRow, sCl_wt_setRow, sCl_wk_setRow, sCl_tr_setRow, sCl_row_setRow, sCl_dg_setRow, sCl_an_setRow, sCl_xr_setRow, sCl_kd_setDg, sCl_ac_setDg, sCl_bg_setDg, sCl_oc_setDg, sCl_la_setDg, sCl_wt_setDg, sCl_wk_setDg, sCl_tr_setDg, sCl_row_setDg, sCl_dg_setDg, sCl_an_setDg, sCl_xr_setDg, sCl_kd_setAn, sCl_ac_setAn, sCl_bg_setAn, sCl_oc_setAn, sCl_la_setAn, sCl_wt_setAn, sCl_wk_setAn, sCl_tr_setAn, sCl_row_setAn, sCl_dg_setAn, sCl_an_setAn, sCl_xr_setAn, sCl_kd_setXr, sCl_ac_setXr, sCl_bg_setXr, sCl_oc_setXr, sCl_la_setXr, sCl_wt_setXr, sCl_wk_setXr, sCl_tr_setXr, sCl_row_setXr, sCl_dg_setXr, sCl_an_setXr, sCl_xr_setXr, sCl_kd_setWt, sCl_ac_setWt, sCl_bg_setWt, sCl_oc_setWt, sCl_la_setWt, sCl_wt_setWt, sCl_wk_setWt, sCl_tr_setWt, sCl_row_setWt, sCl_dg_setWt, sCl_an_setWt, sCl_xr_setWt, sCl_kd_setBg, sCl_ac_setBg, sCl_bg_setBg, sCl_oc_setBg, sCl_la_setBg, sCl_wt_setBg, sCl_wk_setBg, sCl_tr_setBg, sCl_row_setBg, sCl_dg_setBg, sCl_an_setBg, sCl_xr_setBg, sCl_kd_new, sCl_ac_new, sCl_bg_new, sCl_oc_new, sCl_la_new, sCl_wt_new, sCl_wk_new, sCl_tr_new, sCl_row_new, sCl_dg_new, sCl_an_new, sCl_xr_new, pm_u, s0, s1, s3, s4, s5, s6, s7, s8, s13, t2, t14]
  · (repeat (rw [am_u_ne _ _ (by omega)]))
  · (repeat (rw [am_u_ne _ _ (by omega)]))
  · intro i hi
    simp [sCl_kd_fin, sCl_ac_fin, sCl_bg_fin, sCl_oc_fin, sCl_la_fin, sCl_wt_fin, sCl_wk_fin, sCl_tr_fin, sCl_row_fin, sCl_dg_fin, sCl_an_fin, sCl_xr_fin, sCl_kd_setRow, sCl_ac_setRow, sCl_bg_setRow, sCl_oc_setRow, sCl_la_setRow, sCl_wt_setRow, sCl_wk_setRow, sCl_tr_setRow, sCl_row_setRow, sCl_dg_setRow, sCl_an_setRow, sCl_xr_setRow, sCl_kd_setDg, sCl_ac_setDg, sCl_bg_setDg, sCl_oc_setDg, sCl_la_setDg, sCl_wt_setDg, sCl_wk_setDg, sCl_tr_setDg, sCl_row_setDg, sCl_dg_setDg, sCl_an_setDg, sCl_xr_setDg, sCl_kd_setAn, sCl_ac_setAn, sCl_bg_setAn, sCl_oc_setAn, sCl_la_setAn, sCl_wt_setAn, sCl_wk_setAn, sCl_tr_setAn, sCl_row_setAn, sCl_dg_setAn, sCl_an_setAn, sCl_xr_setAn, sCl_kd_setXr, sCl_ac_setXr, sCl_bg_setXr, sCl_oc_setXr, sCl_la_setXr, sCl_wt_setXr, sCl_wk_setXr, sCl_tr_setXr, sCl_row_setXr, sCl_dg_setXr, sCl_an_setXr, sCl_xr_setXr, sCl_kd_setWt, sCl_ac_setWt, sCl_bg_setWt, sCl_oc_setWt, sCl_la_setWt, sCl_wt_setWt, sCl_wk_setWt, sCl_tr_setWt, sCl_row_setWt, sCl_dg_setWt, sCl_an_setWt, sCl_xr_setWt, sCl_kd_setBg, sCl_ac_setBg, sCl_bg_setBg, sCl_oc_setBg, sCl_la_setBg, sCl_wt_setBg, sCl_wk_setBg, sCl_tr_setBg, sCl_row_setBg, sCl_dg_setBg, sCl_an_setBg, sCl_xr_setBg, sCl_kd_new, sCl_ac_new, sCl_bg_new, sCl_oc_new, sCl_la_new, sCl_wt_new, sCl_wk_new, sCl_tr_new, sCl_row_new, sCl_dg_new, sCl_an_new, sCl_xr_new] at hi
    simp only [pm_u]
    by_cases c : i = C.dg.length
    · simp [sCl_kd_fin, sCl_ac_fin, sCl_bg_fin, sCl_oc_fin, sCl_la_fin, sCl_wt_fin, sCl_wk_fin, sCl_tr_fin, sCl_row_fin, sCl_dg_fin, sCl_an_fin, sCl_xr_fin, sCl_kd_setRow, sCl_ac_setRow, sCl_bg_setRow, sCl_oc_setRow, sCl_la_setRow, sCl_wt_setRow, sCl_wk_setRow, sCl_tr_setRow, sCl_row_setRow, sCl_dg_setRow, sCl_an_setRow, sCl_xr_setRow, sCl_kd_setDg, sCl_ac_setDg, sCl_bg_setDg, sCl_oc_setDg, sCl_la_setDg, sCl_wt_setDg, sCl_wk_setDg, sCl_tr_setDg, sCl_row_setDg, sCl_dg_setDg, sCl_an_setDg, sCl_xr_setDg, sCl_kd_setAn, sCl_ac_setAn, sCl_bg_setAn, sCl_oc_setAn, sCl_la_setAn, sCl_wt_setAn, sCl_wk_setAn, sCl_tr_setAn, sCl_row_setAn, sCl_dg_setAn, sCl_an_setAn, sCl_xr_setAn, sCl_kd_setXr, sCl_ac_setXr, sCl_bg_setXr, sCl_oc_setXr, sCl_la_setXr, sCl_wt_setXr, sCl_wk_setXr, sCl_tr_setXr, sCl_row_setXr, sCl_dg_setXr, sCl_an_setXr, sCl_xr_setXr, sCl_kd_setWt, sCl_ac_setWt, sCl_bg_setWt, sCl_oc_setWt, sCl_la_setWt, sCl_wt_setWt, sCl_wk_setWt, sCl_tr_setWt, sCl_row_setWt, sCl_dg_setWt, sCl_an_setWt, sCl_xr_setWt, sCl_kd_setBg, sCl_ac_setBg, sCl_bg_setBg, sCl_oc_setBg, sCl_la_setBg, sCl_wt_setBg, sCl_wk_setBg, sCl_tr_setBg, sCl_row_setBg, sCl_dg_setBg, sCl_an_setBg, sCl_xr_setBg, sCl_kd_new, sCl_ac_new, sCl_bg_new, sCl_oc_new, sCl_la_new, sCl_wt_new, sCl_wk_new, sCl_tr_new, sCl_row_new, sCl_dg_new, sCl_an_new, sCl_xr_new, c]
    · simp [sCl_kd_fin, sCl_ac_fin, sCl_bg_fin, sCl_oc_fin, sCl_la_fin, sCl_wt_fin, sCl_wk_fin, sCl_tr_fin, sCl_row_fin, sCl_dg_fin, sCl_an_fin, sCl_xr_fin, sCl_kd_setRow, sCl_ac_setRow, sCl_bg_setRow, sCl_oc_setRow, sCl_la_setRow, sCl_wt_setRow, sCl_wk_setRow, sCl_tr_setRow, sCl_row_setRow, sCl_dg_setRow, sCl_an_setRow, sCl_xr_setRow, sCl_kd_setDg, sCl_ac_setDg, sCl_bg_setDg, sCl_oc_setDg, sCl_la_setDg, sCl_wt_setDg, sCl_wk_setDg, sCl_tr_setDg, sCl_row_setDg, sCl_dg_setDg, sCl_an_setDg, sCl_xr_setDg, sCl_kd_setAn, sCl_ac_setAn, sCl_bg_setAn, sCl_oc_setAn, sCl_la_setAn, sCl_wt_setAn, sCl_wk_setAn, sCl_tr_setAn, sCl_row_setAn, sCl_dg_setAn, sCl_an_setAn, sCl_xr_setAn, sCl_kd_setXr, sCl_ac_setXr, sCl_bg_setXr, sCl_oc_setXr, sCl_la_setXr, sCl_wt_setXr, sCl_wk_setXr, sCl_tr_setXr, sCl_row_setXr, sCl_dg_setXr, sCl_an_setXr, sCl_xr_setXr, sCl_kd_setWt, sCl_ac_setWt, sCl_bg_setWt, sCl_oc_setWt, sCl_la_setWt, sCl_wt_setWt, sCl_wk_setWt, sCl_tr_setWt, sCl_row_setWt, sCl_dg_setWt, sCl_an_setWt, sCl_xr_setWt, sCl_kd_setBg, sCl_ac_setBg, sCl_bg_setBg, sCl_oc_setBg, sCl_la_setBg, sCl_wt_setBg, sCl_wk_setBg, sCl_tr_setBg, sCl_row_setBg, sCl_dg_setBg, sCl_an_setBg, sCl_xr_setBg, sCl_kd_new, sCl_ac_new, sCl_bg_new, sCl_oc_new, sCl_la_new, sCl_wt_new, sCl_wk_new, sCl_tr_new, sCl_row_new, sCl_dg_new, sCl_an_new, sCl_xr_new, c, h3 i (by omega), List.getElem?_append_left (show i < C.dg.length by omega)]
  · intro i hi
    (repeat (rw [am_u_ne _ _ (by omega)]))
    exact h4 i hi
  · simp [sCl_kd_fin, sCl_ac_fin, sCl_bg_fin, sCl_oc_fin, sCl_la_fin, sCl_wt_fin, sCl_wk_fin, sCl_tr_fin, sCl_row_fin, sCl_dg_fin, sCl_an_fin, sCl_xr_fin, sCl_kd_setRow, sCl_ac_setRow, sCl_bg_setRow, sCl_oc_setRow, sCl_la_setRow, sCl_wt_setRow, sCl_wk_setRow, sCl_tr_setRow, sCl_row_setRow, sCl_dg_setRow, sCl_an_setRow, sCl_xr_setRow, sCl_kd_setDg, sCl_ac_setDg, sCl_bg_setDg, sCl_oc_setDg, sCl_la_setDg, sCl_wt_setDg, sCl_wk_setDg, sCl_tr_setDg, sCl_row_setDg, sCl_dg_setDg, sCl_an_setDg, sCl_xr_setDg, sCl_kd_setAn, sCl_ac_setAn, sCl_bg_setAn, sCl_oc_setAn, sCl_la_setAn, sCl_wt_setAn, sCl_wk_setAn, sCl_tr_setAn, sCl_row_setAn, sCl_dg_setAn, sCl_an_setAn, sCl_xr_setAn, sCl_kd_setXr, sCl_ac_setXr, sCl_bg_setXr, sCl_oc_setXr, sCl_la_setXr, sCl_wt_setXr, sCl_wk_setXr, sCl_tr_setXr, sCl_row_setXr, sCl_dg_setXr, sCl_an_setXr, sCl_xr_setXr, sCl_kd_setWt, sCl_ac_setWt, sCl_bg_setWt, sCl_oc_setWt, sCl_la_setWt, sCl_wt_setWt, sCl_wk_setWt, sCl_tr_setWt, sCl_row_setWt, sCl_dg_setWt, sCl_an_setWt, sCl_xr_setWt, sCl_kd_setBg, sCl_ac_setBg, sCl_bg_setBg, sCl_oc_setBg, sCl_la_setBg, sCl_wt_setBg, sCl_wk_setBg, sCl_tr_setBg, sCl_row_setBg, sCl_dg_setBg, sCl_an_setBg, sCl_xr_setBg, sCl_kd_new, sCl_ac_new, sCl_bg_new, sCl_oc_new, sCl_la_new, sCl_wt_new, sCl_wk_new, sCl_tr_new, sCl_row_new, sCl_dg_new, sCl_an_new, sCl_xr_new]
    omega
  · rw [am_u_ne _ _ (by omega)]
  · rw [am_u_ne _ _ (by omega)]
theorem cc_addDigest0 (L : cl_ok K k) (h : cc_at I J k m C) (v : Int64) (n : Nat) (hn : n ≤ 4) (hl : n ≤ C.dg.length) (d : Nat) : f_X0_addDigest d k v (nI n) (K, I, J) = some ((-nI 1, 0, none), (K, I, J)) := by
  obtain ⟨L0, L1, L2, L3, R1, R2, R3⟩ := L
  obtain ⟨⟨s0, s1, s3, s4, s5, s6, s7, s8, s11, s13, t2, t14⟩, h2, h3, h4, b1, b2, b3, b4, b5, b6, b7, b8, b9, b10, b11⟩ := h
  rw [e_X0_addDigest]
  simp (disch := first | assumption | omega) only [pm_gI, pm_gJ, pm_gR, pm_pI, pm_pZ, pm_pJ, pm_ldI, pm_ldJ, pm_ldR, pm_stI, pm_stZ, pm_stJ, pm_pZ0, pm_pZ1, pm_stZ0, pm_stZ1, pm_len, pm_cpyI, pm_cpyJ, pm_is, Option.bind_some, pm_u, pm_ur, pm_lt, pm_le, pm_eq, pm_ne, pm_add, pm_sub, pm_z0, pm_z1, cond_true, cond_false, decide_true, decide_false, not_false_eq_true, not_true_eq_false, reduceIte, Nat.reduceEqDiff, Nat.add_eq_left, Nat.left_eq_add, Nat.add_left_cancel_iff, Nat.one_ne_zero, am_cs, s11, hl]
/-- the digest that a call names at a place -/
def sCl.digAt (C : sCl) (x : Int32) : Int64 := if C.kd = 1 then (if x = nI 0 then sd_dig C.row ^^^ C.xr else lN 0) else if x < nI 0 then lN 0 else if nI C.dg.length ≤ x then lN 0 else C.dg.getD x.toNatClampNeg 0
theorem cc_digestAt (L : cl_ok K k) (h : cc_at I J k m C) (x : Int32) (d : Nat) : f_X0_digestAt (d + 1) k x (K, I, J) = some ((0, C.digAt x, none), (K, I, J)) := by
  have hd := rc_digest (J := J) L.2.1 h.2.1 d
  obtain ⟨L0, L1, L2, L3, R1, R2, R3⟩ := L
  obtain ⟨⟨s0, s1, s3, s4, s5, s6, s7, s8, s11, s13, t2, t14⟩, h2, h3, h4, b1, b2, b3, b4, b5, b6, b7, b8, b9, b10, b11⟩ := h
  rw [e_X0_digestAt]
  unfold sCl.digAt
  by_cases c1 : C.kd = 1
  · rw [if_pos c1]
    have e1 := L1.1
    by_cases c2 : x = nI 0
    · rw [if_pos c2]
      simp (disch := first | assumption | omega) only [pm_gI, pm_gJ, pm_gR, pm_pI, pm_pZ, pm_pJ, pm_ldI, pm_ldJ, pm_ldR, pm_stI, pm_stZ, pm_stJ, pm_pZ0, pm_pZ1, pm_stZ0, pm_stZ1, pm_len, pm_cpyI, pm_cpyJ, pm_is, Option.bind_some, pm_u, pm_ur, pm_lt, pm_le, pm_eq, pm_ne, pm_add, pm_sub, pm_z0, pm_z1, cond_true, cond_false, decide_true, decide_false, not_false_eq_true, not_true_eq_false, reduceIte, Nat.reduceEqDiff, Nat.add_eq_left, Nat.left_eq_add, Nat.add_left_cancel_iff, Nat.one_ne_zero, am_cs, s1, c1, c2, hd, t14, e1]
    · rw [if_neg c2]
      simp (disch := first | assumption | omega) only [pm_gI, pm_gJ, pm_gR, pm_pI, pm_pZ, pm_pJ, pm_ldI, pm_ldJ, pm_ldR, pm_stI, pm_stZ, pm_stJ, pm_pZ0, pm_pZ1, pm_stZ0, pm_stZ1, pm_len, pm_cpyI, pm_cpyJ, pm_is, Option.bind_some, pm_u, pm_ur, pm_lt, pm_le, pm_eq, pm_ne, pm_add, pm_sub, pm_z0, pm_z1, cond_true, cond_false, decide_true, decide_false, not_false_eq_true, not_true_eq_false, reduceIte, Nat.reduceEqDiff, Nat.add_eq_left, Nat.left_eq_add, Nat.add_left_cancel_iff, Nat.one_ne_zero, am_cs, s1, c1, c2]
  · rw [if_neg c1]
    by_cases c2 : x < nI 0
    · rw [if_pos c2]
      simp (disch := first | assumption | omega) only [pm_gI, pm_gJ, pm_gR, pm_pI, pm_pZ, pm_pJ, pm_ldI, pm_ldJ, pm_ldR, pm_stI, pm_stZ, pm_stJ, pm_pZ0, pm_pZ1, pm_stZ0, pm_stZ1, pm_len, pm_cpyI, pm_cpyJ, pm_is, Option.bind_some, pm_u, pm_ur, pm_lt, pm_le, pm_eq, pm_ne, pm_add, pm_sub, pm_z0, pm_z1, cond_true, cond_false, decide_true, decide_false, not_false_eq_true, not_true_eq_false, reduceIte, Nat.reduceEqDiff, Nat.add_eq_left, Nat.left_eq_add, Nat.add_left_cancel_iff, Nat.one_ne_zero, am_cs, s1, c1, c2]
    · rw [if_neg c2]
      by_cases c3 : nI C.dg.length ≤ x
      · rw [if_pos c3]
        simp (disch := first | assumption | omega) only [pm_gI, pm_gJ, pm_gR, pm_pI, pm_pZ, pm_pJ, pm_ldI, pm_ldJ, pm_ldR, pm_stI, pm_stZ, pm_stJ, pm_pZ0, pm_pZ1, pm_stZ0, pm_stZ1, pm_len, pm_cpyI, pm_cpyJ, pm_is, Option.bind_some, pm_u, pm_ur, pm_lt, pm_le, pm_eq, pm_ne, pm_add, pm_sub, pm_z0, pm_z1, cond_true, cond_false, decide_true, decide_false, not_false_eq_true, not_true_eq_false, reduceIte, Nat.reduceEqDiff, Nat.add_eq_left, Nat.left_eq_add, Nat.add_left_cancel_iff, Nat.one_ne_zero, am_cs, s1, c1, c2, s11, c3]
      · rw [if_neg c3]
        have hx : ∃ j, j < C.dg.length ∧ x = nI j := wu_in1 (by omega) (by unfold wu_in; rw [if_neg (show ¬ x < 0 from c2), if_neg c3])
        obtain ⟨j, hj, rfl⟩ := hx
        have := h3 j hj
        rw [nI_clamp (by omega)]
        simp (disch := first | assumption | omega) only [pm_gI, pm_gJ, pm_gR, pm_pI, pm_pZ, pm_pJ, pm_ldI, pm_ldJ, pm_ldR, pm_stI, pm_stZ, pm_stJ, pm_pZ0, pm_pZ1, pm_stZ0, pm_stZ1, pm_len, pm_cpyI, pm_cpyJ, pm_is, Option.bind_some, pm_u, pm_ur, pm_lt, pm_le, pm_eq, pm_ne, pm_add, pm_sub, pm_z0, pm_z1, cond_true, cond_false, decide_true, decide_false, not_false_eq_true, not_true_eq_false, reduceIte, Nat.reduceEqDiff, Nat.add_eq_left, Nat.left_eq_add, Nat.add_left_cancel_iff, Nat.one_ne_zero, am_cs, s1, c1, c2, s11, c3, this]
/-- what has come to a call -/
def sCl.come (C : sCl) : Nat := if C.kd = 0 then sc_na C.an else if C.kd = 2 then C.row.length else if C.kd = 3 then C.dg.length else 0
theorem cc_come (L : cl_ok K k) (h : cc_at I J k m C) (d : Nat) : f_X0_comeSoFar d k (K, I, J) = some ((nI C.come, 0, none), (K, I, J)) := by
  obtain ⟨L0, L1, L2, L3, R1, R2, R3⟩ := L
  obtain ⟨⟨s0, s1, s3, s4, s5, s6, s7, s8, s11, s13, t2, t14⟩, h2, h3, h4, b1, b2, b3, b4, b5, b6, b7, b8⟩ := h
  have e1 := L1.1
  have e2 := h2.1
  rw [e_X0_comeSoFar]
  unfold sCl.come
  simp (disch := first | assumption | omega) only [pm_gI, pm_gJ, pm_gR, pm_pI, pm_pZ, pm_pJ, pm_ldI, pm_ldJ, pm_ldR, pm_stI, pm_stZ, pm_stJ, pm_pZ0, pm_pZ1, pm_stZ0, pm_stZ1, pm_len, pm_cpyI, pm_cpyJ, pm_is, Option.bind_some, pm_u, pm_ur, pm_lt, pm_le, pm_eq, pm_ne, pm_add, pm_sub, pm_z0, pm_z1, cond_true, cond_false, decide_true, decide_false, not_false_eq_true, not_true_eq_false, reduceIte, Nat.reduceEqDiff, Nat.add_eq_left, Nat.left_eq_add, Nat.add_left_cancel_iff, Nat.one_ne_zero, am_cs, s1, s13, s11, e2]
  have : C.kd = 0 ∨ C.kd = 1 ∨ C.kd = 2 ∨ C.kd = 3 ∨ C.kd = 4 := by omega
  rcases this with c | c | c | c | c <;> (rw [c]; rfl)
/-- the place of a missing digest, from a place on -/
def sc_miss (an : Nat → Nat) (x : Int32) : Nat → Nat → Int32 → Int32
  | 0, _, _ => -nI 1
  | n + 1, i, b => if an i = 2 then (if b = x then nI i else sc_miss an x n (i + 1) (b + nI 1)) else sc_miss an x n (i + 1) b
theorem cc_missLoop (L : cl_ok K k) (h : cc_at I J k m C) (x : Int32) (d : Nat) : ∀ (n i : Nat) (b : Int32), i + n = C.dg.length → l_X0_missingPlace_4 d k x b (nI i) (K, I, J) = some ((sc_miss C.an x n i b, 0, none), (K, I, J)) := by
  obtain ⟨L0, L1, L2, L3, R1, R2, R3⟩ := L
  obtain ⟨⟨s0, s1, s3, s4, s5, s6, s7, s8, s11, s13, t2, t14⟩, h2, h3, h4, b1, b2, b3, b4, b5, b6, b7, b8, b9, b10, b11⟩ := h
  intro n
  induction n with
  | zero =>
    intro i b hi
    have c1 : C.dg.length ≤ i := by omega
    rw [e_l_X0_missingPlace_4]
    simp (disch := first | assumption | omega) only [pm_gI, pm_gJ, pm_gR, pm_pI, pm_pZ, pm_pJ, pm_ldI, pm_ldJ, pm_ldR, pm_stI, pm_stZ, pm_stJ, pm_pZ0, pm_pZ1, pm_stZ0, pm_stZ1, pm_len, pm_cpyI, pm_cpyJ, pm_is, Option.bind_some, pm_u, pm_ur, pm_lt, pm_le, pm_eq, pm_ne, pm_add, pm_sub, pm_z0, pm_z1, cond_true, cond_false, decide_true, decide_false, not_false_eq_true, not_true_eq_false, reduceIte, Nat.reduceEqDiff, Nat.add_eq_left, Nat.left_eq_add, Nat.add_left_cancel_iff, Nat.one_ne_zero, am_cs, s11, c1]
    rfl
  | succ n ih =>
    intro i b hi
    have c1 : ¬ C.dg.length ≤ i := by omega
    have hi4 := h4 i (by omega)
    have hb9 := b9 i
    rw [e_l_X0_missingPlace_4]
    unfold sc_miss
    by_cases c2 : C.an i = 2
    · rw [if_pos c2]
      by_cases c3 : b = x
      · rw [if_pos c3]
        simp (disch := first | assumption | omega) only [pm_gI, pm_gJ, pm_gR, pm_pI, pm_pZ, pm_pJ, pm_ldI, pm_ldJ, pm_ldR, pm_stI, pm_stZ, pm_stJ, pm_pZ0, pm_pZ1, pm_stZ0, pm_stZ1, pm_len, pm_cpyI, pm_cpyJ, pm_is, Option.bind_some, pm_u, pm_ur, pm_lt, pm_le, pm_eq, pm_ne, pm_add, pm_sub, pm_z0, pm_z1, cond_true, cond_false, decide_true, decide_false, not_false_eq_true, not_true_eq_false, reduceIte, Nat.reduceEqDiff, Nat.add_eq_left, Nat.left_eq_add, Nat.add_left_cancel_iff, Nat.one_ne_zero, am_cs, s11, c1, hi4, c2, c3]
      · rw [if_neg c3]
        simp (disch := first | assumption | omega) only [pm_gI, pm_gJ, pm_gR, pm_pI, pm_pZ, pm_pJ, pm_ldI, pm_ldJ, pm_ldR, pm_stI, pm_stZ, pm_stJ, pm_pZ0, pm_pZ1, pm_stZ0, pm_stZ1, pm_len, pm_cpyI, pm_cpyJ, pm_is, Option.bind_some, pm_u, pm_ur, pm_lt, pm_le, pm_eq, pm_ne, pm_add, pm_sub, pm_z0, pm_z1, cond_true, cond_false, decide_true, decide_false, not_false_eq_true, not_true_eq_false, reduceIte, Nat.reduceEqDiff, Nat.add_eq_left, Nat.left_eq_add, Nat.add_left_cancel_iff, Nat.one_ne_zero, am_cs, s11, c1, hi4, c2, c3]
        exact ih (i + 1) _ (by omega)
    · rw [if_neg c2]
      simp (disch := first | assumption | omega) only [pm_gI, pm_gJ, pm_gR, pm_pI, pm_pZ, pm_pJ, pm_ldI, pm_ldJ, pm_ldR, pm_stI, pm_stZ, pm_stJ, pm_pZ0, pm_pZ1, pm_stZ0, pm_stZ1, pm_len, pm_cpyI, pm_cpyJ, pm_is, Option.bind_some, pm_u, pm_ur, pm_lt, pm_le, pm_eq, pm_ne, pm_add, pm_sub, pm_z0, pm_z1, cond_true, cond_false, decide_true, decide_false, not_false_eq_true, not_true_eq_false, reduceIte, Nat.reduceEqDiff, Nat.add_eq_left, Nat.left_eq_add, Nat.add_left_cancel_iff, Nat.one_ne_zero, am_cs, s11, c1, hi4, c2]
      exact ih (i + 1) _ (by omega)
theorem cc_missing (L : cl_ok K k) (h : cc_at I J k m C) (x : Int32) (d : Nat) : f_X0_missingPlace d k x (K, I, J) = some ((sc_miss C.an x C.dg.length 0 (nI 0), 0, none), (K, I, J)) := by
  rw [e_X0_missingPlace]
  exact cc_missLoop L h x d _ 0 _ (by omega)
/-- an answer that comes to a find -/
def sCl.take (C : sCl) (pl v : Nat) : sCl := if pl < C.dg.length ∧ C.an pl = 0 then (if sc_na C.an + 1 = C.dg.length then (C.setAn (fun i => if i = pl then v else C.an i)).fin (nI 1) else C.setAn (fun i => if i = pl then v else C.an i)) else C
theorem cc_takeL (L : cl_ok K k) (h : cc_at I J k m C) (hk : C.kd = 0) {pl v : Nat} (hp : pl < C.dg.length) (ha : C.an pl = 0) (hv : 0 < v) (hv2 : v ≤ 2) (d : Nat) :
    ∃ I' : pm_I, l_X0_takeAnswer_36 (d + 1) k (nI v) (nI pl) (k + 4) (K, I, J) = some ((0, 0, none), (K, I', J)) ∧ cc_at I' J k m (C.take pl v) ∧ pm_fr I I' k 5 := by
  have L' := L
  obtain ⟨L0, L1, L2, L3, R1, R2, R3⟩ := L
  obtain ⟨⟨s0, s1, s3, s4, s5, s6, s7, s8, s11, s13, t2, t14⟩, h2, h3, h4, b1, b2, b3, b4, b5, b6, b7, b8, b9, b10, b11⟩ := h
  have hna := sc_na_le C.an
  have hset := sc_na_set C.an pl v (by omega) ha hv
  unfold sCl.take
  rw [if_pos ⟨hp, ha⟩, e_l_X0_takeAnswer_36]
  have hmid : cc_at (am_u (am_u I (k + 4) pl (nI v)) k 13 (nI (sc_na C.an + 1))) J k m (C.setAn (fun i => if i = pl then v else C.an i)) := by
    refine ⟨?_, rc_congr h2 ?_ ?_, h3, ?_, b1, b2, b3, b4, b5, b6, b7, b8, ?_, ?_, ?_⟩
    · simp [cs_at, sCl_kd_fin, sCl_ac_fin, sCl_bg_fin, sCl_oc_fin, sCl_la_fin, sCl_wt_fin, sCl_wk_fin, sCl_tr_fin, sCl_row_fin, sCl_dg_fin, sCl_an_fin, sCl_xr_fin, sCl_kd_setRow, sCl_ac_setRow, sCl_bg_setRow, sCl_oc_setRow, sCl_la_setRow, sCl_wt_setRow, sCl_wk_setRow, sCl_tr_setRow, sCl_row_setRow, sCl_dg_setRow, sCl_an_setRow, sCl_xr_setRow, sCl_kd_setDg, sCl_ac_setDg, sCl_bg_setDg, sCl_oc_setDg, sCl_la_setDg, sCl_wt_setDg, sCl_wk_setDg, sCl_tr_setDg, sCl_row_setDg, sCl_dg_setDg, sCl_an_setDg, sCl_xr_setDg, sCl_kd_setAn, sCl_ac_setAn, sCl_bg_setAn, sCl_oc_setAn, sCl_la_setAn, sCl_wt_setAn, sCl_wk_setAn, sCl_tr_setAn, sCl_row_setAn, sCl_dg_setAn, sCl_an_setAn, sCl_xr_setAn, sCl_kd_setXr, sCl_ac_setXr, sCl_bg_setXr, sCl_oc_setXr, sCl_la_setXr, sCl_wt_setXr, sCl_wk_setXr, sCl_tr_setXr, sCl_row_setXr, sCl_dg_setXr, sCl_an_setXr, sCl_xr_setXr, sCl_kd_setWt, sCl_ac_setWt, sCl_bg_setWt, sCl_oc_setWt, sCl_la_setWt, sCl_wt_setWt, sCl_wk_setWt, sCl_tr_setWt, sCl_row_setWt, sCl_dg_setWt, sCl_an_setWt, sCl_xr_setWt, sCl_kd_setBg, sCl_ac_setBg, sCl_bg_setBg, sCl_oc_setBg, sCl_la_setBg, sCl_wt_setBg, sCl_wk_setBg, sCl_tr_setBg, sCl_row_setBg, sCl_dg_setBg, sCl_an_setBg, sCl_xr_setBg, sCl_kd_new, sCl_ac_new, sCl_bg_new, sCl_oc_new, sCl_la_new, sCl_wt_new, sCl_wk_new, sCl_tr_new, sCl_row_new, sCl_dg_new, sCl_an_new, sCl_xr_new, pm_u, s0, s1, s3, s4, s5, s6, s7, s8, s11, t2, t14, hset]
    · (repeat (rw [am_u_ne _ _ (by omega)]))
    · (repeat (rw [am_u_ne _ _ (by omega)]))
    · intro i hi
      have := h4 i hi
      by_cases c : i = pl
      · simp [sCl_kd_fin, sCl_ac_fin, sCl_bg_fin, sCl_oc_fin, sCl_la_fin, sCl_wt_fin, sCl_wk_fin, sCl_tr_fin, sCl_row_fin, sCl_dg_fin, sCl_an_fin, sCl_xr_fin, sCl_kd_setRow, sCl_ac_setRow, sCl_bg_setRow, sCl_oc_setRow, sCl_la_setRow, sCl_wt_setRow, sCl_wk_setRow, sCl_tr_setRow, sCl_row_setRow, sCl_dg_setRow, sCl_an_setRow, sCl_xr_setRow, sCl_kd_setDg, sCl_ac_setDg, sCl_bg_setDg, sCl_oc_setDg, sCl_la_setDg, sCl_wt_setDg, sCl_wk_setDg, sCl_tr_setDg, sCl_row_setDg, sCl_dg_setDg, sCl_an_setDg, sCl_xr_setDg, sCl_kd_setAn, sCl_ac_setAn, sCl_bg_setAn, sCl_oc_setAn, sCl_la_setAn, sCl_wt_setAn, sCl_wk_setAn, sCl_tr_setAn, sCl_row_setAn, sCl_dg_setAn, sCl_an_setAn, sCl_xr_setAn, sCl_kd_setXr, sCl_ac_setXr, sCl_bg_setXr, sCl_oc_setXr, sCl_la_setXr, sCl_wt_setXr, sCl_wk_setXr, sCl_tr_setXr, sCl_row_setXr, sCl_dg_setXr, sCl_an_setXr, sCl_xr_setXr, sCl_kd_setWt, sCl_ac_setWt, sCl_bg_setWt, sCl_oc_setWt, sCl_la_setWt, sCl_wt_setWt, sCl_wk_setWt, sCl_tr_setWt, sCl_row_setWt, sCl_dg_setWt, sCl_an_setWt, sCl_xr_setWt, sCl_kd_setBg, sCl_ac_setBg, sCl_bg_setBg, sCl_oc_setBg, sCl_la_setBg, sCl_wt_setBg, sCl_wk_setBg, sCl_tr_setBg, sCl_row_setBg, sCl_dg_setBg, sCl_an_setBg, sCl_xr_setBg, sCl_kd_new, sCl_ac_new, sCl_bg_new, sCl_oc_new, sCl_la_new, sCl_wt_new, sCl_wk_new, sCl_tr_new, sCl_row_new, sCl_dg_new, sCl_an_new, sCl_xr_new, pm_u, c]
      · simp [sCl_kd_fin, sCl_ac_fin, sCl_bg_fin, sCl_oc_fin, sCl_la_fin, sCl_wt_fin, sCl_wk_fin, sCl_tr_fin, sCl_row_fin, sCl_dg_fin, sCl_an_fin, sCl_xr_fin, sCl_kd_setRow, sCl_ac_setRow, sCl_bg_setRow, sCl_oc_setRow, sCl_la_setRow, sCl_wt_setRow, sCl_wk_setRow, sCl_tr_setRow, sCl_row_setRow, sCl_dg_setRow, sCl_an_setRow, sCl_xr_setRow, sCl_kd_setDg, sCl_ac_setDg, sCl_bg_setDg, sCl_oc_setDg, sCl_la_setDg, sCl_wt_setDg, sCl_wk_setDg, sCl_tr_setDg, sCl_row_setDg, sCl_dg_setDg, sCl_an_setDg, sCl_xr_setDg, sCl_kd_setAn, sCl_ac_setAn, sCl_bg_setAn, sCl_oc_setAn, sCl_la_setAn, sCl_wt_setAn, sCl_wk_setAn, sCl_tr_setAn, sCl_row_setAn, sCl_dg_setAn, sCl_an_setAn, sCl_xr_setAn, sCl_kd_setXr, sCl_ac_setXr, sCl_bg_setXr, sCl_oc_setXr, sCl_la_setXr, sCl_wt_setXr, sCl_wk_setXr, sCl_tr_setXr, sCl_row_setXr, sCl_dg_setXr, sCl_an_setXr, sCl_xr_setXr, sCl_kd_setWt, sCl_ac_setWt, sCl_bg_setWt, sCl_oc_setWt, sCl_la_setWt, sCl_wt_setWt, sCl_wk_setWt, sCl_tr_setWt, sCl_row_setWt, sCl_dg_setWt, sCl_an_setWt, sCl_xr_setWt, sCl_kd_setBg, sCl_ac_setBg, sCl_bg_setBg, sCl_oc_setBg, sCl_la_setBg, sCl_wt_setBg, sCl_wk_setBg, sCl_tr_setBg, sCl_row_setBg, sCl_dg_setBg, sCl_an_setBg, sCl_xr_setBg, sCl_kd_new, sCl_ac_new, sCl_bg_new, sCl_oc_new, sCl_la_new, sCl_wt_new, sCl_wk_new, sCl_tr_new, sCl_row_new, sCl_dg_new, sCl_an_new, sCl_xr_new, pm_u, c, this]
    · intro i
      show (if i = pl then v else C.an i) ≤ 2
      have := b9 i
      split <;> omega
    · intro i hi
      show (if i = pl then v else C.an i) = 0
      have hi : C.dg.length ≤ i := hi
      rw [if_neg (by omega)]
      exact b10 i hi
    · intro i hc
      exact absurd hk hc
  have hfr : pm_fr I (am_u (am_u I (k + 4) pl (nI v)) k 13 (nI (sc_na C.an + 1))) k 5 := fun a ha => by rw [am_u_ne _ _ (by omega), am_u_ne _ _ (by omega)]
  by_cases c : sc_na C.an + 1 = C.dg.length
  · obtain ⟨I', g1, g2, g3⟩ := cc_finish L' hmid (nI 1) (by decide +kernel) d
    rw [if_pos c]
    rw [← c] at s11
    simp (disch := first | assumption | omega) only [pm_gI, pm_gJ, pm_gR, pm_pI, pm_pZ, pm_pJ, pm_ldI, pm_ldJ, pm_ldR, pm_stI, pm_stZ, pm_stJ, pm_pZ0, pm_pZ1, pm_stZ0, pm_stZ1, pm_len, pm_cpyI, pm_cpyJ, pm_is, Option.bind_some, pm_u, pm_ur, pm_lt, pm_le, pm_eq, pm_ne, pm_add, pm_sub, pm_z0, pm_z1, cond_true, cond_false, decide_true, decide_false, not_false_eq_true, not_true_eq_false, reduceIte, Nat.reduceEqDiff, Nat.add_eq_left, Nat.left_eq_add, Nat.add_left_cancel_iff, Nat.one_ne_zero, am_cs, s13, s11, g1]
    exact ⟨I', rfl, g2, hfr.trans (g3.mono (by omega) (by omega))⟩
  · rw [if_neg c]
    simp (disch := first | assumption | omega) only [pm_gI, pm_gJ, pm_gR, pm_pI, pm_pZ, pm_pJ, pm_ldI, pm_ldJ, pm_ldR, pm_stI, pm_stZ, pm_stJ, pm_pZ0, pm_pZ1, pm_stZ0, pm_stZ1, pm_len, pm_cpyI, pm_cpyJ, pm_is, Option.bind_some, pm_u, pm_ur, pm_lt, pm_le, pm_eq, pm_ne, pm_add, pm_sub, pm_z0, pm_z1, cond_true, cond_false, decide_true, decide_false, not_false_eq_true, not_true_eq_false, reduceIte, Nat.reduceEqDiff, Nat.add_eq_left, Nat.left_eq_add, Nat.add_left_cancel_iff, Nat.one_ne_zero, am_cs, s13, s11, c]
    exact ⟨_, rfl, hmid, hfr⟩
theorem cc_take (L : cl_ok K k) (h : cc_at I J k m C) (hk : C.kd = 0) {pl t : Nat} (hp : pl < 256) (ht : t ≤ 1) (d : Nat) :
    ∃ I' : pm_I, f_X0_takeAnswer (d + 1) k (nI pl) (nI t) (K, I, J) = some ((0, 0, none), (K, I', J)) ∧ cc_at I' J k m (C.take pl (if t = 0 then 2 else 1)) ∧ pm_fr I I' k 5 := by
  by_cases c : pl < C.dg.length ∧ C.an pl = 0
  · obtain ⟨I', g1, g2, g3⟩ := cc_takeL (d := d) L h hk (v := if t = 0 then 2 else 1) c.1 c.2 (by split <;> omega) (by split <;> omega)
    obtain ⟨L0, L1, L2, L3, R1, R2, R3⟩ := L
    obtain ⟨⟨s0, s1, s3, s4, s5, s6, s7, s8, s11, s13, t2, t14⟩, h2, h3, h4, b1, b2, b3, b4, b5, b6, b7, b8, b9, b10, b11⟩ := h
    have c1 : ¬ C.dg.length ≤ pl := by omega
    have hi4 := h4 pl (by omega)
    rw [c.2] at hi4
    rw [e_X0_takeAnswer]
    by_cases c2 : t = 0
    · rw [if_pos c2] at g1 g2
      rw [if_pos c2]
      simp (disch := first | assumption | omega) only [pm_gI, pm_gJ, pm_gR, pm_pI, pm_pZ, pm_pJ, pm_ldI, pm_ldJ, pm_ldR, pm_stI, pm_stZ, pm_stJ, pm_pZ0, pm_pZ1, pm_stZ0, pm_stZ1, pm_len, pm_cpyI, pm_cpyJ, pm_is, Option.bind_some, pm_u, pm_ur, pm_lt, pm_le, pm_eq, pm_ne, pm_add, pm_sub, pm_z0, pm_z1, cond_true, cond_false, decide_true, decide_false, not_false_eq_true, not_true_eq_false, reduceIte, Nat.reduceEqDiff, Nat.add_eq_left, Nat.left_eq_add, Nat.add_left_cancel_iff, Nat.one_ne_zero, am_cs, s11, c1, hi4, c2, g1, Nat.not_lt_zero]
      exact ⟨I', rfl, g2, g3⟩
    · rw [if_neg c2] at g1 g2
      rw [if_neg c2]
      simp (disch := first | assumption | omega) only [pm_gI, pm_gJ, pm_gR, pm_pI, pm_pZ, pm_pJ, pm_ldI, pm_ldJ, pm_ldR, pm_stI, pm_stZ, pm_stJ, pm_pZ0, pm_pZ1, pm_stZ0, pm_stZ1, pm_len, pm_cpyI, pm_cpyJ, pm_is, Option.bind_some, pm_u, pm_ur, pm_lt, pm_le, pm_eq, pm_ne, pm_add, pm_sub, pm_z0, pm_z1, cond_true, cond_false, decide_true, decide_false, not_false_eq_true, not_true_eq_false, reduceIte, Nat.reduceEqDiff, Nat.add_eq_left, Nat.left_eq_add, Nat.add_left_cancel_iff, Nat.one_ne_zero, am_cs, s11, c1, hi4, c2, g1, Nat.not_lt_zero]
      exact ⟨I', rfl, g2, g3⟩
  · have he : C.take pl (if t = 0 then 2 else 1) = C := by
      unfold sCl.take
      rw [if_neg c]
    rw [he]
    have h' := h
    obtain ⟨L0, L1, L2, L3, R1, R2, R3⟩ := L
    obtain ⟨⟨s0, s1, s3, s4, s5, s6, s7, s8, s11, s13, t2, t14⟩, h2, h3, h4, b1, b2, b3, b4, b5, b6, b7, b8, b9, b10, b11⟩ := h
    rw [e_X0_takeAnswer]
    by_cases c1 : C.dg.length ≤ pl
    · simp (disch := first | assumption | omega) only [pm_gI, pm_gJ, pm_gR, pm_pI, pm_pZ, pm_pJ, pm_ldI, pm_ldJ, pm_ldR, pm_stI, pm_stZ, pm_stJ, pm_pZ0, pm_pZ1, pm_stZ0, pm_stZ1, pm_len, pm_cpyI, pm_cpyJ, pm_is, Option.bind_some, pm_u, pm_ur, pm_lt, pm_le, pm_eq, pm_ne, pm_add, pm_sub, pm_z0, pm_z1, cond_true, cond_false, decide_true, decide_false, not_false_eq_true, not_true_eq_false, reduceIte, Nat.reduceEqDiff, Nat.add_eq_left, Nat.left_eq_add, Nat.add_left_cancel_iff, Nat.one_ne_zero, am_cs, s11, c1, Nat.not_lt_zero]
      exact ⟨I, rfl, h', pm_fr.refl _ _ _⟩
    · have hi4 := h4 pl (by omega)
      have hn : ¬ C.an pl = 0 := fun hh => c ⟨by omega, hh⟩
      have hb9 := b9 pl
      simp (disch := first | assumption | omega) only [pm_gI, pm_gJ, pm_gR, pm_pI, pm_pZ, pm_pJ, pm_ldI, pm_ldJ, pm_ldR, pm_stI, pm_stZ, pm_stJ, pm_pZ0, pm_pZ1, pm_stZ0, pm_stZ1, pm_len, pm_cpyI, pm_cpyJ, pm_is, Option.bind_some, pm_u, pm_ur, pm_lt, pm_le, pm_eq, pm_ne, pm_add, pm_sub, pm_z0, pm_z1, cond_true, cond_false, decide_true, decide_false, not_false_eq_true, not_true_eq_false, reduceIte, Nat.reduceEqDiff, Nat.add_eq_left, Nat.left_eq_add, Nat.add_left_cancel_iff, Nat.one_ne_zero, am_cs, s11, c1, hi4, hn, Nat.not_lt_zero]
      exact ⟨I, rfl, h', pm_fr.refl _ _ _⟩
end CLM
