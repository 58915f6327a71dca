/-! THE SPEC'S WHOLE STATE, and the class's -/
/-- ways to the server and to the client; bytes gathered at the server and at the client; calls, how many are made, the clock; the server; breaks -/
abbrev sT : Type := (sWy) × (sWy) × (List Nat) × (List Nat) × (Nat → sCl) × (Nat) × (Nat) × (sSv) × (Nat)
def sT.w0 (T : sT) : sWy := T.1
def sT.w1 (T : sT) : sWy := T.2.1
def sT.g0 (T : sT) : List Nat := T.2.2.1
def sT.g1 (T : sT) : List Nat := T.2.2.2.1
def sT.cs (T : sT) : Nat → sCl := T.2.2.2.2.1
def sT.mk (T : sT) : Nat := T.2.2.2.2.2.1
def sT.ck (T : sT) : Nat := T.2.2.2.2.2.2.1
def sT.sv (T : sT) : sSv := T.2.2.2.2.2.2.2.1
def sT.bk (T : sT) : Nat := T.2.2.2.2.2.2.2.2
def sT.setK (T : sT) (y1 : sWy) (y2 : Nat → sCl) (y3 : Nat) (y4 : Nat) : sT := (y1, T.w1, T.g0, T.g1, y2, y3, y4, T.sv, T.bk)
def sT.setC (T : sT) (y1 : sWy) (y2 : Nat → sCl) : sT := (y1, T.w1, T.g0, T.g1, y2, T.mk, T.ck, T.sv, T.bk)
def sT.setS (T : sT) (y1 : sWy) (y2 : sSv) : sT := (T.w0, y1, T.g0, T.g1, T.cs, T.mk, T.ck, y2, T.bk)
def sT.setW0 (T : sT) (y1 : sWy) : sT := (y1, T.w1, T.g0, T.g1, T.cs, T.mk, T.ck, T.sv, T.bk)
def sT.setW1 (T : sT) (y1 : sWy) : sT := (T.w0, y1, T.g0, T.g1, T.cs, T.mk, T.ck, T.sv, T.bk)
def sT.setG0 (T : sT) (y1 : List Nat) : sT := (T.w0, T.w1, y1, T.g1, T.cs, T.mk, T.ck, T.sv, T.bk)
def sT.setG1 (T : sT) (y1 : List Nat) : sT := (T.w0, T.w1, T.g0, y1, T.cs, T.mk, T.ck, T.sv, T.bk)
def sT.setBk (T : sT) (y1 : Nat) : sT := (T.w0, T.w1, T.g0, T.g1, T.cs, T.mk, T.ck, T.sv, y1)
def sT.setL (T : sT) (y1 : sWy) (y2 : sWy) (y3 : List Nat) (y4 : List Nat) : sT := (y1, y2, y3, y4, T.cs, T.mk, T.ck, T.sv, T.bk)
theorem sT_w0_setK (T : sT) (y1 : sWy) (y2 : Nat → sCl) (y3 : Nat) (y4 : Nat) : (T.setK y1 y2 y3 y4).w0 = y1 := rfl
theorem sT_w1_setK (T : sT) (y1 : sWy) (y2 : Nat → sCl) (y3 : Nat) (y4 : Nat) : (T.setK y1 y2 y3 y4).w1 = T.w1 := rfl
theorem sT_g0_setK (T : sT) (y1 : sWy) (y2 : Nat → sCl) (y3 : Nat) (y4 : Nat) : (T.setK y1 y2 y3 y4).g0 = T.g0 := rfl
theorem sT_g1_setK (T : sT) (y1 : sWy) (y2 : Nat → sCl) (y3 : Nat) (y4 : Nat) : (T.setK y1 y2 y3 y4).g1 = T.g1 := rfl
theorem sT_cs_setK (T : sT) (y1 : sWy) (y2 : Nat → sCl) (y3 : Nat) (y4 : Nat) : (T.setK y1 y2 y3 y4).cs = y2 := rfl
theorem sT_mk_setK (T : sT) (y1 : sWy) (y2 : Nat → sCl) (y3 : Nat) (y4 : Nat) : (T.setK y1 y2 y3 y4).mk = y3 := rfl
theorem sT_ck_setK (T : sT) (y1 : sWy) (y2 : Nat → sCl) (y3 : Nat) (y4 : Nat) : (T.setK y1 y2 y3 y4).ck = y4 := rfl
theorem sT_sv_setK (T : sT) (y1 : sWy) (y2 : Nat → sCl) (y3 : Nat) (y4 : Nat) : (T.setK y1 y2 y3 y4).sv = T.sv := rfl
theorem sT_bk_setK (T : sT) (y1 : sWy) (y2 : Nat → sCl) (y3 : Nat) (y4 : Nat) : (T.setK y1 y2 y3 y4).bk = T.bk := rfl
theorem sT_w0_setC (T : sT) (y1 : sWy) (y2 : Nat → sCl) : (T.setC y1 y2).w0 = y1 := rfl
theorem sT_w1_setC (T : sT) (y1 : sWy) (y2 : Nat → sCl) : (T.setC y1 y2).w1 = T.w1 := rfl
theorem sT_g0_setC (T : sT) (y1 : sWy) (y2 : Nat → sCl) : (T.setC y1 y2).g0 = T.g0 := rfl
theorem sT_g1_setC (T : sT) (y1 : sWy) (y2 : Nat → sCl) : (T.setC y1 y2).g1 = T.g1 := rfl
theorem sT_cs_setC (T : sT) (y1 : sWy) (y2 : Nat → sCl) : (T.setC y1 y2).cs = y2 := rfl
theorem sT_mk_setC (T : sT) (y1 : sWy) (y2 : Nat → sCl) : (T.setC y1 y2).mk = T.mk := rfl
theorem sT_ck_setC (T : sT) (y1 : sWy) (y2 : Nat → sCl) : (T.setC y1 y2).ck = T.ck := rfl
theorem sT_sv_setC (T : sT) (y1 : sWy) (y2 : Nat → sCl) : (T.setC y1 y2).sv = T.sv := rfl
theorem sT_bk_setC (T : sT) (y1 : sWy) (y2 : Nat → sCl) : (T.setC y1 y2).bk = T.bk := rfl
theorem sT_w0_setS (T : sT) (y1 : sWy) (y2 : sSv) : (T.setS y1 y2).w0 = T.w0 := rfl
theorem sT_w1_setS (T : sT) (y1 : sWy) (y2 : sSv) : (T.setS y1 y2).w1 = y1 := rfl
theorem sT_g0_setS (T : sT) (y1 : sWy) (y2 : sSv) : (T.setS y1 y2).g0 = T.g0 := rfl
theorem sT_g1_setS (T : sT) (y1 : sWy) (y2 : sSv) : (T.setS y1 y2).g1 = T.g1 := rfl
theorem sT_cs_setS (T : sT) (y1 : sWy) (y2 : sSv) : (T.setS y1 y2).cs = T.cs := rfl
theorem sT_mk_setS (T : sT) (y1 : sWy) (y2 : sSv) : (T.setS y1 y2).mk = T.mk := rfl
theorem sT_ck_setS (T : sT) (y1 : sWy) (y2 : sSv) : (T.setS y1 y2).ck = T.ck := rfl
theorem sT_sv_setS (T : sT) (y1 : sWy) (y2 : sSv) : (T.setS y1 y2).sv = y2 := rfl
theorem sT_bk_setS (T : sT) (y1 : sWy) (y2 : sSv) : (T.setS y1 y2).bk = T.bk := rfl
theorem sT_w0_setW0 (T : sT) (y1 : sWy) : (T.setW0 y1).w0 = y1 := rfl
theorem sT_w1_setW0 (T : sT) (y1 : sWy) : (T.setW0 y1).w1 = T.w1 := rfl
theorem sT_g0_setW0 (T : sT) (y1 : sWy) : (T.setW0 y1).g0 = T.g0 := rfl
theorem sT_g1_setW0 (T : sT) (y1 : sWy) : (T.setW0 y1).g1 = T.g1 := rfl
theorem sT_cs_setW0 (T : sT) (y1 : sWy) : (T.setW0 y1).cs = T.cs := rfl
theorem sT_mk_setW0 (T : sT) (y1 : sWy) : (T.setW0 y1).mk = T.mk := rfl
theorem sT_ck_setW0 (T : sT) (y1 : sWy) : (T.setW0 y1).ck = T.ck := rfl
theorem sT_sv_setW0 (T : sT) (y1 : sWy) : (T.setW0 y1).sv = T.sv := rfl
theorem sT_bk_setW0 (T : sT) (y1 : sWy) : (T.setW0 y1).bk = T.bk := rfl
theorem sT_w0_setW1 (T : sT) (y1 : sWy) : (T.setW1 y1).w0 = T.w0 := rfl
theorem sT_w1_setW1 (T : sT) (y1 : sWy) : (T.setW1 y1).w1 = y1 := rfl
theorem sT_g0_setW1 (T : sT) (y1 : sWy) : (T.setW1 y1).g0 = T.g0 := rfl
theorem sT_g1_setW1 (T : sT) (y1 : sWy) : (T.setW1 y1).g1 = T.g1 := rfl
theorem sT_cs_setW1 (T : sT) (y1 : sWy) : (T.setW1 y1).cs = T.cs := rfl
theorem sT_mk_setW1 (T : sT) (y1 : sWy) : (T.setW1 y1).mk = T.mk := rfl
theorem sT_ck_setW1 (T : sT) (y1 : sWy) : (T.setW1 y1).ck = T.ck := rfl
theorem sT_sv_setW1 (T : sT) (y1 : sWy) : (T.setW1 y1).sv = T.sv := rfl
theorem sT_bk_setW1 (T : sT) (y1 : sWy) : (T.setW1 y1).bk = T.bk := rfl
theorem sT_w0_setG0 (T : sT) (y1 : List Nat) : (T.setG0 y1).w0 = T.w0 := rfl
theorem sT_w1_setG0 (T : sT) (y1 : List Nat) : (T.setG0 y1).w1 = T.w1 := rfl
theorem sT_g0_setG0 (T : sT) (y1 : List Nat) : (T.setG0 y1).g0 = y1 := rfl
theorem sT_g1_setG0 (T : sT) (y1 : List Nat) : (T.setG0 y1).g1 = T.g1 := rfl
theorem sT_cs_setG0 (T : sT) (y1 : List Nat) : (T.setG0 y1).cs = T.cs := rfl
theorem sT_mk_setG0 (T : sT) (y1 : List Nat) : (T.setG0 y1).mk = T.mk := rfl
theorem sT_ck_setG0 (T : sT) (y1 : List Nat) : (T.setG0 y1).ck = T.ck := rfl
theorem sT_sv_setG0 (T : sT) (y1 : List Nat) : (T.setG0 y1).sv = T.sv := rfl
theorem sT_bk_setG0 (T : sT) (y1 : List Nat) : (T.setG0 y1).bk = T.bk := rfl
theorem sT_w0_setG1 (T : sT) (y1 : List Nat) : (T.setG1 y1).w0 = T.w0 := rfl
theorem sT_w1_setG1 (T : sT) (y1 : List Nat) : (T.setG1 y1).w1 = T.w1 := rfl
theorem sT_g0_setG1 (T : sT) (y1 : List Nat) : (T.setG1 y1).g0 = T.g0 := rfl
theorem sT_g1_setG1 (T : sT) (y1 : List Nat) : (T.setG1 y1).g1 = y1 := rfl
theorem sT_cs_setG1 (T : sT) (y1 : List Nat) : (T.setG1 y1).cs = T.cs := rfl
theorem sT_mk_setG1 (T : sT) (y1 : List Nat) : (T.setG1 y1).mk = T.mk := rfl
theorem sT_ck_setG1 (T : sT) (y1 : List Nat) : (T.setG1 y1).ck = T.ck := rfl
theorem sT_sv_setG1 (T : sT) (y1 : List Nat) : (T.setG1 y1).sv = T.sv := rfl
theorem sT_bk_setG1 (T : sT) (y1 : List Nat) : (T.setG1 y1).bk = T.bk := rfl
theorem sT_w0_setBk (T : sT) (y1 : Nat) : (T.setBk y1).w0 = T.w0 := rfl
theorem sT_w1_setBk (T : sT) (y1 : Nat) : (T.setBk y1).w1 = T.w1 := rfl
theorem sT_g0_setBk (T : sT) (y1 : Nat) : (T.setBk y1).g0 = T.g0 := rfl
theorem sT_g1_setBk (T : sT) (y1 : Nat) : (T.setBk y1).g1 = T.g1 := rfl
theorem sT_cs_setBk (T : sT) (y1 : Nat) : (T.setBk y1).cs = T.cs := rfl
theorem sT_mk_setBk (T : sT) (y1 : Nat) : (T.setBk y1).mk = T.mk := rfl
theorem sT_ck_setBk (T : sT) (y1 : Nat) : (T.setBk y1).ck = T.ck := rfl
theorem sT_sv_setBk (T : sT) (y1 : Nat) : (T.setBk y1).sv = T.sv := rfl
theorem sT_bk_setBk (T : sT) (y1 : Nat) : (T.setBk y1).bk = y1 := rfl
theorem sT_w0_setL (T : sT) (y1 : sWy) (y2 : sWy) (y3 : List Nat) (y4 : List Nat) : (T.setL y1 y2 y3 y4).w0 = y1 := rfl
theorem sT_w1_setL (T : sT) (y1 : sWy) (y2 : sWy) (y3 : List Nat) (y4 : List Nat) : (T.setL y1 y2 y3 y4).w1 = y2 := rfl
theorem sT_g0_setL (T : sT) (y1 : sWy) (y2 : sWy) (y3 : List Nat) (y4 : List Nat) : (T.setL y1 y2 y3 y4).g0 = y3 := rfl
theorem sT_g1_setL (T : sT) (y1 : sWy) (y2 : sWy) (y3 : List Nat) (y4 : List Nat) : (T.setL y1 y2 y3 y4).g1 = y4 := rfl
theorem sT_cs_setL (T : sT) (y1 : sWy) (y2 : sWy) (y3 : List Nat) (y4 : List Nat) : (T.setL y1 y2 y3 y4).cs = T.cs := rfl
theorem sT_mk_setL (T : sT) (y1 : sWy) (y2 : sWy) (y3 : List Nat) (y4 : List Nat) : (T.setL y1 y2 y3 y4).mk = T.mk := rfl
theorem sT_ck_setL (T : sT) (y1 : sWy) (y2 : sWy) (y3 : List Nat) (y4 : List Nat) : (T.setL y1 y2 y3 y4).ck = T.ck := rfl
theorem sT_sv_setL (T : sT) (y1 : sWy) (y2 : sWy) (y3 : List Nat) (y4 : List Nat) : (T.setL y1 y2 y3 y4).sv = T.sv := rfl
theorem sT_bk_setL (T : sT) (y1 : sWy) (y2 : sWy) (y3 : List Nat) (y4 : List Nat) : (T.setL y1 y2 y3 y4).bk = T.bk := rfl
def tl_ok (K : am_K) : Prop := pm_sh K 0 = (0, 8) ∧ pm_R K 0 0 = some 1 ∧ pm_R K 0 1 = some 5 ∧ pm_R K 0 2 = some 9 ∧ pm_R K 0 3 = some 11 ∧ pm_R K 0 4 = some 13 ∧ pm_R K 0 5 = some 165 ∧ kl_ok K ∧ sl_ok K ∧ xl_ok K 9 ∧ xl_ok K 11
def tc_at (I : pm_I) (J : pm_J) (p : Nat) (T : sT) : Prop := kc_at I J p T.w0 T.cs T.mk T.ck ∧ sv_at I J p T.w1 T.sv ∧ (xc_at I 9 p T.g0 ∧ sg_ok p T.g0) ∧ (xc_at I 11 p T.g1 ∧ sg_ok p T.g1) ∧ I 0 6 = nI T.bk
/-- what lies above the class's cells has not changed -/
def tf_at {α : Type} (I I' : Nat → α) : Prop := ∀ a, 370 ≤ a → I' a = I a
theorem tf_at.refl {α : Type} (I : Nat → α) : tf_at I I := fun _ _ => rfl
theorem tf_at.trans {α : Type} {I I' I'' : Nat → α} (h : tf_at I I') (h' : tf_at I' I'') : tf_at I I'' := fun a ha => (h' a ha).trans (h a ha)
theorem tf_kg {α : Type} {I I' : Nat → α} (h : kg_at I I') : tf_at I I' := fun a ha => h a (by omega)
theorem tf_sf {α : Type} {I I' : Nat → α} (h : sf_at I I') : tf_at I I' := fun a ha => h a (by omega)
theorem tf_fr {α : Type} {I I' : Nat → α} {x n : Nat} (h : pm_fr I I' x n) (hx : x + n ≤ 370) : tf_at I I' := fun a ha => h a (by omega)
def by8 (b : Int32) : Nat := (b &&& nI 255).toNatClampNeg
theorem by8_eq (b : Int32) : by8 b < 256 ∧ b &&& nI 255 = nI (by8 b) := by
  obtain ⟨k, h1, h2⟩ := pm_and b
  unfold by8
  rw [h2, nI_clamp (by omega)]
  exact ⟨h1, rfl⟩
theorem wu_0 {x : Int32} {n : Nat} (h : ¬ wu_in x n = 1) : wu_in x n = 0 := by
  rcases wu_in01 x n with h' | h'
  · exact h'
  · exact absurd h' h
section TOP
variable {K : am_K} {I I' : pm_I} {J J' : pm_J} {p : Nat} {T : sT}
theorem tc_kc (h : tc_at I J p T) {w : sWy} {cs : Nat → sCl} {mk ck : Nat} (hk : kc_at I' J' p w cs mk ck) (e : kg_at I I') (g : kg_at J J') : tc_at I' J' p (T.setK w cs mk ck) := by
  obtain ⟨h1, h2, ⟨h3, h4⟩, ⟨h5, h6⟩, h7⟩ := h
  refine ⟨hk, sv_congr h2 (fun a _ => e a (by omega)) (fun a _ => g a (by omega)), ⟨xc_congr h3 (e _ (by omega)) (e _ (by omega)), h4⟩, ⟨xc_congr h5 (e _ (by omega)) (e _ (by omega)), h6⟩, ?_⟩
  rw [e 0 (by omega)]
  exact h7
theorem tc_sv (h : tc_at I J p T) {w : sWy} {S : sSv} (hk : sv_at I' J' p w S) (e : sf_at I I') (g : sf_at J J') : tc_at I' J' p (T.setS w S) := by
  obtain ⟨h1, h2, ⟨h3, h4⟩, ⟨h5, h6⟩, h7⟩ := h
  refine ⟨kc_congr h1 (fun a _ => e a (by omega)) (fun a _ => g a (by omega)), hk, ⟨xc_congr h3 (e _ (by omega)) (e _ (by omega)), h4⟩, ⟨xc_congr h5 (e _ (by omega)) (e _ (by omega)), h6⟩, ?_⟩
  rw [e 0 (by omega)]
  exact h7
theorem tc_call (h : tc_at I J p T) {m : Nat} {C : sCl} {w : sWy} (hm : m < T.mk) (hw : wy_at I' 1 p w) (hc : cc_at I' J' (15 + 5 * m) m C) (e : kf_at I I' (15 + 5 * m)) (g : kf_at J J' (15 + 5 * m)) : tc_at I' J' p (T.setC w (su_at T.cs m C)) ∧ tf_at I I' ∧ tf_at J J' := by
  obtain ⟨q1, q2, q3⟩ := kc_upd h.1 hm hw hc e g
  exact ⟨tc_kc h q1 q2 q3, tf_kg q2, tf_kg q3⟩
theorem tc_mk (h : tc_at I J p T) : T.mk ≤ 30 := h.1.2.2.2.1
theorem tc_c (h : tc_at I J p T) {m : Nat} (hm : m < T.mk) : cc_at I J (15 + 5 * m) m (T.cs m) := h.1.2.2.2.2.2.1 m (by have := tc_mk h; omega)
theorem tl_c (L : tl_ok K) {m : Nat} (hm : m < 30) : cl_ok K (15 + 5 * m) := (L.2.2.2.2.2.2.2.1.2.2.2.2.2 m hm).2
/-! the calls of the document -/
def st_call (x : Int32) (v : Int64) (T : sT) : Int32 × sT := if T.mk < 30 ∧ wu_in x 5 = 1 then (nI T.mk, T.setK T.w0 (su_at T.cs T.mk (sCl.made x.toNatClampNeg v)) (T.mk + 1) T.ck) else (-nI 1, T)
theorem tc_callX (L : tl_ok K) (h : tc_at I J p T) (x : Int32) (v : Int64) (d : Nat) : ∃ (I' : pm_I) (J' : pm_J), f_X8_call (d + 1) 0 x v (K, I, J) = some (((st_call x v T).1, 0, none), (K, I', J')) ∧ tc_at I' J' p (st_call x v T).2 ∧ tf_at I I' ∧ tf_at J J' := by
  obtain ⟨l0, l1, l2, l3, l4, l5, l6, l7, l8, l9, l10⟩ := L
  have k0 := l7.1
  rw [e_X8_call]
  unfold st_call
  by_cases c : T.mk < 30 ∧ wu_in x 5 = 1
  · obtain ⟨j, hj, rfl⟩ := wu_in1 (by omega) c.2
    rw [if_pos c, nI_clamp (by omega)]
    obtain ⟨I1, J1, g1, g2, g3, g4⟩ := kc_makeCall l7 h.1 (show j ≤ 4 by omega) c.1 v d
    simp (disch := first | assumption | omega) only [pm_gI, pm_gJ, pm_gR, pm_pI, pm_pZ, pm_pJ, pm_ldI, pm_ldJ, pm_ldR, pm_stI, pm_stZ, pm_stJ, pm_pZ0, pm_pZ1, pm_stZ0, pm_stZ1, pm_len, pm_cpyI, pm_cpyJ, pm_is, Option.bind_some, pm_u, pm_ur, pm_lt, pm_le, pm_eq, pm_ne, pm_add, pm_sub, pm_z0, pm_z1, cond_true, cond_false, decide_true, decide_false, not_false_eq_true, not_true_eq_false, reduceIte, Nat.reduceEqDiff, Nat.add_eq_left, Nat.left_eq_add, Nat.add_left_cancel_iff, Nat.one_ne_zero, am_cs, g1]
    exact ⟨I1, J1, rfl, tc_kc h g2 g3 g4, tf_kg g3, tf_kg g4⟩
  · rw [if_neg c]
    have hmk := tc_mk h
    have g1 := kc_makeCall0 l7 h.1 (y := x) (by
      by_cases c1 : T.mk < 30
      · exact Or.inl (wu_0 (fun hh => c ⟨c1, hh⟩))
      · exact Or.inr (by omega)) v d
    simp (disch := first | assumption | omega) only [pm_gI, pm_gJ, pm_gR, pm_pI, pm_pZ, pm_pJ, pm_ldI, pm_ldJ, pm_ldR, pm_stI, pm_stZ, pm_stJ, pm_pZ0, pm_pZ1, pm_stZ0, pm_stZ1, pm_len, pm_cpyI, pm_cpyJ, pm_is, Option.bind_some, pm_u, pm_ur, pm_lt, pm_le, pm_eq, pm_ne, pm_add, pm_sub, pm_z0, pm_z1, cond_true, cond_false, decide_true, decide_false, not_false_eq_true, not_true_eq_false, reduceIte, Nat.reduceEqDiff, Nat.add_eq_left, Nat.left_eq_add, Nat.add_left_cancel_iff, Nat.one_ne_zero, am_cs, g1]
    exact ⟨I, J, rfl, h, tf_at.refl _, tf_at.refl _⟩
def st_data (x b : Int32) (T : sT) : Int32 × sT := if wu_in x T.mk = 1 ∧ (T.cs x.toNatClampNeg).kd = 1 ∧ (T.cs x.toNatClampNeg).bg = 0 ∧ (T.cs x.toNatClampNeg).row.length < 60 then (nI ((T.cs x.toNatClampNeg).row.length + 1), T.setC T.w0 (su_at T.cs x.toNatClampNeg ((T.cs x.toNatClampNeg).setRow ((T.cs x.toNatClampNeg).row ++ [by8 b])))) else (-nI 1, T)
theorem cc_setRow {k m : Nat} {C : sCl} (hc : cc_at I J k m C) {row : List Nat} (hr : rc_at I' (k + 1) row) (e : pm_fr I I' (k + 1) 2) : cc_at I' J k m (C.setRow row) := by
  obtain ⟨q1, q2, q3, q4, q5⟩ := hc
  refine ⟨?_, hr, q3, ?_, q5⟩
  · rw [e k (by omega)]
    exact q1
  · rw [e (k + 4) (by omega)]
    exact q4
theorem tc_data (L : tl_ok K) (h : tc_at I J p T) (x b : Int32) (d : Nat) : ∃ (I' : pm_I) (J' : pm_J), f_X8_data (d + 2) 0 x b (K, I, J) = some (((st_data x b T).1, 0, none), (K, I', J')) ∧ tc_at I' J' p (st_data x b T).2 ∧ tf_at I I' ∧ tf_at J J' := by
  have L' := L
  obtain ⟨l0, l1, l2, l3, l4, l5, l6, l7, l8, l9, l10⟩ := L
  have k0 := l7.1
  have hmk := tc_mk h
  obtain ⟨hb1, hb2⟩ := by8_eq b
  rw [e_X8_data]
  unfold st_data
  by_cases c0 : wu_in x T.mk = 1
  · obtain ⟨j, hj, rfl⟩ := wu_in1 (by omega) c0
    rw [nI_clamp (by omega)]
    have hw := kc_writeAt l7 h.1 hj d
    have M := tl_c L' (show j < 30 by omega)
    have hc := tc_c h hj
    have m0 := M.1
    have m9 := M.2.2.2.2.1
    have mr := M.2.1.1
    have s3 := hc.1.2.2.1
    have b2 := hc.2.2.2.2.2.1
    by_cases c1 : (T.cs j).kd = 1
    · rw [if_pos c1] at hw
      by_cases c2 : (T.cs j).bg = 0
      · by_cases c3 : (T.cs j).row.length < 60
        · rw [if_pos ⟨c0, c1, c2, c3⟩]
          obtain ⟨I1, g1, g2, g3⟩ := rc_append (J := J) M.2.1 hc.2.1 hb1 c3 (d + 1)
          have hl := g2.1
          rw [List.length_append] at hl
          rw [c2] at s3
          simp (disch := first | assumption | omega) only [pm_gI, pm_gJ, pm_gR, pm_pI, pm_pZ, pm_pJ, pm_ldI, pm_ldJ, pm_ldR, pm_stI, pm_stZ, pm_stJ, pm_pZ0, pm_pZ1, pm_stZ0, pm_stZ1, pm_len, pm_cpyI, pm_cpyJ, pm_is, Option.bind_some, pm_u, pm_ur, pm_lt, pm_le, pm_eq, pm_ne, pm_add, pm_sub, pm_z0, pm_z1, cond_true, cond_false, decide_true, decide_false, not_false_eq_true, not_true_eq_false, reduceIte, Nat.reduceEqDiff, Nat.add_eq_left, Nat.left_eq_add, Nat.add_left_cancel_iff, Nat.one_ne_zero, am_cs, hw, s3, hb2, g1, hl]
          exact ⟨I1, J, rfl, tc_call h hj (wy_call h.1.1 (by omega) g3) (cc_setRow hc g2 g3) (kf_call g3 (by omega) (by omega)) (kf_at.refl _ _)⟩
        · rw [if_neg (fun hh => c3 hh.2.2.2)]
          have hl60 := hc.2.1.2.1
          have g1 := rc_append0 (J := J) M.2.1 hc.2.1 (by omega) (nI (by8 b)) (d + 1)
          rw [c2] at s3
          simp (disch := first | assumption | omega) only [pm_gI, pm_gJ, pm_gR, pm_pI, pm_pZ, pm_pJ, pm_ldI, pm_ldJ, pm_ldR, pm_stI, pm_stZ, pm_stJ, pm_pZ0, pm_pZ1, pm_stZ0, pm_stZ1, pm_len, pm_cpyI, pm_cpyJ, pm_is, Option.bind_some, pm_u, pm_ur, pm_lt, pm_le, pm_eq, pm_ne, pm_add, pm_sub, pm_z0, pm_z1, cond_true, cond_false, decide_true, decide_false, not_false_eq_true, not_true_eq_false, reduceIte, Nat.reduceEqDiff, Nat.add_eq_left, Nat.left_eq_add, Nat.add_left_cancel_iff, Nat.one_ne_zero, am_cs, hw, s3, hb2, g1]
          exact ⟨I, J, rfl, h, tf_at.refl _, tf_at.refl _⟩
      · rw [if_neg (fun hh => c2 hh.2.2.1)]
        simp (disch := first | assumption | omega) only [pm_gI, pm_gJ, pm_gR, pm_pI, pm_pZ, pm_pJ, pm_ldI, pm_ldJ, pm_ldR, pm_stI, pm_stZ, pm_stJ, pm_pZ0, pm_pZ1, pm_stZ0, pm_stZ1, pm_len, pm_cpyI, pm_cpyJ, pm_is, Option.bind_some, pm_u, pm_ur, pm_lt, pm_le, pm_eq, pm_ne, pm_add, pm_sub, pm_z0, pm_z1, cond_true, cond_false, decide_true, decide_false, not_false_eq_true, not_true_eq_false, reduceIte, Nat.reduceEqDiff, Nat.add_eq_left, Nat.left_eq_add, Nat.add_left_cancel_iff, Nat.one_ne_zero, am_cs, hw, s3, c2]
        exact ⟨I, J, rfl, h, tf_at.refl _, tf_at.refl _⟩
    · rw [if_neg (fun hh => c1 hh.2.1)]
      rw [if_neg c1] at hw
      simp (disch := first | assumption | omega) only [pm_gI, pm_gJ, pm_gR, pm_pI, pm_pZ, pm_pJ, pm_ldI, pm_ldJ, pm_ldR, pm_stI, pm_stZ, pm_stJ, pm_pZ0, pm_pZ1, pm_stZ0, pm_stZ1, pm_len, pm_cpyI, pm_cpyJ, pm_is, Option.bind_some, pm_u, pm_ur, pm_lt, pm_le, pm_eq, pm_ne, pm_add, pm_sub, pm_z0, pm_z1, cond_true, cond_false, decide_true, decide_false, not_false_eq_true, not_true_eq_false, reduceIte, Nat.reduceEqDiff, Nat.add_eq_left, Nat.left_eq_add, Nat.add_left_cancel_iff, Nat.one_ne_zero, am_cs, hw]
      exact ⟨I, J, rfl, h, tf_at.refl _, tf_at.refl _⟩
  · rw [if_neg (fun hh => c0 hh.1)]
    have hw := kc_writeAt0 l7 h.1 (wu_0 c0) d
    simp (disch := first | assumption | omega) only [pm_gI, pm_gJ, pm_gR, pm_pI, pm_pZ, pm_pJ, pm_ldI, pm_ldJ, pm_ldR, pm_stI, pm_stZ, pm_stJ, pm_pZ0, pm_pZ1, pm_stZ0, pm_stZ1, pm_len, pm_cpyI, pm_cpyJ, pm_is, Option.bind_some, pm_u, pm_ur, pm_lt, pm_le, pm_eq, pm_ne, pm_add, pm_sub, pm_z0, pm_z1, cond_true, cond_false, decide_true, decide_false, not_false_eq_true, not_true_eq_false, reduceIte, Nat.reduceEqDiff, Nat.add_eq_left, Nat.left_eq_add, Nat.add_left_cancel_iff, Nat.one_ne_zero, am_cs, hw]
    exact ⟨I, J, rfl, h, tf_at.refl _, tf_at.refl _⟩
end TOP
