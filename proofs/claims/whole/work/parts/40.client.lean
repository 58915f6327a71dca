/-! THE CLASS'S CLIENT: calls are opened, frames are heeded -/
def sWy.finds (m : Nat) (dg : List Int64) (an : Nat → Nat) : Nat → Nat → sWy → sWy
  | 0, _, W => W
  | n + 1, i, W => sWy.finds m dg an n (i + 1) (if an i = 0 then W.send (wf_all m 0 i (lb_long (dg.getD i 0))) else W)
def sWy.tells (m : Nat) (dg : List Int64) : Nat → Nat → sWy → sWy
  | 0, _, W => W
  | n + 1, i, W => sWy.tells m dg n (i + 1) (W.send (wf_all m 5 i (lb_long (dg.getD i 0))))
/-- what a call is, and the way, when it has been opened -/
def so_openC (C : sCl) : sCl := if C.kd = 0 then (if C.dg.length = 0 then C.fin (nI 1) else C) else if C.kd = 3 then C.setDg [] else C
def so_openW (m : Nat) (C : sCl) (W : sWy) : sWy := if C.kd = 0 then W.finds m C.dg C.an C.dg.length 0 else if C.kd = 1 then W.send (wf_all m 1 0 (lb_long (C.digAt (nI 0)))) else if C.kd = 2 then W.send (wf_all m 2 C.row.length (lb_long (C.digAt (nI 0)))) else if C.kd = 3 then W.send (wf_all m 3 0 (lb_long C.ac)) else ((W.send (wf_all m 4 0 (lb_long C.ac))).tells m C.dg C.dg.length 0).send (wf_all m 6 C.dg.length [])
/-- nothing but the cells of a call and of the client's way has changed -/
def kf_at {α : Type} (I I' : Nat → α) (k : Nat) : Prop := ∀ a, a < 1 ∨ 5 ≤ a → a < k ∨ k + 5 ≤ a → I' a = I a
theorem kf_at.refl {α : Type} (I : Nat → α) (k : Nat) : kf_at I I k := fun _ _ _ => rfl
theorem kf_at.trans {α : Type} {I I' I'' : Nat → α} {k : Nat} (h : kf_at I I' k) (h' : kf_at I' I'' k) : kf_at I I'' k := fun a ha hb => (h' a ha hb).trans (h a ha hb)
theorem kf_way {I I' : pm_I} {k : Nat} (h : pm_fr I I' 1 4) : kf_at I I' k := fun a ha _ => h a (by omega)
theorem kf_call {α : Type} {I I' : Nat → α} {k x n : Nat} (h : pm_fr I I' x n) (h1 : k ≤ x) (h2 : x + n ≤ k + 5) : kf_at I I' k := fun a _ hb => h a (by omega)
/-- where the client's cells lie -/
def kl_ok (K : am_K) : Prop := pm_sh K 13 = (0, 1) ∧ pm_sh K 14 = (4, 30) ∧ pm_R K 13 0 = some 1 ∧ pm_R K 13 1 = some 14 ∧ wl_ok K 1 ∧ ∀ i, i < 30 → pm_R K 14 i = some (15 + 5 * i) ∧ cl_ok K (15 + 5 * i)
section KLM
variable {K : am_K} {I : pm_I} {J : pm_J} {k m p : Nat} {C : sCl} {W : sWy}
theorem cc_way {I' : pm_I} (h : cc_at I J k m C) (hk : 15 ≤ k) (e : pm_fr I I' 1 4) : cc_at I' J k m C := cc_congr h (fun a _ _ => e a (by omega)) (fun _ _ _ => rfl)
theorem wy_call {I' : pm_I} {x n : Nat} (h : wy_at I 1 p W) (hk : 15 ≤ x) (e : pm_fr I I' x n) : wy_at I' 1 p W := wy_fr h e (by omega)
theorem kc_findsLoop (L : kl_ok K) (M : cl_ok K k) (hk : 15 ≤ k) (hm : m < 256) (d : Nat) : ∀ (n i : Nat) (I : pm_I) (W : sWy), i + n = C.dg.length → wy_at I 1 p W → cc_at I J k m C →
    ∃ I' : pm_I, l_X1_openFind_14 (d + 3) 13 k (nI i) (K, I, J) = some ((0, 0, none), (K, I', J)) ∧ wy_at I' 1 p (W.finds m C.dg C.an n i) ∧ pm_fr I I' 1 4 := by
  intro n
  induction n with
  | zero =>
    intro i I W hi hw hc
    obtain ⟨L0, L1, L2, L3, R1, R2, R3⟩ := M
    obtain ⟨⟨s0, s1, s3, s4, s5, s6, s7, s8, s11, s13, t2, t14⟩, h2, h3, h4, b1, b2, b3, b4, b5, b6, b7, b8, b9, b10, b11⟩ := hc
    have c1 : C.dg.length ≤ i := by omega
    rw [e_l_X1_openFind_14]
    simp (disch := first | assumption | omega) only [pm_gI, pm_gJ, pm_gR, pm_pI, pm_pZ, pm_pJ, pm_ldI, pm_ldJ, pm_ldR, pm_stI, pm_stZ, pm_stJ, pm_pZ0, pm_pZ1, pm_stZ0, pm_stZ1, pm_len, pm_cpyI, pm_cpyJ, pm_is, Option.bind_some, pm_u, pm_ur, pm_lt, pm_le, pm_eq, pm_ne, pm_add, pm_sub, pm_z0, pm_z1, cond_true, cond_false, decide_true, decide_false, not_false_eq_true, not_true_eq_false, reduceIte, Nat.reduceEqDiff, Nat.add_eq_left, Nat.left_eq_add, Nat.add_left_cancel_iff, Nat.one_ne_zero, am_cs, s11, c1]
    exact ⟨I, rfl, hw, pm_fr.refl _ _ _⟩
  | succ n ih =>
    intro i I W hi hw hc
    have hc' := hc
    have M' := M
    obtain ⟨L0, L1, L2, L3, R1, R2, R3⟩ := M
    obtain ⟨⟨s0, s1, s3, s4, s5, s6, s7, s8, s11, s13, t2, t14⟩, h2, h3, h4, b1, b2, b3, b4, b5, b6, b7, b8, b9, b10, b11⟩ := hc
    obtain ⟨k0, k1, k2, k3, k4, k5⟩ := L
    have c1 : ¬ C.dg.length ≤ i := by omega
    have hi4 := h4 i (by omega)
    have hb9 := b9 i
    have hj := h3 i (by omega)
    rw [e_l_X1_openFind_14]
    unfold sWy.finds
    by_cases c2 : C.an i = 0
    · rw [if_pos c2]
      obtain ⟨I1, g1, g2, g3⟩ := wy_sendNumber (J := J) (kd := 0) (pl := i) (C.dg.getD i 0) k4 hw hm (by omega) (by omega) d
      obtain ⟨I2, q1, q2, q3⟩ := ih (i + 1) I1 _ (by omega) g2 (cc_way hc' hk g3)
      have k4' := k4.1
      simp (disch := first | assumption | omega) only [pm_gI, pm_gJ, pm_gR, pm_pI, pm_pZ, pm_pJ, pm_ldI, pm_ldJ, pm_ldR, pm_stI, pm_stZ, pm_stJ, pm_pZ0, pm_pZ1, pm_stZ0, pm_stZ1, pm_len, pm_cpyI, pm_cpyJ, pm_is, Option.bind_some, pm_u, pm_ur, pm_lt, pm_le, pm_eq, pm_ne, pm_add, pm_sub, pm_z0, pm_z1, cond_true, cond_false, decide_true, decide_false, not_false_eq_true, not_true_eq_false, reduceIte, Nat.reduceEqDiff, Nat.add_eq_left, Nat.left_eq_add, Nat.add_left_cancel_iff, Nat.one_ne_zero, am_cs, s11, c1, hi4, c2, s0, hj, k4', g1]
      exact ⟨I2, q1, q2, g3.trans q3⟩
    · rw [if_neg c2]
      obtain ⟨I2, q1, q2, q3⟩ := ih (i + 1) I W (by omega) hw hc'
      simp (disch := first | assumption | omega) only [pm_gI, pm_gJ, pm_gR, pm_pI, pm_pZ, pm_pJ, pm_ldI, pm_ldJ, pm_ldR, pm_stI, pm_stZ, pm_stJ, pm_pZ0, pm_pZ1, pm_stZ0, pm_stZ1, pm_len, pm_cpyI, pm_cpyJ, pm_is, Option.bind_some, pm_u, pm_ur, pm_lt, pm_le, pm_eq, pm_ne, pm_add, pm_sub, pm_z0, pm_z1, cond_true, cond_false, decide_true, decide_false, not_false_eq_true, not_true_eq_false, reduceIte, Nat.reduceEqDiff, Nat.add_eq_left, Nat.left_eq_add, Nat.add_left_cancel_iff, Nat.one_ne_zero, am_cs, s11, c1, hi4, c2]
      exact ⟨I2, q1, q2, q3⟩
theorem kc_tellsLoop (L : kl_ok K) (M : cl_ok K k) (hk : 15 ≤ k) (hm : m < 256) (d : Nat) : ∀ (n i : Nat) (I : pm_I) (W : sWy), i + n = C.dg.length → wy_at I 1 p W → cc_at I J k m C →
    ∃ I' : pm_I, l_X1_openTell_19 (d + 3) 13 k (nI i) (K, I, J) = some ((0, 0, none), (K, I', J)) ∧ wy_at I' 1 p ((W.tells m C.dg n i).send (wf_all m 6 C.dg.length [])) ∧ pm_fr I I' 1 4 := by
  intro n
  induction n with
  | zero =>
    intro i I W hi hw hc
    obtain ⟨L0, L1, L2, L3, R1, R2, R3⟩ := M
    obtain ⟨⟨s0, s1, s3, s4, s5, s6, s7, s8, s11, s13, t2, t14⟩, h2, h3, h4, b1, b2, b3, b4, b5, b6, b7, b8, b9, b10, b11⟩ := hc
    obtain ⟨k0, k1, k2, k3, k4, k5⟩ := L
    obtain ⟨I1, g1, g2, g3⟩ := wy_sendEmpty (J := J) (kd := 6) (pl := C.dg.length) k4 hw hm (by omega) (by omega) d
    have k4' := k4.1
    have c1 : C.dg.length ≤ i := by omega
    rw [e_l_X1_openTell_19]
    simp (disch := first | assumption | omega) only [pm_gI, pm_gJ, pm_gR, pm_pI, pm_pZ, pm_pJ, pm_ldI, pm_ldJ, pm_ldR, pm_stI, pm_stZ, pm_stJ, pm_pZ0, pm_pZ1, pm_stZ0, pm_stZ1, pm_len, pm_cpyI, pm_cpyJ, pm_is, Option.bind_some, pm_u, pm_ur, pm_lt, pm_le, pm_eq, pm_ne, pm_add, pm_sub, pm_z0, pm_z1, cond_true, cond_false, decide_true, decide_false, not_false_eq_true, not_true_eq_false, reduceIte, Nat.reduceEqDiff, Nat.add_eq_left, Nat.left_eq_add, Nat.add_left_cancel_iff, Nat.one_ne_zero, am_cs, s11, c1, s0, k4', g1]
    exact ⟨I1, rfl, g2, g3⟩
  | succ n ih =>
    intro i I W hi hw hc
    have hc' := hc
    have M' := M
    obtain ⟨L0, L1, L2, L3, R1, R2, R3⟩ := M
    obtain ⟨⟨s0, s1, s3, s4, s5, s6, s7, s8, s11, s13, t2, t14⟩, h2, h3, h4, b1, b2, b3, b4, b5, b6, b7, b8, b9, b10, b11⟩ := hc
    obtain ⟨k0, k1, k2, k3, k4, k5⟩ := L
    have c1 : ¬ C.dg.length ≤ i := by omega
    have hj := h3 i (by omega)
    rw [e_l_X1_openTell_19]
    unfold sWy.tells
    obtain ⟨I1, g1, g2, g3⟩ := wy_sendNumber (J := J) (kd := 5) (pl := i) (C.dg.getD i 0) k4 hw hm (by omega) (by omega) d
    obtain ⟨I2, q1, q2, q3⟩ := ih (i + 1) I1 _ (by omega) g2 (cc_way hc' hk g3)
    have k4' := k4.1
    simp (disch := first | assumption | omega) only [pm_gI, pm_gJ, pm_gR, pm_pI, pm_pZ, pm_pJ, pm_ldI, pm_ldJ, pm_ldR, pm_stI, pm_stZ, pm_stJ, pm_pZ0, pm_pZ1, pm_stZ0, pm_stZ1, pm_len, pm_cpyI, pm_cpyJ, pm_is, Option.bind_some, pm_u, pm_ur, pm_lt, pm_le, pm_eq, pm_ne, pm_add, pm_sub, pm_z0, pm_z1, cond_true, cond_false, decide_true, decide_false, not_false_eq_true, not_true_eq_false, reduceIte, Nat.reduceEqDiff, Nat.add_eq_left, Nat.left_eq_add, Nat.add_left_cancel_iff, Nat.one_ne_zero, am_cs, s11, c1, s0, hj, k4', g1]
    exact ⟨I2, q1, q2, g3.trans q3⟩
theorem kc_openFind (L : kl_ok K) (M : cl_ok K k) (hk : 15 ≤ k) (hm : m < 256) (hw : wy_at I 1 p W) (hc : cc_at I J k m C) (d : Nat) :
    ∃ I' : pm_I, f_X1_openFind (d + 3) 13 k (K, I, J) = some ((0, 0, none), (K, I', J)) ∧ wy_at I' 1 p (W.finds m C.dg C.an C.dg.length 0) ∧ cc_at I' J k m (if C.dg.length = 0 then C.fin (nI 1) else C) ∧ kf_at I I' k := by
  rw [e_X1_openFind]
  have hb8 := hc.2.2.2.2.2.2.2.2.2.2.2.1
  have s11 := hc.1.2.2.2.2.2.2.2.2.1
  have m0 := M.1
  by_cases c : C.dg.length = 0
  · obtain ⟨I1, g1, g2, g3⟩ := cc_finish M hc (nI 1) (by decide +kernel) (d + 2)
    obtain ⟨I2, q1, q2, q3⟩ := kc_findsLoop (J := J) (C := C.fin (nI 1)) L M hk hm d C.dg.length 0 I1 W (Nat.zero_add _) (wy_call hw hk g3) g2
    rw [if_pos c]
    rw [c] at s11
    simp (disch := first | assumption | omega) only [pm_gI, pm_gJ, pm_gR, pm_pI, pm_pZ, pm_pJ, pm_ldI, pm_ldJ, pm_ldR, pm_stI, pm_stZ, pm_stJ, pm_pZ0, pm_pZ1, pm_stZ0, pm_stZ1, pm_len, pm_cpyI, pm_cpyJ, pm_is, Option.bind_some, pm_u, pm_ur, pm_lt, pm_le, pm_eq, pm_ne, pm_add, pm_sub, pm_z0, pm_z1, cond_true, cond_false, decide_true, decide_false, not_false_eq_true, not_true_eq_false, reduceIte, Nat.reduceEqDiff, Nat.add_eq_left, Nat.left_eq_add, Nat.add_left_cancel_iff, Nat.one_ne_zero, am_cs, s11, g1]
    exact ⟨I2, q1, q2, cc_way g2 hk q3, (kf_call g3 (by omega) (by omega)).trans (kf_way q3)⟩
  · obtain ⟨I2, q1, q2, q3⟩ := kc_findsLoop (J := J) L M hk hm d C.dg.length 0 I W (Nat.zero_add _) hw hc
    rw [if_neg c]
    simp (disch := first | assumption | omega) only [pm_gI, pm_gJ, pm_gR, pm_pI, pm_pZ, pm_pJ, pm_ldI, pm_ldJ, pm_ldR, pm_stI, pm_stZ, pm_stJ, pm_pZ0, pm_pZ1, pm_stZ0, pm_stZ1, pm_len, pm_cpyI, pm_cpyJ, pm_is, Option.bind_some, pm_u, pm_ur, pm_lt, pm_le, pm_eq, pm_ne, pm_add, pm_sub, pm_z0, pm_z1, cond_true, cond_false, decide_true, decide_false, not_false_eq_true, not_true_eq_false, reduceIte, Nat.reduceEqDiff, Nat.add_eq_left, Nat.left_eq_add, Nat.add_left_cancel_iff, Nat.one_ne_zero, am_cs, s11, c]
    exact ⟨I2, q1, q2, cc_way hc hk q3, kf_way q3⟩
theorem kc_openTell (L : kl_ok K) (M : cl_ok K k) (hk : 15 ≤ k) (hm : m < 256) (hw : wy_at I 1 p W) (hc : cc_at I J k m C) (d : Nat) :
    ∃ I' : pm_I, f_X1_openTell (d + 3) 13 k (K, I, J) = some ((0, 0, none), (K, I', J)) ∧ wy_at I' 1 p (((W.send (wf_all m 4 0 (lb_long C.ac))).tells m C.dg C.dg.length 0).send (wf_all m 6 C.dg.length [])) ∧ pm_fr I I' 1 4 := by
  rw [e_X1_openTell]
  obtain ⟨I1, g1, g2, g3⟩ := wy_sendNumber (J := J) (kd := 4) (pl := 0) C.ac L.2.2.2.2.1 hw hm (by omega) (by omega) d
  obtain ⟨I2, q1, q2, q3⟩ := kc_tellsLoop (J := J) L M hk hm d C.dg.length 0 I1 _ (Nat.zero_add _) g2 (cc_way hc hk g3)
  obtain ⟨k0, k1, k2, k3, k4, k5⟩ := L
  have k4' := k4.1
  have s0 := hc.1.1
  have t2 := hc.1.2.2.2.2.2.2.2.2.2.2.1
  have m0 := M.1
  simp (disch := first | assumption | omega) only [pm_gI, pm_gJ, pm_gR, pm_pI, pm_pZ, pm_pJ, pm_ldI, pm_ldJ, pm_ldR, pm_stI, pm_stZ, pm_stJ, pm_pZ0, pm_pZ1, pm_stZ0, pm_stZ1, pm_len, pm_cpyI, pm_cpyJ, pm_is, Option.bind_some, pm_u, pm_ur, pm_lt, pm_le, pm_eq, pm_ne, pm_add, pm_sub, pm_z0, pm_z1, cond_true, cond_false, decide_true, decide_false, not_false_eq_true, not_true_eq_false, reduceIte, Nat.reduceEqDiff, Nat.add_eq_left, Nat.left_eq_add, Nat.add_left_cancel_iff, Nat.one_ne_zero, am_cs, s0, t2, k4', g1]
  exact ⟨I2, q1, q2, g3.trans q3⟩
theorem kc_open (L : kl_ok K) (M : cl_ok K k) (hk : 15 ≤ k) (hm : m < 256) (hw : wy_at I 1 p W) (hc : cc_at I J k m C) (d : Nat) :
    ∃ I' : pm_I, f_X1_open (d + 4) 13 k (K, I, J) = some ((0, 0, none), (K, I', J)) ∧ wy_at I' 1 p (so_openW m C W) ∧ cc_at I' J k m (so_openC C) ∧ kf_at I I' k := by
  have hc' := hc
  have hw' := hw
  obtain ⟨⟨s0, s1, s3, s4, s5, s6, s7, s8, s11, s13, t2, t14⟩, h2, h3, h4, b1, b2, b3, b4, b5, b6, b7, b8, b9, b10, b11⟩ := hc
  have m0 := M.1
  have m9 := M.2.2.2.2.1
  have mr := M.2.1.1
  have hr := h2.1
  have hr2 := h2.2.1
  have k0 := L.1
  have k2 := L.2.2.1
  have k4 := L.2.2.2.2.1
  have k4' := k4.1
  have hdig := cc_digestAt M hc' (nI 0) (d + 2)
  unfold so_openW so_openC
  rw [e_X1_open]
  have : C.kd = 0 ∨ C.kd = 1 ∨ C.kd = 2 ∨ C.kd = 3 ∨ C.kd = 4 := by omega
  rcases this with c | c | c | c | c
  · obtain ⟨I1, g1, g2, g3, g4⟩ := kc_openFind L M hk hm hw' hc' d
    rw [c] at s1
    rw [if_pos c, if_pos c]
    simp (disch := first | assumption | omega) only [pm_gI, pm_gJ, pm_gR, pm_pI, pm_pZ, pm_pJ, pm_ldI, pm_ldJ, pm_ldR, pm_stI, pm_stZ, pm_stJ, pm_pZ0, pm_pZ1, pm_stZ0, pm_stZ1, pm_len, pm_cpyI, pm_cpyJ, pm_is, Option.bind_some, pm_u, pm_ur, pm_lt, pm_le, pm_eq, pm_ne, pm_add, pm_sub, pm_z0, pm_z1, cond_true, cond_false, decide_true, decide_false, not_false_eq_true, not_true_eq_false, reduceIte, Nat.reduceEqDiff, Nat.add_eq_left, Nat.left_eq_add, Nat.add_left_cancel_iff, Nat.one_ne_zero, am_cs, s1, g1]
    exact ⟨I1, rfl, g2, g3, g4⟩
  · obtain ⟨I1, g1, g2, g3⟩ := wy_sendNumber (J := J) (kd := 1) (pl := 0) (C.digAt (nI 0)) k4 hw' hm (by omega) (by omega) (d + 1)
    rw [c] at s1
    rw [if_neg (by omega), if_pos c, if_neg (by omega), if_neg (by omega)]
    simp (disch := first | assumption | omega) only [pm_gI, pm_gJ, pm_gR, pm_pI, pm_pZ, pm_pJ, pm_ldI, pm_ldJ, pm_ldR, pm_stI, pm_stZ, pm_stJ, pm_pZ0, pm_pZ1, pm_stZ0, pm_stZ1, pm_len, pm_cpyI, pm_cpyJ, pm_is, Option.bind_some, pm_u, pm_ur, pm_lt, pm_le, pm_eq, pm_ne, pm_add, pm_sub, pm_z0, pm_z1, cond_true, cond_false, decide_true, decide_false, not_false_eq_true, not_true_eq_false, reduceIte, Nat.reduceEqDiff, Nat.add_eq_left, Nat.left_eq_add, Nat.add_left_cancel_iff, Nat.one_ne_zero, am_cs, s1, s0, hdig, k4', g1]
    exact ⟨I1, rfl, g2, cc_way hc' hk g3, kf_way g3⟩
  · obtain ⟨I1, g1, g2, g3⟩ := wy_sendNumber (J := J) (kd := 2) (pl := C.row.length) (C.digAt (nI 0)) k4 hw' hm (by omega) (by omega) (d + 1)
    rw [c] at s1
    rw [if_neg (by omega), if_neg (by omega), if_pos c, if_neg (by omega), if_neg (by omega)]
    simp (disch := first | assumption | omega) only [pm_gI, pm_gJ, pm_gR, pm_pI, pm_pZ, pm_pJ, pm_ldI, pm_ldJ, pm_ldR, pm_stI, pm_stZ, pm_stJ, pm_pZ0, pm_pZ1, pm_stZ0, pm_stZ1, pm_len, pm_cpyI, pm_cpyJ, pm_is, Option.bind_some, pm_u, pm_ur, pm_lt, pm_le, pm_eq, pm_ne, pm_add, pm_sub, pm_z0, pm_z1, cond_true, cond_false, decide_true, decide_false, not_false_eq_true, not_true_eq_false, reduceIte, Nat.reduceEqDiff, Nat.add_eq_left, Nat.left_eq_add, Nat.add_left_cancel_iff, Nat.one_ne_zero, am_cs, s1, s0, hr, hdig, k4', g1]
    exact ⟨I1, rfl, g2, cc_way hc' hk g3, kf_way g3⟩
  · have f0 : pm_fr I (am_u I k 11 (nI 0)) k 1 := pm_fr_u (by omega)
    have hc2 : cc_at (am_u I k 11 (nI 0)) J k m (C.setDg []) := by
      refine ⟨?_, rc_congr h2 (f0 _ (by omega)) (f0 _ (by omega)), fun i hi => absurd hi (by simp [sCl_kd_fin, sCl_ac_fin, sCl_bg_fin, sCl_oc_fin, sCl_la_fin, sCl_wt_fin, sCl_wk_fin, sCl_tr_fin, sCl_row_fin, sCl_dg_fin, sCl_an_fin, sCl_xr_fin, sCl_kd_setRow, sCl_ac_setRow, sCl_bg_setRow, sCl_oc_setRow, sCl_la_setRow, sCl_wt_setRow, sCl_wk_setRow, sCl_tr_setRow, sCl_row_setRow, sCl_dg_setRow, sCl_an_setRow, sCl_xr_setRow, sCl_kd_setDg, sCl_ac_setDg, sCl_bg_setDg, sCl_oc_setDg, sCl_la_setDg, sCl_wt_setDg, sCl_wk_setDg, sCl_tr_setDg, sCl_row_setDg, sCl_dg_setDg, sCl_an_setDg, sCl_xr_setDg, sCl_kd_setAn, sCl_ac_setAn, sCl_bg_setAn, sCl_oc_setAn, sCl_la_setAn, sCl_wt_setAn, sCl_wk_setAn, sCl_tr_setAn, sCl_row_setAn, sCl_dg_setAn, sCl_an_setAn, sCl_xr_setAn, sCl_kd_setXr, sCl_ac_setXr, sCl_bg_setXr, sCl_oc_setXr, sCl_la_setXr, sCl_wt_setXr, sCl_wk_setXr, sCl_tr_setXr, sCl_row_setXr, sCl_dg_setXr, sCl_an_setXr, sCl_xr_setXr, sCl_kd_setWt, sCl_ac_setWt, sCl_bg_setWt, sCl_oc_setWt, sCl_la_setWt, sCl_wt_setWt, sCl_wk_setWt, sCl_tr_setWt, sCl_row_setWt, sCl_dg_setWt, sCl_an_setWt, sCl_xr_setWt, sCl_kd_setBg, sCl_ac_setBg, sCl_bg_setBg, sCl_oc_setBg, sCl_la_setBg, sCl_wt_setBg, sCl_wk_setBg, sCl_tr_setBg, sCl_row_setBg, sCl_dg_setBg, sCl_an_setBg, sCl_xr_setBg, sCl_kd_new, sCl_ac_new, sCl_bg_new, sCl_oc_new, sCl_la_new, sCl_wt_new, sCl_wk_new, sCl_tr_new, sCl_row_new, sCl_dg_new, sCl_an_new, sCl_xr_new]), ?_, b1, b2, b3, b4, b5, b6, b7, by simp [sCl_kd_fin, sCl_ac_fin, sCl_bg_fin, sCl_oc_fin, sCl_la_fin, sCl_wt_fin, sCl_wk_fin, sCl_tr_fin, sCl_row_fin, sCl_dg_fin, sCl_an_fin, sCl_xr_fin, sCl_kd_setRow, sCl_ac_setRow, sCl_bg_setRow, sCl_oc_setRow, sCl_la_setRow, sCl_wt_setRow, sCl_wk_setRow, sCl_tr_setRow, sCl_row_setRow, sCl_dg_setRow, sCl_an_setRow, sCl_xr_setRow, sCl_kd_setDg, sCl_ac_setDg, sCl_bg_setDg, sCl_oc_setDg, sCl_la_setDg, sCl_wt_setDg, sCl_wk_setDg, sCl_tr_setDg, sCl_row_setDg, sCl_dg_setDg, sCl_an_setDg, sCl_xr_setDg, sCl_kd_setAn, sCl_ac_setAn, sCl_bg_setAn, sCl_oc_setAn, sCl_la_setAn, sCl_wt_setAn, sCl_wk_setAn, sCl_tr_setAn, sCl_row_setAn, sCl_dg_setAn, sCl_an_setAn, sCl_xr_setAn, sCl_kd_setXr, sCl_ac_setXr, sCl_bg_setXr, sCl_oc_setXr, sCl_la_setXr, sCl_wt_setXr, sCl_wk_setXr, sCl_tr_setXr, sCl_row_setXr, sCl_dg_setXr, sCl_an_setXr, sCl_xr_setXr, sCl_kd_setWt, sCl_ac_setWt, sCl_bg_setWt, sCl_oc_setWt, sCl_la_setWt, sCl_wt_setWt, sCl_wk_setWt, sCl_tr_setWt, sCl_row_setWt, sCl_dg_setWt, sCl_an_setWt, sCl_xr_setWt, sCl_kd_setBg, sCl_ac_setBg, sCl_bg_setBg, sCl_oc_setBg, sCl_la_setBg, sCl_wt_setBg, sCl_wk_setBg, sCl_tr_setBg, sCl_row_setBg, sCl_dg_setBg, sCl_an_setBg, sCl_xr_setBg, sCl_kd_new, sCl_ac_new, sCl_bg_new, sCl_oc_new, sCl_la_new, sCl_wt_new, sCl_wk_new, sCl_tr_new, sCl_row_new, sCl_dg_new, sCl_an_new, sCl_xr_new], b9, fun i _ => b11 i (show C.kd ≠ 0 by omega), b11⟩
      · simp [cs_at, sCl_kd_fin, sCl_ac_fin, sCl_bg_fin, sCl_oc_fin, sCl_la_fin, sCl_wt_fin, sCl_wk_fin, sCl_tr_fin, sCl_row_fin, sCl_dg_fin, sCl_an_fin, sCl_xr_fin, sCl_kd_setRow, sCl_ac_setRow, sCl_bg_setRow, sCl_oc_setRow, sCl_la_setRow, sCl_wt_setRow, sCl_wk_setRow, sCl_tr_setRow, sCl_row_setRow, sCl_dg_setRow, sCl_an_setRow, sCl_xr_setRow, sCl_kd_setDg, sCl_ac_setDg, sCl_bg_setDg, sCl_oc_setDg, sCl_la_setDg, sCl_wt_setDg, sCl_wk_setDg, sCl_tr_setDg, sCl_row_setDg, sCl_dg_setDg, sCl_an_setDg, sCl_xr_setDg, sCl_kd_setAn, sCl_ac_setAn, sCl_bg_setAn, sCl_oc_setAn, sCl_la_setAn, sCl_wt_setAn, sCl_wk_setAn, sCl_tr_setAn, sCl_row_setAn, sCl_dg_setAn, sCl_an_setAn, sCl_xr_setAn, sCl_kd_setXr, sCl_ac_setXr, sCl_bg_setXr, sCl_oc_setXr, sCl_la_setXr, sCl_wt_setXr, sCl_wk_setXr, sCl_tr_setXr, sCl_row_setXr, sCl_dg_setXr, sCl_an_setXr, sCl_xr_setXr, sCl_kd_setWt, sCl_ac_setWt, sCl_bg_setWt, sCl_oc_setWt, sCl_la_setWt, sCl_wt_setWt, sCl_wk_setWt, sCl_tr_setWt, sCl_row_setWt, sCl_dg_setWt, sCl_an_setWt, sCl_xr_setWt, sCl_kd_setBg, sCl_ac_setBg, sCl_bg_setBg, sCl_oc_setBg, sCl_la_setBg, sCl_wt_setBg, sCl_wk_setBg, sCl_tr_setBg, sCl_row_setBg, sCl_dg_setBg, sCl_an_setBg, sCl_xr_setBg, sCl_kd_new, sCl_ac_new, sCl_bg_new, sCl_oc_new, sCl_la_new, sCl_wt_new, sCl_wk_new, sCl_tr_new, sCl_row_new, sCl_dg_new, sCl_an_new, sCl_xr_new, pm_u, s0, s1, s3, s4, s5, s6, s7, s8, s13, t2, t14]
      · intro i hi
        (repeat (rw [am_u_ne _ _ (by omega)]))
        exact h4 i hi
    obtain ⟨I1, g1, g2, g3⟩ := wy_sendNumber (J := J) (kd := 3) (pl := 0) C.ac k4 (wy_call hw' hk f0) hm (by omega) (by omega) (d + 1)
    rw [c] at s1
    rw [if_neg (by omega), if_neg (by omega), if_neg (by omega), if_pos c, if_neg (by omega), if_pos c]
    simp (disch := first | assumption | omega) only [pm_gI, pm_gJ, pm_gR, pm_pI, pm_pZ, pm_pJ, pm_ldI, pm_ldJ, pm_ldR, pm_stI, pm_stZ, pm_stJ, pm_pZ0, pm_pZ1, pm_stZ0, pm_stZ1, pm_len, pm_cpyI, pm_cpyJ, pm_is, Option.bind_some, pm_u, pm_ur, pm_lt, pm_le, pm_eq, pm_ne, pm_add, pm_sub, pm_z0, pm_z1, cond_true, cond_false, decide_true, decide_false, not_false_eq_true, not_true_eq_false, reduceIte, Nat.reduceEqDiff, Nat.add_eq_left, Nat.left_eq_add, Nat.add_left_cancel_iff, Nat.one_ne_zero, am_cs, s1, s0, t2, k4', g1]
    exact ⟨I1, rfl, g2, cc_way hc2 hk g3, (kf_call f0 (by omega) (by omega)).trans (kf_way g3)⟩
  · obtain ⟨I1, g1, g2, g3⟩ := kc_openTell L M hk hm hw' hc' d
    rw [c] at s1
    rw [if_neg (by omega), if_neg (by omega), if_neg (by omega), if_neg (by omega), if_neg (by omega), if_neg (by omega)]
    simp (disch := first | assumption | omega) only [pm_gI, pm_gJ, pm_gR, pm_pI, pm_pZ, pm_pJ, pm_ldI, pm_ldJ, pm_ldR, pm_stI, pm_stZ, pm_stJ, pm_pZ0, pm_pZ1, pm_stZ0, pm_stZ1, pm_len, pm_cpyI, pm_cpyJ, pm_is, Option.bind_some, pm_u, pm_ur, pm_lt, pm_le, pm_eq, pm_ne, pm_add, pm_sub, pm_z0, pm_z1, cond_true, cond_false, decide_true, decide_false, not_false_eq_true, not_true_eq_false, reduceIte, Nat.reduceEqDiff, Nat.add_eq_left, Nat.left_eq_add, Nat.add_left_cancel_iff, Nat.one_ne_zero, am_cs, s1, g1]
    exact ⟨I1, rfl, g2, cc_way hc' hk g3, kf_way g3⟩
end KLM
