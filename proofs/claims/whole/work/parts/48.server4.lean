/-! THE CLASS'S SERVER: notes, and a frame acted on -/
section SR4
variable {K : am_K} {I : pm_I} {J : pm_J} {p c pl x f : Nat} {W : sWy} {S : sSv} {dat : List Nat}
theorem sv_note (L : sl_ok K) (h : sv_at I J p W S) (hc : c < 30) (v : Int64) (d : Nat) : ∃ (I' : pm_I) (J' : pm_J), f_X4_start d (223 + 5 * c) v (K, I, J) = some ((0, 0, none), (K, I', J')) ∧ sv_at I' J' p W (S.setNt (fu_at S.nt c (some (v, [])))) ∧ sf_at I I' ∧ sf_at J J' := by
  obtain ⟨l0, l1, l2, l3, l4, l5, l6, l7, l8, l9, l10, l11, l12, l13, l14⟩ := L
  obtain ⟨m0, m1, m2⟩ := (l14 c hc).2
  rw [e_X4_start]
  simp (disch := first | assumption | omega) only [pm_gI, pm_gJ, pm_gR, pm_pI, pm_pZ, pm_pJ, pm_ldI, pm_ldJ, pm_ldR, pm_stI, pm_stZ, pm_stJ, pm_pZ0, pm_pZ1, pm_stZ0, pm_stZ1, pm_len, pm_cpyI, pm_cpyJ, pm_is, Option.bind_some, pm_u, pm_ur, pm_lt, pm_le, pm_eq, pm_ne, pm_add, pm_sub, pm_z0, pm_z1, cond_true, cond_false, decide_true, decide_false, not_false_eq_true, not_true_eq_false, reduceIte, Nat.reduceEqDiff, Nat.add_eq_left, Nat.left_eq_add, Nat.add_left_cancel_iff, Nat.one_ne_zero, am_cs]
  have f1 : pm_fr I (am_u (am_u I (223 + 5 * c) 3 (nI 1)) (223 + 5 * c) 2 (nI 0)) (223 + 5 * c) 2 := fun a ha => by rw [am_u_ne _ _ (by omega), am_u_ne _ _ (by omega)]
  have f2 : pm_fr J (am_u J (223 + 5 * c) 1 v) (223 + 5 * c) 2 := fun a ha => by rw [am_u_ne _ _ (by omega)]
  refine ⟨_, _, rfl, sv_setNt h hc f1 f2 ⟨?_, ?_, ?_, by simp, fun i hi => absurd hi (by simp)⟩, sf_fr f1 (by omega), sf_fr f2 (by omega)⟩
  · simp [pm_u]
  · simp [pm_u]
  · simp [pm_u]
def ss_dig (c pl : Nat) (v : Int64) (S : sSv) : sSv :=
  match S.nt c with
  | none => S
  | some y => if pl = y.2.length ∧ y.2.length < 3 then S.setNt (fu_at S.nt c (some (y.1, y.2 ++ [v]))) else S
theorem cd_snoc {g : Nat → Int64} {l : List Int64} (h : cd_at g l) (v : Int64) : cd_at (fun j => if j = l.length then v else g j) (l ++ [v]) := by
  intro i hi
  simp at hi
  show (if i = l.length then v else g i) = _
  by_cases c : i = l.length
  · rw [if_pos c, c]
    simp
  · rw [if_neg c, h i (by omega)]
    simp [List.getElem?_append_left (show i < l.length by omega)]
theorem sv_dig (L : sl_ok K) (h : sv_at I J p W S) (hc : c < 30) (hp : pl < 256) (v : Int64) (d : Nat) : ∃ (I' : pm_I) (J' : pm_J), f_X4_addDigest d (223 + 5 * c) (nI pl) v (K, I, J) = some ((0, 0, none), (K, I', J')) ∧ sv_at I' J' p W (ss_dig c pl v S) ∧ sf_at I I' ∧ sf_at J J' := by
  obtain ⟨l0, l1, l2, l3, l4, l5, l6, l7, l8, l9, l10, l11, l12, l13, l14⟩ := L
  obtain ⟨m0, m1, m2⟩ := (l14 c hc).2
  have hn := h.2.2.2.2.2 c hc
  rw [e_X4_addDigest]
  unfold ss_dig
  cases cp : S.nt c with
  | none =>
    rw [cp] at hn
    have b1 : I (223 + 5 * c) 3 = nI 0 := hn
    simp (disch := first | assumption | omega) only [pm_gI, pm_gJ, pm_gR, pm_pI, pm_pZ, pm_pJ, pm_ldI, pm_ldJ, pm_ldR, pm_stI, pm_stZ, pm_stJ, pm_pZ0, pm_pZ1, pm_stZ0, pm_stZ1, pm_len, pm_cpyI, pm_cpyJ, pm_is, Option.bind_some, pm_u, pm_ur, pm_lt, pm_le, pm_eq, pm_ne, pm_add, pm_sub, pm_z0, pm_z1, cond_true, cond_false, decide_true, decide_false, not_false_eq_true, not_true_eq_false, reduceIte, Nat.reduceEqDiff, Nat.add_eq_left, Nat.left_eq_add, Nat.add_left_cancel_iff, Nat.one_ne_zero, am_cs, b1]
    exact ⟨I, J, rfl, h, sf_at.refl _, sf_at.refl _⟩
  | some y =>
    rw [cp] at hn
    obtain ⟨y1, y2, y3, y4, y5⟩ := hn
    simp only []
    by_cases c1 : pl = y.2.length
    · by_cases c2 : y.2.length < 3
      · rw [if_pos ⟨c1, c2⟩]
        have c3 : ¬ 3 ≤ y.2.length := by omega
        simp (disch := first | assumption | omega) only [pm_gI, pm_gJ, pm_gR, pm_pI, pm_pZ, pm_pJ, pm_ldI, pm_ldJ, pm_ldR, pm_stI, pm_stZ, pm_stJ, pm_pZ0, pm_pZ1, pm_stZ0, pm_stZ1, pm_len, pm_cpyI, pm_cpyJ, pm_is, Option.bind_some, pm_u, pm_ur, pm_lt, pm_le, pm_eq, pm_ne, pm_add, pm_sub, pm_z0, pm_z1, cond_true, cond_false, decide_true, decide_false, not_false_eq_true, not_true_eq_false, reduceIte, Nat.reduceEqDiff, Nat.add_eq_left, Nat.left_eq_add, Nat.add_left_cancel_iff, Nat.one_ne_zero, am_cs, y1, y3, c1, c3]
        have f1 : pm_fr I (am_u I (223 + 5 * c) 2 (nI (y.2.length + 1))) (223 + 5 * c) 2 := fun a ha => by rw [am_u_ne _ _ (by omega)]
        have f2 : pm_fr J (am_u J (223 + 5 * c + 1) y.2.length v) (223 + 5 * c) 2 := fun a ha => by rw [am_u_ne _ _ (by omega)]
        refine ⟨_, _, rfl, sv_setNt h hc f1 f2 ⟨?_, ?_, ?_, ?_, ?_⟩, sf_fr f1 (by omega), sf_fr f2 (by omega)⟩
        · simp [pm_u, y1]
        · rw [am_u_ne _ _ (by omega)]
          exact y2
        · simp [pm_u]
        · simp
          omega
        · intro i hi
          rw [am_u_self]
          exact cd_snoc y5 v i hi
      · rw [if_neg (fun hh => c2 hh.2)]
        have c3 : 3 ≤ y.2.length := by omega
        simp (disch := first | assumption | omega) only [pm_gI, pm_gJ, pm_gR, pm_pI, pm_pZ, pm_pJ, pm_ldI, pm_ldJ, pm_ldR, pm_stI, pm_stZ, pm_stJ, pm_pZ0, pm_pZ1, pm_stZ0, pm_stZ1, pm_len, pm_cpyI, pm_cpyJ, pm_is, Option.bind_some, pm_u, pm_ur, pm_lt, pm_le, pm_eq, pm_ne, pm_add, pm_sub, pm_z0, pm_z1, cond_true, cond_false, decide_true, decide_false, not_false_eq_true, not_true_eq_false, reduceIte, Nat.reduceEqDiff, Nat.add_eq_left, Nat.left_eq_add, Nat.add_left_cancel_iff, Nat.one_ne_zero, am_cs, y1, y3, c1, c3]
        exact ⟨I, J, rfl, h, sf_at.refl _, sf_at.refl _⟩
    · rw [if_neg (fun hh => c1 hh.1)]
      simp (disch := first | assumption | omega) only [pm_gI, pm_gJ, pm_gR, pm_pI, pm_pZ, pm_pJ, pm_ldI, pm_ldJ, pm_ldR, pm_stI, pm_stZ, pm_stJ, pm_pZ0, pm_pZ1, pm_stZ0, pm_stZ1, pm_len, pm_cpyI, pm_cpyJ, pm_is, Option.bind_some, pm_u, pm_ur, pm_lt, pm_le, pm_eq, pm_ne, pm_add, pm_sub, pm_z0, pm_z1, cond_true, cond_false, decide_true, decide_false, not_false_eq_true, not_true_eq_false, reduceIte, Nat.reduceEqDiff, Nat.add_eq_left, Nat.left_eq_add, Nat.add_left_cancel_iff, Nat.one_ne_zero, am_cs, y1, y3, c1]
      exact ⟨I, J, rfl, h, sf_at.refl _, sf_at.refl _⟩
/-- a note is copied to a result's cells -/
theorem sv_copy (L : sl_ok K) {a b : Nat} (M : pl_ok K a) (N : pl_ok K b) (hab : a + 2 ≤ b ∨ b + 2 ≤ a) {v : Int64} {l : List Int64} (y2 : J b 1 = v) (y3 : I b 2 = nI l.length) (y4 : l.length ≤ 3) (y5 : cd_at (J (b + 1)) l) (d : Nat) : ∃ (I' : pm_I) (J' : pm_J), f_X4_copyOf d a b (K, I, J) = some ((0, 0, none), (K, I', J')) ∧ po_at I' J' a (some (v, l)) ∧ pm_fr I I' a 2 ∧ pm_fr J J' a 2 := by
  obtain ⟨m0, m1, m2⟩ := M
  obtain ⟨n0, n1, n2⟩ := N
  rw [e_X4_copyOf]
  have hne : ¬ b = a := by omega
  have hne2 : ¬ b = a + 1 := by omega
  simp (disch := first | assumption | omega) only [pm_gI, pm_gJ, pm_gR, pm_pI, pm_pZ, pm_pJ, pm_ldI, pm_ldJ, pm_ldR, pm_stI, pm_stZ, pm_stJ, pm_pZ0, pm_pZ1, pm_stZ0, pm_stZ1, pm_len, pm_cpyI, pm_cpyJ, pm_is, Option.bind_some, pm_u, pm_ur, pm_lt, pm_le, pm_eq, pm_ne, pm_add, pm_sub, pm_z0, pm_z1, cond_true, cond_false, decide_true, decide_false, not_false_eq_true, not_true_eq_false, reduceIte, Nat.reduceEqDiff, Nat.add_eq_left, Nat.left_eq_add, Nat.add_left_cancel_iff, Nat.one_ne_zero, am_cs, y2, y3, hne, hne2]
  refine ⟨_, _, rfl, ⟨?_, ?_, ?_, y4, fun i hi => ?_⟩, fun x hx => ?_, fun x hx => ?_⟩
  · simp [pm_u]
  · simp [pm_u]
  · simp [pm_u]
  · have hi' : i < l.length := hi
    rw [am_u_ne _ _ (show a + 1 ≠ a by omega), am_ur_self]
    unfold va_cpy
    rw [if_pos (by omega)]
    have := y5 i hi
    simpa using this
  · rw [am_u_ne _ _ (by omega), am_u_ne _ _ (by omega)]
  · rw [am_u_ne _ _ (by omega), am_ur_ne _ _ (by omega)]
def ss_finT (c pl : Nat) (S : sSv) : Option Nat × sSv :=
  match S.nt c with
  | none => (none, S)
  | some y => if 0 < S.bz then (some 1, S.setBz (S.bz - 1)) else if y.2.length = pl then (match S.R y.1 with | some _ => (some 0, (S.setNt (fu_at S.nt c none)).setR (fu_at S.R y.1 (some y.2)) S.nr) | none => if S.nr < 10 then (some 0, (S.setNt (fu_at S.nt c none)).setR (fu_at S.R y.1 (some y.2)) (S.nr + 1)) else (some 4, S.setNt (fu_at S.nt c none))) else (some 1, S)
theorem sv_finT (L : sl_ok K) (h : sv_at I J p W S) (hc : c < 30) (hp : pl < 256) (d : Nat) : ∃ (I' : pm_I) (J' : pm_J), f_X6_finishTell (d + 3) 165 (223 + 5 * c) (nI pl) (K, I, J) = some ((ss_vi (ss_finT c pl S).1, 0, none), (K, I', J')) ∧ sv_at I' J' p W (ss_finT c pl S).2 ∧ sf_at I I' ∧ sf_at J J' := by
  obtain ⟨I1, g1, g2, g3, g4⟩ := sv_off L h (d + 2)
  have L' := L
  obtain ⟨l0, l1, l2, l3, l4, l5, l6, l7, l8, l9, l10, l11, l12, l13, l14⟩ := L
  have hpt := h.2.2.2.2.2 c hc
  have M := (l14 c hc).2
  have M' := M
  obtain ⟨m0, m1, m2⟩ := M
  rw [e_X6_finishTell]
  unfold ss_finT
  cases cp : S.nt c with
  | none =>
    rw [cp] at hpt
    have b1 : I (223 + 5 * c) 3 = nI 0 := hpt
    simp (disch := first | assumption | omega) only [pm_gI, pm_gJ, pm_gR, pm_pI, pm_pZ, pm_pJ, pm_ldI, pm_ldJ, pm_ldR, pm_stI, pm_stZ, pm_stJ, pm_pZ0, pm_pZ1, pm_stZ0, pm_stZ1, pm_len, pm_cpyI, pm_cpyJ, pm_is, Option.bind_some, pm_u, pm_ur, pm_lt, pm_le, pm_eq, pm_ne, pm_add, pm_sub, pm_z0, pm_z1, cond_true, cond_false, decide_true, decide_false, not_false_eq_true, not_true_eq_false, reduceIte, Nat.reduceEqDiff, Nat.add_eq_left, Nat.left_eq_add, Nat.add_left_cancel_iff, Nat.one_ne_zero, am_cs, b1]
    exact ⟨I, J, rfl, h, sf_at.refl _, sf_at.refl _⟩
  | some y =>
    rw [cp] at hpt
    obtain ⟨y1, y2, y3, y4, y5⟩ := hpt
    simp only []
    by_cases c0 : 0 < S.bz
    · rw [if_pos c0] at g1 g2 ⊢
      simp (disch := first | assumption | omega) only [pm_gI, pm_gJ, pm_gR, pm_pI, pm_pZ, pm_pJ, pm_ldI, pm_ldJ, pm_ldR, pm_stI, pm_stZ, pm_stJ, pm_pZ0, pm_pZ1, pm_stZ0, pm_stZ1, pm_len, pm_cpyI, pm_cpyJ, pm_is, Option.bind_some, pm_u, pm_ur, pm_lt, pm_le, pm_eq, pm_ne, pm_add, pm_sub, pm_z0, pm_z1, cond_true, cond_false, decide_true, decide_false, not_false_eq_true, not_true_eq_false, reduceIte, Nat.reduceEqDiff, Nat.add_eq_left, Nat.left_eq_add, Nat.add_left_cancel_iff, Nat.one_ne_zero, am_cs, y1, g1]
      exact ⟨I1, J, rfl, g2, g3, sf_at.refl _⟩
    · have e1 := g4 (by omega)
      subst e1
      rw [if_neg c0] at g1 ⊢
      by_cases c1 : y.2.length = pl
      · rw [if_pos c1]
        have y3' := y3
        rw [c1] at y3'
        have f1 : pm_fr I1 (am_u I1 (223 + 5 * c) 3 (nI 0)) (223 + 5 * c) 1 := pm_fr_u (by omega)
        have h1 : sv_at (am_u I1 (223 + 5 * c) 3 (nI 0)) J p W (S.setNt (fu_at S.nt c none)) := by
          refine sv_setNt h hc (f1.mono (by omega) (by omega)) (pm_fr.refl _ _ _) ?_
          show am_u I1 (223 + 5 * c) 3 (nI 0) (223 + 5 * c) 3 = nI 0
          simp [pm_u]
        have z3 : am_u I1 (223 + 5 * c) 3 (nI 0) (223 + 5 * c) 2 = nI y.2.length := by
          simp [pm_u, y3]
        obtain ⟨s, hs, hm⟩ := h1.2.2.2.1
        have hbo := sv_resultOf L' hs y.1 (d + 2)
        have hm' : bm_ok s S.R S.nr := hm
        rcases bm_find hm' y.1 with ⟨i, r, hi, e1, e2, e3⟩ | ⟨e1, e3⟩
        · rw [e1] at hbo
          rw [e3]
          have q0 := (l12 i hi).2.1
          obtain ⟨I2, J2, k1, k2, k3, k4⟩ := sv_copy (I := am_u I1 (223 + 5 * c) 3 (nI 0)) (J := J) L' (l12 i hi).2 M' (by omega) y2 z3 y4 y5 (d + 2)
          simp (disch := first | assumption | omega) only [pm_gI, pm_gJ, pm_gR, pm_pI, pm_pZ, pm_pJ, pm_ldI, pm_ldJ, pm_ldR, pm_stI, pm_stZ, pm_stJ, pm_pZ0, pm_pZ1, pm_stZ0, pm_stZ1, pm_len, pm_cpyI, pm_cpyJ, pm_is, Option.bind_some, pm_u, pm_ur, pm_lt, pm_le, pm_eq, pm_ne, pm_add, pm_sub, pm_z0, pm_z1, cond_true, cond_false, decide_true, decide_false, not_false_eq_true, not_true_eq_false, reduceIte, Nat.reduceEqDiff, Nat.add_eq_left, Nat.left_eq_add, Nat.add_left_cancel_iff, Nat.one_ne_zero, am_cs, y1, g1, y3', y2, hbo, Option.map_some, e_l_X6_finishTell_52_aa, k1]
          exact ⟨I2, J2, rfl, sv_setR (o := some (y.1, y.2)) h1 hi hs (bm_rep hm' hi e2 y.2) k3 k4 k2, (sf_fr f1 (by omega)).trans (sf_fr k3 (by omega)), sf_fr k4 (by omega)⟩
        · rw [e1] at hbo
          rw [e3]
          have hfr := sv_freeResult L' hs (d + 2)
          simp only []
          rcases bm_free hm' with ⟨i, hi, u1, u2, u3⟩ | ⟨u1, u3⟩
          · rw [u1] at hfr
            rw [if_pos u3]
            have q0 := (l12 i hi).2.1
            obtain ⟨I2, J2, k1, k2, k3, k4⟩ := sv_copy (I := am_u I1 (223 + 5 * c) 3 (nI 0)) (J := J) L' (l12 i hi).2 M' (by omega) y2 z3 y4 y5 (d + 2)
            simp (disch := first | assumption | omega) only [pm_gI, pm_gJ, pm_gR, pm_pI, pm_pZ, pm_pJ, pm_ldI, pm_ldJ, pm_ldR, pm_stI, pm_stZ, pm_stJ, pm_pZ0, pm_pZ1, pm_stZ0, pm_stZ1, pm_len, pm_cpyI, pm_cpyJ, pm_is, Option.bind_some, pm_u, pm_ur, pm_lt, pm_le, pm_eq, pm_ne, pm_add, pm_sub, pm_z0, pm_z1, cond_true, cond_false, decide_true, decide_false, not_false_eq_true, not_true_eq_false, reduceIte, Nat.reduceEqDiff, Nat.add_eq_left, Nat.left_eq_add, Nat.add_left_cancel_iff, Nat.one_ne_zero, am_cs, y1, g1, y3', y2, hbo, Option.map_none, hfr, Option.map_some, e_l_X6_finishTell_52_aa, k1]
            exact ⟨I2, J2, rfl, sv_setR (o := some (y.1, y.2)) h1 hi hs (bm_ins hm' hi u2 e3 y.2) k3 k4 k2, (sf_fr f1 (by omega)).trans (sf_fr k3 (by omega)), sf_fr k4 (by omega)⟩
          · rw [u1] at hfr
            rw [if_neg (by omega)]
            simp (disch := first | assumption | omega) only [pm_gI, pm_gJ, pm_gR, pm_pI, pm_pZ, pm_pJ, pm_ldI, pm_ldJ, pm_ldR, pm_stI, pm_stZ, pm_stJ, pm_pZ0, pm_pZ1, pm_stZ0, pm_stZ1, pm_len, pm_cpyI, pm_cpyJ, pm_is, Option.bind_some, pm_u, pm_ur, pm_lt, pm_le, pm_eq, pm_ne, pm_add, pm_sub, pm_z0, pm_z1, cond_true, cond_false, decide_true, decide_false, not_false_eq_true, not_true_eq_false, reduceIte, Nat.reduceEqDiff, Nat.add_eq_left, Nat.left_eq_add, Nat.add_left_cancel_iff, Nat.one_ne_zero, am_cs, y1, g1, y3', y2, hbo, Option.map_none, hfr, e_l_X6_finishTell_52]
            exact ⟨_, J, rfl, h1, sf_fr f1 (by omega), sf_at.refl _⟩
      · rw [if_neg c1]
        simp (disch := first | assumption | omega) only [pm_gI, pm_gJ, pm_gR, pm_pI, pm_pZ, pm_pJ, pm_ldI, pm_ldJ, pm_ldR, pm_stI, pm_stZ, pm_stJ, pm_pZ0, pm_pZ1, pm_stZ0, pm_stZ1, pm_len, pm_cpyI, pm_cpyJ, pm_is, Option.bind_some, pm_u, pm_ur, pm_lt, pm_le, pm_eq, pm_ne, pm_add, pm_sub, pm_z0, pm_z1, cond_true, cond_false, decide_true, decide_false, not_false_eq_true, not_true_eq_false, reduceIte, Nat.reduceEqDiff, Nat.add_eq_left, Nat.left_eq_add, Nat.add_left_cancel_iff, Nat.one_ne_zero, am_cs, y1, g1, y3, c1]
        exact ⟨I1, J, rfl, h, sf_at.refl _, sf_at.refl _⟩
/-- the server, and its way, when a frame has been acted on -/
def ss_act (p c f pl : Nat) (dat : List Nat) (S : sSv) (W : sWy) : sSv × sWy :=
  if 30 ≤ c then (S, W) else if f ≤ 5 ∧ dat.length ≠ 8 then (S, W) else
  if f = 0 then (S, W.send (wf_all c 10 pl [match S.B (sd_num dat) with | none => 0 | some _ => 1]))
  else if f = 1 then ((ss_start c (sd_num dat) S W).2.1, ss_vd (ss_start c (sd_num dat) S W).2.2 c (ss_start c (sd_num dat) S W).1)
  else if f = 2 then ((ss_read p c pl (sd_num dat) S W).2.1, ss_vd (ss_read p c pl (sd_num dat) S W).2.2 c (ss_read p c pl (sd_num dat) S W).1)
  else if f = 3 then ((ss_ask c (sd_num dat) S W).2.1, ss_vd (ss_ask c (sd_num dat) S W).2.2 c (ss_ask c (sd_num dat) S W).1)
  else if f = 4 then (S.setNt (fu_at S.nt c (some (sd_num dat, []))), W)
  else if f = 5 then (ss_dig c pl (sd_num dat) S, W)
  else if f = 6 then ((ss_finT c pl S).2, ss_vd W c (ss_finT c pl S).1)
  else if f = 7 then (ss_piece c pl dat S, W)
  else if f = 8 then ((ss_finW c pl S).2, ss_vd W c (ss_finW c pl S).1)
  else (S, W)
theorem ss_start_v {v : Int64} : ∀ r, (ss_start c v S W).1 = some r → r < 5 := by
  intro r
  unfold ss_start
  split
  · intro h
    injection h with h
    omega
  · split
    · intro h
      exact absurd h (by simp)
    · intro h
      exact absurd h (by simp)
theorem ss_read_v {v : Int64} : ∀ r, (ss_read p c pl v S W).1 = some r → r < 5 := by
  intro r
  unfold ss_read
  split
  · intro h
    injection h with h
    omega
  · split
    · intro h
      injection h with h
      omega
    · intro h
      exact absurd h (by simp)
theorem ss_ask_v {v : Int64} : ∀ r, (ss_ask c v S W).1 = some r → r < 5 := by
  intro r
  unfold ss_ask
  split
  · intro h
    injection h with h
    omega
  · split
    · intro h
      injection h with h
      omega
    · split
      · intro h
        injection h with h
        omega
      · intro h
        exact absurd h (by simp)
theorem ss_finT_v : ∀ r, (ss_finT c pl S).1 = some r → r < 5 := by
  intro r
  unfold ss_finT
  split
  · intro h
    exact absurd h (by simp)
  · split
    · intro h
      injection h with h
      omega
    · split
      · split
        · intro h
          injection h with h
          omega
        · split
          · intro h
            injection h with h
            omega
          · intro h
            injection h with h
            omega
      · intro h
        injection h with h
        omega
theorem ss_finW_v : ∀ r, (ss_finW c pl S).1 = some r → r < 5 := by
  intro r
  unfold ss_finW
  split
  · intro h
    exact absurd h (by simp)
  · split
    · intro h
      injection h with h
      omega
    · split
      · split
        · split
          · intro h
            injection h with h
            omega
          · split
            · intro h
              injection h with h
              omega
            · intro h
              injection h with h
              omega
        · intro h
          injection h with h
          omega
      · intro h
        injection h with h
        omega
theorem sv_act (L : sl_ok K) (N : xl_ok K x) (hx9 : 9 ≤ x) (hx13 : x + 2 ≤ 13) (h : sv_at I J p W S) (hx : xf_at I x c f pl dat) (d : Nat) : ∃ (I' : pm_I) (J' : pm_J), f_X6_act (d + 4) 165 x (K, I, J) = some ((0, 0, none), (K, I', J')) ∧ sv_at I' J' p (ss_act p c f pl dat S W).2 (ss_act p c f pl dat S W).1 ∧ sf_at I I' ∧ sf_at J J' := by
  have hn := xf_number (J := J) N hx (d + 3)
  have hk := xf_kind (J := J) N hx (d + 3)
  have hpl := xf_place (J := J) N hx (d + 3)
  have hhn := xf_hasNumber (J := J) N hx (d + 2)
  have hx' := hx
  obtain ⟨-, -, -, -, -, h40, hbd, hcb, hfb, hpb⟩ := hx
  have n0 := N.1
  have l0 := L.1
  have l4 := L.2.2.2.2.1
  have l5 := L.2.2.2.2.2.1
  have l8 := L.2.2.2.2.2.2.2.2.1
  have l9 := L.2.2.2.2.2.2.2.2.2.1
  unfold ss_act
  by_cases c0 : 30 ≤ c
  · rw [if_pos c0, e_X6_act]
    have c0' : ¬ c < 30 := by omega
    simp (disch := first | assumption | omega) only [pm_gI, pm_gJ, pm_gR, pm_pI, pm_pZ, pm_pJ, pm_ldI, pm_ldJ, pm_ldR, pm_stI, pm_stZ, pm_stJ, pm_pZ0, pm_pZ1, pm_stZ0, pm_stZ1, pm_len, pm_cpyI, pm_cpyJ, pm_is, Option.bind_some, pm_u, pm_ur, pm_lt, pm_le, pm_eq, pm_ne, pm_add, pm_sub, pm_z0, pm_z1, cond_true, cond_false, decide_true, decide_false, not_false_eq_true, not_true_eq_false, reduceIte, Nat.reduceEqDiff, Nat.add_eq_left, Nat.left_eq_add, Nat.add_left_cancel_iff, Nat.one_ne_zero, am_cs, hn, c0', Nat.not_lt_zero]
    exact ⟨I, J, rfl, h, sf_at.refl _, sf_at.refl _⟩
  · rw [if_neg c0]
    have hc : c < 30 := by omega
    have q1 := (L.2.2.2.2.2.2.2.2.2.2.2.2.2.1 c hc).1
    have q2 := (L.2.2.2.2.2.2.2.2.2.2.2.2.2.2 c hc).1
    have q3 := (L.2.2.2.2.2.2.2.2.2.2.2.2.2.1 c hc).2.1
    have q4 := (L.2.2.2.2.2.2.2.2.2.2.2.2.2.2 c hc).2.1
    by_cases c1 : f ≤ 5 ∧ dat.length ≠ 8
    · rw [if_pos c1]
      rw [if_neg c1.2] at hhn
      have c2 : ¬ 5 < f := by omega
      rw [e_X6_act]
      simp (disch := first | assumption | omega) only [pm_gI, pm_gJ, pm_gR, pm_pI, pm_pZ, pm_pJ, pm_ldI, pm_ldJ, pm_ldR, pm_stI, pm_stZ, pm_stJ, pm_pZ0, pm_pZ1, pm_stZ0, pm_stZ1, pm_len, pm_cpyI, pm_cpyJ, pm_is, Option.bind_some, pm_u, pm_ur, pm_lt, pm_le, pm_eq, pm_ne, pm_add, pm_sub, pm_z0, pm_z1, cond_true, cond_false, decide_true, decide_false, not_false_eq_true, not_true_eq_false, reduceIte, Nat.reduceEqDiff, Nat.add_eq_left, Nat.left_eq_add, Nat.add_left_cancel_iff, Nat.one_ne_zero, am_cs, hn, hc, hk, c2, hhn, Nat.not_lt_zero]
      exact ⟨I, J, rfl, h, sf_at.refl _, sf_at.refl _⟩
    · rw [if_neg c1]
      have hto : ∀ Z : am_X, l_X6_act_32 (d + 4) 165 x (nI c) (K, I, J) = Z → f_X6_act (d + 4) 165 x (K, I, J) = Z := by
        intro Z hZ
        rw [e_X6_act]
        by_cases c2 : 5 < f
        · simp (disch := first | assumption | omega) only [pm_gI, pm_gJ, pm_gR, pm_pI, pm_pZ, pm_pJ, pm_ldI, pm_ldJ, pm_ldR, pm_stI, pm_stZ, pm_stJ, pm_pZ0, pm_pZ1, pm_stZ0, pm_stZ1, pm_len, pm_cpyI, pm_cpyJ, pm_is, Option.bind_some, pm_u, pm_ur, pm_lt, pm_le, pm_eq, pm_ne, pm_add, pm_sub, pm_z0, pm_z1, cond_true, cond_false, decide_true, decide_false, not_false_eq_true, not_true_eq_false, reduceIte, Nat.reduceEqDiff, Nat.add_eq_left, Nat.left_eq_add, Nat.add_left_cancel_iff, Nat.one_ne_zero, am_cs, hn, hc, hk, c2, Nat.not_lt_zero]
          exact hZ
        · have c3 : dat.length = 8 := by
            by_cases c3 : dat.length = 8
            · exact c3
            · exact absurd ⟨by omega, c3⟩ c1
          rw [if_pos c3] at hhn
          simp (disch := first | assumption | omega) only [pm_gI, pm_gJ, pm_gR, pm_pI, pm_pZ, pm_pJ, pm_ldI, pm_ldJ, pm_ldR, pm_stI, pm_stZ, pm_stJ, pm_pZ0, pm_pZ1, pm_stZ0, pm_stZ1, pm_len, pm_cpyI, pm_cpyJ, pm_is, Option.bind_some, pm_u, pm_ur, pm_lt, pm_le, pm_eq, pm_ne, pm_add, pm_sub, pm_z0, pm_z1, cond_true, cond_false, decide_true, decide_false, not_false_eq_true, not_true_eq_false, reduceIte, Nat.reduceEqDiff, Nat.add_eq_left, Nat.left_eq_add, Nat.add_left_cancel_iff, Nat.one_ne_zero, am_cs, hn, hc, hk, c2, hhn, Nat.not_lt_zero]
          exact hZ
      have h32 : ∃ (I' : pm_I) (J' : pm_J), l_X6_act_32 (d + 4) 165 x (nI c) (K, I, J) = some ((0, 0, none), (K, I', J')) ∧ sv_at I' J' p (ss_act p c f pl dat S W).2 (ss_act p c f pl dat S W).1 ∧ sf_at I I' ∧ sf_at J J' := by
        unfold ss_act
        rw [if_neg c0, if_neg c1, e_l_X6_act_32]
        by_cases f5 : f ≤ 5
        · have c3 : dat.length = 8 := by
            by_cases c3 : dat.length = 8
            · exact c3
            · exact absurd ⟨f5, c3⟩ c1
          have hnum := xf_numberData (J := J) N hx' c3 (d + 1)
          have : f = 0 ∨ f = 1 ∨ f = 2 ∨ f = 3 ∨ f = 4 ∨ f = 5 := by omega
          rcases this with rfl | rfl | rfl | rfl | rfl | rfl
          · obtain ⟨I1, g1, g2, g3⟩ := sv_find L h hcb hpb (sd_num dat) d
            simp (disch := first | assumption | omega) only [pm_gI, pm_gJ, pm_gR, pm_pI, pm_pZ, pm_pJ, pm_ldI, pm_ldJ, pm_ldR, pm_stI, pm_stZ, pm_stJ, pm_pZ0, pm_pZ1, pm_stZ0, pm_stZ1, pm_len, pm_cpyI, pm_cpyJ, pm_is, Option.bind_some, pm_u, pm_ur, pm_lt, pm_le, pm_eq, pm_ne, pm_add, pm_sub, pm_z0, pm_z1, cond_true, cond_false, decide_true, decide_false, not_false_eq_true, not_true_eq_false, reduceIte, Nat.reduceEqDiff, Nat.add_eq_left, Nat.left_eq_add, Nat.add_left_cancel_iff, Nat.one_ne_zero, am_cs, hk, hnum, hpl, g1]
            exact ⟨I1, J, rfl, g2, g3, sf_at.refl _⟩
          · obtain ⟨I1, J1, g1, g2, g3, g4⟩ := sv_start L h hc (sd_num dat) d
            obtain ⟨I2, u1, u2, u3⟩ := sv_verdict (o := (ss_start c (sd_num dat) S W).1) L g2 hcb ss_start_v d
            simp (disch := first | assumption | omega) only [pm_gI, pm_gJ, pm_gR, pm_pI, pm_pZ, pm_pJ, pm_ldI, pm_ldJ, pm_ldR, pm_stI, pm_stZ, pm_stJ, pm_pZ0, pm_pZ1, pm_stZ0, pm_stZ1, pm_len, pm_cpyI, pm_cpyJ, pm_is, Option.bind_some, pm_u, pm_ur, pm_lt, pm_le, pm_eq, pm_ne, pm_add, pm_sub, pm_z0, pm_z1, cond_true, cond_false, decide_true, decide_false, not_false_eq_true, not_true_eq_false, reduceIte, Nat.reduceEqDiff, Nat.add_eq_left, Nat.left_eq_add, Nat.add_left_cancel_iff, Nat.one_ne_zero, am_cs, hk, hnum, g1, u1]
            exact ⟨I2, J1, rfl, u2, g3.trans u3, g4⟩
          · obtain ⟨I1, g1, g2, g3⟩ := sv_read L h hc hpb (sd_num dat) d
            obtain ⟨I2, u1, u2, u3⟩ := sv_verdict (o := (ss_read p c pl (sd_num dat) S W).1) L g2 hcb ss_read_v d
            simp (disch := first | assumption | omega) only [pm_gI, pm_gJ, pm_gR, pm_pI, pm_pZ, pm_pJ, pm_ldI, pm_ldJ, pm_ldR, pm_stI, pm_stZ, pm_stJ, pm_pZ0, pm_pZ1, pm_stZ0, pm_stZ1, pm_len, pm_cpyI, pm_cpyJ, pm_is, Option.bind_some, pm_u, pm_ur, pm_lt, pm_le, pm_eq, pm_ne, pm_add, pm_sub, pm_z0, pm_z1, cond_true, cond_false, decide_true, decide_false, not_false_eq_true, not_true_eq_false, reduceIte, Nat.reduceEqDiff, Nat.add_eq_left, Nat.left_eq_add, Nat.add_left_cancel_iff, Nat.one_ne_zero, am_cs, hk, hnum, hpl, g1, u1]
            exact ⟨I2, J, rfl, u2, g3.trans u3, sf_at.refl _⟩
          · obtain ⟨I1, g1, g2, g3⟩ := sv_ask L h hc (sd_num dat) d
            obtain ⟨I2, u1, u2, u3⟩ := sv_verdict (o := (ss_ask c (sd_num dat) S W).1) L g2 hcb ss_ask_v d
            simp (disch := first | assumption | omega) only [pm_gI, pm_gJ, pm_gR, pm_pI, pm_pZ, pm_pJ, pm_ldI, pm_ldJ, pm_ldR, pm_stI, pm_stZ, pm_stJ, pm_pZ0, pm_pZ1, pm_stZ0, pm_stZ1, pm_len, pm_cpyI, pm_cpyJ, pm_is, Option.bind_some, pm_u, pm_ur, pm_lt, pm_le, pm_eq, pm_ne, pm_add, pm_sub, pm_z0, pm_z1, cond_true, cond_false, decide_true, decide_false, not_false_eq_true, not_true_eq_false, reduceIte, Nat.reduceEqDiff, Nat.add_eq_left, Nat.left_eq_add, Nat.add_left_cancel_iff, Nat.one_ne_zero, am_cs, hk, hnum, g1, u1]
            exact ⟨I2, J, rfl, u2, g3.trans u3, sf_at.refl _⟩
          · obtain ⟨I1, J1, g1, g2, g3, g4⟩ := sv_note L h hc (sd_num dat) (d + 3)
            simp (disch := first | assumption | omega) only [pm_gI, pm_gJ, pm_gR, pm_pI, pm_pZ, pm_pJ, pm_ldI, pm_ldJ, pm_ldR, pm_stI, pm_stZ, pm_stJ, pm_pZ0, pm_pZ1, pm_stZ0, pm_stZ1, pm_len, pm_cpyI, pm_cpyJ, pm_is, Option.bind_some, pm_u, pm_ur, pm_lt, pm_le, pm_eq, pm_ne, pm_add, pm_sub, pm_z0, pm_z1, cond_true, cond_false, decide_true, decide_false, not_false_eq_true, not_true_eq_false, reduceIte, Nat.reduceEqDiff, Nat.add_eq_left, Nat.left_eq_add, Nat.add_left_cancel_iff, Nat.one_ne_zero, am_cs, hk, hnum, g1]
            exact ⟨I1, J1, rfl, g2, g3, g4⟩
          · obtain ⟨I1, J1, g1, g2, g3, g4⟩ := sv_dig L h hc hpb (sd_num dat) (d + 3)
            simp (disch := first | assumption | omega) only [pm_gI, pm_gJ, pm_gR, pm_pI, pm_pZ, pm_pJ, pm_ldI, pm_ldJ, pm_ldR, pm_stI, pm_stZ, pm_stJ, pm_pZ0, pm_pZ1, pm_stZ0, pm_stZ1, pm_len, pm_cpyI, pm_cpyJ, pm_is, Option.bind_some, pm_u, pm_ur, pm_lt, pm_le, pm_eq, pm_ne, pm_add, pm_sub, pm_z0, pm_z1, cond_true, cond_false, decide_true, decide_false, not_false_eq_true, not_true_eq_false, reduceIte, Nat.reduceEqDiff, Nat.add_eq_left, Nat.left_eq_add, Nat.add_left_cancel_iff, Nat.one_ne_zero, am_cs, hk, hnum, hpl, g1]
            exact ⟨I1, J1, rfl, g2, g3, g4⟩
        · rw [if_neg (by omega), if_neg (by omega), if_neg (by omega), if_neg (by omega), if_neg (by omega), if_neg (by omega)]
          have d0 : ¬ f = 0 := by omega
          have d1 : ¬ f = 1 := by omega
          have d2 : ¬ f = 2 := by omega
          have d3 : ¬ f = 3 := by omega
          have d4 : ¬ f = 4 := by omega
          have d5 : ¬ f = 5 := by omega
          by_cases d6 : f = 6
          · rw [if_pos d6]
            obtain ⟨I1, J1, g1, g2, g3, g4⟩ := sv_finT L h hc hpb d
            obtain ⟨I2, u1, u2, u3⟩ := sv_verdict (o := (ss_finT c pl S).1) L g2 hcb ss_finT_v d
            subst d6
            simp (disch := first | assumption | omega) only [pm_gI, pm_gJ, pm_gR, pm_pI, pm_pZ, pm_pJ, pm_ldI, pm_ldJ, pm_ldR, pm_stI, pm_stZ, pm_stJ, pm_pZ0, pm_pZ1, pm_stZ0, pm_stZ1, pm_len, pm_cpyI, pm_cpyJ, pm_is, Option.bind_some, pm_u, pm_ur, pm_lt, pm_le, pm_eq, pm_ne, pm_add, pm_sub, pm_z0, pm_z1, cond_true, cond_false, decide_true, decide_false, not_false_eq_true, not_true_eq_false, reduceIte, Nat.reduceEqDiff, Nat.add_eq_left, Nat.left_eq_add, Nat.add_left_cancel_iff, Nat.one_ne_zero, am_cs, hk, hpl, g1, u1]
            exact ⟨I2, J1, rfl, u2, g3.trans u3, g4⟩
          · rw [if_neg d6]
            by_cases d7 : f = 7
            · rw [if_pos d7]
              obtain ⟨I1, g1, g2, g3⟩ := sv_piece L N hx9 hx13 h hx' hc d
              subst d7
              simp (disch := first | assumption | omega) only [pm_gI, pm_gJ, pm_gR, pm_pI, pm_pZ, pm_pJ, pm_ldI, pm_ldJ, pm_ldR, pm_stI, pm_stZ, pm_stJ, pm_pZ0, pm_pZ1, pm_stZ0, pm_stZ1, pm_len, pm_cpyI, pm_cpyJ, pm_is, Option.bind_some, pm_u, pm_ur, pm_lt, pm_le, pm_eq, pm_ne, pm_add, pm_sub, pm_z0, pm_z1, cond_true, cond_false, decide_true, decide_false, not_false_eq_true, not_true_eq_false, reduceIte, Nat.reduceEqDiff, Nat.add_eq_left, Nat.left_eq_add, Nat.add_left_cancel_iff, Nat.one_ne_zero, am_cs, hk, g1]
              exact ⟨I1, J, rfl, g2, g3, sf_at.refl _⟩
            · rw [if_neg d7]
              by_cases d8 : f = 8
              · rw [if_pos d8]
                obtain ⟨I1, J1, g1, g2, g3, g4⟩ := sv_finW L h hc hpb d
                obtain ⟨I2, u1, u2, u3⟩ := sv_verdict (o := (ss_finW c pl S).1) L g2 hcb ss_finW_v d
                subst d8
                simp (disch := first | assumption | omega) only [pm_gI, pm_gJ, pm_gR, pm_pI, pm_pZ, pm_pJ, pm_ldI, pm_ldJ, pm_ldR, pm_stI, pm_stZ, pm_stJ, pm_pZ0, pm_pZ1, pm_stZ0, pm_stZ1, pm_len, pm_cpyI, pm_cpyJ, pm_is, Option.bind_some, pm_u, pm_ur, pm_lt, pm_le, pm_eq, pm_ne, pm_add, pm_sub, pm_z0, pm_z1, cond_true, cond_false, decide_true, decide_false, not_false_eq_true, not_true_eq_false, reduceIte, Nat.reduceEqDiff, Nat.add_eq_left, Nat.left_eq_add, Nat.add_left_cancel_iff, Nat.one_ne_zero, am_cs, hk, hpl, g1, u1]
                exact ⟨I2, J1, rfl, u2, g3.trans u3, g4⟩
              · rw [if_neg d8]
                simp (disch := first | assumption | omega) only [pm_gI, pm_gJ, pm_gR, pm_pI, pm_pZ, pm_pJ, pm_ldI, pm_ldJ, pm_ldR, pm_stI, pm_stZ, pm_stJ, pm_pZ0, pm_pZ1, pm_stZ0, pm_stZ1, pm_len, pm_cpyI, pm_cpyJ, pm_is, Option.bind_some, pm_u, pm_ur, pm_lt, pm_le, pm_eq, pm_ne, pm_add, pm_sub, pm_z0, pm_z1, cond_true, cond_false, decide_true, decide_false, not_false_eq_true, not_true_eq_false, reduceIte, Nat.reduceEqDiff, Nat.add_eq_left, Nat.left_eq_add, Nat.add_left_cancel_iff, Nat.one_ne_zero, am_cs, hk, d0, d1, d2, d3, d4, d5, d6, d7, d8]
                exact ⟨I, J, rfl, h, sf_at.refl _, sf_at.refl _⟩
      obtain ⟨I1, J1, g1, g2, g3⟩ := h32
      unfold ss_act at g2
      rw [if_neg c0, if_neg c1] at g2
      exact ⟨I1, J1, hto _ g1, g2, g3⟩
theorem sv_partial (L : sl_ok K) (h : sv_at I J p W S) (hc : c < 30) (d : Nat) : f_X6_partialSize d 165 (nI c) (K, I, J) = some ((match S.pt c with | none => -nI 1 | some y => nI y.2.length, 0, none), (K, I, J)) := by
  obtain ⟨l0, l1, l2, l3, l4, l5, l6, l7, l8, l9, l10, l11, l12, l13, l14⟩ := L
  have q1 := (l13 c hc).1
  obtain ⟨m0, m1, m2⟩ := (l13 c hc).2
  have m3 := m2.1
  have hpt := h.2.2.2.2.1 c hc
  have c0 : ¬ c < 0 := by omega
  have c1 : ¬ 30 ≤ c := by omega
  rw [e_X6_partialSize]
  cases cp : S.pt c with
  | none =>
    rw [cp] at hpt
    have b1 : I (220 + 5 * c) 2 = nI 0 := hpt
    simp (disch := first | assumption | omega) only [pm_gI, pm_gJ, pm_gR, pm_pI, pm_pZ, pm_pJ, pm_ldI, pm_ldJ, pm_ldR, pm_stI, pm_stZ, pm_stJ, pm_pZ0, pm_pZ1, pm_stZ0, pm_stZ1, pm_len, pm_cpyI, pm_cpyJ, pm_is, Option.bind_some, pm_u, pm_ur, pm_lt, pm_le, pm_eq, pm_ne, pm_add, pm_sub, pm_z0, pm_z1, cond_true, cond_false, decide_true, decide_false, not_false_eq_true, not_true_eq_false, reduceIte, Nat.reduceEqDiff, Nat.add_eq_left, Nat.left_eq_add, Nat.add_left_cancel_iff, Nat.one_ne_zero, am_cs, c0, c1, b1]
  | some y =>
    rw [cp] at hpt
    obtain ⟨b1, b2, b3⟩ := hpt
    have b4 := b3.1
    simp (disch := first | assumption | omega) only [pm_gI, pm_gJ, pm_gR, pm_pI, pm_pZ, pm_pJ, pm_ldI, pm_ldJ, pm_ldR, pm_stI, pm_stZ, pm_stJ, pm_pZ0, pm_pZ1, pm_stZ0, pm_stZ1, pm_len, pm_cpyI, pm_cpyJ, pm_is, Option.bind_some, pm_u, pm_ur, pm_lt, pm_le, pm_eq, pm_ne, pm_add, pm_sub, pm_z0, pm_z1, cond_true, cond_false, decide_true, decide_false, not_false_eq_true, not_true_eq_false, reduceIte, Nat.reduceEqDiff, Nat.add_eq_left, Nat.left_eq_add, Nat.add_left_cancel_iff, Nat.one_ne_zero, am_cs, c0, c1, b1, b4]
def ss_drop (v : Int64) (S : sSv) : Nat × sSv :=
  match S.B v with
  | none => (0, S)
  | some _ => (1, S.setB (fu_at S.B v none) (S.nb - 1))
theorem sv_drop (L : sl_ok K) (h : sv_at I J p W S) (v : Int64) (d : Nat) : ∃ I' : pm_I, f_X6_dropBlob (d + 1) 165 v (K, I, J) = some ((nI (ss_drop v S).1, 0, none), (K, I', J)) ∧ sv_at I' J p W (ss_drop v S).2 ∧ sf_at I I' := by
  obtain ⟨s, hs, hm⟩ := h.2.2.1
  have hbo := sv_blobOf L hs v d
  obtain ⟨l0, l1, l2, l3, l4, l5, l6, l7, l8, l9, l10, l11, l12, l13, l14⟩ := L
  rw [e_X6_dropBlob]
  unfold ss_drop
  rcases bm_find hm v with ⟨i, r, hi, e1, e2, e3⟩ | ⟨e1, e3⟩
  · rw [e1] at hbo
    rw [e3]
    have q0 := (l11 i hi).2.1
    have f1 : pm_fr I (am_u I (170 + 3 * i) 2 (nI 0)) (170 + 3 * i) 3 := pm_fr_u (by omega)
    simp (disch := first | assumption | omega) only [pm_gI, pm_gJ, pm_gR, pm_pI, pm_pZ, pm_pJ, pm_ldI, pm_ldJ, pm_ldR, pm_stI, pm_stZ, pm_stJ, pm_pZ0, pm_pZ1, pm_stZ0, pm_stZ1, pm_len, pm_cpyI, pm_cpyJ, pm_is, Option.bind_some, pm_u, pm_ur, pm_lt, pm_le, pm_eq, pm_ne, pm_add, pm_sub, pm_z0, pm_z1, cond_true, cond_false, decide_true, decide_false, not_false_eq_true, not_true_eq_false, reduceIte, Nat.reduceEqDiff, Nat.add_eq_left, Nat.left_eq_add, Nat.add_left_cancel_iff, Nat.one_ne_zero, am_cs, hbo, Option.map_some]
    refine ⟨_, rfl, sv_setB (o := none) h hi hs (bm_del hm hi e2) f1 (pm_fr.refl _ _ _) ?_, sf_fr f1 (by omega)⟩
    show am_u I (170 + 3 * i) 2 (nI 0) (170 + 3 * i) 2 = nI 0
    simp [pm_u]
  · rw [e1] at hbo
    rw [e3]
    simp (disch := first | assumption | omega) only [pm_gI, pm_gJ, pm_gR, pm_pI, pm_pZ, pm_pJ, pm_ldI, pm_ldJ, pm_ldR, pm_stI, pm_stZ, pm_stJ, pm_pZ0, pm_pZ1, pm_stZ0, pm_stZ1, pm_len, pm_cpyI, pm_cpyJ, pm_is, Option.bind_some, pm_u, pm_ur, pm_lt, pm_le, pm_eq, pm_ne, pm_add, pm_sub, pm_z0, pm_z1, cond_true, cond_false, decide_true, decide_false, not_false_eq_true, not_true_eq_false, reduceIte, Nat.reduceEqDiff, Nat.add_eq_left, Nat.left_eq_add, Nat.add_left_cancel_iff, Nat.one_ne_zero, am_cs, hbo, Option.map_none]
    exact ⟨I, rfl, h, sf_at.refl _⟩
end SR4
