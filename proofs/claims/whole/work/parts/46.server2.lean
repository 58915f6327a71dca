/-! THE CLASS'S SERVER: requests -/
def ss_vi : Option Nat → Int32
  | none => -nI 1
  | some r => nI r
def ss_vd (W : sWy) (c : Nat) : Option Nat → sWy
  | none => W
  | some r => if r = 0 then W.send (wf_all c 11 0 []) else W.send (wf_all c 13 0 [r])
theorem px_ne1 {r : Nat} (h : r < 5) : ¬ nI r = -nI 1 := by
  rcases r with _ | _ | _ | _ | _ | r
  · decide +kernel
  · decide +kernel
  · decide +kernel
  · decide +kernel
  · decide +kernel
  · omega
section SR2
variable {K : am_K} {I : pm_I} {J : pm_J} {p c pl x f : Nat} {W : sWy} {S : sSv} {dat : List Nat}
theorem sv_verdict (L : sl_ok K) (h : sv_at I J p W S) (hc : c < 256) {o : Option Nat} (ho : ∀ r, o = some r → r < 5) (d : Nat) : ∃ I' : pm_I, f_X6_sendVerdict (d + 3) 165 (nI c) (ss_vi o) (K, I, J) = some ((0, 0, none), (K, I', J)) ∧ sv_at I' J p (ss_vd W c o) S ∧ sf_at I I' := by
  obtain ⟨l0, l1, l2, l3, l4, l5, l6, l7, l8, l9, l10, l11, l12, l13, l14⟩ := L
  have w0 := l10.1
  rw [e_X6_sendVerdict]
  cases o with
  | none =>
    have c1 : ¬ -nI 1 = nI 0 := by decide +kernel
    unfold ss_vi ss_vd
    simp (disch := first | assumption | omega) only [pm_gI, pm_gJ, pm_gR, pm_pI, pm_pZ, pm_pJ, pm_ldI, pm_ldJ, pm_ldR, pm_stI, pm_stZ, pm_stJ, pm_pZ0, pm_pZ1, pm_stZ0, pm_stZ1, pm_len, pm_cpyI, pm_cpyJ, pm_is, Option.bind_some, pm_u, pm_ur, pm_lt, pm_le, pm_eq, pm_ne, pm_add, pm_sub, pm_z0, pm_z1, cond_true, cond_false, decide_true, decide_false, not_false_eq_true, not_true_eq_false, reduceIte, Nat.reduceEqDiff, Nat.add_eq_left, Nat.left_eq_add, Nat.add_left_cancel_iff, Nat.one_ne_zero, am_cs, c1]
    exact ⟨I, rfl, h, sf_at.refl _⟩
  | some r =>
    have hr := ho r rfl
    have c1 := px_ne1 hr
    rw [show ss_vi (some r) = nI r from rfl, show ss_vd W c (some r) = if r = 0 then W.send (wf_all c 11 0 []) else W.send (wf_all c 13 0 [r]) from rfl]
    by_cases c0 : r = 0
    · obtain ⟨I1, g1, g2, g3⟩ := wy_sendEmpty (J := J) (kd := 11) (pl := 0) l10 h.1 hc (by omega) (by omega) d
      rw [if_pos c0]
      simp (disch := first | assumption | omega) only [pm_gI, pm_gJ, pm_gR, pm_pI, pm_pZ, pm_pJ, pm_ldI, pm_ldJ, pm_ldR, pm_stI, pm_stZ, pm_stJ, pm_pZ0, pm_pZ1, pm_stZ0, pm_stZ1, pm_len, pm_cpyI, pm_cpyJ, pm_is, Option.bind_some, pm_u, pm_ur, pm_lt, pm_le, pm_eq, pm_ne, pm_add, pm_sub, pm_z0, pm_z1, cond_true, cond_false, decide_true, decide_false, not_false_eq_true, not_true_eq_false, reduceIte, Nat.reduceEqDiff, Nat.add_eq_left, Nat.left_eq_add, Nat.add_left_cancel_iff, Nat.one_ne_zero, am_cs, c0, w0, g1]
      exact ⟨I1, rfl, sv_way h g3 g2, sf_fr g3 (by omega)⟩
    · obtain ⟨I1, g1, g2, g3⟩ := wy_sendByte (J := J) (kd := 13) (pl := 0) (b := r) l10 h.1 hc (by omega) (by omega) (by omega) d
      rw [if_neg c0]
      simp (disch := first | assumption | omega) only [pm_gI, pm_gJ, pm_gR, pm_pI, pm_pZ, pm_pJ, pm_ldI, pm_ldJ, pm_ldR, pm_stI, pm_stZ, pm_stJ, pm_pZ0, pm_pZ1, pm_stZ0, pm_stZ1, pm_len, pm_cpyI, pm_cpyJ, pm_is, Option.bind_some, pm_u, pm_ur, pm_lt, pm_le, pm_eq, pm_ne, pm_add, pm_sub, pm_z0, pm_z1, cond_true, cond_false, decide_true, decide_false, not_false_eq_true, not_true_eq_false, reduceIte, Nat.reduceEqDiff, Nat.add_eq_left, Nat.left_eq_add, Nat.add_left_cancel_iff, Nat.one_ne_zero, am_cs, c0, c1, w0, g1]
      exact ⟨I1, rfl, sv_way h g3 g2, sf_fr g3 (by omega)⟩
theorem sv_off (L : sl_ok K) (h : sv_at I J p W S) (d : Nat) : ∃ I' : pm_I, f_X6_putsOff d 165 (K, I, J) = some ((nI (if 0 < S.bz then 1 else 0), 0, none), (K, I', J)) ∧ sv_at I' J p W (if 0 < S.bz then S.setBz (S.bz - 1) else S) ∧ sf_at I I' ∧ (S.bz = 0 → I' = I) := by
  obtain ⟨l0, l1, l2, l3, l4, l5, l6, l7, l8, l9, l10, l11, l12, l13, l14⟩ := L
  have h2 := h.2.1.1
  have h3 := h.2.1.2
  rw [e_X6_putsOff]
  by_cases c0 : 0 < S.bz
  · rw [if_pos c0, if_pos c0]
    have c1 : 1 ≤ S.bz := by omega
    simp (disch := first | assumption | omega) only [pm_gI, pm_gJ, pm_gR, pm_pI, pm_pZ, pm_pJ, pm_ldI, pm_ldJ, pm_ldR, pm_stI, pm_stZ, pm_stJ, pm_pZ0, pm_pZ1, pm_stZ0, pm_stZ1, pm_len, pm_cpyI, pm_cpyJ, pm_is, Option.bind_some, pm_u, pm_ur, pm_lt, pm_le, pm_eq, pm_ne, pm_add, pm_sub, pm_z0, pm_z1, cond_true, cond_false, decide_true, decide_false, not_false_eq_true, not_true_eq_false, reduceIte, Nat.reduceEqDiff, Nat.add_eq_left, Nat.left_eq_add, Nat.add_left_cancel_iff, Nat.one_ne_zero, am_cs, h2, c1]
    exact ⟨_, rfl, sv_setBz h (by omega), fun a ha => am_u_ne _ _ (by omega), fun hh => by omega⟩
  · rw [if_neg c0, if_neg c0]
    have c1 : ¬ 1 ≤ S.bz := by omega
    simp (disch := first | assumption | omega) only [pm_gI, pm_gJ, pm_gR, pm_pI, pm_pZ, pm_pJ, pm_ldI, pm_ldJ, pm_ldR, pm_stI, pm_stZ, pm_stJ, pm_pZ0, pm_pZ1, pm_stZ0, pm_stZ1, pm_len, pm_cpyI, pm_cpyJ, pm_is, Option.bind_some, pm_u, pm_ur, pm_lt, pm_le, pm_eq, pm_ne, pm_add, pm_sub, pm_z0, pm_z1, cond_true, cond_false, decide_true, decide_false, not_false_eq_true, not_true_eq_false, reduceIte, Nat.reduceEqDiff, Nat.add_eq_left, Nat.left_eq_add, Nat.add_left_cancel_iff, Nat.one_ne_zero, am_cs, h2, c1]
    exact ⟨I, rfl, h, sf_at.refl _, fun _ => rfl⟩
theorem sv_find (L : sl_ok K) (h : sv_at I J p W S) (hc : c < 256) (hp : pl < 256) (v : Int64) (d : Nat) : ∃ I' : pm_I, f_X6_answerFind (d + 3) 165 (nI c) v (nI pl) (K, I, J) = some ((0, 0, none), (K, I', J)) ∧ sv_at I' J p (W.send (wf_all c 10 pl [match S.B v with | none => 0 | some _ => 1])) S ∧ sf_at I I' := by
  obtain ⟨s, hs, hm⟩ := h.2.2.1
  have hb := sv_blobOf L hs v (d + 2)
  obtain ⟨l0, l1, l2, l3, l4, l5, l6, l7, l8, l9, l10, l11, l12, l13, l14⟩ := L
  have w0 := l10.1
  rw [e_X6_answerFind]
  rcases bm_find hm v with ⟨i, r, hi, e1, e2, e3⟩ | ⟨e1, e3⟩
  · rw [e1] at hb
    rw [e3]
    obtain ⟨I1, g1, g2, g3⟩ := wy_sendByte (J := J) (kd := 10) (pl := pl) (b := 1) l10 h.1 hc (by omega) hp (by omega) d
    simp (disch := first | assumption | omega) only [pm_gI, pm_gJ, pm_gR, pm_pI, pm_pZ, pm_pJ, pm_ldI, pm_ldJ, pm_ldR, pm_stI, pm_stZ, pm_stJ, pm_pZ0, pm_pZ1, pm_stZ0, pm_stZ1, pm_len, pm_cpyI, pm_cpyJ, pm_is, Option.bind_some, pm_u, pm_ur, pm_lt, pm_le, pm_eq, pm_ne, pm_add, pm_sub, pm_z0, pm_z1, cond_true, cond_false, decide_true, decide_false, not_false_eq_true, not_true_eq_false, reduceIte, Nat.reduceEqDiff, Nat.add_eq_left, Nat.left_eq_add, Nat.add_left_cancel_iff, Nat.one_ne_zero, am_cs, hb, Option.map_some, w0, g1]
    exact ⟨I1, rfl, sv_way h g3 g2, sf_fr g3 (by omega)⟩
  · rw [e1] at hb
    rw [e3]
    obtain ⟨I1, g1, g2, g3⟩ := wy_sendByte (J := J) (kd := 10) (pl := pl) (b := 0) l10 h.1 hc (by omega) hp (by omega) d
    simp (disch := first | assumption | omega) only [pm_gI, pm_gJ, pm_gR, pm_pI, pm_pZ, pm_pJ, pm_ldI, pm_ldJ, pm_ldR, pm_stI, pm_stZ, pm_stJ, pm_pZ0, pm_pZ1, pm_stZ0, pm_stZ1, pm_len, pm_cpyI, pm_cpyJ, pm_is, Option.bind_some, pm_u, pm_ur, pm_lt, pm_le, pm_eq, pm_ne, pm_add, pm_sub, pm_z0, pm_z1, cond_true, cond_false, decide_true, decide_false, not_false_eq_true, not_true_eq_false, reduceIte, Nat.reduceEqDiff, Nat.add_eq_left, Nat.left_eq_add, Nat.add_left_cancel_iff, Nat.one_ne_zero, am_cs, hb, Option.map_none, w0, g1]
    exact ⟨I1, rfl, sv_way h g3 g2, sf_fr g3 (by omega)⟩
def ss_start (c : Nat) (v : Int64) (S : sSv) (W : sWy) : Option Nat × sSv × sWy :=
  match S.B v with
  | some _ => (some 0, S.setPt (fu_at S.pt c none), W)
  | none =>
    match S.pt c with
    | some y => (none, S, W.send (wf_all c 12 y.2.length []))
    | none => (none, S.setPt (fu_at S.pt c (some (v, []))), W.send (wf_all c 12 0 []))
theorem sv_start53 (L : sl_ok K) (h : sv_at I J p W S) (hc : c < 30) {y : Int64 × List Nat} (hy : S.pt c = some y) (d : Nat) : ∃ I' : pm_I, l_X6_startWrite_53 (d + 3) 165 (nI c) (220 + 5 * c) (K, I, J) = some ((-nI 1, 0, none), (K, I', J)) ∧ sv_at I' J p (W.send (wf_all c 12 y.2.length [])) S ∧ sf_at I I' := by
  obtain ⟨l0, l1, l2, l3, l4, l5, l6, l7, l8, l9, l10, l11, l12, l13, l14⟩ := L
  have w0 := l10.1
  have m := (l13 c hc).2
  obtain ⟨m0, m1, m2, m3, m4⟩ := m
  have hb := h.2.2.2.2.1 c hc
  rw [hy] at hb
  obtain ⟨b1, b2, b3, b4, b5, b6⟩ := hb
  obtain ⟨I1, g1, g2, g3⟩ := wy_sendEmpty (J := J) (kd := 12) (pl := y.2.length) (c := c) l10 h.1 (by omega) (by omega) (by omega) d
  rw [e_l_X6_startWrite_53]
  simp (disch := first | assumption | omega) only [pm_gI, pm_gJ, pm_gR, pm_pI, pm_pZ, pm_pJ, pm_ldI, pm_ldJ, pm_ldR, pm_stI, pm_stZ, pm_stJ, pm_pZ0, pm_pZ1, pm_stZ0, pm_stZ1, pm_len, pm_cpyI, pm_cpyJ, pm_is, Option.bind_some, pm_u, pm_ur, pm_lt, pm_le, pm_eq, pm_ne, pm_add, pm_sub, pm_z0, pm_z1, cond_true, cond_false, decide_true, decide_false, not_false_eq_true, not_true_eq_false, reduceIte, Nat.reduceEqDiff, Nat.add_eq_left, Nat.left_eq_add, Nat.add_left_cancel_iff, Nat.one_ne_zero, am_cs, b3, w0, g1]
  exact ⟨I1, rfl, sv_way h g3 g2, sf_fr g3 (by omega)⟩
theorem sv_start (L : sl_ok K) (h : sv_at I J p W S) (hc : c < 30) (v : Int64) (d : Nat) : ∃ (I' : pm_I) (J' : pm_J), f_X6_startWrite (d + 3) 165 (nI c) v (K, I, J) = some ((ss_vi (ss_start c v S W).1, 0, none), (K, I', J')) ∧ sv_at I' J' p (ss_start c v S W).2.2 (ss_start c v S W).2.1 ∧ sf_at I I' ∧ sf_at J J' := by
  obtain ⟨s, hs, hm⟩ := h.2.2.1
  have hb := sv_blobOf L hs v (d + 2)
  have L' := L
  obtain ⟨l0, l1, l2, l3, l4, l5, l6, l7, l8, l9, l10, l11, l12, l13, l14⟩ := L
  have n1 := (l13 c hc).1
  obtain ⟨m0, m1, m2, m3, m4⟩ := (l13 c hc).2
  have hp := h.2.2.2.2.1 c hc
  rw [e_X6_startWrite]
  unfold ss_start
  rcases bm_find hm v with ⟨i, r, hi, e1, e2, e3⟩ | ⟨e1, e3⟩
  · rw [e1] at hb
    rw [e3]
    simp (disch := first | assumption | omega) only [pm_gI, pm_gJ, pm_gR, pm_pI, pm_pZ, pm_pJ, pm_ldI, pm_ldJ, pm_ldR, pm_stI, pm_stZ, pm_stJ, pm_pZ0, pm_pZ1, pm_stZ0, pm_stZ1, pm_len, pm_cpyI, pm_cpyJ, pm_is, Option.bind_some, pm_u, pm_ur, pm_lt, pm_le, pm_eq, pm_ne, pm_add, pm_sub, pm_z0, pm_z1, cond_true, cond_false, decide_true, decide_false, not_false_eq_true, not_true_eq_false, reduceIte, Nat.reduceEqDiff, Nat.add_eq_left, Nat.left_eq_add, Nat.add_left_cancel_iff, Nat.one_ne_zero, am_cs, hb, Option.map_some]
    refine ⟨_, J, rfl, sv_setPt h hc (pm_fr_u (by omega)) (pm_fr.refl _ _ _) ?_, sf_fr (pm_fr_u (w := 220 + 5 * c) (n := 1) (by omega)) (by omega), sf_at.refl _⟩
    show am_u I (220 + 5 * c) 2 (nI 0) (220 + 5 * c) 2 = nI 0
    simp [pm_u]
  · rw [e1] at hb
    rw [e3]
    cases cp : S.pt c with
    | some y =>
      rw [cp] at hp
      have b1 := hp.1
      obtain ⟨I1, g1, g2, g3⟩ := sv_start53 L' h hc cp d
      simp (disch := first | assumption | omega) only [pm_gI, pm_gJ, pm_gR, pm_pI, pm_pZ, pm_pJ, pm_ldI, pm_ldJ, pm_ldR, pm_stI, pm_stZ, pm_stJ, pm_pZ0, pm_pZ1, pm_stZ0, pm_stZ1, pm_len, pm_cpyI, pm_cpyJ, pm_is, Option.bind_some, pm_u, pm_ur, pm_lt, pm_le, pm_eq, pm_ne, pm_add, pm_sub, pm_z0, pm_z1, cond_true, cond_false, decide_true, decide_false, not_false_eq_true, not_true_eq_false, reduceIte, Nat.reduceEqDiff, Nat.add_eq_left, Nat.left_eq_add, Nat.add_left_cancel_iff, Nat.one_ne_zero, am_cs, hb, Option.map_none, b1, g1]
      exact ⟨I1, J, rfl, g2, g3, sf_at.refl _⟩
    | none =>
      rw [cp] at hp
      have b1 : I (220 + 5 * c) 2 = nI 0 := hp
      have f1 : pm_fr I (am_u (am_u I (220 + 5 * c) 2 (nI 1)) (220 + 5 * c + 1) 1 (nI 0)) (220 + 5 * c) 3 := fun a ha => by rw [am_u_ne _ _ (by omega), am_u_ne _ _ (by omega)]
      have f2 : pm_fr J (am_u J (220 + 5 * c) 1 v) (220 + 5 * c) 3 := fun a ha => by rw [am_u_ne _ _ (by omega)]
      have h2 : sv_at (am_u (am_u I (220 + 5 * c) 2 (nI 1)) (220 + 5 * c + 1) 1 (nI 0)) (am_u J (220 + 5 * c) 1 v) p W (S.setPt (fu_at S.pt c (some (v, [])))) := by
        refine sv_setPt h hc f1 f2 ⟨?_, ?_, ?_, by simp, fun i hi => absurd hi (by simp), by simp⟩
        · simp [pm_u]
        · simp [pm_u]
        · simp [pm_u]
      obtain ⟨I1, g1, g2, g3⟩ := sv_start53 L' h2 hc (fu_self _ _ _) d
      simp (disch := first | assumption | omega) only [pm_gI, pm_gJ, pm_gR, pm_pI, pm_pZ, pm_pJ, pm_ldI, pm_ldJ, pm_ldR, pm_stI, pm_stZ, pm_stJ, pm_pZ0, pm_pZ1, pm_stZ0, pm_stZ1, pm_len, pm_cpyI, pm_cpyJ, pm_is, Option.bind_some, pm_u, pm_ur, pm_lt, pm_le, pm_eq, pm_ne, pm_add, pm_sub, pm_z0, pm_z1, cond_true, cond_false, decide_true, decide_false, not_false_eq_true, not_true_eq_false, reduceIte, Nat.reduceEqDiff, Nat.add_eq_left, Nat.left_eq_add, Nat.add_left_cancel_iff, Nat.one_ne_zero, am_cs, hb, Option.map_none, b1, g1]
      exact ⟨I1, _, rfl, g2, (sf_fr f1 (by omega)).trans g3, sf_fr f2 (by omega)⟩
def ss_piece (c pl : Nat) (dat : List Nat) (S : sSv) : sSv :=
  match S.pt c with
  | none => S
  | some y => S.setPt (fu_at S.pt c (some (y.1, sr_piece y.2 pl dat)))
theorem sv_piece (L : sl_ok K) (N : xl_ok K x) (hx9 : 9 ≤ x) (hx13 : x + 2 ≤ 13) (h : sv_at I J p W S) {c' : Nat} (hx : xf_at I x c' f pl dat) (hc : c < 30) (d : Nat) : ∃ I' : pm_I, f_X6_takePiece (d + 3) 165 (220 + 5 * c) x (K, I, J) = some ((0, 0, none), (K, I', J)) ∧ sv_at I' J p W (ss_piece c pl dat S) ∧ sf_at I I' := by
  obtain ⟨l0, l1, l2, l3, l4, l5, l6, l7, l8, l9, l10, l11, l12, l13, l14⟩ := L
  have n1 := (l13 c hc).1
  have m := (l13 c hc).2
  have hp := h.2.2.2.2.1 c hc
  rw [e_X6_takePiece]
  unfold ss_piece
  cases cp : S.pt c with
  | none =>
    rw [cp] at hp
    have b1 : I (220 + 5 * c) 2 = nI 0 := hp
    have m0 := m.1
    simp (disch := first | assumption | omega) only [pm_gI, pm_gJ, pm_gR, pm_pI, pm_pZ, pm_pJ, pm_ldI, pm_ldJ, pm_ldR, pm_stI, pm_stZ, pm_stJ, pm_pZ0, pm_pZ1, pm_stZ0, pm_stZ1, pm_len, pm_cpyI, pm_cpyJ, pm_is, Option.bind_some, pm_u, pm_ur, pm_lt, pm_le, pm_eq, pm_ne, pm_add, pm_sub, pm_z0, pm_z1, cond_true, cond_false, decide_true, decide_false, not_false_eq_true, not_true_eq_false, reduceIte, Nat.reduceEqDiff, Nat.add_eq_left, Nat.left_eq_add, Nat.add_left_cancel_iff, Nat.one_ne_zero, am_cs, b1]
    exact ⟨I, rfl, h, sf_at.refl _⟩
  | some y =>
    rw [cp] at hp
    obtain ⟨b1, b2, b3⟩ := hp
    obtain ⟨I1, g1, g2, g3⟩ := rc_piece (J := J) m.2.2 N (by omega) b3 hx (d)
    obtain ⟨m0, m1, m2, m3, m4⟩ := m
    simp (disch := first | assumption | omega) only [pm_gI, pm_gJ, pm_gR, pm_pI, pm_pZ, pm_pJ, pm_ldI, pm_ldJ, pm_ldR, pm_stI, pm_stZ, pm_stJ, pm_pZ0, pm_pZ1, pm_stZ0, pm_stZ1, pm_len, pm_cpyI, pm_cpyJ, pm_is, Option.bind_some, pm_u, pm_ur, pm_lt, pm_le, pm_eq, pm_ne, pm_add, pm_sub, pm_z0, pm_z1, cond_true, cond_false, decide_true, decide_false, not_false_eq_true, not_true_eq_false, reduceIte, Nat.reduceEqDiff, Nat.add_eq_left, Nat.left_eq_add, Nat.add_left_cancel_iff, Nat.one_ne_zero, am_cs, b1, g1]
    refine ⟨I1, rfl, sv_setPt h hc (g3.mono (by omega) (by omega)) (pm_fr.refl _ _ _) ⟨?_, b2, g2⟩, sf_fr g3 (by omega)⟩
    rw [g3 _ (by omega)]
    exact b1
end SR2
