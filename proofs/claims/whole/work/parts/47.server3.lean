/-! THE CLASS'S SERVER: writes end, reads, asks, tells -/
section SR3
variable {K : am_K} {I : pm_I} {J : pm_J} {p c pl x f : Nat} {W : sWy} {S : sSv} {dat : List Nat}
theorem px_cmpn {a b : Int64} : (lg_cmp a b = nI 0) = (a = b) := propext (lg_cmp_eq a b)
/-- a partial's row is kept as a blob: the partial itself is read at its own cells -/
theorem sv_keep (L : sl_ok K) (h : sv_at I J p W S) (hc : c < 30) {v : Int64} {r : List Nat} (hj : J (220 + 5 * c) 1 = v) (hr : rc_at I (220 + 5 * c + 1) r) (hv : S.B v = none) (d : Nat) : ∃ (I' : pm_I) (J' : pm_J), f_X6_keepBlob (d + 1) 165 (220 + 5 * c) (K, I, J) = some ((nI (if S.nb < 10 then 0 else 4), 0, none), (K, I', J')) ∧ sv_at I' J' p W (if S.nb < 10 then S.setB (fu_at S.B v (some r)) (S.nb + 1) else S) ∧ sf_at I I' ∧ sf_at J J' := by
  obtain ⟨s, hs, hm⟩ := h.2.2.1
  have hf := sv_freeBlob L hs d
  obtain ⟨l0, l1, l2, l3, l4, l5, l6, l7, l8, l9, l10, l11, l12, l13, l14⟩ := L
  obtain ⟨m0, m1, m2⟩ := (l13 c hc).2
  rw [e_X6_keepBlob]
  rcases bm_free hm with ⟨i, hi, e1, e2, e3⟩ | ⟨e1, e3⟩
  · rw [e1] at hf
    rw [if_pos e3, if_pos e3]
    obtain ⟨q0, q1, q2⟩ := (l11 i hi).2
    have q3 := q2.1
    have f1 : pm_fr I (am_u I (170 + 3 * i) 2 (nI 1)) (170 + 3 * i) 3 := pm_fr_u (by omega)
    have f2 : pm_fr J (am_u J (170 + 3 * i) 1 v) (170 + 3 * i) 3 := fun a ha => by rw [am_u_ne _ _ (by omega)]
    obtain ⟨I1, g1, g2, g3⟩ := rc_copy (J := am_u J (170 + 3 * i) 1 v) q2 m2 (rc_fr hr f1 (by omega)) (by omega) d
    have hne : ¬ 220 + 5 * c = 170 + 3 * i := by omega
    simp (disch := first | assumption | omega) only [pm_gI, pm_gJ, pm_gR, pm_pI, pm_pZ, pm_pJ, pm_ldI, pm_ldJ, pm_ldR, pm_stI, pm_stZ, pm_stJ, pm_pZ0, pm_pZ1, pm_stZ0, pm_stZ1, pm_len, pm_cpyI, pm_cpyJ, pm_is, Option.bind_some, pm_u, pm_ur, pm_lt, pm_le, pm_eq, pm_ne, pm_add, pm_sub, pm_z0, pm_z1, cond_true, cond_false, decide_true, decide_false, not_false_eq_true, not_true_eq_false, reduceIte, Nat.reduceEqDiff, Nat.add_eq_left, Nat.left_eq_add, Nat.add_left_cancel_iff, Nat.one_ne_zero, am_cs, hf, Option.map_some, hj, g1]
    refine ⟨I1, _, rfl, sv_setB (o := some (v, r)) h hi hs (bm_ins hm hi e2 hv r) (f1.trans (g3.mono (by omega) (by omega))) f2 ⟨?_, ?_, g2⟩, (sf_fr f1 (by omega)).trans (sf_fr g3 (by omega)), sf_fr f2 (by omega)⟩
    · rw [g3 _ (by omega)]
      simp [pm_u]
    · simp [pm_u]
  · rw [e1] at hf
    rw [if_neg (by omega), if_neg (by omega)]
    simp (disch := first | assumption | omega) only [pm_gI, pm_gJ, pm_gR, pm_pI, pm_pZ, pm_pJ, pm_ldI, pm_ldJ, pm_ldR, pm_stI, pm_stZ, pm_stJ, pm_pZ0, pm_pZ1, pm_stZ0, pm_stZ1, pm_len, pm_cpyI, pm_cpyJ, pm_is, Option.bind_some, pm_u, pm_ur, pm_lt, pm_le, pm_eq, pm_ne, pm_add, pm_sub, pm_z0, pm_z1, cond_true, cond_false, decide_true, decide_false, not_false_eq_true, not_true_eq_false, reduceIte, Nat.reduceEqDiff, Nat.add_eq_left, Nat.left_eq_add, Nat.add_left_cancel_iff, Nat.one_ne_zero, am_cs, hf, Option.map_none]
    exact ⟨I, J, rfl, h, sf_at.refl _, sf_at.refl _⟩
def ss_finW (c pl : Nat) (S : sSv) : Option Nat × sSv :=
  match S.pt c with
  | none => (none, S)
  | some y => if 0 < S.bz then (some 1, S.setBz (S.bz - 1)) else if y.2.length = pl then (if sd_dig y.2 = y.1 then (match S.B y.1 with | some _ => (some 0, S.setPt (fu_at S.pt c none)) | none => if S.nb < 10 then (some 0, (S.setPt (fu_at S.pt c none)).setB (fu_at S.B y.1 (some y.2)) (S.nb + 1)) else (some 4, S.setPt (fu_at S.pt c none))) else (some 3, S.setPt (fu_at S.pt c none))) else (some 1, S)
theorem sv_finW (L : sl_ok K) (h : sv_at I J p W S) (hc : c < 30) (hp : pl < 256) (d : Nat) : ∃ (I' : pm_I) (J' : pm_J), f_X6_finishWrite (d + 3) 165 (220 + 5 * c) (nI pl) (K, I, J) = some ((ss_vi (ss_finW c pl S).1, 0, none), (K, I', J')) ∧ sv_at I' J' p W (ss_finW c pl S).2 ∧ sf_at I I' ∧ sf_at J J' := by
  obtain ⟨I1, g1, g2, g3, g4⟩ := sv_off L h (d + 2)
  have L' := L
  obtain ⟨l0, l1, l2, l3, l4, l5, l6, l7, l8, l9, l10, l11, l12, l13, l14⟩ := L
  have hpt := h.2.2.2.2.1 c hc
  obtain ⟨m0, m1, m2⟩ := (l13 c hc).2
  have m3 := m2.1
  rw [e_X6_finishWrite]
  unfold ss_finW
  cases cp : S.pt c with
  | none =>
    rw [cp] at hpt
    have b1 : I (220 + 5 * c) 2 = nI 0 := hpt
    simp (disch := first | assumption | omega) only [pm_gI, pm_gJ, pm_gR, pm_pI, pm_pZ, pm_pJ, pm_ldI, pm_ldJ, pm_ldR, pm_stI, pm_stZ, pm_stJ, pm_pZ0, pm_pZ1, pm_stZ0, pm_stZ1, pm_len, pm_cpyI, pm_cpyJ, pm_is, Option.bind_some, pm_u, pm_ur, pm_lt, pm_le, pm_eq, pm_ne, pm_add, pm_sub, pm_z0, pm_z1, cond_true, cond_false, decide_true, decide_false, not_false_eq_true, not_true_eq_false, reduceIte, Nat.reduceEqDiff, Nat.add_eq_left, Nat.left_eq_add, Nat.add_left_cancel_iff, Nat.one_ne_zero, am_cs, b1]
    exact ⟨I, J, rfl, h, sf_at.refl _, sf_at.refl _⟩
  | some y =>
    rw [cp] at hpt
    obtain ⟨b1, b2, b3⟩ := hpt
    have hlen := b3.1
    have hl60 := b3.2.1
    simp only []
    by_cases c0 : 0 < S.bz
    · rw [if_pos c0] at g1 g2 ⊢
      simp (disch := first | assumption | omega) only [pm_gI, pm_gJ, pm_gR, pm_pI, pm_pZ, pm_pJ, pm_ldI, pm_ldJ, pm_ldR, pm_stI, pm_stZ, pm_stJ, pm_pZ0, pm_pZ1, pm_stZ0, pm_stZ1, pm_len, pm_cpyI, pm_cpyJ, pm_is, Option.bind_some, pm_u, pm_ur, pm_lt, pm_le, pm_eq, pm_ne, pm_add, pm_sub, pm_z0, pm_z1, cond_true, cond_false, decide_true, decide_false, not_false_eq_true, not_true_eq_false, reduceIte, Nat.reduceEqDiff, Nat.add_eq_left, Nat.left_eq_add, Nat.add_left_cancel_iff, Nat.one_ne_zero, am_cs, b1, g1]
      exact ⟨I1, J, rfl, g2, g3, sf_at.refl _⟩
    · have e1 := g4 (by omega)
      subst e1
      rw [if_neg c0] at g1 ⊢
      by_cases c1 : y.2.length = pl
      · rw [if_pos c1]
        rw [c1] at hlen
        have f1 : pm_fr I1 (am_u I1 (220 + 5 * c) 2 (nI 0)) (220 + 5 * c) 1 := pm_fr_u (by omega)
        have b3' := rc_congr b3 (f1 _ (by omega)) (f1 _ (by omega))
        have h1 : sv_at (am_u I1 (220 + 5 * c) 2 (nI 0)) J p W (S.setPt (fu_at S.pt c none)) := by
          refine sv_setPt h hc (f1.mono (by omega) (by omega)) (pm_fr.refl _ _ _) ?_
          show am_u I1 (220 + 5 * c) 2 (nI 0) (220 + 5 * c) 2 = nI 0
          simp [pm_u]
        have hdg := rc_digest (J := J) m2 b3' (d + 2)
        obtain ⟨s, hs, hm⟩ := h1.2.2.1
        have hbo := sv_blobOf L' hs y.1 (d + 2)
        have hm' : bm_ok s S.B S.nb := hm
        by_cases c2 : sd_dig y.2 = y.1
        · rw [if_pos c2]
          rcases bm_find hm' y.1 with ⟨i, r, hi, e1, e2, e3⟩ | ⟨e1, e3⟩
          · rw [e1] at hbo
            rw [e3]
            simp (disch := first | assumption | omega) only [pm_gI, pm_gJ, pm_gR, pm_pI, pm_pZ, pm_pJ, pm_ldI, pm_ldJ, pm_ldR, pm_stI, pm_stZ, pm_stJ, pm_pZ0, pm_pZ1, pm_stZ0, pm_stZ1, pm_len, pm_cpyI, pm_cpyJ, pm_is, Option.bind_some, pm_u, pm_ur, pm_lt, pm_le, pm_eq, pm_ne, pm_add, pm_sub, pm_z0, pm_z1, cond_true, cond_false, decide_true, decide_false, not_false_eq_true, not_true_eq_false, reduceIte, Nat.reduceEqDiff, Nat.add_eq_left, Nat.left_eq_add, Nat.add_left_cancel_iff, Nat.one_ne_zero, am_cs, b1, g1, hlen, hdg, b2, px_cmp, c2, hbo, Option.map_some]
            exact ⟨_, J, rfl, h1, sf_fr f1 (by omega), sf_at.refl _⟩
          · rw [e1] at hbo
            rw [e3]
            obtain ⟨I2, J2, k1, k2, k3, k4⟩ := sv_keep L' h1 hc b2 b3' e3 (d + 1)
            simp only []
            by_cases c3 : S.nb < 10
            · rw [if_pos (show (S.setPt (fu_at S.pt c none)).nb < 10 from c3)] at k1 k2
              rw [if_pos c3]
              simp (disch := first | assumption | omega) only [pm_gI, pm_gJ, pm_gR, pm_pI, pm_pZ, pm_pJ, pm_ldI, pm_ldJ, pm_ldR, pm_stI, pm_stZ, pm_stJ, pm_pZ0, pm_pZ1, pm_stZ0, pm_stZ1, pm_len, pm_cpyI, pm_cpyJ, pm_is, Option.bind_some, pm_u, pm_ur, pm_lt, pm_le, pm_eq, pm_ne, pm_add, pm_sub, pm_z0, pm_z1, cond_true, cond_false, decide_true, decide_false, not_false_eq_true, not_true_eq_false, reduceIte, Nat.reduceEqDiff, Nat.add_eq_left, Nat.left_eq_add, Nat.add_left_cancel_iff, Nat.one_ne_zero, am_cs, b1, g1, hlen, hdg, b2, px_cmp, c2, hbo, Option.map_none, k1]
              exact ⟨I2, J2, rfl, k2, (sf_fr f1 (by omega)).trans k3, k4⟩
            · rw [if_neg (show ¬ (S.setPt (fu_at S.pt c none)).nb < 10 from c3)] at k1 k2
              rw [if_neg c3]
              simp (disch := first | assumption | omega) only [pm_gI, pm_gJ, pm_gR, pm_pI, pm_pZ, pm_pJ, pm_ldI, pm_ldJ, pm_ldR, pm_stI, pm_stZ, pm_stJ, pm_pZ0, pm_pZ1, pm_stZ0, pm_stZ1, pm_len, pm_cpyI, pm_cpyJ, pm_is, Option.bind_some, pm_u, pm_ur, pm_lt, pm_le, pm_eq, pm_ne, pm_add, pm_sub, pm_z0, pm_z1, cond_true, cond_false, decide_true, decide_false, not_false_eq_true, not_true_eq_false, reduceIte, Nat.reduceEqDiff, Nat.add_eq_left, Nat.left_eq_add, Nat.add_left_cancel_iff, Nat.one_ne_zero, am_cs, b1, g1, hlen, hdg, b2, px_cmp, c2, hbo, Option.map_none, k1]
              exact ⟨I2, J2, rfl, k2, (sf_fr f1 (by omega)).trans k3, k4⟩
        · rw [if_neg c2]
          simp (disch := first | assumption | omega) only [pm_gI, pm_gJ, pm_gR, pm_pI, pm_pZ, pm_pJ, pm_ldI, pm_ldJ, pm_ldR, pm_stI, pm_stZ, pm_stJ, pm_pZ0, pm_pZ1, pm_stZ0, pm_stZ1, pm_len, pm_cpyI, pm_cpyJ, pm_is, Option.bind_some, pm_u, pm_ur, pm_lt, pm_le, pm_eq, pm_ne, pm_add, pm_sub, pm_z0, pm_z1, cond_true, cond_false, decide_true, decide_false, not_false_eq_true, not_true_eq_false, reduceIte, Nat.reduceEqDiff, Nat.add_eq_left, Nat.left_eq_add, Nat.add_left_cancel_iff, Nat.one_ne_zero, am_cs, b1, g1, hlen, hdg, b2, px_cmp, c2]
          exact ⟨_, J, rfl, h1, sf_fr f1 (by omega), sf_at.refl _⟩
      · rw [if_neg c1]
        simp (disch := first | assumption | omega) only [pm_gI, pm_gJ, pm_gR, pm_pI, pm_pZ, pm_pJ, pm_ldI, pm_ldJ, pm_ldR, pm_stI, pm_stZ, pm_stJ, pm_pZ0, pm_pZ1, pm_stZ0, pm_stZ1, pm_len, pm_cpyI, pm_cpyJ, pm_is, Option.bind_some, pm_u, pm_ur, pm_lt, pm_le, pm_eq, pm_ne, pm_add, pm_sub, pm_z0, pm_z1, cond_true, cond_false, decide_true, decide_false, not_false_eq_true, not_true_eq_false, reduceIte, Nat.reduceEqDiff, Nat.add_eq_left, Nat.left_eq_add, Nat.add_left_cancel_iff, Nat.one_ne_zero, am_cs, b1, g1, hlen, c1]
        exact ⟨I1, J, rfl, h, sf_at.refl _, sf_at.refl _⟩
def ss_read (p c pl : Nat) (v : Int64) (S : sSv) (W : sWy) : Option Nat × sSv × sWy :=
  if 0 < S.bz then (some 1, S.setBz (S.bz - 1), W) else
  match S.B v with
  | none => (some 2, S, W)
  | some r => (none, S, W.pieces p c r 8 pl)
theorem sv_read (L : sl_ok K) (h : sv_at I J p W S) (hc : c < 30) (hp : pl < 256) (v : Int64) (d : Nat) : ∃ I' : pm_I, f_X6_answerRead (d + 3) 165 (nI c) v (nI pl) (K, I, J) = some ((ss_vi (ss_read p c pl v S W).1, 0, none), (K, I', J)) ∧ sv_at I' J p (ss_read p c pl v S W).2.2 (ss_read p c pl v S W).2.1 ∧ sf_at I I' := by
  obtain ⟨I1, g1, g2, g3, g4⟩ := sv_off L h (d + 2)
  obtain ⟨s, hs, hm⟩ := h.2.2.1
  have hbo := sv_blobOf L hs v (d + 2)
  obtain ⟨l0, l1, l2, l3, l4, l5, l6, l7, l8, l9, l10, l11, l12, l13, l14⟩ := L
  have w0 := l10.1
  rw [e_X6_answerRead]
  unfold ss_read
  by_cases c0 : 0 < S.bz
  · rw [if_pos c0] at g1 g2 ⊢
    simp (disch := first | assumption | omega) only [pm_gI, pm_gJ, pm_gR, pm_pI, pm_pZ, pm_pJ, pm_ldI, pm_ldJ, pm_ldR, pm_stI, pm_stZ, pm_stJ, pm_pZ0, pm_pZ1, pm_stZ0, pm_stZ1, pm_len, pm_cpyI, pm_cpyJ, pm_is, Option.bind_some, pm_u, pm_ur, pm_lt, pm_le, pm_eq, pm_ne, pm_add, pm_sub, pm_z0, pm_z1, cond_true, cond_false, decide_true, decide_false, not_false_eq_true, not_true_eq_false, reduceIte, Nat.reduceEqDiff, Nat.add_eq_left, Nat.left_eq_add, Nat.add_left_cancel_iff, Nat.one_ne_zero, am_cs, g1]
    exact ⟨I1, rfl, g2, g3⟩
  · have e0 := g4 (by omega)
    subst e0
    rw [if_neg c0] at g1 ⊢
    rcases bm_find hm v with ⟨i, r, hi, e1, e2, e3⟩ | ⟨e1, e3⟩
    · rw [e1] at hbo
      rw [e3]
      have hbi := hs i hi
      rw [e2] at hbi
      obtain ⟨q0, q1, q2⟩ := (l11 i hi).2
      obtain ⟨I2, k1, k2, k3⟩ := wy_sendPieces (J := J) (i := pl) (c := c) l10 h.1 q2 hbi.2.2 (by omega) (by omega) hp d
      simp (disch := first | assumption | omega) only [pm_gI, pm_gJ, pm_gR, pm_pI, pm_pZ, pm_pJ, pm_ldI, pm_ldJ, pm_ldR, pm_stI, pm_stZ, pm_stJ, pm_pZ0, pm_pZ1, pm_stZ0, pm_stZ1, pm_len, pm_cpyI, pm_cpyJ, pm_is, Option.bind_some, pm_u, pm_ur, pm_lt, pm_le, pm_eq, pm_ne, pm_add, pm_sub, pm_z0, pm_z1, cond_true, cond_false, decide_true, decide_false, not_false_eq_true, not_true_eq_false, reduceIte, Nat.reduceEqDiff, Nat.add_eq_left, Nat.left_eq_add, Nat.add_left_cancel_iff, Nat.one_ne_zero, am_cs, g1, hbo, Option.map_some, w0, k1]
      exact ⟨I2, rfl, sv_way h k3 k2, sf_fr k3 (by omega)⟩
    · rw [e1] at hbo
      rw [e3]
      simp (disch := first | assumption | omega) only [pm_gI, pm_gJ, pm_gR, pm_pI, pm_pZ, pm_pJ, pm_ldI, pm_ldJ, pm_ldR, pm_stI, pm_stZ, pm_stJ, pm_pZ0, pm_pZ1, pm_stZ0, pm_stZ1, pm_len, pm_cpyI, pm_cpyJ, pm_is, Option.bind_some, pm_u, pm_ur, pm_lt, pm_le, pm_eq, pm_ne, pm_add, pm_sub, pm_z0, pm_z1, cond_true, cond_false, decide_true, decide_false, not_false_eq_true, not_true_eq_false, reduceIte, Nat.reduceEqDiff, Nat.add_eq_left, Nat.left_eq_add, Nat.add_left_cancel_iff, Nat.one_ne_zero, am_cs, g1, hbo, Option.map_none]
      exact ⟨I1, rfl, h, sf_at.refl _⟩
/-- are all of a result's digests there -/
def ss_all (B : Int64 → Option (List Nat)) (l : List Int64) : Nat → Nat → Nat
  | 0, _ => 1
  | n + 1, i => match B (l.getD i 0) with | none => 0 | some _ => ss_all B l n (i + 1)
theorem sv_allLoop (L : sl_ok K) (h : sv_at I J p W S) {a : Nat} (M : pl_ok K a) {y : Int64 × List Int64} (hy : po_at I J a (some y)) (d : Nat) : ∀ n i, i + n = y.2.length → l_X6_hasAllBlobs_2 (d + 1) 165 a (nI i) (K, I, J) = some ((nI (ss_all S.B y.2 n i), 0, none), (K, I, J)) := by
  obtain ⟨s, hs, hm⟩ := h.2.2.1
  obtain ⟨m0, m1, m2⟩ := M
  obtain ⟨y1, y2, y3, y4, y5⟩ := hy
  intro n
  induction n with
  | zero =>
    intro i hi
    have c0 : y.2.length ≤ i := by omega
    rw [e_l_X6_hasAllBlobs_2]
    simp (disch := first | assumption | omega) only [pm_gI, pm_gJ, pm_gR, pm_pI, pm_pZ, pm_pJ, pm_ldI, pm_ldJ, pm_ldR, pm_stI, pm_stZ, pm_stJ, pm_pZ0, pm_pZ1, pm_stZ0, pm_stZ1, pm_len, pm_cpyI, pm_cpyJ, pm_is, Option.bind_some, pm_u, pm_ur, pm_lt, pm_le, pm_eq, pm_ne, pm_add, pm_sub, pm_z0, pm_z1, cond_true, cond_false, decide_true, decide_false, not_false_eq_true, not_true_eq_false, reduceIte, Nat.reduceEqDiff, Nat.add_eq_left, Nat.left_eq_add, Nat.add_left_cancel_iff, Nat.one_ne_zero, am_cs, y3, c0]
    rfl
  | succ n ih =>
    intro i hi
    have c0 : ¬ y.2.length ≤ i := by omega
    have hj := y5 i (by omega)
    have hbo := sv_blobOf L hs (y.2.getD i 0) d
    have l0 := L.1
    rw [e_l_X6_hasAllBlobs_2]
    unfold ss_all
    rcases bm_find hm (y.2.getD i 0) with ⟨j, r, hjj, e1, e2, e3⟩ | ⟨e1, e3⟩
    · rw [e1] at hbo
      rw [e3]
      simp (disch := first | assumption | omega) only [pm_gI, pm_gJ, pm_gR, pm_pI, pm_pZ, pm_pJ, pm_ldI, pm_ldJ, pm_ldR, pm_stI, pm_stZ, pm_stJ, pm_pZ0, pm_pZ1, pm_stZ0, pm_stZ1, pm_len, pm_cpyI, pm_cpyJ, pm_is, Option.bind_some, pm_u, pm_ur, pm_lt, pm_le, pm_eq, pm_ne, pm_add, pm_sub, pm_z0, pm_z1, cond_true, cond_false, decide_true, decide_false, not_false_eq_true, not_true_eq_false, reduceIte, Nat.reduceEqDiff, Nat.add_eq_left, Nat.left_eq_add, Nat.add_left_cancel_iff, Nat.one_ne_zero, am_cs, y3, c0, hj, hbo, Option.map_some]
      exact ih (i + 1) (by omega)
    · rw [e1] at hbo
      rw [e3]
      simp (disch := first | assumption | omega) only [pm_gI, pm_gJ, pm_gR, pm_pI, pm_pZ, pm_pJ, pm_ldI, pm_ldJ, pm_ldR, pm_stI, pm_stZ, pm_stJ, pm_pZ0, pm_pZ1, pm_stZ0, pm_stZ1, pm_len, pm_cpyI, pm_cpyJ, pm_is, Option.bind_some, pm_u, pm_ur, pm_lt, pm_le, pm_eq, pm_ne, pm_add, pm_sub, pm_z0, pm_z1, cond_true, cond_false, decide_true, decide_false, not_false_eq_true, not_true_eq_false, reduceIte, Nat.reduceEqDiff, Nat.add_eq_left, Nat.left_eq_add, Nat.add_left_cancel_iff, Nat.one_ne_zero, am_cs, y3, c0, hj, hbo, Option.map_none]
def ss_ask (c : Nat) (v : Int64) (S : sSv) (W : sWy) : Option Nat × sSv × sWy :=
  if 0 < S.bz then (some 1, S.setBz (S.bz - 1), W) else
  match S.R v with
  | none => (some 2, S, W)
  | some l => if ss_all S.B l l.length 0 = 0 then (some 2, S, W) else (none, S, (W.tells c l l.length 0).send (wf_all c 6 l.length []))
theorem sv_askLoop (L : sl_ok K) (hc : c < 30) {a : Nat} (ha : 9 ≤ a) (M : pl_ok K a) {y : Int64 × List Int64} (d : Nat) : ∀ (n i : Nat) (I : pm_I) (W : sWy), i + n = y.2.length → wy_at I 5 p W → po_at I J a (some y) → ∃ I' : pm_I, l_X6_answerAsk_35 (d + 3) 165 (nI c) a (nI i) (K, I, J) = some ((-nI 1, 0, none), (K, I', J)) ∧ wy_at I' 5 p ((W.tells c y.2 n i).send (wf_all c 6 y.2.length [])) ∧ pm_fr I I' 5 4 := by
  obtain ⟨l0, l1, l2, l3, l4, l5, l6, l7, l8, l9, l10, l11, l12, l13, l14⟩ := L
  have w0 := l10.1
  obtain ⟨m0, m1, m2⟩ := M
  intro n
  induction n with
  | zero =>
    intro i I W hi hw hy
    obtain ⟨y1, y2, y3, y4, y5⟩ := hy
    have c0 : y.2.length ≤ i := by omega
    obtain ⟨I1, g1, g2, g3⟩ := wy_sendEmpty (J := J) (kd := 6) (pl := y.2.length) (c := c) l10 hw (by omega) (by omega) (by omega) d
    rw [e_l_X6_answerAsk_35]
    simp (disch := first | assumption | omega) only [pm_gI, pm_gJ, pm_gR, pm_pI, pm_pZ, pm_pJ, pm_ldI, pm_ldJ, pm_ldR, pm_stI, pm_stZ, pm_stJ, pm_pZ0, pm_pZ1, pm_stZ0, pm_stZ1, pm_len, pm_cpyI, pm_cpyJ, pm_is, Option.bind_some, pm_u, pm_ur, pm_lt, pm_le, pm_eq, pm_ne, pm_add, pm_sub, pm_z0, pm_z1, cond_true, cond_false, decide_true, decide_false, not_false_eq_true, not_true_eq_false, reduceIte, Nat.reduceEqDiff, Nat.add_eq_left, Nat.left_eq_add, Nat.add_left_cancel_iff, Nat.one_ne_zero, am_cs, y3, c0, w0, g1]
    exact ⟨I1, rfl, g2, g3⟩
  | succ n ih =>
    intro i I W hi hw hy
    have hy' := hy
    obtain ⟨y1, y2, y3, y4, y5⟩ := hy
    have c0 : ¬ y.2.length ≤ i := by omega
    have hj := y5 i (by omega)
    obtain ⟨I1, g1, g2, g3⟩ := wy_sendNumber (J := J) (kd := 5) (pl := i) (c := c) (y.2.getD i 0) l10 hw (by omega) (by omega) (by omega) d
    obtain ⟨I2, k1, k2, k3⟩ := ih (i + 1) I1 _ (by omega) g2 (po_congr hy' (fun b _ _ => g3 b (by omega)) (fun _ _ _ => rfl))
    rw [e_l_X6_answerAsk_35]
    unfold sWy.tells
    simp (disch := first | assumption | omega) only [pm_gI, pm_gJ, pm_gR, pm_pI, pm_pZ, pm_pJ, pm_ldI, pm_ldJ, pm_ldR, pm_stI, pm_stZ, pm_stJ, pm_pZ0, pm_pZ1, pm_stZ0, pm_stZ1, pm_len, pm_cpyI, pm_cpyJ, pm_is, Option.bind_some, pm_u, pm_ur, pm_lt, pm_le, pm_eq, pm_ne, pm_add, pm_sub, pm_z0, pm_z1, cond_true, cond_false, decide_true, decide_false, not_false_eq_true, not_true_eq_false, reduceIte, Nat.reduceEqDiff, Nat.add_eq_left, Nat.left_eq_add, Nat.add_left_cancel_iff, Nat.one_ne_zero, am_cs, y3, c0, w0, hj, g1]
    exact ⟨I2, k1, k2, g3.trans k3⟩
theorem ss_all01 (B : Int64 → Option (List Nat)) (l : List Int64) : ∀ n i, ss_all B l n i = 0 ∨ ss_all B l n i = 1 := by
  intro n
  induction n with
  | zero => intro i; exact Or.inr rfl
  | succ n ih =>
    intro i
    unfold ss_all
    cases B (l.getD i 0) with
    | none => exact Or.inl rfl
    | some _ => exact ih (i + 1)
theorem sv_ask (L : sl_ok K) (h : sv_at I J p W S) (hc : c < 30) (v : Int64) (d : Nat) : ∃ I' : pm_I, f_X6_answerAsk (d + 3) 165 (nI c) v (K, I, J) = some ((ss_vi (ss_ask c v S W).1, 0, none), (K, I', J)) ∧ sv_at I' J p (ss_ask c v S W).2.2 (ss_ask c v S W).2.1 ∧ sf_at I I' := by
  obtain ⟨I1, g1, g2, g3, g4⟩ := sv_off L h (d + 2)
  obtain ⟨s, hs, hm⟩ := h.2.2.2.1
  have hbo := sv_resultOf L hs v (d + 2)
  have L' := L
  obtain ⟨l0, l1, l2, l3, l4, l5, l6, l7, l8, l9, l10, l11, l12, l13, l14⟩ := L
  rw [e_X6_answerAsk]
  unfold ss_ask
  by_cases c0 : 0 < S.bz
  · rw [if_pos c0] at g1 g2 ⊢
    simp (disch := first | assumption | omega) only [pm_gI, pm_gJ, pm_gR, pm_pI, pm_pZ, pm_pJ, pm_ldI, pm_ldJ, pm_ldR, pm_stI, pm_stZ, pm_stJ, pm_pZ0, pm_pZ1, pm_stZ0, pm_stZ1, pm_len, pm_cpyI, pm_cpyJ, pm_is, Option.bind_some, pm_u, pm_ur, pm_lt, pm_le, pm_eq, pm_ne, pm_add, pm_sub, pm_z0, pm_z1, cond_true, cond_false, decide_true, decide_false, not_false_eq_true, not_true_eq_false, reduceIte, Nat.reduceEqDiff, Nat.add_eq_left, Nat.left_eq_add, Nat.add_left_cancel_iff, Nat.one_ne_zero, am_cs, g1]
    exact ⟨I1, rfl, g2, g3⟩
  · have e0 := g4 (by omega)
    subst e0
    rw [if_neg c0] at g1 ⊢
    rcases bm_find hm v with ⟨i, r, hi, e1, e2, e3⟩ | ⟨e1, e3⟩
    · rw [e1] at hbo
      rw [e3]
      have hbi := hs i hi
      rw [e2] at hbi
      have M := (l12 i hi).2
      have hall := sv_allLoop L' h M hbi (d + 1) r.length 0 (Nat.zero_add _)
      have hha : f_X6_hasAllBlobs (d + 2) 165 (200 + 2 * i) (K, I1, J) = some ((nI (ss_all S.B r r.length 0), 0, none), (K, I1, J)) := by
        rw [e_X6_hasAllBlobs]
        exact hall
      simp only []
      rcases ss_all01 S.B r r.length 0 with c1 | c1
      · rw [if_pos c1]
        rw [c1] at hha
        simp (disch := first | assumption | omega) only [pm_gI, pm_gJ, pm_gR, pm_pI, pm_pZ, pm_pJ, pm_ldI, pm_ldJ, pm_ldR, pm_stI, pm_stZ, pm_stJ, pm_pZ0, pm_pZ1, pm_stZ0, pm_stZ1, pm_len, pm_cpyI, pm_cpyJ, pm_is, Option.bind_some, pm_u, pm_ur, pm_lt, pm_le, pm_eq, pm_ne, pm_add, pm_sub, pm_z0, pm_z1, cond_true, cond_false, decide_true, decide_false, not_false_eq_true, not_true_eq_false, reduceIte, Nat.reduceEqDiff, Nat.add_eq_left, Nat.left_eq_add, Nat.add_left_cancel_iff, Nat.one_ne_zero, am_cs, g1, hbo, Option.map_some, hha]
        exact ⟨I1, rfl, h, sf_at.refl _⟩
      · rw [if_neg (by omega)]
        rw [c1] at hha
        obtain ⟨I2, k1, k2, k3⟩ := sv_askLoop (c := c) L' hc (by omega) M d r.length 0 I1 W (Nat.zero_add _) h.1 hbi
        simp (disch := first | assumption | omega) only [pm_gI, pm_gJ, pm_gR, pm_pI, pm_pZ, pm_pJ, pm_ldI, pm_ldJ, pm_ldR, pm_stI, pm_stZ, pm_stJ, pm_pZ0, pm_pZ1, pm_stZ0, pm_stZ1, pm_len, pm_cpyI, pm_cpyJ, pm_is, Option.bind_some, pm_u, pm_ur, pm_lt, pm_le, pm_eq, pm_ne, pm_add, pm_sub, pm_z0, pm_z1, cond_true, cond_false, decide_true, decide_false, not_false_eq_true, not_true_eq_false, reduceIte, Nat.reduceEqDiff, Nat.add_eq_left, Nat.left_eq_add, Nat.add_left_cancel_iff, Nat.one_ne_zero, am_cs, g1, hbo, Option.map_some, hha]
        exact ⟨I2, k1, sv_way h k3 k2, sf_fr k3 (by omega)⟩
    · rw [e1] at hbo
      rw [e3]
      simp (disch := first | assumption | omega) only [pm_gI, pm_gJ, pm_gR, pm_pI, pm_pZ, pm_pJ, pm_ldI, pm_ldJ, pm_ldR, pm_stI, pm_stZ, pm_stJ, pm_pZ0, pm_pZ1, pm_stZ0, pm_stZ1, pm_len, pm_cpyI, pm_cpyJ, pm_is, Option.bind_some, pm_u, pm_ur, pm_lt, pm_le, pm_eq, pm_ne, pm_add, pm_sub, pm_z0, pm_z1, cond_true, cond_false, decide_true, decide_false, not_false_eq_true, not_true_eq_false, reduceIte, Nat.reduceEqDiff, Nat.add_eq_left, Nat.left_eq_add, Nat.add_left_cancel_iff, Nat.one_ne_zero, am_cs, g1, hbo, Option.map_none]
      exact ⟨I1, rfl, h, sf_at.refl _⟩
end SR3
