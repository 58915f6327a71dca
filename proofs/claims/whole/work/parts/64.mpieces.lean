/-! THE REFERENCE SENDS A ROW IN PIECES -/
def tPieces (p e c : Nat) (row : List Nat) (i : Nat) (T : sT) : sT := tSW T e ((tW T e).pieces p c row 8 i)
theorem tW_tSW {e : Nat} (T : sT) (W : sWy) : tW (tSW T e W) e = W := by
  unfold tW tSW
  by_cases h : e = 0
  · rw [if_pos h, if_pos h]; rfl
  · rw [if_neg h, if_neg h]; rfl
theorem tSW_tSW {e : Nat} (T : sT) (W W' : sWy) : tSW (tSW T e W) e W' = tSW T e W' := by
  unfold tSW
  by_cases h : e = 0
  · rw [if_pos h, if_pos h, if_pos h]; rfl
  · rw [if_neg h, if_neg h, if_neg h]; rfl
section MPC
variable {K : am_K} {J : pm_J} {p : Nat}
theorem m_put24 (M : ml_ok K) {e c a L b at' : Nat} {row : List Nat} (hsh : pm_sh K a = (1, L)) (ha : a ≠ 370 ∧ a ≠ 410) (hL : L < 100000) (hb : b + row.length ≤ L) (hr : row.length ≤ 60) (hat : at' < row.length) (hp : 8 ≤ p ∧ p ≤ 40) (d : Nat) : ∀ (n j : Nat) (I : pm_I) (l : List Nat), j + n = min p (row.length - at') → l.length = 3 + j → I 370 1 = nI p → wl_at I a b row → mx_at I l →
    ∃ I' : pm_I, l_X9_pieces_24 (d + 1) 370 (nI e) (nI c) a (nI b) (nI row.length) (nI at') (nI (at' + j)) (K, I, J) = l_X9_pieces_60 (d + 1) 370 (nI e) (nI c) a (nI b) (nI row.length) (nI at') (K, I', J) ∧ mx_at I' (l ++ ((row.drop at').take p).drop j) ∧ mxf I I' := by
  have hlen : ((row.drop at').take p).length = min p (row.length - at') := by simp
  intro n
  induction n with
  | zero =>
    intro j I l hj hl h1 h2 hx
    refine ⟨I, ?_, ?_, mxf.refl _⟩
    · rw [e_l_X9_pieces_24]
      by_cases c0 : row.length ≤ at' + j
      · simp (disch := first | assumption | omega) only [m_is M, m_gI M, m_pI M, mR7 M, mL371 M, mW371 M, mR8 M, mL372 M, mW372 M, mR9 M, mL373 M, mW373 M, mR10 M, mL374 M, mW374 M, mR11 M, mL375 M, mW375 M, mR12 M, mL376 M, mW376_0 M, mW376_1 M, mR13 M, mL377 M, mW377 M, mR14 M, mL378 M, mW378 M, mR15 M, mL379 M, mW379 M, mR16 M, mL380 M, mW380 M, mR17 M, mL381 M, mW381 M, mR18 M, mL382 M, mW382 M, mR19 M, mL383 M, mW383_0 M, mW383_1 M, mR20 M, mL384 M, mW384_0 M, mW384_1 M, mR21 M, mL385 M, mW385 M, mR22 M, mL386 M, mW386 M, mR23 M, mL387 M, mW387 M, mR26 M, mL388 M, mW388 M, mR27 M, mL389 M, mW389 M, mR28 M, mL390 M, mW390 M, mR29 M, mL391 M, mW391 M, mR30 M, mL392 M, mW392 M, mR31 M, mL393 M, mW393 M, mR32 M, mL394 M, mW394_0 M, mW394_1 M, mR33 M, mL395 M, mW395_0 M, mW395_1 M, mR34 M, mL396 M, mW396 M, mR35 M, mL397 M, mW397 M, mR36 M, mL398 M, mW398 M, mR37 M, mL399 M, mW399 M, mR38 M, mL400 M, mW400 M, mR39 M, mL401 M, mW401 M, mR40 M, mL402 M, mW402 M, mR41 M, mL403 M, mW403 M, mR42 M, mL404 M, mW404 M, mR43 M, mL405 M, mW405 M, mR44 M, mL406 M, mW406 M, mR45 M, mL407 M, mW407 M, mR46 M, mL408 M, mW408 M, mR47 M, mL409 M, mW409 M, mR48 M, mL410 M, mW410 M, Option.bind_some, pm_u, pm_ur, pm_lt, pm_le, pm_eq, pm_ne, pm_add, pm_sub, pm_mul, pm_z0, pm_z1, cond_true, cond_false, decide_true, decide_false, not_false_eq_true, not_true_eq_false, reduceIte, Nat.reduceEqDiff, Nat.add_eq_left, Nat.left_eq_add, Nat.add_left_cancel_iff, Nat.one_ne_zero, Nat.reduceMul, Nat.reduceAdd, Nat.reduceSub, Nat.reduceEqDiff, Nat.reduceLT, Nat.reduceLeDiff, am_cs, c0]
      · have c1 : at' + p ≤ at' + j := by omega
        simp (disch := first | assumption | omega) only [m_is M, m_gI M, m_pI M, mR7 M, mL371 M, mW371 M, mR8 M, mL372 M, mW372 M, mR9 M, mL373 M, mW373 M, mR10 M, mL374 M, mW374 M, mR11 M, mL375 M, mW375 M, mR12 M, mL376 M, mW376_0 M, mW376_1 M, mR13 M, mL377 M, mW377 M, mR14 M, mL378 M, mW378 M, mR15 M, mL379 M, mW379 M, mR16 M, mL380 M, mW380 M, mR17 M, mL381 M, mW381 M, mR18 M, mL382 M, mW382 M, mR19 M, mL383 M, mW383_0 M, mW383_1 M, mR20 M, mL384 M, mW384_0 M, mW384_1 M, mR21 M, mL385 M, mW385 M, mR22 M, mL386 M, mW386 M, mR23 M, mL387 M, mW387 M, mR26 M, mL388 M, mW388 M, mR27 M, mL389 M, mW389 M, mR28 M, mL390 M, mW390 M, mR29 M, mL391 M, mW391 M, mR30 M, mL392 M, mW392 M, mR31 M, mL393 M, mW393 M, mR32 M, mL394 M, mW394_0 M, mW394_1 M, mR33 M, mL395 M, mW395_0 M, mW395_1 M, mR34 M, mL396 M, mW396 M, mR35 M, mL397 M, mW397 M, mR36 M, mL398 M, mW398 M, mR37 M, mL399 M, mW399 M, mR38 M, mL400 M, mW400 M, mR39 M, mL401 M, mW401 M, mR40 M, mL402 M, mW402 M, mR41 M, mL403 M, mW403 M, mR42 M, mL404 M, mW404 M, mR43 M, mL405 M, mW405 M, mR44 M, mL406 M, mW406 M, mR45 M, mL407 M, mW407 M, mR46 M, mL408 M, mW408 M, mR47 M, mL409 M, mW409 M, mR48 M, mL410 M, mW410 M, Option.bind_some, pm_u, pm_ur, pm_lt, pm_le, pm_eq, pm_ne, pm_add, pm_sub, pm_mul, pm_z0, pm_z1, cond_true, cond_false, decide_true, decide_false, not_false_eq_true, not_true_eq_false, reduceIte, Nat.reduceEqDiff, Nat.add_eq_left, Nat.left_eq_add, Nat.add_left_cancel_iff, Nat.one_ne_zero, Nat.reduceMul, Nat.reduceAdd, Nat.reduceSub, Nat.reduceEqDiff, Nat.reduceLT, Nat.reduceLeDiff, am_cs, c0, h1, c1]
    · rw [List.drop_of_length_le (by omega), List.append_nil]
      exact hx
  | succ n ih =>
    intro j I l hj hl h1 h2 hx
    have c0 : ¬ row.length ≤ at' + j := by omega
    have c1 : ¬ at' + p ≤ at' + j := by omega
    have hld := h2 (at' + j) (by omega)
    obtain ⟨I1, p1, p2, p3, p4⟩ := m_put (J := J) (b := row.getD (at' + j) 0) M hx (by omega) d
    obtain ⟨I2, k1, k2, k3⟩ := ih (j + 1) I1 (l ++ [row.getD (at' + j) 0]) (by omega) (by simp; omega) (by rw [p3.2 1 (by omega)]; exact h1) (wl_congr (b := 0) h2 (p3.1 a ha.1 ha.2)) p2
    have hl2 : am_ldI (K, I, J) a 1 (nI (b + (at' + j))) = some (nI (row.getD (at' + j) 0)) := by
      rw [pm_ldI hsh (by omega) (by omega), hld]
    refine ⟨I2, ?_, ?_, p3.trans k3⟩
    · rw [e_l_X9_pieces_24]
      simp (disch := first | assumption | omega) only [m_is M, m_gI M, m_pI M, mR7 M, mL371 M, mW371 M, mR8 M, mL372 M, mW372 M, mR9 M, mL373 M, mW373 M, mR10 M, mL374 M, mW374 M, mR11 M, mL375 M, mW375 M, mR12 M, mL376 M, mW376_0 M, mW376_1 M, mR13 M, mL377 M, mW377 M, mR14 M, mL378 M, mW378 M, mR15 M, mL379 M, mW379 M, mR16 M, mL380 M, mW380 M, mR17 M, mL381 M, mW381 M, mR18 M, mL382 M, mW382 M, mR19 M, mL383 M, mW383_0 M, mW383_1 M, mR20 M, mL384 M, mW384_0 M, mW384_1 M, mR21 M, mL385 M, mW385 M, mR22 M, mL386 M, mW386 M, mR23 M, mL387 M, mW387 M, mR26 M, mL388 M, mW388 M, mR27 M, mL389 M, mW389 M, mR28 M, mL390 M, mW390 M, mR29 M, mL391 M, mW391 M, mR30 M, mL392 M, mW392 M, mR31 M, mL393 M, mW393 M, mR32 M, mL394 M, mW394_0 M, mW394_1 M, mR33 M, mL395 M, mW395_0 M, mW395_1 M, mR34 M, mL396 M, mW396 M, mR35 M, mL397 M, mW397 M, mR36 M, mL398 M, mW398 M, mR37 M, mL399 M, mW399 M, mR38 M, mL400 M, mW400 M, mR39 M, mL401 M, mW401 M, mR40 M, mL402 M, mW402 M, mR41 M, mL403 M, mW403 M, mR42 M, mL404 M, mW404 M, mR43 M, mL405 M, mW405 M, mR44 M, mL406 M, mW406 M, mR45 M, mL407 M, mW407 M, mR46 M, mL408 M, mW408 M, mR47 M, mL409 M, mW409 M, mR48 M, mL410 M, mW410 M, Option.bind_some, pm_u, pm_ur, pm_lt, pm_le, pm_eq, pm_ne, pm_add, pm_sub, pm_mul, pm_z0, pm_z1, cond_true, cond_false, decide_true, decide_false, not_false_eq_true, not_true_eq_false, reduceIte, Nat.reduceEqDiff, Nat.add_eq_left, Nat.left_eq_add, Nat.add_left_cancel_iff, Nat.one_ne_zero, Nat.reduceMul, Nat.reduceAdd, Nat.reduceSub, Nat.reduceEqDiff, Nat.reduceLT, Nat.reduceLeDiff, am_cs, c0, h1, c1, hl2, p1]
      exact k1
    · rw [wl_drop_cons (show j < ((row.drop at').take p).length by omega)]
      have hg : ((row.drop at').take p).getD j 0 = row.getD (at' + j) 0 := by
        simp [List.getElem?_take, show j < p by omega]
      rw [hg]
      rw [List.append_assoc] at k2
      exact k2
theorem m_piecesLoop (M : ml_ok K) {e c a L b : Nat} {row : List Nat} (he : e ≤ 1) (hsh : pm_sh K a = (1, L)) (ha : a ≠ 370 ∧ a ≠ 410 ∧ (a < 402 ∨ 407 < a)) (hL : L < 100000) (hb : b + row.length ≤ L) (hr : row.length ≤ 60) (hrb : ∀ x ∈ row, x < 256) (hc : c < 256) (d : Nat) : ∀ (n i : Nat) (I : pm_I) (T : sT), i < 256 → row.length ≤ i + 8 * n → mt_at I J p T → wl_at I a b row →
    ∃ I' : pm_I, l_X9_pieces_4 (d + 3) 370 (nI e) (nI c) a (nI b) (nI row.length) (nI i) (K, I, J) = some ((0, 0, none), (K, I', J)) ∧ mt_at I' J p (tSW T e ((tW T e).pieces p c row n i)) ∧ mq_at I I' := by
  intro n
  induction n with
  | zero =>
    intro i I T hi hl h hrow
    have c0 : row.length ≤ i := by omega
    obtain ⟨I1, a1, a2, a3⟩ := m_sendPlain (e := e) (c := c) (kd := 8) (pl := row.length) M he h hc (by omega) (by omega) d
    rw [e_l_X9_pieces_4]
    simp (disch := first | assumption | omega) only [m_is M, m_gI M, m_pI M, mR7 M, mL371 M, mW371 M, mR8 M, mL372 M, mW372 M, mR9 M, mL373 M, mW373 M, mR10 M, mL374 M, mW374 M, mR11 M, mL375 M, mW375 M, mR12 M, mL376 M, mW376_0 M, mW376_1 M, mR13 M, mL377 M, mW377 M, mR14 M, mL378 M, mW378 M, mR15 M, mL379 M, mW379 M, mR16 M, mL380 M, mW380 M, mR17 M, mL381 M, mW381 M, mR18 M, mL382 M, mW382 M, mR19 M, mL383 M, mW383_0 M, mW383_1 M, mR20 M, mL384 M, mW384_0 M, mW384_1 M, mR21 M, mL385 M, mW385 M, mR22 M, mL386 M, mW386 M, mR23 M, mL387 M, mW387 M, mR26 M, mL388 M, mW388 M, mR27 M, mL389 M, mW389 M, mR28 M, mL390 M, mW390 M, mR29 M, mL391 M, mW391 M, mR30 M, mL392 M, mW392 M, mR31 M, mL393 M, mW393 M, mR32 M, mL394 M, mW394_0 M, mW394_1 M, mR33 M, mL395 M, mW395_0 M, mW395_1 M, mR34 M, mL396 M, mW396 M, mR35 M, mL397 M, mW397 M, mR36 M, mL398 M, mW398 M, mR37 M, mL399 M, mW399 M, mR38 M, mL400 M, mW400 M, mR39 M, mL401 M, mW401 M, mR40 M, mL402 M, mW402 M, mR41 M, mL403 M, mW403 M, mR42 M, mL404 M, mW404 M, mR43 M, mL405 M, mW405 M, mR44 M, mL406 M, mW406 M, mR45 M, mL407 M, mW407 M, mR46 M, mL408 M, mW408 M, mR47 M, mL409 M, mW409 M, mR48 M, mL410 M, mW410 M, Option.bind_some, pm_u, pm_ur, pm_lt, pm_le, pm_eq, pm_ne, pm_add, pm_sub, pm_mul, pm_z0, pm_z1, cond_true, cond_false, decide_true, decide_false, not_false_eq_true, not_true_eq_false, reduceIte, Nat.reduceEqDiff, Nat.add_eq_left, Nat.left_eq_add, Nat.add_left_cancel_iff, Nat.one_ne_zero, Nat.reduceMul, Nat.reduceAdd, Nat.reduceSub, Nat.reduceEqDiff, Nat.reduceLT, Nat.reduceLeDiff, am_cs, c0, a1]
    exact ⟨I1, rfl, a2, a3⟩
  | succ n ih =>
    intro i I T hi hl h hrow
    have hp := h.2.2.2.2.2
    unfold sWy.pieces
    by_cases c0 : row.length ≤ i
    · rw [if_neg (by omega)]
      obtain ⟨I1, a1, a2, a3⟩ := m_sendPlain (e := e) (c := c) (kd := 8) (pl := row.length) M he h hc (by omega) (by omega) d
      rw [e_l_X9_pieces_4]
      simp (disch := first | assumption | omega) only [m_is M, m_gI M, m_pI M, mR7 M, mL371 M, mW371 M, mR8 M, mL372 M, mW372 M, mR9 M, mL373 M, mW373 M, mR10 M, mL374 M, mW374 M, mR11 M, mL375 M, mW375 M, mR12 M, mL376 M, mW376_0 M, mW376_1 M, mR13 M, mL377 M, mW377 M, mR14 M, mL378 M, mW378 M, mR15 M, mL379 M, mW379 M, mR16 M, mL380 M, mW380 M, mR17 M, mL381 M, mW381 M, mR18 M, mL382 M, mW382 M, mR19 M, mL383 M, mW383_0 M, mW383_1 M, mR20 M, mL384 M, mW384_0 M, mW384_1 M, mR21 M, mL385 M, mW385 M, mR22 M, mL386 M, mW386 M, mR23 M, mL387 M, mW387 M, mR26 M, mL388 M, mW388 M, mR27 M, mL389 M, mW389 M, mR28 M, mL390 M, mW390 M, mR29 M, mL391 M, mW391 M, mR30 M, mL392 M, mW392 M, mR31 M, mL393 M, mW393 M, mR32 M, mL394 M, mW394_0 M, mW394_1 M, mR33 M, mL395 M, mW395_0 M, mW395_1 M, mR34 M, mL396 M, mW396 M, mR35 M, mL397 M, mW397 M, mR36 M, mL398 M, mW398 M, mR37 M, mL399 M, mW399 M, mR38 M, mL400 M, mW400 M, mR39 M, mL401 M, mW401 M, mR40 M, mL402 M, mW402 M, mR41 M, mL403 M, mW403 M, mR42 M, mL404 M, mW404 M, mR43 M, mL405 M, mW405 M, mR44 M, mL406 M, mW406 M, mR45 M, mL407 M, mW407 M, mR46 M, mL408 M, mW408 M, mR47 M, mL409 M, mW409 M, mR48 M, mL410 M, mW410 M, Option.bind_some, pm_u, pm_ur, pm_lt, pm_le, pm_eq, pm_ne, pm_add, pm_sub, pm_mul, pm_z0, pm_z1, cond_true, cond_false, decide_true, decide_false, not_false_eq_true, not_true_eq_false, reduceIte, Nat.reduceEqDiff, Nat.add_eq_left, Nat.left_eq_add, Nat.add_left_cancel_iff, Nat.one_ne_zero, Nat.reduceMul, Nat.reduceAdd, Nat.reduceSub, Nat.reduceEqDiff, Nat.reduceLT, Nat.reduceLeDiff, am_cs, c0, a1]
      exact ⟨I1, rfl, a2, a3⟩
    · rw [if_pos (by omega)]
      obtain ⟨I1, a1, a2, a3⟩ := m_frameOf (I := I) (J := J) (c := c) (kd := 7) (pl := i) M (d + 2)
      have h1 := mt_mxf h a3
      have hpc : I1 370 1 = nI p := h1.1.1
      obtain ⟨I2, b1, b2, b3⟩ := m_put24 (J := J) (e := e) (c := c) (d := d + 2) M hsh ⟨ha.1, ha.2.1⟩ hL hb hr (show i < row.length by omega) hp (min p (row.length - i)) 0 I1 [c, 7, i] (Nat.zero_add _) rfl hpc (wl_congr (b := 0) hrow (a3.1 a ha.1 ha.2.1)) a2
      rw [List.drop_zero] at b2
      have h2 := mt_mxf h1 b3
      obtain ⟨I3, e1, e2, e3⟩ := m_send (dat := (row.drop i).take p) M he h2 b2 hc (by omega) hi (fun x hx => hrb x (List.mem_of_mem_drop (List.mem_of_mem_take hx))) (by simp; omega) (d + 1)
      have hq : mq_at I I3 := (mxf_mq (a3.trans b3)).trans e3
      have hpc3 : I3 370 1 = nI p := e2.1.1
      obtain ⟨I4, g1, g2, g3⟩ := ih (i + p) I3 _ (by omega) (by omega) e2 (wl_congr (b := 0) hrow (hq a ha.1 ha.2.1 ha.2.2))
      rw [tW_tSW, tSW_tSW] at g2
      rw [e_l_X9_pieces_4]
      simp (disch := first | assumption | omega) only [m_is M, m_gI M, m_pI M, mR7 M, mL371 M, mW371 M, mR8 M, mL372 M, mW372 M, mR9 M, mL373 M, mW373 M, mR10 M, mL374 M, mW374 M, mR11 M, mL375 M, mW375 M, mR12 M, mL376 M, mW376_0 M, mW376_1 M, mR13 M, mL377 M, mW377 M, mR14 M, mL378 M, mW378 M, mR15 M, mL379 M, mW379 M, mR16 M, mL380 M, mW380 M, mR17 M, mL381 M, mW381 M, mR18 M, mL382 M, mW382 M, mR19 M, mL383 M, mW383_0 M, mW383_1 M, mR20 M, mL384 M, mW384_0 M, mW384_1 M, mR21 M, mL385 M, mW385 M, mR22 M, mL386 M, mW386 M, mR23 M, mL387 M, mW387 M, mR26 M, mL388 M, mW388 M, mR27 M, mL389 M, mW389 M, mR28 M, mL390 M, mW390 M, mR29 M, mL391 M, mW391 M, mR30 M, mL392 M, mW392 M, mR31 M, mL393 M, mW393 M, mR32 M, mL394 M, mW394_0 M, mW394_1 M, mR33 M, mL395 M, mW395_0 M, mW395_1 M, mR34 M, mL396 M, mW396 M, mR35 M, mL397 M, mW397 M, mR36 M, mL398 M, mW398 M, mR37 M, mL399 M, mW399 M, mR38 M, mL400 M, mW400 M, mR39 M, mL401 M, mW401 M, mR40 M, mL402 M, mW402 M, mR41 M, mL403 M, mW403 M, mR42 M, mL404 M, mW404 M, mR43 M, mL405 M, mW405 M, mR44 M, mL406 M, mW406 M, mR45 M, mL407 M, mW407 M, mR46 M, mL408 M, mW408 M, mR47 M, mL409 M, mW409 M, mR48 M, mL410 M, mW410 M, Option.bind_some, pm_u, pm_ur, pm_lt, pm_le, pm_eq, pm_ne, pm_add, pm_sub, pm_mul, pm_z0, pm_z1, cond_true, cond_false, decide_true, decide_false, not_false_eq_true, not_true_eq_false, reduceIte, Nat.reduceEqDiff, Nat.add_eq_left, Nat.left_eq_add, Nat.add_left_cancel_iff, Nat.one_ne_zero, Nat.reduceMul, Nat.reduceAdd, Nat.reduceSub, Nat.reduceEqDiff, Nat.reduceLT, Nat.reduceLeDiff, am_cs, c0, a1]
      have b1' : l_X9_pieces_24 (d + 3) 370 (nI e) (nI c) a (nI b) (nI row.length) (nI i) (nI i) (K, I1, J) = l_X9_pieces_60 (d + 3) 370 (nI e) (nI c) a (nI b) (nI row.length) (nI i) (K, I2, J) := b1
      rw [b1', e_l_X9_pieces_60]
      simp (disch := first | assumption | omega) only [m_is M, m_gI M, m_pI M, mR7 M, mL371 M, mW371 M, mR8 M, mL372 M, mW372 M, mR9 M, mL373 M, mW373 M, mR10 M, mL374 M, mW374 M, mR11 M, mL375 M, mW375 M, mR12 M, mL376 M, mW376_0 M, mW376_1 M, mR13 M, mL377 M, mW377 M, mR14 M, mL378 M, mW378 M, mR15 M, mL379 M, mW379 M, mR16 M, mL380 M, mW380 M, mR17 M, mL381 M, mW381 M, mR18 M, mL382 M, mW382 M, mR19 M, mL383 M, mW383_0 M, mW383_1 M, mR20 M, mL384 M, mW384_0 M, mW384_1 M, mR21 M, mL385 M, mW385 M, mR22 M, mL386 M, mW386 M, mR23 M, mL387 M, mW387 M, mR26 M, mL388 M, mW388 M, mR27 M, mL389 M, mW389 M, mR28 M, mL390 M, mW390 M, mR29 M, mL391 M, mW391 M, mR30 M, mL392 M, mW392 M, mR31 M, mL393 M, mW393 M, mR32 M, mL394 M, mW394_0 M, mW394_1 M, mR33 M, mL395 M, mW395_0 M, mW395_1 M, mR34 M, mL396 M, mW396 M, mR35 M, mL397 M, mW397 M, mR36 M, mL398 M, mW398 M, mR37 M, mL399 M, mW399 M, mR38 M, mL400 M, mW400 M, mR39 M, mL401 M, mW401 M, mR40 M, mL402 M, mW402 M, mR41 M, mL403 M, mW403 M, mR42 M, mL404 M, mW404 M, mR43 M, mL405 M, mW405 M, mR44 M, mL406 M, mW406 M, mR45 M, mL407 M, mW407 M, mR46 M, mL408 M, mW408 M, mR47 M, mL409 M, mW409 M, mR48 M, mL410 M, mW410 M, Option.bind_some, pm_u, pm_ur, pm_lt, pm_le, pm_eq, pm_ne, pm_add, pm_sub, pm_mul, pm_z0, pm_z1, cond_true, cond_false, decide_true, decide_false, not_false_eq_true, not_true_eq_false, reduceIte, Nat.reduceEqDiff, Nat.add_eq_left, Nat.left_eq_add, Nat.add_left_cancel_iff, Nat.one_ne_zero, Nat.reduceMul, Nat.reduceAdd, Nat.reduceSub, Nat.reduceEqDiff, Nat.reduceLT, Nat.reduceLeDiff, am_cs, e1, hpc3]
      exact ⟨I4, g1, g2, hq.trans g3⟩
theorem m_pieces (M : ml_ok K) {I : pm_I} {T : sT} {e c a L b i : Nat} {row : List Nat} (he : e ≤ 1) (hsh : pm_sh K a = (1, L)) (ha : a ≠ 370 ∧ a ≠ 410 ∧ (a < 402 ∨ 407 < a)) (hL : L < 100000) (hb : b + row.length ≤ L) (hr : row.length ≤ 60) (hrb : ∀ x ∈ row, x < 256) (hc : c < 256) (hi : i < 256) (h : mt_at I J p T) (hrow : wl_at I a b row) (d : Nat) :
    ∃ I' : pm_I, f_X9_pieces (d + 3) 370 (nI e) (nI c) a (nI b) (nI row.length) (nI i) (K, I, J) = some ((0, 0, none), (K, I', J)) ∧ mt_at I' J p (tPieces p e c row i T) ∧ mq_at I I' := by
  rw [e_X9_pieces]
  exact m_piecesLoop M he hsh ha hL hb hr hrb hc d 8 i I T hi (by omega) h hrow
end MPC
