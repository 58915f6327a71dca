/-! THE REFERENCE'S CALLS OF THE DOCUMENT, part 3: forget, lose, twice -/
theorem px_subadd (a b c : Nat) : (nI a - nI b) + nI c = nI (a + c) - nI b := by
  rw [← pm_add, Int32.sub_eq_add_neg, Int32.sub_eq_add_neg, Int32.add_assoc, Int32.add_comm (-nI b), ← Int32.add_assoc]
section MT3
variable {K : am_K} {I I' : pm_I} {J J' : pm_J} {p e : Nat} {T : sT} {W : sWy}
theorem m_isWhole (M : ml_ok K) (he : e ≤ 1) (h : mw_at I e W) (y : Int32) (d : Nat) : f_X9_isWhole (d + 1) 370 (nI e) y (K, I, J) = some ((nI (wu_in y W.un), 0, none), (K, I, J)) := by
  have hf := m_firstWhole (J := J) M he h d
  obtain ⟨rm, h1, h2, h3, h4, h5, h6, h7, h8, h9, h10⟩ := h
  have hw := wv_first h10
  have c0 : ¬ 2 ≤ e := by omega
  rw [e_X9_isWhole]
  unfold wu_in sWy.un
  by_cases c1 : y < nI 0
  · rw [if_pos (show y < 0 from c1)]
    simp (disch := first | assumption | omega) only [m_is M, m_gI M, m_pI M, mR7 M, mL371 M, mW371 M, mR8 M, mL372 M, mW372 M, mR9 M, mL373 M, mW373 M, mR10 M, mL374 M, mW374 M, mR11 M, mL375 M, mW375 M, mR12 M, mL376 M, mW376_0 M, mW376_1 M, mR13 M, mL377 M, mW377 M, mR14 M, mL378 M, mW378 M, mR15 M, mL379 M, mW379 M, mR16 M, mL380 M, mW380 M, mR17 M, mL381 M, mW381 M, mR18 M, mL382 M, mW382 M, mR19 M, mL383 M, mW383_0 M, mW383_1 M, mR20 M, mL384 M, mW384_0 M, mW384_1 M, mR21 M, mL385 M, mW385 M, mR22 M, mL386 M, mW386 M, mR23 M, mL387 M, mW387 M, mR26 M, mL388 M, mW388 M, mR27 M, mL389 M, mW389 M, mR28 M, mL390 M, mW390 M, mR29 M, mL391 M, mW391 M, mR30 M, mL392 M, mW392 M, mR31 M, mL393 M, mW393 M, mR32 M, mL394 M, mW394_0 M, mW394_1 M, mR33 M, mL395 M, mW395_0 M, mW395_1 M, mR34 M, mL396 M, mW396 M, mR35 M, mL397 M, mW397 M, mR36 M, mL398 M, mW398 M, mR37 M, mL399 M, mW399 M, mR38 M, mL400 M, mW400 M, mR39 M, mL401 M, mW401 M, mR40 M, mL402 M, mW402 M, mR41 M, mL403 M, mW403 M, mR42 M, mL404 M, mW404 M, mR43 M, mL405 M, mW405 M, mR44 M, mL406 M, mW406 M, mR45 M, mL407 M, mW407 M, mR46 M, mL408 M, mW408 M, mR47 M, mL409 M, mW409 M, mR48 M, mL410 M, mW410 M, Option.bind_some, pm_u, pm_ur, pm_lt, pm_le, pm_eq, pm_ne, pm_add, pm_sub, pm_mul, pm_z0, pm_z1, cond_true, cond_false, decide_true, decide_false, not_false_eq_true, not_true_eq_false, reduceIte, Nat.reduceEqDiff, Nat.add_eq_left, Nat.left_eq_add, Nat.add_left_cancel_iff, Nat.one_ne_zero, Nat.reduceMul, Nat.reduceAdd, Nat.reduceSub, Nat.reduceEqDiff, Nat.reduceLT, Nat.reduceLeDiff, Nat.not_lt_zero, Nat.zero_le, am_cs, c0, c1]
  · rw [if_neg (show ¬ y < 0 from c1)]
    by_cases c2 : nI (W.fs.length - wu_first W.ar) ≤ y
    · rw [if_pos c2]
      simp (disch := first | assumption | omega) only [m_is M, m_gI M, m_pI M, mR7 M, mL371 M, mW371 M, mR8 M, mL372 M, mW372 M, mR9 M, mL373 M, mW373 M, mR10 M, mL374 M, mW374 M, mR11 M, mL375 M, mW375 M, mR12 M, mL376 M, mW376_0 M, mW376_1 M, mR13 M, mL377 M, mW377 M, mR14 M, mL378 M, mW378 M, mR15 M, mL379 M, mW379 M, mR16 M, mL380 M, mW380 M, mR17 M, mL381 M, mW381 M, mR18 M, mL382 M, mW382 M, mR19 M, mL383 M, mW383_0 M, mW383_1 M, mR20 M, mL384 M, mW384_0 M, mW384_1 M, mR21 M, mL385 M, mW385 M, mR22 M, mL386 M, mW386 M, mR23 M, mL387 M, mW387 M, mR26 M, mL388 M, mW388 M, mR27 M, mL389 M, mW389 M, mR28 M, mL390 M, mW390 M, mR29 M, mL391 M, mW391 M, mR30 M, mL392 M, mW392 M, mR31 M, mL393 M, mW393 M, mR32 M, mL394 M, mW394_0 M, mW394_1 M, mR33 M, mL395 M, mW395_0 M, mW395_1 M, mR34 M, mL396 M, mW396 M, mR35 M, mL397 M, mW397 M, mR36 M, mL398 M, mW398 M, mR37 M, mL399 M, mW399 M, mR38 M, mL400 M, mW400 M, mR39 M, mL401 M, mW401 M, mR40 M, mL402 M, mW402 M, mR41 M, mL403 M, mW403 M, mR42 M, mL404 M, mW404 M, mR43 M, mL405 M, mW405 M, mR44 M, mL406 M, mW406 M, mR45 M, mL407 M, mW407 M, mR46 M, mL408 M, mW408 M, mR47 M, mL409 M, mW409 M, mR48 M, mL410 M, mW410 M, Option.bind_some, pm_u, pm_ur, pm_lt, pm_le, pm_eq, pm_ne, pm_add, pm_sub, pm_mul, pm_z0, pm_z1, cond_true, cond_false, decide_true, decide_false, not_false_eq_true, not_true_eq_false, reduceIte, Nat.reduceEqDiff, Nat.add_eq_left, Nat.left_eq_add, Nat.add_left_cancel_iff, Nat.one_ne_zero, Nat.reduceMul, Nat.reduceAdd, Nat.reduceSub, Nat.reduceEqDiff, Nat.reduceLT, Nat.reduceLeDiff, Nat.not_lt_zero, Nat.zero_le, am_cs, c0, c1, h3, hf, c2]
    · rw [if_neg c2]
      simp (disch := first | assumption | omega) only [m_is M, m_gI M, m_pI M, mR7 M, mL371 M, mW371 M, mR8 M, mL372 M, mW372 M, mR9 M, mL373 M, mW373 M, mR10 M, mL374 M, mW374 M, mR11 M, mL375 M, mW375 M, mR12 M, mL376 M, mW376_0 M, mW376_1 M, mR13 M, mL377 M, mW377 M, mR14 M, mL378 M, mW378 M, mR15 M, mL379 M, mW379 M, mR16 M, mL380 M, mW380 M, mR17 M, mL381 M, mW381 M, mR18 M, mL382 M, mW382 M, mR19 M, mL383 M, mW383_0 M, mW383_1 M, mR20 M, mL384 M, mW384_0 M, mW384_1 M, mR21 M, mL385 M, mW385 M, mR22 M, mL386 M, mW386 M, mR23 M, mL387 M, mW387 M, mR26 M, mL388 M, mW388 M, mR27 M, mL389 M, mW389 M, mR28 M, mL390 M, mW390 M, mR29 M, mL391 M, mW391 M, mR30 M, mL392 M, mW392 M, mR31 M, mL393 M, mW393 M, mR32 M, mL394 M, mW394_0 M, mW394_1 M, mR33 M, mL395 M, mW395_0 M, mW395_1 M, mR34 M, mL396 M, mW396 M, mR35 M, mL397 M, mW397 M, mR36 M, mL398 M, mW398 M, mR37 M, mL399 M, mW399 M, mR38 M, mL400 M, mW400 M, mR39 M, mL401 M, mW401 M, mR40 M, mL402 M, mW402 M, mR41 M, mL403 M, mW403 M, mR42 M, mL404 M, mW404 M, mR43 M, mL405 M, mW405 M, mR44 M, mL406 M, mW406 M, mR45 M, mL407 M, mW407 M, mR46 M, mL408 M, mW408 M, mR47 M, mL409 M, mW409 M, mR48 M, mL410 M, mW410 M, Option.bind_some, pm_u, pm_ur, pm_lt, pm_le, pm_eq, pm_ne, pm_add, pm_sub, pm_mul, pm_z0, pm_z1, cond_true, cond_false, decide_true, decide_false, not_false_eq_true, not_true_eq_false, reduceIte, Nat.reduceEqDiff, Nat.add_eq_left, Nat.left_eq_add, Nat.add_left_cancel_iff, Nat.one_ne_zero, Nat.reduceMul, Nat.reduceAdd, Nat.reduceSub, Nat.reduceEqDiff, Nat.reduceLT, Nat.reduceLeDiff, Nat.not_lt_zero, Nat.zero_le, am_cs, c0, c1, h3, hf, c2]
theorem m_isWholeX (M : ml_ok K) {x : Int32} (hx : ¬ (x = nI 0 ∨ x = nI 1)) (y : Int32) (d : Nat) : f_X9_isWhole (d + 1) 370 x y (K, I, J) = some ((nI 0, 0, none), (K, I, J)) := by
  rw [e_X9_isWhole]
  by_cases c1 : x < nI 0
  · simp (disch := first | assumption | omega) only [m_is M, m_gI M, m_pI M, mR7 M, mL371 M, mW371 M, mR8 M, mL372 M, mW372 M, mR9 M, mL373 M, mW373 M, mR10 M, mL374 M, mW374 M, mR11 M, mL375 M, mW375 M, mR12 M, mL376 M, mW376_0 M, mW376_1 M, mR13 M, mL377 M, mW377 M, mR14 M, mL378 M, mW378 M, mR15 M, mL379 M, mW379 M, mR16 M, mL380 M, mW380 M, mR17 M, mL381 M, mW381 M, mR18 M, mL382 M, mW382 M, mR19 M, mL383 M, mW383_0 M, mW383_1 M, mR20 M, mL384 M, mW384_0 M, mW384_1 M, mR21 M, mL385 M, mW385 M, mR22 M, mL386 M, mW386 M, mR23 M, mL387 M, mW387 M, mR26 M, mL388 M, mW388 M, mR27 M, mL389 M, mW389 M, mR28 M, mL390 M, mW390 M, mR29 M, mL391 M, mW391 M, mR30 M, mL392 M, mW392 M, mR31 M, mL393 M, mW393 M, mR32 M, mL394 M, mW394_0 M, mW394_1 M, mR33 M, mL395 M, mW395_0 M, mW395_1 M, mR34 M, mL396 M, mW396 M, mR35 M, mL397 M, mW397 M, mR36 M, mL398 M, mW398 M, mR37 M, mL399 M, mW399 M, mR38 M, mL400 M, mW400 M, mR39 M, mL401 M, mW401 M, mR40 M, mL402 M, mW402 M, mR41 M, mL403 M, mW403 M, mR42 M, mL404 M, mW404 M, mR43 M, mL405 M, mW405 M, mR44 M, mL406 M, mW406 M, mR45 M, mL407 M, mW407 M, mR46 M, mL408 M, mW408 M, mR47 M, mL409 M, mW409 M, mR48 M, mL410 M, mW410 M, Option.bind_some, pm_u, pm_ur, pm_lt, pm_le, pm_eq, pm_ne, pm_add, pm_sub, pm_mul, pm_z0, pm_z1, cond_true, cond_false, decide_true, decide_false, not_false_eq_true, not_true_eq_false, reduceIte, Nat.reduceEqDiff, Nat.add_eq_left, Nat.left_eq_add, Nat.add_left_cancel_iff, Nat.one_ne_zero, Nat.reduceMul, Nat.reduceAdd, Nat.reduceSub, Nat.reduceEqDiff, Nat.reduceLT, Nat.reduceLeDiff, Nat.not_lt_zero, Nat.zero_le, am_cs, c1]
  · have c2 : nI 2 ≤ x := by
      rcases px_end hx with q | q
      · exact absurd q c1
      · obtain ⟨hx, hx2⟩ := px_nn c1
        rw [hx] at q ⊢
        exact nI_le (by have := (nI_ltI (by omega) hx2).mp q; omega) hx2
    simp (disch := first | assumption | omega) only [m_is M, m_gI M, m_pI M, mR7 M, mL371 M, mW371 M, mR8 M, mL372 M, mW372 M, mR9 M, mL373 M, mW373 M, mR10 M, mL374 M, mW374 M, mR11 M, mL375 M, mW375 M, mR12 M, mL376 M, mW376_0 M, mW376_1 M, mR13 M, mL377 M, mW377 M, mR14 M, mL378 M, mW378 M, mR15 M, mL379 M, mW379 M, mR16 M, mL380 M, mW380 M, mR17 M, mL381 M, mW381 M, mR18 M, mL382 M, mW382 M, mR19 M, mL383 M, mW383_0 M, mW383_1 M, mR20 M, mL384 M, mW384_0 M, mW384_1 M, mR21 M, mL385 M, mW385 M, mR22 M, mL386 M, mW386 M, mR23 M, mL387 M, mW387 M, mR26 M, mL388 M, mW388 M, mR27 M, mL389 M, mW389 M, mR28 M, mL390 M, mW390 M, mR29 M, mL391 M, mW391 M, mR30 M, mL392 M, mW392 M, mR31 M, mL393 M, mW393 M, mR32 M, mL394 M, mW394_0 M, mW394_1 M, mR33 M, mL395 M, mW395_0 M, mW395_1 M, mR34 M, mL396 M, mW396 M, mR35 M, mL397 M, mW397 M, mR36 M, mL398 M, mW398 M, mR37 M, mL399 M, mW399 M, mR38 M, mL400 M, mW400 M, mR39 M, mL401 M, mW401 M, mR40 M, mL402 M, mW402 M, mR41 M, mL403 M, mW403 M, mR42 M, mL404 M, mW404 M, mR43 M, mL405 M, mW405 M, mR44 M, mL406 M, mW406 M, mR45 M, mL407 M, mW407 M, mR46 M, mL408 M, mW408 M, mR47 M, mL409 M, mW409 M, mR48 M, mL410 M, mW410 M, Option.bind_some, pm_u, pm_ur, pm_lt, pm_le, pm_eq, pm_ne, pm_add, pm_sub, pm_mul, pm_z0, pm_z1, cond_true, cond_false, decide_true, decide_false, not_false_eq_true, not_true_eq_false, reduceIte, Nat.reduceEqDiff, Nat.add_eq_left, Nat.left_eq_add, Nat.add_left_cancel_iff, Nat.one_ne_zero, Nat.reduceMul, Nat.reduceAdd, Nat.reduceSub, Nat.reduceEqDiff, Nat.reduceLT, Nat.reduceLeDiff, Nat.not_lt_zero, Nat.zero_le, am_cs, c1, c2]
theorem m_placeLoop (M : ml_ok K) (he : e ≤ 1) {fs : List Nat} {rm ar k : Nat} (hfs : wl_at I 405 (900 * e) fs) (hl : fs.length ≤ 900) (hk : k < fs.length) (har : ar ≤ (fs.take k).sum) (d : Nat) : ∀ (m i : Nat), i + m = k → l_X9_placeOf_17 d 370 (nI e) (nI k) (nI (rm + (fs.take i).sum) - nI ar) (nI i) (K, I, J) = some ((nI (4200 * e + rm + wa_pos fs ar k), 0, none), (K, I, J)) := by
  intro m
  induction m with
  | zero =>
    intro i hi
    obtain rfl : i = k := by omega
    rw [e_l_X9_placeOf_17, pm_sub (by omega)]
    have hp : 4200 * e + (rm + (fs.take i).sum - ar) = 4200 * e + rm + wa_pos fs ar i := by
      unfold wa_pos
      omega
    simp (disch := first | assumption | omega) only [m_is M, m_gI M, m_pI M, mR7 M, mL371 M, mW371 M, mR8 M, mL372 M, mW372 M, mR9 M, mL373 M, mW373 M, mR10 M, mL374 M, mW374 M, mR11 M, mL375 M, mW375 M, mR12 M, mL376 M, mW376_0 M, mW376_1 M, mR13 M, mL377 M, mW377 M, mR14 M, mL378 M, mW378 M, mR15 M, mL379 M, mW379 M, mR16 M, mL380 M, mW380 M, mR17 M, mL381 M, mW381 M, mR18 M, mL382 M, mW382 M, mR19 M, mL383 M, mW383_0 M, mW383_1 M, mR20 M, mL384 M, mW384_0 M, mW384_1 M, mR21 M, mL385 M, mW385 M, mR22 M, mL386 M, mW386 M, mR23 M, mL387 M, mW387 M, mR26 M, mL388 M, mW388 M, mR27 M, mL389 M, mW389 M, mR28 M, mL390 M, mW390 M, mR29 M, mL391 M, mW391 M, mR30 M, mL392 M, mW392 M, mR31 M, mL393 M, mW393 M, mR32 M, mL394 M, mW394_0 M, mW394_1 M, mR33 M, mL395 M, mW395_0 M, mW395_1 M, mR34 M, mL396 M, mW396 M, mR35 M, mL397 M, mW397 M, mR36 M, mL398 M, mW398 M, mR37 M, mL399 M, mW399 M, mR38 M, mL400 M, mW400 M, mR39 M, mL401 M, mW401 M, mR40 M, mL402 M, mW402 M, mR41 M, mL403 M, mW403 M, mR42 M, mL404 M, mW404 M, mR43 M, mL405 M, mW405 M, mR44 M, mL406 M, mW406 M, mR45 M, mL407 M, mW407 M, mR46 M, mL408 M, mW408 M, mR47 M, mL409 M, mW409 M, mR48 M, mL410 M, mW410 M, Option.bind_some, pm_u, pm_ur, pm_lt, pm_le, pm_eq, pm_ne, pm_add, pm_sub, pm_mul, pm_z0, pm_z1, cond_true, cond_false, decide_true, decide_false, not_false_eq_true, not_true_eq_false, reduceIte, Nat.reduceEqDiff, Nat.add_eq_left, Nat.left_eq_add, Nat.add_left_cancel_iff, Nat.one_ne_zero, Nat.reduceMul, Nat.reduceAdd, Nat.reduceSub, Nat.reduceEqDiff, Nat.reduceLT, Nat.reduceLeDiff, Nat.not_lt_zero, Nat.zero_le, am_cs, Nat.le_refl, hp]
  | succ m ih =>
    intro i hi
    have c0 : ¬ k ≤ i := by omega
    have hb := hfs i (by omega)
    have := ih (i + 1) (by omega)
    rw [wl_sum_take fs i (by omega), ← Nat.add_assoc, ← px_subadd] at this
    rw [e_l_X9_placeOf_17]
    generalize nI (rm + (fs.take i).sum) - nI ar = z at *
    simp (disch := first | assumption | omega) only [m_is M, m_gI M, m_pI M, mR7 M, mL371 M, mW371 M, mR8 M, mL372 M, mW372 M, mR9 M, mL373 M, mW373 M, mR10 M, mL374 M, mW374 M, mR11 M, mL375 M, mW375 M, mR12 M, mL376 M, mW376_0 M, mW376_1 M, mR13 M, mL377 M, mW377 M, mR14 M, mL378 M, mW378 M, mR15 M, mL379 M, mW379 M, mR16 M, mL380 M, mW380 M, mR17 M, mL381 M, mW381 M, mR18 M, mL382 M, mW382 M, mR19 M, mL383 M, mW383_0 M, mW383_1 M, mR20 M, mL384 M, mW384_0 M, mW384_1 M, mR21 M, mL385 M, mW385 M, mR22 M, mL386 M, mW386 M, mR23 M, mL387 M, mW387 M, mR26 M, mL388 M, mW388 M, mR27 M, mL389 M, mW389 M, mR28 M, mL390 M, mW390 M, mR29 M, mL391 M, mW391 M, mR30 M, mL392 M, mW392 M, mR31 M, mL393 M, mW393 M, mR32 M, mL394 M, mW394_0 M, mW394_1 M, mR33 M, mL395 M, mW395_0 M, mW395_1 M, mR34 M, mL396 M, mW396 M, mR35 M, mL397 M, mW397 M, mR36 M, mL398 M, mW398 M, mR37 M, mL399 M, mW399 M, mR38 M, mL400 M, mW400 M, mR39 M, mL401 M, mW401 M, mR40 M, mL402 M, mW402 M, mR41 M, mL403 M, mW403 M, mR42 M, mL404 M, mW404 M, mR43 M, mL405 M, mW405 M, mR44 M, mL406 M, mW406 M, mR45 M, mL407 M, mW407 M, mR46 M, mL408 M, mW408 M, mR47 M, mL409 M, mW409 M, mR48 M, mL410 M, mW410 M, Option.bind_some, pm_u, pm_ur, pm_lt, pm_le, pm_eq, pm_ne, pm_add, pm_sub, pm_mul, pm_z0, pm_z1, cond_true, cond_false, decide_true, decide_false, not_false_eq_true, not_true_eq_false, reduceIte, Nat.reduceEqDiff, Nat.add_eq_left, Nat.left_eq_add, Nat.add_left_cancel_iff, Nat.one_ne_zero, Nat.reduceMul, Nat.reduceAdd, Nat.reduceSub, Nat.reduceEqDiff, Nat.reduceLT, Nat.reduceLeDiff, Nat.not_lt_zero, Nat.zero_le, am_cs, c0, hb]
    exact this
theorem m_placeOf (M : ml_ok K) (he : e ≤ 1) (h : mw_at I e W) {rm j : Nat} (h1 : I 403 e = nI rm) (hj : j < W.un) (d : Nat) : f_X9_placeOf d 370 (nI e) (nI (j + wu_first W.ar)) (K, I, J) = some ((nI (4200 * e + rm + wa_pos W.fs W.ar (wu_first W.ar + j)), 0, none), (K, I, J)) := by
  obtain ⟨rm', _, h2, h3, h4, h5, h6, h7, h8, h9, h10⟩ := h
  have hle := wl_ar_le h10 hj
  have hk : wu_first W.ar + j < W.fs.length := by
    unfold sWy.un at hj
    omega
  have := m_placeLoop (J := J) (rm := rm) M he h9 (by omega) hk hle.1 d (wu_first W.ar + j) 0 (Nat.zero_add _)
  rw [List.take_zero, List.sum_nil, Nat.add_zero] at this
  rw [e_X9_placeOf, Nat.add_comm j]
  simp (disch := first | assumption | omega) only [m_is M, m_gI M, m_pI M, mR7 M, mL371 M, mW371 M, mR8 M, mL372 M, mW372 M, mR9 M, mL373 M, mW373 M, mR10 M, mL374 M, mW374 M, mR11 M, mL375 M, mW375 M, mR12 M, mL376 M, mW376_0 M, mW376_1 M, mR13 M, mL377 M, mW377 M, mR14 M, mL378 M, mW378 M, mR15 M, mL379 M, mW379 M, mR16 M, mL380 M, mW380 M, mR17 M, mL381 M, mW381 M, mR18 M, mL382 M, mW382 M, mR19 M, mL383 M, mW383_0 M, mW383_1 M, mR20 M, mL384 M, mW384_0 M, mW384_1 M, mR21 M, mL385 M, mW385 M, mR22 M, mL386 M, mW386 M, mR23 M, mL387 M, mW387 M, mR26 M, mL388 M, mW388 M, mR27 M, mL389 M, mW389 M, mR28 M, mL390 M, mW390 M, mR29 M, mL391 M, mW391 M, mR30 M, mL392 M, mW392 M, mR31 M, mL393 M, mW393 M, mR32 M, mL394 M, mW394_0 M, mW394_1 M, mR33 M, mL395 M, mW395_0 M, mW395_1 M, mR34 M, mL396 M, mW396 M, mR35 M, mL397 M, mW397 M, mR36 M, mL398 M, mW398 M, mR37 M, mL399 M, mW399 M, mR38 M, mL400 M, mW400 M, mR39 M, mL401 M, mW401 M, mR40 M, mL402 M, mW402 M, mR41 M, mL403 M, mW403 M, mR42 M, mL404 M, mW404 M, mR43 M, mL405 M, mW405 M, mR44 M, mL406 M, mW406 M, mR45 M, mL407 M, mW407 M, mR46 M, mL408 M, mW408 M, mR47 M, mL409 M, mW409 M, mR48 M, mL410 M, mW410 M, Option.bind_some, pm_u, pm_ur, pm_lt, pm_le, pm_eq, pm_ne, pm_add, pm_sub, pm_mul, pm_z0, pm_z1, cond_true, cond_false, decide_true, decide_false, not_false_eq_true, not_true_eq_false, reduceIte, Nat.reduceEqDiff, Nat.add_eq_left, Nat.left_eq_add, Nat.add_left_cancel_iff, Nat.one_ne_zero, Nat.reduceMul, Nat.reduceAdd, Nat.reduceSub, Nat.reduceEqDiff, Nat.reduceLT, Nat.reduceLeDiff, Nat.not_lt_zero, Nat.zero_le, am_cs, h1, h4]
  exact this
theorem m_loseLoop (M : ml_ok K) (he : e ≤ 1) {q : List Nat} {B P n k : Nat} (hB : 4200 * e ≤ B ∧ B + q.length ≤ 4200 * e + 4200) (hP : P + n ≤ q.length) (d : Nat) : ∀ (m i : Nat) (I : pm_I), i + m = q.length - n → P ≤ i → (∀ t, t < i → I 402 (B + t) = nI ((q.take P ++ q.drop (P + n)).getD t 0)) → (∀ t, i ≤ t → t < q.length → I 402 (B + t) = nI (q.getD t 0)) →
    ∃ I' : pm_I, l_X9_lose_67 (d + 1) 370 (nI e) (nI k) (nI n) (nI (B + q.length)) (nI (B + i)) (K, I, J) = l_X9_lose_67 (d + 1) 370 (nI e) (nI k) (nI n) (nI (B + q.length)) (nI (B + (q.length - n))) (K, I', J) ∧ (∀ t, t < q.length - n → I' 402 (B + t) = nI ((q.take P ++ q.drop (P + n)).getD t 0)) ∧ (∀ a, a ≠ 402 → I' a = I a) ∧ mwf I I' e := by
  intro m
  induction m with
  | zero =>
    intro i I hi hPi h1 h2
    obtain rfl : i = q.length - n := by omega
    exact ⟨I, rfl, h1, fun _ _ => rfl, mwf.refl _ _⟩
  | succ m ih =>
    intro i I hi hPi h1 h2
    have c0 : ¬ B + q.length ≤ B + i + n := by omega
    have hb := h2 (i + n) (by omega) (by omega)
    rw [← Nat.add_assoc] at hb
    obtain ⟨I2, q1, q2, q3, q4⟩ := ih (i + 1) (am_u I 402 (B + i) (nI (q.getD (i + n) 0))) (by omega) (by omega) (fun t ht => by
      rw [am_u_self]
      by_cases c : t = i
      · rw [if_pos (by omega), c, wl_cut hP, if_neg (by omega)]
      · rw [if_neg (by omega)]
        exact h1 t (by omega)) (fun t ht ht2 => by
      rw [am_u_self, if_neg (by omega)]
      exact h2 t (by omega) ht2)
    have f1 : mwf I (am_u I 402 (B + i) (nI (q.getD (i + n) 0))) e := mwf_402 (by omega)
    rw [e_l_X9_lose_67]
    simp (disch := first | assumption | omega) only [m_is M, m_gI M, m_pI M, mR7 M, mL371 M, mW371 M, mR8 M, mL372 M, mW372 M, mR9 M, mL373 M, mW373 M, mR10 M, mL374 M, mW374 M, mR11 M, mL375 M, mW375 M, mR12 M, mL376 M, mW376_0 M, mW376_1 M, mR13 M, mL377 M, mW377 M, mR14 M, mL378 M, mW378 M, mR15 M, mL379 M, mW379 M, mR16 M, mL380 M, mW380 M, mR17 M, mL381 M, mW381 M, mR18 M, mL382 M, mW382 M, mR19 M, mL383 M, mW383_0 M, mW383_1 M, mR20 M, mL384 M, mW384_0 M, mW384_1 M, mR21 M, mL385 M, mW385 M, mR22 M, mL386 M, mW386 M, mR23 M, mL387 M, mW387 M, mR26 M, mL388 M, mW388 M, mR27 M, mL389 M, mW389 M, mR28 M, mL390 M, mW390 M, mR29 M, mL391 M, mW391 M, mR30 M, mL392 M, mW392 M, mR31 M, mL393 M, mW393 M, mR32 M, mL394 M, mW394_0 M, mW394_1 M, mR33 M, mL395 M, mW395_0 M, mW395_1 M, mR34 M, mL396 M, mW396 M, mR35 M, mL397 M, mW397 M, mR36 M, mL398 M, mW398 M, mR37 M, mL399 M, mW399 M, mR38 M, mL400 M, mW400 M, mR39 M, mL401 M, mW401 M, mR40 M, mL402 M, mW402 M, mR41 M, mL403 M, mW403 M, mR42 M, mL404 M, mW404 M, mR43 M, mL405 M, mW405 M, mR44 M, mL406 M, mW406 M, mR45 M, mL407 M, mW407 M, mR46 M, mL408 M, mW408 M, mR47 M, mL409 M, mW409 M, mR48 M, mL410 M, mW410 M, Option.bind_some, pm_u, pm_ur, pm_lt, pm_le, pm_eq, pm_ne, pm_add, pm_sub, pm_mul, pm_z0, pm_z1, cond_true, cond_false, decide_true, decide_false, not_false_eq_true, not_true_eq_false, reduceIte, Nat.reduceEqDiff, Nat.add_eq_left, Nat.left_eq_add, Nat.add_left_cancel_iff, Nat.one_ne_zero, Nat.reduceMul, Nat.reduceAdd, Nat.reduceSub, Nat.reduceEqDiff, Nat.reduceLT, Nat.reduceLeDiff, Nat.not_lt_zero, Nat.zero_le, am_cs, c0, hb]
    refine ⟨I2, q1, q2, fun a ha => ?_, f1.trans q4⟩
    rw [q3 a ha, am_u_ne _ _ ha]
theorem m_loseE (M : ml_ok K) (he : e ≤ 1) (h : mt_at I J p T) (y : Int32) (d : Nat) : ∃ I' : pm_I, f_X9_lose (d + 2) 370 (nI e) y (K, I, J) = some (((if wu_in y (tW T e).un = 1 then (nI 1, tSW T e ((tW T e).drop y.toNatClampNeg)) else (nI 0, T)).1, 0, none), (K, I', J)) ∧ mt_at I' J p (if wu_in y (tW T e).un = 1 then (nI 1, tSW T e ((tW T e).drop y.toNatClampNeg)) else (nI 0, T)).2 ∧ mf_at I I' := by
  have h0 := mt_thrown h (nI 0)
  have f0 : mf_at I (am_u I 370 0 (nI 0)) := mf_u (by omega)
  have h5' : am_u I 370 0 (nI 0) 370 5 = nI (T.w0.rf + T.w1.rf) := h0.1.2.2.2.2.1
  have hW := mt_w he h0
  have hiw := m_isWhole (J := J) M he hW y d
  have hfw := m_firstWhole (J := J) M he hW (d + 1)
  rw [e_X9_lose]
  by_cases c0 : wu_in y (tW T e).un = 1
  · rw [if_pos c0]
    rw [c0] at hiw
    generalize hWW : tW T e = W at *
    generalize hI0 : am_u I 370 0 (nI 0) = I0 at *
    have hW' := hW
    obtain ⟨rm, h1, h2, h3, h4, h5, h6, h7, h8, h9, h10⟩ := hW
    have hfl := wv_first h10
    obtain ⟨j, hj, rfl⟩ := wu_in1 (n := W.un) (by unfold sWy.un; omega) c0
    rw [nI_clamp (by unfold sWy.un at hj; omega)]
    have hpl := m_placeOf (J := J) M he hW' h1 hj (d + 1)
    have hle := wl_ar_le h10 hj
    have hk : wu_first W.ar + j < W.fs.length := by
      unfold sWy.un at hj
      omega
    have hn := h9 _ hk
    have hsz := wv_size h10 hk
    have hP : wa_pos W.fs W.ar (wu_first W.ar + j) + W.fs.getD (wu_first W.ar + j) 0 ≤ W.q.length := by
      unfold wa_pos
      omega
    have hwv := wv_drop h10 hj
    rw [Nat.add_comm j] at hpl
    unfold sWy.drop
    generalize hkk : wu_first W.ar + j = k at *
    generalize hPP : wa_pos W.fs W.ar k = P at *
    generalize hnn : W.fs.getD k 0 = n at *
    have hlenq : (W.q.take P ++ W.q.drop (P + n)).length = W.q.length - n := by
      rw [List.length_append, List.length_take, List.length_drop]
      omega
    have hlenf : (W.fs.eraseIdx k).length = W.fs.length - 1 := by rw [List.length_eraseIdx, if_pos hk]
    have hkc : j + wu_first W.ar = k := by omega
    obtain ⟨I2, q1, q2, q3, q4⟩ := m_loseLoop (J := J) (B := 4200 * e + rm) (k := k) M he (by omega) hP (d + 1) (W.q.length - n - P) P I0 (by omega) (Nat.le_refl _) (fun t ht => by rw [h8 t (by omega), wl_cut hP, if_pos ht]) (fun t _ ht => h8 t ht)
    have f3 : mwf I2 (am_u I2 404 e (nI (W.q.length - n))) e := mwf_e (by omega)
    obtain ⟨I3, d1, d2, d3, d4, d5⟩ := m_dropFrame (J := J) (I := am_u I2 404 e (nI (W.q.length - n))) (j := k) M he hk (by omega) (by rw [am_u_ne _ _ (by omega), q3 406 (by omega)]; exact h3) (wl_congr (b := 0) h9 (by rw [am_u_ne _ _ (by omega), q3 405 (by omega)])) (d + 1)
    have h2' : I2 404 e = nI W.q.length := by rw [q3 404 (by omega)]; exact h2
    have c9 : 4200 * e + rm + W.q.length ≤ 4200 * e + rm + (W.q.length - n) + n := by omega
    rw [pm_pI M.1, hI0, Option.bind_some]
    simp (disch := first | assumption | omega) only [m_is M, m_gI M, m_pI M, mR7 M, mL371 M, mW371 M, mR8 M, mL372 M, mW372 M, mR9 M, mL373 M, mW373 M, mR10 M, mL374 M, mW374 M, mR11 M, mL375 M, mW375 M, mR12 M, mL376 M, mW376_0 M, mW376_1 M, mR13 M, mL377 M, mW377 M, mR14 M, mL378 M, mW378 M, mR15 M, mL379 M, mW379 M, mR16 M, mL380 M, mW380 M, mR17 M, mL381 M, mW381 M, mR18 M, mL382 M, mW382 M, mR19 M, mL383 M, mW383_0 M, mW383_1 M, mR20 M, mL384 M, mW384_0 M, mW384_1 M, mR21 M, mL385 M, mW385 M, mR22 M, mL386 M, mW386 M, mR23 M, mL387 M, mW387 M, mR26 M, mL388 M, mW388 M, mR27 M, mL389 M, mW389 M, mR28 M, mL390 M, mW390 M, mR29 M, mL391 M, mW391 M, mR30 M, mL392 M, mW392 M, mR31 M, mL393 M, mW393 M, mR32 M, mL394 M, mW394_0 M, mW394_1 M, mR33 M, mL395 M, mW395_0 M, mW395_1 M, mR34 M, mL396 M, mW396 M, mR35 M, mL397 M, mW397 M, mR36 M, mL398 M, mW398 M, mR37 M, mL399 M, mW399 M, mR38 M, mL400 M, mW400 M, mR39 M, mL401 M, mW401 M, mR40 M, mL402 M, mW402 M, mR41 M, mL403 M, mW403 M, mR42 M, mL404 M, mW404 M, mR43 M, mL405 M, mW405 M, mR44 M, mL406 M, mW406 M, mR45 M, mL407 M, mW407 M, mR46 M, mL408 M, mW408 M, mR47 M, mL409 M, mW409 M, mR48 M, mL410 M, mW410 M, Option.bind_some, pm_u, pm_ur, pm_lt, pm_le, pm_eq, pm_ne, pm_add, pm_sub, pm_mul, pm_z0, pm_z1, cond_true, cond_false, decide_true, decide_false, not_false_eq_true, not_true_eq_false, reduceIte, Nat.reduceEqDiff, Nat.add_eq_left, Nat.left_eq_add, Nat.add_left_cancel_iff, Nat.one_ne_zero, Nat.reduceMul, Nat.reduceAdd, Nat.reduceSub, Nat.reduceEqDiff, Nat.reduceLT, Nat.reduceLeDiff, Nat.not_lt_zero, Nat.zero_le, am_cs, hiw, hfw, hkc, hn, h1, h2, hpl]
    rw [q1, e_l_X9_lose_67]
    simp (disch := first | assumption | omega) only [m_is M, m_gI M, m_pI M, mR7 M, mL371 M, mW371 M, mR8 M, mL372 M, mW372 M, mR9 M, mL373 M, mW373 M, mR10 M, mL374 M, mW374 M, mR11 M, mL375 M, mW375 M, mR12 M, mL376 M, mW376_0 M, mW376_1 M, mR13 M, mL377 M, mW377 M, mR14 M, mL378 M, mW378 M, mR15 M, mL379 M, mW379 M, mR16 M, mL380 M, mW380 M, mR17 M, mL381 M, mW381 M, mR18 M, mL382 M, mW382 M, mR19 M, mL383 M, mW383_0 M, mW383_1 M, mR20 M, mL384 M, mW384_0 M, mW384_1 M, mR21 M, mL385 M, mW385 M, mR22 M, mL386 M, mW386 M, mR23 M, mL387 M, mW387 M, mR26 M, mL388 M, mW388 M, mR27 M, mL389 M, mW389 M, mR28 M, mL390 M, mW390 M, mR29 M, mL391 M, mW391 M, mR30 M, mL392 M, mW392 M, mR31 M, mL393 M, mW393 M, mR32 M, mL394 M, mW394_0 M, mW394_1 M, mR33 M, mL395 M, mW395_0 M, mW395_1 M, mR34 M, mL396 M, mW396 M, mR35 M, mL397 M, mW397 M, mR36 M, mL398 M, mW398 M, mR37 M, mL399 M, mW399 M, mR38 M, mL400 M, mW400 M, mR39 M, mL401 M, mW401 M, mR40 M, mL402 M, mW402 M, mR41 M, mL403 M, mW403 M, mR42 M, mL404 M, mW404 M, mR43 M, mL405 M, mW405 M, mR44 M, mL406 M, mW406 M, mR45 M, mL407 M, mW407 M, mR46 M, mL408 M, mW408 M, mR47 M, mL409 M, mW409 M, mR48 M, mL410 M, mW410 M, Option.bind_some, pm_u, pm_ur, pm_lt, pm_le, pm_eq, pm_ne, pm_add, pm_sub, pm_mul, pm_z0, pm_z1, cond_true, cond_false, decide_true, decide_false, not_false_eq_true, not_true_eq_false, reduceIte, Nat.reduceEqDiff, Nat.add_eq_left, Nat.left_eq_add, Nat.add_left_cancel_iff, Nat.one_ne_zero, Nat.reduceMul, Nat.reduceAdd, Nat.reduceSub, Nat.reduceEqDiff, Nat.reduceLT, Nat.reduceLeDiff, Nat.not_lt_zero, Nat.zero_le, am_cs, c9, h2', d1]
    refine ⟨I3, rfl, mt_way he h0 (q4.trans (f3.trans d4)) ⟨rm, ?_, ?_, d2, ?_, ?_, ?_, ?_, ?_, d3, hwv⟩ ?_, ?_⟩
    · rw [d5 403 (by omega) (by omega), am_u_ne _ _ (by omega), q3 403 (by omega)]
      exact h1
    · rw [d5 404 (by omega) (by omega), am_u_self, if_pos rfl]
      show _ = nI (W.q.take P ++ W.q.drop (P + n)).length
      rw [hlenq]
    · rw [d5 407 (by omega) (by omega), am_u_ne _ _ (by omega), q3 407 (by omega)]
      exact h4
    · show rm + (W.q.take P ++ W.q.drop (P + n)).length ≤ 4200
      omega
    · show (W.q.take P ++ W.q.drop (P + n)).length ≤ 2000
      omega
    · show (W.fs.eraseIdx k).length ≤ 410
      omega
    · intro t ht
      have ht : t < (W.q.take P ++ W.q.drop (P + n)).length := ht
      rw [d5 402 (by omega) (by omega), am_u_ne _ _ (by omega)]
      exact q2 t (by omega)
    · rw [d5 370 (by omega) (by omega), am_u_ne _ _ (by omega), q3 370 (by omega), h5', ← hWW]
      unfold tSW tW
      split <;> rfl
    · intro a ha
      rw [d5 a (by omega) (by omega), am_u_ne _ _ (by omega), q3 a (by omega), f0 a ha]
  · rw [if_neg c0]
    rw [wu_0 c0] at hiw
    simp (disch := first | assumption | omega) only [m_is M, m_gI M, m_pI M, mR7 M, mL371 M, mW371 M, mR8 M, mL372 M, mW372 M, mR9 M, mL373 M, mW373 M, mR10 M, mL374 M, mW374 M, mR11 M, mL375 M, mW375 M, mR12 M, mL376 M, mW376_0 M, mW376_1 M, mR13 M, mL377 M, mW377 M, mR14 M, mL378 M, mW378 M, mR15 M, mL379 M, mW379 M, mR16 M, mL380 M, mW380 M, mR17 M, mL381 M, mW381 M, mR18 M, mL382 M, mW382 M, mR19 M, mL383 M, mW383_0 M, mW383_1 M, mR20 M, mL384 M, mW384_0 M, mW384_1 M, mR21 M, mL385 M, mW385 M, mR22 M, mL386 M, mW386 M, mR23 M, mL387 M, mW387 M, mR26 M, mL388 M, mW388 M, mR27 M, mL389 M, mW389 M, mR28 M, mL390 M, mW390 M, mR29 M, mL391 M, mW391 M, mR30 M, mL392 M, mW392 M, mR31 M, mL393 M, mW393 M, mR32 M, mL394 M, mW394_0 M, mW394_1 M, mR33 M, mL395 M, mW395_0 M, mW395_1 M, mR34 M, mL396 M, mW396 M, mR35 M, mL397 M, mW397 M, mR36 M, mL398 M, mW398 M, mR37 M, mL399 M, mW399 M, mR38 M, mL400 M, mW400 M, mR39 M, mL401 M, mW401 M, mR40 M, mL402 M, mW402 M, mR41 M, mL403 M, mW403 M, mR42 M, mL404 M, mW404 M, mR43 M, mL405 M, mW405 M, mR44 M, mL406 M, mW406 M, mR45 M, mL407 M, mW407 M, mR46 M, mL408 M, mW408 M, mR47 M, mL409 M, mW409 M, mR48 M, mL410 M, mW410 M, Option.bind_some, pm_u, pm_ur, pm_lt, pm_le, pm_eq, pm_ne, pm_add, pm_sub, pm_mul, pm_z0, pm_z1, cond_true, cond_false, decide_true, decide_false, not_false_eq_true, not_true_eq_false, reduceIte, Nat.reduceEqDiff, Nat.add_eq_left, Nat.left_eq_add, Nat.add_left_cancel_iff, Nat.one_ne_zero, Nat.reduceMul, Nat.reduceAdd, Nat.reduceSub, Nat.reduceEqDiff, Nat.reduceLT, Nat.reduceLeDiff, Nat.not_lt_zero, Nat.zero_le, am_cs, hiw]
    exact ⟨_, rfl, h0, f0⟩
theorem m_lose (M : ml_ok K) (h : mt_at I J p T) (x y : Int32) (d : Nat) : ∃ I' : pm_I, f_X9_lose (d + 2) 370 x y (K, I, J) = some (((st_lose x y T).1, 0, none), (K, I', J)) ∧ mt_at I' J p (st_lose x y T).2 ∧ mf_at I I' := by
  unfold st_lose
  by_cases c0 : x = nI 0
  · subst c0
    rw [if_pos rfl]
    exact m_loseE (e := 0) M (by omega) h y d
  · rw [if_neg c0]
    by_cases c1 : x = nI 1
    · subst c1
      rw [if_pos rfl]
      exact m_loseE (e := 1) M (by omega) h y d
    · rw [if_neg c1, e_X9_lose]
      have hw := m_isWholeX (I := am_u I 370 0 (nI 0)) (J := J) M (x := x) (by rintro (q | q) <;> contradiction) y d
      simp (disch := first | assumption | omega) only [m_is M, m_gI M, m_pI M, mR7 M, mL371 M, mW371 M, mR8 M, mL372 M, mW372 M, mR9 M, mL373 M, mW373 M, mR10 M, mL374 M, mW374 M, mR11 M, mL375 M, mW375 M, mR12 M, mL376 M, mW376_0 M, mW376_1 M, mR13 M, mL377 M, mW377 M, mR14 M, mL378 M, mW378 M, mR15 M, mL379 M, mW379 M, mR16 M, mL380 M, mW380 M, mR17 M, mL381 M, mW381 M, mR18 M, mL382 M, mW382 M, mR19 M, mL383 M, mW383_0 M, mW383_1 M, mR20 M, mL384 M, mW384_0 M, mW384_1 M, mR21 M, mL385 M, mW385 M, mR22 M, mL386 M, mW386 M, mR23 M, mL387 M, mW387 M, mR26 M, mL388 M, mW388 M, mR27 M, mL389 M, mW389 M, mR28 M, mL390 M, mW390 M, mR29 M, mL391 M, mW391 M, mR30 M, mL392 M, mW392 M, mR31 M, mL393 M, mW393 M, mR32 M, mL394 M, mW394_0 M, mW394_1 M, mR33 M, mL395 M, mW395_0 M, mW395_1 M, mR34 M, mL396 M, mW396 M, mR35 M, mL397 M, mW397 M, mR36 M, mL398 M, mW398 M, mR37 M, mL399 M, mW399 M, mR38 M, mL400 M, mW400 M, mR39 M, mL401 M, mW401 M, mR40 M, mL402 M, mW402 M, mR41 M, mL403 M, mW403 M, mR42 M, mL404 M, mW404 M, mR43 M, mL405 M, mW405 M, mR44 M, mL406 M, mW406 M, mR45 M, mL407 M, mW407 M, mR46 M, mL408 M, mW408 M, mR47 M, mL409 M, mW409 M, mR48 M, mL410 M, mW410 M, Option.bind_some, pm_u, pm_ur, pm_lt, pm_le, pm_eq, pm_ne, pm_add, pm_sub, pm_mul, pm_z0, pm_z1, cond_true, cond_false, decide_true, decide_false, not_false_eq_true, not_true_eq_false, reduceIte, Nat.reduceEqDiff, Nat.add_eq_left, Nat.left_eq_add, Nat.add_left_cancel_iff, Nat.one_ne_zero, Nat.reduceMul, Nat.reduceAdd, Nat.reduceSub, Nat.reduceEqDiff, Nat.reduceLT, Nat.reduceLeDiff, Nat.not_lt_zero, Nat.zero_le, am_cs, hw]
      exact ⟨_, rfl, mt_thrown h (nI 0), mf_u (by omega)⟩
/-- the bytes are moved to place 64 -/
theorem m_settleLoop (M : ml_ok K) (he : e ≤ 1) {q : List Nat} {rm : Nat} (hrm : 64 ≤ rm) (hq : rm + q.length ≤ 4200) (d : Nat) : ∀ (m i : Nat) (I : pm_I), i + m = q.length → I 404 e = nI q.length → (∀ t, t < i → I 402 (4200 * e + 64 + t) = nI (q.getD t 0)) → (∀ t, i ≤ t → t < q.length → I 402 (4200 * e + rm + t) = nI (q.getD t 0)) →
    ∃ I' : pm_I, l_X9_settle_25 d 370 (nI e) (nI (4200 * e + 64)) (nI (4200 * e + rm)) (nI i) (K, I, J) = some ((0, 0, none), (K, I', J)) ∧ I' 403 e = nI 64 ∧ wl_at I' 402 (4200 * e + 64) q ∧ (∀ a, a ≠ 402 → a ≠ 403 → I' a = I a) ∧ mwf I I' e := by
  intro m
  induction m with
  | zero =>
    intro i I hi h0 h1 h2
    obtain rfl : i = q.length := by omega
    rw [e_l_X9_settle_25]
    simp (disch := first | assumption | omega) only [m_is M, m_gI M, m_pI M, mR7 M, mL371 M, mW371 M, mR8 M, mL372 M, mW372 M, mR9 M, mL373 M, mW373 M, mR10 M, mL374 M, mW374 M, mR11 M, mL375 M, mW375 M, mR12 M, mL376 M, mW376_0 M, mW376_1 M, mR13 M, mL377 M, mW377 M, mR14 M, mL378 M, mW378 M, mR15 M, mL379 M, mW379 M, mR16 M, mL380 M, mW380 M, mR17 M, mL381 M, mW381 M, mR18 M, mL382 M, mW382 M, mR19 M, mL383 M, mW383_0 M, mW383_1 M, mR20 M, mL384 M, mW384_0 M, mW384_1 M, mR21 M, mL385 M, mW385 M, mR22 M, mL386 M, mW386 M, mR23 M, mL387 M, mW387 M, mR26 M, mL388 M, mW388 M, mR27 M, mL389 M, mW389 M, mR28 M, mL390 M, mW390 M, mR29 M, mL391 M, mW391 M, mR30 M, mL392 M, mW392 M, mR31 M, mL393 M, mW393 M, mR32 M, mL394 M, mW394_0 M, mW394_1 M, mR33 M, mL395 M, mW395_0 M, mW395_1 M, mR34 M, mL396 M, mW396 M, mR35 M, mL397 M, mW397 M, mR36 M, mL398 M, mW398 M, mR37 M, mL399 M, mW399 M, mR38 M, mL400 M, mW400 M, mR39 M, mL401 M, mW401 M, mR40 M, mL402 M, mW402 M, mR41 M, mL403 M, mW403 M, mR42 M, mL404 M, mW404 M, mR43 M, mL405 M, mW405 M, mR44 M, mL406 M, mW406 M, mR45 M, mL407 M, mW407 M, mR46 M, mL408 M, mW408 M, mR47 M, mL409 M, mW409 M, mR48 M, mL410 M, mW410 M, Option.bind_some, pm_u, pm_ur, pm_lt, pm_le, pm_eq, pm_ne, pm_add, pm_sub, pm_mul, pm_z0, pm_z1, cond_true, cond_false, decide_true, decide_false, not_false_eq_true, not_true_eq_false, reduceIte, Nat.reduceEqDiff, Nat.add_eq_left, Nat.left_eq_add, Nat.add_left_cancel_iff, Nat.one_ne_zero, Nat.reduceMul, Nat.reduceAdd, Nat.reduceSub, Nat.reduceEqDiff, Nat.reduceLT, Nat.reduceLeDiff, Nat.not_lt_zero, Nat.zero_le, am_cs, h0, Nat.le_refl]
    refine ⟨_, rfl, by rw [am_u_self, if_pos rfl], fun t ht => ?_, fun a _ ha => am_u_ne _ _ ha, mwf_e (by omega)⟩
    rw [am_u_ne _ _ (by omega)]
    exact h1 t ht
  | succ m ih =>
    intro i I hi h0 h1 h2
    have c0 : ¬ q.length ≤ i := by omega
    have hb := h2 i (by omega) (by omega)
    obtain ⟨I2, q1, q2, q3, q4, q5⟩ := ih (i + 1) (am_u I 402 (4200 * e + 64 + i) (nI (q.getD i 0))) (by omega) (by rw [am_u_ne _ _ (by omega)]; exact h0) (fun t ht => by
      rw [am_u_self]
      by_cases c : t = i
      · rw [if_pos (by omega), c]
      · rw [if_neg (by omega)]
        exact h1 t (by omega)) (fun t ht ht2 => by
      rw [am_u_self, if_neg (by omega)]
      exact h2 t (by omega) ht2)
    have f1 : mwf I (am_u I 402 (4200 * e + 64 + i) (nI (q.getD i 0))) e := mwf_402 (by omega)
    rw [e_l_X9_settle_25]
    simp (disch := first | assumption | omega) only [m_is M, m_gI M, m_pI M, mR7 M, mL371 M, mW371 M, mR8 M, mL372 M, mW372 M, mR9 M, mL373 M, mW373 M, mR10 M, mL374 M, mW374 M, mR11 M, mL375 M, mW375 M, mR12 M, mL376 M, mW376_0 M, mW376_1 M, mR13 M, mL377 M, mW377 M, mR14 M, mL378 M, mW378 M, mR15 M, mL379 M, mW379 M, mR16 M, mL380 M, mW380 M, mR17 M, mL381 M, mW381 M, mR18 M, mL382 M, mW382 M, mR19 M, mL383 M, mW383_0 M, mW383_1 M, mR20 M, mL384 M, mW384_0 M, mW384_1 M, mR21 M, mL385 M, mW385 M, mR22 M, mL386 M, mW386 M, mR23 M, mL387 M, mW387 M, mR26 M, mL388 M, mW388 M, mR27 M, mL389 M, mW389 M, mR28 M, mL390 M, mW390 M, mR29 M, mL391 M, mW391 M, mR30 M, mL392 M, mW392 M, mR31 M, mL393 M, mW393 M, mR32 M, mL394 M, mW394_0 M, mW394_1 M, mR33 M, mL395 M, mW395_0 M, mW395_1 M, mR34 M, mL396 M, mW396 M, mR35 M, mL397 M, mW397 M, mR36 M, mL398 M, mW398 M, mR37 M, mL399 M, mW399 M, mR38 M, mL400 M, mW400 M, mR39 M, mL401 M, mW401 M, mR40 M, mL402 M, mW402 M, mR41 M, mL403 M, mW403 M, mR42 M, mL404 M, mW404 M, mR43 M, mL405 M, mW405 M, mR44 M, mL406 M, mW406 M, mR45 M, mL407 M, mW407 M, mR46 M, mL408 M, mW408 M, mR47 M, mL409 M, mW409 M, mR48 M, mL410 M, mW410 M, Option.bind_some, pm_u, pm_ur, pm_lt, pm_le, pm_eq, pm_ne, pm_add, pm_sub, pm_mul, pm_z0, pm_z1, cond_true, cond_false, decide_true, decide_false, not_false_eq_true, not_true_eq_false, reduceIte, Nat.reduceEqDiff, Nat.add_eq_left, Nat.left_eq_add, Nat.add_left_cancel_iff, Nat.one_ne_zero, Nat.reduceMul, Nat.reduceAdd, Nat.reduceSub, Nat.reduceEqDiff, Nat.reduceLT, Nat.reduceLeDiff, Nat.not_lt_zero, Nat.zero_le, am_cs, h0, c0, hb]
    refine ⟨I2, q1, q2, q3, fun a ha ha2 => ?_, f1.trans q5⟩
    rw [q4 a ha ha2, am_u_ne _ _ ha]
theorem m_settle (M : ml_ok K) (he : e ≤ 1) (h : mw_at I e W) {rm : Nat} (h1 : I 403 e = nI rm) (hrm : 64 ≤ rm) (hq : rm + W.q.length ≤ 4200) (h8 : wl_at I 402 (4200 * e + rm) W.q) (d : Nat) : ∃ I' : pm_I, f_X9_settle d 370 (nI e) (K, I, J) = some ((0, 0, none), (K, I', J)) ∧ mw_at I' e W ∧ I' 403 e = nI 64 ∧ mwf I I' e ∧ I' 370 = I 370 ∧ (∀ a, a ≠ 402 → a ≠ 403 → I' a = I a) ∧ wl_at I' 402 (4200 * e + 64) W.q := by
  obtain ⟨rm', _, h2, h3, h4, h5, h6, h7, _, h9, h10⟩ := h
  obtain ⟨I2, q1, q2, q3, q4, q5⟩ := m_settleLoop (J := J) M he hrm hq d W.q.length 0 I (Nat.zero_add _) h2 (fun t ht => absurd ht (by omega)) (fun t _ ht => h8 t ht)
  rw [e_X9_settle]
  simp (disch := first | assumption | omega) only [m_is M, m_gI M, m_pI M, mR7 M, mL371 M, mW371 M, mR8 M, mL372 M, mW372 M, mR9 M, mL373 M, mW373 M, mR10 M, mL374 M, mW374 M, mR11 M, mL375 M, mW375 M, mR12 M, mL376 M, mW376_0 M, mW376_1 M, mR13 M, mL377 M, mW377 M, mR14 M, mL378 M, mW378 M, mR15 M, mL379 M, mW379 M, mR16 M, mL380 M, mW380 M, mR17 M, mL381 M, mW381 M, mR18 M, mL382 M, mW382 M, mR19 M, mL383 M, mW383_0 M, mW383_1 M, mR20 M, mL384 M, mW384_0 M, mW384_1 M, mR21 M, mL385 M, mW385 M, mR22 M, mL386 M, mW386 M, mR23 M, mL387 M, mW387 M, mR26 M, mL388 M, mW388 M, mR27 M, mL389 M, mW389 M, mR28 M, mL390 M, mW390 M, mR29 M, mL391 M, mW391 M, mR30 M, mL392 M, mW392 M, mR31 M, mL393 M, mW393 M, mR32 M, mL394 M, mW394_0 M, mW394_1 M, mR33 M, mL395 M, mW395_0 M, mW395_1 M, mR34 M, mL396 M, mW396 M, mR35 M, mL397 M, mW397 M, mR36 M, mL398 M, mW398 M, mR37 M, mL399 M, mW399 M, mR38 M, mL400 M, mW400 M, mR39 M, mL401 M, mW401 M, mR40 M, mL402 M, mW402 M, mR41 M, mL403 M, mW403 M, mR42 M, mL404 M, mW404 M, mR43 M, mL405 M, mW405 M, mR44 M, mL406 M, mW406 M, mR45 M, mL407 M, mW407 M, mR46 M, mL408 M, mW408 M, mR47 M, mL409 M, mW409 M, mR48 M, mL410 M, mW410 M, Option.bind_some, pm_u, pm_ur, pm_lt, pm_le, pm_eq, pm_ne, pm_add, pm_sub, pm_mul, pm_z0, pm_z1, cond_true, cond_false, decide_true, decide_false, not_false_eq_true, not_true_eq_false, reduceIte, Nat.reduceEqDiff, Nat.add_eq_left, Nat.left_eq_add, Nat.add_left_cancel_iff, Nat.one_ne_zero, Nat.reduceMul, Nat.reduceAdd, Nat.reduceSub, Nat.reduceEqDiff, Nat.reduceLT, Nat.reduceLeDiff, Nat.not_lt_zero, Nat.zero_le, am_cs, h1]
  refine ⟨I2, q1, ⟨64, q2, ?_, ?_, ?_, by omega, h6, h7, q3, ?_, h10⟩, q2, q5, q4 370 (by omega) (by omega), q4, q3⟩
  · rw [q4 404 (by omega) (by omega)]; exact h2
  · rw [q4 406 (by omega) (by omega)]; exact h3
  · rw [q4 407 (by omega) (by omega)]; exact h4
  · exact wl_congr (b := 0) h9 (q4 405 (by omega) (by omega))
theorem m_twLoop (M : ml_ok K) (he : e ≤ 1) {q : List Nat} {B P n k : Nat} (hB : 4200 * e ≤ B ∧ B + q.length + n ≤ 4200 * e + 4200) (hP : P + n ≤ q.length) (d : Nat) : ∀ (m i : Nat) (I : pm_I), P + m = i → i ≤ q.length → (∀ t, t < i → I 402 (B + t) = nI (q.getD t 0)) → (∀ t, i + n ≤ t → t < q.length + n → I 402 (B + t) = nI (q.getD (t - n) 0)) → (∀ t, t < q.length → t < P + n → I 402 (B + t) = nI (q.getD t 0) ∨ i + n ≤ t) →
    ∃ I' : pm_I, l_X9_twice_112 (d + 1) 370 (nI e) (nI k) (nI n) (nI (B + P)) (nI (B + i) - nI 1) (K, I, J) = l_X9_twice_112 (d + 1) 370 (nI e) (nI k) (nI n) (nI (B + P)) (nI (B + P) - nI 1) (K, I', J) ∧ (∀ t, t < P → I' 402 (B + t) = nI (q.getD t 0)) ∧ (∀ t, P + n ≤ t → t < q.length + n → I' 402 (B + t) = nI (q.getD (t - n) 0)) ∧ (∀ t, P ≤ t → t < P + n → I' 402 (B + t) = I 402 (B + t)) ∧ (∀ a, a ≠ 402 → I' a = I a) ∧ mwf I I' e := by
  intro m
  induction m with
  | zero =>
    intro i I hi hiq h1 h2 h3
    obtain rfl : i = P := by omega
    exact ⟨I, rfl, h1, h2, fun _ _ _ => rfl, fun _ _ => rfl, mwf.refl _ _⟩
  | succ m ih =>
    intro i I hi hiq h1 h2 h3
    obtain ⟨i, rfl⟩ : ∃ i', i = i' + 1 := ⟨i - 1, by omega⟩
    have c0 : ¬ B + i < B + P := by omega
    have hb := h1 i (by omega)
    obtain ⟨I2, q1, q2, q3, q4, q5, q6⟩ := ih i (am_u I 402 (B + i + n) (nI (q.getD i 0))) (by omega) (by omega) (fun t ht => by
      rw [am_u_self, if_neg (by omega)]
      exact h1 t (by omega)) (fun t ht ht2 => by
      rw [am_u_self]
      by_cases c : t = i + n
      · rw [if_pos (by omega), c, Nat.add_sub_cancel]
      · rw [if_neg (by omega)]
        exact h2 t (by omega) ht2) (fun t ht ht2 => by
      rw [am_u_self]
      by_cases c : t = i + n
      · exact Or.inr (by omega)
      · rw [if_neg (by omega)]
        rcases h3 t ht ht2 with c | c
        · exact Or.inl c
        · exact Or.inr (by omega))
    have f1 : mwf I (am_u I 402 (B + i + n) (nI (q.getD i 0))) e := mwf_402 (by omega)
    have hs : nI (B + (i + 1)) - nI 1 = nI (B + i) := by rw [pm_sub (by omega)]; congr 1
    rw [e_l_X9_twice_112, hs]
    rw [pm_lt (by omega) (by omega), decide_eq_false c0, cond_false]
    generalize hz : nI (B + i) - nI 1 = z at *
    simp (disch := first | assumption | omega) only [m_is M, m_gI M, m_pI M, mR7 M, mL371 M, mW371 M, mR8 M, mL372 M, mW372 M, mR9 M, mL373 M, mW373 M, mR10 M, mL374 M, mW374 M, mR11 M, mL375 M, mW375 M, mR12 M, mL376 M, mW376_0 M, mW376_1 M, mR13 M, mL377 M, mW377 M, mR14 M, mL378 M, mW378 M, mR15 M, mL379 M, mW379 M, mR16 M, mL380 M, mW380 M, mR17 M, mL381 M, mW381 M, mR18 M, mL382 M, mW382 M, mR19 M, mL383 M, mW383_0 M, mW383_1 M, mR20 M, mL384 M, mW384_0 M, mW384_1 M, mR21 M, mL385 M, mW385 M, mR22 M, mL386 M, mW386 M, mR23 M, mL387 M, mW387 M, mR26 M, mL388 M, mW388 M, mR27 M, mL389 M, mW389 M, mR28 M, mL390 M, mW390 M, mR29 M, mL391 M, mW391 M, mR30 M, mL392 M, mW392 M, mR31 M, mL393 M, mW393 M, mR32 M, mL394 M, mW394_0 M, mW394_1 M, mR33 M, mL395 M, mW395_0 M, mW395_1 M, mR34 M, mL396 M, mW396 M, mR35 M, mL397 M, mW397 M, mR36 M, mL398 M, mW398 M, mR37 M, mL399 M, mW399 M, mR38 M, mL400 M, mW400 M, mR39 M, mL401 M, mW401 M, mR40 M, mL402 M, mW402 M, mR41 M, mL403 M, mW403 M, mR42 M, mL404 M, mW404 M, mR43 M, mL405 M, mW405 M, mR44 M, mL406 M, mW406 M, mR45 M, mL407 M, mW407 M, mR46 M, mL408 M, mW408 M, mR47 M, mL409 M, mW409 M, mR48 M, mL410 M, mW410 M, Option.bind_some, pm_u, pm_ur, pm_lt, pm_le, pm_eq, pm_ne, pm_add, pm_sub, pm_mul, pm_z0, pm_z1, cond_true, cond_false, decide_true, decide_false, not_false_eq_true, not_true_eq_false, reduceIte, Nat.reduceEqDiff, Nat.add_eq_left, Nat.left_eq_add, Nat.add_left_cancel_iff, Nat.one_ne_zero, Nat.reduceMul, Nat.reduceAdd, Nat.reduceSub, Nat.reduceEqDiff, Nat.reduceLT, Nat.reduceLeDiff, Nat.not_lt_zero, Nat.zero_le, am_cs, hb]
    refine ⟨I2, q1, q2, q3, fun t ht ht2 => ?_, fun a ha => ?_, f1.trans q6⟩
    · rw [q4 t ht ht2, am_u_self, if_neg (by omega)]
    · rw [q5 a ha, am_u_ne _ _ ha]
theorem m_insLoop (M : ml_ok K) (he : e ≤ 1) {fs : List Nat} {k : Nat} (hk : k < fs.length) (hl : fs.length < 900) (d : Nat) : ∀ (m i : Nat) (I : pm_I), k + m = i → i ≤ fs.length → I 406 e = nI fs.length → (∀ t, t ≤ i → t < fs.length → I 405 (900 * e + t) = nI (fs.getD t 0)) → (∀ t, i < t → t < fs.length + 1 → I 405 (900 * e + t) = nI (fs.getD (t - 1) 0)) →
    ∃ I' : pm_I, l_X9_twice_161 (d + 1) 370 (nI e) (nI k) (nI i) (K, I, J) = some ((nI 1, 0, none), (K, I', J)) ∧ I' 406 e = nI (fs.length + 1) ∧ wl_at I' 405 (900 * e) (fs.take (k + 1) ++ fs.drop k) ∧ (∀ a, a ≠ 405 → a ≠ 406 → I' a = I a) ∧ mwf I I' e := by
  have hlen : (fs.take (k + 1) ++ fs.drop k).length = fs.length + 1 := by
    rw [List.length_append, List.length_take, List.length_drop]
    omega
  intro m
  induction m with
  | zero =>
    intro i I hi hil h0 h1 h2
    obtain rfl : k = i := by omega
    rw [e_l_X9_twice_161]
    simp (disch := first | assumption | omega) only [m_is M, m_gI M, m_pI M, mR7 M, mL371 M, mW371 M, mR8 M, mL372 M, mW372 M, mR9 M, mL373 M, mW373 M, mR10 M, mL374 M, mW374 M, mR11 M, mL375 M, mW375 M, mR12 M, mL376 M, mW376_0 M, mW376_1 M, mR13 M, mL377 M, mW377 M, mR14 M, mL378 M, mW378 M, mR15 M, mL379 M, mW379 M, mR16 M, mL380 M, mW380 M, mR17 M, mL381 M, mW381 M, mR18 M, mL382 M, mW382 M, mR19 M, mL383 M, mW383_0 M, mW383_1 M, mR20 M, mL384 M, mW384_0 M, mW384_1 M, mR21 M, mL385 M, mW385 M, mR22 M, mL386 M, mW386 M, mR23 M, mL387 M, mW387 M, mR26 M, mL388 M, mW388 M, mR27 M, mL389 M, mW389 M, mR28 M, mL390 M, mW390 M, mR29 M, mL391 M, mW391 M, mR30 M, mL392 M, mW392 M, mR31 M, mL393 M, mW393 M, mR32 M, mL394 M, mW394_0 M, mW394_1 M, mR33 M, mL395 M, mW395_0 M, mW395_1 M, mR34 M, mL396 M, mW396 M, mR35 M, mL397 M, mW397 M, mR36 M, mL398 M, mW398 M, mR37 M, mL399 M, mW399 M, mR38 M, mL400 M, mW400 M, mR39 M, mL401 M, mW401 M, mR40 M, mL402 M, mW402 M, mR41 M, mL403 M, mW403 M, mR42 M, mL404 M, mW404 M, mR43 M, mL405 M, mW405 M, mR44 M, mL406 M, mW406 M, mR45 M, mL407 M, mW407 M, mR46 M, mL408 M, mW408 M, mR47 M, mL409 M, mW409 M, mR48 M, mL410 M, mW410 M, Option.bind_some, pm_u, pm_ur, pm_lt, pm_le, pm_eq, pm_ne, pm_add, pm_sub, pm_mul, pm_z0, pm_z1, cond_true, cond_false, decide_true, decide_false, not_false_eq_true, not_true_eq_false, reduceIte, Nat.reduceEqDiff, Nat.add_eq_left, Nat.left_eq_add, Nat.add_left_cancel_iff, Nat.one_ne_zero, Nat.reduceMul, Nat.reduceAdd, Nat.reduceSub, Nat.reduceEqDiff, Nat.reduceLT, Nat.reduceLeDiff, Nat.not_lt_zero, Nat.zero_le, am_cs, Nat.le_refl, h0]
    refine ⟨_, rfl, by rw [am_u_self, if_pos rfl], fun t ht => ?_, fun a _ ha => am_u_ne _ _ ha, mwf_e (by omega)⟩
    rw [hlen] at ht
    rw [am_u_ne _ _ (by omega), wl_insert hk rfl]
    by_cases c : t < k + 1
    · rw [if_pos c]
      exact h1 t (by omega) (by omega)
    · rw [if_neg c]
      exact h2 t (by omega) ht
  | succ m ih =>
    intro i I hi hil h0 h1 h2
    obtain ⟨i, rfl⟩ : ∃ i', i = i' + 1 := ⟨i - 1, by omega⟩
    have c0 : ¬ i + 1 ≤ k := by omega
    have hb := h1 i (by omega) (by omega)
    obtain ⟨I2, q1, q2, q3, q4, q5⟩ := ih i (am_u I 405 (900 * e + (i + 1)) (nI (fs.getD i 0))) (by omega) (by omega) (by rw [am_u_ne _ _ (by omega)]; exact h0) (fun t ht ht2 => by
      rw [am_u_self, if_neg (by omega)]
      exact h1 t (by omega) ht2) (fun t ht ht2 => by
      rw [am_u_self]
      by_cases c : t = i + 1
      · rw [if_pos (by omega), c, Nat.add_sub_cancel]
      · rw [if_neg (by omega)]
        exact h2 t (by omega) ht2)
    have f1 : mwf I (am_u I 405 (900 * e + (i + 1)) (nI (fs.getD i 0))) e := mwf_405 (by omega)
    have hs : 900 * e + (i + 1) - 1 = 900 * e + i := by omega
    rw [e_l_X9_twice_161]
    simp (disch := first | assumption | omega) only [m_is M, m_gI M, m_pI M, mR7 M, mL371 M, mW371 M, mR8 M, mL372 M, mW372 M, mR9 M, mL373 M, mW373 M, mR10 M, mL374 M, mW374 M, mR11 M, mL375 M, mW375 M, mR12 M, mL376 M, mW376_0 M, mW376_1 M, mR13 M, mL377 M, mW377 M, mR14 M, mL378 M, mW378 M, mR15 M, mL379 M, mW379 M, mR16 M, mL380 M, mW380 M, mR17 M, mL381 M, mW381 M, mR18 M, mL382 M, mW382 M, mR19 M, mL383 M, mW383_0 M, mW383_1 M, mR20 M, mL384 M, mW384_0 M, mW384_1 M, mR21 M, mL385 M, mW385 M, mR22 M, mL386 M, mW386 M, mR23 M, mL387 M, mW387 M, mR26 M, mL388 M, mW388 M, mR27 M, mL389 M, mW389 M, mR28 M, mL390 M, mW390 M, mR29 M, mL391 M, mW391 M, mR30 M, mL392 M, mW392 M, mR31 M, mL393 M, mW393 M, mR32 M, mL394 M, mW394_0 M, mW394_1 M, mR33 M, mL395 M, mW395_0 M, mW395_1 M, mR34 M, mL396 M, mW396 M, mR35 M, mL397 M, mW397 M, mR36 M, mL398 M, mW398 M, mR37 M, mL399 M, mW399 M, mR38 M, mL400 M, mW400 M, mR39 M, mL401 M, mW401 M, mR40 M, mL402 M, mW402 M, mR41 M, mL403 M, mW403 M, mR42 M, mL404 M, mW404 M, mR43 M, mL405 M, mW405 M, mR44 M, mL406 M, mW406 M, mR45 M, mL407 M, mW407 M, mR46 M, mL408 M, mW408 M, mR47 M, mL409 M, mW409 M, mR48 M, mL410 M, mW410 M, Option.bind_some, pm_u, pm_ur, pm_lt, pm_le, pm_eq, pm_ne, pm_add, pm_sub, pm_mul, pm_z0, pm_z1, cond_true, cond_false, decide_true, decide_false, not_false_eq_true, not_true_eq_false, reduceIte, Nat.reduceEqDiff, Nat.add_eq_left, Nat.left_eq_add, Nat.add_left_cancel_iff, Nat.one_ne_zero, Nat.reduceMul, Nat.reduceAdd, Nat.reduceSub, Nat.reduceEqDiff, Nat.reduceLT, Nat.reduceLeDiff, Nat.not_lt_zero, Nat.zero_le, am_cs, c0, hs, hb, Nat.add_sub_cancel]
    refine ⟨I2, q1, q2, q3, fun a ha ha2 => ?_, f1.trans q5⟩
    rw [q4 a ha ha2, am_u_ne _ _ ha]
/-- a frame is doubled, with room for it -/
theorem m_tw81 (M : ml_ok K) (he : e ≤ 1) (h : mw_at I e W) {rm j : Nat} (h1 : I 403 e = nI rm) (h8 : wl_at I 402 (4200 * e + rm) W.q) (hj : j < W.un) (hr : rm ≤ 100) (hn2 : W.q.length + W.fs.getD (wu_first W.ar + j) 0 ≤ 2000) (d : Nat) : ∃ I' : pm_I, l_X9_twice_81 (d + 1) 370 (nI e) (nI (wu_first W.ar + j)) (nI (W.fs.getD (wu_first W.ar + j) 0)) (K, I, J) = some ((nI 1, 0, none), (K, I', J)) ∧ mw_at I' e (W.dup j) ∧ mwf I I' e ∧ I' 370 = I 370 := by
  have hpl := m_placeOf (J := J) M he h h1 hj d
  obtain ⟨rm', _, h2, h3, h4, h5, h6, h7, _, h9, h10⟩ := h
  have hle := wl_ar_le h10 hj
  have hk : wu_first W.ar + j < W.fs.length := by
    unfold sWy.un at hj
    omega
  have hsz := wv_size h10 hk
  have hP : wa_pos W.fs W.ar (wu_first W.ar + j) + W.fs.getD (wu_first W.ar + j) 0 ≤ W.q.length := by
    unfold wa_pos
    omega
  have hwv := wv_dup h10 hj
  rw [Nat.add_comm j] at hpl
  unfold sWy.dup
  rw [if_pos hn2]
  have hfl := wv_len h10 (by omega)
  generalize hkk : wu_first W.ar + j = k at *
  generalize hPP : wa_pos W.fs W.ar k = P at *
  generalize hnn : W.fs.getD k 0 = n at *
  have hlenq : (W.q.take (P + n) ++ W.q.drop P).length = W.q.length + n := by
    rw [List.length_append, List.length_take, List.length_drop]
    omega
  have hlenf : (W.fs.take (k + 1) ++ W.fs.drop k).length = W.fs.length + 1 := by
    rw [List.length_append, List.length_take, List.length_drop]
    omega
  obtain ⟨I2, q1, q2, q3, q4, q5, q6⟩ := m_twLoop (J := J) (B := 4200 * e + rm) (k := k) M he (by omega) hP d (W.q.length - P) W.q.length I (by omega) (Nat.le_refl _) h8 (fun t ht ht2 => absurd ht (by omega)) (fun t ht _ => Or.inl (h8 t ht))
  have f3 : mwf I2 (am_u I2 404 e (nI (W.q.length + n))) e := mwf_e (by omega)
  obtain ⟨I3, d1, d2, d3, d4, d5⟩ := m_insLoop (J := J) M he hk (by omega) d (W.fs.length - k) W.fs.length (am_u I2 404 e (nI (W.q.length + n))) (by omega) (Nat.le_refl _) (by rw [am_u_ne _ _ (by omega), q5 406 (by omega)]; exact h3) (fun t _ ht => by rw [am_u_ne _ _ (by omega), q5 405 (by omega)]; exact h9 t ht) (fun t ht ht2 => absurd ht (by omega))
  have h2' : I2 404 e = nI W.q.length := by rw [q5 404 (by omega)]; exact h2
  have h3' : am_u I2 404 e (nI (W.q.length + n)) 406 e = nI W.fs.length := by rw [am_u_ne _ _ (by omega), q5 406 (by omega)]; exact h3
  have h3'' : I2 406 e = nI W.fs.length := by rw [q5 406 (by omega)]; exact h3
  have hlt : nI (4200 * e + rm + P) - nI 1 < nI (4200 * e + rm + P) := by
    rcases Nat.eq_zero_or_pos (4200 * e + rm + P) with q | q
    · rw [q]
      decide +kernel
    · rw [pm_sub (by omega)]
      exact nI_lt (by omega) (by omega)
  rw [e_l_X9_twice_81]
  have e112 : l_X9_twice_112 (d + 1) 370 (nI e) (nI k) (nI n) (nI (4200 * e + rm + P)) (nI (4200 * e + rm + W.q.length) - nI 1) (K, I, J) = some ((nI 1, 0, none), (K, I3, J)) := by
    rw [q1, e_l_X9_twice_112, decide_eq_true hlt, cond_true]
    simp (disch := first | assumption | omega) only [m_is M, m_gI M, m_pI M, mR7 M, mL371 M, mW371 M, mR8 M, mL372 M, mW372 M, mR9 M, mL373 M, mW373 M, mR10 M, mL374 M, mW374 M, mR11 M, mL375 M, mW375 M, mR12 M, mL376 M, mW376_0 M, mW376_1 M, mR13 M, mL377 M, mW377 M, mR14 M, mL378 M, mW378 M, mR15 M, mL379 M, mW379 M, mR16 M, mL380 M, mW380 M, mR17 M, mL381 M, mW381 M, mR18 M, mL382 M, mW382 M, mR19 M, mL383 M, mW383_0 M, mW383_1 M, mR20 M, mL384 M, mW384_0 M, mW384_1 M, mR21 M, mL385 M, mW385 M, mR22 M, mL386 M, mW386 M, mR23 M, mL387 M, mW387 M, mR26 M, mL388 M, mW388 M, mR27 M, mL389 M, mW389 M, mR28 M, mL390 M, mW390 M, mR29 M, mL391 M, mW391 M, mR30 M, mL392 M, mW392 M, mR31 M, mL393 M, mW393 M, mR32 M, mL394 M, mW394_0 M, mW394_1 M, mR33 M, mL395 M, mW395_0 M, mW395_1 M, mR34 M, mL396 M, mW396 M, mR35 M, mL397 M, mW397 M, mR36 M, mL398 M, mW398 M, mR37 M, mL399 M, mW399 M, mR38 M, mL400 M, mW400 M, mR39 M, mL401 M, mW401 M, mR40 M, mL402 M, mW402 M, mR41 M, mL403 M, mW403 M, mR42 M, mL404 M, mW404 M, mR43 M, mL405 M, mW405 M, mR44 M, mL406 M, mW406 M, mR45 M, mL407 M, mW407 M, mR46 M, mL408 M, mW408 M, mR47 M, mL409 M, mW409 M, mR48 M, mL410 M, mW410 M, Option.bind_some, pm_u, pm_ur, pm_lt, pm_le, pm_eq, pm_ne, pm_add, pm_sub, pm_mul, pm_z0, pm_z1, cond_true, cond_false, decide_true, decide_false, not_false_eq_true, not_true_eq_false, reduceIte, Nat.reduceEqDiff, Nat.add_eq_left, Nat.left_eq_add, Nat.add_left_cancel_iff, Nat.one_ne_zero, Nat.reduceMul, Nat.reduceAdd, Nat.reduceSub, Nat.reduceEqDiff, Nat.reduceLT, Nat.reduceLeDiff, Nat.not_lt_zero, Nat.zero_le, am_cs, h2', h3'']
    exact d1
  generalize hz : nI (4200 * e + rm + W.q.length) - nI 1 = z at *
  have hz2 : nI 4200 * nI e + nI rm + nI W.q.length - nI 1 = z := by
    rw [pm_mul, pm_add, pm_add]
    exact hz
  simp (disch := first | assumption | omega) only [m_is M, m_gI M, m_pI M, mR7 M, mL371 M, mW371 M, mR8 M, mL372 M, mW372 M, mR9 M, mL373 M, mW373 M, mR10 M, mL374 M, mW374 M, mR11 M, mL375 M, mW375 M, mR12 M, mL376 M, mW376_0 M, mW376_1 M, mR13 M, mL377 M, mW377 M, mR14 M, mL378 M, mW378 M, mR15 M, mL379 M, mW379 M, mR16 M, mL380 M, mW380 M, mR17 M, mL381 M, mW381 M, mR18 M, mL382 M, mW382 M, mR19 M, mL383 M, mW383_0 M, mW383_1 M, mR20 M, mL384 M, mW384_0 M, mW384_1 M, mR21 M, mL385 M, mW385 M, mR22 M, mL386 M, mW386 M, mR23 M, mL387 M, mW387 M, mR26 M, mL388 M, mW388 M, mR27 M, mL389 M, mW389 M, mR28 M, mL390 M, mW390 M, mR29 M, mL391 M, mW391 M, mR30 M, mL392 M, mW392 M, mR31 M, mL393 M, mW393 M, mR32 M, mL394 M, mW394_0 M, mW394_1 M, mR33 M, mL395 M, mW395_0 M, mW395_1 M, mR34 M, mL396 M, mW396 M, mR35 M, mL397 M, mW397 M, mR36 M, mL398 M, mW398 M, mR37 M, mL399 M, mW399 M, mR38 M, mL400 M, mW400 M, mR39 M, mL401 M, mW401 M, mR40 M, mL402 M, mW402 M, mR41 M, mL403 M, mW403 M, mR42 M, mL404 M, mW404 M, mR43 M, mL405 M, mW405 M, mR44 M, mL406 M, mW406 M, mR45 M, mL407 M, mW407 M, mR46 M, mL408 M, mW408 M, mR47 M, mL409 M, mW409 M, mR48 M, mL410 M, mW410 M, Option.bind_some, pm_u, pm_ur, pm_lt, pm_le, pm_eq, pm_ne, pm_add, pm_sub, pm_mul, pm_z0, pm_z1, cond_true, cond_false, decide_true, decide_false, not_false_eq_true, not_true_eq_false, reduceIte, Nat.reduceEqDiff, Nat.add_eq_left, Nat.left_eq_add, Nat.add_left_cancel_iff, Nat.one_ne_zero, Nat.reduceMul, Nat.reduceAdd, Nat.reduceSub, Nat.reduceEqDiff, Nat.reduceLT, Nat.reduceLeDiff, Nat.not_lt_zero, Nat.zero_le, am_cs, hpl]
  rw [h1, h2]
  refine ⟨I3, ?_, ⟨rm, ?_, ?_, ?_, ?_, ?_, ?_, ?_, ?_, ?_, hwv⟩, q6.trans (f3.trans d5), ?_⟩
  · simp (disch := first | assumption | omega) only [m_is M, m_gI M, m_pI M, mR7 M, mL371 M, mW371 M, mR8 M, mL372 M, mW372 M, mR9 M, mL373 M, mW373 M, mR10 M, mL374 M, mW374 M, mR11 M, mL375 M, mW375 M, mR12 M, mL376 M, mW376_0 M, mW376_1 M, mR13 M, mL377 M, mW377 M, mR14 M, mL378 M, mW378 M, mR15 M, mL379 M, mW379 M, mR16 M, mL380 M, mW380 M, mR17 M, mL381 M, mW381 M, mR18 M, mL382 M, mW382 M, mR19 M, mL383 M, mW383_0 M, mW383_1 M, mR20 M, mL384 M, mW384_0 M, mW384_1 M, mR21 M, mL385 M, mW385 M, mR22 M, mL386 M, mW386 M, mR23 M, mL387 M, mW387 M, mR26 M, mL388 M, mW388 M, mR27 M, mL389 M, mW389 M, mR28 M, mL390 M, mW390 M, mR29 M, mL391 M, mW391 M, mR30 M, mL392 M, mW392 M, mR31 M, mL393 M, mW393 M, mR32 M, mL394 M, mW394_0 M, mW394_1 M, mR33 M, mL395 M, mW395_0 M, mW395_1 M, mR34 M, mL396 M, mW396 M, mR35 M, mL397 M, mW397 M, mR36 M, mL398 M, mW398 M, mR37 M, mL399 M, mW399 M, mR38 M, mL400 M, mW400 M, mR39 M, mL401 M, mW401 M, mR40 M, mL402 M, mW402 M, mR41 M, mL403 M, mW403 M, mR42 M, mL404 M, mW404 M, mR43 M, mL405 M, mW405 M, mR44 M, mL406 M, mW406 M, mR45 M, mL407 M, mW407 M, mR46 M, mL408 M, mW408 M, mR47 M, mL409 M, mW409 M, mR48 M, mL410 M, mW410 M, Option.bind_some, pm_u, pm_ur, pm_lt, pm_le, pm_eq, pm_ne, pm_add, pm_sub, pm_mul, pm_z0, pm_z1, cond_true, cond_false, decide_true, decide_false, not_false_eq_true, not_true_eq_false, reduceIte, Nat.reduceEqDiff, Nat.add_eq_left, Nat.left_eq_add, Nat.add_left_cancel_iff, Nat.one_ne_zero, Nat.reduceMul, Nat.reduceAdd, Nat.reduceSub, Nat.reduceEqDiff, Nat.reduceLT, Nat.reduceLeDiff, Nat.not_lt_zero, Nat.zero_le, am_cs]
    first
      | exact e112
      | (rw [hz]; exact e112)
      | (rw [← hz] at e112; rw [pm_sub (by omega)] at e112; exact e112)
  · rw [d4 403 (by omega) (by omega), am_u_ne _ _ (by omega), q5 403 (by omega)]
    exact h1
  · rw [d4 404 (by omega) (by omega), am_u_self, if_pos rfl]
    show _ = nI (W.q.take (P + n) ++ W.q.drop P).length
    rw [hlenq]
  · show _ = nI (W.fs.take (k + 1) ++ W.fs.drop k).length
    rw [hlenf]
    exact d2
  · rw [d4 407 (by omega) (by omega), am_u_ne _ _ (by omega), q5 407 (by omega)]
    exact h4
  · show rm + (W.q.take (P + n) ++ W.q.drop P).length ≤ 4200
    omega
  · show (W.q.take (P + n) ++ W.q.drop P).length ≤ 2000
    omega
  · show (W.fs.take (k + 1) ++ W.fs.drop k).length ≤ 410
    omega
  · intro t ht
    have ht : t < (W.q.take (P + n) ++ W.q.drop P).length := ht
    rw [hlenq] at ht
    show I3 402 (4200 * e + rm + t) = nI ((W.q.take (P + n) ++ W.q.drop P).getD t 0)
    rw [d4 402 (by omega) (by omega), am_u_ne _ _ (by omega), wl_dup hP]
    by_cases c1 : t < P
    · rw [if_pos (by omega)]
      exact q2 t c1
    · by_cases c2 : t < P + n
      · rw [if_pos c2, q4 t (by omega) c2]
        exact h8 t (by omega)
      · rw [if_neg c2]
        exact q3 t (by omega) ht
  · exact d3
  · rw [d4 370 (by omega) (by omega), am_u_ne _ _ (by omega), q5 370 (by omega)]
theorem m_twiceE (M : ml_ok K) (he : e ≤ 1) (h : mt_at I J p T) (y : Int32) (d : Nat) : ∃ I' : pm_I, f_X9_twice (d + 2) 370 (nI e) y (K, I, J) = some (((if wu_in y (tW T e).un = 1 then (nI 1, tSW T e ((tW T e).dup y.toNatClampNeg)) else (nI 0, T)).1, 0, none), (K, I', J)) ∧ mt_at I' J p (if wu_in y (tW T e).un = 1 then (nI 1, tSW T e ((tW T e).dup y.toNatClampNeg)) else (nI 0, T)).2 ∧ mf_at I I' := by
  have h0 := mt_thrown h (nI 0)
  have f0 : mf_at I (am_u I 370 0 (nI 0)) := mf_u (by omega)
  have h5' : am_u I 370 0 (nI 0) 370 5 = nI (T.w0.rf + T.w1.rf) := h0.1.2.2.2.2.1
  have hW := mt_w he h0
  have hiw := m_isWhole (J := J) M he hW y d
  have hfw := m_firstWhole (J := J) M he hW (d + 1)
  rw [e_X9_twice]
  by_cases c0 : wu_in y (tW T e).un = 1
  · rw [if_pos c0]
    rw [c0] at hiw
    rw [pm_pI M.1, Option.bind_some]
    generalize hI0 : am_u I 370 0 (nI 0) = I0 at *
    have hW' := hW
    obtain ⟨rm, h1, h2, h3, h4, h5, h6, h7, h8, h9, h10⟩ := hW
    have hfl := wv_first h10
    obtain ⟨j, hj, rfl⟩ := wu_in1 (n := (tW T e).un) (by unfold sWy.un; omega) c0
    rw [nI_clamp (by unfold sWy.un at hj; omega)]
    have hk : wu_first (tW T e).ar + j < (tW T e).fs.length := by
      unfold sWy.un at hj
      omega
    have hn := h9 _ hk
    have hsz := wv_size h10 hk
    have hkc : j + wu_first (tW T e).ar = wu_first (tW T e).ar + j := by omega
    have hrf : ∀ W' : sWy, W'.rf = (tW T e).rf → (tSW T e W').w0.rf + (tSW T e W').w1.rf = T.w0.rf + T.w1.rf := by
      intro W' hW'
      unfold tSW tW at *
      by_cases ee : e = 0
      · rw [if_pos ee] at hW' ⊢
        show W'.rf + T.w1.rf = _
        rw [hW']
      · rw [if_neg ee] at hW' ⊢
        show T.w0.rf + W'.rf = _
        rw [hW']
    by_cases c1 : (tW T e).q.length + (tW T e).fs.getD (wu_first (tW T e).ar + j) 0 ≤ 2000
    · have hrfd : ((tW T e).dup j).rf = (tW T e).rf := by
        unfold sWy.dup
        rw [if_pos c1]
      by_cases c2 : rm ≤ 100
      · obtain ⟨I2, a1, a2, a3, a4⟩ := m_tw81 (J := J) M he hW' h1 h8 hj c2 c1 (d + 1)
        simp (disch := first | assumption | omega) only [m_is M, m_gI M, m_pI M, mR7 M, mL371 M, mW371 M, mR8 M, mL372 M, mW372 M, mR9 M, mL373 M, mW373 M, mR10 M, mL374 M, mW374 M, mR11 M, mL375 M, mW375 M, mR12 M, mL376 M, mW376_0 M, mW376_1 M, mR13 M, mL377 M, mW377 M, mR14 M, mL378 M, mW378 M, mR15 M, mL379 M, mW379 M, mR16 M, mL380 M, mW380 M, mR17 M, mL381 M, mW381 M, mR18 M, mL382 M, mW382 M, mR19 M, mL383 M, mW383_0 M, mW383_1 M, mR20 M, mL384 M, mW384_0 M, mW384_1 M, mR21 M, mL385 M, mW385 M, mR22 M, mL386 M, mW386 M, mR23 M, mL387 M, mW387 M, mR26 M, mL388 M, mW388 M, mR27 M, mL389 M, mW389 M, mR28 M, mL390 M, mW390 M, mR29 M, mL391 M, mW391 M, mR30 M, mL392 M, mW392 M, mR31 M, mL393 M, mW393 M, mR32 M, mL394 M, mW394_0 M, mW394_1 M, mR33 M, mL395 M, mW395_0 M, mW395_1 M, mR34 M, mL396 M, mW396 M, mR35 M, mL397 M, mW397 M, mR36 M, mL398 M, mW398 M, mR37 M, mL399 M, mW399 M, mR38 M, mL400 M, mW400 M, mR39 M, mL401 M, mW401 M, mR40 M, mL402 M, mW402 M, mR41 M, mL403 M, mW403 M, mR42 M, mL404 M, mW404 M, mR43 M, mL405 M, mW405 M, mR44 M, mL406 M, mW406 M, mR45 M, mL407 M, mW407 M, mR46 M, mL408 M, mW408 M, mR47 M, mL409 M, mW409 M, mR48 M, mL410 M, mW410 M, Option.bind_some, pm_u, pm_ur, pm_lt, pm_le, pm_eq, pm_ne, pm_add, pm_sub, pm_mul, pm_z0, pm_z1, cond_true, cond_false, decide_true, decide_false, not_false_eq_true, not_true_eq_false, reduceIte, Nat.reduceEqDiff, Nat.add_eq_left, Nat.left_eq_add, Nat.add_left_cancel_iff, Nat.one_ne_zero, Nat.reduceMul, Nat.reduceAdd, Nat.reduceSub, Nat.reduceEqDiff, Nat.reduceLT, Nat.reduceLeDiff, Nat.not_lt_zero, Nat.zero_le, am_cs, hiw, hfw, hkc, hn, h2, c1, h1, c2]
        refine ⟨I2, a1, mt_way he h0 a3 a2 ?_, f0.trans (fun a ha => a3.1 a (by omega) (by omega) (by omega))⟩
        rw [a4, h5', hrf _ hrfd]
      · obtain ⟨I1, s1, s2, s3, s4, s5, s6, s7⟩ := m_settle (J := J) M he hW' h1 (by omega) h5 h8 (d + 1)
        obtain ⟨I2, a1, a2, a3, a4⟩ := m_tw81 (J := J) M he s2 s3 s7 hj (by omega) c1 (d + 1)
        simp (disch := first | assumption | omega) only [m_is M, m_gI M, m_pI M, mR7 M, mL371 M, mW371 M, mR8 M, mL372 M, mW372 M, mR9 M, mL373 M, mW373 M, mR10 M, mL374 M, mW374 M, mR11 M, mL375 M, mW375 M, mR12 M, mL376 M, mW376_0 M, mW376_1 M, mR13 M, mL377 M, mW377 M, mR14 M, mL378 M, mW378 M, mR15 M, mL379 M, mW379 M, mR16 M, mL380 M, mW380 M, mR17 M, mL381 M, mW381 M, mR18 M, mL382 M, mW382 M, mR19 M, mL383 M, mW383_0 M, mW383_1 M, mR20 M, mL384 M, mW384_0 M, mW384_1 M, mR21 M, mL385 M, mW385 M, mR22 M, mL386 M, mW386 M, mR23 M, mL387 M, mW387 M, mR26 M, mL388 M, mW388 M, mR27 M, mL389 M, mW389 M, mR28 M, mL390 M, mW390 M, mR29 M, mL391 M, mW391 M, mR30 M, mL392 M, mW392 M, mR31 M, mL393 M, mW393 M, mR32 M, mL394 M, mW394_0 M, mW394_1 M, mR33 M, mL395 M, mW395_0 M, mW395_1 M, mR34 M, mL396 M, mW396 M, mR35 M, mL397 M, mW397 M, mR36 M, mL398 M, mW398 M, mR37 M, mL399 M, mW399 M, mR38 M, mL400 M, mW400 M, mR39 M, mL401 M, mW401 M, mR40 M, mL402 M, mW402 M, mR41 M, mL403 M, mW403 M, mR42 M, mL404 M, mW404 M, mR43 M, mL405 M, mW405 M, mR44 M, mL406 M, mW406 M, mR45 M, mL407 M, mW407 M, mR46 M, mL408 M, mW408 M, mR47 M, mL409 M, mW409 M, mR48 M, mL410 M, mW410 M, Option.bind_some, pm_u, pm_ur, pm_lt, pm_le, pm_eq, pm_ne, pm_add, pm_sub, pm_mul, pm_z0, pm_z1, cond_true, cond_false, decide_true, decide_false, not_false_eq_true, not_true_eq_false, reduceIte, Nat.reduceEqDiff, Nat.add_eq_left, Nat.left_eq_add, Nat.add_left_cancel_iff, Nat.one_ne_zero, Nat.reduceMul, Nat.reduceAdd, Nat.reduceSub, Nat.reduceEqDiff, Nat.reduceLT, Nat.reduceLeDiff, Nat.not_lt_zero, Nat.zero_le, am_cs, hiw, hfw, hkc, hn, h2, c1, h1, c2, s1]
        refine ⟨I2, a1, mt_way he h0 (s4.trans a3) a2 ?_, f0.trans (fun a ha => (s4.trans a3).1 a (by omega) (by omega) (by omega))⟩
        rw [a4, s5, h5', hrf _ hrfd]
    · have hd : (tW T e).dup j = ((tW T e).q, (tW T e).fs, (tW T e).ar, (tW T e).rf + 1) := by
        unfold sWy.dup
        rw [if_neg c1]
      rw [hd]
      have k3 : mwf I0 (am_u I0 370 5 (nI (T.w0.rf + T.w1.rf + 1))) e := ⟨fun a h1 _ _ => am_u_ne _ _ h1, fun j _ => by rw [am_u_ne _ _ (by omega)], fun j _ => by rw [am_u_ne _ _ (by omega)], fun a j _ _ => by rw [am_u_ne _ _ (by omega)], fun j _ h5 => by rw [am_u_self, if_neg h5]⟩
      simp (disch := first | assumption | omega) only [m_is M, m_gI M, m_pI M, mR7 M, mL371 M, mW371 M, mR8 M, mL372 M, mW372 M, mR9 M, mL373 M, mW373 M, mR10 M, mL374 M, mW374 M, mR11 M, mL375 M, mW375 M, mR12 M, mL376 M, mW376_0 M, mW376_1 M, mR13 M, mL377 M, mW377 M, mR14 M, mL378 M, mW378 M, mR15 M, mL379 M, mW379 M, mR16 M, mL380 M, mW380 M, mR17 M, mL381 M, mW381 M, mR18 M, mL382 M, mW382 M, mR19 M, mL383 M, mW383_0 M, mW383_1 M, mR20 M, mL384 M, mW384_0 M, mW384_1 M, mR21 M, mL385 M, mW385 M, mR22 M, mL386 M, mW386 M, mR23 M, mL387 M, mW387 M, mR26 M, mL388 M, mW388 M, mR27 M, mL389 M, mW389 M, mR28 M, mL390 M, mW390 M, mR29 M, mL391 M, mW391 M, mR30 M, mL392 M, mW392 M, mR31 M, mL393 M, mW393 M, mR32 M, mL394 M, mW394_0 M, mW394_1 M, mR33 M, mL395 M, mW395_0 M, mW395_1 M, mR34 M, mL396 M, mW396 M, mR35 M, mL397 M, mW397 M, mR36 M, mL398 M, mW398 M, mR37 M, mL399 M, mW399 M, mR38 M, mL400 M, mW400 M, mR39 M, mL401 M, mW401 M, mR40 M, mL402 M, mW402 M, mR41 M, mL403 M, mW403 M, mR42 M, mL404 M, mW404 M, mR43 M, mL405 M, mW405 M, mR44 M, mL406 M, mW406 M, mR45 M, mL407 M, mW407 M, mR46 M, mL408 M, mW408 M, mR47 M, mL409 M, mW409 M, mR48 M, mL410 M, mW410 M, Option.bind_some, pm_u, pm_ur, pm_lt, pm_le, pm_eq, pm_ne, pm_add, pm_sub, pm_mul, pm_z0, pm_z1, cond_true, cond_false, decide_true, decide_false, not_false_eq_true, not_true_eq_false, reduceIte, Nat.reduceEqDiff, Nat.add_eq_left, Nat.left_eq_add, Nat.add_left_cancel_iff, Nat.one_ne_zero, Nat.reduceMul, Nat.reduceAdd, Nat.reduceSub, Nat.reduceEqDiff, Nat.reduceLT, Nat.reduceLeDiff, Nat.not_lt_zero, Nat.zero_le, am_cs, hiw, hfw, hkc, hn, h2, c1, h5']
      refine ⟨_, rfl, mt_way he h0 k3 ⟨rm, ?_, ?_, ?_, ?_, h5, h6, h7, ?_, ?_, h10⟩ ?_, f0.trans (fun a ha => k3.1 a (by omega) (by omega) (by omega))⟩
      · rw [am_u_ne _ _ (by omega)]; exact h1
      · rw [am_u_ne _ _ (by omega)]; exact h2
      · rw [am_u_ne _ _ (by omega)]; exact h3
      · rw [am_u_ne _ _ (by omega)]; exact h4
      · exact wl_congr (b := 0) h8 (am_u_ne _ _ (by omega))
      · exact wl_congr (b := 0) h9 (am_u_ne _ _ (by omega))
      · rw [am_u_self, if_pos rfl]
        unfold tSW tW
        by_cases ee : e = 0
        · rw [if_pos ee]
          show _ = nI ((tW T e).rf + 1 + T.w1.rf)
          unfold tW
          rw [if_pos ee]
          congr 1
          omega
        · rw [if_neg ee]
          show _ = nI (T.w0.rf + ((tW T e).rf + 1))
          unfold tW
          rw [if_neg ee]
          congr 1
  · rw [if_neg c0]
    rw [wu_0 c0] at hiw
    simp (disch := first | assumption | omega) only [m_is M, m_gI M, m_pI M, mR7 M, mL371 M, mW371 M, mR8 M, mL372 M, mW372 M, mR9 M, mL373 M, mW373 M, mR10 M, mL374 M, mW374 M, mR11 M, mL375 M, mW375 M, mR12 M, mL376 M, mW376_0 M, mW376_1 M, mR13 M, mL377 M, mW377 M, mR14 M, mL378 M, mW378 M, mR15 M, mL379 M, mW379 M, mR16 M, mL380 M, mW380 M, mR17 M, mL381 M, mW381 M, mR18 M, mL382 M, mW382 M, mR19 M, mL383 M, mW383_0 M, mW383_1 M, mR20 M, mL384 M, mW384_0 M, mW384_1 M, mR21 M, mL385 M, mW385 M, mR22 M, mL386 M, mW386 M, mR23 M, mL387 M, mW387 M, mR26 M, mL388 M, mW388 M, mR27 M, mL389 M, mW389 M, mR28 M, mL390 M, mW390 M, mR29 M, mL391 M, mW391 M, mR30 M, mL392 M, mW392 M, mR31 M, mL393 M, mW393 M, mR32 M, mL394 M, mW394_0 M, mW394_1 M, mR33 M, mL395 M, mW395_0 M, mW395_1 M, mR34 M, mL396 M, mW396 M, mR35 M, mL397 M, mW397 M, mR36 M, mL398 M, mW398 M, mR37 M, mL399 M, mW399 M, mR38 M, mL400 M, mW400 M, mR39 M, mL401 M, mW401 M, mR40 M, mL402 M, mW402 M, mR41 M, mL403 M, mW403 M, mR42 M, mL404 M, mW404 M, mR43 M, mL405 M, mW405 M, mR44 M, mL406 M, mW406 M, mR45 M, mL407 M, mW407 M, mR46 M, mL408 M, mW408 M, mR47 M, mL409 M, mW409 M, mR48 M, mL410 M, mW410 M, Option.bind_some, pm_u, pm_ur, pm_lt, pm_le, pm_eq, pm_ne, pm_add, pm_sub, pm_mul, pm_z0, pm_z1, cond_true, cond_false, decide_true, decide_false, not_false_eq_true, not_true_eq_false, reduceIte, Nat.reduceEqDiff, Nat.add_eq_left, Nat.left_eq_add, Nat.add_left_cancel_iff, Nat.one_ne_zero, Nat.reduceMul, Nat.reduceAdd, Nat.reduceSub, Nat.reduceEqDiff, Nat.reduceLT, Nat.reduceLeDiff, Nat.not_lt_zero, Nat.zero_le, am_cs, hiw]
    exact ⟨_, rfl, h0, f0⟩
theorem m_twice (M : ml_ok K) (h : mt_at I J p T) (x y : Int32) (d : Nat) : ∃ I' : pm_I, f_X9_twice (d + 2) 370 x y (K, I, J) = some (((st_twice x y T).1, 0, none), (K, I', J)) ∧ mt_at I' J p (st_twice x y T).2 ∧ mf_at I I' := by
  unfold st_twice
  by_cases c0 : x = nI 0
  · subst c0
    rw [if_pos rfl]
    exact m_twiceE (e := 0) M (by omega) h y d
  · rw [if_neg c0]
    by_cases c1 : x = nI 1
    · subst c1
      rw [if_pos rfl]
      exact m_twiceE (e := 1) M (by omega) h y d
    · rw [if_neg c1, e_X9_twice]
      have hw := m_isWholeX (I := am_u I 370 0 (nI 0)) (J := J) M (x := x) (by rintro (q | q) <;> contradiction) y d
      simp (disch := first | assumption | omega) only [m_is M, m_gI M, m_pI M, mR7 M, mL371 M, mW371 M, mR8 M, mL372 M, mW372 M, mR9 M, mL373 M, mW373 M, mR10 M, mL374 M, mW374 M, mR11 M, mL375 M, mW375 M, mR12 M, mL376 M, mW376_0 M, mW376_1 M, mR13 M, mL377 M, mW377 M, mR14 M, mL378 M, mW378 M, mR15 M, mL379 M, mW379 M, mR16 M, mL380 M, mW380 M, mR17 M, mL381 M, mW381 M, mR18 M, mL382 M, mW382 M, mR19 M, mL383 M, mW383_0 M, mW383_1 M, mR20 M, mL384 M, mW384_0 M, mW384_1 M, mR21 M, mL385 M, mW385 M, mR22 M, mL386 M, mW386 M, mR23 M, mL387 M, mW387 M, mR26 M, mL388 M, mW388 M, mR27 M, mL389 M, mW389 M, mR28 M, mL390 M, mW390 M, mR29 M, mL391 M, mW391 M, mR30 M, mL392 M, mW392 M, mR31 M, mL393 M, mW393 M, mR32 M, mL394 M, mW394_0 M, mW394_1 M, mR33 M, mL395 M, mW395_0 M, mW395_1 M, mR34 M, mL396 M, mW396 M, mR35 M, mL397 M, mW397 M, mR36 M, mL398 M, mW398 M, mR37 M, mL399 M, mW399 M, mR38 M, mL400 M, mW400 M, mR39 M, mL401 M, mW401 M, mR40 M, mL402 M, mW402 M, mR41 M, mL403 M, mW403 M, mR42 M, mL404 M, mW404 M, mR43 M, mL405 M, mW405 M, mR44 M, mL406 M, mW406 M, mR45 M, mL407 M, mW407 M, mR46 M, mL408 M, mW408 M, mR47 M, mL409 M, mW409 M, mR48 M, mL410 M, mW410 M, Option.bind_some, pm_u, pm_ur, pm_lt, pm_le, pm_eq, pm_ne, pm_add, pm_sub, pm_mul, pm_z0, pm_z1, cond_true, cond_false, decide_true, decide_false, not_false_eq_true, not_true_eq_false, reduceIte, Nat.reduceEqDiff, Nat.add_eq_left, Nat.left_eq_add, Nat.add_left_cancel_iff, Nat.one_ne_zero, Nat.reduceMul, Nat.reduceAdd, Nat.reduceSub, Nat.reduceEqDiff, Nat.reduceLT, Nat.reduceLeDiff, Nat.not_lt_zero, Nat.zero_le, am_cs, hw]
      exact ⟨_, rfl, mt_thrown h (nI 0), mf_u (by omega)⟩
end MT3
