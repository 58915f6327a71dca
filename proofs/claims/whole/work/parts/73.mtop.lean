/-! THE REFERENCE'S CALLS OF THE DOCUMENT -/
theorem wu_in0 {x : Int32} {n : Nat} (h : wu_in x n = 0) : x < nI 0 ∨ nI n ≤ x := by
  unfold wu_in at h
  by_cases c : x < 0
  · exact Or.inl c
  · rw [if_neg c] at h
    by_cases c1 : nI n ≤ x
    · exact Or.inr c1
    · rw [if_neg c1] at h
      omega
theorem px_gt {x : Int32} {n : Nat} (hn : n + 1 < 2147483648) (h : nI (n + 1) ≤ x) : ¬ x ≤ nI n := fun q => absurd (Int32.le_trans h q) (nI_ge (by omega) (by omega))
theorem su_su (cs : Nat → sCl) (c : Nat) (C D : sCl) : su_at (su_at cs c C) c D = su_at cs c D := by
  funext i
  unfold su_at
  split <;> rfl
theorem sc_miss_neg {an : Nat → Nat} {y : Int32} (hy : y < nI 0) : ∀ (n i b : Nat), b + n < 2147483648 → sc_miss an y n i (nI b) = -nI 1 := by
  intro n
  induction n with
  | zero => intro i b _; rfl
  | succ n ih =>
    intro i b hb
    unfold sc_miss
    have hne : ¬ nI b = y := fun q => nI_pos (n := b) (by omega) (by rw [q]; exact hy)
    rw [if_neg hne, pm_add, ih (i + 1) (b + 1) (by omega), ih (i + 1) b (by omega)]
    split <;> rfl
theorem sc_miss_zero {an : Nat → Nat} {y : Int32} (h : ∀ i, an i = 0) : ∀ (n i : Nat) (b : Int32), sc_miss an y n i b = -nI 1 := by
  intro n
  induction n with
  | zero => intro i b; rfl
  | succ n ih =>
    intro i b
    unfold sc_miss
    rw [if_neg (by rw [h i]; omega)]
    exact ih _ _
section MTP
variable {K : am_K} {I I' : pm_I} {J J' : pm_J} {p c ck : Nat} {C : sCl} {T : sT}
theorem m_callX (M : ml_ok K) (h : mt_at I J p T) (x : Int32) (v : Int64) (d : Nat) : ∃ (I' : pm_I) (J' : pm_J), f_X9_call d 370 x v (K, I, J) = some (((st_call x v T).1, 0, none), (K, I', J')) ∧ mt_at I' J' p (st_call x v T).2 ∧ mf_at I I' ∧ mf_at J J' := by
  have h0 := mt_thrown h (nI 0)
  have f0 : mf_at I (am_u I 370 0 (nI 0)) := mf_u (by omega)
  have hmk := mt_mk h
  have h6 : I 370 6 = nI T.mk := h.1.2.2.2.2.2.1
  rw [e_X9_call]
  unfold st_call
  by_cases c0 : T.mk < 30 ∧ wu_in x 5 = 1
  · obtain ⟨j, hj, rfl⟩ := wu_in1 (by omega) c0.2
    rw [if_pos c0, nI_clamp (by omega)]
    have c1 : ¬ T.mk = 30 := by omega
    have c2 : j ≤ 4 := by omega
    simp (disch := first | assumption | omega) only [m_is M, m_gI M, m_pI M, mR7 M, mL371 M, mW371 M, mR8 M, mL372 M, mW372 M, mR9 M, mL373 M, mW373 M, mR10 M, mL374 M, mW374 M, mR11 M, mL375 M, mW375 M, mR12 M, mL376 M, mW376_0 M, mW376_1 M, mR13 M, mL377 M, mW377 M, mR14 M, mL378 M, mW378 M, mR15 M, mL379 M, mW379 M, mR16 M, mL380 M, mW380 M, mR17 M, mL381 M, mW381 M, mR18 M, mL382 M, mW382 M, mR19 M, mL383 M, mW383_0 M, mW383_1 M, mR20 M, mL384 M, mW384_0 M, mW384_1 M, mR21 M, mL385 M, mW385 M, mR22 M, mL386 M, mW386 M, mR23 M, mL387 M, mW387 M, mR26 M, mL388 M, mW388 M, mR27 M, mL389 M, mW389 M, mR28 M, mL390 M, mW390 M, mR29 M, mL391 M, mW391 M, mR30 M, mL392 M, mW392 M, mR31 M, mL393 M, mW393 M, mR32 M, mL394 M, mW394_0 M, mW394_1 M, mR33 M, mL395 M, mW395_0 M, mW395_1 M, mR34 M, mL396 M, mW396 M, mR35 M, mL397 M, mW397 M, mR36 M, mL398 M, mW398 M, mR37 M, mL399 M, mW399 M, mR38 M, mL400 M, mW400 M, mR39 M, mL401 M, mW401 M, mR40 M, mL402 M, mW402 M, mR41 M, mL403 M, mW403 M, mR42 M, mL404 M, mW404 M, mR43 M, mL405 M, mW405 M, mR44 M, mL406 M, mW406 M, mR45 M, mL407 M, mW407 M, mR46 M, mL408 M, mW408 M, mR47 M, mL409 M, mW409 M, mR48 M, mL410 M, mW410 M, Option.bind_some, pm_u, pm_ur, pm_lt, pm_le, pm_eq, pm_ne, pm_add, pm_sub, pm_mul, pm_z0, pm_z1, cond_true, cond_false, decide_true, decide_false, not_false_eq_true, not_true_eq_false, reduceIte, Nat.reduceEqDiff, Nat.add_eq_left, Nat.left_eq_add, Nat.add_left_cancel_iff, Nat.one_ne_zero, Nat.reduceMul, Nat.reduceAdd, Nat.reduceSub, Nat.reduceEqDiff, Nat.reduceLT, Nat.reduceLeDiff, Nat.not_lt_zero, Nat.zero_le, am_cs, h6, c1, c2, Nat.add_sub_cancel]
    have g : mcf (am_u I 370 0 (nI 0)) (am_u (am_u I 370 0 (nI 0)) 371 T.mk (nI j)) T.mk := mcf_u (by omega) (by rw [show wd 371 = 1 from rfl]; omega)
    have g' : mcf J (am_u J 377 T.mk v) T.mk := mcf_u (by omega) (by rw [show wd 377 = 1 from rfl]; omega)
    have eI : ∀ a, a ≠ 371 → a ≠ 370 → am_u (am_u (am_u I 370 0 (nI 0)) 371 T.mk (nI j)) 370 6 (nI (T.mk + 1)) a = I a := fun a q1 q2 => by rw [am_u_ne _ _ q2, am_u_ne _ _ q1, am_u_ne _ _ q2]
    have eJ : ∀ a, a ≠ 377 → am_u J 377 T.mk v a = J a := fun a q => am_u_ne _ _ q
    refine ⟨_, _, rfl, ?_, ?_, mcf_mf g'⟩
    · obtain ⟨h1, ⟨h2, h3⟩, ⟨h4, h4', h4'', h4'''⟩, h5, ⟨h6', h7⟩, h8⟩ := h
      refine ⟨?_, ⟨mw_congr h2 (fun a _ _ => eI a (by omega) (by omega)), mw_congr h3 (fun a _ _ => eI a (by omega) (by omega))⟩, ⟨fun i hi => ?_, fun i hi => ?_, by show T.mk + 1 ≤ 30; omega, h4'''⟩, mv_congr h5 (fun a _ _ => eI a (by omega) (by omega)) (fun a _ _ => eJ a (by omega)), ⟨mg_congr h6' (eI _ (by omega) (by omega)) (eI _ (by omega) (by omega)), mg_congr h7 (eI _ (by omega) (by omega)) (eI _ (by omega) (by omega))⟩, h8⟩
      · unfold ms_at at *
        simp only [pm_u, reduceIte, Nat.reduceEqDiff]
        exact ⟨h1.1, h1.2.1, h1.2.2.1, h1.2.2.2.1, h1.2.2.2.2.1, rfl, h1.2.2.2.2.2.2⟩
      · show mc_at _ _ T.ck i (su_at T.cs T.mk (sCl.made j v) i)
        have hci := mc_congr (I' := am_u I 370 0 (nI 0)) (J' := J) (h4 i hi) (fun a _ _ => am_u_ne _ _ (by omega)) (fun _ _ _ => rfl)
        refine mc_congr (I := am_u (am_u I 370 0 (nI 0)) 371 T.mk (nI j)) (J := am_u J 377 T.mk v) ?_ (fun a _ _ => am_u_ne _ _ (by omega)) (fun _ _ _ => rfl)
        by_cases e : i = T.mk
        · subst e
          rw [su_self]
          rw [h4' T.mk (Nat.le_refl _)] at hci
          generalize am_u I 370 0 (nI 0) = I0 at *
          obtain ⟨q1, q2, q3, q4, q5, q6, q7, q8, q9, q10, q11, q12, q13, q14, q15, q16, q17, q18, q19⟩ := hci
          have e1 : ∀ a, a ≠ 371 → am_u I0 371 T.mk (nI j) a = I0 a := fun a q => am_u_ne _ _ q
          unfold mc_at wl_at at *
          rw [e1 372 (by omega), e1 373 (by omega), e1 374 (by omega), e1 375 (by omega), e1 376 (by omega), e1 379 (by omega), e1 380 (by omega), e1 381 (by omega), e1 383 (by omega), e1 384 (by omega), e1 385 (by omega), e1 386 (by omega), eJ 378 (by omega), eJ 382 (by omega), eJ 387 (by omega)]
          refine ⟨by rw [am_u_self, if_pos rfl]; rfl, q2, fun q => ?_, q4, q5, q6, by rw [am_u_self, if_pos rfl]; rfl, q8, ?_, fun _ i hi => absurd hi (by show ¬ i < 0; omega), fun _ => q11 (by decide), q12, q13, ?_, fun _ i hi => absurd hi (by show ¬ i < 0; omega), fun _ => ⟨by show 0 ≤ 3; omega, fun i hi => absurd hi (by show ¬ i < 0; omega)⟩, ⟨by show 0 ≤ 60; omega, fun _ => by show 0 ≤ 1; omega, fun _ => by show 0 ≤ 3; omega⟩, fun x hx => absurd hx (by show ¬ x ∈ ([] : List Nat); simp), c2, q19.2.1, q19.2.2.1, q19.2.2.2.1, q19.2.2.2.2.1, q19.2.2.2.2.2.1, q19.2.2.2.2.2.2.1, q19.2.2.2.2.2.2.2.1, q19.2.2.2.2.2.2.2.2.1, q19.2.2.2.2.2.2.2.2.2.1, fun i _ => rfl⟩
          · exact absurd q (by show ¬ (0 : Nat) = 1; omega)
          · rw [q9]
            show nI (if (0 : Nat) = 1 then 0 else 0) = nI (if j = 1 then 0 else 0)
            simp only [ite_self]
          · rw [q14]
            show nI (if (0 : Nat) = 2 then 0 else if (0 : Nat) = 3 then 0 else 0) = nI (if j = 2 then 0 else if j = 3 then 0 else 0)
            simp only [ite_self]
        · rw [su_ne _ _ e]
          exact mc_other hci g g' e
      · show su_at T.cs T.mk (sCl.made j v) i = sCl.new
        have hi : T.mk + 1 ≤ i := hi
        rw [su_ne _ _ (by omega)]
        exact h4' i (by omega)
    · intro a ha
      rw [am_u_ne _ _ (by omega), am_u_ne _ _ (by omega), am_u_ne _ _ (by omega)]
  · rw [if_neg c0]
    by_cases c1 : T.mk = 30
    · simp (disch := first | assumption | omega) only [m_is M, m_gI M, m_pI M, mR7 M, mL371 M, mW371 M, mR8 M, mL372 M, mW372 M, mR9 M, mL373 M, mW373 M, mR10 M, mL374 M, mW374 M, mR11 M, mL375 M, mW375 M, mR12 M, mL376 M, mW376_0 M, mW376_1 M, mR13 M, mL377 M, mW377 M, mR14 M, mL378 M, mW378 M, mR15 M, mL379 M, mW379 M, mR16 M, mL380 M, mW380 M, mR17 M, mL381 M, mW381 M, mR18 M, mL382 M, mW382 M, mR19 M, mL383 M, mW383_0 M, mW383_1 M, mR20 M, mL384 M, mW384_0 M, mW384_1 M, mR21 M, mL385 M, mW385 M, mR22 M, mL386 M, mW386 M, mR23 M, mL387 M, mW387 M, mR26 M, mL388 M, mW388 M, mR27 M, mL389 M, mW389 M, mR28 M, mL390 M, mW390 M, mR29 M, mL391 M, mW391 M, mR30 M, mL392 M, mW392 M, mR31 M, mL393 M, mW393 M, mR32 M, mL394 M, mW394_0 M, mW394_1 M, mR33 M, mL395 M, mW395_0 M, mW395_1 M, mR34 M, mL396 M, mW396 M, mR35 M, mL397 M, mW397 M, mR36 M, mL398 M, mW398 M, mR37 M, mL399 M, mW399 M, mR38 M, mL400 M, mW400 M, mR39 M, mL401 M, mW401 M, mR40 M, mL402 M, mW402 M, mR41 M, mL403 M, mW403 M, mR42 M, mL404 M, mW404 M, mR43 M, mL405 M, mW405 M, mR44 M, mL406 M, mW406 M, mR45 M, mL407 M, mW407 M, mR46 M, mL408 M, mW408 M, mR47 M, mL409 M, mW409 M, mR48 M, mL410 M, mW410 M, Option.bind_some, pm_u, pm_ur, pm_lt, pm_le, pm_eq, pm_ne, pm_add, pm_sub, pm_mul, pm_z0, pm_z1, cond_true, cond_false, decide_true, decide_false, not_false_eq_true, not_true_eq_false, reduceIte, Nat.reduceEqDiff, Nat.add_eq_left, Nat.left_eq_add, Nat.add_left_cancel_iff, Nat.one_ne_zero, Nat.reduceMul, Nat.reduceAdd, Nat.reduceSub, Nat.reduceEqDiff, Nat.reduceLT, Nat.reduceLeDiff, Nat.not_lt_zero, Nat.zero_le, am_cs, h6, c1]
      exact ⟨_, J, rfl, h0, f0, mf_at.refl _⟩
    · rcases wu_in0 (wu_0 (fun q => c0 ⟨by omega, q⟩)) with c2 | c2
      · simp (disch := first | assumption | omega) only [m_is M, m_gI M, m_pI M, mR7 M, mL371 M, mW371 M, mR8 M, mL372 M, mW372 M, mR9 M, mL373 M, mW373 M, mR10 M, mL374 M, mW374 M, mR11 M, mL375 M, mW375 M, mR12 M, mL376 M, mW376_0 M, mW376_1 M, mR13 M, mL377 M, mW377 M, mR14 M, mL378 M, mW378 M, mR15 M, mL379 M, mW379 M, mR16 M, mL380 M, mW380 M, mR17 M, mL381 M, mW381 M, mR18 M, mL382 M, mW382 M, mR19 M, mL383 M, mW383_0 M, mW383_1 M, mR20 M, mL384 M, mW384_0 M, mW384_1 M, mR21 M, mL385 M, mW385 M, mR22 M, mL386 M, mW386 M, mR23 M, mL387 M, mW387 M, mR26 M, mL388 M, mW388 M, mR27 M, mL389 M, mW389 M, mR28 M, mL390 M, mW390 M, mR29 M, mL391 M, mW391 M, mR30 M, mL392 M, mW392 M, mR31 M, mL393 M, mW393 M, mR32 M, mL394 M, mW394_0 M, mW394_1 M, mR33 M, mL395 M, mW395_0 M, mW395_1 M, mR34 M, mL396 M, mW396 M, mR35 M, mL397 M, mW397 M, mR36 M, mL398 M, mW398 M, mR37 M, mL399 M, mW399 M, mR38 M, mL400 M, mW400 M, mR39 M, mL401 M, mW401 M, mR40 M, mL402 M, mW402 M, mR41 M, mL403 M, mW403 M, mR42 M, mL404 M, mW404 M, mR43 M, mL405 M, mW405 M, mR44 M, mL406 M, mW406 M, mR45 M, mL407 M, mW407 M, mR46 M, mL408 M, mW408 M, mR47 M, mL409 M, mW409 M, mR48 M, mL410 M, mW410 M, Option.bind_some, pm_u, pm_ur, pm_lt, pm_le, pm_eq, pm_ne, pm_add, pm_sub, pm_mul, pm_z0, pm_z1, cond_true, cond_false, decide_true, decide_false, not_false_eq_true, not_true_eq_false, reduceIte, Nat.reduceEqDiff, Nat.add_eq_left, Nat.left_eq_add, Nat.add_left_cancel_iff, Nat.one_ne_zero, Nat.reduceMul, Nat.reduceAdd, Nat.reduceSub, Nat.reduceEqDiff, Nat.reduceLT, Nat.reduceLeDiff, Nat.not_lt_zero, Nat.zero_le, am_cs, h6, c1, c2]
        exact ⟨_, J, rfl, h0, f0, mf_at.refl _⟩
      · have c3 := px_gt (n := 4) (by omega) c2
        by_cases c4 : x < nI 0
        · simp (disch := first | assumption | omega) only [m_is M, m_gI M, m_pI M, mR7 M, mL371 M, mW371 M, mR8 M, mL372 M, mW372 M, mR9 M, mL373 M, mW373 M, mR10 M, mL374 M, mW374 M, mR11 M, mL375 M, mW375 M, mR12 M, mL376 M, mW376_0 M, mW376_1 M, mR13 M, mL377 M, mW377 M, mR14 M, mL378 M, mW378 M, mR15 M, mL379 M, mW379 M, mR16 M, mL380 M, mW380 M, mR17 M, mL381 M, mW381 M, mR18 M, mL382 M, mW382 M, mR19 M, mL383 M, mW383_0 M, mW383_1 M, mR20 M, mL384 M, mW384_0 M, mW384_1 M, mR21 M, mL385 M, mW385 M, mR22 M, mL386 M, mW386 M, mR23 M, mL387 M, mW387 M, mR26 M, mL388 M, mW388 M, mR27 M, mL389 M, mW389 M, mR28 M, mL390 M, mW390 M, mR29 M, mL391 M, mW391 M, mR30 M, mL392 M, mW392 M, mR31 M, mL393 M, mW393 M, mR32 M, mL394 M, mW394_0 M, mW394_1 M, mR33 M, mL395 M, mW395_0 M, mW395_1 M, mR34 M, mL396 M, mW396 M, mR35 M, mL397 M, mW397 M, mR36 M, mL398 M, mW398 M, mR37 M, mL399 M, mW399 M, mR38 M, mL400 M, mW400 M, mR39 M, mL401 M, mW401 M, mR40 M, mL402 M, mW402 M, mR41 M, mL403 M, mW403 M, mR42 M, mL404 M, mW404 M, mR43 M, mL405 M, mW405 M, mR44 M, mL406 M, mW406 M, mR45 M, mL407 M, mW407 M, mR46 M, mL408 M, mW408 M, mR47 M, mL409 M, mW409 M, mR48 M, mL410 M, mW410 M, Option.bind_some, pm_u, pm_ur, pm_lt, pm_le, pm_eq, pm_ne, pm_add, pm_sub, pm_mul, pm_z0, pm_z1, cond_true, cond_false, decide_true, decide_false, not_false_eq_true, not_true_eq_false, reduceIte, Nat.reduceEqDiff, Nat.add_eq_left, Nat.left_eq_add, Nat.add_left_cancel_iff, Nat.one_ne_zero, Nat.reduceMul, Nat.reduceAdd, Nat.reduceSub, Nat.reduceEqDiff, Nat.reduceLT, Nat.reduceLeDiff, Nat.not_lt_zero, Nat.zero_le, am_cs, h6, c1, c4]
          exact ⟨_, J, rfl, h0, f0, mf_at.refl _⟩
        · simp (disch := first | assumption | omega) only [m_is M, m_gI M, m_pI M, mR7 M, mL371 M, mW371 M, mR8 M, mL372 M, mW372 M, mR9 M, mL373 M, mW373 M, mR10 M, mL374 M, mW374 M, mR11 M, mL375 M, mW375 M, mR12 M, mL376 M, mW376_0 M, mW376_1 M, mR13 M, mL377 M, mW377 M, mR14 M, mL378 M, mW378 M, mR15 M, mL379 M, mW379 M, mR16 M, mL380 M, mW380 M, mR17 M, mL381 M, mW381 M, mR18 M, mL382 M, mW382 M, mR19 M, mL383 M, mW383_0 M, mW383_1 M, mR20 M, mL384 M, mW384_0 M, mW384_1 M, mR21 M, mL385 M, mW385 M, mR22 M, mL386 M, mW386 M, mR23 M, mL387 M, mW387 M, mR26 M, mL388 M, mW388 M, mR27 M, mL389 M, mW389 M, mR28 M, mL390 M, mW390 M, mR29 M, mL391 M, mW391 M, mR30 M, mL392 M, mW392 M, mR31 M, mL393 M, mW393 M, mR32 M, mL394 M, mW394_0 M, mW394_1 M, mR33 M, mL395 M, mW395_0 M, mW395_1 M, mR34 M, mL396 M, mW396 M, mR35 M, mL397 M, mW397 M, mR36 M, mL398 M, mW398 M, mR37 M, mL399 M, mW399 M, mR38 M, mL400 M, mW400 M, mR39 M, mL401 M, mW401 M, mR40 M, mL402 M, mW402 M, mR41 M, mL403 M, mW403 M, mR42 M, mL404 M, mW404 M, mR43 M, mL405 M, mW405 M, mR44 M, mL406 M, mW406 M, mR45 M, mL407 M, mW407 M, mR46 M, mL408 M, mW408 M, mR47 M, mL409 M, mW409 M, mR48 M, mL410 M, mW410 M, Option.bind_some, pm_u, pm_ur, pm_lt, pm_le, pm_eq, pm_ne, pm_add, pm_sub, pm_mul, pm_z0, pm_z1, cond_true, cond_false, decide_true, decide_false, not_false_eq_true, not_true_eq_false, reduceIte, Nat.reduceEqDiff, Nat.add_eq_left, Nat.left_eq_add, Nat.add_left_cancel_iff, Nat.one_ne_zero, Nat.reduceMul, Nat.reduceAdd, Nat.reduceSub, Nat.reduceEqDiff, Nat.reduceLT, Nat.reduceLeDiff, Nat.not_lt_zero, Nat.zero_le, am_cs, h6, c1, c4, c3]
          exact ⟨_, J, rfl, h0, f0, mf_at.refl _⟩
theorem mc_row1 (h : mc_at I J ck c C) (hk : C.kd = 1) {row : List Nat} (e : ∀ a, a ≠ 379 → a ≠ 380 → 371 ≤ a → a ≤ 387 → I' a = I a) (n1 : I' 379 c = nI row.length) (n2 : wl_at I' 380 (60 * c) row) (n3 : row.length ≤ 60) (n4 : ∀ x ∈ row, x < 256) : mc_at I' J ck c (C.setRow row) := by
  obtain ⟨h1, h2, h3, h4, h5, h6, h7, h8, h9, h10, h11, h12, h13, h14, h15, h16, h17, h18, b1⟩ := h
  unfold mc_at wl_at at *
  rw [e 371 (by omega) (by omega) (by omega) (by omega), e 372 (by omega) (by omega) (by omega) (by omega), e 373 (by omega) (by omega) (by omega) (by omega), e 374 (by omega) (by omega) (by omega) (by omega), e 375 (by omega) (by omega) (by omega) (by omega), e 376 (by omega) (by omega) (by omega) (by omega), e 381 (by omega) (by omega) (by omega) (by omega), e 383 (by omega) (by omega) (by omega) (by omega), e 384 (by omega) (by omega) (by omega) (by omega), e 385 (by omega) (by omega) (by omega) (by omega), e 386 (by omega) (by omega) (by omega) (by omega)]
  refine ⟨h1, h2, h3, h4, h5, h6, h7, h8, ?_, fun _ => n2, h11, h12, h13, ?_, fun q => absurd q (by show ¬ C.kd = 2; omega), h16, ⟨n3, h17.2⟩, n4, b1⟩
  · rw [if_pos (show (C.setRow row).kd = 1 from hk)]
    exact n1
  · rw [if_neg (show ¬ C.kd = 2 by omega)] at h14
    rw [if_neg (show ¬ (C.setRow row).kd = 2 by show ¬ C.kd = 2; omega)]
    exact h14
theorem m_data (M : ml_ok K) (h : mt_at I J p T) (x b : Int32) (d : Nat) : ∃ (I' : pm_I) (J' : pm_J), f_X9_data (d + 1) 370 x b (K, I, J) = some (((st_data x b T).1, 0, none), (K, I', J')) ∧ mt_at I' J' p (st_data x b T).2 ∧ mf_at I I' ∧ mf_at J J' := by
  have h0 := mt_thrown h (nI 0)
  have f0 : mf_at I (am_u I 370 0 (nI 0)) := mf_u (by omega)
  have hmk := mt_mk h
  have hic := m_isCall M h0 x d
  obtain ⟨hb1, hb2⟩ := by8_eq b
  rw [e_X9_data]
  unfold st_data
  by_cases c0 : wu_in x T.mk = 1
  · rw [c0] at hic
    obtain ⟨j, hj, rfl⟩ := wu_in1 (by omega) c0
    rw [nI_clamp (by omega)]
    have hC0 : mc_at (am_u I 370 0 (nI 0)) J T.ck j (T.cs j) := mt_c h0 hj
    obtain ⟨h1, h2, h3, h4, h5, h6, h7, h8, h9, h10, h11, h12, h13, h14, h15, h16, h17, h18, b1, b2, b3⟩ := mt_c h hj
    by_cases c1 : (T.cs j).kd = 1
    · rw [if_pos c1] at h9
      by_cases c2 : (T.cs j).bg = 0
      · by_cases c3 : (T.cs j).row.length < 60
        · rw [if_pos ⟨c0, c1, c2, c3⟩]
          have c4 : ¬ (T.cs j).row.length = 60 := by omega
          simp (disch := first | assumption | omega) only [m_is M, m_gI M, m_pI M, mR7 M, mL371 M, mW371 M, mR8 M, mL372 M, mW372 M, mR9 M, mL373 M, mW373 M, mR10 M, mL374 M, mW374 M, mR11 M, mL375 M, mW375 M, mR12 M, mL376 M, mW376_0 M, mW376_1 M, mR13 M, mL377 M, mW377 M, mR14 M, mL378 M, mW378 M, mR15 M, mL379 M, mW379 M, mR16 M, mL380 M, mW380 M, mR17 M, mL381 M, mW381 M, mR18 M, mL382 M, mW382 M, mR19 M, mL383 M, mW383_0 M, mW383_1 M, mR20 M, mL384 M, mW384_0 M, mW384_1 M, mR21 M, mL385 M, mW385 M, mR22 M, mL386 M, mW386 M, mR23 M, mL387 M, mW387 M, mR26 M, mL388 M, mW388 M, mR27 M, mL389 M, mW389 M, mR28 M, mL390 M, mW390 M, mR29 M, mL391 M, mW391 M, mR30 M, mL392 M, mW392 M, mR31 M, mL393 M, mW393 M, mR32 M, mL394 M, mW394_0 M, mW394_1 M, mR33 M, mL395 M, mW395_0 M, mW395_1 M, mR34 M, mL396 M, mW396 M, mR35 M, mL397 M, mW397 M, mR36 M, mL398 M, mW398 M, mR37 M, mL399 M, mW399 M, mR38 M, mL400 M, mW400 M, mR39 M, mL401 M, mW401 M, mR40 M, mL402 M, mW402 M, mR41 M, mL403 M, mW403 M, mR42 M, mL404 M, mW404 M, mR43 M, mL405 M, mW405 M, mR44 M, mL406 M, mW406 M, mR45 M, mL407 M, mW407 M, mR46 M, mL408 M, mW408 M, mR47 M, mL409 M, mW409 M, mR48 M, mL410 M, mW410 M, Option.bind_some, pm_u, pm_ur, pm_lt, pm_le, pm_eq, pm_ne, pm_add, pm_sub, pm_mul, pm_z0, pm_z1, cond_true, cond_false, decide_true, decide_false, not_false_eq_true, not_true_eq_false, reduceIte, Nat.reduceEqDiff, Nat.add_eq_left, Nat.left_eq_add, Nat.add_left_cancel_iff, Nat.one_ne_zero, Nat.reduceMul, Nat.reduceAdd, Nat.reduceSub, Nat.reduceEqDiff, Nat.reduceLT, Nat.reduceLeDiff, Nat.not_lt_zero, Nat.zero_le, am_cs, hic, h1, c1, h6, c2, h9, c4, hb2]
          have g : mcf (am_u I 370 0 (nI 0)) (am_u (am_u (am_u I 370 0 (nI 0)) 380 (60 * j + (T.cs j).row.length) (nI (by8 b))) 379 j (nI ((T.cs j).row.length + 1))) j := (mcf_u (by omega) (by rw [show wd 380 = 60 from rfl]; omega)).trans (mcf_u (by omega) (by rw [show wd 379 = 1 from rfl]; omega))
          refine ⟨_, J, rfl, mt_call h0 hj g (mcf.refl _ _) (mc_row1 hC0 c1 (fun a q1 q2 _ _ => by rw [am_u_ne _ _ q1, am_u_ne _ _ q2]) ?_ ?_ ?_ ?_), f0.trans (mcf_mf g), mf_at.refl _⟩
          · rw [am_u_self, if_pos rfl, List.length_append]
            rfl
          · have := wl_snoc (b := by8 b) (hC0.2.2.2.2.2.2.2.2.2.1 c1)
            exact wl_congr (b := 0) this (am_u_ne _ _ (by omega))
          · rw [List.length_append]
            show (T.cs j).row.length + 1 ≤ 60
            omega
          · exact wl_snocb h18 hb1
        · rw [if_neg (fun hh => c3 hh.2.2.2)]
          have c4 : (T.cs j).row.length = 60 := by omega
          simp (disch := first | assumption | omega) only [m_is M, m_gI M, m_pI M, mR7 M, mL371 M, mW371 M, mR8 M, mL372 M, mW372 M, mR9 M, mL373 M, mW373 M, mR10 M, mL374 M, mW374 M, mR11 M, mL375 M, mW375 M, mR12 M, mL376 M, mW376_0 M, mW376_1 M, mR13 M, mL377 M, mW377 M, mR14 M, mL378 M, mW378 M, mR15 M, mL379 M, mW379 M, mR16 M, mL380 M, mW380 M, mR17 M, mL381 M, mW381 M, mR18 M, mL382 M, mW382 M, mR19 M, mL383 M, mW383_0 M, mW383_1 M, mR20 M, mL384 M, mW384_0 M, mW384_1 M, mR21 M, mL385 M, mW385 M, mR22 M, mL386 M, mW386 M, mR23 M, mL387 M, mW387 M, mR26 M, mL388 M, mW388 M, mR27 M, mL389 M, mW389 M, mR28 M, mL390 M, mW390 M, mR29 M, mL391 M, mW391 M, mR30 M, mL392 M, mW392 M, mR31 M, mL393 M, mW393 M, mR32 M, mL394 M, mW394_0 M, mW394_1 M, mR33 M, mL395 M, mW395_0 M, mW395_1 M, mR34 M, mL396 M, mW396 M, mR35 M, mL397 M, mW397 M, mR36 M, mL398 M, mW398 M, mR37 M, mL399 M, mW399 M, mR38 M, mL400 M, mW400 M, mR39 M, mL401 M, mW401 M, mR40 M, mL402 M, mW402 M, mR41 M, mL403 M, mW403 M, mR42 M, mL404 M, mW404 M, mR43 M, mL405 M, mW405 M, mR44 M, mL406 M, mW406 M, mR45 M, mL407 M, mW407 M, mR46 M, mL408 M, mW408 M, mR47 M, mL409 M, mW409 M, mR48 M, mL410 M, mW410 M, Option.bind_some, pm_u, pm_ur, pm_lt, pm_le, pm_eq, pm_ne, pm_add, pm_sub, pm_mul, pm_z0, pm_z1, cond_true, cond_false, decide_true, decide_false, not_false_eq_true, not_true_eq_false, reduceIte, Nat.reduceEqDiff, Nat.add_eq_left, Nat.left_eq_add, Nat.add_left_cancel_iff, Nat.one_ne_zero, Nat.reduceMul, Nat.reduceAdd, Nat.reduceSub, Nat.reduceEqDiff, Nat.reduceLT, Nat.reduceLeDiff, Nat.not_lt_zero, Nat.zero_le, am_cs, hic, h1, c1, h6, c2, h9, c4]
          exact ⟨_, J, rfl, h0, f0, mf_at.refl _⟩
      · rw [if_neg (fun hh => c2 hh.2.2.1)]
        simp (disch := first | assumption | omega) only [m_is M, m_gI M, m_pI M, mR7 M, mL371 M, mW371 M, mR8 M, mL372 M, mW372 M, mR9 M, mL373 M, mW373 M, mR10 M, mL374 M, mW374 M, mR11 M, mL375 M, mW375 M, mR12 M, mL376 M, mW376_0 M, mW376_1 M, mR13 M, mL377 M, mW377 M, mR14 M, mL378 M, mW378 M, mR15 M, mL379 M, mW379 M, mR16 M, mL380 M, mW380 M, mR17 M, mL381 M, mW381 M, mR18 M, mL382 M, mW382 M, mR19 M, mL383 M, mW383_0 M, mW383_1 M, mR20 M, mL384 M, mW384_0 M, mW384_1 M, mR21 M, mL385 M, mW385 M, mR22 M, mL386 M, mW386 M, mR23 M, mL387 M, mW387 M, mR26 M, mL388 M, mW388 M, mR27 M, mL389 M, mW389 M, mR28 M, mL390 M, mW390 M, mR29 M, mL391 M, mW391 M, mR30 M, mL392 M, mW392 M, mR31 M, mL393 M, mW393 M, mR32 M, mL394 M, mW394_0 M, mW394_1 M, mR33 M, mL395 M, mW395_0 M, mW395_1 M, mR34 M, mL396 M, mW396 M, mR35 M, mL397 M, mW397 M, mR36 M, mL398 M, mW398 M, mR37 M, mL399 M, mW399 M, mR38 M, mL400 M, mW400 M, mR39 M, mL401 M, mW401 M, mR40 M, mL402 M, mW402 M, mR41 M, mL403 M, mW403 M, mR42 M, mL404 M, mW404 M, mR43 M, mL405 M, mW405 M, mR44 M, mL406 M, mW406 M, mR45 M, mL407 M, mW407 M, mR46 M, mL408 M, mW408 M, mR47 M, mL409 M, mW409 M, mR48 M, mL410 M, mW410 M, Option.bind_some, pm_u, pm_ur, pm_lt, pm_le, pm_eq, pm_ne, pm_add, pm_sub, pm_mul, pm_z0, pm_z1, cond_true, cond_false, decide_true, decide_false, not_false_eq_true, not_true_eq_false, reduceIte, Nat.reduceEqDiff, Nat.add_eq_left, Nat.left_eq_add, Nat.add_left_cancel_iff, Nat.one_ne_zero, Nat.reduceMul, Nat.reduceAdd, Nat.reduceSub, Nat.reduceEqDiff, Nat.reduceLT, Nat.reduceLeDiff, Nat.not_lt_zero, Nat.zero_le, am_cs, hic, h1, c1, h6, c2]
        exact ⟨_, J, rfl, h0, f0, mf_at.refl _⟩
    · rw [if_neg (fun hh => c1 hh.2.1)]
      simp (disch := first | assumption | omega) only [m_is M, m_gI M, m_pI M, mR7 M, mL371 M, mW371 M, mR8 M, mL372 M, mW372 M, mR9 M, mL373 M, mW373 M, mR10 M, mL374 M, mW374 M, mR11 M, mL375 M, mW375 M, mR12 M, mL376 M, mW376_0 M, mW376_1 M, mR13 M, mL377 M, mW377 M, mR14 M, mL378 M, mW378 M, mR15 M, mL379 M, mW379 M, mR16 M, mL380 M, mW380 M, mR17 M, mL381 M, mW381 M, mR18 M, mL382 M, mW382 M, mR19 M, mL383 M, mW383_0 M, mW383_1 M, mR20 M, mL384 M, mW384_0 M, mW384_1 M, mR21 M, mL385 M, mW385 M, mR22 M, mL386 M, mW386 M, mR23 M, mL387 M, mW387 M, mR26 M, mL388 M, mW388 M, mR27 M, mL389 M, mW389 M, mR28 M, mL390 M, mW390 M, mR29 M, mL391 M, mW391 M, mR30 M, mL392 M, mW392 M, mR31 M, mL393 M, mW393 M, mR32 M, mL394 M, mW394_0 M, mW394_1 M, mR33 M, mL395 M, mW395_0 M, mW395_1 M, mR34 M, mL396 M, mW396 M, mR35 M, mL397 M, mW397 M, mR36 M, mL398 M, mW398 M, mR37 M, mL399 M, mW399 M, mR38 M, mL400 M, mW400 M, mR39 M, mL401 M, mW401 M, mR40 M, mL402 M, mW402 M, mR41 M, mL403 M, mW403 M, mR42 M, mL404 M, mW404 M, mR43 M, mL405 M, mW405 M, mR44 M, mL406 M, mW406 M, mR45 M, mL407 M, mW407 M, mR46 M, mL408 M, mW408 M, mR47 M, mL409 M, mW409 M, mR48 M, mL410 M, mW410 M, Option.bind_some, pm_u, pm_ur, pm_lt, pm_le, pm_eq, pm_ne, pm_add, pm_sub, pm_mul, pm_z0, pm_z1, cond_true, cond_false, decide_true, decide_false, not_false_eq_true, not_true_eq_false, reduceIte, Nat.reduceEqDiff, Nat.add_eq_left, Nat.left_eq_add, Nat.add_left_cancel_iff, Nat.one_ne_zero, Nat.reduceMul, Nat.reduceAdd, Nat.reduceSub, Nat.reduceEqDiff, Nat.reduceLT, Nat.reduceLeDiff, Nat.not_lt_zero, Nat.zero_le, am_cs, hic, h1, c1]
      exact ⟨_, J, rfl, h0, f0, mf_at.refl _⟩
  · rw [if_neg (fun hh => c0 hh.1)]
    rw [wu_0 c0] at hic
    simp (disch := first | assumption | omega) only [m_is M, m_gI M, m_pI M, mR7 M, mL371 M, mW371 M, mR8 M, mL372 M, mW372 M, mR9 M, mL373 M, mW373 M, mR10 M, mL374 M, mW374 M, mR11 M, mL375 M, mW375 M, mR12 M, mL376 M, mW376_0 M, mW376_1 M, mR13 M, mL377 M, mW377 M, mR14 M, mL378 M, mW378 M, mR15 M, mL379 M, mW379 M, mR16 M, mL380 M, mW380 M, mR17 M, mL381 M, mW381 M, mR18 M, mL382 M, mW382 M, mR19 M, mL383 M, mW383_0 M, mW383_1 M, mR20 M, mL384 M, mW384_0 M, mW384_1 M, mR21 M, mL385 M, mW385 M, mR22 M, mL386 M, mW386 M, mR23 M, mL387 M, mW387 M, mR26 M, mL388 M, mW388 M, mR27 M, mL389 M, mW389 M, mR28 M, mL390 M, mW390 M, mR29 M, mL391 M, mW391 M, mR30 M, mL392 M, mW392 M, mR31 M, mL393 M, mW393 M, mR32 M, mL394 M, mW394_0 M, mW394_1 M, mR33 M, mL395 M, mW395_0 M, mW395_1 M, mR34 M, mL396 M, mW396 M, mR35 M, mL397 M, mW397 M, mR36 M, mL398 M, mW398 M, mR37 M, mL399 M, mW399 M, mR38 M, mL400 M, mW400 M, mR39 M, mL401 M, mW401 M, mR40 M, mL402 M, mW402 M, mR41 M, mL403 M, mW403 M, mR42 M, mL404 M, mW404 M, mR43 M, mL405 M, mW405 M, mR44 M, mL406 M, mW406 M, mR45 M, mL407 M, mW407 M, mR46 M, mL408 M, mW408 M, mR47 M, mL409 M, mW409 M, mR48 M, mL410 M, mW410 M, Option.bind_some, pm_u, pm_ur, pm_lt, pm_le, pm_eq, pm_ne, pm_add, pm_sub, pm_mul, pm_z0, pm_z1, cond_true, cond_false, decide_true, decide_false, not_false_eq_true, not_true_eq_false, reduceIte, Nat.reduceEqDiff, Nat.add_eq_left, Nat.left_eq_add, Nat.add_left_cancel_iff, Nat.one_ne_zero, Nat.reduceMul, Nat.reduceAdd, Nat.reduceSub, Nat.reduceEqDiff, Nat.reduceLT, Nat.reduceLeDiff, Nat.not_lt_zero, Nat.zero_le, am_cs, hic]
    exact ⟨_, J, rfl, h0, f0, mf_at.refl _⟩
theorem m_name112 (M : ml_ok K) (h : mt_at I J p T) {j k : Nat} (hj : j < T.mk) (hk : k < T.mk) (hkk : (T.cs k).kd = 1) (hjk : (T.cs j).kd ≠ 1 ∧ (T.cs j).kd ≠ 3) {mx : Nat} (hmx : (T.cs j).most = mx) (v : Int64) (d : Nat) :
    ∃ (I' : pm_I) (J' : pm_J), l_X9_name_112 (d + 2) 370 (nI j) (nI k) v (nI mx) (nI (T.cs j).dg.length) (K, I, J) = some (((if (T.cs j).dg.length < (T.cs j).most then (nI ((T.cs j).dg.length + 1), T.setC T.w0 (su_at T.cs j ((T.cs j).setDg ((T.cs j).dg ++ [sd_dig (T.cs k).row ^^^ v])))) else (-nI 1, T)).1, 0, none), (K, I', J')) ∧ mt_at I' J' p (if (T.cs j).dg.length < (T.cs j).most then (nI ((T.cs j).dg.length + 1), T.setC T.w0 (su_at T.cs j ((T.cs j).setDg ((T.cs j).dg ++ [sd_dig (T.cs k).row ^^^ v])))) else (-nI 1, T)).2 ∧ mf_at I I' ∧ mf_at J J' := by
  have hmk := mt_mk h
  have hC := mt_c h hj
  have hd := m_digestTold M (mt_c h hk) hkk (show k < 30 by omega) d
  obtain ⟨h1, h2, h3, h4, h5, h6, h7, h8, h9, h10, h11, h12, h13, h14, h15, h16, h17, h18, b1, b2, b3, b4, b5, b6, b7, b8, b9, b10, b11⟩ := hC
  obtain ⟨h11a, h11b⟩ := h11 hjk.2
  have hle : (T.cs j).dg.length ≤ (T.cs j).most := by
    unfold sCl.most
    split
    · omega
    · split
      · next q => exact h17.2.1 q
      · split
        · next q => exact h17.2.2 q
        · omega
  have hm4 := so_most_le (T.cs j)
  rw [e_l_X9_name_112]
  by_cases c0 : (T.cs j).dg.length < (T.cs j).most
  · rw [if_pos c0]
    have c1 : ¬ (T.cs j).dg.length = mx := by omega
    simp (disch := first | assumption | omega) only [m_is M, m_gI M, m_pI M, mR7 M, mL371 M, mW371 M, mR8 M, mL372 M, mW372 M, mR9 M, mL373 M, mW373 M, mR10 M, mL374 M, mW374 M, mR11 M, mL375 M, mW375 M, mR12 M, mL376 M, mW376_0 M, mW376_1 M, mR13 M, mL377 M, mW377 M, mR14 M, mL378 M, mW378 M, mR15 M, mL379 M, mW379 M, mR16 M, mL380 M, mW380 M, mR17 M, mL381 M, mW381 M, mR18 M, mL382 M, mW382 M, mR19 M, mL383 M, mW383_0 M, mW383_1 M, mR20 M, mL384 M, mW384_0 M, mW384_1 M, mR21 M, mL385 M, mW385 M, mR22 M, mL386 M, mW386 M, mR23 M, mL387 M, mW387 M, mR26 M, mL388 M, mW388 M, mR27 M, mL389 M, mW389 M, mR28 M, mL390 M, mW390 M, mR29 M, mL391 M, mW391 M, mR30 M, mL392 M, mW392 M, mR31 M, mL393 M, mW393 M, mR32 M, mL394 M, mW394_0 M, mW394_1 M, mR33 M, mL395 M, mW395_0 M, mW395_1 M, mR34 M, mL396 M, mW396 M, mR35 M, mL397 M, mW397 M, mR36 M, mL398 M, mW398 M, mR37 M, mL399 M, mW399 M, mR38 M, mL400 M, mW400 M, mR39 M, mL401 M, mW401 M, mR40 M, mL402 M, mW402 M, mR41 M, mL403 M, mW403 M, mR42 M, mL404 M, mW404 M, mR43 M, mL405 M, mW405 M, mR44 M, mL406 M, mW406 M, mR45 M, mL407 M, mW407 M, mR46 M, mL408 M, mW408 M, mR47 M, mL409 M, mW409 M, mR48 M, mL410 M, mW410 M, Option.bind_some, pm_u, pm_ur, pm_lt, pm_le, pm_eq, pm_ne, pm_add, pm_sub, pm_mul, pm_z0, pm_z1, cond_true, cond_false, decide_true, decide_false, not_false_eq_true, not_true_eq_false, reduceIte, Nat.reduceEqDiff, Nat.add_eq_left, Nat.left_eq_add, Nat.add_left_cancel_iff, Nat.one_ne_zero, Nat.reduceMul, Nat.reduceAdd, Nat.reduceSub, Nat.reduceEqDiff, Nat.reduceLT, Nat.reduceLeDiff, Nat.not_lt_zero, Nat.zero_le, am_cs, c1, h11a, hd]
    have g : mcf I (am_u I 381 j (nI ((T.cs j).dg.length + 1))) j := mcf_u (by omega) (by rw [show wd 381 = 1 from rfl]; omega)
    have g' : mcf J (am_u J 382 (4 * j + (T.cs j).dg.length) (sd_dig (T.cs k).row ^^^ v)) j := mcf_u (by omega) (by rw [show wd 382 = 4 from rfl]; omega)
    have e : ∀ a, a ≠ 381 → am_u I 381 j (nI ((T.cs j).dg.length + 1)) a = I a := fun a q => am_u_ne _ _ q
    have e' : ∀ a, a ≠ 382 → am_u J 382 (4 * j + (T.cs j).dg.length) (sd_dig (T.cs k).row ^^^ v) a = J a := fun a q => am_u_ne _ _ q
    refine ⟨_, _, rfl, mt_call h hj g g' ?_, mcf_mf g, mcf_mf g'⟩
    have hl2 : ((T.cs j).dg ++ [sd_dig (T.cs k).row ^^^ v]).length = (T.cs j).dg.length + 1 := by rw [List.length_append]; rfl
    have hmost2 : (T.cs j).kd = 2 → (T.cs j).most = 1 := fun q => by
      unfold sCl.most
      rw [if_neg (by omega), if_pos q]
    have hmost4 : (T.cs j).kd = 4 → (T.cs j).most = 3 := fun q => by
      unfold sCl.most
      rw [if_neg (by omega), if_neg (by omega), if_pos q]
    unfold mc_at wl_at at *
    rw [e 371 (by omega), e 372 (by omega), e 373 (by omega), e 374 (by omega), e 375 (by omega), e 376 (by omega), e 379 (by omega), e 380 (by omega), e 383 (by omega), e 384 (by omega), e 385 (by omega), e 386 (by omega), e' 377 (by omega), e' 378 (by omega), e' 387 (by omega)]
    refine ⟨h1, h2, h3, h4, h5, h6, h7, h8, h9, h10, fun _ => ⟨?_, fun i hi => ?_⟩, h12, h13, ?_, h15, fun q => absurd q hjk.2, ⟨h17.1, fun q => ?_, fun q => ?_⟩, h18, b1, b2, b3, b4, b5, b6, b7, ?_, b9, fun i hi => b10 i ?_, b11⟩
    · rw [am_u_self, if_pos rfl]
      show _ = nI ((T.cs j).dg ++ [sd_dig (T.cs k).row ^^^ v]).length
      rw [hl2]
    · have hi : i < ((T.cs j).dg ++ [sd_dig (T.cs k).row ^^^ v]).length := hi
      rw [hl2] at hi
      show _ = ((T.cs j).dg ++ [sd_dig (T.cs k).row ^^^ v]).getD i 0
      rw [am_u_self]
      by_cases q : i = (T.cs j).dg.length
      · rw [if_pos (by omega), q]
        simp
      · rw [if_neg (by omega), h11b i (by omega)]
        simp [List.getElem?_append_left (show i < (T.cs j).dg.length by omega)]
    · rw [if_neg (show ¬ (T.cs j).kd = 3 from hjk.2)] at h14
      rw [if_neg (show ¬ ((T.cs j).setDg ((T.cs j).dg ++ [sd_dig (T.cs k).row ^^^ v])).kd = 3 from hjk.2)]
      exact h14
    · have q : (T.cs j).kd = 2 := q
      show ((T.cs j).dg ++ [sd_dig (T.cs k).row ^^^ v]).length ≤ 1
      have := hmost2 q
      omega
    · have q : (T.cs j).kd = 4 := q
      show ((T.cs j).dg ++ [sd_dig (T.cs k).row ^^^ v]).length ≤ 3
      have := hmost4 q
      omega
    · show ((T.cs j).dg ++ [sd_dig (T.cs k).row ^^^ v]).length ≤ 4
      omega
    · have hi : ((T.cs j).dg ++ [sd_dig (T.cs k).row ^^^ v]).length ≤ i := hi
      omega
  · rw [if_neg c0]
    have c1 : (T.cs j).dg.length = mx := by omega
    simp (disch := first | assumption | omega) only [m_is M, m_gI M, m_pI M, mR7 M, mL371 M, mW371 M, mR8 M, mL372 M, mW372 M, mR9 M, mL373 M, mW373 M, mR10 M, mL374 M, mW374 M, mR11 M, mL375 M, mW375 M, mR12 M, mL376 M, mW376_0 M, mW376_1 M, mR13 M, mL377 M, mW377 M, mR14 M, mL378 M, mW378 M, mR15 M, mL379 M, mW379 M, mR16 M, mL380 M, mW380 M, mR17 M, mL381 M, mW381 M, mR18 M, mL382 M, mW382 M, mR19 M, mL383 M, mW383_0 M, mW383_1 M, mR20 M, mL384 M, mW384_0 M, mW384_1 M, mR21 M, mL385 M, mW385 M, mR22 M, mL386 M, mW386 M, mR23 M, mL387 M, mW387 M, mR26 M, mL388 M, mW388 M, mR27 M, mL389 M, mW389 M, mR28 M, mL390 M, mW390 M, mR29 M, mL391 M, mW391 M, mR30 M, mL392 M, mW392 M, mR31 M, mL393 M, mW393 M, mR32 M, mL394 M, mW394_0 M, mW394_1 M, mR33 M, mL395 M, mW395_0 M, mW395_1 M, mR34 M, mL396 M, mW396 M, mR35 M, mL397 M, mW397 M, mR36 M, mL398 M, mW398 M, mR37 M, mL399 M, mW399 M, mR38 M, mL400 M, mW400 M, mR39 M, mL401 M, mW401 M, mR40 M, mL402 M, mW402 M, mR41 M, mL403 M, mW403 M, mR42 M, mL404 M, mW404 M, mR43 M, mL405 M, mW405 M, mR44 M, mL406 M, mW406 M, mR45 M, mL407 M, mW407 M, mR46 M, mL408 M, mW408 M, mR47 M, mL409 M, mW409 M, mR48 M, mL410 M, mW410 M, Option.bind_some, pm_u, pm_ur, pm_lt, pm_le, pm_eq, pm_ne, pm_add, pm_sub, pm_mul, pm_z0, pm_z1, cond_true, cond_false, decide_true, decide_false, not_false_eq_true, not_true_eq_false, reduceIte, Nat.reduceEqDiff, Nat.add_eq_left, Nat.left_eq_add, Nat.add_left_cancel_iff, Nat.one_ne_zero, Nat.reduceMul, Nat.reduceAdd, Nat.reduceSub, Nat.reduceEqDiff, Nat.reduceLT, Nat.reduceLeDiff, Nat.not_lt_zero, Nat.zero_le, am_cs, c1]
    exact ⟨I, J, rfl, h, mf_at.refl _, mf_at.refl _⟩
theorem m_name (M : ml_ok K) (h : mt_at I J p T) (x y : Int32) (v : Int64) (d : Nat) : ∃ (I' : pm_I) (J' : pm_J), f_X9_name (d + 2) 370 x y v (K, I, J) = some (((st_name x y v T).1, 0, none), (K, I', J')) ∧ mt_at I' J' p (st_name x y v T).2 ∧ mf_at I I' ∧ mf_at J J' := by
  have h0 := mt_thrown h (nI 0)
  have f0 : mf_at I (am_u I 370 0 (nI 0)) := mf_u (by omega)
  have hmk := mt_mk h
  have hic := m_isCall M h0 x (d + 1)
  have hic2 := m_isCall M h0 y (d + 1)
  rw [e_X9_name]
  unfold st_name
  by_cases c0 : wu_in x T.mk = 1
  · rw [c0] at hic
    by_cases c00 : wu_in y T.mk = 1
    · rw [c00] at hic2
      obtain ⟨j, hj, rfl⟩ := wu_in1 (by omega) c0
      obtain ⟨k, hk, rfl⟩ := wu_in1 (by omega) c00
      have hxj : cx T (nI j) = T.cs j := by
        unfold cx
        rw [nI_clamp (by omega)]
      have hxk : cx T (nI k) = T.cs k := by
        unfold cx
        rw [nI_clamp (by omega)]
      rw [hxj, hxk, nI_clamp (by omega)]
      obtain ⟨h1, h2, h3, h4, h5, h6, h7, h8, h9, h10, h11, h12, h13, h14, h15, h16, h17, h18, b1, b2, b3⟩ := mt_c h hj
      have hk1 := (mt_c h hk).1
      have bk := (mt_c h hk).2.2.2.2.2.2.2.2.2.2.2.2.2.2.2.2.2.2.1
      by_cases c3 : (T.cs j).kd = 3
      · have hres : (if wu_in (nI j) T.mk = 1 ∧ wu_in (nI k) T.mk = 1 ∧ (T.cs k).kd = 1 ∧ (T.cs j).bg = 0 then (if (T.cs j).kd = 1 then (if nI j = nI k then (nI 1, T.setC T.w0 (su_at T.cs j ((T.cs j).setXr v))) else (-nI 1, T)) else if (T.cs j).dg.length < (T.cs j).most then (nI ((T.cs j).dg.length + 1), T.setC T.w0 (su_at T.cs j ((T.cs j).setDg ((T.cs j).dg ++ [sd_dig (T.cs k).row ^^^ v])))) else (-nI 1, T)) else (-nI 1, T)) = (-nI 1, T) := by
          have hm : (T.cs j).most = 0 := by
            unfold sCl.most
            rw [if_neg (by omega), if_neg (by omega), if_neg (by omega)]
          rw [if_neg (show ¬ (T.cs j).kd = 1 by omega), if_neg (show ¬ (T.cs j).dg.length < (T.cs j).most by omega)]
          split <;> rfl
        rw [hres]
        simp (disch := first | assumption | omega) only [m_is M, m_gI M, m_pI M, mR7 M, mL371 M, mW371 M, mR8 M, mL372 M, mW372 M, mR9 M, mL373 M, mW373 M, mR10 M, mL374 M, mW374 M, mR11 M, mL375 M, mW375 M, mR12 M, mL376 M, mW376_0 M, mW376_1 M, mR13 M, mL377 M, mW377 M, mR14 M, mL378 M, mW378 M, mR15 M, mL379 M, mW379 M, mR16 M, mL380 M, mW380 M, mR17 M, mL381 M, mW381 M, mR18 M, mL382 M, mW382 M, mR19 M, mL383 M, mW383_0 M, mW383_1 M, mR20 M, mL384 M, mW384_0 M, mW384_1 M, mR21 M, mL385 M, mW385 M, mR22 M, mL386 M, mW386 M, mR23 M, mL387 M, mW387 M, mR26 M, mL388 M, mW388 M, mR27 M, mL389 M, mW389 M, mR28 M, mL390 M, mW390 M, mR29 M, mL391 M, mW391 M, mR30 M, mL392 M, mW392 M, mR31 M, mL393 M, mW393 M, mR32 M, mL394 M, mW394_0 M, mW394_1 M, mR33 M, mL395 M, mW395_0 M, mW395_1 M, mR34 M, mL396 M, mW396 M, mR35 M, mL397 M, mW397 M, mR36 M, mL398 M, mW398 M, mR37 M, mL399 M, mW399 M, mR38 M, mL400 M, mW400 M, mR39 M, mL401 M, mW401 M, mR40 M, mL402 M, mW402 M, mR41 M, mL403 M, mW403 M, mR42 M, mL404 M, mW404 M, mR43 M, mL405 M, mW405 M, mR44 M, mL406 M, mW406 M, mR45 M, mL407 M, mW407 M, mR46 M, mL408 M, mW408 M, mR47 M, mL409 M, mW409 M, mR48 M, mL410 M, mW410 M, Option.bind_some, pm_u, pm_ur, pm_lt, pm_le, pm_eq, pm_ne, pm_add, pm_sub, pm_mul, pm_z0, pm_z1, cond_true, cond_false, decide_true, decide_false, not_false_eq_true, not_true_eq_false, reduceIte, Nat.reduceEqDiff, Nat.add_eq_left, Nat.left_eq_add, Nat.add_left_cancel_iff, Nat.one_ne_zero, Nat.reduceMul, Nat.reduceAdd, Nat.reduceSub, Nat.reduceEqDiff, Nat.reduceLT, Nat.reduceLeDiff, Nat.not_lt_zero, Nat.zero_le, am_cs, hic, hic2, h1, c3]
        exact ⟨_, J, rfl, h0, f0, mf_at.refl _⟩
      by_cases c2 : (T.cs j).bg = 0
      · by_cases c1 : (T.cs k).kd = 1
        · rw [if_pos ⟨c0, c00, c1, c2⟩]
          by_cases c4 : (T.cs j).kd = 1
          · rw [if_pos c4]
            by_cases c5 : j = k
            · subst c5
              rw [if_pos rfl]
              simp (disch := first | assumption | omega) only [m_is M, m_gI M, m_pI M, mR7 M, mL371 M, mW371 M, mR8 M, mL372 M, mW372 M, mR9 M, mL373 M, mW373 M, mR10 M, mL374 M, mW374 M, mR11 M, mL375 M, mW375 M, mR12 M, mL376 M, mW376_0 M, mW376_1 M, mR13 M, mL377 M, mW377 M, mR14 M, mL378 M, mW378 M, mR15 M, mL379 M, mW379 M, mR16 M, mL380 M, mW380 M, mR17 M, mL381 M, mW381 M, mR18 M, mL382 M, mW382 M, mR19 M, mL383 M, mW383_0 M, mW383_1 M, mR20 M, mL384 M, mW384_0 M, mW384_1 M, mR21 M, mL385 M, mW385 M, mR22 M, mL386 M, mW386 M, mR23 M, mL387 M, mW387 M, mR26 M, mL388 M, mW388 M, mR27 M, mL389 M, mW389 M, mR28 M, mL390 M, mW390 M, mR29 M, mL391 M, mW391 M, mR30 M, mL392 M, mW392 M, mR31 M, mL393 M, mW393 M, mR32 M, mL394 M, mW394_0 M, mW394_1 M, mR33 M, mL395 M, mW395_0 M, mW395_1 M, mR34 M, mL396 M, mW396 M, mR35 M, mL397 M, mW397 M, mR36 M, mL398 M, mW398 M, mR37 M, mL399 M, mW399 M, mR38 M, mL400 M, mW400 M, mR39 M, mL401 M, mW401 M, mR40 M, mL402 M, mW402 M, mR41 M, mL403 M, mW403 M, mR42 M, mL404 M, mW404 M, mR43 M, mL405 M, mW405 M, mR44 M, mL406 M, mW406 M, mR45 M, mL407 M, mW407 M, mR46 M, mL408 M, mW408 M, mR47 M, mL409 M, mW409 M, mR48 M, mL410 M, mW410 M, Option.bind_some, pm_u, pm_ur, pm_lt, pm_le, pm_eq, pm_ne, pm_add, pm_sub, pm_mul, pm_z0, pm_z1, cond_true, cond_false, decide_true, decide_false, not_false_eq_true, not_true_eq_false, reduceIte, Nat.reduceEqDiff, Nat.add_eq_left, Nat.left_eq_add, Nat.add_left_cancel_iff, Nat.one_ne_zero, Nat.reduceMul, Nat.reduceAdd, Nat.reduceSub, Nat.reduceEqDiff, Nat.reduceLT, Nat.reduceLeDiff, Nat.not_lt_zero, Nat.zero_le, am_cs, hic, h1, c4, h6, c2]
              have g' : mcf J (am_u J 378 j v) j := mcf_u (by omega) (by rw [show wd 378 = 1 from rfl]; omega)
              have e' : ∀ a, a ≠ 378 → am_u J 378 j v a = J a := fun a q => am_u_ne _ _ q
              have hC0 : mc_at (am_u I 370 0 (nI 0)) J T.ck j (T.cs j) := mt_c h0 hj
              refine ⟨_, _, rfl, mt_call h0 hj (mcf.refl _ _) g' ?_, f0, mcf_mf g'⟩
              generalize am_u I 370 0 (nI 0) = I0 at *
              unfold mc_at wl_at at *
              rw [e' 377 (by omega), e' 382 (by omega), e' 387 (by omega)]
              obtain ⟨q1, q2, q3, q4, q5, q6, q7, q8, q9⟩ := hC0
              exact ⟨q1, q2, q3, q4, q5, q6, q7, by rw [am_u_self, if_pos rfl]; rfl, q9⟩
            · have c6 : ¬ nI j = nI k := fun q => c5 ((nI_eq (by omega) (by omega)).mp q)
              rw [if_neg c6]
              simp (disch := first | assumption | omega) only [m_is M, m_gI M, m_pI M, mR7 M, mL371 M, mW371 M, mR8 M, mL372 M, mW372 M, mR9 M, mL373 M, mW373 M, mR10 M, mL374 M, mW374 M, mR11 M, mL375 M, mW375 M, mR12 M, mL376 M, mW376_0 M, mW376_1 M, mR13 M, mL377 M, mW377 M, mR14 M, mL378 M, mW378 M, mR15 M, mL379 M, mW379 M, mR16 M, mL380 M, mW380 M, mR17 M, mL381 M, mW381 M, mR18 M, mL382 M, mW382 M, mR19 M, mL383 M, mW383_0 M, mW383_1 M, mR20 M, mL384 M, mW384_0 M, mW384_1 M, mR21 M, mL385 M, mW385 M, mR22 M, mL386 M, mW386 M, mR23 M, mL387 M, mW387 M, mR26 M, mL388 M, mW388 M, mR27 M, mL389 M, mW389 M, mR28 M, mL390 M, mW390 M, mR29 M, mL391 M, mW391 M, mR30 M, mL392 M, mW392 M, mR31 M, mL393 M, mW393 M, mR32 M, mL394 M, mW394_0 M, mW394_1 M, mR33 M, mL395 M, mW395_0 M, mW395_1 M, mR34 M, mL396 M, mW396 M, mR35 M, mL397 M, mW397 M, mR36 M, mL398 M, mW398 M, mR37 M, mL399 M, mW399 M, mR38 M, mL400 M, mW400 M, mR39 M, mL401 M, mW401 M, mR40 M, mL402 M, mW402 M, mR41 M, mL403 M, mW403 M, mR42 M, mL404 M, mW404 M, mR43 M, mL405 M, mW405 M, mR44 M, mL406 M, mW406 M, mR45 M, mL407 M, mW407 M, mR46 M, mL408 M, mW408 M, mR47 M, mL409 M, mW409 M, mR48 M, mL410 M, mW410 M, Option.bind_some, pm_u, pm_ur, pm_lt, pm_le, pm_eq, pm_ne, pm_add, pm_sub, pm_mul, pm_z0, pm_z1, cond_true, cond_false, decide_true, decide_false, not_false_eq_true, not_true_eq_false, reduceIte, Nat.reduceEqDiff, Nat.add_eq_left, Nat.left_eq_add, Nat.add_left_cancel_iff, Nat.one_ne_zero, Nat.reduceMul, Nat.reduceAdd, Nat.reduceSub, Nat.reduceEqDiff, Nat.reduceLT, Nat.reduceLeDiff, Nat.not_lt_zero, Nat.zero_le, am_cs, hic, hic2, h1, c4, h6, c2, hk1, c1, c5]
              exact ⟨_, J, rfl, h0, f0, mf_at.refl _⟩
          · rw [if_neg c4]
            have hkd : (T.cs j).kd = 0 ∨ (T.cs j).kd = 2 ∨ (T.cs j).kd = 4 := by omega
            have h11a := (h11 c3).1
            rcases hkd with q | q | q
            · obtain ⟨I2, J2, a1, a2, a3, a4⟩ := m_name112 (mx := 4) M h0 hj hk c1 ⟨c4, c3⟩ (by unfold sCl.most; rw [if_pos q]) v d
              refine ⟨I2, J2, ?_, a2, f0.trans a3, a4⟩
              rw [← a1]
              simp (disch := first | assumption | omega) only [m_is M, m_gI M, m_pI M, mR7 M, mL371 M, mW371 M, mR8 M, mL372 M, mW372 M, mR9 M, mL373 M, mW373 M, mR10 M, mL374 M, mW374 M, mR11 M, mL375 M, mW375 M, mR12 M, mL376 M, mW376_0 M, mW376_1 M, mR13 M, mL377 M, mW377 M, mR14 M, mL378 M, mW378 M, mR15 M, mL379 M, mW379 M, mR16 M, mL380 M, mW380 M, mR17 M, mL381 M, mW381 M, mR18 M, mL382 M, mW382 M, mR19 M, mL383 M, mW383_0 M, mW383_1 M, mR20 M, mL384 M, mW384_0 M, mW384_1 M, mR21 M, mL385 M, mW385 M, mR22 M, mL386 M, mW386 M, mR23 M, mL387 M, mW387 M, mR26 M, mL388 M, mW388 M, mR27 M, mL389 M, mW389 M, mR28 M, mL390 M, mW390 M, mR29 M, mL391 M, mW391 M, mR30 M, mL392 M, mW392 M, mR31 M, mL393 M, mW393 M, mR32 M, mL394 M, mW394_0 M, mW394_1 M, mR33 M, mL395 M, mW395_0 M, mW395_1 M, mR34 M, mL396 M, mW396 M, mR35 M, mL397 M, mW397 M, mR36 M, mL398 M, mW398 M, mR37 M, mL399 M, mW399 M, mR38 M, mL400 M, mW400 M, mR39 M, mL401 M, mW401 M, mR40 M, mL402 M, mW402 M, mR41 M, mL403 M, mW403 M, mR42 M, mL404 M, mW404 M, mR43 M, mL405 M, mW405 M, mR44 M, mL406 M, mW406 M, mR45 M, mL407 M, mW407 M, mR46 M, mL408 M, mW408 M, mR47 M, mL409 M, mW409 M, mR48 M, mL410 M, mW410 M, Option.bind_some, pm_u, pm_ur, pm_lt, pm_le, pm_eq, pm_ne, pm_add, pm_sub, pm_mul, pm_z0, pm_z1, cond_true, cond_false, decide_true, decide_false, not_false_eq_true, not_true_eq_false, reduceIte, Nat.reduceEqDiff, Nat.add_eq_left, Nat.left_eq_add, Nat.add_left_cancel_iff, Nat.one_ne_zero, Nat.reduceMul, Nat.reduceAdd, Nat.reduceSub, Nat.reduceEqDiff, Nat.reduceLT, Nat.reduceLeDiff, Nat.not_lt_zero, Nat.zero_le, am_cs, hic, hic2, h1, q, h6, c2, hk1, c1, h11a]
            · obtain ⟨I2, J2, a1, a2, a3, a4⟩ := m_name112 (mx := 1) M h0 hj hk c1 ⟨c4, c3⟩ (by unfold sCl.most; rw [if_neg (by omega), if_pos q]) v d
              refine ⟨I2, J2, ?_, a2, f0.trans a3, a4⟩
              rw [← a1]
              simp (disch := first | assumption | omega) only [m_is M, m_gI M, m_pI M, mR7 M, mL371 M, mW371 M, mR8 M, mL372 M, mW372 M, mR9 M, mL373 M, mW373 M, mR10 M, mL374 M, mW374 M, mR11 M, mL375 M, mW375 M, mR12 M, mL376 M, mW376_0 M, mW376_1 M, mR13 M, mL377 M, mW377 M, mR14 M, mL378 M, mW378 M, mR15 M, mL379 M, mW379 M, mR16 M, mL380 M, mW380 M, mR17 M, mL381 M, mW381 M, mR18 M, mL382 M, mW382 M, mR19 M, mL383 M, mW383_0 M, mW383_1 M, mR20 M, mL384 M, mW384_0 M, mW384_1 M, mR21 M, mL385 M, mW385 M, mR22 M, mL386 M, mW386 M, mR23 M, mL387 M, mW387 M, mR26 M, mL388 M, mW388 M, mR27 M, mL389 M, mW389 M, mR28 M, mL390 M, mW390 M, mR29 M, mL391 M, mW391 M, mR30 M, mL392 M, mW392 M, mR31 M, mL393 M, mW393 M, mR32 M, mL394 M, mW394_0 M, mW394_1 M, mR33 M, mL395 M, mW395_0 M, mW395_1 M, mR34 M, mL396 M, mW396 M, mR35 M, mL397 M, mW397 M, mR36 M, mL398 M, mW398 M, mR37 M, mL399 M, mW399 M, mR38 M, mL400 M, mW400 M, mR39 M, mL401 M, mW401 M, mR40 M, mL402 M, mW402 M, mR41 M, mL403 M, mW403 M, mR42 M, mL404 M, mW404 M, mR43 M, mL405 M, mW405 M, mR44 M, mL406 M, mW406 M, mR45 M, mL407 M, mW407 M, mR46 M, mL408 M, mW408 M, mR47 M, mL409 M, mW409 M, mR48 M, mL410 M, mW410 M, Option.bind_some, pm_u, pm_ur, pm_lt, pm_le, pm_eq, pm_ne, pm_add, pm_sub, pm_mul, pm_z0, pm_z1, cond_true, cond_false, decide_true, decide_false, not_false_eq_true, not_true_eq_false, reduceIte, Nat.reduceEqDiff, Nat.add_eq_left, Nat.left_eq_add, Nat.add_left_cancel_iff, Nat.one_ne_zero, Nat.reduceMul, Nat.reduceAdd, Nat.reduceSub, Nat.reduceEqDiff, Nat.reduceLT, Nat.reduceLeDiff, Nat.not_lt_zero, Nat.zero_le, am_cs, hic, hic2, h1, q, h6, c2, hk1, c1, h11a]
            · obtain ⟨I2, J2, a1, a2, a3, a4⟩ := m_name112 (mx := 3) M h0 hj hk c1 ⟨c4, c3⟩ (by unfold sCl.most; rw [if_neg (by omega), if_neg (by omega), if_pos q]) v d
              refine ⟨I2, J2, ?_, a2, f0.trans a3, a4⟩
              rw [← a1]
              simp (disch := first | assumption | omega) only [m_is M, m_gI M, m_pI M, mR7 M, mL371 M, mW371 M, mR8 M, mL372 M, mW372 M, mR9 M, mL373 M, mW373 M, mR10 M, mL374 M, mW374 M, mR11 M, mL375 M, mW375 M, mR12 M, mL376 M, mW376_0 M, mW376_1 M, mR13 M, mL377 M, mW377 M, mR14 M, mL378 M, mW378 M, mR15 M, mL379 M, mW379 M, mR16 M, mL380 M, mW380 M, mR17 M, mL381 M, mW381 M, mR18 M, mL382 M, mW382 M, mR19 M, mL383 M, mW383_0 M, mW383_1 M, mR20 M, mL384 M, mW384_0 M, mW384_1 M, mR21 M, mL385 M, mW385 M, mR22 M, mL386 M, mW386 M, mR23 M, mL387 M, mW387 M, mR26 M, mL388 M, mW388 M, mR27 M, mL389 M, mW389 M, mR28 M, mL390 M, mW390 M, mR29 M, mL391 M, mW391 M, mR30 M, mL392 M, mW392 M, mR31 M, mL393 M, mW393 M, mR32 M, mL394 M, mW394_0 M, mW394_1 M, mR33 M, mL395 M, mW395_0 M, mW395_1 M, mR34 M, mL396 M, mW396 M, mR35 M, mL397 M, mW397 M, mR36 M, mL398 M, mW398 M, mR37 M, mL399 M, mW399 M, mR38 M, mL400 M, mW400 M, mR39 M, mL401 M, mW401 M, mR40 M, mL402 M, mW402 M, mR41 M, mL403 M, mW403 M, mR42 M, mL404 M, mW404 M, mR43 M, mL405 M, mW405 M, mR44 M, mL406 M, mW406 M, mR45 M, mL407 M, mW407 M, mR46 M, mL408 M, mW408 M, mR47 M, mL409 M, mW409 M, mR48 M, mL410 M, mW410 M, Option.bind_some, pm_u, pm_ur, pm_lt, pm_le, pm_eq, pm_ne, pm_add, pm_sub, pm_mul, pm_z0, pm_z1, cond_true, cond_false, decide_true, decide_false, not_false_eq_true, not_true_eq_false, reduceIte, Nat.reduceEqDiff, Nat.add_eq_left, Nat.left_eq_add, Nat.add_left_cancel_iff, Nat.one_ne_zero, Nat.reduceMul, Nat.reduceAdd, Nat.reduceSub, Nat.reduceEqDiff, Nat.reduceLT, Nat.reduceLeDiff, Nat.not_lt_zero, Nat.zero_le, am_cs, hic, hic2, h1, q, h6, c2, hk1, c1, h11a]
        · rw [if_neg (fun q => c1 q.2.2.1)]
          simp (disch := first | assumption | omega) only [m_is M, m_gI M, m_pI M, mR7 M, mL371 M, mW371 M, mR8 M, mL372 M, mW372 M, mR9 M, mL373 M, mW373 M, mR10 M, mL374 M, mW374 M, mR11 M, mL375 M, mW375 M, mR12 M, mL376 M, mW376_0 M, mW376_1 M, mR13 M, mL377 M, mW377 M, mR14 M, mL378 M, mW378 M, mR15 M, mL379 M, mW379 M, mR16 M, mL380 M, mW380 M, mR17 M, mL381 M, mW381 M, mR18 M, mL382 M, mW382 M, mR19 M, mL383 M, mW383_0 M, mW383_1 M, mR20 M, mL384 M, mW384_0 M, mW384_1 M, mR21 M, mL385 M, mW385 M, mR22 M, mL386 M, mW386 M, mR23 M, mL387 M, mW387 M, mR26 M, mL388 M, mW388 M, mR27 M, mL389 M, mW389 M, mR28 M, mL390 M, mW390 M, mR29 M, mL391 M, mW391 M, mR30 M, mL392 M, mW392 M, mR31 M, mL393 M, mW393 M, mR32 M, mL394 M, mW394_0 M, mW394_1 M, mR33 M, mL395 M, mW395_0 M, mW395_1 M, mR34 M, mL396 M, mW396 M, mR35 M, mL397 M, mW397 M, mR36 M, mL398 M, mW398 M, mR37 M, mL399 M, mW399 M, mR38 M, mL400 M, mW400 M, mR39 M, mL401 M, mW401 M, mR40 M, mL402 M, mW402 M, mR41 M, mL403 M, mW403 M, mR42 M, mL404 M, mW404 M, mR43 M, mL405 M, mW405 M, mR44 M, mL406 M, mW406 M, mR45 M, mL407 M, mW407 M, mR46 M, mL408 M, mW408 M, mR47 M, mL409 M, mW409 M, mR48 M, mL410 M, mW410 M, Option.bind_some, pm_u, pm_ur, pm_lt, pm_le, pm_eq, pm_ne, pm_add, pm_sub, pm_mul, pm_z0, pm_z1, cond_true, cond_false, decide_true, decide_false, not_false_eq_true, not_true_eq_false, reduceIte, Nat.reduceEqDiff, Nat.add_eq_left, Nat.left_eq_add, Nat.add_left_cancel_iff, Nat.one_ne_zero, Nat.reduceMul, Nat.reduceAdd, Nat.reduceSub, Nat.reduceEqDiff, Nat.reduceLT, Nat.reduceLeDiff, Nat.not_lt_zero, Nat.zero_le, am_cs, hic, hic2, h1, c3, h6, c2, hk1, c1]
          exact ⟨_, J, rfl, h0, f0, mf_at.refl _⟩
      · rw [if_neg (fun q => c2 q.2.2.2)]
        simp (disch := first | assumption | omega) only [m_is M, m_gI M, m_pI M, mR7 M, mL371 M, mW371 M, mR8 M, mL372 M, mW372 M, mR9 M, mL373 M, mW373 M, mR10 M, mL374 M, mW374 M, mR11 M, mL375 M, mW375 M, mR12 M, mL376 M, mW376_0 M, mW376_1 M, mR13 M, mL377 M, mW377 M, mR14 M, mL378 M, mW378 M, mR15 M, mL379 M, mW379 M, mR16 M, mL380 M, mW380 M, mR17 M, mL381 M, mW381 M, mR18 M, mL382 M, mW382 M, mR19 M, mL383 M, mW383_0 M, mW383_1 M, mR20 M, mL384 M, mW384_0 M, mW384_1 M, mR21 M, mL385 M, mW385 M, mR22 M, mL386 M, mW386 M, mR23 M, mL387 M, mW387 M, mR26 M, mL388 M, mW388 M, mR27 M, mL389 M, mW389 M, mR28 M, mL390 M, mW390 M, mR29 M, mL391 M, mW391 M, mR30 M, mL392 M, mW392 M, mR31 M, mL393 M, mW393 M, mR32 M, mL394 M, mW394_0 M, mW394_1 M, mR33 M, mL395 M, mW395_0 M, mW395_1 M, mR34 M, mL396 M, mW396 M, mR35 M, mL397 M, mW397 M, mR36 M, mL398 M, mW398 M, mR37 M, mL399 M, mW399 M, mR38 M, mL400 M, mW400 M, mR39 M, mL401 M, mW401 M, mR40 M, mL402 M, mW402 M, mR41 M, mL403 M, mW403 M, mR42 M, mL404 M, mW404 M, mR43 M, mL405 M, mW405 M, mR44 M, mL406 M, mW406 M, mR45 M, mL407 M, mW407 M, mR46 M, mL408 M, mW408 M, mR47 M, mL409 M, mW409 M, mR48 M, mL410 M, mW410 M, Option.bind_some, pm_u, pm_ur, pm_lt, pm_le, pm_eq, pm_ne, pm_add, pm_sub, pm_mul, pm_z0, pm_z1, cond_true, cond_false, decide_true, decide_false, not_false_eq_true, not_true_eq_false, reduceIte, Nat.reduceEqDiff, Nat.add_eq_left, Nat.left_eq_add, Nat.add_left_cancel_iff, Nat.one_ne_zero, Nat.reduceMul, Nat.reduceAdd, Nat.reduceSub, Nat.reduceEqDiff, Nat.reduceLT, Nat.reduceLeDiff, Nat.not_lt_zero, Nat.zero_le, am_cs, hic, hic2, h1, c3, h6, c2]
        exact ⟨_, J, rfl, h0, f0, mf_at.refl _⟩
    · rw [if_neg (fun q => c00 q.2.1)]
      rw [wu_0 c00] at hic2
      simp (disch := first | assumption | omega) only [m_is M, m_gI M, m_pI M, mR7 M, mL371 M, mW371 M, mR8 M, mL372 M, mW372 M, mR9 M, mL373 M, mW373 M, mR10 M, mL374 M, mW374 M, mR11 M, mL375 M, mW375 M, mR12 M, mL376 M, mW376_0 M, mW376_1 M, mR13 M, mL377 M, mW377 M, mR14 M, mL378 M, mW378 M, mR15 M, mL379 M, mW379 M, mR16 M, mL380 M, mW380 M, mR17 M, mL381 M, mW381 M, mR18 M, mL382 M, mW382 M, mR19 M, mL383 M, mW383_0 M, mW383_1 M, mR20 M, mL384 M, mW384_0 M, mW384_1 M, mR21 M, mL385 M, mW385 M, mR22 M, mL386 M, mW386 M, mR23 M, mL387 M, mW387 M, mR26 M, mL388 M, mW388 M, mR27 M, mL389 M, mW389 M, mR28 M, mL390 M, mW390 M, mR29 M, mL391 M, mW391 M, mR30 M, mL392 M, mW392 M, mR31 M, mL393 M, mW393 M, mR32 M, mL394 M, mW394_0 M, mW394_1 M, mR33 M, mL395 M, mW395_0 M, mW395_1 M, mR34 M, mL396 M, mW396 M, mR35 M, mL397 M, mW397 M, mR36 M, mL398 M, mW398 M, mR37 M, mL399 M, mW399 M, mR38 M, mL400 M, mW400 M, mR39 M, mL401 M, mW401 M, mR40 M, mL402 M, mW402 M, mR41 M, mL403 M, mW403 M, mR42 M, mL404 M, mW404 M, mR43 M, mL405 M, mW405 M, mR44 M, mL406 M, mW406 M, mR45 M, mL407 M, mW407 M, mR46 M, mL408 M, mW408 M, mR47 M, mL409 M, mW409 M, mR48 M, mL410 M, mW410 M, Option.bind_some, pm_u, pm_ur, pm_lt, pm_le, pm_eq, pm_ne, pm_add, pm_sub, pm_mul, pm_z0, pm_z1, cond_true, cond_false, decide_true, decide_false, not_false_eq_true, not_true_eq_false, reduceIte, Nat.reduceEqDiff, Nat.add_eq_left, Nat.left_eq_add, Nat.add_left_cancel_iff, Nat.one_ne_zero, Nat.reduceMul, Nat.reduceAdd, Nat.reduceSub, Nat.reduceEqDiff, Nat.reduceLT, Nat.reduceLeDiff, Nat.not_lt_zero, Nat.zero_le, am_cs, hic, hic2]
      exact ⟨_, J, rfl, h0, f0, mf_at.refl _⟩
  · rw [if_neg (fun hh => c0 hh.1)]
    rw [wu_0 c0] at hic
    simp (disch := first | assumption | omega) only [m_is M, m_gI M, m_pI M, mR7 M, mL371 M, mW371 M, mR8 M, mL372 M, mW372 M, mR9 M, mL373 M, mW373 M, mR10 M, mL374 M, mW374 M, mR11 M, mL375 M, mW375 M, mR12 M, mL376 M, mW376_0 M, mW376_1 M, mR13 M, mL377 M, mW377 M, mR14 M, mL378 M, mW378 M, mR15 M, mL379 M, mW379 M, mR16 M, mL380 M, mW380 M, mR17 M, mL381 M, mW381 M, mR18 M, mL382 M, mW382 M, mR19 M, mL383 M, mW383_0 M, mW383_1 M, mR20 M, mL384 M, mW384_0 M, mW384_1 M, mR21 M, mL385 M, mW385 M, mR22 M, mL386 M, mW386 M, mR23 M, mL387 M, mW387 M, mR26 M, mL388 M, mW388 M, mR27 M, mL389 M, mW389 M, mR28 M, mL390 M, mW390 M, mR29 M, mL391 M, mW391 M, mR30 M, mL392 M, mW392 M, mR31 M, mL393 M, mW393 M, mR32 M, mL394 M, mW394_0 M, mW394_1 M, mR33 M, mL395 M, mW395_0 M, mW395_1 M, mR34 M, mL396 M, mW396 M, mR35 M, mL397 M, mW397 M, mR36 M, mL398 M, mW398 M, mR37 M, mL399 M, mW399 M, mR38 M, mL400 M, mW400 M, mR39 M, mL401 M, mW401 M, mR40 M, mL402 M, mW402 M, mR41 M, mL403 M, mW403 M, mR42 M, mL404 M, mW404 M, mR43 M, mL405 M, mW405 M, mR44 M, mL406 M, mW406 M, mR45 M, mL407 M, mW407 M, mR46 M, mL408 M, mW408 M, mR47 M, mL409 M, mW409 M, mR48 M, mL410 M, mW410 M, Option.bind_some, pm_u, pm_ur, pm_lt, pm_le, pm_eq, pm_ne, pm_add, pm_sub, pm_mul, pm_z0, pm_z1, cond_true, cond_false, decide_true, decide_false, not_false_eq_true, not_true_eq_false, reduceIte, Nat.reduceEqDiff, Nat.add_eq_left, Nat.left_eq_add, Nat.add_left_cancel_iff, Nat.one_ne_zero, Nat.reduceMul, Nat.reduceAdd, Nat.reduceSub, Nat.reduceEqDiff, Nat.reduceLT, Nat.reduceLeDiff, Nat.not_lt_zero, Nat.zero_le, am_cs, hic]
    exact ⟨_, J, rfl, h0, f0, mf_at.refl _⟩
end MTP
