/-! THE REFERENCE'S CALLS -/
def wd (a : Nat) : Nat := if a = 380 ∨ a = 386 then 60 else if a = 382 ∨ a = 383 ∨ a = 384 then 4 else if a = 387 then 3 else 1
/-- only call c has changed -/
def mcf {α : Type} (I I' : Nat → Nat → α) (c : Nat) : Prop := (∀ a, a < 371 ∨ 387 < a → I' a = I a) ∧ ∀ a j, 371 ≤ a → a ≤ 387 → j < wd a * c ∨ wd a * c + wd a ≤ j → I' a j = I a j
theorem mcf.refl {α : Type} (I : Nat → Nat → α) (c : Nat) : mcf I I c := ⟨fun _ _ => rfl, fun _ _ _ _ _ => rfl⟩
theorem mcf.trans {α : Type} {I I' I'' : Nat → Nat → α} {c : Nat} (h : mcf I I' c) (h' : mcf I' I'' c) : mcf I I'' c := ⟨fun a ha => (h'.1 a ha).trans (h.1 a ha), fun a j h1 h2 h3 => (h'.2 a j h1 h2 h3).trans (h.2 a j h1 h2 h3)⟩
theorem mcf_u {α : Type} {I : Nat → Nat → α} {a j c : Nat} {v : α} (h1 : 371 ≤ a ∧ a ≤ 387) (h2 : wd a * c ≤ j ∧ j < wd a * c + wd a) : mcf I (am_u I a j v) c := by
  refine ⟨fun x hx => am_u_ne _ _ (by omega), fun x i h3 h4 h5 => ?_⟩
  by_cases e : x = a
  · subst e
    rw [am_u_self, if_neg (by omega)]
  · rw [am_u_ne _ _ e]
theorem mcf_mf {α : Type} {I I' : Nat → Nat → α} {c : Nat} (h : mcf I I' c) : mf_at I I' := fun a ha => h.1 a (by omega)
theorem su_id (cs : Nat → sCl) (c : Nat) : su_at cs c (cs c) = cs := by
  funext i
  unfold su_at
  split
  · next h => rw [h]
  · rfl
section MCL
variable {K : am_K} {I I' : pm_I} {J J' : pm_J} {p c ck : Nat} {C : sCl} {T : sT}
theorem mc_other {c' : Nat} (h : mc_at I J ck c' C) (g : mcf I I' c) (g' : mcf J J' c) (hne : c' ≠ c) : mc_at I' J' ck c' C := by
  obtain ⟨h1, h2, h3, h4, h5, h6, h7, h8, h9, h10, h11, h12, h13, h14, h15, h16, h17⟩ := h
  have f1 : ∀ a, 371 ≤ a → a ≤ 387 → wd a = 1 → I' a c' = I a c' := fun a q1 q2 q3 => g.2 a c' q1 q2 (by rw [q3]; omega)
  have f2 : ∀ a, 371 ≤ a → a ≤ 387 → wd a = 1 → J' a c' = J a c' := fun a q1 q2 q3 => g'.2 a c' q1 q2 (by rw [q3]; omega)
  unfold mc_at
  rw [f1 371 (by omega) (by omega) rfl, f1 372 (by omega) (by omega) rfl, f1 373 (by omega) (by omega) rfl, f1 374 (by omega) (by omega) rfl, f1 375 (by omega) (by omega) rfl, f1 376 (by omega) (by omega) rfl, f2 377 (by omega) (by omega) rfl, f2 378 (by omega) (by omega) rfl, f1 379 (by omega) (by omega) rfl, f1 381 (by omega) (by omega) rfl, f1 385 (by omega) (by omega) rfl]
  refine ⟨h1, h2, h3, h4, h5, h6, h7, h8, h9, fun hk i hi => ?_, fun hk => ⟨(h11 hk).1, fun i hi => ?_⟩, fun i hi => ?_, fun i hi hn => ?_, h14, fun hk i hi => ?_, fun hk => ⟨(h16 hk).1, fun i hi => ?_⟩, h17⟩
  · rw [g.2 380 _ (by omega) (by omega) (by rw [show wd 380 = 60 from rfl]; have := h17.1; omega)]
    exact h10 hk i hi
  · rw [g'.2 382 _ (by omega) (by omega) (by rw [show wd 382 = 4 from rfl]; have := h17.2.2.2.2.2.2.2.2.2.1; omega)]
    exact (h11 hk).2 i hi
  · rw [g.2 383 _ (by omega) (by omega) (by rw [show wd 383 = 4 from rfl]; omega)]
    exact h12 i hi
  · rw [g.2 384 _ (by omega) (by omega) (by rw [show wd 384 = 4 from rfl]; omega)]
    exact h13 i hi hn
  · rw [g.2 386 _ (by omega) (by omega) (by rw [show wd 386 = 60 from rfl]; have := h17.1; omega)]
    exact h15 hk i hi
  · rw [g'.2 387 _ (by omega) (by omega) (by rw [show wd 387 = 3 from rfl]; have := (h16 hk).1; omega)]
    exact (h16 hk).2 i hi
theorem mt_call (h : mt_at I J p T) (hc : c < T.mk) (g : mcf I I' c) (g' : mcf J J' c) (hC : mc_at I' J' T.ck c C) : mt_at I' J' p (T.setC T.w0 (su_at T.cs c C)) := by
  obtain ⟨h1, ⟨h2, h3⟩, ⟨h4, h4', h4'', h4'''⟩, h5, ⟨h6, h7⟩, h8⟩ := h
  refine ⟨?_, ⟨mw_congr h2 (fun a _ _ => g.1 a (by omega)), mw_congr h3 (fun a _ _ => g.1 a (by omega))⟩, ⟨fun i hi => ?_, fun i hi => ?_, h4'', h4'''⟩, mv_congr h5 (fun a _ _ => g.1 a (by omega)) (fun a _ _ => g'.1 a (by omega)), ⟨mg_congr h6 (g.1 _ (by omega)) (g.1 _ (by omega)), mg_congr h7 (g.1 _ (by omega)) (g.1 _ (by omega))⟩, h8⟩
  · unfold ms_at at *
    rw [g.1 370 (by omega)]
    exact h1
  · show mc_at I' J' T.ck i (su_at T.cs c C i)
    by_cases e : i = c
    · subst e
      rw [su_self]
      exact hC
    · rw [su_ne _ _ e]
      exact mc_other (h4 i hi) g g' e
  · show su_at T.cs c C i = sCl.new
    have hi : T.mk ≤ i := hi
    rw [su_ne _ _ (by omega)]
    exact h4' i hi
theorem mt_mk (h : mt_at I J p T) : T.mk ≤ 30 := h.2.2.1.2.2.1
theorem mt_c (h : mt_at I J p T) (hc : c < T.mk) : mc_at I J T.ck c (T.cs c) := h.2.2.1.1 c (by have := mt_mk h; omega)
theorem m_isCall (M : ml_ok K) (h : mt_at I J p T) (x : Int32) (d : Nat) : f_X9_isCall d 370 x (K, I, J) = some ((nI (wu_in x T.mk), 0, none), (K, I, J)) := by
  have h6 : I 370 6 = nI T.mk := h.1.2.2.2.2.2.1
  rw [e_X9_isCall]
  unfold wu_in
  by_cases c0 : x < 0
  · rw [if_pos c0]
    have c0 : x < nI 0 := c0
    simp (disch := first | assumption | omega) only [m_is M, m_gI M, m_pI M, mR7 M, mL371 M, mW371 M, mR8 M, mL372 M, mW372 M, mR9 M, mL373 M, mW373 M, mR10 M, mL374 M, mW374 M, mR11 M, mL375 M, mW375 M, mR12 M, mL376 M, mW376_0 M, mW376_1 M, mR13 M, mL377 M, mW377 M, mR14 M, mL378 M, mW378 M, mR15 M, mL379 M, mW379 M, mR16 M, mL380 M, mW380 M, mR17 M, mL381 M, mW381 M, mR18 M, mL382 M, mW382 M, mR19 M, mL383 M, mW383_0 M, mW383_1 M, mR20 M, mL384 M, mW384_0 M, mW384_1 M, mR21 M, mL385 M, mW385 M, mR22 M, mL386 M, mW386 M, mR23 M, mL387 M, mW387 M, mR26 M, mL388 M, mW388 M, mR27 M, mL389 M, mW389 M, mR28 M, mL390 M, mW390 M, mR29 M, mL391 M, mW391 M, mR30 M, mL392 M, mW392 M, mR31 M, mL393 M, mW393 M, mR32 M, mL394 M, mW394_0 M, mW394_1 M, mR33 M, mL395 M, mW395_0 M, mW395_1 M, mR34 M, mL396 M, mW396 M, mR35 M, mL397 M, mW397 M, mR36 M, mL398 M, mW398 M, mR37 M, mL399 M, mW399 M, mR38 M, mL400 M, mW400 M, mR39 M, mL401 M, mW401 M, mR40 M, mL402 M, mW402 M, mR41 M, mL403 M, mW403 M, mR42 M, mL404 M, mW404 M, mR43 M, mL405 M, mW405 M, mR44 M, mL406 M, mW406 M, mR45 M, mL407 M, mW407 M, mR46 M, mL408 M, mW408 M, mR47 M, mL409 M, mW409 M, mR48 M, mL410 M, mW410 M, Option.bind_some, pm_u, pm_ur, pm_lt, pm_le, pm_eq, pm_ne, pm_add, pm_sub, pm_mul, pm_z0, pm_z1, cond_true, cond_false, decide_true, decide_false, not_false_eq_true, not_true_eq_false, reduceIte, Nat.reduceEqDiff, Nat.add_eq_left, Nat.left_eq_add, Nat.add_left_cancel_iff, Nat.one_ne_zero, Nat.reduceMul, Nat.reduceAdd, Nat.reduceSub, Nat.reduceEqDiff, Nat.reduceLT, Nat.reduceLeDiff, am_cs, c0]
  · rw [if_neg c0]
    have c0 : ¬ x < nI 0 := c0
    by_cases c1 : nI T.mk ≤ x
    · rw [if_pos c1]
      simp (disch := first | assumption | omega) only [m_is M, m_gI M, m_pI M, mR7 M, mL371 M, mW371 M, mR8 M, mL372 M, mW372 M, mR9 M, mL373 M, mW373 M, mR10 M, mL374 M, mW374 M, mR11 M, mL375 M, mW375 M, mR12 M, mL376 M, mW376_0 M, mW376_1 M, mR13 M, mL377 M, mW377 M, mR14 M, mL378 M, mW378 M, mR15 M, mL379 M, mW379 M, mR16 M, mL380 M, mW380 M, mR17 M, mL381 M, mW381 M, mR18 M, mL382 M, mW382 M, mR19 M, mL383 M, mW383_0 M, mW383_1 M, mR20 M, mL384 M, mW384_0 M, mW384_1 M, mR21 M, mL385 M, mW385 M, mR22 M, mL386 M, mW386 M, mR23 M, mL387 M, mW387 M, mR26 M, mL388 M, mW388 M, mR27 M, mL389 M, mW389 M, mR28 M, mL390 M, mW390 M, mR29 M, mL391 M, mW391 M, mR30 M, mL392 M, mW392 M, mR31 M, mL393 M, mW393 M, mR32 M, mL394 M, mW394_0 M, mW394_1 M, mR33 M, mL395 M, mW395_0 M, mW395_1 M, mR34 M, mL396 M, mW396 M, mR35 M, mL397 M, mW397 M, mR36 M, mL398 M, mW398 M, mR37 M, mL399 M, mW399 M, mR38 M, mL400 M, mW400 M, mR39 M, mL401 M, mW401 M, mR40 M, mL402 M, mW402 M, mR41 M, mL403 M, mW403 M, mR42 M, mL404 M, mW404 M, mR43 M, mL405 M, mW405 M, mR44 M, mL406 M, mW406 M, mR45 M, mL407 M, mW407 M, mR46 M, mL408 M, mW408 M, mR47 M, mL409 M, mW409 M, mR48 M, mL410 M, mW410 M, Option.bind_some, pm_u, pm_ur, pm_lt, pm_le, pm_eq, pm_ne, pm_add, pm_sub, pm_mul, pm_z0, pm_z1, cond_true, cond_false, decide_true, decide_false, not_false_eq_true, not_true_eq_false, reduceIte, Nat.reduceEqDiff, Nat.add_eq_left, Nat.left_eq_add, Nat.add_left_cancel_iff, Nat.one_ne_zero, Nat.reduceMul, Nat.reduceAdd, Nat.reduceSub, Nat.reduceEqDiff, Nat.reduceLT, Nat.reduceLeDiff, am_cs, c0, h6, c1]
    · rw [if_neg c1]
      simp (disch := first | assumption | omega) only [m_is M, m_gI M, m_pI M, mR7 M, mL371 M, mW371 M, mR8 M, mL372 M, mW372 M, mR9 M, mL373 M, mW373 M, mR10 M, mL374 M, mW374 M, mR11 M, mL375 M, mW375 M, mR12 M, mL376 M, mW376_0 M, mW376_1 M, mR13 M, mL377 M, mW377 M, mR14 M, mL378 M, mW378 M, mR15 M, mL379 M, mW379 M, mR16 M, mL380 M, mW380 M, mR17 M, mL381 M, mW381 M, mR18 M, mL382 M, mW382 M, mR19 M, mL383 M, mW383_0 M, mW383_1 M, mR20 M, mL384 M, mW384_0 M, mW384_1 M, mR21 M, mL385 M, mW385 M, mR22 M, mL386 M, mW386 M, mR23 M, mL387 M, mW387 M, mR26 M, mL388 M, mW388 M, mR27 M, mL389 M, mW389 M, mR28 M, mL390 M, mW390 M, mR29 M, mL391 M, mW391 M, mR30 M, mL392 M, mW392 M, mR31 M, mL393 M, mW393 M, mR32 M, mL394 M, mW394_0 M, mW394_1 M, mR33 M, mL395 M, mW395_0 M, mW395_1 M, mR34 M, mL396 M, mW396 M, mR35 M, mL397 M, mW397 M, mR36 M, mL398 M, mW398 M, mR37 M, mL399 M, mW399 M, mR38 M, mL400 M, mW400 M, mR39 M, mL401 M, mW401 M, mR40 M, mL402 M, mW402 M, mR41 M, mL403 M, mW403 M, mR42 M, mL404 M, mW404 M, mR43 M, mL405 M, mW405 M, mR44 M, mL406 M, mW406 M, mR45 M, mL407 M, mW407 M, mR46 M, mL408 M, mW408 M, mR47 M, mL409 M, mW409 M, mR48 M, mL410 M, mW410 M, Option.bind_some, pm_u, pm_ur, pm_lt, pm_le, pm_eq, pm_ne, pm_add, pm_sub, pm_mul, pm_z0, pm_z1, cond_true, cond_false, decide_true, decide_false, not_false_eq_true, not_true_eq_false, reduceIte, Nat.reduceEqDiff, Nat.add_eq_left, Nat.left_eq_add, Nat.add_left_cancel_iff, Nat.one_ne_zero, Nat.reduceMul, Nat.reduceAdd, Nat.reduceSub, Nat.reduceEqDiff, Nat.reduceLT, Nat.reduceLeDiff, am_cs, c0, h6, c1]
theorem m_goesOn (M : ml_ok K) (h : mc_at I J ck c C) (hc : c < 30) (d : Nat) : f_X9_goesOn d 370 (nI c) (K, I, J) = some ((nI C.on, 0, none), (K, I, J)) := by
  obtain ⟨h1, h2, h3, h4, h5, h6, h7⟩ := h
  have b2 := h7.2.2.2.2.2.2.2.2.2.2.2.2.2.1
  rw [e_X9_goesOn]
  unfold sCl.on
  by_cases c1 : C.bg = 0
  · rw [if_pos c1]
    simp (disch := first | assumption | omega) only [m_is M, m_gI M, m_pI M, mR7 M, mL371 M, mW371 M, mR8 M, mL372 M, mW372 M, mR9 M, mL373 M, mW373 M, mR10 M, mL374 M, mW374 M, mR11 M, mL375 M, mW375 M, mR12 M, mL376 M, mW376_0 M, mW376_1 M, mR13 M, mL377 M, mW377 M, mR14 M, mL378 M, mW378 M, mR15 M, mL379 M, mW379 M, mR16 M, mL380 M, mW380 M, mR17 M, mL381 M, mW381 M, mR18 M, mL382 M, mW382 M, mR19 M, mL383 M, mW383_0 M, mW383_1 M, mR20 M, mL384 M, mW384_0 M, mW384_1 M, mR21 M, mL385 M, mW385 M, mR22 M, mL386 M, mW386 M, mR23 M, mL387 M, mW387 M, mR26 M, mL388 M, mW388 M, mR27 M, mL389 M, mW389 M, mR28 M, mL390 M, mW390 M, mR29 M, mL391 M, mW391 M, mR30 M, mL392 M, mW392 M, mR31 M, mL393 M, mW393 M, mR32 M, mL394 M, mW394_0 M, mW394_1 M, mR33 M, mL395 M, mW395_0 M, mW395_1 M, mR34 M, mL396 M, mW396 M, mR35 M, mL397 M, mW397 M, mR36 M, mL398 M, mW398 M, mR37 M, mL399 M, mW399 M, mR38 M, mL400 M, mW400 M, mR39 M, mL401 M, mW401 M, mR40 M, mL402 M, mW402 M, mR41 M, mL403 M, mW403 M, mR42 M, mL404 M, mW404 M, mR43 M, mL405 M, mW405 M, mR44 M, mL406 M, mW406 M, mR45 M, mL407 M, mW407 M, mR46 M, mL408 M, mW408 M, mR47 M, mL409 M, mW409 M, mR48 M, mL410 M, mW410 M, Option.bind_some, pm_u, pm_ur, pm_lt, pm_le, pm_eq, pm_ne, pm_add, pm_sub, pm_mul, pm_z0, pm_z1, cond_true, cond_false, decide_true, decide_false, not_false_eq_true, not_true_eq_false, reduceIte, Nat.reduceEqDiff, Nat.add_eq_left, Nat.left_eq_add, Nat.add_left_cancel_iff, Nat.one_ne_zero, Nat.reduceMul, Nat.reduceAdd, Nat.reduceSub, Nat.reduceEqDiff, Nat.reduceLT, Nat.reduceLeDiff, am_cs, h6, c1]
  · rw [if_neg c1]
    by_cases c2 : C.oc = 0
    · rw [if_pos c2]
      have c2 : C.oc = nI 0 := c2
      simp (disch := first | assumption | omega) only [m_is M, m_gI M, m_pI M, mR7 M, mL371 M, mW371 M, mR8 M, mL372 M, mW372 M, mR9 M, mL373 M, mW373 M, mR10 M, mL374 M, mW374 M, mR11 M, mL375 M, mW375 M, mR12 M, mL376 M, mW376_0 M, mW376_1 M, mR13 M, mL377 M, mW377 M, mR14 M, mL378 M, mW378 M, mR15 M, mL379 M, mW379 M, mR16 M, mL380 M, mW380 M, mR17 M, mL381 M, mW381 M, mR18 M, mL382 M, mW382 M, mR19 M, mL383 M, mW383_0 M, mW383_1 M, mR20 M, mL384 M, mW384_0 M, mW384_1 M, mR21 M, mL385 M, mW385 M, mR22 M, mL386 M, mW386 M, mR23 M, mL387 M, mW387 M, mR26 M, mL388 M, mW388 M, mR27 M, mL389 M, mW389 M, mR28 M, mL390 M, mW390 M, mR29 M, mL391 M, mW391 M, mR30 M, mL392 M, mW392 M, mR31 M, mL393 M, mW393 M, mR32 M, mL394 M, mW394_0 M, mW394_1 M, mR33 M, mL395 M, mW395_0 M, mW395_1 M, mR34 M, mL396 M, mW396 M, mR35 M, mL397 M, mW397 M, mR36 M, mL398 M, mW398 M, mR37 M, mL399 M, mW399 M, mR38 M, mL400 M, mW400 M, mR39 M, mL401 M, mW401 M, mR40 M, mL402 M, mW402 M, mR41 M, mL403 M, mW403 M, mR42 M, mL404 M, mW404 M, mR43 M, mL405 M, mW405 M, mR44 M, mL406 M, mW406 M, mR45 M, mL407 M, mW407 M, mR46 M, mL408 M, mW408 M, mR47 M, mL409 M, mW409 M, mR48 M, mL410 M, mW410 M, Option.bind_some, pm_u, pm_ur, pm_lt, pm_le, pm_eq, pm_ne, pm_add, pm_sub, pm_mul, pm_z0, pm_z1, cond_true, cond_false, decide_true, decide_false, not_false_eq_true, not_true_eq_false, reduceIte, Nat.reduceEqDiff, Nat.add_eq_left, Nat.left_eq_add, Nat.add_left_cancel_iff, Nat.one_ne_zero, Nat.reduceMul, Nat.reduceAdd, Nat.reduceSub, Nat.reduceEqDiff, Nat.reduceLT, Nat.reduceLeDiff, am_cs, h6, c1, h2, c2]
    · rw [if_neg c2]
      have c2 : ¬ C.oc = nI 0 := c2
      simp (disch := first | assumption | omega) only [m_is M, m_gI M, m_pI M, mR7 M, mL371 M, mW371 M, mR8 M, mL372 M, mW372 M, mR9 M, mL373 M, mW373 M, mR10 M, mL374 M, mW374 M, mR11 M, mL375 M, mW375 M, mR12 M, mL376 M, mW376_0 M, mW376_1 M, mR13 M, mL377 M, mW377 M, mR14 M, mL378 M, mW378 M, mR15 M, mL379 M, mW379 M, mR16 M, mL380 M, mW380 M, mR17 M, mL381 M, mW381 M, mR18 M, mL382 M, mW382 M, mR19 M, mL383 M, mW383_0 M, mW383_1 M, mR20 M, mL384 M, mW384_0 M, mW384_1 M, mR21 M, mL385 M, mW385 M, mR22 M, mL386 M, mW386 M, mR23 M, mL387 M, mW387 M, mR26 M, mL388 M, mW388 M, mR27 M, mL389 M, mW389 M, mR28 M, mL390 M, mW390 M, mR29 M, mL391 M, mW391 M, mR30 M, mL392 M, mW392 M, mR31 M, mL393 M, mW393 M, mR32 M, mL394 M, mW394_0 M, mW394_1 M, mR33 M, mL395 M, mW395_0 M, mW395_1 M, mR34 M, mL396 M, mW396 M, mR35 M, mL397 M, mW397 M, mR36 M, mL398 M, mW398 M, mR37 M, mL399 M, mW399 M, mR38 M, mL400 M, mW400 M, mR39 M, mL401 M, mW401 M, mR40 M, mL402 M, mW402 M, mR41 M, mL403 M, mW403 M, mR42 M, mL404 M, mW404 M, mR43 M, mL405 M, mW405 M, mR44 M, mL406 M, mW406 M, mR45 M, mL407 M, mW407 M, mR46 M, mL408 M, mW408 M, mR47 M, mL409 M, mW409 M, mR48 M, mL410 M, mW410 M, Option.bind_some, pm_u, pm_ur, pm_lt, pm_le, pm_eq, pm_ne, pm_add, pm_sub, pm_mul, pm_z0, pm_z1, cond_true, cond_false, decide_true, decide_false, not_false_eq_true, not_true_eq_false, reduceIte, Nat.reduceEqDiff, Nat.add_eq_left, Nat.left_eq_add, Nat.add_left_cancel_iff, Nat.one_ne_zero, Nat.reduceMul, Nat.reduceAdd, Nat.reduceSub, Nat.reduceEqDiff, Nat.reduceLT, Nat.reduceLeDiff, am_cs, h6, c1, h2, c2]
theorem so_fin_on (C : sCl) {how : Int32} (hh : how ≠ 0) : (C.fin how).on = 0 := by
  unfold sCl.on
  split
  · rfl
  · rw [if_neg (show ¬ (C.fin how).oc = 0 from hh)]
theorem m_ends (M : ml_ok K) (h : mc_at I J ck c C) (hc : c < 30) {how : Int32} (hh : how ≠ 0) (d : Nat) : ∃ I' : pm_I, f_X9_ends d 370 (nI c) how (K, I, J) = some ((0, 0, none), (K, I', J)) ∧ mc_at I' J ck c (C.fin how) ∧ mcf I I' c := by
  obtain ⟨h1, h2, h3, h4, h5, h6, h7, h8, h9, h10, h11, h12, h13, h14, h15, h16, h17, h18, b1, b2, b3, b4, b5, b6, b7, b8⟩ := h
  rw [e_X9_ends]
  simp (disch := first | assumption | omega) only [m_is M, m_gI M, m_pI M, mR7 M, mL371 M, mW371 M, mR8 M, mL372 M, mW372 M, mR9 M, mL373 M, mW373 M, mR10 M, mL374 M, mW374 M, mR11 M, mL375 M, mW375 M, mR12 M, mL376 M, mW376_0 M, mW376_1 M, mR13 M, mL377 M, mW377 M, mR14 M, mL378 M, mW378 M, mR15 M, mL379 M, mW379 M, mR16 M, mL380 M, mW380 M, mR17 M, mL381 M, mW381 M, mR18 M, mL382 M, mW382 M, mR19 M, mL383 M, mW383_0 M, mW383_1 M, mR20 M, mL384 M, mW384_0 M, mW384_1 M, mR21 M, mL385 M, mW385 M, mR22 M, mL386 M, mW386 M, mR23 M, mL387 M, mW387 M, mR26 M, mL388 M, mW388 M, mR27 M, mL389 M, mW389 M, mR28 M, mL390 M, mW390 M, mR29 M, mL391 M, mW391 M, mR30 M, mL392 M, mW392 M, mR31 M, mL393 M, mW393 M, mR32 M, mL394 M, mW394_0 M, mW394_1 M, mR33 M, mL395 M, mW395_0 M, mW395_1 M, mR34 M, mL396 M, mW396 M, mR35 M, mL397 M, mW397 M, mR36 M, mL398 M, mW398 M, mR37 M, mL399 M, mW399 M, mR38 M, mL400 M, mW400 M, mR39 M, mL401 M, mW401 M, mR40 M, mL402 M, mW402 M, mR41 M, mL403 M, mW403 M, mR42 M, mL404 M, mW404 M, mR43 M, mL405 M, mW405 M, mR44 M, mL406 M, mW406 M, mR45 M, mL407 M, mW407 M, mR46 M, mL408 M, mW408 M, mR47 M, mL409 M, mW409 M, mR48 M, mL410 M, mW410 M, Option.bind_some, pm_u, pm_ur, pm_lt, pm_le, pm_eq, pm_ne, pm_add, pm_sub, pm_mul, pm_z0, pm_z1, cond_true, cond_false, decide_true, decide_false, not_false_eq_true, not_true_eq_false, reduceIte, Nat.reduceEqDiff, Nat.add_eq_left, Nat.left_eq_add, Nat.add_left_cancel_iff, Nat.one_ne_zero, Nat.reduceMul, Nat.reduceAdd, Nat.reduceSub, Nat.reduceEqDiff, Nat.reduceLT, Nat.reduceLeDiff, am_cs]
  have f1 : mcf I (am_u (am_u I 372 c how) 374 c (nI 0)) c := (mcf_u (by omega) (by rw [show wd 372 = 1 from rfl]; omega)).trans (mcf_u (by omega) (by rw [show wd 374 = 1 from rfl]; omega))
  have e : ∀ a, a ≠ 372 → a ≠ 374 → am_u (am_u I 372 c how) 374 c (nI 0) a = I a := fun a q1 q2 => by rw [am_u_ne _ _ q2, am_u_ne _ _ q1]
  refine ⟨_, rfl, ?_, f1⟩
  unfold mc_at wl_at at *
  rw [e 371 (by omega) (by omega), e 373 (by omega) (by omega), e 375 (by omega) (by omega), e 376 (by omega) (by omega), e 379 (by omega) (by omega), e 380 (by omega) (by omega), e 381 (by omega) (by omega), e 383 (by omega) (by omega), e 384 (by omega) (by omega), e 385 (by omega) (by omega), e 386 (by omega) (by omega)]
  refine ⟨h1, ?_, fun q => ?_, ⟨?_, fun q => absurd rfl q⟩, h5, h6, h7, h8, h9, h10, h11, h12, h13, h14, h15, h16, h17, h18, b1, b2, b3, by show 0 ≤ 1; omega, b5, b6, fun q => absurd q hh, b8⟩
  · simp [pm_u]
    rfl
  · rw [so_fin_on C hh] at q
    omega
  · simp [pm_u, sCl_kd_fin, sCl_ac_fin, sCl_bg_fin, sCl_oc_fin, sCl_la_fin, sCl_wt_fin, sCl_wk_fin, sCl_tr_fin, sCl_row_fin, sCl_dg_fin, sCl_an_fin, sCl_xr_fin, sCl_kd_setRow, sCl_ac_setRow, sCl_bg_setRow, sCl_oc_setRow, sCl_la_setRow, sCl_wt_setRow, sCl_wk_setRow, sCl_tr_setRow, sCl_row_setRow, sCl_dg_setRow, sCl_an_setRow, sCl_xr_setRow, sCl_kd_setDg, sCl_ac_setDg, sCl_bg_setDg, sCl_oc_setDg, sCl_la_setDg, sCl_wt_setDg, sCl_wk_setDg, sCl_tr_setDg, sCl_row_setDg, sCl_dg_setDg, sCl_an_setDg, sCl_xr_setDg, sCl_kd_setAn, sCl_ac_setAn, sCl_bg_setAn, sCl_oc_setAn, sCl_la_setAn, sCl_wt_setAn, sCl_wk_setAn, sCl_tr_setAn, sCl_row_setAn, sCl_dg_setAn, sCl_an_setAn, sCl_xr_setAn, sCl_kd_setXr, sCl_ac_setXr, sCl_bg_setXr, sCl_oc_setXr, sCl_la_setXr, sCl_wt_setXr, sCl_wk_setXr, sCl_tr_setXr, sCl_row_setXr, sCl_dg_setXr, sCl_an_setXr, sCl_xr_setXr, sCl_kd_setWt, sCl_ac_setWt, sCl_bg_setWt, sCl_oc_setWt, sCl_la_setWt, sCl_wt_setWt, sCl_wk_setWt, sCl_tr_setWt, sCl_row_setWt, sCl_dg_setWt, sCl_an_setWt, sCl_xr_setWt, sCl_kd_setBg, sCl_ac_setBg, sCl_bg_setBg, sCl_oc_setBg, sCl_la_setBg, sCl_wt_setBg, sCl_wk_setBg, sCl_tr_setBg, sCl_row_setBg, sCl_dg_setBg, sCl_an_setBg, sCl_xr_setBg, sCl_kd_new, sCl_ac_new, sCl_bg_new, sCl_oc_new, sCl_la_new, sCl_wt_new, sCl_wk_new, sCl_tr_new, sCl_row_new, sCl_dg_new, sCl_an_new, sCl_xr_new]
theorem m_hold (M : ml_ok K) (h : mc_at I J ck c C) (hc : c < 30) (ho : C.on = 1) (hck : ck ≤ 1000000) (d : Nat) : ∃ I' : pm_I, f_X9_hold (d + 1) 370 (nI c) (K, I, J) = some ((0, 0, none), (K, I', J)) ∧ mc_at I' J ck c (so_wait ck C) ∧ mcf I I' c := by
  have hoc := so_on ho
  obtain ⟨h1, h2, h3, h4, h5, h6, h7, h8, h9, h10, h11, h12, h13, h14, h15, h16, h17, h18, b1, b2, b3, b4, b5, b6, b7, b8⟩ := h
  have b7' := b7 hoc
  have f0 : mcf I (am_u I 375 c (nI (C.tr + 1))) c := mcf_u (by omega) (by rw [show wd 375 = 1 from rfl]; omega)
  rw [e_X9_hold]
  unfold so_wait
  by_cases c0 : C.tr + 1 < 5
  · rw [if_pos c0]
    have c1 : ¬ C.tr + 1 = 5 := by omega
    simp (disch := first | assumption | omega) only [m_is M, m_gI M, m_pI M, mR7 M, mL371 M, mW371 M, mR8 M, mL372 M, mW372 M, mR9 M, mL373 M, mW373 M, mR10 M, mL374 M, mW374 M, mR11 M, mL375 M, mW375 M, mR12 M, mL376 M, mW376_0 M, mW376_1 M, mR13 M, mL377 M, mW377 M, mR14 M, mL378 M, mW378 M, mR15 M, mL379 M, mW379 M, mR16 M, mL380 M, mW380 M, mR17 M, mL381 M, mW381 M, mR18 M, mL382 M, mW382 M, mR19 M, mL383 M, mW383_0 M, mW383_1 M, mR20 M, mL384 M, mW384_0 M, mW384_1 M, mR21 M, mL385 M, mW385 M, mR22 M, mL386 M, mW386 M, mR23 M, mL387 M, mW387 M, mR26 M, mL388 M, mW388 M, mR27 M, mL389 M, mW389 M, mR28 M, mL390 M, mW390 M, mR29 M, mL391 M, mW391 M, mR30 M, mL392 M, mW392 M, mR31 M, mL393 M, mW393 M, mR32 M, mL394 M, mW394_0 M, mW394_1 M, mR33 M, mL395 M, mW395_0 M, mW395_1 M, mR34 M, mL396 M, mW396 M, mR35 M, mL397 M, mW397 M, mR36 M, mL398 M, mW398 M, mR37 M, mL399 M, mW399 M, mR38 M, mL400 M, mW400 M, mR39 M, mL401 M, mW401 M, mR40 M, mL402 M, mW402 M, mR41 M, mL403 M, mW403 M, mR42 M, mL404 M, mW404 M, mR43 M, mL405 M, mW405 M, mR44 M, mL406 M, mW406 M, mR45 M, mL407 M, mW407 M, mR46 M, mL408 M, mW408 M, mR47 M, mL409 M, mW409 M, mR48 M, mL410 M, mW410 M, Option.bind_some, pm_u, pm_ur, pm_lt, pm_le, pm_eq, pm_ne, pm_add, pm_sub, pm_mul, pm_z0, pm_z1, cond_true, cond_false, decide_true, decide_false, not_false_eq_true, not_true_eq_false, reduceIte, Nat.reduceEqDiff, Nat.add_eq_left, Nat.left_eq_add, Nat.add_left_cancel_iff, Nat.one_ne_zero, Nat.reduceMul, Nat.reduceAdd, Nat.reduceSub, Nat.reduceEqDiff, Nat.reduceLT, Nat.reduceLeDiff, am_cs, h5, c1, px_shl2, Nat.add_sub_cancel]
    have f1 : mcf I (am_u (am_u I 375 c (nI (C.tr + 1))) 374 c (nI (2 ^ C.tr))) c := f0.trans (mcf_u (by omega) (by rw [show wd 374 = 1 from rfl]; omega))
    have e : ∀ a, a ≠ 375 → a ≠ 374 → am_u (am_u I 375 c (nI (C.tr + 1))) 374 c (nI (2 ^ C.tr)) a = I a := fun a q1 q2 => by rw [am_u_ne _ _ q2, am_u_ne _ _ q1]
    have h2t : 2 ^ C.tr ≤ 8 ∧ 0 < 2 ^ C.tr := by
      have : C.tr = 0 ∨ C.tr = 1 ∨ C.tr = 2 ∨ C.tr = 3 := by omega
      rcases this with q | q | q | q <;> (rw [q]; omega)
    refine ⟨_, rfl, ?_, f1⟩
    unfold mc_at wl_at at *
    rw [e 371 (by omega) (by omega), e 372 (by omega) (by omega), e 373 (by omega) (by omega), e 376 (by omega) (by omega), e 379 (by omega) (by omega), e 380 (by omega) (by omega), e 381 (by omega) (by omega), e 383 (by omega) (by omega), e 384 (by omega) (by omega), e 385 (by omega) (by omega), e 386 (by omega) (by omega)]
    refine ⟨h1, h2, h3, ⟨?_, fun q => ⟨ho, ?_, ?_⟩⟩, ?_, h6, h7, h8, h9, h10, h11, h12, h13, h14, h15, h16, h17, h18, b1, b2, b3, by show 1 ≤ 1; omega, ?_, ?_, fun _ => ?_, b8⟩
    · rw [am_u_self, if_pos rfl]
      rw [if_neg (show ¬ (C.setWt 1 (ck + 2 ^ C.tr) (C.tr + 1)).wt = 0 from by show ¬ 1 = 0; omega)]
      show nI (2 ^ C.tr) = nI (ck + 2 ^ C.tr - ck)
      rw [Nat.add_sub_cancel_left]
    · show ck < ck + 2 ^ C.tr
      omega
    · show ck + 2 ^ C.tr ≤ ck + 200000
      omega
    · rw [am_u_ne _ _ (by omega), am_u_self, if_pos rfl]
      rfl
    · show ck + 2 ^ C.tr ≤ 2000000
      omega
    · show C.tr + 1 ≤ 5
      omega
    · show C.tr + 1 ≤ 4
      omega
  · rw [if_neg c0]
    have c1 : C.tr + 1 = 5 := by omega
    have hmid : mc_at (am_u I 375 c (nI (C.tr + 1))) J ck c C ∨ True := Or.inr trivial
    have f1 : mcf I (am_u (am_u (am_u I 375 c (nI (C.tr + 1))) 372 c (-nI 5)) 374 c (nI 0)) c := f0.trans ((mcf_u (by omega) (by rw [show wd 372 = 1 from rfl]; omega)).trans (mcf_u (by omega) (by rw [show wd 374 = 1 from rfl]; omega)))
    have e : ∀ a, a ≠ 375 → a ≠ 372 → a ≠ 374 → am_u (am_u (am_u I 375 c (nI (C.tr + 1))) 372 c (-nI 5)) 374 c (nI 0) a = I a := fun a q1 q2 q3 => by rw [am_u_ne _ _ q3, am_u_ne _ _ q2, am_u_ne _ _ q1]
    simp (disch := first | assumption | omega) only [m_is M, m_gI M, m_pI M, mR7 M, mL371 M, mW371 M, mR8 M, mL372 M, mW372 M, mR9 M, mL373 M, mW373 M, mR10 M, mL374 M, mW374 M, mR11 M, mL375 M, mW375 M, mR12 M, mL376 M, mW376_0 M, mW376_1 M, mR13 M, mL377 M, mW377 M, mR14 M, mL378 M, mW378 M, mR15 M, mL379 M, mW379 M, mR16 M, mL380 M, mW380 M, mR17 M, mL381 M, mW381 M, mR18 M, mL382 M, mW382 M, mR19 M, mL383 M, mW383_0 M, mW383_1 M, mR20 M, mL384 M, mW384_0 M, mW384_1 M, mR21 M, mL385 M, mW385 M, mR22 M, mL386 M, mW386 M, mR23 M, mL387 M, mW387 M, mR26 M, mL388 M, mW388 M, mR27 M, mL389 M, mW389 M, mR28 M, mL390 M, mW390 M, mR29 M, mL391 M, mW391 M, mR30 M, mL392 M, mW392 M, mR31 M, mL393 M, mW393 M, mR32 M, mL394 M, mW394_0 M, mW394_1 M, mR33 M, mL395 M, mW395_0 M, mW395_1 M, mR34 M, mL396 M, mW396 M, mR35 M, mL397 M, mW397 M, mR36 M, mL398 M, mW398 M, mR37 M, mL399 M, mW399 M, mR38 M, mL400 M, mW400 M, mR39 M, mL401 M, mW401 M, mR40 M, mL402 M, mW402 M, mR41 M, mL403 M, mW403 M, mR42 M, mL404 M, mW404 M, mR43 M, mL405 M, mW405 M, mR44 M, mL406 M, mW406 M, mR45 M, mL407 M, mW407 M, mR46 M, mL408 M, mW408 M, mR47 M, mL409 M, mW409 M, mR48 M, mL410 M, mW410 M, Option.bind_some, pm_u, pm_ur, pm_lt, pm_le, pm_eq, pm_ne, pm_add, pm_sub, pm_mul, pm_z0, pm_z1, cond_true, cond_false, decide_true, decide_false, not_false_eq_true, not_true_eq_false, reduceIte, Nat.reduceEqDiff, Nat.add_eq_left, Nat.left_eq_add, Nat.add_left_cancel_iff, Nat.one_ne_zero, Nat.reduceMul, Nat.reduceAdd, Nat.reduceSub, Nat.reduceEqDiff, Nat.reduceLT, Nat.reduceLeDiff, am_cs, h5, c1, e_X9_ends]
    rw [c1] at f1 e
    refine ⟨_, rfl, ?_, f1⟩
    have hh : (-nI 5 : Int32) ≠ 0 := px_neg (by omega) (by omega)
    unfold mc_at wl_at at *
    rw [e 371 (by omega) (by omega) (by omega), e 373 (by omega) (by omega) (by omega), e 376 (by omega) (by omega) (by omega), e 379 (by omega) (by omega) (by omega), e 380 (by omega) (by omega) (by omega), e 381 (by omega) (by omega) (by omega), e 383 (by omega) (by omega) (by omega), e 384 (by omega) (by omega) (by omega), e 385 (by omega) (by omega) (by omega), e 386 (by omega) (by omega) (by omega)]
    refine ⟨h1, ?_, fun q => ?_, ⟨?_, fun q => absurd rfl q⟩, ?_, h6, h7, h8, h9, h10, h11, h12, h13, h14, h15, h16, h17, h18, b1, b2, b3, by show 0 ≤ 1; omega, b5, ?_, fun q => absurd q hh, b8⟩
    · simp [pm_u]
      rfl
    · rw [so_fin_on _ hh] at q
      omega
    · simp [pm_u, sCl_kd_fin, sCl_ac_fin, sCl_bg_fin, sCl_oc_fin, sCl_la_fin, sCl_wt_fin, sCl_wk_fin, sCl_tr_fin, sCl_row_fin, sCl_dg_fin, sCl_an_fin, sCl_xr_fin, sCl_kd_setRow, sCl_ac_setRow, sCl_bg_setRow, sCl_oc_setRow, sCl_la_setRow, sCl_wt_setRow, sCl_wk_setRow, sCl_tr_setRow, sCl_row_setRow, sCl_dg_setRow, sCl_an_setRow, sCl_xr_setRow, sCl_kd_setDg, sCl_ac_setDg, sCl_bg_setDg, sCl_oc_setDg, sCl_la_setDg, sCl_wt_setDg, sCl_wk_setDg, sCl_tr_setDg, sCl_row_setDg, sCl_dg_setDg, sCl_an_setDg, sCl_xr_setDg, sCl_kd_setAn, sCl_ac_setAn, sCl_bg_setAn, sCl_oc_setAn, sCl_la_setAn, sCl_wt_setAn, sCl_wk_setAn, sCl_tr_setAn, sCl_row_setAn, sCl_dg_setAn, sCl_an_setAn, sCl_xr_setAn, sCl_kd_setXr, sCl_ac_setXr, sCl_bg_setXr, sCl_oc_setXr, sCl_la_setXr, sCl_wt_setXr, sCl_wk_setXr, sCl_tr_setXr, sCl_row_setXr, sCl_dg_setXr, sCl_an_setXr, sCl_xr_setXr, sCl_kd_setWt, sCl_ac_setWt, sCl_bg_setWt, sCl_oc_setWt, sCl_la_setWt, sCl_wt_setWt, sCl_wk_setWt, sCl_tr_setWt, sCl_row_setWt, sCl_dg_setWt, sCl_an_setWt, sCl_xr_setWt, sCl_kd_setBg, sCl_ac_setBg, sCl_bg_setBg, sCl_oc_setBg, sCl_la_setBg, sCl_wt_setBg, sCl_wk_setBg, sCl_tr_setBg, sCl_row_setBg, sCl_dg_setBg, sCl_an_setBg, sCl_xr_setBg, sCl_kd_new, sCl_ac_new, sCl_bg_new, sCl_oc_new, sCl_la_new, sCl_wt_new, sCl_wk_new, sCl_tr_new, sCl_row_new, sCl_dg_new, sCl_an_new, sCl_xr_new]
    · rw [am_u_ne _ _ (by omega), am_u_ne _ _ (by omega), am_u_self, if_pos rfl, ← c1]
      rfl
    · show 5 ≤ 5
      omega
end MCL
