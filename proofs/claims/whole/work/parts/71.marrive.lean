/-! THE REFERENCE: bytes arrive -/
theorem wl_erase {fs : List Nat} {j k : Nat} : (fs.eraseIdx j).getD k 0 = if k < j then fs.getD k 0 else fs.getD (k + 1) 0 := by
  rw [List.getD_eq_getElem?_getD, List.getElem?_eraseIdx]
  split
  · rw [List.getD_eq_getElem?_getD]
  · rw [List.getD_eq_getElem?_getD]
/-- only inbox a has changed -/
def mgf (I I' : pm_I) (a : Nat) : Prop := (∀ x, x ≠ 408 → x ≠ 409 → I' x = I x) ∧ (∀ j, j < 64 * a ∨ 64 * a + 64 ≤ j → I' 408 j = I 408 j) ∧ ∀ j, j ≠ a → I' 409 j = I 409 j
theorem mgf.refl (I : pm_I) (a : Nat) : mgf I I a := ⟨fun _ _ _ => rfl, fun _ _ => rfl, fun _ _ => rfl⟩
theorem mgf.trans {I I' I'' : pm_I} {a : Nat} (h : mgf I I' a) (h' : mgf I' I'' a) : mgf I I'' a := ⟨fun x h1 h2 => (h'.1 x h1 h2).trans (h.1 x h1 h2), fun j hj => (h'.2.1 j hj).trans (h.2.1 j hj), fun j hj => (h'.2.2 j hj).trans (h.2.2 j hj)⟩
theorem mgf_8 {I : pm_I} {a j : Nat} {v : Int32} (h : 64 * a ≤ j ∧ j < 64 * a + 64) : mgf I (am_u I 408 j v) a := ⟨fun x h1 _ => am_u_ne _ _ h1, fun i hi => by rw [am_u_self, if_neg (by omega)], fun i _ => by rw [am_u_ne _ _ (by omega)]⟩
theorem mgf_9 {I : pm_I} {a : Nat} {v : Int32} : mgf I (am_u I 409 a v) a := ⟨fun x _ h2 => am_u_ne _ _ h2, fun i hi => by rw [am_u_ne _ _ (by omega)], fun i hi => by rw [am_u_self, if_neg hi]⟩
theorem mgf_mf {I I' : pm_I} {a : Nat} (h : mgf I I' a) : mf_at I I' := fun x hx => h.1 x (by omega) (by omega)
theorem sg_len {p : Nat} {g : List Nat} (h : sg_ok p g) (hp : p ≤ 40) : g.length ≤ 44 := by
  rcases h with rfl | h
  · simp
  · omega
/-- all of the reference's memory, but for the ways and the inboxes -/
def mz_at (I : pm_I) (J : pm_J) (p : Nat) (T : sT) : Prop := ms_at I p T.ck T.sv.bz T.bk (T.w0.rf + T.w1.rf) T.mk T.sv.nb T.sv.nr ∧ mk_at I J T.cs T.mk T.ck ∧ mv_at I J T.sv ∧ (8 ≤ p ∧ p ≤ 40)
section MAR
variable {K : am_K} {I I' : pm_I} {J J' : pm_J} {p a e : Nat} {T : sT} {W : sWy} {g : List Nat}
theorem mt_mz (h : mt_at I J p T) : mz_at I J p T := ⟨h.1, h.2.2.1, h.2.2.2.1, h.2.2.2.2.2⟩
theorem mz_congr (h : mz_at I J p T) (f : ∀ x, x ≤ 401 → I' x = I x) : mz_at I' J p T := by
  obtain ⟨h1, h2, h3, h4⟩ := h
  refine ⟨?_, mk_congr h2 (fun x _ _ => f x (by omega)) (fun _ _ _ => rfl), mv_congr h3 (fun x _ _ => f x (by omega)) (fun _ _ _ => rfl), h4⟩
  unfold ms_at at *
  rw [f 370 (by omega)]
  exact h1
theorem mg_other {b : Nat} (h : mg_at I b p g) (hp : p ≤ 40) (f : mgf I I' a) (hne : b ≠ a) : mg_at I' b p g := by
  obtain ⟨h1, h2, h3, h4⟩ := h
  have := sg_len h3 hp
  refine ⟨by rw [f.2.2 b hne]; exact h1, fun i hi => ?_, h3, h4⟩
  rw [f.2.1 _ (by omega)]
  exact h2 i hi
theorem mt_g0 (h : mt_at I J p T) (f : mgf I I' 1) (hg : mg_at I' 1 p g) : mt_at I' J p (T.setG0 g) := by
  obtain ⟨h1, ⟨h2, h3⟩, h4, h5, ⟨h6, h7⟩, h8⟩ := h
  refine ⟨?_, ⟨mw_congr h2 (fun x _ _ => f.1 x (by omega) (by omega)), mw_congr h3 (fun x _ _ => f.1 x (by omega) (by omega))⟩, mk_congr h4 (fun x _ _ => f.1 x (by omega) (by omega)) (fun _ _ _ => rfl), mv_congr h5 (fun x _ _ => f.1 x (by omega) (by omega)) (fun _ _ _ => rfl), ⟨hg, mg_other h7 h8.2 f (by omega)⟩, h8⟩
  unfold ms_at at *
  rw [f.1 370 (by omega) (by omega)]
  exact h1
theorem mt_g1 (h : mt_at I J p T) (f : mgf I I' 0) (hg : mg_at I' 0 p g) : mt_at I' J p (T.setG1 g) := by
  obtain ⟨h1, ⟨h2, h3⟩, h4, h5, ⟨h6, h7⟩, h8⟩ := h
  refine ⟨?_, ⟨mw_congr h2 (fun x _ _ => f.1 x (by omega) (by omega)), mw_congr h3 (fun x _ _ => f.1 x (by omega) (by omega))⟩, mk_congr h4 (fun x _ _ => f.1 x (by omega) (by omega)) (fun _ _ _ => rfl), mv_congr h5 (fun x _ _ => f.1 x (by omega) (by omega)) (fun _ _ _ => rfl), ⟨mg_other h6 h8.2 f (by omega), hg⟩, h8⟩
  unfold ms_at at *
  rw [f.1 370 (by omega) (by omega)]
  exact h1
/-- all that is under way is gone -/
theorem m_gone (M : ml_ok K) (h : mz_at I J p T) (d : Nat) : ∃ I' : pm_I, f_X9_gone d 370 (K, I, J) = some ((0, 0, none), (K, I', J)) ∧ mt_at I' J p (st_clear T) ∧ mf_at I I' := by
  rw [e_X9_gone, e_l_X9_gone_2]
  simp (disch := first | assumption | omega) only [m_is M, m_gI M, m_pI M, mR7 M, mL371 M, mW371 M, mR8 M, mL372 M, mW372 M, mR9 M, mL373 M, mW373 M, mR10 M, mL374 M, mW374 M, mR11 M, mL375 M, mW375 M, mR12 M, mL376 M, mW376_0 M, mW376_1 M, mR13 M, mL377 M, mW377 M, mR14 M, mL378 M, mW378 M, mR15 M, mL379 M, mW379 M, mR16 M, mL380 M, mW380 M, mR17 M, mL381 M, mW381 M, mR18 M, mL382 M, mW382 M, mR19 M, mL383 M, mW383_0 M, mW383_1 M, mR20 M, mL384 M, mW384_0 M, mW384_1 M, mR21 M, mL385 M, mW385 M, mR22 M, mL386 M, mW386 M, mR23 M, mL387 M, mW387 M, mR26 M, mL388 M, mW388 M, mR27 M, mL389 M, mW389 M, mR28 M, mL390 M, mW390 M, mR29 M, mL391 M, mW391 M, mR30 M, mL392 M, mW392 M, mR31 M, mL393 M, mW393 M, mR32 M, mL394 M, mW394_0 M, mW394_1 M, mR33 M, mL395 M, mW395_0 M, mW395_1 M, mR34 M, mL396 M, mW396 M, mR35 M, mL397 M, mW397 M, mR36 M, mL398 M, mW398 M, mR37 M, mL399 M, mW399 M, mR38 M, mL400 M, mW400 M, mR39 M, mL401 M, mW401 M, mR40 M, mL402 M, mW402 M, mR41 M, mL403 M, mW403 M, mR42 M, mL404 M, mW404 M, mR43 M, mL405 M, mW405 M, mR44 M, mL406 M, mW406 M, mR45 M, mL407 M, mW407 M, mR46 M, mL408 M, mW408 M, mR47 M, mL409 M, mW409 M, mR48 M, mL410 M, mW410 M, Option.bind_some, pm_u, pm_ur, pm_lt, pm_le, pm_eq, pm_ne, pm_add, pm_sub, pm_mul, pm_z0, pm_z1, cond_true, cond_false, decide_true, decide_false, not_false_eq_true, not_true_eq_false, reduceIte, Nat.reduceEqDiff, Nat.add_eq_left, Nat.left_eq_add, Nat.add_left_cancel_iff, Nat.one_ne_zero, Nat.reduceMul, Nat.reduceAdd, Nat.reduceSub, Nat.reduceEqDiff, Nat.reduceLT, Nat.reduceLeDiff, Nat.not_lt_zero, Nat.zero_le, am_cs]
  rw [e_l_X9_gone_2]
  simp (disch := first | assumption | omega) only [m_is M, m_gI M, m_pI M, mR7 M, mL371 M, mW371 M, mR8 M, mL372 M, mW372 M, mR9 M, mL373 M, mW373 M, mR10 M, mL374 M, mW374 M, mR11 M, mL375 M, mW375 M, mR12 M, mL376 M, mW376_0 M, mW376_1 M, mR13 M, mL377 M, mW377 M, mR14 M, mL378 M, mW378 M, mR15 M, mL379 M, mW379 M, mR16 M, mL380 M, mW380 M, mR17 M, mL381 M, mW381 M, mR18 M, mL382 M, mW382 M, mR19 M, mL383 M, mW383_0 M, mW383_1 M, mR20 M, mL384 M, mW384_0 M, mW384_1 M, mR21 M, mL385 M, mW385 M, mR22 M, mL386 M, mW386 M, mR23 M, mL387 M, mW387 M, mR26 M, mL388 M, mW388 M, mR27 M, mL389 M, mW389 M, mR28 M, mL390 M, mW390 M, mR29 M, mL391 M, mW391 M, mR30 M, mL392 M, mW392 M, mR31 M, mL393 M, mW393 M, mR32 M, mL394 M, mW394_0 M, mW394_1 M, mR33 M, mL395 M, mW395_0 M, mW395_1 M, mR34 M, mL396 M, mW396 M, mR35 M, mL397 M, mW397 M, mR36 M, mL398 M, mW398 M, mR37 M, mL399 M, mW399 M, mR38 M, mL400 M, mW400 M, mR39 M, mL401 M, mW401 M, mR40 M, mL402 M, mW402 M, mR41 M, mL403 M, mW403 M, mR42 M, mL404 M, mW404 M, mR43 M, mL405 M, mW405 M, mR44 M, mL406 M, mW406 M, mR45 M, mL407 M, mW407 M, mR46 M, mL408 M, mW408 M, mR47 M, mL409 M, mW409 M, mR48 M, mL410 M, mW410 M, Option.bind_some, pm_u, pm_ur, pm_lt, pm_le, pm_eq, pm_ne, pm_add, pm_sub, pm_mul, pm_z0, pm_z1, cond_true, cond_false, decide_true, decide_false, not_false_eq_true, not_true_eq_false, reduceIte, Nat.reduceEqDiff, Nat.add_eq_left, Nat.left_eq_add, Nat.add_left_cancel_iff, Nat.one_ne_zero, Nat.reduceMul, Nat.reduceAdd, Nat.reduceSub, Nat.reduceEqDiff, Nat.reduceLT, Nat.reduceLeDiff, Nat.not_lt_zero, Nat.zero_le, am_cs]
  rw [e_l_X9_gone_2]
  simp (disch := first | assumption | omega) only [m_is M, m_gI M, m_pI M, mR7 M, mL371 M, mW371 M, mR8 M, mL372 M, mW372 M, mR9 M, mL373 M, mW373 M, mR10 M, mL374 M, mW374 M, mR11 M, mL375 M, mW375 M, mR12 M, mL376 M, mW376_0 M, mW376_1 M, mR13 M, mL377 M, mW377 M, mR14 M, mL378 M, mW378 M, mR15 M, mL379 M, mW379 M, mR16 M, mL380 M, mW380 M, mR17 M, mL381 M, mW381 M, mR18 M, mL382 M, mW382 M, mR19 M, mL383 M, mW383_0 M, mW383_1 M, mR20 M, mL384 M, mW384_0 M, mW384_1 M, mR21 M, mL385 M, mW385 M, mR22 M, mL386 M, mW386 M, mR23 M, mL387 M, mW387 M, mR26 M, mL388 M, mW388 M, mR27 M, mL389 M, mW389 M, mR28 M, mL390 M, mW390 M, mR29 M, mL391 M, mW391 M, mR30 M, mL392 M, mW392 M, mR31 M, mL393 M, mW393 M, mR32 M, mL394 M, mW394_0 M, mW394_1 M, mR33 M, mL395 M, mW395_0 M, mW395_1 M, mR34 M, mL396 M, mW396 M, mR35 M, mL397 M, mW397 M, mR36 M, mL398 M, mW398 M, mR37 M, mL399 M, mW399 M, mR38 M, mL400 M, mW400 M, mR39 M, mL401 M, mW401 M, mR40 M, mL402 M, mW402 M, mR41 M, mL403 M, mW403 M, mR42 M, mL404 M, mW404 M, mR43 M, mL405 M, mW405 M, mR44 M, mL406 M, mW406 M, mR45 M, mL407 M, mW407 M, mR46 M, mL408 M, mW408 M, mR47 M, mL409 M, mW409 M, mR48 M, mL410 M, mW410 M, Option.bind_some, pm_u, pm_ur, pm_lt, pm_le, pm_eq, pm_ne, pm_add, pm_sub, pm_mul, pm_z0, pm_z1, cond_true, cond_false, decide_true, decide_false, not_false_eq_true, not_true_eq_false, reduceIte, Nat.reduceEqDiff, Nat.add_eq_left, Nat.left_eq_add, Nat.add_left_cancel_iff, Nat.one_ne_zero, Nat.reduceMul, Nat.reduceAdd, Nat.reduceSub, Nat.reduceEqDiff, Nat.reduceLT, Nat.reduceLeDiff, Nat.not_lt_zero, Nat.zero_le, am_cs]
  refine ⟨_, rfl, ?_, ?_⟩
  · obtain ⟨h1, h2, h3, h4⟩ := h
    have hmw : ∀ (I : pm_I) (e : Nat) (rf : Nat), I 403 e = nI 0 → I 404 e = nI 0 → I 406 e = nI 0 → I 407 e = nI 0 → mw_at I e ([], [], 0, rf) := by
      intro I e rf q1 q2 q3 q4
      refine ⟨0, q1, q2, q3, q4, by show 0 + 0 ≤ 4200; omega, by show 0 ≤ 2000; omega, by show 0 ≤ 410; omega, fun i hi => absurd hi (by show ¬ i < 0; omega), fun i hi => absurd hi (by show ¬ i < 0; omega), ?_⟩
      exact ⟨fun x hx => absurd hx (by show ¬ x ∈ ([] : List Nat); simp), fun x hx => absurd hx (by show ¬ x ∈ ([] : List Nat); simp), rfl, fun f hf => absurd hf (by show ¬ ([] : List Nat).head? = some f; simp)⟩
    have hmg : ∀ (I : pm_I) (a : Nat), I 409 a = nI 0 → mg_at I a p [] := fun I a q => ⟨q, fun i hi => absurd hi (by simp), Or.inl rfl, fun x hx => absurd hx (by simp)⟩
    refine ⟨?_, ⟨hmw _ 0 _ ?_ ?_ ?_ ?_, hmw _ 1 _ ?_ ?_ ?_ ?_⟩, mk_congr h2 (fun x _ _ => ?_) (fun _ _ _ => rfl), mv_congr h3 (fun x _ _ => ?_) (fun _ _ _ => rfl), ⟨hmg _ 1 ?_, hmg _ 0 ?_⟩, h4⟩
    · unfold ms_at at *
      simp only [pm_u, reduceIte, Nat.reduceEqDiff]
      exact h1
    all_goals first
      | (simp [pm_u]; done)
      | (repeat (rw [am_u_ne _ _ (by omega)]))
  · intro x hx
    repeat (rw [am_u_ne _ _ (by omega)])
theorem m_breaks (M : ml_ok K) (h : mz_at I J p T) (d : Nat) : ∃ I' : pm_I, f_X9_breaks (d + 1) 370 (K, I, J) = some ((0, 0, none), (K, I', J)) ∧ mt_at I' J p (st_broken T) ∧ mf_at I I' := by
  have hb : I 370 4 = nI T.bk := h.1.2.2.2.1
  have h' : mz_at (am_u I 370 4 (nI (T.bk + 1))) J p (T.setBk (T.bk + 1)) := by
    obtain ⟨h1, h2, h3, h4⟩ := h
    refine ⟨?_, mk_congr h2 (fun x _ _ => am_u_ne _ _ (by omega)) (fun _ _ _ => rfl), mv_congr h3 (fun x _ _ => am_u_ne _ _ (by omega)) (fun _ _ _ => rfl), h4⟩
    unfold ms_at at *
    simp only [pm_u, reduceIte, Nat.reduceEqDiff]
    exact ⟨h1.1, h1.2.1, h1.2.2.1, rfl, h1.2.2.2.2⟩
  obtain ⟨I1, a1, a2, a3⟩ := m_gone M h' d
  rw [e_X9_breaks]
  simp (disch := first | assumption | omega) only [m_is M, m_gI M, m_pI M, mR7 M, mL371 M, mW371 M, mR8 M, mL372 M, mW372 M, mR9 M, mL373 M, mW373 M, mR10 M, mL374 M, mW374 M, mR11 M, mL375 M, mW375 M, mR12 M, mL376 M, mW376_0 M, mW376_1 M, mR13 M, mL377 M, mW377 M, mR14 M, mL378 M, mW378 M, mR15 M, mL379 M, mW379 M, mR16 M, mL380 M, mW380 M, mR17 M, mL381 M, mW381 M, mR18 M, mL382 M, mW382 M, mR19 M, mL383 M, mW383_0 M, mW383_1 M, mR20 M, mL384 M, mW384_0 M, mW384_1 M, mR21 M, mL385 M, mW385 M, mR22 M, mL386 M, mW386 M, mR23 M, mL387 M, mW387 M, mR26 M, mL388 M, mW388 M, mR27 M, mL389 M, mW389 M, mR28 M, mL390 M, mW390 M, mR29 M, mL391 M, mW391 M, mR30 M, mL392 M, mW392 M, mR31 M, mL393 M, mW393 M, mR32 M, mL394 M, mW394_0 M, mW394_1 M, mR33 M, mL395 M, mW395_0 M, mW395_1 M, mR34 M, mL396 M, mW396 M, mR35 M, mL397 M, mW397 M, mR36 M, mL398 M, mW398 M, mR37 M, mL399 M, mW399 M, mR38 M, mL400 M, mW400 M, mR39 M, mL401 M, mW401 M, mR40 M, mL402 M, mW402 M, mR41 M, mL403 M, mW403 M, mR42 M, mL404 M, mW404 M, mR43 M, mL405 M, mW405 M, mR44 M, mL406 M, mW406 M, mR45 M, mL407 M, mW407 M, mR46 M, mL408 M, mW408 M, mR47 M, mL409 M, mW409 M, mR48 M, mL410 M, mW410 M, Option.bind_some, pm_u, pm_ur, pm_lt, pm_le, pm_eq, pm_ne, pm_add, pm_sub, pm_mul, pm_z0, pm_z1, cond_true, cond_false, decide_true, decide_false, not_false_eq_true, not_true_eq_false, reduceIte, Nat.reduceEqDiff, Nat.add_eq_left, Nat.left_eq_add, Nat.add_left_cancel_iff, Nat.one_ne_zero, Nat.reduceMul, Nat.reduceAdd, Nat.reduceSub, Nat.reduceEqDiff, Nat.reduceLT, Nat.reduceLeDiff, Nat.not_lt_zero, Nat.zero_le, am_cs, hb, a1]
  refine ⟨I1, rfl, a2, ?_⟩
  intro x hx
  rw [a3 x hx, am_u_ne _ _ (by omega)]
theorem m_dropLoop (M : ml_ok K) (he : e ≤ 1) {fs : List Nat} {j : Nat} (hj : j < fs.length) (hl : fs.length ≤ 900) (d : Nat) : ∀ (n i : Nat) (I : pm_I), i + n = fs.length - 1 → j ≤ i → I 406 e = nI (fs.length - 1) → (∀ k, k < i → I 405 (900 * e + k) = nI ((fs.eraseIdx j).getD k 0)) → (∀ k, i ≤ k → k < fs.length → I 405 (900 * e + k) = nI (fs.getD k 0)) →
    ∃ I' : pm_I, l_X9_dropFrame_12 d 370 (nI e) (nI i) (K, I, J) = some ((0, 0, none), (K, I', J)) ∧ wl_at I' 405 (900 * e) (fs.eraseIdx j) ∧ mwf I I' e ∧ ∀ x, x ≠ 405 → I' x = I x := by
  have hlen : (fs.eraseIdx j).length = fs.length - 1 := by rw [List.length_eraseIdx, if_pos hj]
  intro n
  induction n with
  | zero =>
    intro i I hi hji h1 h2 h3
    have c0 : fs.length - 1 ≤ i := by omega
    rw [e_l_X9_dropFrame_12]
    simp (disch := first | assumption | omega) only [m_is M, m_gI M, m_pI M, mR7 M, mL371 M, mW371 M, mR8 M, mL372 M, mW372 M, mR9 M, mL373 M, mW373 M, mR10 M, mL374 M, mW374 M, mR11 M, mL375 M, mW375 M, mR12 M, mL376 M, mW376_0 M, mW376_1 M, mR13 M, mL377 M, mW377 M, mR14 M, mL378 M, mW378 M, mR15 M, mL379 M, mW379 M, mR16 M, mL380 M, mW380 M, mR17 M, mL381 M, mW381 M, mR18 M, mL382 M, mW382 M, mR19 M, mL383 M, mW383_0 M, mW383_1 M, mR20 M, mL384 M, mW384_0 M, mW384_1 M, mR21 M, mL385 M, mW385 M, mR22 M, mL386 M, mW386 M, mR23 M, mL387 M, mW387 M, mR26 M, mL388 M, mW388 M, mR27 M, mL389 M, mW389 M, mR28 M, mL390 M, mW390 M, mR29 M, mL391 M, mW391 M, mR30 M, mL392 M, mW392 M, mR31 M, mL393 M, mW393 M, mR32 M, mL394 M, mW394_0 M, mW394_1 M, mR33 M, mL395 M, mW395_0 M, mW395_1 M, mR34 M, mL396 M, mW396 M, mR35 M, mL397 M, mW397 M, mR36 M, mL398 M, mW398 M, mR37 M, mL399 M, mW399 M, mR38 M, mL400 M, mW400 M, mR39 M, mL401 M, mW401 M, mR40 M, mL402 M, mW402 M, mR41 M, mL403 M, mW403 M, mR42 M, mL404 M, mW404 M, mR43 M, mL405 M, mW405 M, mR44 M, mL406 M, mW406 M, mR45 M, mL407 M, mW407 M, mR46 M, mL408 M, mW408 M, mR47 M, mL409 M, mW409 M, mR48 M, mL410 M, mW410 M, Option.bind_some, pm_u, pm_ur, pm_lt, pm_le, pm_eq, pm_ne, pm_add, pm_sub, pm_mul, pm_z0, pm_z1, cond_true, cond_false, decide_true, decide_false, not_false_eq_true, not_true_eq_false, reduceIte, Nat.reduceEqDiff, Nat.add_eq_left, Nat.left_eq_add, Nat.add_left_cancel_iff, Nat.one_ne_zero, Nat.reduceMul, Nat.reduceAdd, Nat.reduceSub, Nat.reduceEqDiff, Nat.reduceLT, Nat.reduceLeDiff, Nat.not_lt_zero, Nat.zero_le, am_cs, h1, c0]
    exact ⟨I, rfl, fun k hk => h2 k (by omega), mwf.refl _ _, fun _ _ => rfl⟩
  | succ n ih =>
    intro i I hi hji h1 h2 h3
    have c0 : ¬ fs.length - 1 ≤ i := by omega
    have hb := h3 (i + 1) (by omega) (by omega)
    obtain ⟨I2, q1, q2, q3, q4⟩ := ih (i + 1) (am_u I 405 (900 * e + i) (nI (fs.getD (i + 1) 0))) (by omega) (by omega) (by rw [am_u_ne _ _ (by omega)]; exact h1) (fun k hk => by
      rw [am_u_self]
      by_cases q : k = i
      · rw [if_pos (by omega), q, wl_erase, if_neg (by omega)]
      · rw [if_neg (by omega)]
        exact h2 k (by omega)) (fun k hk hk2 => by
      rw [am_u_self, if_neg (by omega)]
      exact h3 k (by omega) hk2)
    have f1 : mwf I (am_u I 405 (900 * e + i) (nI (fs.getD (i + 1) 0))) e := mwf_405 (by omega)
    have hb' : I 405 (900 * e + i + 1) = nI (fs.getD (i + 1) 0) := hb
    rw [e_l_X9_dropFrame_12]
    simp (disch := first | assumption | omega) only [m_is M, m_gI M, m_pI M, mR7 M, mL371 M, mW371 M, mR8 M, mL372 M, mW372 M, mR9 M, mL373 M, mW373 M, mR10 M, mL374 M, mW374 M, mR11 M, mL375 M, mW375 M, mR12 M, mL376 M, mW376_0 M, mW376_1 M, mR13 M, mL377 M, mW377 M, mR14 M, mL378 M, mW378 M, mR15 M, mL379 M, mW379 M, mR16 M, mL380 M, mW380 M, mR17 M, mL381 M, mW381 M, mR18 M, mL382 M, mW382 M, mR19 M, mL383 M, mW383_0 M, mW383_1 M, mR20 M, mL384 M, mW384_0 M, mW384_1 M, mR21 M, mL385 M, mW385 M, mR22 M, mL386 M, mW386 M, mR23 M, mL387 M, mW387 M, mR26 M, mL388 M, mW388 M, mR27 M, mL389 M, mW389 M, mR28 M, mL390 M, mW390 M, mR29 M, mL391 M, mW391 M, mR30 M, mL392 M, mW392 M, mR31 M, mL393 M, mW393 M, mR32 M, mL394 M, mW394_0 M, mW394_1 M, mR33 M, mL395 M, mW395_0 M, mW395_1 M, mR34 M, mL396 M, mW396 M, mR35 M, mL397 M, mW397 M, mR36 M, mL398 M, mW398 M, mR37 M, mL399 M, mW399 M, mR38 M, mL400 M, mW400 M, mR39 M, mL401 M, mW401 M, mR40 M, mL402 M, mW402 M, mR41 M, mL403 M, mW403 M, mR42 M, mL404 M, mW404 M, mR43 M, mL405 M, mW405 M, mR44 M, mL406 M, mW406 M, mR45 M, mL407 M, mW407 M, mR46 M, mL408 M, mW408 M, mR47 M, mL409 M, mW409 M, mR48 M, mL410 M, mW410 M, Option.bind_some, pm_u, pm_ur, pm_lt, pm_le, pm_eq, pm_ne, pm_add, pm_sub, pm_mul, pm_z0, pm_z1, cond_true, cond_false, decide_true, decide_false, not_false_eq_true, not_true_eq_false, reduceIte, Nat.reduceEqDiff, Nat.add_eq_left, Nat.left_eq_add, Nat.add_left_cancel_iff, Nat.one_ne_zero, Nat.reduceMul, Nat.reduceAdd, Nat.reduceSub, Nat.reduceEqDiff, Nat.reduceLT, Nat.reduceLeDiff, Nat.not_lt_zero, Nat.zero_le, am_cs, h1, c0, hb']
    refine ⟨I2, q1, q2, f1.trans q3, fun x hx => ?_⟩
    rw [q4 x hx, am_u_ne _ _ hx]
theorem m_dropFrame (M : ml_ok K) (he : e ≤ 1) {fs : List Nat} {j : Nat} (hj : j < fs.length) (hl : fs.length ≤ 900) (h1 : I 406 e = nI fs.length) (h2 : wl_at I 405 (900 * e) fs) (d : Nat) :
    ∃ I' : pm_I, f_X9_dropFrame d 370 (nI e) (nI j) (K, I, J) = some ((0, 0, none), (K, I', J)) ∧ I' 406 e = nI (fs.eraseIdx j).length ∧ wl_at I' 405 (900 * e) (fs.eraseIdx j) ∧ mwf I I' e ∧ ∀ x, x ≠ 405 → x ≠ 406 → I' x = I x := by
  have hlen : (fs.eraseIdx j).length = fs.length - 1 := by rw [List.length_eraseIdx, if_pos hj]
  obtain ⟨I2, q1, q2, q3, q4⟩ := m_dropLoop (J := J) M he hj hl d (fs.length - 1 - j) j (am_u I 406 e (nI (fs.length - 1))) (by omega) (Nat.le_refl _) (by rw [am_u_self, if_pos rfl]) (fun k hk => by
    rw [am_u_ne _ _ (by omega), h2 k (by omega), wl_erase, if_pos hk]) (fun k hk hk2 => by
    rw [am_u_ne _ _ (by omega)]
    exact h2 k hk2)
  have f1 : mwf I (am_u I 406 e (nI (fs.length - 1))) e := mwf_e (by omega)
  rw [e_X9_dropFrame]
  simp (disch := first | assumption | omega) only [m_is M, m_gI M, m_pI M, mR7 M, mL371 M, mW371 M, mR8 M, mL372 M, mW372 M, mR9 M, mL373 M, mW373 M, mR10 M, mL374 M, mW374 M, mR11 M, mL375 M, mW375 M, mR12 M, mL376 M, mW376_0 M, mW376_1 M, mR13 M, mL377 M, mW377 M, mR14 M, mL378 M, mW378 M, mR15 M, mL379 M, mW379 M, mR16 M, mL380 M, mW380 M, mR17 M, mL381 M, mW381 M, mR18 M, mL382 M, mW382 M, mR19 M, mL383 M, mW383_0 M, mW383_1 M, mR20 M, mL384 M, mW384_0 M, mW384_1 M, mR21 M, mL385 M, mW385 M, mR22 M, mL386 M, mW386 M, mR23 M, mL387 M, mW387 M, mR26 M, mL388 M, mW388 M, mR27 M, mL389 M, mW389 M, mR28 M, mL390 M, mW390 M, mR29 M, mL391 M, mW391 M, mR30 M, mL392 M, mW392 M, mR31 M, mL393 M, mW393 M, mR32 M, mL394 M, mW394_0 M, mW394_1 M, mR33 M, mL395 M, mW395_0 M, mW395_1 M, mR34 M, mL396 M, mW396 M, mR35 M, mL397 M, mW397 M, mR36 M, mL398 M, mW398 M, mR37 M, mL399 M, mW399 M, mR38 M, mL400 M, mW400 M, mR39 M, mL401 M, mW401 M, mR40 M, mL402 M, mW402 M, mR41 M, mL403 M, mW403 M, mR42 M, mL404 M, mW404 M, mR43 M, mL405 M, mW405 M, mR44 M, mL406 M, mW406 M, mR45 M, mL407 M, mW407 M, mR46 M, mL408 M, mW408 M, mR47 M, mL409 M, mW409 M, mR48 M, mL410 M, mW410 M, Option.bind_some, pm_u, pm_ur, pm_lt, pm_le, pm_eq, pm_ne, pm_add, pm_sub, pm_mul, pm_z0, pm_z1, cond_true, cond_false, decide_true, decide_false, not_false_eq_true, not_true_eq_false, reduceIte, Nat.reduceEqDiff, Nat.add_eq_left, Nat.left_eq_add, Nat.add_left_cancel_iff, Nat.one_ne_zero, Nat.reduceMul, Nat.reduceAdd, Nat.reduceSub, Nat.reduceEqDiff, Nat.reduceLT, Nat.reduceLeDiff, Nat.not_lt_zero, Nat.zero_le, am_cs, h1]
  refine ⟨I2, q1, ?_, q2, f1.trans q3, fun x h5 h6 => ?_⟩
  · rw [q4 406 (by omega), am_u_self, if_pos rfl, hlen]
  · rw [q4 x h5, am_u_ne _ _ h6]
theorem wv_next (h : wv_ok W.q W.fs W.ar) (hq : 0 < W.q.length) : wv_ok W.nx.q W.nx.fs W.nx.ar ∧ 0 < W.fs.length ∧ W.ar < W.fs.getD 0 0 ∧ W.q.getD 0 0 < 256 ∧ W.fs.getD 0 0 ≤ 45 := by
  have har := wv_ar h
  obtain ⟨v1, v2, v3, v4⟩ := h
  obtain ⟨q, fs, ar, rf⟩ := W
  cases q with
  | nil => exact absurd hq (by show ¬ 0 < 0; omega)
  | cons b q =>
    cases fs with
    | nil =>
      have v3 : 0 = (b :: q).length + ar := v3
      simp at v3
      omega
    | cons f fs =>
      have hf := v2 f List.mem_cons_self
      have v3' : f + fs.sum = q.length + 1 + ar := by
        have : (f :: fs).sum = (b :: q).length + ar := v3
        simpa using this
      have v4' : ar < f := v4 f rfl
      refine ⟨?_, by show 0 < fs.length + 1; omega, v4', v1 b List.mem_cons_self, hf.2⟩
      show wv_ok q (if ar + 1 < f then f :: fs else fs) (if ar + 1 < f then ar + 1 else 0)
      by_cases c : ar + 1 < f
      · rw [if_pos c, if_pos c]
        refine ⟨fun x hx => v1 x (List.mem_cons_of_mem _ hx), v2, ?_, fun f' hf' => ?_⟩
        · simp
          omega
        · have : f = f' := by simpa using hf'
          omega
      · rw [if_neg c, if_neg c]
        refine ⟨fun x hx => v1 x (List.mem_cons_of_mem _ hx), fun y hy => v2 y (List.mem_cons_of_mem _ hy), by omega, fun f' hf' => ?_⟩
        have := v2 f' (List.mem_cons_of_mem _ (List.mem_of_mem_head? hf'))
        omega
theorem wl_headD {l : List Nat} : l.headD 0 = l.getD 0 0 := by cases l <;> rfl
theorem wl_tail {b q : Nat} {l : List Nat} (h : wl_at I b q l) : wl_at I b (q + 1) l.tail := by
  intro i hi
  rw [List.length_tail] at hi
  have := h (i + 1) (by omega)
  rw [show q + 1 + i = q + (i + 1) by omega, this]
  simp
/-- a byte leaves its way -/
theorem m_arr0 (M : ml_ok K) (he : e ≤ 1) (h : mw_at I e W) (hq : 0 < W.q.length) (d : Nat) :
    ∃ I' : pm_I, f_X9_arrives (d + 1) 370 (nI e) (K, I, J) = l_X9_arrives_80 (d + 1) 370 (nI e) (nI (W.q.headD 0)) (K, I', J) ∧ mw_at I' e W.nx ∧ mwf I I' e ∧ I' 370 = I 370 ∧ W.q.headD 0 < 256 := by
  obtain ⟨rm, h1, h2, h3, h4, h5, h6, h7, h8, h9, h10⟩ := h
  obtain ⟨v1, v2, v3, v4, v5⟩ := wv_next h10 hq
  have hb := h8 0 hq
  rw [Nat.add_zero] at hb
  have hf := h9 0 v2
  rw [Nat.add_zero] at hf
  rw [wl_headD]
  have har := wv_ar h10
  have f1 : mwf I (am_u (am_u (am_u I 403 e (nI (rm + 1))) 404 e (nI (W.q.length - 1))) 407 e (nI (W.ar + 1))) e := (mwf_e (by omega)).trans ((mwf_e (by omega)).trans (mwf_e (by omega)))
  have eI : ∀ x, x ≠ 403 → x ≠ 404 → x ≠ 407 → am_u (am_u (am_u I 403 e (nI (rm + 1))) 404 e (nI (W.q.length - 1))) 407 e (nI (W.ar + 1)) x = I x := fun x q1 q2 q3 => by rw [am_u_ne _ _ q3, am_u_ne _ _ q2, am_u_ne _ _ q1]
  have hq8 : wl_at I 402 (4200 * e + (rm + 1)) W.q.tail := wl_tail h8
  have hnq : W.nx.q.length = W.q.length - 1 := sWy_nx_len W
  rw [e_X9_arrives]
  by_cases c0 : W.ar + 1 = W.fs.getD 0 0
  · have hd := m_dropFrame (J := J) (I := am_u (am_u (am_u I 403 e (nI (rm + 1))) 404 e (nI (W.q.length - 1))) 407 e (nI (W.ar + 1))) (j := 0) M he v2 (by omega) (by rw [eI 406 (by omega) (by omega) (by omega)]; exact h3) (wl_congr (b := 0) h9 (eI 405 (by omega) (by omega) (by omega))) d
    obtain ⟨I2, q1, q2, q3, q4, q5⟩ := hd
    have hfs : W.nx.fs = W.fs.eraseIdx 0 := by
      show (if W.ar + 1 < W.fs.headD 0 then W.fs else W.fs.tail) = _
      rw [wl_headD, if_neg (by omega), List.eraseIdx_zero]
    have har0 : W.nx.ar = 0 := by
      show (if W.ar + 1 < W.fs.headD 0 then W.ar + 1 else 0) = _
      rw [wl_headD, if_neg (by omega)]
    have hlen : (W.fs.eraseIdx 0).length = W.fs.length - 1 := by rw [List.length_eraseIdx, if_pos v2]
    have f2 : mwf I2 (am_u I2 407 e (nI 0)) e := mwf_e (by omega)
    simp (disch := first | assumption | omega) only [m_is M, m_gI M, m_pI M, mR7 M, mL371 M, mW371 M, mR8 M, mL372 M, mW372 M, mR9 M, mL373 M, mW373 M, mR10 M, mL374 M, mW374 M, mR11 M, mL375 M, mW375 M, mR12 M, mL376 M, mW376_0 M, mW376_1 M, mR13 M, mL377 M, mW377 M, mR14 M, mL378 M, mW378 M, mR15 M, mL379 M, mW379 M, mR16 M, mL380 M, mW380 M, mR17 M, mL381 M, mW381 M, mR18 M, mL382 M, mW382 M, mR19 M, mL383 M, mW383_0 M, mW383_1 M, mR20 M, mL384 M, mW384_0 M, mW384_1 M, mR21 M, mL385 M, mW385 M, mR22 M, mL386 M, mW386 M, mR23 M, mL387 M, mW387 M, mR26 M, mL388 M, mW388 M, mR27 M, mL389 M, mW389 M, mR28 M, mL390 M, mW390 M, mR29 M, mL391 M, mW391 M, mR30 M, mL392 M, mW392 M, mR31 M, mL393 M, mW393 M, mR32 M, mL394 M, mW394_0 M, mW394_1 M, mR33 M, mL395 M, mW395_0 M, mW395_1 M, mR34 M, mL396 M, mW396 M, mR35 M, mL397 M, mW397 M, mR36 M, mL398 M, mW398 M, mR37 M, mL399 M, mW399 M, mR38 M, mL400 M, mW400 M, mR39 M, mL401 M, mW401 M, mR40 M, mL402 M, mW402 M, mR41 M, mL403 M, mW403 M, mR42 M, mL404 M, mW404 M, mR43 M, mL405 M, mW405 M, mR44 M, mL406 M, mW406 M, mR45 M, mL407 M, mW407 M, mR46 M, mL408 M, mW408 M, mR47 M, mL409 M, mW409 M, mR48 M, mL410 M, mW410 M, Option.bind_some, pm_u, pm_ur, pm_lt, pm_le, pm_eq, pm_ne, pm_add, pm_sub, pm_mul, pm_z0, pm_z1, cond_true, cond_false, decide_true, decide_false, not_false_eq_true, not_true_eq_false, reduceIte, Nat.reduceEqDiff, Nat.add_eq_left, Nat.left_eq_add, Nat.add_left_cancel_iff, Nat.one_ne_zero, Nat.reduceMul, Nat.reduceAdd, Nat.reduceSub, Nat.reduceEqDiff, Nat.reduceLT, Nat.reduceLeDiff, Nat.not_lt_zero, Nat.zero_le, am_cs, h1, hb, h2, h4, hf, c0]
    rw [← c0]
    simp (disch := first | assumption | omega) only [m_is M, m_gI M, m_pI M, mR7 M, mL371 M, mW371 M, mR8 M, mL372 M, mW372 M, mR9 M, mL373 M, mW373 M, mR10 M, mL374 M, mW374 M, mR11 M, mL375 M, mW375 M, mR12 M, mL376 M, mW376_0 M, mW376_1 M, mR13 M, mL377 M, mW377 M, mR14 M, mL378 M, mW378 M, mR15 M, mL379 M, mW379 M, mR16 M, mL380 M, mW380 M, mR17 M, mL381 M, mW381 M, mR18 M, mL382 M, mW382 M, mR19 M, mL383 M, mW383_0 M, mW383_1 M, mR20 M, mL384 M, mW384_0 M, mW384_1 M, mR21 M, mL385 M, mW385 M, mR22 M, mL386 M, mW386 M, mR23 M, mL387 M, mW387 M, mR26 M, mL388 M, mW388 M, mR27 M, mL389 M, mW389 M, mR28 M, mL390 M, mW390 M, mR29 M, mL391 M, mW391 M, mR30 M, mL392 M, mW392 M, mR31 M, mL393 M, mW393 M, mR32 M, mL394 M, mW394_0 M, mW394_1 M, mR33 M, mL395 M, mW395_0 M, mW395_1 M, mR34 M, mL396 M, mW396 M, mR35 M, mL397 M, mW397 M, mR36 M, mL398 M, mW398 M, mR37 M, mL399 M, mW399 M, mR38 M, mL400 M, mW400 M, mR39 M, mL401 M, mW401 M, mR40 M, mL402 M, mW402 M, mR41 M, mL403 M, mW403 M, mR42 M, mL404 M, mW404 M, mR43 M, mL405 M, mW405 M, mR44 M, mL406 M, mW406 M, mR45 M, mL407 M, mW407 M, mR46 M, mL408 M, mW408 M, mR47 M, mL409 M, mW409 M, mR48 M, mL410 M, mW410 M, Option.bind_some, pm_u, pm_ur, pm_lt, pm_le, pm_eq, pm_ne, pm_add, pm_sub, pm_mul, pm_z0, pm_z1, cond_true, cond_false, decide_true, decide_false, not_false_eq_true, not_true_eq_false, reduceIte, Nat.reduceEqDiff, Nat.add_eq_left, Nat.left_eq_add, Nat.add_left_cancel_iff, Nat.one_ne_zero, Nat.reduceMul, Nat.reduceAdd, Nat.reduceSub, Nat.reduceEqDiff, Nat.reduceLT, Nat.reduceLeDiff, Nat.not_lt_zero, Nat.zero_le, am_cs, q1]
    refine ⟨_, rfl, ⟨rm + 1, ?_, ?_, ?_, ?_, ?_, ?_, ?_, ?_, ?_, v1⟩, f1.trans (q4.trans f2), ?_, v4⟩
    · rw [am_u_ne _ _ (by omega), q5 403 (by omega) (by omega)]
      simp [pm_u]
    · rw [am_u_ne _ _ (by omega), q5 404 (by omega) (by omega), hnq]
      simp [pm_u]
    · rw [am_u_ne _ _ (by omega), q2, hfs]
    · rw [am_u_self, if_pos rfl, har0]
    · rw [hnq]
      omega
    · rw [hnq]
      omega
    · rw [hfs, hlen]
      omega
    · exact wl_congr (b := 0) hq8 (by rw [am_u_ne _ _ (by omega), q5 402 (by omega) (by omega), eI 402 (by omega) (by omega) (by omega)])
    · rw [hfs]
      exact wl_congr (b := 0) q3 (am_u_ne _ _ (by omega))
    · rw [am_u_ne _ _ (by omega), q5 370 (by omega) (by omega), eI 370 (by omega) (by omega) (by omega)]
  · have hfs : W.nx.fs = W.fs := by
      show (if W.ar + 1 < W.fs.headD 0 then W.fs else W.fs.tail) = _
      rw [wl_headD, if_pos (by omega)]
    have har0 : W.nx.ar = W.ar + 1 := by
      show (if W.ar + 1 < W.fs.headD 0 then W.ar + 1 else 0) = _
      rw [wl_headD, if_pos (by omega)]
    simp (disch := first | assumption | omega) only [m_is M, m_gI M, m_pI M, mR7 M, mL371 M, mW371 M, mR8 M, mL372 M, mW372 M, mR9 M, mL373 M, mW373 M, mR10 M, mL374 M, mW374 M, mR11 M, mL375 M, mW375 M, mR12 M, mL376 M, mW376_0 M, mW376_1 M, mR13 M, mL377 M, mW377 M, mR14 M, mL378 M, mW378 M, mR15 M, mL379 M, mW379 M, mR16 M, mL380 M, mW380 M, mR17 M, mL381 M, mW381 M, mR18 M, mL382 M, mW382 M, mR19 M, mL383 M, mW383_0 M, mW383_1 M, mR20 M, mL384 M, mW384_0 M, mW384_1 M, mR21 M, mL385 M, mW385 M, mR22 M, mL386 M, mW386 M, mR23 M, mL387 M, mW387 M, mR26 M, mL388 M, mW388 M, mR27 M, mL389 M, mW389 M, mR28 M, mL390 M, mW390 M, mR29 M, mL391 M, mW391 M, mR30 M, mL392 M, mW392 M, mR31 M, mL393 M, mW393 M, mR32 M, mL394 M, mW394_0 M, mW394_1 M, mR33 M, mL395 M, mW395_0 M, mW395_1 M, mR34 M, mL396 M, mW396 M, mR35 M, mL397 M, mW397 M, mR36 M, mL398 M, mW398 M, mR37 M, mL399 M, mW399 M, mR38 M, mL400 M, mW400 M, mR39 M, mL401 M, mW401 M, mR40 M, mL402 M, mW402 M, mR41 M, mL403 M, mW403 M, mR42 M, mL404 M, mW404 M, mR43 M, mL405 M, mW405 M, mR44 M, mL406 M, mW406 M, mR45 M, mL407 M, mW407 M, mR46 M, mL408 M, mW408 M, mR47 M, mL409 M, mW409 M, mR48 M, mL410 M, mW410 M, Option.bind_some, pm_u, pm_ur, pm_lt, pm_le, pm_eq, pm_ne, pm_add, pm_sub, pm_mul, pm_z0, pm_z1, cond_true, cond_false, decide_true, decide_false, not_false_eq_true, not_true_eq_false, reduceIte, Nat.reduceEqDiff, Nat.add_eq_left, Nat.left_eq_add, Nat.add_left_cancel_iff, Nat.one_ne_zero, Nat.reduceMul, Nat.reduceAdd, Nat.reduceSub, Nat.reduceEqDiff, Nat.reduceLT, Nat.reduceLeDiff, Nat.not_lt_zero, Nat.zero_le, am_cs, h1, hb, h2, h4, hf, c0]
    refine ⟨_, rfl, ⟨rm + 1, ?_, ?_, ?_, ?_, ?_, ?_, ?_, ?_, ?_, v1⟩, f1, ?_, v4⟩
    · simp [pm_u]
    · rw [hnq]
      simp [pm_u]
    · rw [eI 406 (by omega) (by omega) (by omega), hfs]
      exact h3
    · rw [am_u_self, if_pos rfl, har0]
    · rw [hnq]
      omega
    · rw [hnq]
      omega
    · rw [hfs]
      exact h7
    · exact wl_congr (b := 0) hq8 (eI 402 (by omega) (by omega) (by omega))
    · rw [hfs]
      exact wl_congr (b := 0) h9 (eI 405 (by omega) (by omega) (by omega))
    · rw [eI 370 (by omega) (by omega) (by omega)]
end MAR
