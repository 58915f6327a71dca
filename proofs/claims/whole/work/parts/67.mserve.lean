/-! THE REFERENCE'S SERVER: its parts, and how they change -/
theorem px_nem : ∀ r : Nat, r < 10 → ¬ nI r = -nI 1 := by decide +kernel
def wp (a : Nat) : Nat := if a = 400 then 60 else if a = 398 then 3 else 1
/-- only what is written in part for call c has changed -/
def mpf {α : Type} (I I' : Nat → Nat → α) (c : Nat) : Prop := (∀ a, a ≠ 394 → a ≠ 396 → a ≠ 399 → a ≠ 400 → I' a = I a) ∧ ∀ a j, a = 394 ∨ a = 396 ∨ a = 399 ∨ a = 400 → j < wp a * c ∨ wp a * c + wp a ≤ j → I' a j = I a j
theorem mpf.refl {α : Type} (I : Nat → Nat → α) (c : Nat) : mpf I I c := ⟨fun _ _ _ _ _ => rfl, fun _ _ _ _ => rfl⟩
theorem mpf.trans {α : Type} {I I' I'' : Nat → Nat → α} {c : Nat} (h : mpf I I' c) (h' : mpf I' I'' c) : mpf I I'' c := ⟨fun a h1 h2 h3 h4 => (h'.1 a h1 h2 h3 h4).trans (h.1 a h1 h2 h3 h4), fun a j h1 h2 => (h'.2 a j h1 h2).trans (h.2 a j h1 h2)⟩
theorem mpf_u {α : Type} {I : Nat → Nat → α} {a j c : Nat} {v : α} (h1 : a = 394 ∨ a = 396 ∨ a = 399 ∨ a = 400) (h2 : wp a * c ≤ j ∧ j < wp a * c + wp a) : mpf I (am_u I a j v) c := by
  refine ⟨fun x _ _ _ _ => am_u_ne _ _ (by omega), fun x i h3 h4 => ?_⟩
  by_cases e : x = a
  · subst e
    rw [am_u_self, if_neg (by omega)]
  · rw [am_u_ne _ _ e]
theorem mpf_mf {α : Type} {I I' : Nat → Nat → α} {c : Nat} (h : mpf I I' c) : mf_at I I' := fun a ha => h.1 a (by omega) (by omega) (by omega) (by omega)
/-- only what is noted in part for call c has changed -/
def mnf {α : Type} (I I' : Nat → Nat → α) (c : Nat) : Prop := (∀ a, a ≠ 395 → a ≠ 397 → a ≠ 398 → a ≠ 401 → I' a = I a) ∧ ∀ a j, a = 395 ∨ a = 397 ∨ a = 398 ∨ a = 401 → j < wp a * c ∨ wp a * c + wp a ≤ j → I' a j = I a j
theorem mnf.refl {α : Type} (I : Nat → Nat → α) (c : Nat) : mnf I I c := ⟨fun _ _ _ _ _ => rfl, fun _ _ _ _ => rfl⟩
theorem mnf.trans {α : Type} {I I' I'' : Nat → Nat → α} {c : Nat} (h : mnf I I' c) (h' : mnf I' I'' c) : mnf I I'' c := ⟨fun a h1 h2 h3 h4 => (h'.1 a h1 h2 h3 h4).trans (h.1 a h1 h2 h3 h4), fun a j h1 h2 => (h'.2 a j h1 h2).trans (h.2 a j h1 h2)⟩
theorem mnf_u {α : Type} {I : Nat → Nat → α} {a j c : Nat} {v : α} (h1 : a = 395 ∨ a = 397 ∨ a = 398 ∨ a = 401) (h2 : wp a * c ≤ j ∧ j < wp a * c + wp a) : mnf I (am_u I a j v) c := by
  refine ⟨fun x _ _ _ _ => am_u_ne _ _ (by omega), fun x i h3 h4 => ?_⟩
  by_cases e : x = a
  · subst e
    rw [am_u_self, if_neg (by omega)]
  · rw [am_u_ne _ _ e]
theorem mnf_mf {α : Type} {I I' : Nat → Nat → α} {c : Nat} (h : mnf I I' c) : mf_at I I' := fun a ha => h.1 a (by omega) (by omega) (by omega) (by omega)
/-- only the server's cells have changed -/
def msf (I I' : pm_I) : Prop := (∀ a, a ≠ 370 → a < 388 ∨ 401 < a → I' a = I a) ∧ ∀ j, j ≠ 3 → j ≠ 24 → j ≠ 25 → I' 370 j = I 370 j
theorem msf.trans {I I' I'' : pm_I} (h : msf I I') (h' : msf I' I'') : msf I I'' := ⟨fun a h1 h2 => (h'.1 a h1 h2).trans (h.1 a h1 h2), fun j h1 h2 h3 => (h'.2 j h1 h2 h3).trans (h.2 j h1 h2 h3)⟩
theorem msf_mf {I I' : pm_I} (h : msf I I') : mf_at I I' := fun a ha => h.1 a (by omega) (by omega)
theorem msf_u {I : pm_I} {a j : Nat} {v : Int32} (h : 388 ≤ a ∧ a ≤ 401) : msf I (am_u I a j v) := ⟨fun x _ h2 => am_u_ne _ _ (by omega), fun i _ _ _ => by rw [am_u_ne _ _ (by omega)]⟩
theorem msf_s {I : pm_I} {j : Nat} {v : Int32} (h : j = 3 ∨ j = 24 ∨ j = 25) : msf I (am_u I 370 j v) := ⟨fun x h1 _ => am_u_ne _ _ h1, fun i h1 h2 h3 => by rw [am_u_self, if_neg (by omega)]⟩
theorem mpf_msf {I I' : pm_I} {c : Nat} (h : mpf I I' c) : msf I I' := ⟨fun a _ _ => h.1 a (by omega) (by omega) (by omega) (by omega), fun j _ _ _ => by rw [h.1 370 (by omega) (by omega) (by omega) (by omega)]⟩
theorem mnf_msf {I I' : pm_I} {c : Nat} (h : mnf I I' c) : msf I I' := ⟨fun a _ _ => h.1 a (by omega) (by omega) (by omega) (by omega), fun j _ _ _ => by rw [h.1 370 (by omega) (by omega) (by omega) (by omega)]⟩
section MSV
variable {K : am_K} {I I' : pm_I} {J J' : pm_J} {p c : Nat} {T : sT} {S : sSv}
theorem mp_pt {o : Option (Int64 × List Nat)} (h : mp_at I J c o) (e1 : I' 394 c = I 394 c) (e2 : J' 396 c = J 396 c) (e3 : I' 399 c = I 399 c) (e4 : ∀ j, 60 * c ≤ j → j < 60 * c + 60 → I' 400 j = I 400 j) : mp_at I' J' c o := by
  cases o with
  | none =>
    show I' 394 c = nI 0
    rw [e1]
    exact h
  | some y =>
    obtain ⟨h1, h2, h3, h4, h5, h6⟩ := h
    refine ⟨e1.trans h1, e2.trans h2, e3.trans h3, h4, fun i hi => ?_, h6⟩
    rw [e4 _ (by omega) (by omega)]
    exact h5 i hi
theorem mn_pt {o : Option (Int64 × List Int64)} (h : mn_at I J c o) (e1 : I' 395 c = I 395 c) (e2 : J' 397 c = J 397 c) (e3 : I' 401 c = I 401 c) (e4 : ∀ j, 3 * c ≤ j → j < 3 * c + 3 → J' 398 j = J 398 j) : mn_at I' J' c o := by
  cases o with
  | none =>
    show I' 395 c = nI 0
    rw [e1]
    exact h
  | some y =>
    obtain ⟨h1, h2, h3, h4, h5⟩ := h
    refine ⟨e1.trans h1, e2.trans h2, e3.trans h3, h4, fun i hi => ?_⟩
    rw [e4 _ (by omega) (by omega)]
    exact h5 i hi
theorem mv_pt (h : mv_at I J S) {o : Option (Int64 × List Nat)} (g : mpf I I' c) (g' : mpf J J' c) (ho : mp_at I' J' c o) : mv_at I' J' (S.setPt (fu_at S.pt c o)) := by
  obtain ⟨⟨s, h1, h2⟩, ⟨t, h3, h4⟩, h5, h6, h7⟩ := h
  refine ⟨⟨s, mb_congr h1 (fun a _ _ => g.1 a (by omega) (by omega) (by omega) (by omega)) (fun a _ _ => g'.1 a (by omega) (by omega) (by omega) (by omega)), h2⟩, ⟨t, mr_congr h3 (fun a _ _ => g.1 a (by omega) (by omega) (by omega) (by omega)) (fun a _ _ => g'.1 a (by omega) (by omega) (by omega) (by omega)), h4⟩, fun i hi => ?_, fun i hi => ?_, h7⟩
  · show mp_at I' J' i (fu_at S.pt c o i)
    by_cases e : i = c
    · subst e
      rw [fu_self]
      exact ho
    · rw [fu_ne _ _ e]
      exact mp_pt (h5 i hi) (g.2 394 i (by omega) (by rw [show wp 394 = 1 from rfl]; omega)) (g'.2 396 i (by omega) (by rw [show wp 396 = 1 from rfl]; omega)) (g.2 399 i (by omega) (by rw [show wp 399 = 1 from rfl]; omega)) (fun j q1 q2 => g.2 400 j (by omega) (by rw [show wp 400 = 60 from rfl]; omega))
  · exact mn_pt (h6 i hi) (by rw [g.1 395 (by omega) (by omega) (by omega) (by omega)]) (by rw [g'.1 397 (by omega) (by omega) (by omega) (by omega)]) (by rw [g.1 401 (by omega) (by omega) (by omega) (by omega)]) (fun j _ _ => by rw [g'.1 398 (by omega) (by omega) (by omega) (by omega)])
theorem mv_nt (h : mv_at I J S) {o : Option (Int64 × List Int64)} (g : mnf I I' c) (g' : mnf J J' c) (ho : mn_at I' J' c o) : mv_at I' J' (S.setNt (fu_at S.nt c o)) := by
  obtain ⟨⟨s, h1, h2⟩, ⟨t, h3, h4⟩, h5, h6, h7⟩ := h
  refine ⟨⟨s, mb_congr h1 (fun a _ _ => g.1 a (by omega) (by omega) (by omega) (by omega)) (fun a _ _ => g'.1 a (by omega) (by omega) (by omega) (by omega)), h2⟩, ⟨t, mr_congr h3 (fun a _ _ => g.1 a (by omega) (by omega) (by omega) (by omega)) (fun a _ _ => g'.1 a (by omega) (by omega) (by omega) (by omega)), h4⟩, fun i hi => ?_, fun i hi => ?_, h7⟩
  · exact mp_pt (h5 i hi) (by rw [g.1 394 (by omega) (by omega) (by omega) (by omega)]) (by rw [g'.1 396 (by omega) (by omega) (by omega) (by omega)]) (by rw [g.1 399 (by omega) (by omega) (by omega) (by omega)]) (fun j _ _ => by rw [g.1 400 (by omega) (by omega) (by omega) (by omega)])
  · show mn_at I' J' i (fu_at S.nt c o i)
    by_cases e : i = c
    · subst e
      rw [fu_self]
      exact ho
    · rw [fu_ne _ _ e]
      exact mn_pt (h6 i hi) (g.2 395 i (by omega) (by rw [show wp 395 = 1 from rfl]; omega)) (g'.2 397 i (by omega) (by rw [show wp 397 = 1 from rfl]; omega)) (g.2 401 i (by omega) (by rw [show wp 401 = 1 from rfl]; omega)) (fun j q1 q2 => g'.2 398 j (by omega) (by rw [show wp 398 = 3 from rfl]; omega))
theorem mt_sv (h : mt_at I J p T) (g : msf I I') (g' : ∀ a, a < 388 ∨ 401 < a → J' a = J a) (hv : mv_at I' J' S) (h3 : I' 370 3 = nI S.bz) (h24 : I' 370 24 = nI S.nb) (h25 : I' 370 25 = nI S.nr) : mt_at I' J' p (T.setS T.w1 S) := by
  obtain ⟨h1, ⟨h2, h3'⟩, h4, h5, ⟨h6, h7⟩, h8⟩ := h
  refine ⟨?_, ⟨mw_congr h2 (fun a _ _ => g.1 a (by omega) (by omega)), mw_congr h3' (fun a _ _ => g.1 a (by omega) (by omega))⟩, mk_congr h4 (fun a _ _ => g.1 a (by omega) (by omega)) (fun a _ _ => g' a (by omega)), hv, ⟨mg_congr h6 (g.1 _ (by omega) (by omega)) (g.1 _ (by omega) (by omega)), mg_congr h7 (g.1 _ (by omega) (by omega)) (g.1 _ (by omega) (by omega))⟩, h8⟩
  unfold ms_at at *
  rw [g.2 1 (by omega) (by omega) (by omega), g.2 2 (by omega) (by omega) (by omega), g.2 4 (by omega) (by omega) (by omega), g.2 5 (by omega) (by omega) (by omega), g.2 6 (by omega) (by omega) (by omega)]
  exact ⟨h1.1, h1.2.1, h3, h1.2.2.2.1, h1.2.2.2.2.1, h1.2.2.2.2.2.1, h24, h25⟩
theorem mt_bz (h : mt_at I J p T) : I 370 3 = nI T.sv.bz := h.1.2.2.1
theorem mt_nb (h : mt_at I J p T) : I 370 24 = nI T.sv.nb := h.1.2.2.2.2.2.2.1
theorem mt_nr (h : mt_at I J p T) : I 370 25 = nI T.sv.nr := h.1.2.2.2.2.2.2.2
theorem mt_v (h : mt_at I J p T) : mv_at I J T.sv := h.2.2.2.1
theorem mt_pt (h : mt_at I J p T) {o : Option (Int64 × List Nat)} (g : mpf I I' c) (g' : mpf J J' c) (ho : mp_at I' J' c o) : mt_at I' J' p (T.setS T.w1 (T.sv.setPt (fu_at T.sv.pt c o))) := by
  have e : I' 370 = I 370 := g.1 370 (by omega) (by omega) (by omega) (by omega)
  exact mt_sv h (mpf_msf g) (fun a _ => g'.1 a (by omega) (by omega) (by omega) (by omega)) (mv_pt (mt_v h) g g' ho) (by rw [e]; exact mt_bz h) (by rw [e]; exact mt_nb h) (by rw [e]; exact mt_nr h)
theorem mt_nt (h : mt_at I J p T) {o : Option (Int64 × List Int64)} (g : mnf I I' c) (g' : mnf J J' c) (ho : mn_at I' J' c o) : mt_at I' J' p (T.setS T.w1 (T.sv.setNt (fu_at T.sv.nt c o))) := by
  have e : I' 370 = I 370 := g.1 370 (by omega) (by omega) (by omega) (by omega)
  exact mt_sv h (mnf_msf g) (fun a _ => g'.1 a (by omega) (by omega) (by omega) (by omega)) (mv_nt (mt_v h) g g' ho) (by rw [e]; exact mt_bz h) (by rw [e]; exact mt_nb h) (by rw [e]; exact mt_nr h)
theorem m_isBusy (M : ml_ok K) (h : mt_at I J p T) (hc : c < 256) (d : Nat) :
    (T.sv.bz = 0 ∧ f_X9_isBusy (d + 4) 370 (nI c) (K, I, J) = some ((nI 0, 0, none), (K, I, J))) ∨ (0 < T.sv.bz ∧ ∃ I' : pm_I, f_X9_isBusy (d + 4) 370 (nI c) (K, I, J) = some ((nI 1, 0, none), (K, I', J)) ∧ mt_at I' J p (T.setS (T.w1.send (wf_all c 13 0 [1])) (T.sv.setBz (T.sv.bz - 1))) ∧ mf_at I I') := by
  have hb := mt_bz h
  have h100 : T.sv.bz ≤ 100 := (mt_v h).2.2.2.2
  rw [e_X9_isBusy]
  by_cases c0 : T.sv.bz = 0
  · left
    refine ⟨c0, ?_⟩
    simp (disch := first | assumption | omega) only [m_is M, m_gI M, m_pI M, mR7 M, mL371 M, mW371 M, mR8 M, mL372 M, mW372 M, mR9 M, mL373 M, mW373 M, mR10 M, mL374 M, mW374 M, mR11 M, mL375 M, mW375 M, mR12 M, mL376 M, mW376_0 M, mW376_1 M, mR13 M, mL377 M, mW377 M, mR14 M, mL378 M, mW378 M, mR15 M, mL379 M, mW379 M, mR16 M, mL380 M, mW380 M, mR17 M, mL381 M, mW381 M, mR18 M, mL382 M, mW382 M, mR19 M, mL383 M, mW383_0 M, mW383_1 M, mR20 M, mL384 M, mW384_0 M, mW384_1 M, mR21 M, mL385 M, mW385 M, mR22 M, mL386 M, mW386 M, mR23 M, mL387 M, mW387 M, mR26 M, mL388 M, mW388 M, mR27 M, mL389 M, mW389 M, mR28 M, mL390 M, mW390 M, mR29 M, mL391 M, mW391 M, mR30 M, mL392 M, mW392 M, mR31 M, mL393 M, mW393 M, mR32 M, mL394 M, mW394_0 M, mW394_1 M, mR33 M, mL395 M, mW395_0 M, mW395_1 M, mR34 M, mL396 M, mW396 M, mR35 M, mL397 M, mW397 M, mR36 M, mL398 M, mW398 M, mR37 M, mL399 M, mW399 M, mR38 M, mL400 M, mW400 M, mR39 M, mL401 M, mW401 M, mR40 M, mL402 M, mW402 M, mR41 M, mL403 M, mW403 M, mR42 M, mL404 M, mW404 M, mR43 M, mL405 M, mW405 M, mR44 M, mL406 M, mW406 M, mR45 M, mL407 M, mW407 M, mR46 M, mL408 M, mW408 M, mR47 M, mL409 M, mW409 M, mR48 M, mL410 M, mW410 M, Option.bind_some, pm_u, pm_ur, pm_lt, pm_le, pm_eq, pm_ne, pm_add, pm_sub, pm_mul, pm_z0, pm_z1, cond_true, cond_false, decide_true, decide_false, not_false_eq_true, not_true_eq_false, reduceIte, Nat.reduceEqDiff, Nat.add_eq_left, Nat.left_eq_add, Nat.add_left_cancel_iff, Nat.one_ne_zero, Nat.reduceMul, Nat.reduceAdd, Nat.reduceSub, Nat.reduceEqDiff, Nat.reduceLT, Nat.reduceLeDiff, Nat.not_lt_zero, Nat.zero_le, am_cs, hb, c0]
  · right
    refine ⟨by omega, ?_⟩
    have f1 : msf I (am_u I 370 3 (nI (T.sv.bz - 1))) := msf_s (by omega)
    have hv : mv_at (am_u I 370 3 (nI (T.sv.bz - 1))) J (T.sv.setBz (T.sv.bz - 1)) := by
      have := mv_congr (I' := am_u I 370 3 (nI (T.sv.bz - 1))) (J' := J) (mt_v h) (fun a _ _ => am_u_ne _ _ (by omega)) (fun _ _ _ => rfl)
      exact ⟨this.1, this.2.1, this.2.2.1, this.2.2.2.1, by show T.sv.bz - 1 ≤ 100; omega⟩
    have h' : mt_at (am_u I 370 3 (nI (T.sv.bz - 1))) J p (T.setS T.w1 (T.sv.setBz (T.sv.bz - 1))) := mt_sv h f1 (fun _ _ => rfl) hv (by simp [pm_u]; rfl) (by simp [pm_u, mt_nb h]; rfl) (by simp [pm_u, mt_nr h]; rfl)
    obtain ⟨I1, a1, a2, a3⟩ := m_error (c := c) (r := 1) M h' hc (by omega) d
    simp (disch := first | assumption | omega) only [m_is M, m_gI M, m_pI M, mR7 M, mL371 M, mW371 M, mR8 M, mL372 M, mW372 M, mR9 M, mL373 M, mW373 M, mR10 M, mL374 M, mW374 M, mR11 M, mL375 M, mW375 M, mR12 M, mL376 M, mW376_0 M, mW376_1 M, mR13 M, mL377 M, mW377 M, mR14 M, mL378 M, mW378 M, mR15 M, mL379 M, mW379 M, mR16 M, mL380 M, mW380 M, mR17 M, mL381 M, mW381 M, mR18 M, mL382 M, mW382 M, mR19 M, mL383 M, mW383_0 M, mW383_1 M, mR20 M, mL384 M, mW384_0 M, mW384_1 M, mR21 M, mL385 M, mW385 M, mR22 M, mL386 M, mW386 M, mR23 M, mL387 M, mW387 M, mR26 M, mL388 M, mW388 M, mR27 M, mL389 M, mW389 M, mR28 M, mL390 M, mW390 M, mR29 M, mL391 M, mW391 M, mR30 M, mL392 M, mW392 M, mR31 M, mL393 M, mW393 M, mR32 M, mL394 M, mW394_0 M, mW394_1 M, mR33 M, mL395 M, mW395_0 M, mW395_1 M, mR34 M, mL396 M, mW396 M, mR35 M, mL397 M, mW397 M, mR36 M, mL398 M, mW398 M, mR37 M, mL399 M, mW399 M, mR38 M, mL400 M, mW400 M, mR39 M, mL401 M, mW401 M, mR40 M, mL402 M, mW402 M, mR41 M, mL403 M, mW403 M, mR42 M, mL404 M, mW404 M, mR43 M, mL405 M, mW405 M, mR44 M, mL406 M, mW406 M, mR45 M, mL407 M, mW407 M, mR46 M, mL408 M, mW408 M, mR47 M, mL409 M, mW409 M, mR48 M, mL410 M, mW410 M, Option.bind_some, pm_u, pm_ur, pm_lt, pm_le, pm_eq, pm_ne, pm_add, pm_sub, pm_mul, pm_z0, pm_z1, cond_true, cond_false, decide_true, decide_false, not_false_eq_true, not_true_eq_false, reduceIte, Nat.reduceEqDiff, Nat.add_eq_left, Nat.left_eq_add, Nat.add_left_cancel_iff, Nat.one_ne_zero, Nat.reduceMul, Nat.reduceAdd, Nat.reduceSub, Nat.reduceEqDiff, Nat.reduceLT, Nat.reduceLeDiff, Nat.not_lt_zero, Nat.zero_le, am_cs, hb, c0, a1]
    exact ⟨I1, rfl, a2, (msf_mf f1).trans (mq_mf a3)⟩
/-- the slot of a digest -/
theorem m_blobLoop (M : ml_ok K) {nb : Nat} (h24 : I 370 24 = nI nb) (hnb : nb ≤ 10) (v : Int64) (d : Nat) : ∀ (n i : Nat) (x : Int32), i + n = nb → (∃ k, i ≤ k ∧ k < nb ∧ J 388 k = v ∧ l_X9_blobOf_5 d 370 v x (nI i) (K, I, J) = some ((nI k, 0, none), (K, I, J))) ∨ ((∀ k, i ≤ k → k < nb → J 388 k ≠ v) ∧ l_X9_blobOf_5 d 370 v x (nI i) (K, I, J) = some ((x, 0, none), (K, I, J))) := by
  intro n
  induction n with
  | zero =>
    intro i x hi
    right
    have c0 : nb ≤ i := by omega
    refine ⟨fun k h1 h2 => absurd h2 (by omega), ?_⟩
    rw [e_l_X9_blobOf_5]
    simp (disch := first | assumption | omega) only [m_is M, m_gI M, m_pI M, mR7 M, mL371 M, mW371 M, mR8 M, mL372 M, mW372 M, mR9 M, mL373 M, mW373 M, mR10 M, mL374 M, mW374 M, mR11 M, mL375 M, mW375 M, mR12 M, mL376 M, mW376_0 M, mW376_1 M, mR13 M, mL377 M, mW377 M, mR14 M, mL378 M, mW378 M, mR15 M, mL379 M, mW379 M, mR16 M, mL380 M, mW380 M, mR17 M, mL381 M, mW381 M, mR18 M, mL382 M, mW382 M, mR19 M, mL383 M, mW383_0 M, mW383_1 M, mR20 M, mL384 M, mW384_0 M, mW384_1 M, mR21 M, mL385 M, mW385 M, mR22 M, mL386 M, mW386 M, mR23 M, mL387 M, mW387 M, mR26 M, mL388 M, mW388 M, mR27 M, mL389 M, mW389 M, mR28 M, mL390 M, mW390 M, mR29 M, mL391 M, mW391 M, mR30 M, mL392 M, mW392 M, mR31 M, mL393 M, mW393 M, mR32 M, mL394 M, mW394_0 M, mW394_1 M, mR33 M, mL395 M, mW395_0 M, mW395_1 M, mR34 M, mL396 M, mW396 M, mR35 M, mL397 M, mW397 M, mR36 M, mL398 M, mW398 M, mR37 M, mL399 M, mW399 M, mR38 M, mL400 M, mW400 M, mR39 M, mL401 M, mW401 M, mR40 M, mL402 M, mW402 M, mR41 M, mL403 M, mW403 M, mR42 M, mL404 M, mW404 M, mR43 M, mL405 M, mW405 M, mR44 M, mL406 M, mW406 M, mR45 M, mL407 M, mW407 M, mR46 M, mL408 M, mW408 M, mR47 M, mL409 M, mW409 M, mR48 M, mL410 M, mW410 M, Option.bind_some, pm_u, pm_ur, pm_lt, pm_le, pm_eq, pm_ne, pm_add, pm_sub, pm_mul, pm_z0, pm_z1, cond_true, cond_false, decide_true, decide_false, not_false_eq_true, not_true_eq_false, reduceIte, Nat.reduceEqDiff, Nat.add_eq_left, Nat.left_eq_add, Nat.add_left_cancel_iff, Nat.one_ne_zero, Nat.reduceMul, Nat.reduceAdd, Nat.reduceSub, Nat.reduceEqDiff, Nat.reduceLT, Nat.reduceLeDiff, Nat.not_lt_zero, Nat.zero_le, am_cs, h24, c0]
  | succ n ih =>
    intro i x hi
    have c0 : ¬ nb ≤ i := by omega
    rw [e_l_X9_blobOf_5]
    by_cases c1 : J 388 i = v
    · have c2 : lg_cmp v v = nI 0 := (lg_cmp_eq v v).mpr rfl
      simp (disch := first | assumption | omega) only [m_is M, m_gI M, m_pI M, mR7 M, mL371 M, mW371 M, mR8 M, mL372 M, mW372 M, mR9 M, mL373 M, mW373 M, mR10 M, mL374 M, mW374 M, mR11 M, mL375 M, mW375 M, mR12 M, mL376 M, mW376_0 M, mW376_1 M, mR13 M, mL377 M, mW377 M, mR14 M, mL378 M, mW378 M, mR15 M, mL379 M, mW379 M, mR16 M, mL380 M, mW380 M, mR17 M, mL381 M, mW381 M, mR18 M, mL382 M, mW382 M, mR19 M, mL383 M, mW383_0 M, mW383_1 M, mR20 M, mL384 M, mW384_0 M, mW384_1 M, mR21 M, mL385 M, mW385 M, mR22 M, mL386 M, mW386 M, mR23 M, mL387 M, mW387 M, mR26 M, mL388 M, mW388 M, mR27 M, mL389 M, mW389 M, mR28 M, mL390 M, mW390 M, mR29 M, mL391 M, mW391 M, mR30 M, mL392 M, mW392 M, mR31 M, mL393 M, mW393 M, mR32 M, mL394 M, mW394_0 M, mW394_1 M, mR33 M, mL395 M, mW395_0 M, mW395_1 M, mR34 M, mL396 M, mW396 M, mR35 M, mL397 M, mW397 M, mR36 M, mL398 M, mW398 M, mR37 M, mL399 M, mW399 M, mR38 M, mL400 M, mW400 M, mR39 M, mL401 M, mW401 M, mR40 M, mL402 M, mW402 M, mR41 M, mL403 M, mW403 M, mR42 M, mL404 M, mW404 M, mR43 M, mL405 M, mW405 M, mR44 M, mL406 M, mW406 M, mR45 M, mL407 M, mW407 M, mR46 M, mL408 M, mW408 M, mR47 M, mL409 M, mW409 M, mR48 M, mL410 M, mW410 M, Option.bind_some, pm_u, pm_ur, pm_lt, pm_le, pm_eq, pm_ne, pm_add, pm_sub, pm_mul, pm_z0, pm_z1, cond_true, cond_false, decide_true, decide_false, not_false_eq_true, not_true_eq_false, reduceIte, Nat.reduceEqDiff, Nat.add_eq_left, Nat.left_eq_add, Nat.add_left_cancel_iff, Nat.one_ne_zero, Nat.reduceMul, Nat.reduceAdd, Nat.reduceSub, Nat.reduceEqDiff, Nat.reduceLT, Nat.reduceLeDiff, Nat.not_lt_zero, Nat.zero_le, am_cs, h24, c0, c1, c2]
      left
      rcases ih (i + 1) (nI i) (by omega) with ⟨k, k1, k2, k3, k4⟩ | ⟨k1, k2⟩
      · exact ⟨k, by omega, k2, k3, k4⟩
      · exact ⟨i, by omega, by omega, c1, k2⟩
    · have c2 : ¬ lg_cmp (J 388 i) v = nI 0 := fun q => c1 ((lg_cmp_eq _ _).mp q)
      simp (disch := first | assumption | omega) only [m_is M, m_gI M, m_pI M, mR7 M, mL371 M, mW371 M, mR8 M, mL372 M, mW372 M, mR9 M, mL373 M, mW373 M, mR10 M, mL374 M, mW374 M, mR11 M, mL375 M, mW375 M, mR12 M, mL376 M, mW376_0 M, mW376_1 M, mR13 M, mL377 M, mW377 M, mR14 M, mL378 M, mW378 M, mR15 M, mL379 M, mW379 M, mR16 M, mL380 M, mW380 M, mR17 M, mL381 M, mW381 M, mR18 M, mL382 M, mW382 M, mR19 M, mL383 M, mW383_0 M, mW383_1 M, mR20 M, mL384 M, mW384_0 M, mW384_1 M, mR21 M, mL385 M, mW385 M, mR22 M, mL386 M, mW386 M, mR23 M, mL387 M, mW387 M, mR26 M, mL388 M, mW388 M, mR27 M, mL389 M, mW389 M, mR28 M, mL390 M, mW390 M, mR29 M, mL391 M, mW391 M, mR30 M, mL392 M, mW392 M, mR31 M, mL393 M, mW393 M, mR32 M, mL394 M, mW394_0 M, mW394_1 M, mR33 M, mL395 M, mW395_0 M, mW395_1 M, mR34 M, mL396 M, mW396 M, mR35 M, mL397 M, mW397 M, mR36 M, mL398 M, mW398 M, mR37 M, mL399 M, mW399 M, mR38 M, mL400 M, mW400 M, mR39 M, mL401 M, mW401 M, mR40 M, mL402 M, mW402 M, mR41 M, mL403 M, mW403 M, mR42 M, mL404 M, mW404 M, mR43 M, mL405 M, mW405 M, mR44 M, mL406 M, mW406 M, mR45 M, mL407 M, mW407 M, mR46 M, mL408 M, mW408 M, mR47 M, mL409 M, mW409 M, mR48 M, mL410 M, mW410 M, Option.bind_some, pm_u, pm_ur, pm_lt, pm_le, pm_eq, pm_ne, pm_add, pm_sub, pm_mul, pm_z0, pm_z1, cond_true, cond_false, decide_true, decide_false, not_false_eq_true, not_true_eq_false, reduceIte, Nat.reduceEqDiff, Nat.add_eq_left, Nat.left_eq_add, Nat.add_left_cancel_iff, Nat.one_ne_zero, Nat.reduceMul, Nat.reduceAdd, Nat.reduceSub, Nat.reduceEqDiff, Nat.reduceLT, Nat.reduceLeDiff, Nat.not_lt_zero, Nat.zero_le, am_cs, h24, c0, c2]
      rcases ih (i + 1) x (by omega) with ⟨k, k1, k2, k3, k4⟩ | ⟨k1, k2⟩
      · exact Or.inl ⟨k, by omega, k2, k3, k4⟩
      · refine Or.inr ⟨fun k q1 q2 => ?_, k2⟩
        by_cases e : k = i
        · rw [e]
          exact c1
        · exact k1 k (by omega) q2
theorem m_blobOf (M : ml_ok K) {nb : Nat} {s : Nat → Option (Int64 × List Nat)} {B : Int64 → Option (List Nat)} (h24 : I 370 24 = nI nb) (h : mb_at I J nb s) (hb : bm_ok s B nb) (v : Int64) (d : Nat) :
    (∃ k y, k < nb ∧ s k = some (v, y) ∧ B v = some y ∧ f_X9_blobOf d 370 v (K, I, J) = some ((nI k, 0, none), (K, I, J))) ∨ (B v = none ∧ f_X9_blobOf d 370 v (K, I, J) = some ((-nI 1, 0, none), (K, I, J))) := by
  rw [e_X9_blobOf]
  rcases m_blobLoop (J := J) M h24 h.1 v d nb 0 (-nI 1) (Nat.zero_add _) with ⟨k, k1, k2, k3, k4⟩ | ⟨k1, k2⟩
  · left
    obtain ⟨y, y1, y2, y3⟩ := h.2.2 k k2
    have e : y = (v, y.2) := by
      rw [← k3, y2]
    rw [e] at y1
    exact ⟨k, y.2, k2, y1, hb.1 k v y.2 (by have := h.1; omega) y1, k4⟩
  · right
    refine ⟨?_, k2⟩
    cases hB : B v with
    | none => rfl
    | some r =>
      exfalso
      obtain ⟨i, i1, i2⟩ := hb.2.1 v r hB
      by_cases q : i < nb
      · obtain ⟨y, y1, y2, y3⟩ := h.2.2 i q
        rw [i2] at y1
        injection y1 with y1
        exact k1 i (by omega) q (by rw [y2, ← y1])
      · have := h.2.1 i (by omega)
        rw [i2] at this
        injection this
theorem m_resLoop (M : ml_ok K) {nb : Nat} (h25 : I 370 25 = nI nb) (hnb : nb ≤ 10) (v : Int64) (d : Nat) : ∀ (n i : Nat) (x : Int32), i + n = nb → (∃ k, i ≤ k ∧ k < nb ∧ J 391 k = v ∧ l_X9_resultOf_5 d 370 v x (nI i) (K, I, J) = some ((nI k, 0, none), (K, I, J))) ∨ ((∀ k, i ≤ k → k < nb → J 391 k ≠ v) ∧ l_X9_resultOf_5 d 370 v x (nI i) (K, I, J) = some ((x, 0, none), (K, I, J))) := by
  intro n
  induction n with
  | zero =>
    intro i x hi
    right
    have c0 : nb ≤ i := by omega
    refine ⟨fun k h1 h2 => absurd h2 (by omega), ?_⟩
    rw [e_l_X9_resultOf_5]
    simp (disch := first | assumption | omega) only [m_is M, m_gI M, m_pI M, mR7 M, mL371 M, mW371 M, mR8 M, mL372 M, mW372 M, mR9 M, mL373 M, mW373 M, mR10 M, mL374 M, mW374 M, mR11 M, mL375 M, mW375 M, mR12 M, mL376 M, mW376_0 M, mW376_1 M, mR13 M, mL377 M, mW377 M, mR14 M, mL378 M, mW378 M, mR15 M, mL379 M, mW379 M, mR16 M, mL380 M, mW380 M, mR17 M, mL381 M, mW381 M, mR18 M, mL382 M, mW382 M, mR19 M, mL383 M, mW383_0 M, mW383_1 M, mR20 M, mL384 M, mW384_0 M, mW384_1 M, mR21 M, mL385 M, mW385 M, mR22 M, mL386 M, mW386 M, mR23 M, mL387 M, mW387 M, mR26 M, mL388 M, mW388 M, mR27 M, mL389 M, mW389 M, mR28 M, mL390 M, mW390 M, mR29 M, mL391 M, mW391 M, mR30 M, mL392 M, mW392 M, mR31 M, mL393 M, mW393 M, mR32 M, mL394 M, mW394_0 M, mW394_1 M, mR33 M, mL395 M, mW395_0 M, mW395_1 M, mR34 M, mL396 M, mW396 M, mR35 M, mL397 M, mW397 M, mR36 M, mL398 M, mW398 M, mR37 M, mL399 M, mW399 M, mR38 M, mL400 M, mW400 M, mR39 M, mL401 M, mW401 M, mR40 M, mL402 M, mW402 M, mR41 M, mL403 M, mW403 M, mR42 M, mL404 M, mW404 M, mR43 M, mL405 M, mW405 M, mR44 M, mL406 M, mW406 M, mR45 M, mL407 M, mW407 M, mR46 M, mL408 M, mW408 M, mR47 M, mL409 M, mW409 M, mR48 M, mL410 M, mW410 M, Option.bind_some, pm_u, pm_ur, pm_lt, pm_le, pm_eq, pm_ne, pm_add, pm_sub, pm_mul, pm_z0, pm_z1, cond_true, cond_false, decide_true, decide_false, not_false_eq_true, not_true_eq_false, reduceIte, Nat.reduceEqDiff, Nat.add_eq_left, Nat.left_eq_add, Nat.add_left_cancel_iff, Nat.one_ne_zero, Nat.reduceMul, Nat.reduceAdd, Nat.reduceSub, Nat.reduceEqDiff, Nat.reduceLT, Nat.reduceLeDiff, Nat.not_lt_zero, Nat.zero_le, am_cs, h25, c0]
  | succ n ih =>
    intro i x hi
    have c0 : ¬ nb ≤ i := by omega
    rw [e_l_X9_resultOf_5]
    by_cases c1 : J 391 i = v
    · have c2 : lg_cmp v v = nI 0 := (lg_cmp_eq v v).mpr rfl
      simp (disch := first | assumption | omega) only [m_is M, m_gI M, m_pI M, mR7 M, mL371 M, mW371 M, mR8 M, mL372 M, mW372 M, mR9 M, mL373 M, mW373 M, mR10 M, mL374 M, mW374 M, mR11 M, mL375 M, mW375 M, mR12 M, mL376 M, mW376_0 M, mW376_1 M, mR13 M, mL377 M, mW377 M, mR14 M, mL378 M, mW378 M, mR15 M, mL379 M, mW379 M, mR16 M, mL380 M, mW380 M, mR17 M, mL381 M, mW381 M, mR18 M, mL382 M, mW382 M, mR19 M, mL383 M, mW383_0 M, mW383_1 M, mR20 M, mL384 M, mW384_0 M, mW384_1 M, mR21 M, mL385 M, mW385 M, mR22 M, mL386 M, mW386 M, mR23 M, mL387 M, mW387 M, mR26 M, mL388 M, mW388 M, mR27 M, mL389 M, mW389 M, mR28 M, mL390 M, mW390 M, mR29 M, mL391 M, mW391 M, mR30 M, mL392 M, mW392 M, mR31 M, mL393 M, mW393 M, mR32 M, mL394 M, mW394_0 M, mW394_1 M, mR33 M, mL395 M, mW395_0 M, mW395_1 M, mR34 M, mL396 M, mW396 M, mR35 M, mL397 M, mW397 M, mR36 M, mL398 M, mW398 M, mR37 M, mL399 M, mW399 M, mR38 M, mL400 M, mW400 M, mR39 M, mL401 M, mW401 M, mR40 M, mL402 M, mW402 M, mR41 M, mL403 M, mW403 M, mR42 M, mL404 M, mW404 M, mR43 M, mL405 M, mW405 M, mR44 M, mL406 M, mW406 M, mR45 M, mL407 M, mW407 M, mR46 M, mL408 M, mW408 M, mR47 M, mL409 M, mW409 M, mR48 M, mL410 M, mW410 M, Option.bind_some, pm_u, pm_ur, pm_lt, pm_le, pm_eq, pm_ne, pm_add, pm_sub, pm_mul, pm_z0, pm_z1, cond_true, cond_false, decide_true, decide_false, not_false_eq_true, not_true_eq_false, reduceIte, Nat.reduceEqDiff, Nat.add_eq_left, Nat.left_eq_add, Nat.add_left_cancel_iff, Nat.one_ne_zero, Nat.reduceMul, Nat.reduceAdd, Nat.reduceSub, Nat.reduceEqDiff, Nat.reduceLT, Nat.reduceLeDiff, Nat.not_lt_zero, Nat.zero_le, am_cs, h25, c0, c1, c2]
      left
      rcases ih (i + 1) (nI i) (by omega) with ⟨k, k1, k2, k3, k4⟩ | ⟨k1, k2⟩
      · exact ⟨k, by omega, k2, k3, k4⟩
      · exact ⟨i, by omega, by omega, c1, k2⟩
    · have c2 : ¬ lg_cmp (J 391 i) v = nI 0 := fun q => c1 ((lg_cmp_eq _ _).mp q)
      simp (disch := first | assumption | omega) only [m_is M, m_gI M, m_pI M, mR7 M, mL371 M, mW371 M, mR8 M, mL372 M, mW372 M, mR9 M, mL373 M, mW373 M, mR10 M, mL374 M, mW374 M, mR11 M, mL375 M, mW375 M, mR12 M, mL376 M, mW376_0 M, mW376_1 M, mR13 M, mL377 M, mW377 M, mR14 M, mL378 M, mW378 M, mR15 M, mL379 M, mW379 M, mR16 M, mL380 M, mW380 M, mR17 M, mL381 M, mW381 M, mR18 M, mL382 M, mW382 M, mR19 M, mL383 M, mW383_0 M, mW383_1 M, mR20 M, mL384 M, mW384_0 M, mW384_1 M, mR21 M, mL385 M, mW385 M, mR22 M, mL386 M, mW386 M, mR23 M, mL387 M, mW387 M, mR26 M, mL388 M, mW388 M, mR27 M, mL389 M, mW389 M, mR28 M, mL390 M, mW390 M, mR29 M, mL391 M, mW391 M, mR30 M, mL392 M, mW392 M, mR31 M, mL393 M, mW393 M, mR32 M, mL394 M, mW394_0 M, mW394_1 M, mR33 M, mL395 M, mW395_0 M, mW395_1 M, mR34 M, mL396 M, mW396 M, mR35 M, mL397 M, mW397 M, mR36 M, mL398 M, mW398 M, mR37 M, mL399 M, mW399 M, mR38 M, mL400 M, mW400 M, mR39 M, mL401 M, mW401 M, mR40 M, mL402 M, mW402 M, mR41 M, mL403 M, mW403 M, mR42 M, mL404 M, mW404 M, mR43 M, mL405 M, mW405 M, mR44 M, mL406 M, mW406 M, mR45 M, mL407 M, mW407 M, mR46 M, mL408 M, mW408 M, mR47 M, mL409 M, mW409 M, mR48 M, mL410 M, mW410 M, Option.bind_some, pm_u, pm_ur, pm_lt, pm_le, pm_eq, pm_ne, pm_add, pm_sub, pm_mul, pm_z0, pm_z1, cond_true, cond_false, decide_true, decide_false, not_false_eq_true, not_true_eq_false, reduceIte, Nat.reduceEqDiff, Nat.add_eq_left, Nat.left_eq_add, Nat.add_left_cancel_iff, Nat.one_ne_zero, Nat.reduceMul, Nat.reduceAdd, Nat.reduceSub, Nat.reduceEqDiff, Nat.reduceLT, Nat.reduceLeDiff, Nat.not_lt_zero, Nat.zero_le, am_cs, h25, c0, c2]
      rcases ih (i + 1) x (by omega) with ⟨k, k1, k2, k3, k4⟩ | ⟨k1, k2⟩
      · exact Or.inl ⟨k, by omega, k2, k3, k4⟩
      · refine Or.inr ⟨fun k q1 q2 => ?_, k2⟩
        by_cases e : k = i
        · rw [e]
          exact c1
        · exact k1 k (by omega) q2
theorem m_resultOf (M : ml_ok K) {nb : Nat} {s : Nat → Option (Int64 × List Int64)} {B : Int64 → Option (List Int64)} (h25 : I 370 25 = nI nb) (h : mr_at I J nb s) (hb : bm_ok s B nb) (v : Int64) (d : Nat) :
    (∃ k y, k < nb ∧ s k = some (v, y) ∧ B v = some y ∧ f_X9_resultOf d 370 v (K, I, J) = some ((nI k, 0, none), (K, I, J))) ∨ (B v = none ∧ f_X9_resultOf d 370 v (K, I, J) = some ((-nI 1, 0, none), (K, I, J))) := by
  rw [e_X9_resultOf]
  rcases m_resLoop (J := J) M h25 h.1 v d nb 0 (-nI 1) (Nat.zero_add _) with ⟨k, k1, k2, k3, k4⟩ | ⟨k1, k2⟩
  · left
    obtain ⟨y, y1, y2, y3⟩ := h.2.2 k k2
    have e : y = (v, y.2) := by
      rw [← k3, y2]
    rw [e] at y1
    exact ⟨k, y.2, k2, y1, hb.1 k v y.2 (by have := h.1; omega) y1, k4⟩
  · right
    refine ⟨?_, k2⟩
    cases hB : B v with
    | none => rfl
    | some r =>
      exfalso
      obtain ⟨i, i1, i2⟩ := hb.2.1 v r hB
      by_cases q : i < nb
      · obtain ⟨y, y1, y2, y3⟩ := h.2.2 i q
        rw [i2] at y1
        injection y1 with y1
        exact k1 i (by omega) q (by rw [y2, ← y1])
      · have := h.2.1 i (by omega)
        rw [i2] at this
        injection this
/-- a write begins -/
theorem m_beginWrite (M : ml_ok K) (h : mt_at I J p T) (hc : c < 30) (v : Int64) (d : Nat) :
    ∃ (I' : pm_I) (J' : pm_J), f_X9_beginWrite (d + 3) 370 (nI c) v (K, I, J) = some ((0, 0, none), (K, I', J')) ∧ mt_at I' J' p (T.setS (ss_vd (ss_start c v T.sv T.w1).2.2 c (ss_start c v T.sv T.w1).1) (ss_start c v T.sv T.w1).2.1) ∧ mf_at I I' ∧ mf_at J J' := by
  obtain ⟨⟨s, s1, s2⟩, _, hp, _⟩ := mt_v h
  have hpc := hp c hc
  rw [e_X9_beginWrite]
  unfold ss_start
  rcases m_blobOf M (mt_nb h) s1 s2 v (d + 2) with ⟨k, y, k1, k2, k3, k4⟩ | ⟨k3, k4⟩
  · rw [k3]
    have hk := px_nem k (by have := s1.1; omega)
    have f1 : mpf I (am_u I 394 c (nI 0)) c := mpf_u (by omega) (by rw [show wp 394 = 1 from rfl]; omega)
    have h' := mt_pt (o := none) h f1 (mpf.refl J c) (by show am_u I 394 c (nI 0) 394 c = nI 0; rw [am_u_self, if_pos rfl])
    obtain ⟨I1, a1, a2, a3⟩ := m_sendPlain (e := 1) (c := c) (kd := 11) (pl := 0) M (by omega) h' (by omega) (by omega) (by omega) d
    simp (disch := first | assumption | omega) only [m_is M, m_gI M, m_pI M, mR7 M, mL371 M, mW371 M, mR8 M, mL372 M, mW372 M, mR9 M, mL373 M, mW373 M, mR10 M, mL374 M, mW374 M, mR11 M, mL375 M, mW375 M, mR12 M, mL376 M, mW376_0 M, mW376_1 M, mR13 M, mL377 M, mW377 M, mR14 M, mL378 M, mW378 M, mR15 M, mL379 M, mW379 M, mR16 M, mL380 M, mW380 M, mR17 M, mL381 M, mW381 M, mR18 M, mL382 M, mW382 M, mR19 M, mL383 M, mW383_0 M, mW383_1 M, mR20 M, mL384 M, mW384_0 M, mW384_1 M, mR21 M, mL385 M, mW385 M, mR22 M, mL386 M, mW386 M, mR23 M, mL387 M, mW387 M, mR26 M, mL388 M, mW388 M, mR27 M, mL389 M, mW389 M, mR28 M, mL390 M, mW390 M, mR29 M, mL391 M, mW391 M, mR30 M, mL392 M, mW392 M, mR31 M, mL393 M, mW393 M, mR32 M, mL394 M, mW394_0 M, mW394_1 M, mR33 M, mL395 M, mW395_0 M, mW395_1 M, mR34 M, mL396 M, mW396 M, mR35 M, mL397 M, mW397 M, mR36 M, mL398 M, mW398 M, mR37 M, mL399 M, mW399 M, mR38 M, mL400 M, mW400 M, mR39 M, mL401 M, mW401 M, mR40 M, mL402 M, mW402 M, mR41 M, mL403 M, mW403 M, mR42 M, mL404 M, mW404 M, mR43 M, mL405 M, mW405 M, mR44 M, mL406 M, mW406 M, mR45 M, mL407 M, mW407 M, mR46 M, mL408 M, mW408 M, mR47 M, mL409 M, mW409 M, mR48 M, mL410 M, mW410 M, Option.bind_some, pm_u, pm_ur, pm_lt, pm_le, pm_eq, pm_ne, pm_add, pm_sub, pm_mul, pm_z0, pm_z1, cond_true, cond_false, decide_true, decide_false, not_false_eq_true, not_true_eq_false, reduceIte, Nat.reduceEqDiff, Nat.add_eq_left, Nat.left_eq_add, Nat.add_left_cancel_iff, Nat.one_ne_zero, Nat.reduceMul, Nat.reduceAdd, Nat.reduceSub, Nat.reduceEqDiff, Nat.reduceLT, Nat.reduceLeDiff, Nat.not_lt_zero, Nat.zero_le, am_cs, k4, hk, a1]
    exact ⟨I1, J, rfl, a2, (mpf_mf f1).trans (mq_mf a3), mf_at.refl _⟩
  · rw [k3]
    cases ho : T.sv.pt c with
    | none =>
      rw [ho] at hpc
      have hpc : I 394 c = nI 0 := hpc
      have f1 : mpf I (am_u (am_u I 394 c (nI 1)) 399 c (nI 0)) c := (mpf_u (by omega) (by rw [show wp 394 = 1 from rfl]; omega)).trans (mpf_u (by omega) (by rw [show wp 399 = 1 from rfl]; omega))
      have f2 : mpf J (am_u J 396 c v) c := mpf_u (by omega) (by rw [show wp 396 = 1 from rfl]; omega)
      have h' := mt_pt (o := some (v, [])) h f1 f2 ⟨by simp [pm_u], by simp [pm_u], by simp [pm_u], by simp, fun i hi => absurd hi (by simp), by simp⟩
      have h399 : am_u (am_u I 394 c (nI 1)) 399 c (nI 0) 399 c = nI 0 := by rw [am_u_self, if_pos rfl]
      obtain ⟨I1, a1, a2, a3⟩ := m_sendPlain (e := 1) (c := c) (kd := 12) (pl := 0) M (by omega) h' (by omega) (by omega) (by omega) d
      simp (disch := first | assumption | omega) only [m_is M, m_gI M, m_pI M, mR7 M, mL371 M, mW371 M, mR8 M, mL372 M, mW372 M, mR9 M, mL373 M, mW373 M, mR10 M, mL374 M, mW374 M, mR11 M, mL375 M, mW375 M, mR12 M, mL376 M, mW376_0 M, mW376_1 M, mR13 M, mL377 M, mW377 M, mR14 M, mL378 M, mW378 M, mR15 M, mL379 M, mW379 M, mR16 M, mL380 M, mW380 M, mR17 M, mL381 M, mW381 M, mR18 M, mL382 M, mW382 M, mR19 M, mL383 M, mW383_0 M, mW383_1 M, mR20 M, mL384 M, mW384_0 M, mW384_1 M, mR21 M, mL385 M, mW385 M, mR22 M, mL386 M, mW386 M, mR23 M, mL387 M, mW387 M, mR26 M, mL388 M, mW388 M, mR27 M, mL389 M, mW389 M, mR28 M, mL390 M, mW390 M, mR29 M, mL391 M, mW391 M, mR30 M, mL392 M, mW392 M, mR31 M, mL393 M, mW393 M, mR32 M, mL394 M, mW394_0 M, mW394_1 M, mR33 M, mL395 M, mW395_0 M, mW395_1 M, mR34 M, mL396 M, mW396 M, mR35 M, mL397 M, mW397 M, mR36 M, mL398 M, mW398 M, mR37 M, mL399 M, mW399 M, mR38 M, mL400 M, mW400 M, mR39 M, mL401 M, mW401 M, mR40 M, mL402 M, mW402 M, mR41 M, mL403 M, mW403 M, mR42 M, mL404 M, mW404 M, mR43 M, mL405 M, mW405 M, mR44 M, mL406 M, mW406 M, mR45 M, mL407 M, mW407 M, mR46 M, mL408 M, mW408 M, mR47 M, mL409 M, mW409 M, mR48 M, mL410 M, mW410 M, Option.bind_some, pm_u, pm_ur, pm_lt, pm_le, pm_eq, pm_ne, pm_add, pm_sub, pm_mul, pm_z0, pm_z1, cond_true, cond_false, decide_true, decide_false, not_false_eq_true, not_true_eq_false, reduceIte, Nat.reduceEqDiff, Nat.add_eq_left, Nat.left_eq_add, Nat.add_left_cancel_iff, Nat.one_ne_zero, Nat.reduceMul, Nat.reduceAdd, Nat.reduceSub, Nat.reduceEqDiff, Nat.reduceLT, Nat.reduceLeDiff, Nat.not_lt_zero, Nat.zero_le, am_cs, k4, hpc]
      rw [e_l_X9_beginWrite_56]
      simp (disch := first | assumption | omega) only [m_is M, m_gI M, m_pI M, mR7 M, mL371 M, mW371 M, mR8 M, mL372 M, mW372 M, mR9 M, mL373 M, mW373 M, mR10 M, mL374 M, mW374 M, mR11 M, mL375 M, mW375 M, mR12 M, mL376 M, mW376_0 M, mW376_1 M, mR13 M, mL377 M, mW377 M, mR14 M, mL378 M, mW378 M, mR15 M, mL379 M, mW379 M, mR16 M, mL380 M, mW380 M, mR17 M, mL381 M, mW381 M, mR18 M, mL382 M, mW382 M, mR19 M, mL383 M, mW383_0 M, mW383_1 M, mR20 M, mL384 M, mW384_0 M, mW384_1 M, mR21 M, mL385 M, mW385 M, mR22 M, mL386 M, mW386 M, mR23 M, mL387 M, mW387 M, mR26 M, mL388 M, mW388 M, mR27 M, mL389 M, mW389 M, mR28 M, mL390 M, mW390 M, mR29 M, mL391 M, mW391 M, mR30 M, mL392 M, mW392 M, mR31 M, mL393 M, mW393 M, mR32 M, mL394 M, mW394_0 M, mW394_1 M, mR33 M, mL395 M, mW395_0 M, mW395_1 M, mR34 M, mL396 M, mW396 M, mR35 M, mL397 M, mW397 M, mR36 M, mL398 M, mW398 M, mR37 M, mL399 M, mW399 M, mR38 M, mL400 M, mW400 M, mR39 M, mL401 M, mW401 M, mR40 M, mL402 M, mW402 M, mR41 M, mL403 M, mW403 M, mR42 M, mL404 M, mW404 M, mR43 M, mL405 M, mW405 M, mR44 M, mL406 M, mW406 M, mR45 M, mL407 M, mW407 M, mR46 M, mL408 M, mW408 M, mR47 M, mL409 M, mW409 M, mR48 M, mL410 M, mW410 M, Option.bind_some, pm_u, pm_ur, pm_lt, pm_le, pm_eq, pm_ne, pm_add, pm_sub, pm_mul, pm_z0, pm_z1, cond_true, cond_false, decide_true, decide_false, not_false_eq_true, not_true_eq_false, reduceIte, Nat.reduceEqDiff, Nat.add_eq_left, Nat.left_eq_add, Nat.add_left_cancel_iff, Nat.one_ne_zero, Nat.reduceMul, Nat.reduceAdd, Nat.reduceSub, Nat.reduceEqDiff, Nat.reduceLT, Nat.reduceLeDiff, Nat.not_lt_zero, Nat.zero_le, am_cs, a1]
      exact ⟨I1, _, rfl, a2, (mpf_mf f1).trans (mq_mf a3), mpf_mf f2⟩
    | some y =>
      rw [ho] at hpc
      obtain ⟨y1, y2, y3, y4, y5, y6⟩ := hpc
      obtain ⟨I1, a1, a2, a3⟩ := m_sendPlain (e := 1) (c := c) (kd := 12) (pl := y.2.length) M (by omega) h (by omega) (by omega) (by omega) d
      simp (disch := first | assumption | omega) only [m_is M, m_gI M, m_pI M, mR7 M, mL371 M, mW371 M, mR8 M, mL372 M, mW372 M, mR9 M, mL373 M, mW373 M, mR10 M, mL374 M, mW374 M, mR11 M, mL375 M, mW375 M, mR12 M, mL376 M, mW376_0 M, mW376_1 M, mR13 M, mL377 M, mW377 M, mR14 M, mL378 M, mW378 M, mR15 M, mL379 M, mW379 M, mR16 M, mL380 M, mW380 M, mR17 M, mL381 M, mW381 M, mR18 M, mL382 M, mW382 M, mR19 M, mL383 M, mW383_0 M, mW383_1 M, mR20 M, mL384 M, mW384_0 M, mW384_1 M, mR21 M, mL385 M, mW385 M, mR22 M, mL386 M, mW386 M, mR23 M, mL387 M, mW387 M, mR26 M, mL388 M, mW388 M, mR27 M, mL389 M, mW389 M, mR28 M, mL390 M, mW390 M, mR29 M, mL391 M, mW391 M, mR30 M, mL392 M, mW392 M, mR31 M, mL393 M, mW393 M, mR32 M, mL394 M, mW394_0 M, mW394_1 M, mR33 M, mL395 M, mW395_0 M, mW395_1 M, mR34 M, mL396 M, mW396 M, mR35 M, mL397 M, mW397 M, mR36 M, mL398 M, mW398 M, mR37 M, mL399 M, mW399 M, mR38 M, mL400 M, mW400 M, mR39 M, mL401 M, mW401 M, mR40 M, mL402 M, mW402 M, mR41 M, mL403 M, mW403 M, mR42 M, mL404 M, mW404 M, mR43 M, mL405 M, mW405 M, mR44 M, mL406 M, mW406 M, mR45 M, mL407 M, mW407 M, mR46 M, mL408 M, mW408 M, mR47 M, mL409 M, mW409 M, mR48 M, mL410 M, mW410 M, Option.bind_some, pm_u, pm_ur, pm_lt, pm_le, pm_eq, pm_ne, pm_add, pm_sub, pm_mul, pm_z0, pm_z1, cond_true, cond_false, decide_true, decide_false, not_false_eq_true, not_true_eq_false, reduceIte, Nat.reduceEqDiff, Nat.add_eq_left, Nat.left_eq_add, Nat.add_left_cancel_iff, Nat.one_ne_zero, Nat.reduceMul, Nat.reduceAdd, Nat.reduceSub, Nat.reduceEqDiff, Nat.reduceLT, Nat.reduceLeDiff, Nat.not_lt_zero, Nat.zero_le, am_cs, k4, y1]
      rw [e_l_X9_beginWrite_56]
      simp (disch := first | assumption | omega) only [m_is M, m_gI M, m_pI M, mR7 M, mL371 M, mW371 M, mR8 M, mL372 M, mW372 M, mR9 M, mL373 M, mW373 M, mR10 M, mL374 M, mW374 M, mR11 M, mL375 M, mW375 M, mR12 M, mL376 M, mW376_0 M, mW376_1 M, mR13 M, mL377 M, mW377 M, mR14 M, mL378 M, mW378 M, mR15 M, mL379 M, mW379 M, mR16 M, mL380 M, mW380 M, mR17 M, mL381 M, mW381 M, mR18 M, mL382 M, mW382 M, mR19 M, mL383 M, mW383_0 M, mW383_1 M, mR20 M, mL384 M, mW384_0 M, mW384_1 M, mR21 M, mL385 M, mW385 M, mR22 M, mL386 M, mW386 M, mR23 M, mL387 M, mW387 M, mR26 M, mL388 M, mW388 M, mR27 M, mL389 M, mW389 M, mR28 M, mL390 M, mW390 M, mR29 M, mL391 M, mW391 M, mR30 M, mL392 M, mW392 M, mR31 M, mL393 M, mW393 M, mR32 M, mL394 M, mW394_0 M, mW394_1 M, mR33 M, mL395 M, mW395_0 M, mW395_1 M, mR34 M, mL396 M, mW396 M, mR35 M, mL397 M, mW397 M, mR36 M, mL398 M, mW398 M, mR37 M, mL399 M, mW399 M, mR38 M, mL400 M, mW400 M, mR39 M, mL401 M, mW401 M, mR40 M, mL402 M, mW402 M, mR41 M, mL403 M, mW403 M, mR42 M, mL404 M, mW404 M, mR43 M, mL405 M, mW405 M, mR44 M, mL406 M, mW406 M, mR45 M, mL407 M, mW407 M, mR46 M, mL408 M, mW408 M, mR47 M, mL409 M, mW409 M, mR48 M, mL410 M, mW410 M, Option.bind_some, pm_u, pm_ur, pm_lt, pm_le, pm_eq, pm_ne, pm_add, pm_sub, pm_mul, pm_z0, pm_z1, cond_true, cond_false, decide_true, decide_false, not_false_eq_true, not_true_eq_false, reduceIte, Nat.reduceEqDiff, Nat.add_eq_left, Nat.left_eq_add, Nat.add_left_cancel_iff, Nat.one_ne_zero, Nat.reduceMul, Nat.reduceAdd, Nat.reduceSub, Nat.reduceEqDiff, Nat.reduceLT, Nat.reduceLeDiff, Nat.not_lt_zero, Nat.zero_le, am_cs, y3, a1]
      exact ⟨I1, J, rfl, a2, mq_mf a3, mf_at.refl _⟩
/-- a piece is taken -/
theorem m_morePLoop (M : ml_ok K) {dat l : List Nat} (hl : l.length + dat.length ≤ 60) (hd : dat.length ≤ 40) (hc : c < 30) (d : Nat) : ∀ (n i : Nat) (I : pm_I), i + n = dat.length → I 399 c = nI l.length → wl_at I 400 (60 * c) (l ++ dat.take i) → wl_at I 408 68 dat →
    ∃ I' : pm_I, l_X9_moreOfPartial_31 d 370 (nI c) (nI l.length) (nI dat.length) (nI i) (K, I, J) = some ((0, 0, none), (K, I', J)) ∧ I' 399 c = nI (l ++ dat).length ∧ wl_at I' 400 (60 * c) (l ++ dat) ∧ mpf I I' c ∧ I' 394 = I 394 := by
  intro n
  induction n with
  | zero =>
    intro i I hi h1 h2 h3
    have c0 : dat.length ≤ i := by omega
    rw [List.take_of_length_le c0] at h2
    rw [e_l_X9_moreOfPartial_31]
    simp (disch := first | assumption | omega) only [m_is M, m_gI M, m_pI M, mR7 M, mL371 M, mW371 M, mR8 M, mL372 M, mW372 M, mR9 M, mL373 M, mW373 M, mR10 M, mL374 M, mW374 M, mR11 M, mL375 M, mW375 M, mR12 M, mL376 M, mW376_0 M, mW376_1 M, mR13 M, mL377 M, mW377 M, mR14 M, mL378 M, mW378 M, mR15 M, mL379 M, mW379 M, mR16 M, mL380 M, mW380 M, mR17 M, mL381 M, mW381 M, mR18 M, mL382 M, mW382 M, mR19 M, mL383 M, mW383_0 M, mW383_1 M, mR20 M, mL384 M, mW384_0 M, mW384_1 M, mR21 M, mL385 M, mW385 M, mR22 M, mL386 M, mW386 M, mR23 M, mL387 M, mW387 M, mR26 M, mL388 M, mW388 M, mR27 M, mL389 M, mW389 M, mR28 M, mL390 M, mW390 M, mR29 M, mL391 M, mW391 M, mR30 M, mL392 M, mW392 M, mR31 M, mL393 M, mW393 M, mR32 M, mL394 M, mW394_0 M, mW394_1 M, mR33 M, mL395 M, mW395_0 M, mW395_1 M, mR34 M, mL396 M, mW396 M, mR35 M, mL397 M, mW397 M, mR36 M, mL398 M, mW398 M, mR37 M, mL399 M, mW399 M, mR38 M, mL400 M, mW400 M, mR39 M, mL401 M, mW401 M, mR40 M, mL402 M, mW402 M, mR41 M, mL403 M, mW403 M, mR42 M, mL404 M, mW404 M, mR43 M, mL405 M, mW405 M, mR44 M, mL406 M, mW406 M, mR45 M, mL407 M, mW407 M, mR46 M, mL408 M, mW408 M, mR47 M, mL409 M, mW409 M, mR48 M, mL410 M, mW410 M, Option.bind_some, pm_u, pm_ur, pm_lt, pm_le, pm_eq, pm_ne, pm_add, pm_sub, pm_mul, pm_z0, pm_z1, cond_true, cond_false, decide_true, decide_false, not_false_eq_true, not_true_eq_false, reduceIte, Nat.reduceEqDiff, Nat.add_eq_left, Nat.left_eq_add, Nat.add_left_cancel_iff, Nat.one_ne_zero, Nat.reduceMul, Nat.reduceAdd, Nat.reduceSub, Nat.reduceEqDiff, Nat.reduceLT, Nat.reduceLeDiff, Nat.not_lt_zero, Nat.zero_le, am_cs, c0, h1]
    refine ⟨_, rfl, ?_, wl_congr (b := 0) h2 (am_u_ne _ _ (by omega)), mpf_u (by omega) (by rw [show wp 399 = 1 from rfl]; omega), am_u_ne _ _ (by omega)⟩
    rw [am_u_self, if_pos rfl, List.length_append]
  | succ n ih =>
    intro i I hi h1 h2 h3
    have c0 : ¬ dat.length ≤ i := by omega
    have hb := h3 i (by omega)
    have ht : l ++ dat.take i ++ [dat.getD i 0] = l ++ dat.take (i + 1) := by
      rw [List.append_assoc]
      congr 1
      rw [List.take_succ, List.getElem?_eq_getElem (by omega), List.getD_eq_getElem?_getD, List.getElem?_eq_getElem (by omega)]
      rfl
    have hs := wl_snoc (b := dat.getD i 0) h2
    rw [ht, List.length_append, List.length_take, Nat.min_eq_left (by omega), ← Nat.add_assoc] at hs
    obtain ⟨I2, q1, q2, q3, q4, q5⟩ := ih (i + 1) _ (by omega) (by rw [am_u_ne _ _ (by omega)]; exact h1) hs (wl_congr (b := 0) h3 (am_u_ne _ _ (by omega)))
    have f1 : mpf I (am_u I 400 (60 * c + l.length + i) (nI (dat.getD i 0))) c := mpf_u (by omega) (by rw [show wp 400 = 60 from rfl]; omega)
    rw [e_l_X9_moreOfPartial_31]
    simp (disch := first | assumption | omega) only [m_is M, m_gI M, m_pI M, mR7 M, mL371 M, mW371 M, mR8 M, mL372 M, mW372 M, mR9 M, mL373 M, mW373 M, mR10 M, mL374 M, mW374 M, mR11 M, mL375 M, mW375 M, mR12 M, mL376 M, mW376_0 M, mW376_1 M, mR13 M, mL377 M, mW377 M, mR14 M, mL378 M, mW378 M, mR15 M, mL379 M, mW379 M, mR16 M, mL380 M, mW380 M, mR17 M, mL381 M, mW381 M, mR18 M, mL382 M, mW382 M, mR19 M, mL383 M, mW383_0 M, mW383_1 M, mR20 M, mL384 M, mW384_0 M, mW384_1 M, mR21 M, mL385 M, mW385 M, mR22 M, mL386 M, mW386 M, mR23 M, mL387 M, mW387 M, mR26 M, mL388 M, mW388 M, mR27 M, mL389 M, mW389 M, mR28 M, mL390 M, mW390 M, mR29 M, mL391 M, mW391 M, mR30 M, mL392 M, mW392 M, mR31 M, mL393 M, mW393 M, mR32 M, mL394 M, mW394_0 M, mW394_1 M, mR33 M, mL395 M, mW395_0 M, mW395_1 M, mR34 M, mL396 M, mW396 M, mR35 M, mL397 M, mW397 M, mR36 M, mL398 M, mW398 M, mR37 M, mL399 M, mW399 M, mR38 M, mL400 M, mW400 M, mR39 M, mL401 M, mW401 M, mR40 M, mL402 M, mW402 M, mR41 M, mL403 M, mW403 M, mR42 M, mL404 M, mW404 M, mR43 M, mL405 M, mW405 M, mR44 M, mL406 M, mW406 M, mR45 M, mL407 M, mW407 M, mR46 M, mL408 M, mW408 M, mR47 M, mL409 M, mW409 M, mR48 M, mL410 M, mW410 M, Option.bind_some, pm_u, pm_ur, pm_lt, pm_le, pm_eq, pm_ne, pm_add, pm_sub, pm_mul, pm_z0, pm_z1, cond_true, cond_false, decide_true, decide_false, not_false_eq_true, not_true_eq_false, reduceIte, Nat.reduceEqDiff, Nat.add_eq_left, Nat.left_eq_add, Nat.add_left_cancel_iff, Nat.one_ne_zero, Nat.reduceMul, Nat.reduceAdd, Nat.reduceSub, Nat.reduceEqDiff, Nat.reduceLT, Nat.reduceLeDiff, Nat.not_lt_zero, Nat.zero_le, am_cs, c0, hb]
    refine ⟨I2, q1, q2, q3, f1.trans q4, ?_⟩
    rw [q5, am_u_ne _ _ (by omega)]
theorem m_moreOfPartial (M : ml_ok K) (h : mt_at I J p T) (hc : c < 30) {pl : Nat} {dat : List Nat} (hpl : pl < 256) (hd : dat.length ≤ 40) (hdb : ∀ x ∈ dat, x < 256) (hx : wl_at I 408 68 dat) (d : Nat) :
    ∃ I' : pm_I, f_X9_moreOfPartial d 370 (nI c) (nI pl) (nI dat.length) (K, I, J) = some ((0, 0, none), (K, I', J)) ∧ mt_at I' J p (T.setS T.w1 (ss_piece c pl dat T.sv)) ∧ mf_at I I' := by
  have hpc := (mt_v h).2.2.1 c hc
  rw [e_X9_moreOfPartial]
  unfold ss_piece
  cases ho : T.sv.pt c with
  | none =>
    rw [ho] at hpc
    have hpc : I 394 c = nI 0 := hpc
    simp (disch := first | assumption | omega) only [m_is M, m_gI M, m_pI M, mR7 M, mL371 M, mW371 M, mR8 M, mL372 M, mW372 M, mR9 M, mL373 M, mW373 M, mR10 M, mL374 M, mW374 M, mR11 M, mL375 M, mW375 M, mR12 M, mL376 M, mW376_0 M, mW376_1 M, mR13 M, mL377 M, mW377 M, mR14 M, mL378 M, mW378 M, mR15 M, mL379 M, mW379 M, mR16 M, mL380 M, mW380 M, mR17 M, mL381 M, mW381 M, mR18 M, mL382 M, mW382 M, mR19 M, mL383 M, mW383_0 M, mW383_1 M, mR20 M, mL384 M, mW384_0 M, mW384_1 M, mR21 M, mL385 M, mW385 M, mR22 M, mL386 M, mW386 M, mR23 M, mL387 M, mW387 M, mR26 M, mL388 M, mW388 M, mR27 M, mL389 M, mW389 M, mR28 M, mL390 M, mW390 M, mR29 M, mL391 M, mW391 M, mR30 M, mL392 M, mW392 M, mR31 M, mL393 M, mW393 M, mR32 M, mL394 M, mW394_0 M, mW394_1 M, mR33 M, mL395 M, mW395_0 M, mW395_1 M, mR34 M, mL396 M, mW396 M, mR35 M, mL397 M, mW397 M, mR36 M, mL398 M, mW398 M, mR37 M, mL399 M, mW399 M, mR38 M, mL400 M, mW400 M, mR39 M, mL401 M, mW401 M, mR40 M, mL402 M, mW402 M, mR41 M, mL403 M, mW403 M, mR42 M, mL404 M, mW404 M, mR43 M, mL405 M, mW405 M, mR44 M, mL406 M, mW406 M, mR45 M, mL407 M, mW407 M, mR46 M, mL408 M, mW408 M, mR47 M, mL409 M, mW409 M, mR48 M, mL410 M, mW410 M, Option.bind_some, pm_u, pm_ur, pm_lt, pm_le, pm_eq, pm_ne, pm_add, pm_sub, pm_mul, pm_z0, pm_z1, cond_true, cond_false, decide_true, decide_false, not_false_eq_true, not_true_eq_false, reduceIte, Nat.reduceEqDiff, Nat.add_eq_left, Nat.left_eq_add, Nat.add_left_cancel_iff, Nat.one_ne_zero, Nat.reduceMul, Nat.reduceAdd, Nat.reduceSub, Nat.reduceEqDiff, Nat.reduceLT, Nat.reduceLeDiff, Nat.not_lt_zero, Nat.zero_le, am_cs, hpc]
    exact ⟨I, rfl, h, mf_at.refl _⟩
  | some y =>
    rw [ho] at hpc
    obtain ⟨y1, y2, y3, y4, y5, y6⟩ := hpc
    simp only []
    unfold sr_piece
    have hid : T.sv.setPt (fu_at T.sv.pt c (some (y.1, y.2))) = T.sv := by
      have : fu_at T.sv.pt c (some (y.1, y.2)) = T.sv.pt := by
        funext i
        unfold fu_at
        split
        · next q => rw [q, ho]
        · rfl
      rw [this]
      rfl
    by_cases c1 : pl = y.2.length
    · by_cases c2 : y.2.length + dat.length ≤ 60
      · obtain ⟨I2, q1, q2, q3, q4, q5⟩ := m_morePLoop (J := J) (c := c) M c2 hd hc d dat.length 0 I (Nat.zero_add _) y3 (by simpa using y5) hx
        rw [if_pos ⟨c1, c2⟩]
        simp (disch := first | assumption | omega) only [m_is M, m_gI M, m_pI M, mR7 M, mL371 M, mW371 M, mR8 M, mL372 M, mW372 M, mR9 M, mL373 M, mW373 M, mR10 M, mL374 M, mW374 M, mR11 M, mL375 M, mW375 M, mR12 M, mL376 M, mW376_0 M, mW376_1 M, mR13 M, mL377 M, mW377 M, mR14 M, mL378 M, mW378 M, mR15 M, mL379 M, mW379 M, mR16 M, mL380 M, mW380 M, mR17 M, mL381 M, mW381 M, mR18 M, mL382 M, mW382 M, mR19 M, mL383 M, mW383_0 M, mW383_1 M, mR20 M, mL384 M, mW384_0 M, mW384_1 M, mR21 M, mL385 M, mW385 M, mR22 M, mL386 M, mW386 M, mR23 M, mL387 M, mW387 M, mR26 M, mL388 M, mW388 M, mR27 M, mL389 M, mW389 M, mR28 M, mL390 M, mW390 M, mR29 M, mL391 M, mW391 M, mR30 M, mL392 M, mW392 M, mR31 M, mL393 M, mW393 M, mR32 M, mL394 M, mW394_0 M, mW394_1 M, mR33 M, mL395 M, mW395_0 M, mW395_1 M, mR34 M, mL396 M, mW396 M, mR35 M, mL397 M, mW397 M, mR36 M, mL398 M, mW398 M, mR37 M, mL399 M, mW399 M, mR38 M, mL400 M, mW400 M, mR39 M, mL401 M, mW401 M, mR40 M, mL402 M, mW402 M, mR41 M, mL403 M, mW403 M, mR42 M, mL404 M, mW404 M, mR43 M, mL405 M, mW405 M, mR44 M, mL406 M, mW406 M, mR45 M, mL407 M, mW407 M, mR46 M, mL408 M, mW408 M, mR47 M, mL409 M, mW409 M, mR48 M, mL410 M, mW410 M, Option.bind_some, pm_u, pm_ur, pm_lt, pm_le, pm_eq, pm_ne, pm_add, pm_sub, pm_mul, pm_z0, pm_z1, cond_true, cond_false, decide_true, decide_false, not_false_eq_true, not_true_eq_false, reduceIte, Nat.reduceEqDiff, Nat.add_eq_left, Nat.left_eq_add, Nat.add_left_cancel_iff, Nat.one_ne_zero, Nat.reduceMul, Nat.reduceAdd, Nat.reduceSub, Nat.reduceEqDiff, Nat.reduceLT, Nat.reduceLeDiff, Nat.not_lt_zero, Nat.zero_le, am_cs, y1, y3, c1, c2]
        refine ⟨I2, q1, mt_pt (o := some (y.1, y.2 ++ dat)) h q4 (mpf.refl J c) ⟨by rw [q5]; exact y1, y2, q2, by show (y.2 ++ dat).length ≤ 60; rw [List.length_append]; omega, q3, ?_⟩, mpf_mf q4⟩
        intro x hx
        rcases List.mem_append.mp hx with q | q
        · exact y6 x q
        · exact hdb x q
      · rw [if_neg (fun q => c2 q.2), hid]
        simp (disch := first | assumption | omega) only [m_is M, m_gI M, m_pI M, mR7 M, mL371 M, mW371 M, mR8 M, mL372 M, mW372 M, mR9 M, mL373 M, mW373 M, mR10 M, mL374 M, mW374 M, mR11 M, mL375 M, mW375 M, mR12 M, mL376 M, mW376_0 M, mW376_1 M, mR13 M, mL377 M, mW377 M, mR14 M, mL378 M, mW378 M, mR15 M, mL379 M, mW379 M, mR16 M, mL380 M, mW380 M, mR17 M, mL381 M, mW381 M, mR18 M, mL382 M, mW382 M, mR19 M, mL383 M, mW383_0 M, mW383_1 M, mR20 M, mL384 M, mW384_0 M, mW384_1 M, mR21 M, mL385 M, mW385 M, mR22 M, mL386 M, mW386 M, mR23 M, mL387 M, mW387 M, mR26 M, mL388 M, mW388 M, mR27 M, mL389 M, mW389 M, mR28 M, mL390 M, mW390 M, mR29 M, mL391 M, mW391 M, mR30 M, mL392 M, mW392 M, mR31 M, mL393 M, mW393 M, mR32 M, mL394 M, mW394_0 M, mW394_1 M, mR33 M, mL395 M, mW395_0 M, mW395_1 M, mR34 M, mL396 M, mW396 M, mR35 M, mL397 M, mW397 M, mR36 M, mL398 M, mW398 M, mR37 M, mL399 M, mW399 M, mR38 M, mL400 M, mW400 M, mR39 M, mL401 M, mW401 M, mR40 M, mL402 M, mW402 M, mR41 M, mL403 M, mW403 M, mR42 M, mL404 M, mW404 M, mR43 M, mL405 M, mW405 M, mR44 M, mL406 M, mW406 M, mR45 M, mL407 M, mW407 M, mR46 M, mL408 M, mW408 M, mR47 M, mL409 M, mW409 M, mR48 M, mL410 M, mW410 M, Option.bind_some, pm_u, pm_ur, pm_lt, pm_le, pm_eq, pm_ne, pm_add, pm_sub, pm_mul, pm_z0, pm_z1, cond_true, cond_false, decide_true, decide_false, not_false_eq_true, not_true_eq_false, reduceIte, Nat.reduceEqDiff, Nat.add_eq_left, Nat.left_eq_add, Nat.add_left_cancel_iff, Nat.one_ne_zero, Nat.reduceMul, Nat.reduceAdd, Nat.reduceSub, Nat.reduceEqDiff, Nat.reduceLT, Nat.reduceLeDiff, Nat.not_lt_zero, Nat.zero_le, am_cs, y1, y3, c1, c2]
        exact ⟨I, rfl, h, mf_at.refl _⟩
    · rw [if_neg (fun q => c1 q.1), hid]
      have c1' : ¬ y.2.length = pl := fun q => c1 q.symm
      simp (disch := first | assumption | omega) only [m_is M, m_gI M, m_pI M, mR7 M, mL371 M, mW371 M, mR8 M, mL372 M, mW372 M, mR9 M, mL373 M, mW373 M, mR10 M, mL374 M, mW374 M, mR11 M, mL375 M, mW375 M, mR12 M, mL376 M, mW376_0 M, mW376_1 M, mR13 M, mL377 M, mW377 M, mR14 M, mL378 M, mW378 M, mR15 M, mL379 M, mW379 M, mR16 M, mL380 M, mW380 M, mR17 M, mL381 M, mW381 M, mR18 M, mL382 M, mW382 M, mR19 M, mL383 M, mW383_0 M, mW383_1 M, mR20 M, mL384 M, mW384_0 M, mW384_1 M, mR21 M, mL385 M, mW385 M, mR22 M, mL386 M, mW386 M, mR23 M, mL387 M, mW387 M, mR26 M, mL388 M, mW388 M, mR27 M, mL389 M, mW389 M, mR28 M, mL390 M, mW390 M, mR29 M, mL391 M, mW391 M, mR30 M, mL392 M, mW392 M, mR31 M, mL393 M, mW393 M, mR32 M, mL394 M, mW394_0 M, mW394_1 M, mR33 M, mL395 M, mW395_0 M, mW395_1 M, mR34 M, mL396 M, mW396 M, mR35 M, mL397 M, mW397 M, mR36 M, mL398 M, mW398 M, mR37 M, mL399 M, mW399 M, mR38 M, mL400 M, mW400 M, mR39 M, mL401 M, mW401 M, mR40 M, mL402 M, mW402 M, mR41 M, mL403 M, mW403 M, mR42 M, mL404 M, mW404 M, mR43 M, mL405 M, mW405 M, mR44 M, mL406 M, mW406 M, mR45 M, mL407 M, mW407 M, mR46 M, mL408 M, mW408 M, mR47 M, mL409 M, mW409 M, mR48 M, mL410 M, mW410 M, Option.bind_some, pm_u, pm_ur, pm_lt, pm_le, pm_eq, pm_ne, pm_add, pm_sub, pm_mul, pm_z0, pm_z1, cond_true, cond_false, decide_true, decide_false, not_false_eq_true, not_true_eq_false, reduceIte, Nat.reduceEqDiff, Nat.add_eq_left, Nat.left_eq_add, Nat.add_left_cancel_iff, Nat.one_ne_zero, Nat.reduceMul, Nat.reduceAdd, Nat.reduceSub, Nat.reduceEqDiff, Nat.reduceLT, Nat.reduceLeDiff, Nat.not_lt_zero, Nat.zero_le, am_cs, y1, y3, c1']
      exact ⟨I, rfl, h, mf_at.refl _⟩
end MSV
