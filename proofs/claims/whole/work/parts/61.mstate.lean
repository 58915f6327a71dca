/-! THE REFERENCE'S STATE -/
def mw_at (I : pm_I) (e : Nat) (W : sWy) : Prop := ∃ rm : Nat, I 403 e = nI rm ∧ I 404 e = nI W.q.length ∧ I 406 e = nI W.fs.length ∧ I 407 e = nI W.ar ∧ rm + W.q.length ≤ 4200 ∧ W.q.length ≤ 2000 ∧ W.fs.length ≤ 410 ∧ wl_at I 402 (4200 * e + rm) W.q ∧ wl_at I 405 (900 * e) W.fs ∧ wv_ok W.q W.fs W.ar
/-- the scalars, but for what was thrown and the frame's length -/
def ms_at (I : pm_I) (p ck bz bk nr mk nb nres : Nat) : Prop := I 370 1 = nI p ∧ I 370 2 = nI ck ∧ I 370 3 = nI bz ∧ I 370 4 = nI bk ∧ I 370 5 = nI nr ∧ I 370 6 = nI mk ∧ I 370 24 = nI nb ∧ I 370 25 = nI nres
/-- a call; ck is the clock -/
def mc_at (I : pm_I) (J : pm_J) (ck c : Nat) (C : sCl) : Prop :=
  I 371 c = nI C.kd ∧ I 372 c = C.oc ∧ (C.on = 1 → I 373 c = nI (C.la - ck) ∧ ck < C.la ∧ C.la ≤ ck + 200000) ∧ (I 374 c = nI (if C.wt = 0 then 0 else C.wk - ck) ∧ (C.wt ≠ 0 → C.on = 1 ∧ ck < C.wk ∧ C.wk ≤ ck + 200000)) ∧ I 375 c = nI C.tr ∧ I 376 c = nI C.bg ∧ J 377 c = C.ac ∧ J 378 c = C.xr ∧
  I 379 c = nI (if C.kd = 1 then C.row.length else 0) ∧ (C.kd = 1 → wl_at I 380 (60 * c) C.row) ∧
  (C.kd ≠ 3 → I 381 c = nI C.dg.length ∧ ∀ i, i < C.dg.length → J 382 (4 * c + i) = C.dg.getD i 0) ∧
  (∀ i, i < 4 → I 383 (4 * c + i) = nI (if C.an i = 0 then 0 else 1)) ∧ (∀ i, i < 4 → C.an i ≠ 0 → I 384 (4 * c + i) = nI (if C.an i = 1 then 1 else 0)) ∧
  I 385 c = nI (if C.kd = 2 then C.row.length else if C.kd = 3 then C.dg.length else 0) ∧ (C.kd = 2 → wl_at I 386 (60 * c) C.row) ∧ (C.kd = 3 → C.dg.length ≤ 3 ∧ ∀ i, i < C.dg.length → J 387 (3 * c + i) = C.dg.getD i 0) ∧
  ((C.row.length ≤ 60 ∧ (C.kd = 2 → C.dg.length ≤ 1) ∧ (C.kd = 4 → C.dg.length ≤ 3)) ∧ (∀ x ∈ C.row, x < 256) ∧ cb_ok C)
def mp_at (I : pm_I) (J : pm_J) (c : Nat) : Option (Int64 × List Nat) → Prop
  | none => I 394 c = nI 0
  | some y => I 394 c = nI 1 ∧ J 396 c = y.1 ∧ I 399 c = nI y.2.length ∧ y.2.length ≤ 60 ∧ wl_at I 400 (60 * c) y.2 ∧ ∀ x ∈ y.2, x < 256
def mn_at (I : pm_I) (J : pm_J) (c : Nat) : Option (Int64 × List Int64) → Prop
  | none => I 395 c = nI 0
  | some y => I 395 c = nI 1 ∧ J 397 c = y.1 ∧ I 401 c = nI y.2.length ∧ y.2.length ≤ 3 ∧ ∀ i, i < y.2.length → J 398 (3 * c + i) = y.2.getD i 0
/-- the reference's slots: the first nb are taken -/
def mb_at (I : pm_I) (J : pm_J) (nb : Nat) (s : Nat → Option (Int64 × List Nat)) : Prop := nb ≤ 10 ∧ (∀ k, nb ≤ k → s k = none) ∧ ∀ k, k < nb → ∃ y, s k = some y ∧ J 388 k = y.1 ∧ I 389 k = nI y.2.length ∧ y.2.length ≤ 60 ∧ wl_at I 390 (60 * k) y.2 ∧ ∀ x ∈ y.2, x < 256
def mr_at (I : pm_I) (J : pm_J) (nb : Nat) (s : Nat → Option (Int64 × List Int64)) : Prop := nb ≤ 10 ∧ (∀ k, nb ≤ k → s k = none) ∧ ∀ k, k < nb → ∃ y, s k = some y ∧ J 391 k = y.1 ∧ I 393 k = nI y.2.length ∧ y.2.length ≤ 3 ∧ ∀ i, i < y.2.length → J 392 (3 * k + i) = y.2.getD i 0
def mg_at (I : pm_I) (a p : Nat) (g : List Nat) : Prop := I 409 a = nI g.length ∧ wl_at I 408 (64 * a) g ∧ sg_ok p g ∧ ∀ x ∈ g, x < 256
/-- the whole of it, by its parts -/
def mv_at (I : pm_I) (J : pm_J) (S : sSv) : Prop := (∃ s, mb_at I J S.nb s ∧ bm_ok s S.B S.nb) ∧ (∃ t, mr_at I J S.nr t ∧ bm_ok t S.R S.nr) ∧ (∀ c, c < 30 → mp_at I J c (S.pt c)) ∧ (∀ c, c < 30 → mn_at I J c (S.nt c)) ∧ S.bz ≤ 100
def mk_at (I : pm_I) (J : pm_J) (cs : Nat → sCl) (mk ck : Nat) : Prop := (∀ c, c < 30 → mc_at I J ck c (cs c)) ∧ (∀ c, mk ≤ c → cs c = sCl.new) ∧ mk ≤ 30 ∧ ck ≤ 1000000
def mt_at (I : pm_I) (J : pm_J) (p : Nat) (T : sT) : Prop := ms_at I p T.ck T.sv.bz T.bk (T.w0.rf + T.w1.rf) T.mk T.sv.nb T.sv.nr ∧ (mw_at I 0 T.w0 ∧ mw_at I 1 T.w1) ∧ mk_at I J T.cs T.mk T.ck ∧ mv_at I J T.sv ∧ (mg_at I 1 p T.g0 ∧ mg_at I 0 p T.g1) ∧ (8 ≤ p ∧ p ≤ 40)
/-- nothing outside the reference's cells has changed -/
def mf_at {α : Type} (I I' : Nat → α) : Prop := ∀ a, a < 370 ∨ 411 ≤ a → I' a = I a
theorem mf_at.refl {α : Type} (I : Nat → α) : mf_at I I := fun _ _ => rfl
theorem mf_at.trans {α : Type} {I I' I'' : Nat → α} (h : mf_at I I') (h' : mf_at I' I'') : mf_at I I'' := fun a ha => (h' a ha).trans (h a ha)
theorem mf_u {α : Type} {I : Nat → Nat → α} {a j : Nat} {v : α} (h : 370 ≤ a ∧ a < 411) : mf_at I (am_u I a j v) := fun x hx => am_u_ne _ _ (by omega)
section MST
variable {K : am_K} {I I' : pm_I} {J J' : pm_J} {p : Nat} {T : sT}
/-! each part reads only its own cells -/
theorem wl_congr {a b q : Nat} {l : List Nat} (h : wl_at I a q l) (e : I' a = I a) : wl_at I' a q l := fun i hi => by rw [e]; exact h i hi
theorem mw_congr {e : Nat} {W : sWy} (h : mw_at I e W) (g : ∀ a, 402 ≤ a → a ≤ 407 → I' a = I a) : mw_at I' e W := by
  obtain ⟨rm, h1, h2, h3, h4, h5, h6, h7, h8, h9, h10⟩ := h
  refine ⟨rm, ?_, ?_, ?_, ?_, h5, h6, h7, ?_, ?_, h10⟩
  · rw [g _ (by omega) (by omega)]; exact h1
  · rw [g _ (by omega) (by omega)]; exact h2
  · rw [g _ (by omega) (by omega)]; exact h3
  · rw [g _ (by omega) (by omega)]; exact h4
  · intro i hi; rw [g _ (by omega) (by omega)]; exact h8 i hi
  · intro i hi; rw [g _ (by omega) (by omega)]; exact h9 i hi
theorem mc_congr {ck c : Nat} {C : sCl} (h : mc_at I J ck c C) (g : ∀ a, 371 ≤ a → a ≤ 387 → I' a = I a) (g' : ∀ a, 371 ≤ a → a ≤ 387 → J' a = J a) : mc_at I' J' ck c C := by
  unfold mc_at wl_at at *
  rw [g 371 (by omega) (by omega), g 372 (by omega) (by omega), g 373 (by omega) (by omega), g 374 (by omega) (by omega), g 375 (by omega) (by omega), g 376 (by omega) (by omega), g' 377 (by omega) (by omega), g' 378 (by omega) (by omega), g 379 (by omega) (by omega), g 380 (by omega) (by omega), g 381 (by omega) (by omega), g' 382 (by omega) (by omega), g 383 (by omega) (by omega), g 384 (by omega) (by omega), g 385 (by omega) (by omega), g 386 (by omega) (by omega), g' 387 (by omega) (by omega)]
  exact h
theorem mk_congr {cs : Nat → sCl} {mk ck : Nat} (h : mk_at I J cs mk ck) (g : ∀ a, 371 ≤ a → a ≤ 387 → I' a = I a) (g' : ∀ a, 371 ≤ a → a ≤ 387 → J' a = J a) : mk_at I' J' cs mk ck := ⟨fun c hc => mc_congr (h.1 c hc) g g', h.2⟩
theorem mp_congr {c : Nat} {o : Option (Int64 × List Nat)} (h : mp_at I J c o) (g : ∀ a, 394 ≤ a → a ≤ 401 → I' a = I a) (g' : ∀ a, 394 ≤ a → a ≤ 401 → J' a = J a) : mp_at I' J' c o := by
  cases o with
  | none =>
    show I' 394 c = nI 0
    rw [g 394 (by omega) (by omega)]
    exact h
  | some y =>
    unfold mp_at wl_at at *
    rw [g 394 (by omega) (by omega), g' 396 (by omega) (by omega), g 399 (by omega) (by omega), g 400 (by omega) (by omega)]
    exact h
theorem mn_congr {c : Nat} {o : Option (Int64 × List Int64)} (h : mn_at I J c o) (g : ∀ a, 394 ≤ a → a ≤ 401 → I' a = I a) (g' : ∀ a, 394 ≤ a → a ≤ 401 → J' a = J a) : mn_at I' J' c o := by
  cases o with
  | none =>
    show I' 395 c = nI 0
    rw [g 395 (by omega) (by omega)]
    exact h
  | some y =>
    unfold mn_at at *
    rw [g 395 (by omega) (by omega), g' 397 (by omega) (by omega), g 401 (by omega) (by omega), g' 398 (by omega) (by omega)]
    exact h
theorem mb_congr {nb : Nat} {s : Nat → Option (Int64 × List Nat)} (h : mb_at I J nb s) (g : ∀ a, 388 ≤ a → a ≤ 390 → I' a = I a) (g' : ∀ a, 388 ≤ a → a ≤ 390 → J' a = J a) : mb_at I' J' nb s := by
  unfold mb_at wl_at at *
  rw [g' 388 (by omega) (by omega), g 389 (by omega) (by omega), g 390 (by omega) (by omega)]
  exact h
theorem mr_congr {nb : Nat} {s : Nat → Option (Int64 × List Int64)} (h : mr_at I J nb s) (g : ∀ a, 391 ≤ a → a ≤ 393 → I' a = I a) (g' : ∀ a, 391 ≤ a → a ≤ 393 → J' a = J a) : mr_at I' J' nb s := by
  unfold mr_at at *
  rw [g' 391 (by omega) (by omega), g 393 (by omega) (by omega), g' 392 (by omega) (by omega)]
  exact h
theorem mv_congr {S : sSv} (h : mv_at I J S) (g : ∀ a, 388 ≤ a → a ≤ 401 → I' a = I a) (g' : ∀ a, 388 ≤ a → a ≤ 401 → J' a = J a) : mv_at I' J' S := by
  obtain ⟨⟨s, h1, h2⟩, ⟨t, h3, h4⟩, h5, h6, h7⟩ := h
  exact ⟨⟨s, mb_congr h1 (fun a _ _ => g a (by omega) (by omega)) (fun a _ _ => g' a (by omega) (by omega)), h2⟩, ⟨t, mr_congr h3 (fun a _ _ => g a (by omega) (by omega)) (fun a _ _ => g' a (by omega) (by omega)), h4⟩, fun c hc => mp_congr (h5 c hc) (fun a _ _ => g a (by omega) (by omega)) (fun a _ _ => g' a (by omega) (by omega)), fun c hc => mn_congr (h6 c hc) (fun a _ _ => g a (by omega) (by omega)) (fun a _ _ => g' a (by omega) (by omega)), h7⟩
theorem mg_congr {a : Nat} {g : List Nat} (h : mg_at I a p g) (e8 : I' 408 = I 408) (e9 : I' 409 = I 409) : mg_at I' a p g := by
  obtain ⟨h1, h2, h3⟩ := h
  refine ⟨by rw [e9]; exact h1, fun i hi => ?_, h3⟩
  rw [e8]
  exact h2 i hi
/-- the scratch of a frame: what was put behind its length -/
def mx_at (I : pm_I) (l : List Nat) : Prop := I 370 49 = nI (1 + l.length) ∧ wl_at I 410 1 l
/-- nothing but the scratch has changed -/
def mxf (I I' : pm_I) : Prop := (∀ a, a ≠ 370 → a ≠ 410 → I' a = I a) ∧ ∀ j, j ≠ 49 → I' 370 j = I 370 j
theorem mxf.refl (I : pm_I) : mxf I I := ⟨fun _ _ _ => rfl, fun _ _ => rfl⟩
theorem mxf.trans {I I' I'' : pm_I} (h : mxf I I') (h' : mxf I' I'') : mxf I I'' := ⟨fun a ha hb => (h'.1 a ha hb).trans (h.1 a ha hb), fun j hj => (h'.2 j hj).trans (h.2 j hj)⟩
theorem mxf_mf (h : mxf I I') : mf_at I I' := fun a ha => h.1 a (by omega) (by omega)
theorem mt_mxf (h : mt_at I J p T) (e : mxf I I') : mt_at I' J p T := by
  obtain ⟨h1, ⟨h2, h3⟩, h4, h5, ⟨h6, h7⟩, h8⟩ := h
  refine ⟨?_, ⟨mw_congr h2 (fun a _ _ => e.1 a (by omega) (by omega)), mw_congr h3 (fun a _ _ => e.1 a (by omega) (by omega))⟩, mk_congr h4 (fun a _ _ => e.1 a (by omega) (by omega)) (fun _ _ _ => rfl), mv_congr h5 (fun a _ _ => e.1 a (by omega) (by omega)) (fun _ _ _ => rfl), ⟨mg_congr h6 (e.1 _ (by omega) (by omega)) (e.1 _ (by omega) (by omega)), mg_congr h7 (e.1 _ (by omega) (by omega)) (e.1 _ (by omega) (by omega))⟩, h8⟩
  unfold ms_at at *
  rw [e.2 1 (by omega), e.2 2 (by omega), e.2 3 (by omega), e.2 4 (by omega), e.2 5 (by omega), e.2 6 (by omega), e.2 24 (by omega), e.2 25 (by omega)]
  exact h1
/-- what was thrown is another word -/
theorem mt_thrown (h : mt_at I J p T) (v : Int32) : mt_at (am_u I 370 0 v) J p T := by
  obtain ⟨h1, ⟨h2, h3⟩, h4, h5, ⟨h6, h7⟩, h8⟩ := h
  have e : ∀ a, a ≠ 370 → am_u I 370 0 v a = I a := fun a ha => am_u_ne _ _ ha
  refine ⟨?_, ⟨mw_congr h2 (fun a _ _ => e a (by omega)), mw_congr h3 (fun a _ _ => e a (by omega))⟩, mk_congr h4 (fun a _ _ => e a (by omega)) (fun _ _ _ => rfl), mv_congr h5 (fun a _ _ => e a (by omega)) (fun _ _ _ => rfl), ⟨mg_congr h6 (e _ (by omega)) (e _ (by omega)), mg_congr h7 (e _ (by omega)) (e _ (by omega))⟩, h8⟩
  unfold ms_at at *
  simpa [pm_u] using h1
theorem m_frameOf (M : ml_ok K) {c kd pl : Nat} (d : Nat) : ∃ I' : pm_I, f_X9_frameOf d 370 (nI c) (nI kd) (nI pl) (K, I, J) = some ((0, 0, none), (K, I', J)) ∧ mx_at I' [c, kd, pl] ∧ mxf I I' := by
  rw [e_X9_frameOf]
  simp (disch := first | assumption | omega) only [m_is M, m_gI M, m_pI M, mR7 M, mL371 M, mW371 M, mR8 M, mL372 M, mW372 M, mR9 M, mL373 M, mW373 M, mR10 M, mL374 M, mW374 M, mR11 M, mL375 M, mW375 M, mR12 M, mL376 M, mW376_0 M, mW376_1 M, mR13 M, mL377 M, mW377 M, mR14 M, mL378 M, mW378 M, mR15 M, mL379 M, mW379 M, mR16 M, mL380 M, mW380 M, mR17 M, mL381 M, mW381 M, mR18 M, mL382 M, mW382 M, mR19 M, mL383 M, mW383_0 M, mW383_1 M, mR20 M, mL384 M, mW384_0 M, mW384_1 M, mR21 M, mL385 M, mW385 M, mR22 M, mL386 M, mW386 M, mR23 M, mL387 M, mW387 M, mR26 M, mL388 M, mW388 M, mR27 M, mL389 M, mW389 M, mR28 M, mL390 M, mW390 M, mR29 M, mL391 M, mW391 M, mR30 M, mL392 M, mW392 M, mR31 M, mL393 M, mW393 M, mR32 M, mL394 M, mW394_0 M, mW394_1 M, mR33 M, mL395 M, mW395_0 M, mW395_1 M, mR34 M, mL396 M, mW396 M, mR35 M, mL397 M, mW397 M, mR36 M, mL398 M, mW398 M, mR37 M, mL399 M, mW399 M, mR38 M, mL400 M, mW400 M, mR39 M, mL401 M, mW401 M, mR40 M, mL402 M, mW402 M, mR41 M, mL403 M, mW403 M, mR42 M, mL404 M, mW404 M, mR43 M, mL405 M, mW405 M, mR44 M, mL406 M, mW406 M, mR45 M, mL407 M, mW407 M, mR46 M, mL408 M, mW408 M, mR47 M, mL409 M, mW409 M, mR48 M, mL410 M, mW410 M, Option.bind_some, pm_u, pm_ur, pm_lt, pm_le, pm_eq, pm_ne, pm_add, pm_sub, pm_mul, pm_z0, pm_z1, cond_true, cond_false, decide_true, decide_false, not_false_eq_true, not_true_eq_false, reduceIte, Nat.reduceEqDiff, Nat.add_eq_left, Nat.left_eq_add, Nat.add_left_cancel_iff, Nat.one_ne_zero, Nat.reduceMul, Nat.reduceAdd, Nat.reduceSub, Nat.reduceEqDiff, Nat.reduceLT, Nat.reduceLeDiff, am_cs]
  refine ⟨_, rfl, ⟨?_, ?_⟩, ⟨fun a h1 h2 => ?_, fun j hj => ?_⟩⟩
  · simp [pm_u]
  · intro i hi
    simp at hi
    have : i = 0 ∨ i = 1 ∨ i = 2 := by omega
    rcases this with rfl | rfl | rfl <;> simp [pm_u]
  · simp [am_u_ne, h1, h2]
  · simp [pm_u, hj]
theorem m_put (M : ml_ok K) {b : Nat} {l : List Nat} (h : mx_at I l) (hl : l.length < 60) (d : Nat) : ∃ I' : pm_I, f_X9_put d 370 (nI b) (K, I, J) = some ((0, 0, none), (K, I', J)) ∧ mx_at I' (l ++ [b]) ∧ mxf I I' ∧ ∀ j, j ≠ 1 + l.length → I' 410 j = I 410 j := by
  obtain ⟨h1, h2⟩ := h
  rw [e_X9_put]
  simp (disch := first | assumption | omega) only [m_is M, m_gI M, m_pI M, mR7 M, mL371 M, mW371 M, mR8 M, mL372 M, mW372 M, mR9 M, mL373 M, mW373 M, mR10 M, mL374 M, mW374 M, mR11 M, mL375 M, mW375 M, mR12 M, mL376 M, mW376_0 M, mW376_1 M, mR13 M, mL377 M, mW377 M, mR14 M, mL378 M, mW378 M, mR15 M, mL379 M, mW379 M, mR16 M, mL380 M, mW380 M, mR17 M, mL381 M, mW381 M, mR18 M, mL382 M, mW382 M, mR19 M, mL383 M, mW383_0 M, mW383_1 M, mR20 M, mL384 M, mW384_0 M, mW384_1 M, mR21 M, mL385 M, mW385 M, mR22 M, mL386 M, mW386 M, mR23 M, mL387 M, mW387 M, mR26 M, mL388 M, mW388 M, mR27 M, mL389 M, mW389 M, mR28 M, mL390 M, mW390 M, mR29 M, mL391 M, mW391 M, mR30 M, mL392 M, mW392 M, mR31 M, mL393 M, mW393 M, mR32 M, mL394 M, mW394_0 M, mW394_1 M, mR33 M, mL395 M, mW395_0 M, mW395_1 M, mR34 M, mL396 M, mW396 M, mR35 M, mL397 M, mW397 M, mR36 M, mL398 M, mW398 M, mR37 M, mL399 M, mW399 M, mR38 M, mL400 M, mW400 M, mR39 M, mL401 M, mW401 M, mR40 M, mL402 M, mW402 M, mR41 M, mL403 M, mW403 M, mR42 M, mL404 M, mW404 M, mR43 M, mL405 M, mW405 M, mR44 M, mL406 M, mW406 M, mR45 M, mL407 M, mW407 M, mR46 M, mL408 M, mW408 M, mR47 M, mL409 M, mW409 M, mR48 M, mL410 M, mW410 M, Option.bind_some, pm_u, pm_ur, pm_lt, pm_le, pm_eq, pm_ne, pm_add, pm_sub, pm_mul, pm_z0, pm_z1, cond_true, cond_false, decide_true, decide_false, not_false_eq_true, not_true_eq_false, reduceIte, Nat.reduceEqDiff, Nat.add_eq_left, Nat.left_eq_add, Nat.add_left_cancel_iff, Nat.one_ne_zero, Nat.reduceMul, Nat.reduceAdd, Nat.reduceSub, Nat.reduceEqDiff, Nat.reduceLT, Nat.reduceLeDiff, am_cs, h1]
  refine ⟨_, rfl, ⟨?_, ?_⟩, ⟨fun a h1 h2 => ?_, fun j hj => ?_⟩, fun j hj => by simp [pm_u, hj]⟩
  · simp [pm_u, Nat.add_assoc]
  · have := wl_snoc (b := b) h2
    intro i hi
    rw [am_u_ne _ _ (show 410 ≠ 370 by omega)]
    exact this i hi
  · simp [am_u_ne, h1, h2]
  · simp [pm_u, hj]
end MST
