/-! THE REFERENCE SENDS -/
theorem wv_len {q fs : List Nat} {ar : Nat} (h : wv_ok q fs ar) (hq : q.length ≤ 2000) : fs.length ≤ 408 := by
  have har := wv_ar h
  have h1 : ∀ l : List Nat, (∀ f ∈ l, 5 ≤ f ∧ f ≤ 45) → 5 * l.length ≤ l.sum := by
    intro l
    induction l with
    | nil => intro _; simp
    | cons f l ih =>
      intro h
      have a1 := (h f List.mem_cons_self).1
      have a2 := ih (fun g hg => h g (List.mem_cons_of_mem _ hg))
      simp
      omega
  have h2 := h1 fs h.2.1
  have h3 := h.2.2.1
  omega
/-- only way e of the reference, and its scratch, have changed -/
def mwf (I I' : pm_I) (e : Nat) : Prop := (∀ a, a ≠ 370 → a ≠ 410 → a < 402 ∨ 407 < a → I' a = I a) ∧ (∀ j, j < 4200 * e ∨ 4200 * e + 4200 ≤ j → I' 402 j = I 402 j) ∧ (∀ j, j < 900 * e ∨ 900 * e + 900 ≤ j → I' 405 j = I 405 j) ∧ (∀ a j, a = 403 ∨ a = 404 ∨ a = 406 ∨ a = 407 → j ≠ e → I' a j = I a j) ∧ ∀ j, j ≠ 49 → j ≠ 5 → I' 370 j = I 370 j
theorem mwf.refl (I : pm_I) (e : Nat) : mwf I I e := ⟨fun _ _ _ _ => rfl, fun _ _ => rfl, fun _ _ => rfl, fun _ _ _ _ => rfl, fun _ _ _ => rfl⟩
theorem mwf.trans {I I' I'' : pm_I} {e : Nat} (h : mwf I I' e) (h' : mwf I' I'' e) : mwf I I'' e := ⟨fun a h1 h2 h3 => (h'.1 a h1 h2 h3).trans (h.1 a h1 h2 h3), fun j hj => (h'.2.1 j hj).trans (h.2.1 j hj), fun j hj => (h'.2.2.1 j hj).trans (h.2.2.1 j hj), fun a j h1 h2 => (h'.2.2.2.1 a j h1 h2).trans (h.2.2.2.1 a j h1 h2), fun j h1 h2 => (h'.2.2.2.2 j h1 h2).trans (h.2.2.2.2 j h1 h2)⟩
theorem mwf_x {I I' : pm_I} (e : Nat) (h : mxf I I') : mwf I I' e := ⟨fun a h1 h2 _ => h.1 a h1 h2, fun j _ => by rw [h.1 402 (by omega) (by omega)], fun j _ => by rw [h.1 405 (by omega) (by omega)], fun a j h1 _ => by rw [h.1 a (by omega) (by omega)], fun j h1 _ => h.2 j h1⟩
theorem mwf_402 {I : pm_I} {e j : Nat} {v : Int32} (h : 4200 * e ≤ j ∧ j < 4200 * e + 4200) : mwf I (am_u I 402 j v) e := ⟨fun a _ _ h3 => am_u_ne _ _ (by omega), fun i hi => by rw [am_u_self, if_neg (by omega)], fun i _ => by rw [am_u_ne _ _ (by omega)], fun a i h1 _ => by rw [am_u_ne _ _ (by omega)], fun i _ _ => by rw [am_u_ne _ _ (by omega)]⟩
theorem mwf_405 {I : pm_I} {e j : Nat} {v : Int32} (h : 900 * e ≤ j ∧ j < 900 * e + 900) : mwf I (am_u I 405 j v) e := ⟨fun a _ _ h3 => am_u_ne _ _ (by omega), fun i hi => by rw [am_u_ne _ _ (by omega)], fun i hi => by rw [am_u_self, if_neg (by omega)], fun a i h1 _ => by rw [am_u_ne _ _ (by omega)], fun i _ _ => by rw [am_u_ne _ _ (by omega)]⟩
theorem mwf_e {I : pm_I} {e a : Nat} {v : Int32} (h : a = 403 ∨ a = 404 ∨ a = 406 ∨ a = 407) : mwf I (am_u I a e v) e := by
  refine ⟨fun x _ _ h3 => am_u_ne _ _ (by omega), fun i hi => by rw [am_u_ne _ _ (by omega)], fun i hi => by rw [am_u_ne _ _ (by omega)], fun x i h1 h2 => ?_, fun i _ _ => by rw [am_u_ne _ _ (by omega)]⟩
  simp only [pm_u]
  rw [if_neg h2]
  split <;> rfl
theorem mw_other {I I' : pm_I} {e e' : Nat} {W : sWy} (h : mw_at I e' W) (g : mwf I I' e) (hne : e' ≠ e) : mw_at I' e' W := by
  obtain ⟨rm, h1, h2, h3, h4, h5, h6, h7, h8, h9, h10⟩ := h
  refine ⟨rm, ?_, ?_, ?_, ?_, h5, h6, h7, ?_, ?_, h10⟩
  · rw [g.2.2.2.1 _ _ (by omega) hne]; exact h1
  · rw [g.2.2.2.1 _ _ (by omega) hne]; exact h2
  · rw [g.2.2.2.1 _ _ (by omega) hne]; exact h3
  · rw [g.2.2.2.1 _ _ (by omega) hne]; exact h4
  · intro i hi; rw [g.2.1 _ (by omega)]; exact h8 i hi
  · intro i hi; rw [g.2.2.1 _ (by omega)]; exact h9 i hi
def tW (T : sT) (e : Nat) : sWy := if e = 0 then T.w0 else T.w1
def tSW (T : sT) (e : Nat) (W : sWy) : sT := if e = 0 then T.setW0 W else T.setW1 W
section MSN
variable {K : am_K} {I I' : pm_I} {J J' : pm_J} {p : Nat} {T : sT}
theorem mt_way {e : Nat} (he : e ≤ 1) {W : sWy} (h : mt_at I J p T) (g : mwf I I' e) (hw : mw_at I' e W) (hr : I' 370 5 = nI ((tSW T e W).w0.rf + (tSW T e W).w1.rf)) : mt_at I' J p (tSW T e W) := by
  obtain ⟨h1, ⟨h2, h3⟩, h4, h5, ⟨h6, h7⟩, h8⟩ := h
  have hs : ms_at I' p T.ck T.sv.bz T.bk ((tSW T e W).w0.rf + (tSW T e W).w1.rf) T.mk T.sv.nb T.sv.nr := by
    unfold ms_at at *
    rw [g.2.2.2.2 1 (by omega) (by omega), g.2.2.2.2 2 (by omega) (by omega), g.2.2.2.2 3 (by omega) (by omega), g.2.2.2.2 4 (by omega) (by omega), g.2.2.2.2 6 (by omega) (by omega), g.2.2.2.2 24 (by omega) (by omega), g.2.2.2.2 25 (by omega) (by omega)]
    exact ⟨h1.1, h1.2.1, h1.2.2.1, h1.2.2.2.1, hr, h1.2.2.2.2.2⟩
  have hk := mk_congr (J' := J) h4 (fun a _ _ => g.1 a (by omega) (by omega) (by omega)) (fun _ _ _ => rfl)
  have hv := mv_congr (J' := J) h5 (fun a _ _ => g.1 a (by omega) (by omega) (by omega)) (fun _ _ _ => rfl)
  have g6 := mg_congr h6 (g.1 408 (by omega) (by omega) (by omega)) (g.1 409 (by omega) (by omega) (by omega))
  have g7 := mg_congr h7 (g.1 408 (by omega) (by omega) (by omega)) (g.1 409 (by omega) (by omega) (by omega))
  unfold tSW at *
  have : e = 0 ∨ e = 1 := by omega
  rcases this with rfl | rfl
  · rw [if_pos rfl] at *
    exact ⟨hs, ⟨hw, mw_other h3 g (by omega)⟩, hk, hv, ⟨g6, g7⟩, h8⟩
  · rw [if_neg (by omega)] at *
    exact ⟨hs, ⟨mw_other h2 g (by omega), hw⟩, hk, hv, ⟨g6, g7⟩, h8⟩
theorem mt_w {e : Nat} (he : e ≤ 1) (h : mt_at I J p T) : mw_at I e (tW T e) := by
  have : e = 0 ∨ e = 1 := by omega
  unfold tW
  rcases this with rfl | rfl
  · rw [if_pos rfl]; exact h.2.1.1
  · rw [if_neg (by omega)]; exact h.2.1.2
/-- a frame is copied behind the way's last byte -/
theorem m_send176 (M : ml_ok K) {e rm : Nat} (he : e ≤ 1) {W : sWy} {F : List Nat} (hF : F.length ≤ 45) (hF5 : 5 ≤ F.length) (hFb : ∀ x ∈ F, x < 256) (hv : wv_ok W.q W.fs W.ar) (hq : W.q.length + F.length ≤ 2000) (hr : rm + W.q.length + F.length ≤ 4200) (d : Nat) : ∀ (n i : Nat) (I : pm_I), i + n = F.length → I 403 e = nI rm → I 404 e = nI W.q.length → I 406 e = nI W.fs.length → I 407 e = nI W.ar → wl_at I 402 (4200 * e + rm) (W.q ++ F.take i) → wl_at I 405 (900 * e) W.fs → I 370 49 = nI F.length → wl_at I 410 0 F →
    ∃ I' : pm_I, l_X9_send_176 (d + 1) 370 (nI e) (nI (4200 * e + rm + W.q.length)) (nI i) (K, I, J) = some ((0, 0, none), (K, I', J)) ∧ mw_at I' e (W.q ++ F, W.fs ++ [F.length], W.ar, W.rf) ∧ mwf I I' e ∧ I' 370 5 = I 370 5 := by
  have hfl := wv_len hv (by omega)
  intro n
  induction n with
  | zero =>
    intro i I hi h1 h2 h3 h4 h5 h6 h7 h8
    have c0 : F.length ≤ i := by omega
    rw [List.take_of_length_le c0] at h5
    rw [e_l_X9_send_176]
    simp (disch := first | assumption | omega) only [m_is M, m_gI M, m_pI M, mR7 M, mL371 M, mW371 M, mR8 M, mL372 M, mW372 M, mR9 M, mL373 M, mW373 M, mR10 M, mL374 M, mW374 M, mR11 M, mL375 M, mW375 M, mR12 M, mL376 M, mW376_0 M, mW376_1 M, mR13 M, mL377 M, mW377 M, mR14 M, mL378 M, mW378 M, mR15 M, mL379 M, mW379 M, mR16 M, mL380 M, mW380 M, mR17 M, mL381 M, mW381 M, mR18 M, mL382 M, mW382 M, mR19 M, mL383 M, mW383_0 M, mW383_1 M, mR20 M, mL384 M, mW384_0 M, mW384_1 M, mR21 M, mL385 M, mW385 M, mR22 M, mL386 M, mW386 M, mR23 M, mL387 M, mW387 M, mR26 M, mL388 M, mW388 M, mR27 M, mL389 M, mW389 M, mR28 M, mL390 M, mW390 M, mR29 M, mL391 M, mW391 M, mR30 M, mL392 M, mW392 M, mR31 M, mL393 M, mW393 M, mR32 M, mL394 M, mW394_0 M, mW394_1 M, mR33 M, mL395 M, mW395_0 M, mW395_1 M, mR34 M, mL396 M, mW396 M, mR35 M, mL397 M, mW397 M, mR36 M, mL398 M, mW398 M, mR37 M, mL399 M, mW399 M, mR38 M, mL400 M, mW400 M, mR39 M, mL401 M, mW401 M, mR40 M, mL402 M, mW402 M, mR41 M, mL403 M, mW403 M, mR42 M, mL404 M, mW404 M, mR43 M, mL405 M, mW405 M, mR44 M, mL406 M, mW406 M, mR45 M, mL407 M, mW407 M, mR46 M, mL408 M, mW408 M, mR47 M, mL409 M, mW409 M, mR48 M, mL410 M, mW410 M, Option.bind_some, pm_u, pm_ur, pm_lt, pm_le, pm_eq, pm_ne, pm_add, pm_sub, pm_mul, pm_z0, pm_z1, cond_true, cond_false, decide_true, decide_false, not_false_eq_true, not_true_eq_false, reduceIte, Nat.reduceEqDiff, Nat.add_eq_left, Nat.left_eq_add, Nat.add_left_cancel_iff, Nat.one_ne_zero, Nat.reduceMul, Nat.reduceAdd, Nat.reduceSub, Nat.reduceEqDiff, Nat.reduceLT, Nat.reduceLeDiff, am_cs, h7, c0, h2, h3]
    refine ⟨_, rfl, ⟨rm, ?_, ?_, ?_, ?_, ?_, ?_, ?_, ?_, ?_, ?_⟩, ?_, ?_⟩
    · simp [pm_u, h1]
    · show _ = nI (W.q ++ F).length
      simp [pm_u]
    · show _ = nI (W.fs ++ [F.length]).length
      simp [pm_u]
    · simp [pm_u, h4]
    · show rm + (W.q ++ F).length ≤ 4200
      rw [List.length_append]
      omega
    · show (W.q ++ F).length ≤ 2000
      rw [List.length_append]
      omega
    · show (W.fs ++ [F.length]).length ≤ 410
      rw [List.length_append]
      simp
      omega
    · intro j hj
      rw [am_u_ne _ _ (by omega), am_u_ne _ _ (by omega), am_u_ne _ _ (by omega)]
      exact h5 j hj
    · intro j hj
      have := wl_snoc (b := F.length) h6
      rw [am_u_ne _ _ (by omega)]
      have hh := this j hj
      rw [am_u_self] at hh
      rw [am_u_self, am_u_ne _ _ (by omega)]
      exact hh
    · exact wv_send hv hFb hF5 hF
    · exact (mwf_e (a := 404) (by omega)).trans ((mwf_405 (by omega)).trans (mwf_e (by omega)))
    · rw [am_u_ne _ _ (by omega), am_u_ne _ _ (by omega), am_u_ne _ _ (by omega)]
  | succ n ih =>
    intro i I hi h1 h2 h3 h4 h5 h6 h7 h8
    have c0 : ¬ F.length ≤ i := by omega
    have hb := h8 i (by omega)
    rw [Nat.zero_add] at hb
    have f1 : mwf I (am_u I 402 (4200 * e + rm + W.q.length + i) (nI (F.getD i 0))) e := mwf_402 (by omega)
    have ht : W.q ++ F.take i ++ [F.getD i 0] = W.q ++ F.take (i + 1) := by
      rw [List.append_assoc]
      congr 1
      rw [List.take_succ, List.getElem?_eq_getElem (by omega), List.getD_eq_getElem?_getD, List.getElem?_eq_getElem (by omega)]
      rfl
    have hs := wl_snoc (b := F.getD i 0) h5
    rw [ht, List.length_append, List.length_take, Nat.min_eq_left (by omega), ← Nat.add_assoc] at hs
    obtain ⟨I2, k1, k2, k3, k4⟩ := ih (i + 1) (am_u I 402 (4200 * e + rm + W.q.length + i) (nI (F.getD i 0))) (by omega) (by rw [am_u_ne _ _ (by omega)]; exact h1) (by rw [am_u_ne _ _ (by omega)]; exact h2) (by rw [am_u_ne _ _ (by omega)]; exact h3) (by rw [am_u_ne _ _ (by omega)]; exact h4) hs (wl_congr (b := 0) h6 (am_u_ne _ _ (by omega))) (by rw [am_u_ne _ _ (by omega)]; exact h7) (wl_congr (b := 0) h8 (am_u_ne _ _ (by omega)))
    rw [e_l_X9_send_176]
    simp (disch := first | assumption | omega) only [m_is M, m_gI M, m_pI M, mR7 M, mL371 M, mW371 M, mR8 M, mL372 M, mW372 M, mR9 M, mL373 M, mW373 M, mR10 M, mL374 M, mW374 M, mR11 M, mL375 M, mW375 M, mR12 M, mL376 M, mW376_0 M, mW376_1 M, mR13 M, mL377 M, mW377 M, mR14 M, mL378 M, mW378 M, mR15 M, mL379 M, mW379 M, mR16 M, mL380 M, mW380 M, mR17 M, mL381 M, mW381 M, mR18 M, mL382 M, mW382 M, mR19 M, mL383 M, mW383_0 M, mW383_1 M, mR20 M, mL384 M, mW384_0 M, mW384_1 M, mR21 M, mL385 M, mW385 M, mR22 M, mL386 M, mW386 M, mR23 M, mL387 M, mW387 M, mR26 M, mL388 M, mW388 M, mR27 M, mL389 M, mW389 M, mR28 M, mL390 M, mW390 M, mR29 M, mL391 M, mW391 M, mR30 M, mL392 M, mW392 M, mR31 M, mL393 M, mW393 M, mR32 M, mL394 M, mW394_0 M, mW394_1 M, mR33 M, mL395 M, mW395_0 M, mW395_1 M, mR34 M, mL396 M, mW396 M, mR35 M, mL397 M, mW397 M, mR36 M, mL398 M, mW398 M, mR37 M, mL399 M, mW399 M, mR38 M, mL400 M, mW400 M, mR39 M, mL401 M, mW401 M, mR40 M, mL402 M, mW402 M, mR41 M, mL403 M, mW403 M, mR42 M, mL404 M, mW404 M, mR43 M, mL405 M, mW405 M, mR44 M, mL406 M, mW406 M, mR45 M, mL407 M, mW407 M, mR46 M, mL408 M, mW408 M, mR47 M, mL409 M, mW409 M, mR48 M, mL410 M, mW410 M, Option.bind_some, pm_u, pm_ur, pm_lt, pm_le, pm_eq, pm_ne, pm_add, pm_sub, pm_mul, pm_z0, pm_z1, cond_true, cond_false, decide_true, decide_false, not_false_eq_true, not_true_eq_false, reduceIte, Nat.reduceEqDiff, Nat.add_eq_left, Nat.left_eq_add, Nat.add_left_cancel_iff, Nat.one_ne_zero, Nat.reduceMul, Nat.reduceAdd, Nat.reduceSub, Nat.reduceEqDiff, Nat.reduceLT, Nat.reduceLeDiff, am_cs, h7, c0, hb]
    refine ⟨I2, k1, k2, f1.trans k3, ?_⟩
    rw [k4, am_u_ne _ _ (by omega)]
/-- the bytes are moved to the row's start -/
theorem m_send107 (M : ml_ok K) {e rm : Nat} (he : e ≤ 1) {W : sWy} {F : List Nat} (hF : F.length ≤ 45) (hF5 : 5 ≤ F.length) (hFb : ∀ x ∈ F, x < 256) (hv : wv_ok W.q W.fs W.ar) (hq : W.q.length + F.length ≤ 2000) (hr : rm + W.q.length ≤ 4200) (d : Nat) : ∀ (n i : Nat) (I : pm_I), i + n = W.q.length → I 403 e = nI rm → I 404 e = nI W.q.length → I 406 e = nI W.fs.length → I 407 e = nI W.ar → (∀ k, k < i → I 402 (4200 * e + k) = nI (W.q.getD k 0)) → (∀ k, i ≤ k → k < W.q.length → I 402 (4200 * e + rm + k) = nI (W.q.getD k 0)) → wl_at I 405 (900 * e) W.fs → I 370 49 = nI F.length → wl_at I 410 0 F →
    ∃ I' : pm_I, l_X9_send_107 (d + 1) 370 (nI e) (nI (4200 * e)) (nI i) (K, I, J) = some ((0, 0, none), (K, I', J)) ∧ mw_at I' e (W.q ++ F, W.fs ++ [F.length], W.ar, W.rf) ∧ mwf I I' e ∧ I' 370 5 = I 370 5 := by
  intro n
  induction n with
  | zero =>
    intro i I hi h1 h2 h3 h4 h5 h5' h6 h7 h8
    have c0 : W.q.length ≤ i := by omega
    have f1 : mwf I (am_u I 403 e (nI 0)) e := mwf_e (by omega)
    obtain ⟨I2, k1, k2, k3, k4⟩ := m_send176 (J := J) (rm := 0) M he hF hF5 hFb hv hq (by omega) d F.length 0 (am_u I 403 e (nI 0)) (Nat.zero_add _) (by simp [pm_u]) (by rw [am_u_ne _ _ (by omega)]; exact h2) (by rw [am_u_ne _ _ (by omega)]; exact h3) (by rw [am_u_ne _ _ (by omega)]; exact h4) (by
      intro j hj
      simp at hj
      rw [am_u_ne _ _ (by omega), Nat.add_zero, h5 j (by omega)]
      simp) (wl_congr (b := 0) h6 (am_u_ne _ _ (by omega))) (by rw [am_u_ne _ _ (by omega)]; exact h7) (wl_congr (b := 0) h8 (am_u_ne _ _ (by omega)))
    rw [e_l_X9_send_107]
    simp (disch := first | assumption | omega) only [m_is M, m_gI M, m_pI M, mR7 M, mL371 M, mW371 M, mR8 M, mL372 M, mW372 M, mR9 M, mL373 M, mW373 M, mR10 M, mL374 M, mW374 M, mR11 M, mL375 M, mW375 M, mR12 M, mL376 M, mW376_0 M, mW376_1 M, mR13 M, mL377 M, mW377 M, mR14 M, mL378 M, mW378 M, mR15 M, mL379 M, mW379 M, mR16 M, mL380 M, mW380 M, mR17 M, mL381 M, mW381 M, mR18 M, mL382 M, mW382 M, mR19 M, mL383 M, mW383_0 M, mW383_1 M, mR20 M, mL384 M, mW384_0 M, mW384_1 M, mR21 M, mL385 M, mW385 M, mR22 M, mL386 M, mW386 M, mR23 M, mL387 M, mW387 M, mR26 M, mL388 M, mW388 M, mR27 M, mL389 M, mW389 M, mR28 M, mL390 M, mW390 M, mR29 M, mL391 M, mW391 M, mR30 M, mL392 M, mW392 M, mR31 M, mL393 M, mW393 M, mR32 M, mL394 M, mW394_0 M, mW394_1 M, mR33 M, mL395 M, mW395_0 M, mW395_1 M, mR34 M, mL396 M, mW396 M, mR35 M, mL397 M, mW397 M, mR36 M, mL398 M, mW398 M, mR37 M, mL399 M, mW399 M, mR38 M, mL400 M, mW400 M, mR39 M, mL401 M, mW401 M, mR40 M, mL402 M, mW402 M, mR41 M, mL403 M, mW403 M, mR42 M, mL404 M, mW404 M, mR43 M, mL405 M, mW405 M, mR44 M, mL406 M, mW406 M, mR45 M, mL407 M, mW407 M, mR46 M, mL408 M, mW408 M, mR47 M, mL409 M, mW409 M, mR48 M, mL410 M, mW410 M, Option.bind_some, pm_u, pm_ur, pm_lt, pm_le, pm_eq, pm_ne, pm_add, pm_sub, pm_mul, pm_z0, pm_z1, cond_true, cond_false, decide_true, decide_false, not_false_eq_true, not_true_eq_false, reduceIte, Nat.reduceEqDiff, Nat.add_eq_left, Nat.left_eq_add, Nat.add_left_cancel_iff, Nat.one_ne_zero, Nat.reduceMul, Nat.reduceAdd, Nat.reduceSub, Nat.reduceEqDiff, Nat.reduceLT, Nat.reduceLeDiff, am_cs, h2, c0, e_l_X9_send_156]
    refine ⟨I2, k1, k2, f1.trans k3, ?_⟩
    rw [k4, am_u_ne _ _ (by omega)]
  | succ n ih =>
    intro i I hi h1 h2 h3 h4 h5 h5' h6 h7 h8
    have c0 : ¬ W.q.length ≤ i := by omega
    have hb := h5' i (by omega) (by omega)
    have f1 : mwf I (am_u I 402 (4200 * e + i) (nI (W.q.getD i 0))) e := mwf_402 (by omega)
    obtain ⟨I2, k1, k2, k3, k4⟩ := ih (i + 1) (am_u I 402 (4200 * e + i) (nI (W.q.getD i 0))) (by omega) (by rw [am_u_ne _ _ (by omega)]; exact h1) (by rw [am_u_ne _ _ (by omega)]; exact h2) (by rw [am_u_ne _ _ (by omega)]; exact h3) (by rw [am_u_ne _ _ (by omega)]; exact h4) (by
      intro k hk
      rw [am_u_self]
      by_cases c : k = i
      · rw [if_pos (by omega), c]
      · rw [if_neg (by omega)]
        exact h5 k (by omega)) (by
      intro k hk hk2
      rw [am_u_self, if_neg (by omega)]
      exact h5' k (by omega) hk2) (wl_congr (b := 0) h6 (am_u_ne _ _ (by omega))) (by rw [am_u_ne _ _ (by omega)]; exact h7) (wl_congr (b := 0) h8 (am_u_ne _ _ (by omega)))
    rw [e_l_X9_send_107]
    simp (disch := first | assumption | omega) only [m_is M, m_gI M, m_pI M, mR7 M, mL371 M, mW371 M, mR8 M, mL372 M, mW372 M, mR9 M, mL373 M, mW373 M, mR10 M, mL374 M, mW374 M, mR11 M, mL375 M, mW375 M, mR12 M, mL376 M, mW376_0 M, mW376_1 M, mR13 M, mL377 M, mW377 M, mR14 M, mL378 M, mW378 M, mR15 M, mL379 M, mW379 M, mR16 M, mL380 M, mW380 M, mR17 M, mL381 M, mW381 M, mR18 M, mL382 M, mW382 M, mR19 M, mL383 M, mW383_0 M, mW383_1 M, mR20 M, mL384 M, mW384_0 M, mW384_1 M, mR21 M, mL385 M, mW385 M, mR22 M, mL386 M, mW386 M, mR23 M, mL387 M, mW387 M, mR26 M, mL388 M, mW388 M, mR27 M, mL389 M, mW389 M, mR28 M, mL390 M, mW390 M, mR29 M, mL391 M, mW391 M, mR30 M, mL392 M, mW392 M, mR31 M, mL393 M, mW393 M, mR32 M, mL394 M, mW394_0 M, mW394_1 M, mR33 M, mL395 M, mW395_0 M, mW395_1 M, mR34 M, mL396 M, mW396 M, mR35 M, mL397 M, mW397 M, mR36 M, mL398 M, mW398 M, mR37 M, mL399 M, mW399 M, mR38 M, mL400 M, mW400 M, mR39 M, mL401 M, mW401 M, mR40 M, mL402 M, mW402 M, mR41 M, mL403 M, mW403 M, mR42 M, mL404 M, mW404 M, mR43 M, mL405 M, mW405 M, mR44 M, mL406 M, mW406 M, mR45 M, mL407 M, mW407 M, mR46 M, mL408 M, mW408 M, mR47 M, mL409 M, mW409 M, mR48 M, mL410 M, mW410 M, Option.bind_some, pm_u, pm_ur, pm_lt, pm_le, pm_eq, pm_ne, pm_add, pm_sub, pm_mul, pm_z0, pm_z1, cond_true, cond_false, decide_true, decide_false, not_false_eq_true, not_true_eq_false, reduceIte, Nat.reduceEqDiff, Nat.add_eq_left, Nat.left_eq_add, Nat.add_left_cancel_iff, Nat.one_ne_zero, Nat.reduceMul, Nat.reduceAdd, Nat.reduceSub, Nat.reduceEqDiff, Nat.reduceLT, Nat.reduceLeDiff, am_cs, h2, c0, h1, hb]
    refine ⟨I2, k1, k2, f1.trans k3, ?_⟩
    rw [k4, am_u_ne _ _ (by omega)]
end MSN
