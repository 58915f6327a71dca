/-! THE REFERENCE'S CLOCK; and what is forgotten -/
def sCl.sh (C : sCl) : sCl := if C.on = 1 then (C.kd, C.ac, C.bg, C.oc, C.la + 1, C.wt, (if C.wt = 0 then C.wk else C.wk + 1), C.tr, C.row, C.dg, C.an, C.xr) else C
def cmix (i : Nat) (cs : Nat → sCl) : Nat → sCl := fun c => if c < i then cs c else (cs c).sh
theorem sh_off {C : sCl} (h : C.on = 0) : C.sh = C := by
  unfold sCl.sh
  rw [if_neg (by omega)]
theorem sh_on {C : sCl} (h : C.on = 1) : C.sh = (C.kd, C.ac, C.bg, C.oc, C.la + 1, C.wt, (if C.wt = 0 then C.wk else C.wk + 1), C.tr, C.row, C.dg, C.an, C.xr) := by
  unfold sCl.sh
  rw [if_pos h]
theorem cmix_at {i : Nat} {cs : Nat → sCl} : cmix i cs i = (cs i).sh := if_neg (by omega)
theorem cmix_step {i : Nat} {cs : Nat → sCl} (h : (cs i).on = 0) : cmix i cs = cmix (i + 1) cs := by
  funext c
  unfold cmix
  by_cases q : c < i
  · rw [if_pos q, if_pos (by omega)]
  · by_cases q2 : c = i
    · subst q2
      rw [if_neg q, if_pos (by omega), sh_off h]
    · rw [if_neg q, if_neg (by omega)]
theorem cmix_set {i : Nat} {cs : Nat → sCl} {C : sCl} : su_at (cmix i cs) i C = cmix (i + 1) (su_at cs i C) := by
  funext c
  unfold cmix su_at
  by_cases q2 : c = i
  · subst q2
    rw [if_pos rfl, if_pos (by omega), if_pos rfl]
  · rw [if_neg q2, if_neg q2]
    show (if c < i then cs c else (cs c).sh) = (if c < i + 1 then cs c else (cs c).sh)
    by_cases q : c < i
    · rw [if_pos q, if_pos (by omega)]
    · rw [if_neg q, if_neg (by omega)]
theorem cmix_set' {i : Nat} {cs : Nat → sCl} {C : sCl} : su_at (cmix (i + 1) cs) i C = cmix (i + 1) (su_at cs i C) := by
  funext c
  unfold cmix su_at
  by_cases q2 : c = i
  · subst q2
    rw [if_pos rfl, if_pos (by omega), if_pos rfl]
  · rw [if_neg q2, if_neg q2]
theorem cmix_end {mk : Nat} {cs : Nat → sCl} (h : ∀ c, mk ≤ c → cs c = sCl.new) : cmix mk cs = cs := by
  funext c
  unfold cmix
  by_cases q : c < mk
  · rw [if_pos q]
  · rw [if_neg q, h c (by omega)]
    rfl
section MTK
variable {K : am_K} {I I' : pm_I} {J J' : pm_J} {p c ck : Nat} {C : sCl} {T : sT}
theorem mc_sh (h : mc_at I J ck c C) (hck : ck ≤ 1000000) : mc_at I J (ck + 1) c C.sh := by
  obtain ⟨h1, h2, h3, h4, h5, h6, h7, h8, h9, h10, h11, h12, h13, h14, h15, h16, h17, h18, b1, b2, b3, b4, b5, b6, b7, b8⟩ := h
  rcases so_on01 C with c0 | c0
  · rw [sh_off c0]
    have hw : C.wt = 0 := by
      by_cases q : C.wt = 0
      · exact q
      · have := (h4.2 q).1
        omega
    have h4' := h4.1
    rw [if_pos hw] at h4'
    exact ⟨h1, h2, fun q => absurd q (by omega), ⟨by rw [if_pos hw]; exact h4', fun q => absurd hw q⟩, h5, h6, h7, h8, h9, h10, h11, h12, h13, h14, h15, h16, h17, h18, b1, b2, b3, b4, b5, b6, b7, b8⟩
  · rw [sh_on c0]
    obtain ⟨h3a, h3b, h3c⟩ := h3 c0
    refine ⟨h1, h2, fun _ => ⟨?_, ?_, ?_⟩, ⟨?_, fun q => ⟨c0, ?_⟩⟩, h5, h6, h7, h8, h9, h10, h11, h12, h13, h14, h15, h16, h17, h18, b1, b2, ?_, b4, ?_, b6, b7, b8⟩
    · show I 373 c = nI (C.la + 1 - (ck + 1))
      rw [h3a, Nat.add_sub_add_right]
    · show ck + 1 < C.la + 1
      omega
    · show C.la + 1 ≤ ck + 1 + 200000
      omega
    · show I 374 c = nI (if C.wt = 0 then 0 else (if C.wt = 0 then C.wk else C.wk + 1) - (ck + 1))
      rw [h4.1]
      by_cases q : C.wt = 0
      · rw [if_pos q, if_pos q]
      · rw [if_neg q, if_neg q, if_neg q, Nat.add_sub_add_right]
    · have q : C.wt ≠ 0 := q
      have := (h4.2 q).2
      show ck + 1 < (if C.wt = 0 then C.wk else C.wk + 1) ∧ (if C.wt = 0 then C.wk else C.wk + 1) ≤ ck + 1 + 200000
      rw [if_neg q]
      omega
    · show C.la + 1 ≤ 2000000
      omega
    · show (if C.wt = 0 then C.wk else C.wk + 1) ≤ 2000000
      by_cases q : C.wt = 0
      · rw [if_pos q]
        exact b5
      · rw [if_neg q]
        have := (h4.2 q).2
        omega
/-- a call that goes on, and is not late -/
theorem mc_later (h : mc_at I J (ck + 1) c C.sh) (ho : C.on = 1) (hl : ck + 1 < C.la) {v : Nat} {D : sCl} (hD : (C.wt = 0 ∧ v = 0 ∧ D = C) ∨ (C.wt ≠ 0 ∧ ck + 1 < C.wk ∧ v = C.wk - (ck + 1) ∧ D = C) ∨ (v = 0 ∧ D = C.setWt 0 C.wk C.tr)) (hb : C.la ≤ 2000000 ∧ C.wk ≤ 2000000) (e : ∀ a, a ≠ 373 → a ≠ 374 → I' a = I a) (n1 : I' 373 c = nI (C.la - (ck + 1))) (n2 : I' 374 c = nI v) : mc_at I' J (ck + 1) c D := by
  rw [sh_on ho] at h
  obtain ⟨h1, h2, h3, h4, h5, h6, h7, h8, h9, h10, h11, h12, h13, h14, h15, h16, h17, h18, b1, b2, b3, b4, b5, b6, b7, b8⟩ := h
  have h3c : C.la + 1 ≤ ck + 1 + 200000 := (h3 ho).2.2
  have h4c : C.wt ≠ 0 → C.wk + 1 ≤ ck + 1 + 200000 := fun q => by
    have : (if C.wt = 0 then C.wk else C.wk + 1) ≤ ck + 1 + 200000 := (h4.2 q).2.2
    rw [if_neg q] at this
    exact this
  unfold mc_at wl_at at *
  rcases hD with ⟨q1, q2, q3⟩ | ⟨q1, q2, q3, q4⟩ | ⟨q1, q2⟩
  · rw [q3, e 371 (by omega) (by omega), e 372 (by omega) (by omega), e 375 (by omega) (by omega), e 376 (by omega) (by omega), e 379 (by omega) (by omega), e 380 (by omega) (by omega), e 381 (by omega) (by omega), e 383 (by omega) (by omega), e 384 (by omega) (by omega), e 385 (by omega) (by omega), e 386 (by omega) (by omega)]
    exact ⟨h1, h2, fun _ => ⟨n1, hl, by omega⟩, ⟨by rw [n2, q2, if_pos q1], fun q => absurd q1 q⟩, h5, h6, h7, h8, h9, h10, h11, h12, h13, h14, h15, h16, h17, h18, b1, b2, hb.1, b4, hb.2, b6, b7, b8⟩
  · rw [q4, e 371 (by omega) (by omega), e 372 (by omega) (by omega), e 375 (by omega) (by omega), e 376 (by omega) (by omega), e 379 (by omega) (by omega), e 380 (by omega) (by omega), e 381 (by omega) (by omega), e 383 (by omega) (by omega), e 384 (by omega) (by omega), e 385 (by omega) (by omega), e 386 (by omega) (by omega)]
    have := h4c q1
    exact ⟨h1, h2, fun _ => ⟨n1, hl, by omega⟩, ⟨by rw [n2, q3, if_neg q1], fun q => ⟨ho, q2, by omega⟩⟩, h5, h6, h7, h8, h9, h10, h11, h12, h13, h14, h15, h16, h17, h18, b1, b2, hb.1, b4, hb.2, b6, b7, b8⟩
  · rw [q2, e 371 (by omega) (by omega), e 372 (by omega) (by omega), e 375 (by omega) (by omega), e 376 (by omega) (by omega), e 379 (by omega) (by omega), e 380 (by omega) (by omega), e 381 (by omega) (by omega), e 383 (by omega) (by omega), e 384 (by omega) (by omega), e 385 (by omega) (by omega), e 386 (by omega) (by omega)]
    exact ⟨h1, h2, fun _ => ⟨n1, hl, by show C.la ≤ ck + 1 + 200000; omega⟩, ⟨by rw [n2, q1]; rfl, fun q => absurd rfl q⟩, h5, h6, h7, h8, h9, h10, h11, h12, h13, h14, h15, h16, h17, h18, b1, b2, hb.1, by show 0 ≤ 1; omega, hb.2, b6, b7, b8⟩
theorem mc_late (h : mc_at I J (ck + 1) c C.sh) (ho : C.on = 1) (hb : C.la ≤ 2000000 ∧ C.wk ≤ 2000000) (e : ∀ a, a ≠ 372 → a ≠ 373 → a ≠ 374 → I' a = I a) (n1 : I' 372 c = -nI 1) (n2 : I' 374 c = nI 0) : mc_at I' J (ck + 1) c (C.fin (-nI 1)) := by
  rw [sh_on ho] at h
  obtain ⟨h1, h2, h3, h4, h5, h6, h7, h8, h9, h10, h11, h12, h13, h14, h15, h16, h17, h18, b1, b2, b3, b4, b5, b6, b7, b8⟩ := h
  have hh : (-nI 1 : Int32) ≠ 0 := px_neg (by omega) (by omega)
  unfold mc_at wl_at at *
  rw [e 371 (by omega) (by omega) (by omega), e 375 (by omega) (by omega) (by omega), e 376 (by omega) (by omega) (by omega), e 379 (by omega) (by omega) (by omega), e 380 (by omega) (by omega) (by omega), e 381 (by omega) (by omega) (by omega), e 383 (by omega) (by omega) (by omega), e 384 (by omega) (by omega) (by omega), e 385 (by omega) (by omega) (by omega), e 386 (by omega) (by omega) (by omega)]
  refine ⟨h1, n1, fun q => ?_, ⟨n2, fun q => absurd rfl q⟩, h5, h6, h7, h8, h9, h10, h11, h12, h13, h14, h15, h16, h17, h18, b1, b2, hb.1, by show 0 ≤ 1; omega, hb.2, b6, fun q => absurd q hh, b8⟩
  rw [so_fin_on C hh] at q
  omega
theorem mt_setK {W : sWy} {cs : Nat → sCl} {mk t : Nat} (D : sCl) (i : Nat) : ((T.setK W cs mk t).setC (T.setK W cs mk t).w0 (su_at (T.setK W cs mk t).cs i D)) = T.setK W (su_at cs i D) mk t := rfl
theorem m_tickC (M : ml_ok K) {mk ck N s : Nat} (hck : ck + 1 ≤ 1000000) (d : Nat) : ∀ (n i late : Nat) (I : pm_I) (cs : Nat → sCl) (W : sWy), i + n = mk → (∀ c, (cs c).la ≤ 2000000 ∧ (cs c).wk ≤ 2000000) → mt_at I J p (T.setK W (cmix i cs) mk (ck + 1)) →
    ∃ I' : pm_I, l_X9_tick_52 (d + 4) 370 (nI N) (nI late) (nI s) (nI i) (K, I, J) = l_X9_tick_34 (d + 4) 370 (nI N) (nI (sk_run (ck + 1) n i late cs W).1) (nI (s + 1)) (K, I', J) ∧ mt_at I' J p (T.setK (sk_run (ck + 1) n i late cs W).2.2 (cmix mk (sk_run (ck + 1) n i late cs W).2.1) mk (ck + 1)) ∧ mf_at I I' := by
  intro n
  induction n with
  | zero =>
    intro i late I cs W hi hb h
    obtain rfl : i = mk := by omega
    have hmk : i ≤ 30 := h.2.2.1.2.2.1
    have h6 : I 370 6 = nI i := h.1.2.2.2.2.2.1
    rw [e_l_X9_tick_52]
    simp (disch := first | assumption | omega) only [m_is M, m_gI M, m_pI M, mR7 M, mL371 M, mW371 M, mR8 M, mL372 M, mW372 M, mR9 M, mL373 M, mW373 M, mR10 M, mL374 M, mW374 M, mR11 M, mL375 M, mW375 M, mR12 M, mL376 M, mW376_0 M, mW376_1 M, mR13 M, mL377 M, mW377 M, mR14 M, mL378 M, mW378 M, mR15 M, mL379 M, mW379 M, mR16 M, mL380 M, mW380 M, mR17 M, mL381 M, mW381 M, mR18 M, mL382 M, mW382 M, mR19 M, mL383 M, mW383_0 M, mW383_1 M, mR20 M, mL384 M, mW384_0 M, mW384_1 M, mR21 M, mL385 M, mW385 M, mR22 M, mL386 M, mW386 M, mR23 M, mL387 M, mW387 M, mR26 M, mL388 M, mW388 M, mR27 M, mL389 M, mW389 M, mR28 M, mL390 M, mW390 M, mR29 M, mL391 M, mW391 M, mR30 M, mL392 M, mW392 M, mR31 M, mL393 M, mW393 M, mR32 M, mL394 M, mW394_0 M, mW394_1 M, mR33 M, mL395 M, mW395_0 M, mW395_1 M, mR34 M, mL396 M, mW396 M, mR35 M, mL397 M, mW397 M, mR36 M, mL398 M, mW398 M, mR37 M, mL399 M, mW399 M, mR38 M, mL400 M, mW400 M, mR39 M, mL401 M, mW401 M, mR40 M, mL402 M, mW402 M, mR41 M, mL403 M, mW403 M, mR42 M, mL404 M, mW404 M, mR43 M, mL405 M, mW405 M, mR44 M, mL406 M, mW406 M, mR45 M, mL407 M, mW407 M, mR46 M, mL408 M, mW408 M, mR47 M, mL409 M, mW409 M, mR48 M, mL410 M, mW410 M, Option.bind_some, pm_u, pm_ur, pm_lt, pm_le, pm_eq, pm_ne, pm_add, pm_sub, pm_mul, pm_z0, pm_z1, cond_true, cond_false, decide_true, decide_false, not_false_eq_true, not_true_eq_false, reduceIte, Nat.reduceEqDiff, Nat.add_eq_left, Nat.left_eq_add, Nat.add_left_cancel_iff, Nat.one_ne_zero, Nat.reduceMul, Nat.reduceAdd, Nat.reduceSub, Nat.reduceEqDiff, Nat.reduceLT, Nat.reduceLeDiff, Nat.not_lt_zero, Nat.zero_le, am_cs, h6, Nat.le_refl]
    exact ⟨I, rfl, h, mf_at.refl _⟩
  | succ n ih =>
    intro i late I cs W hi hb h
    have hmk : mk ≤ 30 := h.2.2.1.2.2.1
    have h6 : I 370 6 = nI mk := h.1.2.2.2.2.2.1
    have c0 : ¬ mk ≤ i := by omega
    have him : i < (T.setK W (cmix i cs) mk (ck + 1)).mk := by show i < mk; omega
    have hC : mc_at I J (ck + 1) i (cs i).sh := by
      have : mc_at I J (ck + 1) i (cmix i cs i) := h.2.2.1.1 i (by omega)
      rw [cmix_at] at this
      exact this
    have hgo := m_goesOn M hC (show i < 30 by omega) (d + 3)
    rw [e_l_X9_tick_52]
    unfold sk_run
    rcases so_on01 (cs i) with c1 | c1
    · rw [if_pos c1]
      rw [sh_off c1, c1] at hgo
      rw [cmix_step c1] at h
      obtain ⟨I2, a1, a2, a3⟩ := ih (i + 1) late I cs W (by omega) hb h
      simp (disch := first | assumption | omega) only [m_is M, m_gI M, m_pI M, mR7 M, mL371 M, mW371 M, mR8 M, mL372 M, mW372 M, mR9 M, mL373 M, mW373 M, mR10 M, mL374 M, mW374 M, mR11 M, mL375 M, mW375 M, mR12 M, mL376 M, mW376_0 M, mW376_1 M, mR13 M, mL377 M, mW377 M, mR14 M, mL378 M, mW378 M, mR15 M, mL379 M, mW379 M, mR16 M, mL380 M, mW380 M, mR17 M, mL381 M, mW381 M, mR18 M, mL382 M, mW382 M, mR19 M, mL383 M, mW383_0 M, mW383_1 M, mR20 M, mL384 M, mW384_0 M, mW384_1 M, mR21 M, mL385 M, mW385 M, mR22 M, mL386 M, mW386 M, mR23 M, mL387 M, mW387 M, mR26 M, mL388 M, mW388 M, mR27 M, mL389 M, mW389 M, mR28 M, mL390 M, mW390 M, mR29 M, mL391 M, mW391 M, mR30 M, mL392 M, mW392 M, mR31 M, mL393 M, mW393 M, mR32 M, mL394 M, mW394_0 M, mW394_1 M, mR33 M, mL395 M, mW395_0 M, mW395_1 M, mR34 M, mL396 M, mW396 M, mR35 M, mL397 M, mW397 M, mR36 M, mL398 M, mW398 M, mR37 M, mL399 M, mW399 M, mR38 M, mL400 M, mW400 M, mR39 M, mL401 M, mW401 M, mR40 M, mL402 M, mW402 M, mR41 M, mL403 M, mW403 M, mR42 M, mL404 M, mW404 M, mR43 M, mL405 M, mW405 M, mR44 M, mL406 M, mW406 M, mR45 M, mL407 M, mW407 M, mR46 M, mL408 M, mW408 M, mR47 M, mL409 M, mW409 M, mR48 M, mL410 M, mW410 M, Option.bind_some, pm_u, pm_ur, pm_lt, pm_le, pm_eq, pm_ne, pm_add, pm_sub, pm_mul, pm_z0, pm_z1, cond_true, cond_false, decide_true, decide_false, not_false_eq_true, not_true_eq_false, reduceIte, Nat.reduceEqDiff, Nat.add_eq_left, Nat.left_eq_add, Nat.add_left_cancel_iff, Nat.one_ne_zero, Nat.reduceMul, Nat.reduceAdd, Nat.reduceSub, Nat.reduceEqDiff, Nat.reduceLT, Nat.reduceLeDiff, Nat.not_lt_zero, Nat.zero_le, am_cs, h6, c0, hgo]
      exact ⟨I2, a1, a2, a3⟩
    · rw [if_neg (by omega)]
      have hgo1 : (cs i).sh.on = 1 := by
        rw [sh_on c1]
        exact c1
      rw [hgo1] at hgo
      have h3 := hC.2.2.1 hgo1
      have h4 := hC.2.2.2.1
      rw [sh_on c1] at h3 h4
      have h3a : I 373 i = nI ((cs i).la + 1 - (ck + 1)) := h3.1
      have h3b : ck + 1 < (cs i).la + 1 := h3.2.1
      have h3l : (cs i).la + 1 ≤ ck + 1 + 200000 := h3.2.2
      have h4a : I 374 i = nI (if (cs i).wt = 0 then 0 else (if (cs i).wt = 0 then (cs i).wk else (cs i).wk + 1) - (ck + 1)) := h4.1
      rw [Nat.add_sub_add_right] at h3a
      have hs1 : (cs i).la - ck - 1 = (cs i).la - (ck + 1) := by omega
      by_cases c2 : ck + 1 < (cs i).la
      · rw [if_pos c2]
        have c2' : ¬ (cs i).la - (ck + 1) = 0 := by omega
        have f1 : mcf I (am_u I 373 i (nI ((cs i).la - (ck + 1)))) i := mcf_u (by omega) (by rw [show wd 373 = 1 from rfl]; omega)
        by_cases c3 : (cs i).wt = 0
        · rw [if_pos (Or.inl c3)]
          rw [if_pos c3] at h4a
          have hD := mc_later (I' := am_u I 373 i (nI ((cs i).la - (ck + 1)))) (D := cs i) (v := 0) hC c1 c2 (Or.inl ⟨c3, rfl, rfl⟩) (hb i) (fun a q _ => am_u_ne _ _ q) (by rw [am_u_self, if_pos rfl]) (by rw [am_u_ne _ _ (by omega)]; exact h4a)
          have hT := mt_call h him f1 (mcf.refl _ _) hD
          rw [mt_setK, cmix_set, su_id] at hT
          obtain ⟨I2, a1, a2, a3⟩ := ih (i + 1) late _ cs W (by omega) hb hT
          simp (disch := first | assumption | omega) only [m_is M, m_gI M, m_pI M, mR7 M, mL371 M, mW371 M, mR8 M, mL372 M, mW372 M, mR9 M, mL373 M, mW373 M, mR10 M, mL374 M, mW374 M, mR11 M, mL375 M, mW375 M, mR12 M, mL376 M, mW376_0 M, mW376_1 M, mR13 M, mL377 M, mW377 M, mR14 M, mL378 M, mW378 M, mR15 M, mL379 M, mW379 M, mR16 M, mL380 M, mW380 M, mR17 M, mL381 M, mW381 M, mR18 M, mL382 M, mW382 M, mR19 M, mL383 M, mW383_0 M, mW383_1 M, mR20 M, mL384 M, mW384_0 M, mW384_1 M, mR21 M, mL385 M, mW385 M, mR22 M, mL386 M, mW386 M, mR23 M, mL387 M, mW387 M, mR26 M, mL388 M, mW388 M, mR27 M, mL389 M, mW389 M, mR28 M, mL390 M, mW390 M, mR29 M, mL391 M, mW391 M, mR30 M, mL392 M, mW392 M, mR31 M, mL393 M, mW393 M, mR32 M, mL394 M, mW394_0 M, mW394_1 M, mR33 M, mL395 M, mW395_0 M, mW395_1 M, mR34 M, mL396 M, mW396 M, mR35 M, mL397 M, mW397 M, mR36 M, mL398 M, mW398 M, mR37 M, mL399 M, mW399 M, mR38 M, mL400 M, mW400 M, mR39 M, mL401 M, mW401 M, mR40 M, mL402 M, mW402 M, mR41 M, mL403 M, mW403 M, mR42 M, mL404 M, mW404 M, mR43 M, mL405 M, mW405 M, mR44 M, mL406 M, mW406 M, mR45 M, mL407 M, mW407 M, mR46 M, mL408 M, mW408 M, mR47 M, mL409 M, mW409 M, mR48 M, mL410 M, mW410 M, Option.bind_some, pm_u, pm_ur, pm_lt, pm_le, pm_eq, pm_ne, pm_add, pm_sub, pm_mul, pm_z0, pm_z1, cond_true, cond_false, decide_true, decide_false, not_false_eq_true, not_true_eq_false, reduceIte, Nat.reduceEqDiff, Nat.add_eq_left, Nat.left_eq_add, Nat.add_left_cancel_iff, Nat.one_ne_zero, Nat.reduceMul, Nat.reduceAdd, Nat.reduceSub, Nat.reduceEqDiff, Nat.reduceLT, Nat.reduceLeDiff, Nat.not_lt_zero, Nat.zero_le, am_cs, h6, c0, hgo, h3a, hs1, c2', h4a]
          exact ⟨I2, a1, a2, (mcf_mf f1).trans a3⟩
        · rw [if_neg c3, if_neg c3, Nat.add_sub_add_right] at h4a
          have h4b : ck + 1 < (if (cs i).wt = 0 then (cs i).wk else (cs i).wk + 1) := (h4.2 c3).2.1
          rw [if_neg c3] at h4b
          have h4l : (if (cs i).wt = 0 then (cs i).wk else (cs i).wk + 1) ≤ ck + 1 + 200000 := (h4.2 c3).2.2
          rw [if_neg c3] at h4l
          have c4 : ¬ (cs i).wk - ck ≤ 0 := by omega
          have hs2 : (cs i).wk - ck - 1 = (cs i).wk - (ck + 1) := by omega
          have f2 : mcf I (am_u (am_u I 373 i (nI ((cs i).la - (ck + 1)))) 374 i (nI ((cs i).wk - (ck + 1)))) i := f1.trans (mcf_u (by omega) (by rw [show wd 374 = 1 from rfl]; omega))
          by_cases c5 : ck + 1 < (cs i).wk
          · rw [if_pos (Or.inr c5)]
            have c5' : ¬ (cs i).wk - (ck + 1) = 0 := by omega
            have hD := mc_later (I' := am_u (am_u I 373 i (nI ((cs i).la - (ck + 1)))) 374 i (nI ((cs i).wk - (ck + 1)))) (D := cs i) (v := (cs i).wk - (ck + 1)) hC c1 c2 (Or.inr (Or.inl ⟨c3, c5, rfl, rfl⟩)) (hb i) (fun a q q' => by rw [am_u_ne _ _ q', am_u_ne _ _ q]) (by rw [am_u_ne _ _ (by omega), am_u_self, if_pos rfl]) (by rw [am_u_self, if_pos rfl])
            have hT := mt_call h him f2 (mcf.refl _ _) hD
            rw [mt_setK, cmix_set, su_id] at hT
            obtain ⟨I2, a1, a2, a3⟩ := ih (i + 1) late _ cs W (by omega) hb hT
            simp (disch := first | assumption | omega) only [m_is M, m_gI M, m_pI M, mR7 M, mL371 M, mW371 M, mR8 M, mL372 M, mW372 M, mR9 M, mL373 M, mW373 M, mR10 M, mL374 M, mW374 M, mR11 M, mL375 M, mW375 M, mR12 M, mL376 M, mW376_0 M, mW376_1 M, mR13 M, mL377 M, mW377 M, mR14 M, mL378 M, mW378 M, mR15 M, mL379 M, mW379 M, mR16 M, mL380 M, mW380 M, mR17 M, mL381 M, mW381 M, mR18 M, mL382 M, mW382 M, mR19 M, mL383 M, mW383_0 M, mW383_1 M, mR20 M, mL384 M, mW384_0 M, mW384_1 M, mR21 M, mL385 M, mW385 M, mR22 M, mL386 M, mW386 M, mR23 M, mL387 M, mW387 M, mR26 M, mL388 M, mW388 M, mR27 M, mL389 M, mW389 M, mR28 M, mL390 M, mW390 M, mR29 M, mL391 M, mW391 M, mR30 M, mL392 M, mW392 M, mR31 M, mL393 M, mW393 M, mR32 M, mL394 M, mW394_0 M, mW394_1 M, mR33 M, mL395 M, mW395_0 M, mW395_1 M, mR34 M, mL396 M, mW396 M, mR35 M, mL397 M, mW397 M, mR36 M, mL398 M, mW398 M, mR37 M, mL399 M, mW399 M, mR38 M, mL400 M, mW400 M, mR39 M, mL401 M, mW401 M, mR40 M, mL402 M, mW402 M, mR41 M, mL403 M, mW403 M, mR42 M, mL404 M, mW404 M, mR43 M, mL405 M, mW405 M, mR44 M, mL406 M, mW406 M, mR45 M, mL407 M, mW407 M, mR46 M, mL408 M, mW408 M, mR47 M, mL409 M, mW409 M, mR48 M, mL410 M, mW410 M, Option.bind_some, pm_u, pm_ur, pm_lt, pm_le, pm_eq, pm_ne, pm_add, pm_sub, pm_mul, pm_z0, pm_z1, cond_true, cond_false, decide_true, decide_false, not_false_eq_true, not_true_eq_false, reduceIte, Nat.reduceEqDiff, Nat.add_eq_left, Nat.left_eq_add, Nat.add_left_cancel_iff, Nat.one_ne_zero, Nat.reduceMul, Nat.reduceAdd, Nat.reduceSub, Nat.reduceEqDiff, Nat.reduceLT, Nat.reduceLeDiff, Nat.not_lt_zero, Nat.zero_le, am_cs, h6, c0, hgo, h3a, hs1, c2', h4a, c4, hs2, c5']
            exact ⟨I2, a1, a2, (mcf_mf f2).trans a3⟩
          · rw [if_neg (by rintro (q | q) <;> contradiction)]
            have c5' : (cs i).wk - (ck + 1) = 0 := by omega
            rw [c5'] at f2
            have hD := mc_later (I' := am_u (am_u I 373 i (nI ((cs i).la - (ck + 1)))) 374 i (nI 0)) (D := (cs i).setWt 0 (cs i).wk (cs i).tr) (v := 0) hC c1 c2 (Or.inr (Or.inr ⟨rfl, rfl⟩)) (hb i) (fun a q q' => by rw [am_u_ne _ _ q', am_u_ne _ _ q]) (by rw [am_u_ne _ _ (by omega), am_u_self, if_pos rfl]) (by rw [am_u_self, if_pos rfl])
            have hT := mt_call h him f2 (mcf.refl _ _) hD
            rw [mt_setK, cmix_set] at hT
            generalize hD' : (cs i).setWt 0 (cs i).wk (cs i).tr = D at *
            obtain ⟨I3, o1, o2, o3⟩ := m_open (c := i) M hT him d
            have e1 : (T.setK W (cmix (i + 1) (su_at cs i D)) mk (ck + 1)).cs i = D := by
              show cmix (i + 1) (su_at cs i D) i = D
              unfold cmix
              rw [if_pos (by omega), su_self]
            rw [e1] at o2
            have o2' : mt_at I3 J p (T.setK (so_openW i D W) (su_at (cmix (i + 1) (su_at cs i D)) i (so_openC D)) mk (ck + 1)) := o2
            rw [cmix_set', su_su] at o2'
            have hb' : ∀ c, ((su_at cs i (so_openC D)) c).la ≤ 2000000 ∧ ((su_at cs i (so_openC D)) c).wk ≤ 2000000 := by
              intro c
              by_cases q : c = i
              · subst q
                rw [su_self]
                have hla : (so_openC D).la = (cs c).la ∧ (so_openC D).wk = (cs c).wk := by
                  rw [← hD']
                  unfold so_openC
                  split
                  · split
                    · exact ⟨rfl, rfl⟩
                    · exact ⟨rfl, rfl⟩
                  · split
                    · exact ⟨rfl, rfl⟩
                    · exact ⟨rfl, rfl⟩
                rw [hla.1, hla.2]
                exact hb c
              · rw [su_ne _ _ q]
                exact hb c
            obtain ⟨I2, a1, a2, a3⟩ := ih (i + 1) late I3 _ _ (by omega) hb' o2'
            simp (disch := first | assumption | omega) only [m_is M, m_gI M, m_pI M, mR7 M, mL371 M, mW371 M, mR8 M, mL372 M, mW372 M, mR9 M, mL373 M, mW373 M, mR10 M, mL374 M, mW374 M, mR11 M, mL375 M, mW375 M, mR12 M, mL376 M, mW376_0 M, mW376_1 M, mR13 M, mL377 M, mW377 M, mR14 M, mL378 M, mW378 M, mR15 M, mL379 M, mW379 M, mR16 M, mL380 M, mW380 M, mR17 M, mL381 M, mW381 M, mR18 M, mL382 M, mW382 M, mR19 M, mL383 M, mW383_0 M, mW383_1 M, mR20 M, mL384 M, mW384_0 M, mW384_1 M, mR21 M, mL385 M, mW385 M, mR22 M, mL386 M, mW386 M, mR23 M, mL387 M, mW387 M, mR26 M, mL388 M, mW388 M, mR27 M, mL389 M, mW389 M, mR28 M, mL390 M, mW390 M, mR29 M, mL391 M, mW391 M, mR30 M, mL392 M, mW392 M, mR31 M, mL393 M, mW393 M, mR32 M, mL394 M, mW394_0 M, mW394_1 M, mR33 M, mL395 M, mW395_0 M, mW395_1 M, mR34 M, mL396 M, mW396 M, mR35 M, mL397 M, mW397 M, mR36 M, mL398 M, mW398 M, mR37 M, mL399 M, mW399 M, mR38 M, mL400 M, mW400 M, mR39 M, mL401 M, mW401 M, mR40 M, mL402 M, mW402 M, mR41 M, mL403 M, mW403 M, mR42 M, mL404 M, mW404 M, mR43 M, mL405 M, mW405 M, mR44 M, mL406 M, mW406 M, mR45 M, mL407 M, mW407 M, mR46 M, mL408 M, mW408 M, mR47 M, mL409 M, mW409 M, mR48 M, mL410 M, mW410 M, Option.bind_some, pm_u, pm_ur, pm_lt, pm_le, pm_eq, pm_ne, pm_add, pm_sub, pm_mul, pm_z0, pm_z1, cond_true, cond_false, decide_true, decide_false, not_false_eq_true, not_true_eq_false, reduceIte, Nat.reduceEqDiff, Nat.add_eq_left, Nat.left_eq_add, Nat.add_left_cancel_iff, Nat.one_ne_zero, Nat.reduceMul, Nat.reduceAdd, Nat.reduceSub, Nat.reduceEqDiff, Nat.reduceLT, Nat.reduceLeDiff, Nat.not_lt_zero, Nat.zero_le, am_cs, h6, c0, hgo, h3a, hs1, c2', h4a, c4, hs2, c5', o1]
            exact ⟨I2, a1, a2, (mcf_mf f2).trans (o3.trans a3)⟩
      · rw [if_neg c2]
        have c2' : (cs i).la - (ck + 1) = 0 := by omega
        have f1 : mcf I (am_u (am_u (am_u I 373 i (nI 0)) 372 i (-nI 1)) 374 i (nI 0)) i := (mcf_u (by omega) (by rw [show wd 373 = 1 from rfl]; omega)).trans ((mcf_u (by omega) (by rw [show wd 372 = 1 from rfl]; omega)).trans (mcf_u (by omega) (by rw [show wd 374 = 1 from rfl]; omega)))
        have hD := mc_late (I' := am_u (am_u (am_u I 373 i (nI 0)) 372 i (-nI 1)) 374 i (nI 0)) hC c1 (hb i) (fun a q1 q2 q3 => by rw [am_u_ne _ _ q3, am_u_ne _ _ q1, am_u_ne _ _ q2]) (by rw [am_u_ne _ _ (by omega), am_u_self, if_pos rfl]) (by rw [am_u_self, if_pos rfl])
        have hT := mt_call h him f1 (mcf.refl _ _) hD
        rw [mt_setK, cmix_set] at hT
        have hb' : ∀ c, ((su_at cs i ((cs i).fin (-nI 1))) c).la ≤ 2000000 ∧ ((su_at cs i ((cs i).fin (-nI 1))) c).wk ≤ 2000000 := by
          intro c
          by_cases q : c = i
          · subst q
            rw [su_self]
            exact hb c
          · rw [su_ne _ _ q]
            exact hb c
        obtain ⟨I2, a1, a2, a3⟩ := ih (i + 1) (late + 1) _ _ W (by omega) hb' hT
        simp (disch := first | assumption | omega) only [m_is M, m_gI M, m_pI M, mR7 M, mL371 M, mW371 M, mR8 M, mL372 M, mW372 M, mR9 M, mL373 M, mW373 M, mR10 M, mL374 M, mW374 M, mR11 M, mL375 M, mW375 M, mR12 M, mL376 M, mW376_0 M, mW376_1 M, mR13 M, mL377 M, mW377 M, mR14 M, mL378 M, mW378 M, mR15 M, mL379 M, mW379 M, mR16 M, mL380 M, mW380 M, mR17 M, mL381 M, mW381 M, mR18 M, mL382 M, mW382 M, mR19 M, mL383 M, mW383_0 M, mW383_1 M, mR20 M, mL384 M, mW384_0 M, mW384_1 M, mR21 M, mL385 M, mW385 M, mR22 M, mL386 M, mW386 M, mR23 M, mL387 M, mW387 M, mR26 M, mL388 M, mW388 M, mR27 M, mL389 M, mW389 M, mR28 M, mL390 M, mW390 M, mR29 M, mL391 M, mW391 M, mR30 M, mL392 M, mW392 M, mR31 M, mL393 M, mW393 M, mR32 M, mL394 M, mW394_0 M, mW394_1 M, mR33 M, mL395 M, mW395_0 M, mW395_1 M, mR34 M, mL396 M, mW396 M, mR35 M, mL397 M, mW397 M, mR36 M, mL398 M, mW398 M, mR37 M, mL399 M, mW399 M, mR38 M, mL400 M, mW400 M, mR39 M, mL401 M, mW401 M, mR40 M, mL402 M, mW402 M, mR41 M, mL403 M, mW403 M, mR42 M, mL404 M, mW404 M, mR43 M, mL405 M, mW405 M, mR44 M, mL406 M, mW406 M, mR45 M, mL407 M, mW407 M, mR46 M, mL408 M, mW408 M, mR47 M, mL409 M, mW409 M, mR48 M, mL410 M, mW410 M, Option.bind_some, pm_u, pm_ur, pm_lt, pm_le, pm_eq, pm_ne, pm_add, pm_sub, pm_mul, pm_z0, pm_z1, cond_true, cond_false, decide_true, decide_false, not_false_eq_true, not_true_eq_false, reduceIte, Nat.reduceEqDiff, Nat.add_eq_left, Nat.left_eq_add, Nat.add_left_cancel_iff, Nat.one_ne_zero, Nat.reduceMul, Nat.reduceAdd, Nat.reduceSub, Nat.reduceEqDiff, Nat.reduceLT, Nat.reduceLeDiff, Nat.not_lt_zero, Nat.zero_le, am_cs, h6, c0, hgo, h3a, hs1, c2', e_X9_ends]
        exact ⟨I2, a1, a2, (mcf_mf f1).trans a3⟩
/-- n ticks, one by one -/
def mtick : Nat → Nat → sT → Nat × sT
  | 0, late, T => (late, T)
  | n + 1, late, T => mtick n (sk_run (T.ck + 1) T.mk 0 late T.cs T.w0).1 (T.setK (sk_run (T.ck + 1) T.mk 0 late T.cs T.w0).2.2 (sk_run (T.ck + 1) T.mk 0 late T.cs T.w0).2.1 T.mk (T.ck + 1))
theorem sk_run_new {ck : Nat} : ∀ (n i late : Nat) (cs : Nat → sCl) (W : sWy) (c : Nat), i + n ≤ c → (sk_run ck n i late cs W).2.1 c = cs c := by
  intro n
  induction n with
  | zero => intro i late cs W c _; rfl
  | succ n ih =>
    intro i late cs W c hc
    unfold sk_run
    split
    · exact ih _ _ _ _ c (by omega)
    · split
      · split
        · exact ih _ _ _ _ c (by omega)
        · rw [ih _ _ _ _ c (by omega), su_ne _ _ (by omega)]
      · rw [ih _ _ _ _ c (by omega), su_ne _ _ (by omega)]
theorem m_tickLoop (M : ml_ok K) {N : Nat} (hN : N ≤ 1000) (d : Nat) : ∀ (n s late : Nat) (I : pm_I) (T : sT), s + n = N → T.ck + n ≤ 1000000 → mt_at I J p T →
    ∃ I' : pm_I, l_X9_tick_34 (d + 4) 370 (nI N) (nI late) (nI s) (K, I, J) = some ((nI (mtick n late T).1, 0, none), (K, I', J)) ∧ mt_at I' J p (mtick n late T).2 ∧ mf_at I I' := by
  intro n
  induction n with
  | zero =>
    intro s late I T hs hc h
    have c0 : N ≤ s := by omega
    rw [e_l_X9_tick_34]
    simp (disch := first | assumption | omega) only [m_is M, m_gI M, m_pI M, mR7 M, mL371 M, mW371 M, mR8 M, mL372 M, mW372 M, mR9 M, mL373 M, mW373 M, mR10 M, mL374 M, mW374 M, mR11 M, mL375 M, mW375 M, mR12 M, mL376 M, mW376_0 M, mW376_1 M, mR13 M, mL377 M, mW377 M, mR14 M, mL378 M, mW378 M, mR15 M, mL379 M, mW379 M, mR16 M, mL380 M, mW380 M, mR17 M, mL381 M, mW381 M, mR18 M, mL382 M, mW382 M, mR19 M, mL383 M, mW383_0 M, mW383_1 M, mR20 M, mL384 M, mW384_0 M, mW384_1 M, mR21 M, mL385 M, mW385 M, mR22 M, mL386 M, mW386 M, mR23 M, mL387 M, mW387 M, mR26 M, mL388 M, mW388 M, mR27 M, mL389 M, mW389 M, mR28 M, mL390 M, mW390 M, mR29 M, mL391 M, mW391 M, mR30 M, mL392 M, mW392 M, mR31 M, mL393 M, mW393 M, mR32 M, mL394 M, mW394_0 M, mW394_1 M, mR33 M, mL395 M, mW395_0 M, mW395_1 M, mR34 M, mL396 M, mW396 M, mR35 M, mL397 M, mW397 M, mR36 M, mL398 M, mW398 M, mR37 M, mL399 M, mW399 M, mR38 M, mL400 M, mW400 M, mR39 M, mL401 M, mW401 M, mR40 M, mL402 M, mW402 M, mR41 M, mL403 M, mW403 M, mR42 M, mL404 M, mW404 M, mR43 M, mL405 M, mW405 M, mR44 M, mL406 M, mW406 M, mR45 M, mL407 M, mW407 M, mR46 M, mL408 M, mW408 M, mR47 M, mL409 M, mW409 M, mR48 M, mL410 M, mW410 M, Option.bind_some, pm_u, pm_ur, pm_lt, pm_le, pm_eq, pm_ne, pm_add, pm_sub, pm_mul, pm_z0, pm_z1, cond_true, cond_false, decide_true, decide_false, not_false_eq_true, not_true_eq_false, reduceIte, Nat.reduceEqDiff, Nat.add_eq_left, Nat.left_eq_add, Nat.add_left_cancel_iff, Nat.one_ne_zero, Nat.reduceMul, Nat.reduceAdd, Nat.reduceSub, Nat.reduceEqDiff, Nat.reduceLT, Nat.reduceLeDiff, Nat.not_lt_zero, Nat.zero_le, am_cs, c0]
    exact ⟨I, rfl, h, mf_at.refl _⟩
  | succ n ih =>
    intro s late I T hs hc h
    have c0 : ¬ N ≤ s := by omega
    have h2 : I 370 2 = nI T.ck := h.1.2.1
    have hnew := h.2.2.1.2.1
    have h1 : mt_at (am_u I 370 2 (nI (T.ck + 1))) J p (T.setK T.w0 (cmix 0 T.cs) T.mk (T.ck + 1)) := by
      obtain ⟨q1, ⟨q2, q3⟩, ⟨q4, q4a, q4b, q4c⟩, q5, ⟨q6, q7⟩, q8⟩ := h
      refine ⟨?_, ⟨mw_congr q2 (fun x _ _ => am_u_ne _ _ (by omega)), mw_congr q3 (fun x _ _ => am_u_ne _ _ (by omega))⟩, ⟨fun i hi => ?_, fun i hi => ?_, q4b, by show T.ck + 1 ≤ 1000000; omega⟩, mv_congr q5 (fun x _ _ => am_u_ne _ _ (by omega)) (fun _ _ _ => rfl), ⟨mg_congr q6 (am_u_ne _ _ (by omega)) (am_u_ne _ _ (by omega)), mg_congr q7 (am_u_ne _ _ (by omega)) (am_u_ne _ _ (by omega))⟩, q8⟩
      · unfold ms_at at *
        simp only [pm_u, reduceIte, Nat.reduceEqDiff]
        exact ⟨q1.1, rfl, q1.2.2⟩
      · show mc_at _ J (T.ck + 1) i (cmix 0 T.cs i)
        have : cmix 0 T.cs i = (T.cs i).sh := if_neg (by omega)
        rw [this]
        exact mc_sh (mc_congr (q4 i hi) (fun x _ _ => am_u_ne _ _ (by omega)) (fun _ _ _ => rfl)) q4c
      · show cmix 0 T.cs i = sCl.new
        have : cmix 0 T.cs i = (T.cs i).sh := if_neg (by omega)
        rw [this, q4a i hi]
        rfl
    have hb : ∀ c, (T.cs c).la ≤ 2000000 ∧ (T.cs c).wk ≤ 2000000 := by
      intro c
      by_cases q : c < 30
      · have := (h.2.2.1.1 c q).2.2.2.2.2.2.2.2.2.2.2.2.2.2.2.2.2.2
        exact ⟨this.2.2.1, this.2.2.2.2.1⟩
      · rw [hnew c (by have := mt_mk h; omega)]
        exact ⟨by show 0 ≤ 2000000; omega, by show 0 ≤ 2000000; omega⟩
    obtain ⟨I2, a1, a2, a3⟩ := m_tickC (T := T) (N := N) (s := s) M (show T.ck + 1 ≤ 1000000 by omega) d T.mk 0 late _ T.cs T.w0 (Nat.zero_add _) hb h1
    rw [cmix_end (fun c hc => by rw [sk_run_new _ _ _ _ _ c (by omega)]; exact hnew c hc)] at a2
    obtain ⟨I3, b1, b2, b3⟩ := ih (s + 1) _ I2 _ (by omega) (by show T.ck + 1 + n ≤ 1000000; omega) a2
    rw [e_l_X9_tick_34]
    simp (disch := first | assumption | omega) only [m_is M, m_gI M, m_pI M, mR7 M, mL371 M, mW371 M, mR8 M, mL372 M, mW372 M, mR9 M, mL373 M, mW373 M, mR10 M, mL374 M, mW374 M, mR11 M, mL375 M, mW375 M, mR12 M, mL376 M, mW376_0 M, mW376_1 M, mR13 M, mL377 M, mW377 M, mR14 M, mL378 M, mW378 M, mR15 M, mL379 M, mW379 M, mR16 M, mL380 M, mW380 M, mR17 M, mL381 M, mW381 M, mR18 M, mL382 M, mW382 M, mR19 M, mL383 M, mW383_0 M, mW383_1 M, mR20 M, mL384 M, mW384_0 M, mW384_1 M, mR21 M, mL385 M, mW385 M, mR22 M, mL386 M, mW386 M, mR23 M, mL387 M, mW387 M, mR26 M, mL388 M, mW388 M, mR27 M, mL389 M, mW389 M, mR28 M, mL390 M, mW390 M, mR29 M, mL391 M, mW391 M, mR30 M, mL392 M, mW392 M, mR31 M, mL393 M, mW393 M, mR32 M, mL394 M, mW394_0 M, mW394_1 M, mR33 M, mL395 M, mW395_0 M, mW395_1 M, mR34 M, mL396 M, mW396 M, mR35 M, mL397 M, mW397 M, mR36 M, mL398 M, mW398 M, mR37 M, mL399 M, mW399 M, mR38 M, mL400 M, mW400 M, mR39 M, mL401 M, mW401 M, mR40 M, mL402 M, mW402 M, mR41 M, mL403 M, mW403 M, mR42 M, mL404 M, mW404 M, mR43 M, mL405 M, mW405 M, mR44 M, mL406 M, mW406 M, mR45 M, mL407 M, mW407 M, mR46 M, mL408 M, mW408 M, mR47 M, mL409 M, mW409 M, mR48 M, mL410 M, mW410 M, Option.bind_some, pm_u, pm_ur, pm_lt, pm_le, pm_eq, pm_ne, pm_add, pm_sub, pm_mul, pm_z0, pm_z1, cond_true, cond_false, decide_true, decide_false, not_false_eq_true, not_true_eq_false, reduceIte, Nat.reduceEqDiff, Nat.add_eq_left, Nat.left_eq_add, Nat.add_left_cancel_iff, Nat.one_ne_zero, Nat.reduceMul, Nat.reduceAdd, Nat.reduceSub, Nat.reduceEqDiff, Nat.reduceLT, Nat.reduceLeDiff, Nat.not_lt_zero, Nat.zero_le, am_cs, c0, h2]
    rw [a1]
    refine ⟨I3, b1, b2, ?_⟩
    intro a ha
    rw [b3 a ha, a3 a ha, am_u_ne _ _ (by omega)]
theorem m_tick (M : ml_ok K) (h : mt_at I J p T) (x : Int32) (d : Nat) : ∃ I' : pm_I, f_X9_tick (d + 4) 370 x (K, I, J) = some (((if wu_in x 1001 = 1 ∧ T.ck + x.toNatClampNeg ≤ 1000000 then (nI (mtick x.toNatClampNeg 0 T).1, (mtick x.toNatClampNeg 0 T).2) else (-nI 1, T)).1, 0, none), (K, I', J)) ∧ mt_at I' J p (if wu_in x 1001 = 1 ∧ T.ck + x.toNatClampNeg ≤ 1000000 then (nI (mtick x.toNatClampNeg 0 T).1, (mtick x.toNatClampNeg 0 T).2) else (-nI 1, T)).2 ∧ mf_at I I' := by
  have h0 := mt_thrown h (nI 0)
  have f0 : mf_at I (am_u I 370 0 (nI 0)) := mf_u (by omega)
  have h2 : I 370 2 = nI T.ck := h.1.2.1
  have hck : T.ck ≤ 1000000 := h.2.2.1.2.2.2
  rw [e_X9_tick]
  by_cases c0 : wu_in x 1001 = 1
  · obtain ⟨j, hj, rfl⟩ := wu_in1 (by omega) c0
    rw [nI_clamp (by omega)]
    have c1 : ¬ 1000 < j := by omega
    by_cases c2 : T.ck + j ≤ 1000000
    · rw [if_pos ⟨c0, c2⟩]
      obtain ⟨I2, a1, a2, a3⟩ := m_tickLoop (J := J) M (show j ≤ 1000 by omega) d j 0 0 _ T (Nat.zero_add _) c2 h0
      simp (disch := first | assumption | omega) only [m_is M, m_gI M, m_pI M, mR7 M, mL371 M, mW371 M, mR8 M, mL372 M, mW372 M, mR9 M, mL373 M, mW373 M, mR10 M, mL374 M, mW374 M, mR11 M, mL375 M, mW375 M, mR12 M, mL376 M, mW376_0 M, mW376_1 M, mR13 M, mL377 M, mW377 M, mR14 M, mL378 M, mW378 M, mR15 M, mL379 M, mW379 M, mR16 M, mL380 M, mW380 M, mR17 M, mL381 M, mW381 M, mR18 M, mL382 M, mW382 M, mR19 M, mL383 M, mW383_0 M, mW383_1 M, mR20 M, mL384 M, mW384_0 M, mW384_1 M, mR21 M, mL385 M, mW385 M, mR22 M, mL386 M, mW386 M, mR23 M, mL387 M, mW387 M, mR26 M, mL388 M, mW388 M, mR27 M, mL389 M, mW389 M, mR28 M, mL390 M, mW390 M, mR29 M, mL391 M, mW391 M, mR30 M, mL392 M, mW392 M, mR31 M, mL393 M, mW393 M, mR32 M, mL394 M, mW394_0 M, mW394_1 M, mR33 M, mL395 M, mW395_0 M, mW395_1 M, mR34 M, mL396 M, mW396 M, mR35 M, mL397 M, mW397 M, mR36 M, mL398 M, mW398 M, mR37 M, mL399 M, mW399 M, mR38 M, mL400 M, mW400 M, mR39 M, mL401 M, mW401 M, mR40 M, mL402 M, mW402 M, mR41 M, mL403 M, mW403 M, mR42 M, mL404 M, mW404 M, mR43 M, mL405 M, mW405 M, mR44 M, mL406 M, mW406 M, mR45 M, mL407 M, mW407 M, mR46 M, mL408 M, mW408 M, mR47 M, mL409 M, mW409 M, mR48 M, mL410 M, mW410 M, Option.bind_some, pm_u, pm_ur, pm_lt, pm_le, pm_eq, pm_ne, pm_add, pm_sub, pm_mul, pm_z0, pm_z1, cond_true, cond_false, decide_true, decide_false, not_false_eq_true, not_true_eq_false, reduceIte, Nat.reduceEqDiff, Nat.add_eq_left, Nat.left_eq_add, Nat.add_left_cancel_iff, Nat.one_ne_zero, Nat.reduceMul, Nat.reduceAdd, Nat.reduceSub, Nat.reduceEqDiff, Nat.reduceLT, Nat.reduceLeDiff, Nat.not_lt_zero, Nat.zero_le, am_cs, c1, h2, c2]
      exact ⟨I2, a1, a2, f0.trans a3⟩
    · rw [if_neg (fun q => c2 q.2)]
      simp (disch := first | assumption | omega) only [m_is M, m_gI M, m_pI M, mR7 M, mL371 M, mW371 M, mR8 M, mL372 M, mW372 M, mR9 M, mL373 M, mW373 M, mR10 M, mL374 M, mW374 M, mR11 M, mL375 M, mW375 M, mR12 M, mL376 M, mW376_0 M, mW376_1 M, mR13 M, mL377 M, mW377 M, mR14 M, mL378 M, mW378 M, mR15 M, mL379 M, mW379 M, mR16 M, mL380 M, mW380 M, mR17 M, mL381 M, mW381 M, mR18 M, mL382 M, mW382 M, mR19 M, mL383 M, mW383_0 M, mW383_1 M, mR20 M, mL384 M, mW384_0 M, mW384_1 M, mR21 M, mL385 M, mW385 M, mR22 M, mL386 M, mW386 M, mR23 M, mL387 M, mW387 M, mR26 M, mL388 M, mW388 M, mR27 M, mL389 M, mW389 M, mR28 M, mL390 M, mW390 M, mR29 M, mL391 M, mW391 M, mR30 M, mL392 M, mW392 M, mR31 M, mL393 M, mW393 M, mR32 M, mL394 M, mW394_0 M, mW394_1 M, mR33 M, mL395 M, mW395_0 M, mW395_1 M, mR34 M, mL396 M, mW396 M, mR35 M, mL397 M, mW397 M, mR36 M, mL398 M, mW398 M, mR37 M, mL399 M, mW399 M, mR38 M, mL400 M, mW400 M, mR39 M, mL401 M, mW401 M, mR40 M, mL402 M, mW402 M, mR41 M, mL403 M, mW403 M, mR42 M, mL404 M, mW404 M, mR43 M, mL405 M, mW405 M, mR44 M, mL406 M, mW406 M, mR45 M, mL407 M, mW407 M, mR46 M, mL408 M, mW408 M, mR47 M, mL409 M, mW409 M, mR48 M, mL410 M, mW410 M, Option.bind_some, pm_u, pm_ur, pm_lt, pm_le, pm_eq, pm_ne, pm_add, pm_sub, pm_mul, pm_z0, pm_z1, cond_true, cond_false, decide_true, decide_false, not_false_eq_true, not_true_eq_false, reduceIte, Nat.reduceEqDiff, Nat.add_eq_left, Nat.left_eq_add, Nat.add_left_cancel_iff, Nat.one_ne_zero, Nat.reduceMul, Nat.reduceAdd, Nat.reduceSub, Nat.reduceEqDiff, Nat.reduceLT, Nat.reduceLeDiff, Nat.not_lt_zero, Nat.zero_le, am_cs, c1, h2, c2]
      exact ⟨_, rfl, h0, f0⟩
  · rw [if_neg (fun q => c0 q.1)]
    by_cases c1 : x < nI 0
    · simp (disch := first | assumption | omega) only [m_is M, m_gI M, m_pI M, mR7 M, mL371 M, mW371 M, mR8 M, mL372 M, mW372 M, mR9 M, mL373 M, mW373 M, mR10 M, mL374 M, mW374 M, mR11 M, mL375 M, mW375 M, mR12 M, mL376 M, mW376_0 M, mW376_1 M, mR13 M, mL377 M, mW377 M, mR14 M, mL378 M, mW378 M, mR15 M, mL379 M, mW379 M, mR16 M, mL380 M, mW380 M, mR17 M, mL381 M, mW381 M, mR18 M, mL382 M, mW382 M, mR19 M, mL383 M, mW383_0 M, mW383_1 M, mR20 M, mL384 M, mW384_0 M, mW384_1 M, mR21 M, mL385 M, mW385 M, mR22 M, mL386 M, mW386 M, mR23 M, mL387 M, mW387 M, mR26 M, mL388 M, mW388 M, mR27 M, mL389 M, mW389 M, mR28 M, mL390 M, mW390 M, mR29 M, mL391 M, mW391 M, mR30 M, mL392 M, mW392 M, mR31 M, mL393 M, mW393 M, mR32 M, mL394 M, mW394_0 M, mW394_1 M, mR33 M, mL395 M, mW395_0 M, mW395_1 M, mR34 M, mL396 M, mW396 M, mR35 M, mL397 M, mW397 M, mR36 M, mL398 M, mW398 M, mR37 M, mL399 M, mW399 M, mR38 M, mL400 M, mW400 M, mR39 M, mL401 M, mW401 M, mR40 M, mL402 M, mW402 M, mR41 M, mL403 M, mW403 M, mR42 M, mL404 M, mW404 M, mR43 M, mL405 M, mW405 M, mR44 M, mL406 M, mW406 M, mR45 M, mL407 M, mW407 M, mR46 M, mL408 M, mW408 M, mR47 M, mL409 M, mW409 M, mR48 M, mL410 M, mW410 M, Option.bind_some, pm_u, pm_ur, pm_lt, pm_le, pm_eq, pm_ne, pm_add, pm_sub, pm_mul, pm_z0, pm_z1, cond_true, cond_false, decide_true, decide_false, not_false_eq_true, not_true_eq_false, reduceIte, Nat.reduceEqDiff, Nat.add_eq_left, Nat.left_eq_add, Nat.add_left_cancel_iff, Nat.one_ne_zero, Nat.reduceMul, Nat.reduceAdd, Nat.reduceSub, Nat.reduceEqDiff, Nat.reduceLT, Nat.reduceLeDiff, Nat.not_lt_zero, Nat.zero_le, am_cs, c1]
      exact ⟨_, rfl, h0, f0⟩
    · have c2 : nI 1000 < x := by
        rcases wu_in0 (wu_0 c0) with q | q
        · exact absurd q c1
        · exact Int32.lt_of_lt_of_le (nI_lt (by omega) (by omega)) q
      simp (disch := first | assumption | omega) only [m_is M, m_gI M, m_pI M, mR7 M, mL371 M, mW371 M, mR8 M, mL372 M, mW372 M, mR9 M, mL373 M, mW373 M, mR10 M, mL374 M, mW374 M, mR11 M, mL375 M, mW375 M, mR12 M, mL376 M, mW376_0 M, mW376_1 M, mR13 M, mL377 M, mW377 M, mR14 M, mL378 M, mW378 M, mR15 M, mL379 M, mW379 M, mR16 M, mL380 M, mW380 M, mR17 M, mL381 M, mW381 M, mR18 M, mL382 M, mW382 M, mR19 M, mL383 M, mW383_0 M, mW383_1 M, mR20 M, mL384 M, mW384_0 M, mW384_1 M, mR21 M, mL385 M, mW385 M, mR22 M, mL386 M, mW386 M, mR23 M, mL387 M, mW387 M, mR26 M, mL388 M, mW388 M, mR27 M, mL389 M, mW389 M, mR28 M, mL390 M, mW390 M, mR29 M, mL391 M, mW391 M, mR30 M, mL392 M, mW392 M, mR31 M, mL393 M, mW393 M, mR32 M, mL394 M, mW394_0 M, mW394_1 M, mR33 M, mL395 M, mW395_0 M, mW395_1 M, mR34 M, mL396 M, mW396 M, mR35 M, mL397 M, mW397 M, mR36 M, mL398 M, mW398 M, mR37 M, mL399 M, mW399 M, mR38 M, mL400 M, mW400 M, mR39 M, mL401 M, mW401 M, mR40 M, mL402 M, mW402 M, mR41 M, mL403 M, mW403 M, mR42 M, mL404 M, mW404 M, mR43 M, mL405 M, mW405 M, mR44 M, mL406 M, mW406 M, mR45 M, mL407 M, mW407 M, mR46 M, mL408 M, mW408 M, mR47 M, mL409 M, mW409 M, mR48 M, mL410 M, mW410 M, Option.bind_some, pm_u, pm_ur, pm_lt, pm_le, pm_eq, pm_ne, pm_add, pm_sub, pm_mul, pm_z0, pm_z1, cond_true, cond_false, decide_true, decide_false, not_false_eq_true, not_true_eq_false, reduceIte, Nat.reduceEqDiff, Nat.add_eq_left, Nat.left_eq_add, Nat.add_left_cancel_iff, Nat.one_ne_zero, Nat.reduceMul, Nat.reduceAdd, Nat.reduceSub, Nat.reduceEqDiff, Nat.reduceLT, Nat.reduceLeDiff, Nat.not_lt_zero, Nat.zero_le, am_cs, c1, c2]
      exact ⟨_, rfl, h0, f0⟩
end MTK
