/-! THE REFERENCE FORGETS: the last slot takes the place -/
section MFO
variable {K : am_K} {I I' : pm_I} {J J' : pm_J} {p : Nat} {T : sT}
theorem m_forLoop (M : ml_ok K) {k m : Nat} (hk : k < 10) (hm : m < 10) {V : Nat → Int32} (d : Nat) : ∀ (n i : Nat) (I : pm_I), i + n = 60 → I 370 24 = nI m → (∀ t, t < i → I 390 (60 * k + t) = V t) → (∀ t, i ≤ t → t < 60 → I 390 (60 * m + t) = V t) →
    ∃ I' : pm_I, l_X9_forget_84 (d + 1) 370 (nI k) (nI i) (K, I, J) = some ((nI 1, 0, none), (K, I', J)) ∧ (∀ t, t < 60 → I' 390 (60 * k + t) = V t) ∧ (∀ a, a ≠ 390 → I' a = I a) ∧ ∀ j, j < 60 * k ∨ 60 * k + 60 ≤ j → I' 390 j = I 390 j := by
  intro n
  induction n with
  | zero =>
    intro i I hi h0 h1 h2
    have c0 : 60 ≤ i := by omega
    rw [e_l_X9_forget_84]
    simp (disch := first | assumption | omega) only [m_is M, m_gI M, m_pI M, mR7 M, mL371 M, mW371 M, mR8 M, mL372 M, mW372 M, mR9 M, mL373 M, mW373 M, mR10 M, mL374 M, mW374 M, mR11 M, mL375 M, mW375 M, mR12 M, mL376 M, mW376_0 M, mW376_1 M, mR13 M, mL377 M, mW377 M, mR14 M, mL378 M, mW378 M, mR15 M, mL379 M, mW379 M, mR16 M, mL380 M, mW380 M, mR17 M, mL381 M, mW381 M, mR18 M, mL382 M, mW382 M, mR19 M, mL383 M, mW383_0 M, mW383_1 M, mR20 M, mL384 M, mW384_0 M, mW384_1 M, mR21 M, mL385 M, mW385 M, mR22 M, mL386 M, mW386 M, mR23 M, mL387 M, mW387 M, mR26 M, mL388 M, mW388 M, mR27 M, mL389 M, mW389 M, mR28 M, mL390 M, mW390 M, mR29 M, mL391 M, mW391 M, mR30 M, mL392 M, mW392 M, mR31 M, mL393 M, mW393 M, mR32 M, mL394 M, mW394_0 M, mW394_1 M, mR33 M, mL395 M, mW395_0 M, mW395_1 M, mR34 M, mL396 M, mW396 M, mR35 M, mL397 M, mW397 M, mR36 M, mL398 M, mW398 M, mR37 M, mL399 M, mW399 M, mR38 M, mL400 M, mW400 M, mR39 M, mL401 M, mW401 M, mR40 M, mL402 M, mW402 M, mR41 M, mL403 M, mW403 M, mR42 M, mL404 M, mW404 M, mR43 M, mL405 M, mW405 M, mR44 M, mL406 M, mW406 M, mR45 M, mL407 M, mW407 M, mR46 M, mL408 M, mW408 M, mR47 M, mL409 M, mW409 M, mR48 M, mL410 M, mW410 M, Option.bind_some, pm_u, pm_ur, pm_lt, pm_le, pm_eq, pm_ne, pm_add, pm_sub, pm_mul, pm_z0, pm_z1, cond_true, cond_false, decide_true, decide_false, not_false_eq_true, not_true_eq_false, reduceIte, Nat.reduceEqDiff, Nat.add_eq_left, Nat.left_eq_add, Nat.add_left_cancel_iff, Nat.one_ne_zero, Nat.reduceMul, Nat.reduceAdd, Nat.reduceSub, Nat.reduceEqDiff, Nat.reduceLT, Nat.reduceLeDiff, Nat.not_lt_zero, Nat.zero_le, am_cs, c0]
    exact ⟨I, rfl, fun t ht => h1 t (by omega), fun _ _ => rfl, fun _ _ => rfl⟩
  | succ n ih =>
    intro i I hi h0 h1 h2
    have c0 : ¬ 60 ≤ i := by omega
    have hb := h2 i (by omega) (by omega)
    obtain ⟨I2, q1, q2, q3, q4⟩ := ih (i + 1) (am_u I 390 (60 * k + i) (V i)) (by omega) (by rw [am_u_ne _ _ (by omega)]; exact h0) (fun t ht => by
      rw [am_u_self]
      by_cases c : t = i
      · rw [if_pos (by omega), c]
      · rw [if_neg (by omega)]
        exact h1 t (by omega)) (fun t ht ht2 => by
      rw [am_u_self, if_neg (by omega)]
      exact h2 t (by omega) ht2)
    rw [e_l_X9_forget_84]
    simp (disch := first | assumption | omega) only [m_is M, m_gI M, m_pI M, mR7 M, mL371 M, mW371 M, mR8 M, mL372 M, mW372 M, mR9 M, mL373 M, mW373 M, mR10 M, mL374 M, mW374 M, mR11 M, mL375 M, mW375 M, mR12 M, mL376 M, mW376_0 M, mW376_1 M, mR13 M, mL377 M, mW377 M, mR14 M, mL378 M, mW378 M, mR15 M, mL379 M, mW379 M, mR16 M, mL380 M, mW380 M, mR17 M, mL381 M, mW381 M, mR18 M, mL382 M, mW382 M, mR19 M, mL383 M, mW383_0 M, mW383_1 M, mR20 M, mL384 M, mW384_0 M, mW384_1 M, mR21 M, mL385 M, mW385 M, mR22 M, mL386 M, mW386 M, mR23 M, mL387 M, mW387 M, mR26 M, mL388 M, mW388 M, mR27 M, mL389 M, mW389 M, mR28 M, mL390 M, mW390 M, mR29 M, mL391 M, mW391 M, mR30 M, mL392 M, mW392 M, mR31 M, mL393 M, mW393 M, mR32 M, mL394 M, mW394_0 M, mW394_1 M, mR33 M, mL395 M, mW395_0 M, mW395_1 M, mR34 M, mL396 M, mW396 M, mR35 M, mL397 M, mW397 M, mR36 M, mL398 M, mW398 M, mR37 M, mL399 M, mW399 M, mR38 M, mL400 M, mW400 M, mR39 M, mL401 M, mW401 M, mR40 M, mL402 M, mW402 M, mR41 M, mL403 M, mW403 M, mR42 M, mL404 M, mW404 M, mR43 M, mL405 M, mW405 M, mR44 M, mL406 M, mW406 M, mR45 M, mL407 M, mW407 M, mR46 M, mL408 M, mW408 M, mR47 M, mL409 M, mW409 M, mR48 M, mL410 M, mW410 M, Option.bind_some, pm_u, pm_ur, pm_lt, pm_le, pm_eq, pm_ne, pm_add, pm_sub, pm_mul, pm_z0, pm_z1, cond_true, cond_false, decide_true, decide_false, not_false_eq_true, not_true_eq_false, reduceIte, Nat.reduceEqDiff, Nat.add_eq_left, Nat.left_eq_add, Nat.add_left_cancel_iff, Nat.one_ne_zero, Nat.reduceMul, Nat.reduceAdd, Nat.reduceSub, Nat.reduceEqDiff, Nat.reduceLT, Nat.reduceLeDiff, Nat.not_lt_zero, Nat.zero_le, am_cs, c0, h0, hb]
    refine ⟨I2, q1, q2, fun a ha => ?_, fun j hj => ?_⟩
    · rw [q3 a ha, am_u_ne _ _ ha]
    · rw [q4 j hj, am_u_self, if_neg (by omega)]
theorem m_forget (M : ml_ok K) (h : mt_at I J p T) (x : Int32) (d : Nat) : ∃ (I' : pm_I) (J' : pm_J), f_X9_forget (d + 2) 370 x (K, I, J) = some (((st_forget x T).1, 0, none), (K, I', J')) ∧ mt_at I' J' p (st_forget x T).2 ∧ mf_at I I' ∧ mf_at J J' := by
  have h0 := mt_thrown h (nI 0)
  have f0 : mf_at I (am_u I 370 0 (nI 0)) := mf_u (by omega)
  have hmk := mt_mk h
  have hic := m_isCall M h0 x (d + 1)
  rw [e_X9_forget]
  unfold st_forget
  by_cases c0 : wu_in x T.mk = 1
  · rw [c0] at hic
    obtain ⟨j, hj, rfl⟩ := wu_in1 (by omega) c0
    have hxj : cx T (nI j) = T.cs j := by
      unfold cx
      rw [nI_clamp (by omega)]
    rw [hxj]
    have h1 := (mt_c h hj).1
    have b1 := (mt_c h hj).2.2.2.2.2.2.2.2.2.2.2.2.2.2.2.2.2.2.1
    by_cases c1 : (T.cs j).kd = 1
    · rw [if_pos ⟨c0, c1⟩]
      have hdt : f_X9_digestTold (d + 1) 370 (nI j) (K, am_u I 370 0 (nI 0), J) = some ((0, sd_dig (T.cs j).row, none), (K, am_u I 370 0 (nI 0), J)) := m_digestTold M (mt_c h0 hj) c1 (show j < 30 by omega) d
      obtain ⟨⟨s, s1, s2⟩, hv2, hv3, hv4, hv5⟩ := mt_v h0
      have hnb := mt_nb h0
      have hnb' : I 370 24 = nI T.sv.nb := mt_nb h
      have h10 := s1.1
      generalize sd_dig (T.cs j).row = v at *
      unfold ss_drop
      rcases m_blobOf M hnb s1 s2 v (d + 1) with ⟨k, y, k1, k2, k3, k4⟩ | ⟨k3, k4⟩
      · rw [k3]
        have hk := px_nem k (by omega)
        obtain ⟨z, z1, z2, z3, z4, z5, z6⟩ := s1.2.2 (T.sv.nb - 1) (by omega)
        have hz2 : J 388 (T.sv.nb - 1) = z.1 := z2
        have hz3 : I 389 (T.sv.nb - 1) = nI z.2.length := z3
        generalize hm : T.sv.nb - 1 = m at *
        obtain ⟨I2, q1, q2, q3, q4⟩ := m_forLoop (K := K) (J := am_u J 388 k z.1) (k := k) (m := m) (V := fun t => I 390 (60 * m + t)) M (by omega) (by omega) (d + 1) 60 0 (am_u (am_u (am_u I 370 0 (nI 0)) 370 24 (nI m)) 389 k (nI z.2.length)) rfl (by rw [am_u_ne _ _ (by omega), am_u_self, if_pos rfl]) (fun t ht => absurd ht (by omega)) (fun t _ _ => by rw [am_u_ne _ _ (by omega), am_u_ne _ _ (by omega), am_u_ne _ _ (by omega)])
        simp (disch := first | assumption | omega) only [m_is M, m_gI M, m_pI M, mR7 M, mL371 M, mW371 M, mR8 M, mL372 M, mW372 M, mR9 M, mL373 M, mW373 M, mR10 M, mL374 M, mW374 M, mR11 M, mL375 M, mW375 M, mR12 M, mL376 M, mW376_0 M, mW376_1 M, mR13 M, mL377 M, mW377 M, mR14 M, mL378 M, mW378 M, mR15 M, mL379 M, mW379 M, mR16 M, mL380 M, mW380 M, mR17 M, mL381 M, mW381 M, mR18 M, mL382 M, mW382 M, mR19 M, mL383 M, mW383_0 M, mW383_1 M, mR20 M, mL384 M, mW384_0 M, mW384_1 M, mR21 M, mL385 M, mW385 M, mR22 M, mL386 M, mW386 M, mR23 M, mL387 M, mW387 M, mR26 M, mL388 M, mW388 M, mR27 M, mL389 M, mW389 M, mR28 M, mL390 M, mW390 M, mR29 M, mL391 M, mW391 M, mR30 M, mL392 M, mW392 M, mR31 M, mL393 M, mW393 M, mR32 M, mL394 M, mW394_0 M, mW394_1 M, mR33 M, mL395 M, mW395_0 M, mW395_1 M, mR34 M, mL396 M, mW396 M, mR35 M, mL397 M, mW397 M, mR36 M, mL398 M, mW398 M, mR37 M, mL399 M, mW399 M, mR38 M, mL400 M, mW400 M, mR39 M, mL401 M, mW401 M, mR40 M, mL402 M, mW402 M, mR41 M, mL403 M, mW403 M, mR42 M, mL404 M, mW404 M, mR43 M, mL405 M, mW405 M, mR44 M, mL406 M, mW406 M, mR45 M, mL407 M, mW407 M, mR46 M, mL408 M, mW408 M, mR47 M, mL409 M, mW409 M, mR48 M, mL410 M, mW410 M, Option.bind_some, pm_u, pm_ur, pm_lt, pm_le, pm_eq, pm_ne, pm_add, pm_sub, pm_mul, pm_z0, pm_z1, cond_true, cond_false, decide_true, decide_false, not_false_eq_true, not_true_eq_false, reduceIte, Nat.reduceEqDiff, Nat.add_eq_left, Nat.left_eq_add, Nat.add_left_cancel_iff, Nat.one_ne_zero, Nat.reduceMul, Nat.reduceAdd, Nat.reduceSub, Nat.reduceEqDiff, Nat.reduceLT, Nat.reduceLeDiff, Nat.not_lt_zero, Nat.zero_le, am_cs, hic, h1, c1, hdt, k4, hk, hnb', hm, hz2, hz3]
        have g1 : msf (am_u I 370 0 (nI 0)) I2 := by
          refine ⟨fun a h1 h2 => ?_, fun t h1 h2 h3 => ?_⟩
          · rw [q3 a (by omega), am_u_ne _ _ (by omega), am_u_ne _ _ h1]
          · rw [q3 370 (by omega), am_u_ne _ _ (by omega), am_u_self, if_neg h2]
        have eI : ∀ a, a ≠ 370 → a ≠ 389 → a ≠ 390 → I2 a = am_u I 370 0 (nI 0) a := fun a h1 h2 h3 => by rw [q3 a h3, am_u_ne _ _ h2, am_u_ne _ _ h1]
        have eJ : ∀ a, a ≠ 388 → am_u J 388 k z.1 a = J a := fun a h1 => am_u_ne _ _ h1
        have hslots : ∃ s', mb_at I2 (am_u J 388 k z.1) m s' ∧ bm_ok s' (fu_at T.sv.B v none) m := by
          have hdel := bm_del s2 (show k < 10 by omega) k2
          rw [hm] at hdel
          by_cases ckm : k = m
          · refine ⟨fu_at s k none, ⟨by omega, fun t ht => ?_, fun t ht => ?_⟩, hdel⟩
            · by_cases q : t = k
              · rw [q, fu_self]
              · rw [fu_ne _ _ q]
                exact s1.2.1 t (by omega)
            · obtain ⟨w, w1, w2, w3, w4, w5, w6⟩ := s1.2.2 t (by omega)
              refine ⟨w, by rw [fu_ne _ _ (by omega)]; exact w1, ?_, ?_, w4, fun i hi => ?_, w6⟩
              · rw [am_u_self, if_neg (by omega)]
                exact w2
              · rw [q3 389 (by omega), am_u_self, if_neg (by omega), am_u_ne _ _ (by omega)]
                exact w3
              · rw [q4 _ (by omega), am_u_ne _ _ (by omega), am_u_ne _ _ (by omega)]
                exact w5 i hi
          · have zz : s m = some (z.1, z.2) := z1
            have hs0 : fu_at s k none m = some (z.1, z.2) := by rw [fu_ne _ _ (by omega)]; exact zz
            have hd2 := bm_del hdel (show m < 10 by omega) hs0
            have hBz : fu_at T.sv.B v none z.1 = some z.2 := hdel.1 m z.1 z.2 (by omega) hs0
            have hins := bm_ins hd2 (i := k) (show k < 10 by omega) (by rw [fu_ne _ _ (by omega), fu_self]) (d := z.1) (fu_self _ _ _) z.2
            have hBB : fu_at (fu_at (fu_at T.sv.B v none) z.1 none) z.1 (some z.2) = fu_at T.sv.B v none := by
              funext u
              by_cases q : u = z.1
              · rw [q, fu_self, hBz]
              · rw [fu_ne _ _ q, fu_ne _ _ q]
            rw [hBB, show m - 1 + 1 = m by omega] at hins
            refine ⟨_, ⟨by omega, fun t ht => ?_, fun t ht => ?_⟩, hins⟩
            · rw [fu_ne _ _ (by omega)]
              by_cases q : t = m
              · rw [q, fu_self]
              · rw [fu_ne _ _ q, fu_ne _ _ (by omega)]
                exact s1.2.1 t (by omega)
            · by_cases q : t = k
              · subst q
                refine ⟨(z.1, z.2), fu_self _ _ _, by rw [am_u_self, if_pos rfl], ?_, z4, fun i hi => ?_, z6⟩
                · rw [q3 389 (by omega), am_u_self, if_pos rfl]
                · rw [q2 i (by have : z.2.length ≤ 60 := z4; have hi : i < z.2.length := hi; omega)]
                  exact z5 i hi
              · obtain ⟨w, w1, w2, w3, w4, w5, w6⟩ := s1.2.2 t (by omega)
                refine ⟨w, by rw [fu_ne _ _ q, fu_ne _ _ (by omega), fu_ne _ _ q]; exact w1, ?_, ?_, w4, fun i hi => ?_, w6⟩
                · rw [am_u_self, if_neg (by omega)]
                  exact w2
                · rw [q3 389 (by omega), am_u_self, if_neg (by omega), am_u_ne _ _ (by omega)]
                  exact w3
                · rw [q4 _ (by omega), am_u_ne _ _ (by omega), am_u_ne _ _ (by omega)]
                  exact w5 i hi
        have hv : mv_at I2 (am_u J 388 k z.1) (T.sv.setB (fu_at T.sv.B v none) m) := by
          obtain ⟨t, t1, t2⟩ := hv2
          exact ⟨hslots, ⟨t, mr_congr t1 (fun a _ _ => eI a (by omega) (by omega) (by omega)) (fun a _ _ => eJ a (by omega)), t2⟩, fun i hi => mp_congr (hv3 i hi) (fun a _ _ => eI a (by omega) (by omega) (by omega)) (fun a _ _ => eJ a (by omega)), fun i hi => mn_congr (hv4 i hi) (fun a _ _ => eI a (by omega) (by omega) (by omega)) (fun a _ _ => eJ a (by omega)), hv5⟩
        refine ⟨I2, _, q1, mt_sv h0 g1 (fun a _ => eJ a (by omega)) hv ?_ ?_ ?_, f0.trans (msf_mf g1), fun a ha => eJ a (by omega)⟩
        · rw [q3 370 (by omega), am_u_ne _ _ (by omega), am_u_self, if_neg (by omega)]
          exact mt_bz h0
        · rw [q3 370 (by omega), am_u_ne _ _ (by omega), am_u_self, if_pos rfl]
          rfl
        · rw [q3 370 (by omega), am_u_ne _ _ (by omega), am_u_self, if_neg (by omega)]
          exact mt_nr h0
      · rw [k3]
        simp (disch := first | assumption | omega) only [m_is M, m_gI M, m_pI M, mR7 M, mL371 M, mW371 M, mR8 M, mL372 M, mW372 M, mR9 M, mL373 M, mW373 M, mR10 M, mL374 M, mW374 M, mR11 M, mL375 M, mW375 M, mR12 M, mL376 M, mW376_0 M, mW376_1 M, mR13 M, mL377 M, mW377 M, mR14 M, mL378 M, mW378 M, mR15 M, mL379 M, mW379 M, mR16 M, mL380 M, mW380 M, mR17 M, mL381 M, mW381 M, mR18 M, mL382 M, mW382 M, mR19 M, mL383 M, mW383_0 M, mW383_1 M, mR20 M, mL384 M, mW384_0 M, mW384_1 M, mR21 M, mL385 M, mW385 M, mR22 M, mL386 M, mW386 M, mR23 M, mL387 M, mW387 M, mR26 M, mL388 M, mW388 M, mR27 M, mL389 M, mW389 M, mR28 M, mL390 M, mW390 M, mR29 M, mL391 M, mW391 M, mR30 M, mL392 M, mW392 M, mR31 M, mL393 M, mW393 M, mR32 M, mL394 M, mW394_0 M, mW394_1 M, mR33 M, mL395 M, mW395_0 M, mW395_1 M, mR34 M, mL396 M, mW396 M, mR35 M, mL397 M, mW397 M, mR36 M, mL398 M, mW398 M, mR37 M, mL399 M, mW399 M, mR38 M, mL400 M, mW400 M, mR39 M, mL401 M, mW401 M, mR40 M, mL402 M, mW402 M, mR41 M, mL403 M, mW403 M, mR42 M, mL404 M, mW404 M, mR43 M, mL405 M, mW405 M, mR44 M, mL406 M, mW406 M, mR45 M, mL407 M, mW407 M, mR46 M, mL408 M, mW408 M, mR47 M, mL409 M, mW409 M, mR48 M, mL410 M, mW410 M, Option.bind_some, pm_u, pm_ur, pm_lt, pm_le, pm_eq, pm_ne, pm_add, pm_sub, pm_mul, pm_z0, pm_z1, cond_true, cond_false, decide_true, decide_false, not_false_eq_true, not_true_eq_false, reduceIte, Nat.reduceEqDiff, Nat.add_eq_left, Nat.left_eq_add, Nat.add_left_cancel_iff, Nat.one_ne_zero, Nat.reduceMul, Nat.reduceAdd, Nat.reduceSub, Nat.reduceEqDiff, Nat.reduceLT, Nat.reduceLeDiff, Nat.not_lt_zero, Nat.zero_le, am_cs, hic, h1, c1, hdt, k4]
        exact ⟨_, J, rfl, h0, f0, mf_at.refl _⟩
    · rw [if_neg (fun q => c1 q.2)]
      simp (disch := first | assumption | omega) only [m_is M, m_gI M, m_pI M, mR7 M, mL371 M, mW371 M, mR8 M, mL372 M, mW372 M, mR9 M, mL373 M, mW373 M, mR10 M, mL374 M, mW374 M, mR11 M, mL375 M, mW375 M, mR12 M, mL376 M, mW376_0 M, mW376_1 M, mR13 M, mL377 M, mW377 M, mR14 M, mL378 M, mW378 M, mR15 M, mL379 M, mW379 M, mR16 M, mL380 M, mW380 M, mR17 M, mL381 M, mW381 M, mR18 M, mL382 M, mW382 M, mR19 M, mL383 M, mW383_0 M, mW383_1 M, mR20 M, mL384 M, mW384_0 M, mW384_1 M, mR21 M, mL385 M, mW385 M, mR22 M, mL386 M, mW386 M, mR23 M, mL387 M, mW387 M, mR26 M, mL388 M, mW388 M, mR27 M, mL389 M, mW389 M, mR28 M, mL390 M, mW390 M, mR29 M, mL391 M, mW391 M, mR30 M, mL392 M, mW392 M, mR31 M, mL393 M, mW393 M, mR32 M, mL394 M, mW394_0 M, mW394_1 M, mR33 M, mL395 M, mW395_0 M, mW395_1 M, mR34 M, mL396 M, mW396 M, mR35 M, mL397 M, mW397 M, mR36 M, mL398 M, mW398 M, mR37 M, mL399 M, mW399 M, mR38 M, mL400 M, mW400 M, mR39 M, mL401 M, mW401 M, mR40 M, mL402 M, mW402 M, mR41 M, mL403 M, mW403 M, mR42 M, mL404 M, mW404 M, mR43 M, mL405 M, mW405 M, mR44 M, mL406 M, mW406 M, mR45 M, mL407 M, mW407 M, mR46 M, mL408 M, mW408 M, mR47 M, mL409 M, mW409 M, mR48 M, mL410 M, mW410 M, Option.bind_some, pm_u, pm_ur, pm_lt, pm_le, pm_eq, pm_ne, pm_add, pm_sub, pm_mul, pm_z0, pm_z1, cond_true, cond_false, decide_true, decide_false, not_false_eq_true, not_true_eq_false, reduceIte, Nat.reduceEqDiff, Nat.add_eq_left, Nat.left_eq_add, Nat.add_left_cancel_iff, Nat.one_ne_zero, Nat.reduceMul, Nat.reduceAdd, Nat.reduceSub, Nat.reduceEqDiff, Nat.reduceLT, Nat.reduceLeDiff, Nat.not_lt_zero, Nat.zero_le, am_cs, hic, h1, c1]
      exact ⟨_, J, rfl, h0, f0, mf_at.refl _⟩
  · rw [if_neg (fun hh => c0 hh.1)]
    rw [wu_0 c0] at hic
    simp (disch := first | assumption | omega) only [m_is M, m_gI M, m_pI M, mR7 M, mL371 M, mW371 M, mR8 M, mL372 M, mW372 M, mR9 M, mL373 M, mW373 M, mR10 M, mL374 M, mW374 M, mR11 M, mL375 M, mW375 M, mR12 M, mL376 M, mW376_0 M, mW376_1 M, mR13 M, mL377 M, mW377 M, mR14 M, mL378 M, mW378 M, mR15 M, mL379 M, mW379 M, mR16 M, mL380 M, mW380 M, mR17 M, mL381 M, mW381 M, mR18 M, mL382 M, mW382 M, mR19 M, mL383 M, mW383_0 M, mW383_1 M, mR20 M, mL384 M, mW384_0 M, mW384_1 M, mR21 M, mL385 M, mW385 M, mR22 M, mL386 M, mW386 M, mR23 M, mL387 M, mW387 M, mR26 M, mL388 M, mW388 M, mR27 M, mL389 M, mW389 M, mR28 M, mL390 M, mW390 M, mR29 M, mL391 M, mW391 M, mR30 M, mL392 M, mW392 M, mR31 M, mL393 M, mW393 M, mR32 M, mL394 M, mW394_0 M, mW394_1 M, mR33 M, mL395 M, mW395_0 M, mW395_1 M, mR34 M, mL396 M, mW396 M, mR35 M, mL397 M, mW397 M, mR36 M, mL398 M, mW398 M, mR37 M, mL399 M, mW399 M, mR38 M, mL400 M, mW400 M, mR39 M, mL401 M, mW401 M, mR40 M, mL402 M, mW402 M, mR41 M, mL403 M, mW403 M, mR42 M, mL404 M, mW404 M, mR43 M, mL405 M, mW405 M, mR44 M, mL406 M, mW406 M, mR45 M, mL407 M, mW407 M, mR46 M, mL408 M, mW408 M, mR47 M, mL409 M, mW409 M, mR48 M, mL410 M, mW410 M, Option.bind_some, pm_u, pm_ur, pm_lt, pm_le, pm_eq, pm_ne, pm_add, pm_sub, pm_mul, pm_z0, pm_z1, cond_true, cond_false, decide_true, decide_false, not_false_eq_true, not_true_eq_false, reduceIte, Nat.reduceEqDiff, Nat.add_eq_left, Nat.left_eq_add, Nat.add_left_cancel_iff, Nat.one_ne_zero, Nat.reduceMul, Nat.reduceAdd, Nat.reduceSub, Nat.reduceEqDiff, Nat.reduceLT, Nat.reduceLeDiff, Nat.not_lt_zero, Nat.zero_le, am_cs, hic]
    exact ⟨_, J, rfl, h0, f0, mf_at.refl _⟩
end MFO
