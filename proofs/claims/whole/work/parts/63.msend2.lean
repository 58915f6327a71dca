/-! THE REFERENCE SENDS, part 2 -/
theorem lb_msh (v : Int64) (s : Nat) (hs : s ≤ 56) : Int64.toInt32 ((v >>> (Int64.ofNat s)) &&& (lN 255)) = nI ((v.toBitVec.toNat >>> s) % 256) := by
  apply Int32.toBitVec_inj.mp
  show BitVec.signExtend 32 ((v.toBitVec.sshiftRight' ((BitVec.ofNat 64 s).smod 64)) &&& BitVec.ofNat 64 255) = BitVec.ofNat 32 ((v.toBitVec.toNat >>> s) % 256)
  have h1 : (BitVec.ofNat 64 s).smod 64 = BitVec.ofNat 64 s := by
    have : ∀ s : Nat, s ≤ 56 → (BitVec.ofNat 64 s).smod 64 = BitVec.ofNat 64 s := by decide +kernel
    exact this s hs
  rw [h1, BitVec.signExtend_eq_setWidth_of_le _ (by omega), BitVec.sshiftRight_eq', BitVec.toNat_ofNat, Nat.mod_eq_of_lt (show s < 2 ^ 64 by omega)]
  apply BitVec.eq_of_getLsbD_eq
  intro i hi
  rw [BitVec.getLsbD_setWidth, BitVec.getLsbD_and, BitVec.getLsbD_sshiftRight, BitVec.getLsbD_ofNat, BitVec.getLsbD_ofNat, show (256 : Nat) = 2 ^ 8 from rfl, Nat.testBit_mod_two_pow, Nat.testBit_shiftRight, show (255 : Nat) = 2 ^ 8 - 1 from rfl, Nat.testBit_two_pow_sub_one]
  by_cases c : i < 8
  · have e1 : decide (64 ≤ i) = false := decide_eq_false (by omega)
    have e2 : s + i < 64 := by omega
    simp [c, e1, e2, hi, BitVec.getLsbD, show i < 64 by omega]
  · simp [c]
theorem lb_model (v : Int64) (i : Nat) (hi : i < 8) : Int64.toInt32 ((v >>> (Int32.toInt64 (nI (56 - 8 * i)) &&& 63)) &&& (lN 255)) = nI (lb_byte v i) := by
  have h : Int32.toInt64 (nI (56 - 8 * i)) &&& 63 = Int64.ofNat (56 - 8 * i) := by
    rcases i with _ | _ | _ | _ | _ | _ | _ | _ | i
    · decide +kernel
    · decide +kernel
    · decide +kernel
    · decide +kernel
    · decide +kernel
    · decide +kernel
    · decide +kernel
    · decide +kernel
    · omega
  rw [h]
  exact lb_msh v _ (by omega)
/-- nothing but the ways, the scalars and the scratch has changed -/
def mq_at (I I' : pm_I) : Prop := ∀ a, a ≠ 370 → a ≠ 410 → a < 402 ∨ 407 < a → I' a = I a
theorem mq_at.refl (I : pm_I) : mq_at I I := fun _ _ _ _ => rfl
theorem mq_at.trans {I I' I'' : pm_I} (h : mq_at I I') (h' : mq_at I' I'') : mq_at I I'' := fun a h1 h2 h3 => (h' a h1 h2 h3).trans (h a h1 h2 h3)
theorem mq_mf {I I' : pm_I} (h : mq_at I I') : mf_at I I' := fun a ha => h a (by omega) (by omega) (by omega)
theorem mxf_mq {I I' : pm_I} (h : mxf I I') : mq_at I I' := fun a h1 h2 _ => h.1 a h1 h2
section MS2
variable {K : am_K} {I I' : pm_I} {J J' : pm_J} {p : Nat} {T : sT}
theorem m_sumLoop (M : ml_ok K) {e : Nat} {F : List Nat} (h49 : I 370 49 = nI F.length) (hF : wl_at I 410 0 F) (hl : F.length ≤ 60) (d : Nat) : ∀ (n i s : Nat), i + n = F.length → l_X9_send_14 (d + 1) 370 (nI e) (nI s) (nI i) (K, I, J) = l_X9_send_14 (d + 1) 370 (nI e) (nI (s + (F.drop i).sum)) (nI F.length) (K, I, J) := by
  intro n
  induction n with
  | zero =>
    intro i s hi
    obtain rfl : i = F.length := by omega
    rw [List.drop_of_length_le (by omega)]
    rfl
  | succ n ih =>
    intro i s hi
    have c0 : ¬ F.length ≤ i := by omega
    have hb := hF i (by omega)
    rw [Nat.zero_add] at hb
    have := ih (i + 1) (s + F.getD i 0) (by omega)
    rw [e_l_X9_send_14]
    simp (disch := first | assumption | omega) only [m_is M, m_gI M, m_pI M, mR7 M, mL371 M, mW371 M, mR8 M, mL372 M, mW372 M, mR9 M, mL373 M, mW373 M, mR10 M, mL374 M, mW374 M, mR11 M, mL375 M, mW375 M, mR12 M, mL376 M, mW376_0 M, mW376_1 M, mR13 M, mL377 M, mW377 M, mR14 M, mL378 M, mW378 M, mR15 M, mL379 M, mW379 M, mR16 M, mL380 M, mW380 M, mR17 M, mL381 M, mW381 M, mR18 M, mL382 M, mW382 M, mR19 M, mL383 M, mW383_0 M, mW383_1 M, mR20 M, mL384 M, mW384_0 M, mW384_1 M, mR21 M, mL385 M, mW385 M, mR22 M, mL386 M, mW386 M, mR23 M, mL387 M, mW387 M, mR26 M, mL388 M, mW388 M, mR27 M, mL389 M, mW389 M, mR28 M, mL390 M, mW390 M, mR29 M, mL391 M, mW391 M, mR30 M, mL392 M, mW392 M, mR31 M, mL393 M, mW393 M, mR32 M, mL394 M, mW394_0 M, mW394_1 M, mR33 M, mL395 M, mW395_0 M, mW395_1 M, mR34 M, mL396 M, mW396 M, mR35 M, mL397 M, mW397 M, mR36 M, mL398 M, mW398 M, mR37 M, mL399 M, mW399 M, mR38 M, mL400 M, mW400 M, mR39 M, mL401 M, mW401 M, mR40 M, mL402 M, mW402 M, mR41 M, mL403 M, mW403 M, mR42 M, mL404 M, mW404 M, mR43 M, mL405 M, mW405 M, mR44 M, mL406 M, mW406 M, mR45 M, mL407 M, mW407 M, mR46 M, mL408 M, mW408 M, mR47 M, mL409 M, mW409 M, mR48 M, mL410 M, mW410 M, Option.bind_some, pm_u, pm_ur, pm_lt, pm_le, pm_eq, pm_ne, pm_add, pm_sub, pm_mul, pm_z0, pm_z1, cond_true, cond_false, decide_true, decide_false, not_false_eq_true, not_true_eq_false, reduceIte, Nat.reduceEqDiff, Nat.add_eq_left, Nat.left_eq_add, Nat.add_left_cancel_iff, Nat.one_ne_zero, Nat.reduceMul, Nat.reduceAdd, Nat.reduceSub, Nat.reduceEqDiff, Nat.reduceLT, Nat.reduceLeDiff, am_cs, h49, c0, hb]
    rw [this, wl_drop_cons (show i < F.length by omega), List.sum_cons, Nat.add_assoc]
/-- a frame that was put is sent on way e -/
theorem m_send (M : ml_ok K) {e c kd pl : Nat} {dat : List Nat} (he : e ≤ 1) (h : mt_at I J p T) (hx : mx_at I (c :: kd :: pl :: dat)) (hc : c < 256) (hk : kd < 256) (hp : pl < 256) (hb : ∀ x ∈ dat, x < 256) (hn : dat.length ≤ 40) (d : Nat) :
    ∃ I' : pm_I, f_X9_send (d + 1) 370 (nI e) (K, I, J) = some ((0, 0, none), (K, I', J)) ∧ mt_at I' J p (tSW T e ((tW T e).send (wf_all c kd pl dat))) ∧ mq_at I I' := by
  obtain ⟨x1, x2⟩ := hx
  have hlen := wf_head_len c kd pl dat
  have hall := wf_all_len c kd pl dat
  have x1' : I 370 49 = nI (wf_head c kd pl dat).length := by
    rw [x1, hlen]
    congr 1
    simp
    omega
  have hall0 : ∀ x ∈ wf_all c kd pl dat, x < 256 := wf_all_bd hc hk hp hb hn
  have f0 : mxf I (am_u I 410 0 (nI (wf_head c kd pl dat).length)) := ⟨fun a _ h2 => am_u_ne _ _ h2, fun j _ => by rw [am_u_ne _ _ (by omega)]⟩
  have hF : wl_at (am_u I 410 0 (nI (wf_head c kd pl dat).length)) 410 0 (wf_head c kd pl dat) := by
    intro i hi
    rw [am_u_self]
    rcases i with _ | i
    · rw [if_pos (by omega), hlen]
      rfl
    · rw [if_neg (by omega)]
      rw [hlen] at hi
      have := x2 i (by simp; omega)
      rw [show 0 + (i + 1) = 1 + i by omega, this]
      rfl
  have h49 : am_u I 410 0 (nI (wf_head c kd pl dat).length) 370 49 = nI (wf_head c kd pl dat).length := by
    rw [am_u_ne _ _ (by omega)]
    exact x1'
  have hsum := m_sumLoop (J := J) (e := e) M h49 hF (by omega) d (wf_head c kd pl dat).length 0 0 (Nat.zero_add _)
  rw [List.drop_zero, Nat.zero_add] at hsum
  have hsb := wf_head_bd hc hk hp hb hn
  have hand : nI (wf_head c kd pl dat).sum &&& nI 255 = nI ((wf_head c kd pl dat).sum % 256) := pk_andN (by omega) 8 (by decide +kernel)
  have hxl : mx_at (am_u I 410 0 (nI (wf_head c kd pl dat).length)) (c :: kd :: pl :: dat) := by
    refine ⟨by rw [am_u_ne _ _ (by omega)]; exact x1, fun i hi => ?_⟩
    rw [am_u_self, if_neg (by omega)]
    exact x2 i hi
  obtain ⟨I1, p1, p2, p3, p4⟩ := m_put (J := J) (b := (wf_head c kd pl dat).sum % 256) M hxl (by simp; omega) d
  have f1 : mxf I I1 := f0.trans p3
  have h1 : mt_at I1 J p T := mt_mxf h f1
  have hw := mt_w he h1
  have a1 : I1 370 49 = nI (wf_all c kd pl dat).length := by
    rw [p2.1, hall]
    congr 1
    simp
    omega
  have a2 : wl_at I1 410 0 (wf_all c kd pl dat) := by
    intro i hi
    rcases i with _ | i
    · rw [p4 0 (by omega), am_u_self, if_pos (by omega), hlen]
      rfl
    · have := p2.2 i (by rw [hall] at hi; simp; omega)
      rw [show 0 + (i + 1) = 1 + i by omega, this]
      rfl
  have hnr : I1 370 5 = nI (T.w0.rf + T.w1.rf) := h1.1.2.2.2.2.1
  obtain ⟨rm, q1, q2, q3, q4, q5, q6, q7, q8, q9, q10⟩ := hw
  have hFl : (wf_all c kd pl dat).length ≤ 45 := by omega
  rw [e_X9_send]
  simp (disch := first | assumption | omega) only [m_is M, m_gI M, m_pI M, mR7 M, mL371 M, mW371 M, mR8 M, mL372 M, mW372 M, mR9 M, mL373 M, mW373 M, mR10 M, mL374 M, mW374 M, mR11 M, mL375 M, mW375 M, mR12 M, mL376 M, mW376_0 M, mW376_1 M, mR13 M, mL377 M, mW377 M, mR14 M, mL378 M, mW378 M, mR15 M, mL379 M, mW379 M, mR16 M, mL380 M, mW380 M, mR17 M, mL381 M, mW381 M, mR18 M, mL382 M, mW382 M, mR19 M, mL383 M, mW383_0 M, mW383_1 M, mR20 M, mL384 M, mW384_0 M, mW384_1 M, mR21 M, mL385 M, mW385 M, mR22 M, mL386 M, mW386 M, mR23 M, mL387 M, mW387 M, mR26 M, mL388 M, mW388 M, mR27 M, mL389 M, mW389 M, mR28 M, mL390 M, mW390 M, mR29 M, mL391 M, mW391 M, mR30 M, mL392 M, mW392 M, mR31 M, mL393 M, mW393 M, mR32 M, mL394 M, mW394_0 M, mW394_1 M, mR33 M, mL395 M, mW395_0 M, mW395_1 M, mR34 M, mL396 M, mW396 M, mR35 M, mL397 M, mW397 M, mR36 M, mL398 M, mW398 M, mR37 M, mL399 M, mW399 M, mR38 M, mL400 M, mW400 M, mR39 M, mL401 M, mW401 M, mR40 M, mL402 M, mW402 M, mR41 M, mL403 M, mW403 M, mR42 M, mL404 M, mW404 M, mR43 M, mL405 M, mW405 M, mR44 M, mL406 M, mW406 M, mR45 M, mL407 M, mW407 M, mR46 M, mL408 M, mW408 M, mR47 M, mL409 M, mW409 M, mR48 M, mL410 M, mW410 M, Option.bind_some, pm_u, pm_ur, pm_lt, pm_le, pm_eq, pm_ne, pm_add, pm_sub, pm_mul, pm_z0, pm_z1, cond_true, cond_false, decide_true, decide_false, not_false_eq_true, not_true_eq_false, reduceIte, Nat.reduceEqDiff, Nat.add_eq_left, Nat.left_eq_add, Nat.add_left_cancel_iff, Nat.one_ne_zero, Nat.reduceMul, Nat.reduceAdd, Nat.reduceSub, Nat.reduceEqDiff, Nat.reduceLT, Nat.reduceLeDiff, am_cs, x1']
  rw [hsum, e_l_X9_send_14]
  simp (disch := first | assumption | omega) only [m_is M, m_gI M, m_pI M, mR7 M, mL371 M, mW371 M, mR8 M, mL372 M, mW372 M, mR9 M, mL373 M, mW373 M, mR10 M, mL374 M, mW374 M, mR11 M, mL375 M, mW375 M, mR12 M, mL376 M, mW376_0 M, mW376_1 M, mR13 M, mL377 M, mW377 M, mR14 M, mL378 M, mW378 M, mR15 M, mL379 M, mW379 M, mR16 M, mL380 M, mW380 M, mR17 M, mL381 M, mW381 M, mR18 M, mL382 M, mW382 M, mR19 M, mL383 M, mW383_0 M, mW383_1 M, mR20 M, mL384 M, mW384_0 M, mW384_1 M, mR21 M, mL385 M, mW385 M, mR22 M, mL386 M, mW386 M, mR23 M, mL387 M, mW387 M, mR26 M, mL388 M, mW388 M, mR27 M, mL389 M, mW389 M, mR28 M, mL390 M, mW390 M, mR29 M, mL391 M, mW391 M, mR30 M, mL392 M, mW392 M, mR31 M, mL393 M, mW393 M, mR32 M, mL394 M, mW394_0 M, mW394_1 M, mR33 M, mL395 M, mW395_0 M, mW395_1 M, mR34 M, mL396 M, mW396 M, mR35 M, mL397 M, mW397 M, mR36 M, mL398 M, mW398 M, mR37 M, mL399 M, mW399 M, mR38 M, mL400 M, mW400 M, mR39 M, mL401 M, mW401 M, mR40 M, mL402 M, mW402 M, mR41 M, mL403 M, mW403 M, mR42 M, mL404 M, mW404 M, mR43 M, mL405 M, mW405 M, mR44 M, mL406 M, mW406 M, mR45 M, mL407 M, mW407 M, mR46 M, mL408 M, mW408 M, mR47 M, mL409 M, mW409 M, mR48 M, mL410 M, mW410 M, Option.bind_some, pm_u, pm_ur, pm_lt, pm_le, pm_eq, pm_ne, pm_add, pm_sub, pm_mul, pm_z0, pm_z1, cond_true, cond_false, decide_true, decide_false, not_false_eq_true, not_true_eq_false, reduceIte, Nat.reduceEqDiff, Nat.add_eq_left, Nat.left_eq_add, Nat.add_left_cancel_iff, Nat.one_ne_zero, Nat.reduceMul, Nat.reduceAdd, Nat.reduceSub, Nat.reduceEqDiff, Nat.reduceLT, Nat.reduceLeDiff, am_cs, x1', Nat.le_refl, hand, p1, a1, q2]
  generalize hW : tW T e = W at *
  generalize hFF : wf_all c kd pl dat = F at *
  unfold sWy.send
  by_cases c1 : W.q.length + F.length ≤ 2000
  · rw [if_pos c1]
    have hrf : (tSW T e (W.q ++ F, W.fs ++ [F.length], W.ar, W.rf)).w0.rf + (tSW T e (W.q ++ F, W.fs ++ [F.length], W.ar, W.rf)).w1.rf = T.w0.rf + T.w1.rf := by
      rw [← hW]
      unfold tSW tW
      by_cases ee : e = 0
      · rw [if_pos ee, if_pos ee]; rfl
      · rw [if_neg ee, if_neg ee]; rfl
    by_cases c2 : rm + W.q.length + F.length ≤ 4200
    · obtain ⟨I2, k1, k2, k3, k4⟩ := m_send176 (J := J) (rm := rm) M he hFl (by omega) hall0 q10 c1 c2 d F.length 0 I1 (Nat.zero_add _) q1 q2 q3 q4 (by simpa using q8) q9 a1 a2
      simp (disch := first | assumption | omega) only [m_is M, m_gI M, m_pI M, mR7 M, mL371 M, mW371 M, mR8 M, mL372 M, mW372 M, mR9 M, mL373 M, mW373 M, mR10 M, mL374 M, mW374 M, mR11 M, mL375 M, mW375 M, mR12 M, mL376 M, mW376_0 M, mW376_1 M, mR13 M, mL377 M, mW377 M, mR14 M, mL378 M, mW378 M, mR15 M, mL379 M, mW379 M, mR16 M, mL380 M, mW380 M, mR17 M, mL381 M, mW381 M, mR18 M, mL382 M, mW382 M, mR19 M, mL383 M, mW383_0 M, mW383_1 M, mR20 M, mL384 M, mW384_0 M, mW384_1 M, mR21 M, mL385 M, mW385 M, mR22 M, mL386 M, mW386 M, mR23 M, mL387 M, mW387 M, mR26 M, mL388 M, mW388 M, mR27 M, mL389 M, mW389 M, mR28 M, mL390 M, mW390 M, mR29 M, mL391 M, mW391 M, mR30 M, mL392 M, mW392 M, mR31 M, mL393 M, mW393 M, mR32 M, mL394 M, mW394_0 M, mW394_1 M, mR33 M, mL395 M, mW395_0 M, mW395_1 M, mR34 M, mL396 M, mW396 M, mR35 M, mL397 M, mW397 M, mR36 M, mL398 M, mW398 M, mR37 M, mL399 M, mW399 M, mR38 M, mL400 M, mW400 M, mR39 M, mL401 M, mW401 M, mR40 M, mL402 M, mW402 M, mR41 M, mL403 M, mW403 M, mR42 M, mL404 M, mW404 M, mR43 M, mL405 M, mW405 M, mR44 M, mL406 M, mW406 M, mR45 M, mL407 M, mW407 M, mR46 M, mL408 M, mW408 M, mR47 M, mL409 M, mW409 M, mR48 M, mL410 M, mW410 M, Option.bind_some, pm_u, pm_ur, pm_lt, pm_le, pm_eq, pm_ne, pm_add, pm_sub, pm_mul, pm_z0, pm_z1, cond_true, cond_false, decide_true, decide_false, not_false_eq_true, not_true_eq_false, reduceIte, Nat.reduceEqDiff, Nat.add_eq_left, Nat.left_eq_add, Nat.add_left_cancel_iff, Nat.one_ne_zero, Nat.reduceMul, Nat.reduceAdd, Nat.reduceSub, Nat.reduceEqDiff, Nat.reduceLT, Nat.reduceLeDiff, am_cs, c1, q1, c2]
      rw [e_l_X9_send_156]
      simp (disch := first | assumption | omega) only [m_is M, m_gI M, m_pI M, mR7 M, mL371 M, mW371 M, mR8 M, mL372 M, mW372 M, mR9 M, mL373 M, mW373 M, mR10 M, mL374 M, mW374 M, mR11 M, mL375 M, mW375 M, mR12 M, mL376 M, mW376_0 M, mW376_1 M, mR13 M, mL377 M, mW377 M, mR14 M, mL378 M, mW378 M, mR15 M, mL379 M, mW379 M, mR16 M, mL380 M, mW380 M, mR17 M, mL381 M, mW381 M, mR18 M, mL382 M, mW382 M, mR19 M, mL383 M, mW383_0 M, mW383_1 M, mR20 M, mL384 M, mW384_0 M, mW384_1 M, mR21 M, mL385 M, mW385 M, mR22 M, mL386 M, mW386 M, mR23 M, mL387 M, mW387 M, mR26 M, mL388 M, mW388 M, mR27 M, mL389 M, mW389 M, mR28 M, mL390 M, mW390 M, mR29 M, mL391 M, mW391 M, mR30 M, mL392 M, mW392 M, mR31 M, mL393 M, mW393 M, mR32 M, mL394 M, mW394_0 M, mW394_1 M, mR33 M, mL395 M, mW395_0 M, mW395_1 M, mR34 M, mL396 M, mW396 M, mR35 M, mL397 M, mW397 M, mR36 M, mL398 M, mW398 M, mR37 M, mL399 M, mW399 M, mR38 M, mL400 M, mW400 M, mR39 M, mL401 M, mW401 M, mR40 M, mL402 M, mW402 M, mR41 M, mL403 M, mW403 M, mR42 M, mL404 M, mW404 M, mR43 M, mL405 M, mW405 M, mR44 M, mL406 M, mW406 M, mR45 M, mL407 M, mW407 M, mR46 M, mL408 M, mW408 M, mR47 M, mL409 M, mW409 M, mR48 M, mL410 M, mW410 M, Option.bind_some, pm_u, pm_ur, pm_lt, pm_le, pm_eq, pm_ne, pm_add, pm_sub, pm_mul, pm_z0, pm_z1, cond_true, cond_false, decide_true, decide_false, not_false_eq_true, not_true_eq_false, reduceIte, Nat.reduceEqDiff, Nat.add_eq_left, Nat.left_eq_add, Nat.add_left_cancel_iff, Nat.one_ne_zero, Nat.reduceMul, Nat.reduceAdd, Nat.reduceSub, Nat.reduceEqDiff, Nat.reduceLT, Nat.reduceLeDiff, am_cs, q1, q2]
      refine ⟨I2, k1, mt_way he h1 k3 k2 ?_, (mxf_mq f1).trans k3.1⟩
      rw [k4, hnr, hrf]
    · obtain ⟨I2, k1, k2, k3, k4⟩ := m_send107 (J := J) (rm := rm) M he hFl (by omega) hall0 q10 c1 q5 d W.q.length 0 I1 (Nat.zero_add _) q1 q2 q3 q4 (fun k hk => absurd hk (by omega)) (fun k _ hk => q8 k hk) q9 a1 a2
      simp (disch := first | assumption | omega) only [m_is M, m_gI M, m_pI M, mR7 M, mL371 M, mW371 M, mR8 M, mL372 M, mW372 M, mR9 M, mL373 M, mW373 M, mR10 M, mL374 M, mW374 M, mR11 M, mL375 M, mW375 M, mR12 M, mL376 M, mW376_0 M, mW376_1 M, mR13 M, mL377 M, mW377 M, mR14 M, mL378 M, mW378 M, mR15 M, mL379 M, mW379 M, mR16 M, mL380 M, mW380 M, mR17 M, mL381 M, mW381 M, mR18 M, mL382 M, mW382 M, mR19 M, mL383 M, mW383_0 M, mW383_1 M, mR20 M, mL384 M, mW384_0 M, mW384_1 M, mR21 M, mL385 M, mW385 M, mR22 M, mL386 M, mW386 M, mR23 M, mL387 M, mW387 M, mR26 M, mL388 M, mW388 M, mR27 M, mL389 M, mW389 M, mR28 M, mL390 M, mW390 M, mR29 M, mL391 M, mW391 M, mR30 M, mL392 M, mW392 M, mR31 M, mL393 M, mW393 M, mR32 M, mL394 M, mW394_0 M, mW394_1 M, mR33 M, mL395 M, mW395_0 M, mW395_1 M, mR34 M, mL396 M, mW396 M, mR35 M, mL397 M, mW397 M, mR36 M, mL398 M, mW398 M, mR37 M, mL399 M, mW399 M, mR38 M, mL400 M, mW400 M, mR39 M, mL401 M, mW401 M, mR40 M, mL402 M, mW402 M, mR41 M, mL403 M, mW403 M, mR42 M, mL404 M, mW404 M, mR43 M, mL405 M, mW405 M, mR44 M, mL406 M, mW406 M, mR45 M, mL407 M, mW407 M, mR46 M, mL408 M, mW408 M, mR47 M, mL409 M, mW409 M, mR48 M, mL410 M, mW410 M, Option.bind_some, pm_u, pm_ur, pm_lt, pm_le, pm_eq, pm_ne, pm_add, pm_sub, pm_mul, pm_z0, pm_z1, cond_true, cond_false, decide_true, decide_false, not_false_eq_true, not_true_eq_false, reduceIte, Nat.reduceEqDiff, Nat.add_eq_left, Nat.left_eq_add, Nat.add_left_cancel_iff, Nat.one_ne_zero, Nat.reduceMul, Nat.reduceAdd, Nat.reduceSub, Nat.reduceEqDiff, Nat.reduceLT, Nat.reduceLeDiff, am_cs, c1, q1, c2]
      refine ⟨I2, k1, mt_way he h1 k3 k2 ?_, (mxf_mq f1).trans k3.1⟩
      rw [k4, hnr, hrf]
  · rw [if_neg c1]
    have hrf : (tSW T e (W.q, W.fs, W.ar, W.rf + 1)).w0.rf + (tSW T e (W.q, W.fs, W.ar, W.rf + 1)).w1.rf = T.w0.rf + T.w1.rf + 1 := by
      rw [← hW]
      unfold tSW tW
      by_cases ee : e = 0
      · rw [if_pos ee, if_pos ee]
        show T.w0.rf + 1 + T.w1.rf = _
        omega
      · rw [if_neg ee, if_neg ee]
        show T.w0.rf + (T.w1.rf + 1) = _
        omega
    have k3 : mwf I1 (am_u I1 370 5 (nI (T.w0.rf + T.w1.rf + 1))) e := ⟨fun a h1 _ _ => am_u_ne _ _ h1, fun j _ => by rw [am_u_ne _ _ (by omega)], fun j _ => by rw [am_u_ne _ _ (by omega)], fun a j _ _ => by rw [am_u_ne _ _ (by omega)], fun j _ h5 => by rw [am_u_self, if_neg h5]⟩
    simp (disch := first | assumption | omega) only [m_is M, m_gI M, m_pI M, mR7 M, mL371 M, mW371 M, mR8 M, mL372 M, mW372 M, mR9 M, mL373 M, mW373 M, mR10 M, mL374 M, mW374 M, mR11 M, mL375 M, mW375 M, mR12 M, mL376 M, mW376_0 M, mW376_1 M, mR13 M, mL377 M, mW377 M, mR14 M, mL378 M, mW378 M, mR15 M, mL379 M, mW379 M, mR16 M, mL380 M, mW380 M, mR17 M, mL381 M, mW381 M, mR18 M, mL382 M, mW382 M, mR19 M, mL383 M, mW383_0 M, mW383_1 M, mR20 M, mL384 M, mW384_0 M, mW384_1 M, mR21 M, mL385 M, mW385 M, mR22 M, mL386 M, mW386 M, mR23 M, mL387 M, mW387 M, mR26 M, mL388 M, mW388 M, mR27 M, mL389 M, mW389 M, mR28 M, mL390 M, mW390 M, mR29 M, mL391 M, mW391 M, mR30 M, mL392 M, mW392 M, mR31 M, mL393 M, mW393 M, mR32 M, mL394 M, mW394_0 M, mW394_1 M, mR33 M, mL395 M, mW395_0 M, mW395_1 M, mR34 M, mL396 M, mW396 M, mR35 M, mL397 M, mW397 M, mR36 M, mL398 M, mW398 M, mR37 M, mL399 M, mW399 M, mR38 M, mL400 M, mW400 M, mR39 M, mL401 M, mW401 M, mR40 M, mL402 M, mW402 M, mR41 M, mL403 M, mW403 M, mR42 M, mL404 M, mW404 M, mR43 M, mL405 M, mW405 M, mR44 M, mL406 M, mW406 M, mR45 M, mL407 M, mW407 M, mR46 M, mL408 M, mW408 M, mR47 M, mL409 M, mW409 M, mR48 M, mL410 M, mW410 M, Option.bind_some, pm_u, pm_ur, pm_lt, pm_le, pm_eq, pm_ne, pm_add, pm_sub, pm_mul, pm_z0, pm_z1, cond_true, cond_false, decide_true, decide_false, not_false_eq_true, not_true_eq_false, reduceIte, Nat.reduceEqDiff, Nat.add_eq_left, Nat.left_eq_add, Nat.add_left_cancel_iff, Nat.one_ne_zero, Nat.reduceMul, Nat.reduceAdd, Nat.reduceSub, Nat.reduceEqDiff, Nat.reduceLT, Nat.reduceLeDiff, am_cs, c1, hnr]
    refine ⟨_, rfl, mt_way he h1 k3 ⟨rm, ?_, ?_, ?_, ?_, q5, q6, q7, ?_, ?_, q10⟩ ?_, (mxf_mq f1).trans k3.1⟩
    · rw [am_u_ne _ _ (by omega)]; exact q1
    · rw [am_u_ne _ _ (by omega)]; exact q2
    · rw [am_u_ne _ _ (by omega)]; exact q3
    · rw [am_u_ne _ _ (by omega)]; exact q4
    · exact wl_congr (b := 0) q8 (am_u_ne _ _ (by omega))
    · exact wl_congr (b := 0) q9 (am_u_ne _ _ (by omega))
    · rw [hrf]
      simp [pm_u]
/-- what is sent on way e -/
def tSend (T : sT) (e : Nat) (fr : List Nat) : sT := tSW T e ((tW T e).send fr)
theorem m_sendPlain (M : ml_ok K) {e c kd pl : Nat} (he : e ≤ 1) (h : mt_at I J p T) (hc : c < 256) (hk : kd < 256) (hp : pl < 256) (d : Nat) :
    ∃ I' : pm_I, f_X9_sendPlain (d + 2) 370 (nI e) (nI c) (nI kd) (nI pl) (K, I, J) = some ((0, 0, none), (K, I', J)) ∧ mt_at I' J p (tSend T e (wf_all c kd pl [])) ∧ mq_at I I' := by
  obtain ⟨I1, a1, a2, a3⟩ := m_frameOf (I := I) (J := J) (c := c) (kd := kd) (pl := pl) M (d + 1)
  obtain ⟨I2, b1, b2, b3⟩ := m_send (dat := []) M he (mt_mxf h a3) a2 hc hk hp (by simp) (by simp) d
  rw [e_X9_sendPlain]
  simp (disch := first | assumption | omega) only [m_is M, m_gI M, m_pI M, mR7 M, mL371 M, mW371 M, mR8 M, mL372 M, mW372 M, mR9 M, mL373 M, mW373 M, mR10 M, mL374 M, mW374 M, mR11 M, mL375 M, mW375 M, mR12 M, mL376 M, mW376_0 M, mW376_1 M, mR13 M, mL377 M, mW377 M, mR14 M, mL378 M, mW378 M, mR15 M, mL379 M, mW379 M, mR16 M, mL380 M, mW380 M, mR17 M, mL381 M, mW381 M, mR18 M, mL382 M, mW382 M, mR19 M, mL383 M, mW383_0 M, mW383_1 M, mR20 M, mL384 M, mW384_0 M, mW384_1 M, mR21 M, mL385 M, mW385 M, mR22 M, mL386 M, mW386 M, mR23 M, mL387 M, mW387 M, mR26 M, mL388 M, mW388 M, mR27 M, mL389 M, mW389 M, mR28 M, mL390 M, mW390 M, mR29 M, mL391 M, mW391 M, mR30 M, mL392 M, mW392 M, mR31 M, mL393 M, mW393 M, mR32 M, mL394 M, mW394_0 M, mW394_1 M, mR33 M, mL395 M, mW395_0 M, mW395_1 M, mR34 M, mL396 M, mW396 M, mR35 M, mL397 M, mW397 M, mR36 M, mL398 M, mW398 M, mR37 M, mL399 M, mW399 M, mR38 M, mL400 M, mW400 M, mR39 M, mL401 M, mW401 M, mR40 M, mL402 M, mW402 M, mR41 M, mL403 M, mW403 M, mR42 M, mL404 M, mW404 M, mR43 M, mL405 M, mW405 M, mR44 M, mL406 M, mW406 M, mR45 M, mL407 M, mW407 M, mR46 M, mL408 M, mW408 M, mR47 M, mL409 M, mW409 M, mR48 M, mL410 M, mW410 M, Option.bind_some, pm_u, pm_ur, pm_lt, pm_le, pm_eq, pm_ne, pm_add, pm_sub, pm_mul, pm_z0, pm_z1, cond_true, cond_false, decide_true, decide_false, not_false_eq_true, not_true_eq_false, reduceIte, Nat.reduceEqDiff, Nat.add_eq_left, Nat.left_eq_add, Nat.add_left_cancel_iff, Nat.one_ne_zero, Nat.reduceMul, Nat.reduceAdd, Nat.reduceSub, Nat.reduceEqDiff, Nat.reduceLT, Nat.reduceLeDiff, am_cs, a1, b1]
  exact ⟨I2, rfl, b2, (mxf_mq a3).trans b3⟩
theorem m_sendByte (M : ml_ok K) {e c kd pl b : Nat} (he : e ≤ 1) (h : mt_at I J p T) (hc : c < 256) (hk : kd < 256) (hp : pl < 256) (hb : b < 256) (d : Nat) :
    ∃ I' : pm_I, f_X9_sendByte (d + 2) 370 (nI e) (nI c) (nI kd) (nI pl) (nI b) (K, I, J) = some ((0, 0, none), (K, I', J)) ∧ mt_at I' J p (tSend T e (wf_all c kd pl [b])) ∧ mq_at I I' := by
  obtain ⟨I1, a1, a2, a3⟩ := m_frameOf (I := I) (J := J) (c := c) (kd := kd) (pl := pl) M (d + 1)
  obtain ⟨I2, p1, p2, p3, p4⟩ := m_put (J := J) (b := b) M a2 (by simp) (d + 1)
  obtain ⟨I3, b1, b2, b3⟩ := m_send (dat := [b]) M he (mt_mxf h (a3.trans p3)) p2 hc hk hp (by simpa using hb) (by simp) d
  rw [e_X9_sendByte]
  simp (disch := first | assumption | omega) only [m_is M, m_gI M, m_pI M, mR7 M, mL371 M, mW371 M, mR8 M, mL372 M, mW372 M, mR9 M, mL373 M, mW373 M, mR10 M, mL374 M, mW374 M, mR11 M, mL375 M, mW375 M, mR12 M, mL376 M, mW376_0 M, mW376_1 M, mR13 M, mL377 M, mW377 M, mR14 M, mL378 M, mW378 M, mR15 M, mL379 M, mW379 M, mR16 M, mL380 M, mW380 M, mR17 M, mL381 M, mW381 M, mR18 M, mL382 M, mW382 M, mR19 M, mL383 M, mW383_0 M, mW383_1 M, mR20 M, mL384 M, mW384_0 M, mW384_1 M, mR21 M, mL385 M, mW385 M, mR22 M, mL386 M, mW386 M, mR23 M, mL387 M, mW387 M, mR26 M, mL388 M, mW388 M, mR27 M, mL389 M, mW389 M, mR28 M, mL390 M, mW390 M, mR29 M, mL391 M, mW391 M, mR30 M, mL392 M, mW392 M, mR31 M, mL393 M, mW393 M, mR32 M, mL394 M, mW394_0 M, mW394_1 M, mR33 M, mL395 M, mW395_0 M, mW395_1 M, mR34 M, mL396 M, mW396 M, mR35 M, mL397 M, mW397 M, mR36 M, mL398 M, mW398 M, mR37 M, mL399 M, mW399 M, mR38 M, mL400 M, mW400 M, mR39 M, mL401 M, mW401 M, mR40 M, mL402 M, mW402 M, mR41 M, mL403 M, mW403 M, mR42 M, mL404 M, mW404 M, mR43 M, mL405 M, mW405 M, mR44 M, mL406 M, mW406 M, mR45 M, mL407 M, mW407 M, mR46 M, mL408 M, mW408 M, mR47 M, mL409 M, mW409 M, mR48 M, mL410 M, mW410 M, Option.bind_some, pm_u, pm_ur, pm_lt, pm_le, pm_eq, pm_ne, pm_add, pm_sub, pm_mul, pm_z0, pm_z1, cond_true, cond_false, decide_true, decide_false, not_false_eq_true, not_true_eq_false, reduceIte, Nat.reduceEqDiff, Nat.add_eq_left, Nat.left_eq_add, Nat.add_left_cancel_iff, Nat.one_ne_zero, Nat.reduceMul, Nat.reduceAdd, Nat.reduceSub, Nat.reduceEqDiff, Nat.reduceLT, Nat.reduceLeDiff, am_cs, a1, p1, b1]
  exact ⟨I3, rfl, b2, (mxf_mq (a3.trans p3)).trans b3⟩
theorem m_longLoop (M : ml_ok K) (v : Int64) (d : Nat) : ∀ (n i : Nat) (I : pm_I) (l : List Nat), i + n = 8 → l.length = 3 + i → mx_at I l →
    ∃ I' : pm_I, l_X9_putLong_3 (d + 1) 370 v (if i = 8 then -nI 8 else nI (56 - 8 * i)) (K, I, J) = some ((0, 0, none), (K, I', J)) ∧ mx_at I' (l ++ (lb_long v).drop i) ∧ mxf I I' := by
  intro n
  induction n with
  | zero =>
    intro i I l hi hl hx
    obtain rfl : i = 8 := by omega
    rw [if_pos rfl, e_l_X9_putLong_3]
    have c0 : -nI 8 < nI 0 := by decide +kernel
    simp (disch := first | assumption | omega) only [m_is M, m_gI M, m_pI M, mR7 M, mL371 M, mW371 M, mR8 M, mL372 M, mW372 M, mR9 M, mL373 M, mW373 M, mR10 M, mL374 M, mW374 M, mR11 M, mL375 M, mW375 M, mR12 M, mL376 M, mW376_0 M, mW376_1 M, mR13 M, mL377 M, mW377 M, mR14 M, mL378 M, mW378 M, mR15 M, mL379 M, mW379 M, mR16 M, mL380 M, mW380 M, mR17 M, mL381 M, mW381 M, mR18 M, mL382 M, mW382 M, mR19 M, mL383 M, mW383_0 M, mW383_1 M, mR20 M, mL384 M, mW384_0 M, mW384_1 M, mR21 M, mL385 M, mW385 M, mR22 M, mL386 M, mW386 M, mR23 M, mL387 M, mW387 M, mR26 M, mL388 M, mW388 M, mR27 M, mL389 M, mW389 M, mR28 M, mL390 M, mW390 M, mR29 M, mL391 M, mW391 M, mR30 M, mL392 M, mW392 M, mR31 M, mL393 M, mW393 M, mR32 M, mL394 M, mW394_0 M, mW394_1 M, mR33 M, mL395 M, mW395_0 M, mW395_1 M, mR34 M, mL396 M, mW396 M, mR35 M, mL397 M, mW397 M, mR36 M, mL398 M, mW398 M, mR37 M, mL399 M, mW399 M, mR38 M, mL400 M, mW400 M, mR39 M, mL401 M, mW401 M, mR40 M, mL402 M, mW402 M, mR41 M, mL403 M, mW403 M, mR42 M, mL404 M, mW404 M, mR43 M, mL405 M, mW405 M, mR44 M, mL406 M, mW406 M, mR45 M, mL407 M, mW407 M, mR46 M, mL408 M, mW408 M, mR47 M, mL409 M, mW409 M, mR48 M, mL410 M, mW410 M, Option.bind_some, pm_u, pm_ur, pm_lt, pm_le, pm_eq, pm_ne, pm_add, pm_sub, pm_mul, pm_z0, pm_z1, cond_true, cond_false, decide_true, decide_false, not_false_eq_true, not_true_eq_false, reduceIte, Nat.reduceEqDiff, Nat.add_eq_left, Nat.left_eq_add, Nat.add_left_cancel_iff, Nat.one_ne_zero, Nat.reduceMul, Nat.reduceAdd, Nat.reduceSub, Nat.reduceEqDiff, Nat.reduceLT, Nat.reduceLeDiff, am_cs, c0]
    refine ⟨I, rfl, ?_, mxf.refl _⟩
    rw [List.drop_of_length_le (show (lb_long v).length ≤ 8 from Nat.le_refl 8), List.append_nil]
    exact hx
  | succ n ih =>
    intro i I l hi hl hx
    obtain ⟨I1, p1, p2, p3, p4⟩ := m_put (J := J) (b := lb_byte v i) M hx (by omega) d
    obtain ⟨I2, k1, k2, k3⟩ := ih (i + 1) I1 (l ++ [lb_byte v i]) (by omega) (by simp; omega) p2
    have c0 : ¬ 56 - 8 * i < 0 := by omega
    have hst : nI (56 - 8 * i) - nI 8 = if i + 1 = 8 then -nI 8 else nI (56 - 8 * (i + 1)) := by
      by_cases c : i + 1 = 8
      · rw [if_pos c]
        obtain rfl : i = 7 := by omega
        decide +kernel
      · rw [if_neg c, pm_sub (by omega), show 56 - 8 * i - 8 = 56 - 8 * (i + 1) by omega]
    rw [if_neg (by omega), e_l_X9_putLong_3, lb_model v i (by omega), hst]
    rw [pm_lt (by omega) (by omega), decide_eq_false c0]
    generalize (if i + 1 = 8 then -nI 8 else nI (56 - 8 * (i + 1))) = z at *
    simp (disch := first | assumption | omega) only [m_is M, m_gI M, m_pI M, mR7 M, mL371 M, mW371 M, mR8 M, mL372 M, mW372 M, mR9 M, mL373 M, mW373 M, mR10 M, mL374 M, mW374 M, mR11 M, mL375 M, mW375 M, mR12 M, mL376 M, mW376_0 M, mW376_1 M, mR13 M, mL377 M, mW377 M, mR14 M, mL378 M, mW378 M, mR15 M, mL379 M, mW379 M, mR16 M, mL380 M, mW380 M, mR17 M, mL381 M, mW381 M, mR18 M, mL382 M, mW382 M, mR19 M, mL383 M, mW383_0 M, mW383_1 M, mR20 M, mL384 M, mW384_0 M, mW384_1 M, mR21 M, mL385 M, mW385 M, mR22 M, mL386 M, mW386 M, mR23 M, mL387 M, mW387 M, mR26 M, mL388 M, mW388 M, mR27 M, mL389 M, mW389 M, mR28 M, mL390 M, mW390 M, mR29 M, mL391 M, mW391 M, mR30 M, mL392 M, mW392 M, mR31 M, mL393 M, mW393 M, mR32 M, mL394 M, mW394_0 M, mW394_1 M, mR33 M, mL395 M, mW395_0 M, mW395_1 M, mR34 M, mL396 M, mW396 M, mR35 M, mL397 M, mW397 M, mR36 M, mL398 M, mW398 M, mR37 M, mL399 M, mW399 M, mR38 M, mL400 M, mW400 M, mR39 M, mL401 M, mW401 M, mR40 M, mL402 M, mW402 M, mR41 M, mL403 M, mW403 M, mR42 M, mL404 M, mW404 M, mR43 M, mL405 M, mW405 M, mR44 M, mL406 M, mW406 M, mR45 M, mL407 M, mW407 M, mR46 M, mL408 M, mW408 M, mR47 M, mL409 M, mW409 M, mR48 M, mL410 M, mW410 M, Option.bind_some, pm_u, pm_ur, pm_lt, pm_le, pm_eq, pm_ne, pm_add, pm_sub, pm_mul, pm_z0, pm_z1, cond_true, cond_false, decide_true, decide_false, not_false_eq_true, not_true_eq_false, reduceIte, Nat.reduceEqDiff, Nat.add_eq_left, Nat.left_eq_add, Nat.add_left_cancel_iff, Nat.one_ne_zero, Nat.reduceMul, Nat.reduceAdd, Nat.reduceSub, Nat.reduceEqDiff, Nat.reduceLT, Nat.reduceLeDiff, am_cs, p1]
    refine ⟨I2, k1, ?_, p3.trans k3⟩
    rw [wl_drop_cons (show i < (lb_long v).length by show i < 8; omega), lb_get v i (by omega)]
    rw [List.append_assoc] at k2
    exact k2
theorem m_sendLong (M : ml_ok K) {e c kd pl : Nat} (v : Int64) (he : e ≤ 1) (h : mt_at I J p T) (hc : c < 256) (hk : kd < 256) (hp : pl < 256) (d : Nat) :
    ∃ I' : pm_I, f_X9_sendLong (d + 2) 370 (nI e) (nI c) (nI kd) (nI pl) v (K, I, J) = some ((0, 0, none), (K, I', J)) ∧ mt_at I' J p (tSend T e (wf_all c kd pl (lb_long v))) ∧ mq_at I I' := by
  obtain ⟨I1, a1, a2, a3⟩ := m_frameOf (I := I) (J := J) (c := c) (kd := kd) (pl := pl) M (d + 1)
  obtain ⟨I2, p1, p2, p3⟩ := m_longLoop (J := J) M v d 8 0 I1 [c, kd, pl] rfl rfl a2
  rw [if_neg (by omega)] at p1
  obtain ⟨I3, b1, b2, b3⟩ := m_send (dat := lb_long v) M he (mt_mxf h (a3.trans p3)) p2 hc hk hp (lb_long_bd v) (by show 8 ≤ 40; omega) d
  have p1' : f_X9_putLong (d + 1) 370 v (K, I1, J) = some ((0, 0, none), (K, I2, J)) := by
    rw [e_X9_putLong]
    exact p1
  rw [e_X9_sendLong]
  simp (disch := first | assumption | omega) only [m_is M, m_gI M, m_pI M, mR7 M, mL371 M, mW371 M, mR8 M, mL372 M, mW372 M, mR9 M, mL373 M, mW373 M, mR10 M, mL374 M, mW374 M, mR11 M, mL375 M, mW375 M, mR12 M, mL376 M, mW376_0 M, mW376_1 M, mR13 M, mL377 M, mW377 M, mR14 M, mL378 M, mW378 M, mR15 M, mL379 M, mW379 M, mR16 M, mL380 M, mW380 M, mR17 M, mL381 M, mW381 M, mR18 M, mL382 M, mW382 M, mR19 M, mL383 M, mW383_0 M, mW383_1 M, mR20 M, mL384 M, mW384_0 M, mW384_1 M, mR21 M, mL385 M, mW385 M, mR22 M, mL386 M, mW386 M, mR23 M, mL387 M, mW387 M, mR26 M, mL388 M, mW388 M, mR27 M, mL389 M, mW389 M, mR28 M, mL390 M, mW390 M, mR29 M, mL391 M, mW391 M, mR30 M, mL392 M, mW392 M, mR31 M, mL393 M, mW393 M, mR32 M, mL394 M, mW394_0 M, mW394_1 M, mR33 M, mL395 M, mW395_0 M, mW395_1 M, mR34 M, mL396 M, mW396 M, mR35 M, mL397 M, mW397 M, mR36 M, mL398 M, mW398 M, mR37 M, mL399 M, mW399 M, mR38 M, mL400 M, mW400 M, mR39 M, mL401 M, mW401 M, mR40 M, mL402 M, mW402 M, mR41 M, mL403 M, mW403 M, mR42 M, mL404 M, mW404 M, mR43 M, mL405 M, mW405 M, mR44 M, mL406 M, mW406 M, mR45 M, mL407 M, mW407 M, mR46 M, mL408 M, mW408 M, mR47 M, mL409 M, mW409 M, mR48 M, mL410 M, mW410 M, Option.bind_some, pm_u, pm_ur, pm_lt, pm_le, pm_eq, pm_ne, pm_add, pm_sub, pm_mul, pm_z0, pm_z1, cond_true, cond_false, decide_true, decide_false, not_false_eq_true, not_true_eq_false, reduceIte, Nat.reduceEqDiff, Nat.add_eq_left, Nat.left_eq_add, Nat.add_left_cancel_iff, Nat.one_ne_zero, Nat.reduceMul, Nat.reduceAdd, Nat.reduceSub, Nat.reduceEqDiff, Nat.reduceLT, Nat.reduceLeDiff, am_cs, a1, p1', b1]
  exact ⟨I3, rfl, b2, (mxf_mq (a3.trans p3)).trans b3⟩
theorem m_error (M : ml_ok K) {c r : Nat} (h : mt_at I J p T) (hc : c < 256) (hr : r < 256) (d : Nat) :
    ∃ I' : pm_I, f_X9_error (d + 3) 370 (nI c) (nI r) (K, I, J) = some ((0, 0, none), (K, I', J)) ∧ mt_at I' J p (tSend T 1 (wf_all c 13 0 [r])) ∧ mq_at I I' := by
  obtain ⟨I1, a1, a2, a3⟩ := m_sendByte (e := 1) (c := c) (kd := 13) (pl := 0) (b := r) M (by omega) h hc (by omega) (by omega) hr d
  rw [e_X9_error]
  simp (disch := first | assumption | omega) only [m_is M, m_gI M, m_pI M, mR7 M, mL371 M, mW371 M, mR8 M, mL372 M, mW372 M, mR9 M, mL373 M, mW373 M, mR10 M, mL374 M, mW374 M, mR11 M, mL375 M, mW375 M, mR12 M, mL376 M, mW376_0 M, mW376_1 M, mR13 M, mL377 M, mW377 M, mR14 M, mL378 M, mW378 M, mR15 M, mL379 M, mW379 M, mR16 M, mL380 M, mW380 M, mR17 M, mL381 M, mW381 M, mR18 M, mL382 M, mW382 M, mR19 M, mL383 M, mW383_0 M, mW383_1 M, mR20 M, mL384 M, mW384_0 M, mW384_1 M, mR21 M, mL385 M, mW385 M, mR22 M, mL386 M, mW386 M, mR23 M, mL387 M, mW387 M, mR26 M, mL388 M, mW388 M, mR27 M, mL389 M, mW389 M, mR28 M, mL390 M, mW390 M, mR29 M, mL391 M, mW391 M, mR30 M, mL392 M, mW392 M, mR31 M, mL393 M, mW393 M, mR32 M, mL394 M, mW394_0 M, mW394_1 M, mR33 M, mL395 M, mW395_0 M, mW395_1 M, mR34 M, mL396 M, mW396 M, mR35 M, mL397 M, mW397 M, mR36 M, mL398 M, mW398 M, mR37 M, mL399 M, mW399 M, mR38 M, mL400 M, mW400 M, mR39 M, mL401 M, mW401 M, mR40 M, mL402 M, mW402 M, mR41 M, mL403 M, mW403 M, mR42 M, mL404 M, mW404 M, mR43 M, mL405 M, mW405 M, mR44 M, mL406 M, mW406 M, mR45 M, mL407 M, mW407 M, mR46 M, mL408 M, mW408 M, mR47 M, mL409 M, mW409 M, mR48 M, mL410 M, mW410 M, Option.bind_some, pm_u, pm_ur, pm_lt, pm_le, pm_eq, pm_ne, pm_add, pm_sub, pm_mul, pm_z0, pm_z1, cond_true, cond_false, decide_true, decide_false, not_false_eq_true, not_true_eq_false, reduceIte, Nat.reduceEqDiff, Nat.add_eq_left, Nat.left_eq_add, Nat.add_left_cancel_iff, Nat.one_ne_zero, Nat.reduceMul, Nat.reduceAdd, Nat.reduceSub, Nat.reduceEqDiff, Nat.reduceLT, Nat.reduceLeDiff, am_cs, a1]
  exact ⟨I1, rfl, a2, a3⟩
end MS2
