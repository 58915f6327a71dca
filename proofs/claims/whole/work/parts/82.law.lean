/-! THE LAW: both sides answer the same -/
theorem mt_tf {I I' : pm_I} {J J' : pm_J} {p : Nat} {T : sT} (h : mt_at I J p T) (e : tf_at I I') (g : tf_at J J') : mt_at I' J' p T := by
  obtain ⟨h1, ⟨h2, h3⟩, h4, h5, ⟨h6, h7⟩, h8⟩ := h
  refine ⟨?_, ⟨mw_congr h2 (fun x _ _ => e x (by omega)), mw_congr h3 (fun x _ _ => e x (by omega))⟩, mk_congr h4 (fun x _ _ => e x (by omega)) (fun x _ _ => g x (by omega)), mv_congr h5 (fun x _ _ => e x (by omega)) (fun x _ _ => g x (by omega)), ⟨mg_congr h6 (e _ (by omega)) (e _ (by omega)), mg_congr h7 (e _ (by omega)) (e _ (by omega))⟩, h8⟩
  unfold ms_at at *
  rw [e 370 (by omega)]
  exact h1
theorem tc_mf {I I' : pm_I} {J J' : pm_J} {p : Nat} {T : sT} (h : tc_at I J p T) (e : mf_at I I') (g : mf_at J J') : tc_at I' J' p T := by
  obtain ⟨h1, h2, ⟨h3, h4⟩, ⟨h5, h6⟩, h7⟩ := h
  refine ⟨kc_congr h1 (fun a _ => e a (by omega)) (fun a _ => g a (by omega)), sv_congr h2 (fun a _ => e a (by omega)) (fun a _ => g a (by omega)), ⟨xc_congr h3 (e _ (by omega)) (e _ (by omega)), h4⟩, ⟨xc_congr h5 (e _ (by omega)) (e _ (by omega)), h6⟩, ?_⟩
  rw [e 0 (by omega)]
  exact h7
theorem m_tickS {K : am_K} {I : pm_I} {J : pm_J} {p : Nat} {T : sT} (M : ml_ok K) (h : mt_at I J p T) (x : Int32) (d : Nat) : ∃ I' : pm_I, f_X9_tick (d + 4) 370 x (K, I, J) = some (((st_tickJ x T).1, 0, none), (K, I', J)) ∧ mt_at I' J p (st_tickJ x T).2 ∧ mf_at I I' := by
  have hm := m_tick M h x d
  have hmk := mt_mk h
  have e : st_jump (T.ck + x.toNatClampNeg) x.toNatClampNeg 0 T = mtick x.toNatClampNeg 0 T := by
    refine tick_eq _ _ 0 T (Nat.le_refl _) rfl (fun c q => ?_) (fun c hc => ?_)
    · by_cases hc : c < 30
      · have hC := h.2.2.1.1 c hc
        exact ⟨(hC.2.2.1 q).2.1, fun q2 => (hC.2.2.2.1.2 q2).2.1⟩
      · rw [h.2.2.1.2.1 c (by omega)] at q
        exact absurd q (by show ¬ (0 : Nat) = 1; omega)
    · rw [h.2.2.1.2.1 c hc]
      rfl
  unfold st_tickJ
  rw [e]
  exact hm
def lwI (L : Nat) (xs : Nat → Int32) (σ : am_H) : Prop := ∃ (p : Nat) (T : sT), tl_ok σ.1 ∧ ml_ok σ.1 ∧ am_sl σ = L ∧ am_sx σ = xs ∧ am_sh σ 411 = (2, 1) ∧ tc_at σ.2.1 σ.2.2 p T ∧ mt_at σ.2.1 σ.2.2 p T
theorem ld_S {K : am_K} {I : pm_I} {J : pm_J} {L k : Nat} {xs : Nat → Int32} (h1 : am_sl (K, I, J) = L) (h2 : am_sx (K, I, J) = xs) (hL : L ≤ 2561) (hk : k < L) : am_ldS (K, I, J) (nI k) = some (xs k) := by
  unfold am_ldS
  rw [h1, h2, pm_ix hk (by omega), Option.map_some]
def lwS (L : Nat) (xs : Nat → Int32) (i : Nat) (σ : am_H) : Prop := ∃ σ' : am_H, l_L_law_33 (10 + 1) 0 370 411 (nI i) σ = l_L_law_33 (10 + 1) 0 370 411 (nI (i + 5)) σ' ∧ lwI L xs σ' ∧ am_c σ' ≤ am_c σ + 1 ∧ am_s σ' ≤ am_s σ + 6
section LAW
variable {L i : Nat} {xs : Nat → Int32} {K : am_K} {I : pm_I} {J : pm_J}
theorem law_0 (hL : L ≤ 2561) (hi : i + 5 ≤ L) (H : lwI L xs (K, I, J)) (hm : xs i &&& nI 31 = nI 0) : lwS L xs i (K, I, J) := by
  obtain ⟨p, T, t1, m1, s1, s2, o1, h1, h2⟩ := H
  have hc : decide ((nI (am_sl (K, I, J)) - nI 5) < nI i) = false := by
    rw [s1, pm_sub (by omega), pm_lt (by omega) (by omega)]
    exact decide_eq_false (by omega)
  have l0 := ld_S (I := I) (J := J) (k := i) s1 s2 hL (by omega)
  obtain ⟨I1, J1, a1, a2, a3, a4⟩ := tc_callX t1 h1 (xs (i + 1)) (((Int32.toInt64 (xs (i + 2))) <<< (Int32.toInt64 (nI 32) &&& 63)) ||| ((Int32.toInt64 (xs (i + 3))) &&& (lN 4294967295))) 9
  have h2a := mt_tf h2 a3 a4
  obtain ⟨I2, J2, b1, b2, b3, b4⟩ := m_callX m1 h2a (xs (i + 1)) (((Int32.toInt64 (xs (i + 2))) <<< (Int32.toInt64 (nI 32) &&& 63)) ||| ((Int32.toInt64 (xs (i + 3))) &&& (lN 4294967295))) 10
  have l01 := ld_S (I := I) (J := J) (k := i + 1) s1 s2 hL (by omega)
  have l02 := ld_S (I := I) (J := J) (k := i + 2) s1 s2 hL (by omega)
  have l03 := ld_S (I := I) (J := J) (k := i + 3) s1 s2 hL (by omega)
  have l04 := ld_S (I := I) (J := J) (k := i + 4) s1 s2 hL (by omega)
  have l11 := ld_S (I := I1) (J := J1) (k := i + 1) s1 s2 hL (by omega)
  have l12 := ld_S (I := I1) (J := J1) (k := i + 2) s1 s2 hL (by omega)
  have l13 := ld_S (I := I1) (J := J1) (k := i + 3) s1 s2 hL (by omega)
  have l14 := ld_S (I := I1) (J := J1) (k := i + 4) s1 s2 hL (by omega)
  have g1 : am_is (K, I, J) 0 8 = true := pm_is t1.1
  have g2 : am_is (K, I1, J1) 370 9 = true := pm_is m1.1
  change f_X8_call 10 0 (xs (i + 1)) (((Int32.toInt64 (xs (i + 2))) <<< (Int32.toInt64 (nI 32) &&& 63)) ||| ((Int32.toInt64 (xs (i + 3))) &&& (lN 4294967295))) (K, I, J) = _ at a1
  change f_X9_call 10 370 (xs (i + 1)) (((Int32.toInt64 (xs (i + 2))) <<< (Int32.toInt64 (nI 32) &&& 63)) ||| ((Int32.toInt64 (xs (i + 3))) &&& (lN 4294967295))) (K, I1, J1) = _ at b1
  unfold lwS
  rw [e_l_L_law_33, hc, cond_false, l0, Option.bind_some, hm]
  simp (disch := omega) only [pm_eq, Nat.reduceEqDiff, decide_true, decide_false, cond_true, cond_false]
  simp only [pm_add, l01, l02, l03, l04, l11, l12, l13, l14, Option.bind_some, g1, g2, cond_true, a1, b1, decide_true]
  exact ⟨(K, I2, J2), rfl, ⟨p, _, t1, m1, s1, s2, o1, tc_mf a2 b3 b4, b2⟩, by show K.1 ≤ K.1 + 1; omega, by show K.2.1 ≤ K.2.1 + 6; omega⟩
theorem law_1 (hL : L ≤ 2561) (hi : i + 5 ≤ L) (H : lwI L xs (K, I, J)) (hm : xs i &&& nI 31 = nI 1) : lwS L xs i (K, I, J) := by
  obtain ⟨p, T, t1, m1, s1, s2, o1, h1, h2⟩ := H
  have hc : decide ((nI (am_sl (K, I, J)) - nI 5) < nI i) = false := by
    rw [s1, pm_sub (by omega), pm_lt (by omega) (by omega)]
    exact decide_eq_false (by omega)
  have l0 := ld_S (I := I) (J := J) (k := i) s1 s2 hL (by omega)
  obtain ⟨I1, J1, a1, a2, a3, a4⟩ := tc_data t1 h1 (xs (i + 1)) (xs (i + 2)) 8
  have h2a := mt_tf h2 a3 a4
  obtain ⟨I2, J2, b1, b2, b3, b4⟩ := m_data m1 h2a (xs (i + 1)) (xs (i + 2)) 9
  have l01 := ld_S (I := I) (J := J) (k := i + 1) s1 s2 hL (by omega)
  have l02 := ld_S (I := I) (J := J) (k := i + 2) s1 s2 hL (by omega)
  have l03 := ld_S (I := I) (J := J) (k := i + 3) s1 s2 hL (by omega)
  have l04 := ld_S (I := I) (J := J) (k := i + 4) s1 s2 hL (by omega)
  have l11 := ld_S (I := I1) (J := J1) (k := i + 1) s1 s2 hL (by omega)
  have l12 := ld_S (I := I1) (J := J1) (k := i + 2) s1 s2 hL (by omega)
  have l13 := ld_S (I := I1) (J := J1) (k := i + 3) s1 s2 hL (by omega)
  have l14 := ld_S (I := I1) (J := J1) (k := i + 4) s1 s2 hL (by omega)
  have g1 : am_is (K, I, J) 0 8 = true := pm_is t1.1
  have g2 : am_is (K, I1, J1) 370 9 = true := pm_is m1.1
  change f_X8_data 10 0 (xs (i + 1)) (xs (i + 2)) (K, I, J) = _ at a1
  change f_X9_data 10 370 (xs (i + 1)) (xs (i + 2)) (K, I1, J1) = _ at b1
  unfold lwS
  rw [e_l_L_law_33, hc, cond_false, l0, Option.bind_some, hm]
  simp (disch := omega) only [pm_eq, Nat.reduceEqDiff, decide_true, decide_false, cond_true, cond_false]
  simp only [pm_add, l01, l02, l03, l04, l11, l12, l13, l14, Option.bind_some, g1, g2, cond_true, a1, b1, decide_true]
  exact ⟨(K, I2, J2), rfl, ⟨p, _, t1, m1, s1, s2, o1, tc_mf a2 b3 b4, b2⟩, by show K.1 ≤ K.1 + 1; omega, by show K.2.1 ≤ K.2.1 + 6; omega⟩
theorem law_2 (hL : L ≤ 2561) (hi : i + 5 ≤ L) (H : lwI L xs (K, I, J)) (hm : xs i &&& nI 31 = nI 2) : lwS L xs i (K, I, J) := by
  obtain ⟨p, T, t1, m1, s1, s2, o1, h1, h2⟩ := H
  have hc : decide ((nI (am_sl (K, I, J)) - nI 5) < nI i) = false := by
    rw [s1, pm_sub (by omega), pm_lt (by omega) (by omega)]
    exact decide_eq_false (by omega)
  have l0 := ld_S (I := I) (J := J) (k := i) s1 s2 hL (by omega)
  obtain ⟨I1, J1, a1, a2, a3, a4⟩ := tc_name t1 h1 (xs (i + 1)) (xs (i + 2)) (((Int32.toInt64 (xs (i + 3))) <<< (Int32.toInt64 (nI 32) &&& 63)) ||| ((Int32.toInt64 (xs (i + 4))) &&& (lN 4294967295))) 8
  have h2a := mt_tf h2 a3 a4
  obtain ⟨I2, J2, b1, b2, b3, b4⟩ := m_name m1 h2a (xs (i + 1)) (xs (i + 2)) (((Int32.toInt64 (xs (i + 3))) <<< (Int32.toInt64 (nI 32) &&& 63)) ||| ((Int32.toInt64 (xs (i + 4))) &&& (lN 4294967295))) 8
  have l01 := ld_S (I := I) (J := J) (k := i + 1) s1 s2 hL (by omega)
  have l02 := ld_S (I := I) (J := J) (k := i + 2) s1 s2 hL (by omega)
  have l03 := ld_S (I := I) (J := J) (k := i + 3) s1 s2 hL (by omega)
  have l04 := ld_S (I := I) (J := J) (k := i + 4) s1 s2 hL (by omega)
  have l11 := ld_S (I := I1) (J := J1) (k := i + 1) s1 s2 hL (by omega)
  have l12 := ld_S (I := I1) (J := J1) (k := i + 2) s1 s2 hL (by omega)
  have l13 := ld_S (I := I1) (J := J1) (k := i + 3) s1 s2 hL (by omega)
  have l14 := ld_S (I := I1) (J := J1) (k := i + 4) s1 s2 hL (by omega)
  have g1 : am_is (K, I, J) 0 8 = true := pm_is t1.1
  have g2 : am_is (K, I1, J1) 370 9 = true := pm_is m1.1
  change f_X8_name 10 0 (xs (i + 1)) (xs (i + 2)) (((Int32.toInt64 (xs (i + 3))) <<< (Int32.toInt64 (nI 32) &&& 63)) ||| ((Int32.toInt64 (xs (i + 4))) &&& (lN 4294967295))) (K, I, J) = _ at a1
  change f_X9_name 10 370 (xs (i + 1)) (xs (i + 2)) (((Int32.toInt64 (xs (i + 3))) <<< (Int32.toInt64 (nI 32) &&& 63)) ||| ((Int32.toInt64 (xs (i + 4))) &&& (lN 4294967295))) (K, I1, J1) = _ at b1
  unfold lwS
  rw [e_l_L_law_33, hc, cond_false, l0, Option.bind_some, hm]
  simp (disch := omega) only [pm_eq, Nat.reduceEqDiff, decide_true, decide_false, cond_true, cond_false]
  simp only [pm_add, l01, l02, l03, l04, l11, l12, l13, l14, Option.bind_some, g1, g2, cond_true, a1, b1, decide_true]
  exact ⟨(K, I2, J2), rfl, ⟨p, _, t1, m1, s1, s2, o1, tc_mf a2 b3 b4, b2⟩, by show K.1 ≤ K.1 + 1; omega, by show K.2.1 ≤ K.2.1 + 6; omega⟩
theorem law_3 (hL : L ≤ 2561) (hi : i + 5 ≤ L) (H : lwI L xs (K, I, J)) (hm : xs i &&& nI 31 = nI 3) : lwS L xs i (K, I, J) := by
  obtain ⟨p, T, t1, m1, s1, s2, o1, h1, h2⟩ := H
  have hc : decide ((nI (am_sl (K, I, J)) - nI 5) < nI i) = false := by
    rw [s1, pm_sub (by omega), pm_lt (by omega) (by omega)]
    exact decide_eq_false (by omega)
  have l0 := ld_S (I := I) (J := J) (k := i) s1 s2 hL (by omega)
  obtain ⟨I1, J1, a1, a2, a3, a4⟩ := tc_begin t1 h1 (xs (i + 1)) (xs (i + 2)) 5
  have h2a := mt_tf h2 a3 a4
  obtain ⟨I2, J2, b1, b2, b3, b4⟩ := m_begin m1 h2a (xs (i + 1)) (xs (i + 2)) 6
  have l01 := ld_S (I := I) (J := J) (k := i + 1) s1 s2 hL (by omega)
  have l02 := ld_S (I := I) (J := J) (k := i + 2) s1 s2 hL (by omega)
  have l03 := ld_S (I := I) (J := J) (k := i + 3) s1 s2 hL (by omega)
  have l04 := ld_S (I := I) (J := J) (k := i + 4) s1 s2 hL (by omega)
  have l11 := ld_S (I := I1) (J := J1) (k := i + 1) s1 s2 hL (by omega)
  have l12 := ld_S (I := I1) (J := J1) (k := i + 2) s1 s2 hL (by omega)
  have l13 := ld_S (I := I1) (J := J1) (k := i + 3) s1 s2 hL (by omega)
  have l14 := ld_S (I := I1) (J := J1) (k := i + 4) s1 s2 hL (by omega)
  have g1 : am_is (K, I, J) 0 8 = true := pm_is t1.1
  have g2 : am_is (K, I1, J1) 370 9 = true := pm_is m1.1
  change f_X8_begin 10 0 (xs (i + 1)) (xs (i + 2)) (K, I, J) = _ at a1
  change f_X9_begin 10 370 (xs (i + 1)) (xs (i + 2)) (K, I1, J1) = _ at b1
  unfold lwS
  rw [e_l_L_law_33, hc, cond_false, l0, Option.bind_some, hm]
  simp (disch := omega) only [pm_eq, Nat.reduceEqDiff, decide_true, decide_false, cond_true, cond_false]
  simp only [pm_add, l01, l02, l03, l04, l11, l12, l13, l14, Option.bind_some, g1, g2, cond_true, a1, b1, decide_true]
  exact ⟨(K, I2, J2), rfl, ⟨p, _, t1, m1, s1, s2, o1, tc_mf a2 b3 b4, b2⟩, by show K.1 ≤ K.1 + 1; omega, by show K.2.1 ≤ K.2.1 + 6; omega⟩
theorem law_4 (hL : L ≤ 2561) (hi : i + 5 ≤ L) (H : lwI L xs (K, I, J)) (hm : xs i &&& nI 31 = nI 4) : lwS L xs i (K, I, J) := by
  obtain ⟨p, T, t1, m1, s1, s2, o1, h1, h2⟩ := H
  have hc : decide ((nI (am_sl (K, I, J)) - nI 5) < nI i) = false := by
    rw [s1, pm_sub (by omega), pm_lt (by omega) (by omega)]
    exact decide_eq_false (by omega)
  have l0 := ld_S (I := I) (J := J) (k := i) s1 s2 hL (by omega)
  obtain ⟨I1, J1, a1, a2, a3, a4⟩ := tc_carry t1 h1 (xs (i + 1)) (xs (i + 2)) 4
  have h2a := mt_tf h2 a3 a4
  obtain ⟨I2, J2, b1, b2, b3, b4⟩ := m_carry m1 h2a (xs (i + 1)) (xs (i + 2)) 1
  have l01 := ld_S (I := I) (J := J) (k := i + 1) s1 s2 hL (by omega)
  have l02 := ld_S (I := I) (J := J) (k := i + 2) s1 s2 hL (by omega)
  have l03 := ld_S (I := I) (J := J) (k := i + 3) s1 s2 hL (by omega)
  have l04 := ld_S (I := I) (J := J) (k := i + 4) s1 s2 hL (by omega)
  have l11 := ld_S (I := I1) (J := J1) (k := i + 1) s1 s2 hL (by omega)
  have l12 := ld_S (I := I1) (J := J1) (k := i + 2) s1 s2 hL (by omega)
  have l13 := ld_S (I := I1) (J := J1) (k := i + 3) s1 s2 hL (by omega)
  have l14 := ld_S (I := I1) (J := J1) (k := i + 4) s1 s2 hL (by omega)
  have g1 : am_is (K, I, J) 0 8 = true := pm_is t1.1
  have g2 : am_is (K, I1, J1) 370 9 = true := pm_is m1.1
  change f_X8_carry 10 0 (xs (i + 1)) (xs (i + 2)) (K, I, J) = _ at a1
  change f_X9_carry 10 370 (xs (i + 1)) (xs (i + 2)) (K, I1, J1) = _ at b1
  unfold lwS
  rw [e_l_L_law_33, hc, cond_false, l0, Option.bind_some, hm]
  simp (disch := omega) only [pm_eq, Nat.reduceEqDiff, decide_true, decide_false, cond_true, cond_false]
  simp only [pm_add, l01, l02, l03, l04, l11, l12, l13, l14, Option.bind_some, g1, g2, cond_true, a1, b1, decide_true]
  exact ⟨(K, I2, J2), rfl, ⟨p, _, t1, m1, s1, s2, o1, tc_mf a2 b3 b4, b2⟩, by show K.1 ≤ K.1 + 1; omega, by show K.2.1 ≤ K.2.1 + 6; omega⟩
theorem law_5 (hL : L ≤ 2561) (hi : i + 5 ≤ L) (H : lwI L xs (K, I, J)) (hm : xs i &&& nI 31 = nI 5) : lwS L xs i (K, I, J) := by
  obtain ⟨p, T, t1, m1, s1, s2, o1, h1, h2⟩ := H
  have hc : decide ((nI (am_sl (K, I, J)) - nI 5) < nI i) = false := by
    rw [s1, pm_sub (by omega), pm_lt (by omega) (by omega)]
    exact decide_eq_false (by omega)
  have l0 := ld_S (I := I) (J := J) (k := i) s1 s2 hL (by omega)
  obtain ⟨I1, J1, a1, a2, a3, a4⟩ := tc_cut t1 h1 (xs (i + 1)) (xs (i + 2)) 4
  have h2a := mt_tf h2 a3 a4
  obtain ⟨I2, J2, b1, b2, b3, b4⟩ := m_cut m1 h2a (xs (i + 1)) (xs (i + 2)) 1
  have l01 := ld_S (I := I) (J := J) (k := i + 1) s1 s2 hL (by omega)
  have l02 := ld_S (I := I) (J := J) (k := i + 2) s1 s2 hL (by omega)
  have l03 := ld_S (I := I) (J := J) (k := i + 3) s1 s2 hL (by omega)
  have l04 := ld_S (I := I) (J := J) (k := i + 4) s1 s2 hL (by omega)
  have l11 := ld_S (I := I1) (J := J1) (k := i + 1) s1 s2 hL (by omega)
  have l12 := ld_S (I := I1) (J := J1) (k := i + 2) s1 s2 hL (by omega)
  have l13 := ld_S (I := I1) (J := J1) (k := i + 3) s1 s2 hL (by omega)
  have l14 := ld_S (I := I1) (J := J1) (k := i + 4) s1 s2 hL (by omega)
  have g1 : am_is (K, I, J) 0 8 = true := pm_is t1.1
  have g2 : am_is (K, I1, J1) 370 9 = true := pm_is m1.1
  change f_X8_cut 10 0 (xs (i + 1)) (xs (i + 2)) (K, I, J) = _ at a1
  change f_X9_cut 10 370 (xs (i + 1)) (xs (i + 2)) (K, I1, J1) = _ at b1
  unfold lwS
  rw [e_l_L_law_33, hc, cond_false, l0, Option.bind_some, hm]
  simp (disch := omega) only [pm_eq, Nat.reduceEqDiff, decide_true, decide_false, cond_true, cond_false]
  simp only [pm_add, l01, l02, l03, l04, l11, l12, l13, l14, Option.bind_some, g1, g2, cond_true, a1, b1, decide_true]
  exact ⟨(K, I2, J2), rfl, ⟨p, _, t1, m1, s1, s2, o1, tc_mf a2 b3 b4, b2⟩, by show K.1 ≤ K.1 + 1; omega, by show K.2.1 ≤ K.2.1 + 6; omega⟩
theorem law_6 (hL : L ≤ 2561) (hi : i + 5 ≤ L) (H : lwI L xs (K, I, J)) (hm : xs i &&& nI 31 = nI 6) : lwS L xs i (K, I, J) := by
  obtain ⟨p, T, t1, m1, s1, s2, o1, h1, h2⟩ := H
  have hc : decide ((nI (am_sl (K, I, J)) - nI 5) < nI i) = false := by
    rw [s1, pm_sub (by omega), pm_lt (by omega) (by omega)]
    exact decide_eq_false (by omega)
  have l0 := ld_S (I := I) (J := J) (k := i) s1 s2 hL (by omega)
  obtain ⟨I1, a1, a2, a3⟩ := tc_lose t1 h1 (xs (i + 1)) (xs (i + 2)) 7
  have h2a := mt_tf h2 a3 (fun _ _ => rfl)
  obtain ⟨I2, b1, b2, b3⟩ := m_lose m1 h2a (xs (i + 1)) (xs (i + 2)) 8
  have l01 := ld_S (I := I) (J := J) (k := i + 1) s1 s2 hL (by omega)
  have l02 := ld_S (I := I) (J := J) (k := i + 2) s1 s2 hL (by omega)
  have l03 := ld_S (I := I) (J := J) (k := i + 3) s1 s2 hL (by omega)
  have l04 := ld_S (I := I) (J := J) (k := i + 4) s1 s2 hL (by omega)
  have l11 := ld_S (I := I1) (J := J) (k := i + 1) s1 s2 hL (by omega)
  have l12 := ld_S (I := I1) (J := J) (k := i + 2) s1 s2 hL (by omega)
  have l13 := ld_S (I := I1) (J := J) (k := i + 3) s1 s2 hL (by omega)
  have l14 := ld_S (I := I1) (J := J) (k := i + 4) s1 s2 hL (by omega)
  have g1 : am_is (K, I, J) 0 8 = true := pm_is t1.1
  have g2 : am_is (K, I1, J) 370 9 = true := pm_is m1.1
  change f_X8_lose 10 0 (xs (i + 1)) (xs (i + 2)) (K, I, J) = _ at a1
  change f_X9_lose 10 370 (xs (i + 1)) (xs (i + 2)) (K, I1, J) = _ at b1
  unfold lwS
  rw [e_l_L_law_33, hc, cond_false, l0, Option.bind_some, hm]
  simp (disch := omega) only [pm_eq, Nat.reduceEqDiff, decide_true, decide_false, cond_true, cond_false]
  simp only [pm_add, l01, l02, l03, l04, l11, l12, l13, l14, Option.bind_some, g1, g2, cond_true, a1, b1, decide_true]
  exact ⟨(K, I2, J), rfl, ⟨p, _, t1, m1, s1, s2, o1, tc_mf a2 b3 (fun _ _ => rfl), b2⟩, by show K.1 ≤ K.1 + 1; omega, by show K.2.1 ≤ K.2.1 + 6; omega⟩
theorem law_7 (hL : L ≤ 2561) (hi : i + 5 ≤ L) (H : lwI L xs (K, I, J)) (hm : xs i &&& nI 31 = nI 7) : lwS L xs i (K, I, J) := by
  obtain ⟨p, T, t1, m1, s1, s2, o1, h1, h2⟩ := H
  have hc : decide ((nI (am_sl (K, I, J)) - nI 5) < nI i) = false := by
    rw [s1, pm_sub (by omega), pm_lt (by omega) (by omega)]
    exact decide_eq_false (by omega)
  have l0 := ld_S (I := I) (J := J) (k := i) s1 s2 hL (by omega)
  obtain ⟨I1, a1, a2, a3⟩ := tc_twice t1 h1 (xs (i + 1)) (xs (i + 2)) 7
  have h2a := mt_tf h2 a3 (fun _ _ => rfl)
  obtain ⟨I2, b1, b2, b3⟩ := m_twice m1 h2a (xs (i + 1)) (xs (i + 2)) 8
  have l01 := ld_S (I := I) (J := J) (k := i + 1) s1 s2 hL (by omega)
  have l02 := ld_S (I := I) (J := J) (k := i + 2) s1 s2 hL (by omega)
  have l03 := ld_S (I := I) (J := J) (k := i + 3) s1 s2 hL (by omega)
  have l04 := ld_S (I := I) (J := J) (k := i + 4) s1 s2 hL (by omega)
  have l11 := ld_S (I := I1) (J := J) (k := i + 1) s1 s2 hL (by omega)
  have l12 := ld_S (I := I1) (J := J) (k := i + 2) s1 s2 hL (by omega)
  have l13 := ld_S (I := I1) (J := J) (k := i + 3) s1 s2 hL (by omega)
  have l14 := ld_S (I := I1) (J := J) (k := i + 4) s1 s2 hL (by omega)
  have g1 : am_is (K, I, J) 0 8 = true := pm_is t1.1
  have g2 : am_is (K, I1, J) 370 9 = true := pm_is m1.1
  change f_X8_twice 10 0 (xs (i + 1)) (xs (i + 2)) (K, I, J) = _ at a1
  change f_X9_twice 10 370 (xs (i + 1)) (xs (i + 2)) (K, I1, J) = _ at b1
  unfold lwS
  rw [e_l_L_law_33, hc, cond_false, l0, Option.bind_some, hm]
  simp (disch := omega) only [pm_eq, Nat.reduceEqDiff, decide_true, decide_false, cond_true, cond_false]
  simp only [pm_add, l01, l02, l03, l04, l11, l12, l13, l14, Option.bind_some, g1, g2, cond_true, a1, b1, decide_true]
  exact ⟨(K, I2, J), rfl, ⟨p, _, t1, m1, s1, s2, o1, tc_mf a2 b3 (fun _ _ => rfl), b2⟩, by show K.1 ≤ K.1 + 1; omega, by show K.2.1 ≤ K.2.1 + 6; omega⟩
theorem law_8 (hL : L ≤ 2561) (hi : i + 5 ≤ L) (H : lwI L xs (K, I, J)) (hm : xs i &&& nI 31 = nI 8) : lwS L xs i (K, I, J) := by
  obtain ⟨p, T, t1, m1, s1, s2, o1, h1, h2⟩ := H
  have hc : decide ((nI (am_sl (K, I, J)) - nI 5) < nI i) = false := by
    rw [s1, pm_sub (by omega), pm_lt (by omega) (by omega)]
    exact decide_eq_false (by omega)
  have l0 := ld_S (I := I) (J := J) (k := i) s1 s2 hL (by omega)
  obtain ⟨I1, a1, a2, a3⟩ := tc_lie t1 h1 (xs (i + 1)) (xs (i + 2)) (xs (i + 3)) 9
  have h2a := mt_tf h2 a3 (fun _ _ => rfl)
  obtain ⟨I2, b1, b2, b3⟩ := m_lie m1 h2a (xs (i + 1)) (xs (i + 2)) (xs (i + 3)) 10
  have l01 := ld_S (I := I) (J := J) (k := i + 1) s1 s2 hL (by omega)
  have l02 := ld_S (I := I) (J := J) (k := i + 2) s1 s2 hL (by omega)
  have l03 := ld_S (I := I) (J := J) (k := i + 3) s1 s2 hL (by omega)
  have l04 := ld_S (I := I) (J := J) (k := i + 4) s1 s2 hL (by omega)
  have l11 := ld_S (I := I1) (J := J) (k := i + 1) s1 s2 hL (by omega)
  have l12 := ld_S (I := I1) (J := J) (k := i + 2) s1 s2 hL (by omega)
  have l13 := ld_S (I := I1) (J := J) (k := i + 3) s1 s2 hL (by omega)
  have l14 := ld_S (I := I1) (J := J) (k := i + 4) s1 s2 hL (by omega)
  have g1 : am_is (K, I, J) 0 8 = true := pm_is t1.1
  have g2 : am_is (K, I1, J) 370 9 = true := pm_is m1.1
  change f_X8_lie 10 0 (xs (i + 1)) (xs (i + 2)) (xs (i + 3)) (K, I, J) = _ at a1
  change f_X9_lie 10 370 (xs (i + 1)) (xs (i + 2)) (xs (i + 3)) (K, I1, J) = _ at b1
  unfold lwS
  rw [e_l_L_law_33, hc, cond_false, l0, Option.bind_some, hm]
  simp (disch := omega) only [pm_eq, Nat.reduceEqDiff, decide_true, decide_false, cond_true, cond_false]
  simp only [pm_add, l01, l02, l03, l04, l11, l12, l13, l14, Option.bind_some, g1, g2, cond_true, a1, b1, decide_true]
  exact ⟨(K, I2, J), rfl, ⟨p, _, t1, m1, s1, s2, o1, tc_mf a2 b3 (fun _ _ => rfl), b2⟩, by show K.1 ≤ K.1 + 1; omega, by show K.2.1 ≤ K.2.1 + 6; omega⟩
theorem law_9 (hL : L ≤ 2561) (hi : i + 5 ≤ L) (H : lwI L xs (K, I, J)) (hm : xs i &&& nI 31 = nI 9) : lwS L xs i (K, I, J) := by
  obtain ⟨p, T, t1, m1, s1, s2, o1, h1, h2⟩ := H
  have hc : decide ((nI (am_sl (K, I, J)) - nI 5) < nI i) = false := by
    rw [s1, pm_sub (by omega), pm_lt (by omega) (by omega)]
    exact decide_eq_false (by omega)
  have l0 := ld_S (I := I) (J := J) (k := i) s1 s2 hL (by omega)
  have a1 := tc_underway t1 h1 (xs (i + 1)) (xs (i + 2)) 9
  have b1 := m_underway m1 h2 (xs (i + 1)) (xs (i + 2)) 10
  have b2 := mt_thrown h2 (nI 0)
  have b3 : mf_at I (am_u I 370 0 (nI 0)) := mf_u (by omega)
  have l01 := ld_S (I := I) (J := J) (k := i + 1) s1 s2 hL (by omega)
  have l02 := ld_S (I := I) (J := J) (k := i + 2) s1 s2 hL (by omega)
  have l03 := ld_S (I := I) (J := J) (k := i + 3) s1 s2 hL (by omega)
  have l04 := ld_S (I := I) (J := J) (k := i + 4) s1 s2 hL (by omega)
  have l11 := ld_S (I := I) (J := J) (k := i + 1) s1 s2 hL (by omega)
  have l12 := ld_S (I := I) (J := J) (k := i + 2) s1 s2 hL (by omega)
  have l13 := ld_S (I := I) (J := J) (k := i + 3) s1 s2 hL (by omega)
  have l14 := ld_S (I := I) (J := J) (k := i + 4) s1 s2 hL (by omega)
  have g1 : am_is (K, I, J) 0 8 = true := pm_is t1.1
  have g2 : am_is (K, I, J) 370 9 = true := pm_is m1.1
  change f_X8_underway 10 0 (xs (i + 1)) (xs (i + 2)) (K, I, J) = _ at a1
  change f_X9_underway 10 370 (xs (i + 1)) (xs (i + 2)) (K, I, J) = _ at b1
  unfold lwS
  rw [e_l_L_law_33, hc, cond_false, l0, Option.bind_some, hm]
  simp (disch := omega) only [pm_eq, Nat.reduceEqDiff, decide_true, decide_false, cond_true, cond_false]
  simp only [pm_add, l01, l02, l03, l04, l11, l12, l13, l14, Option.bind_some, g1, g2, cond_true, a1, b1, decide_true]
  exact ⟨(K, am_u I 370 0 (nI 0), J), rfl, ⟨p, _, t1, m1, s1, s2, o1, tc_mf h1 b3 (fun _ _ => rfl), b2⟩, by show K.1 ≤ K.1 + 1; omega, by show K.2.1 ≤ K.2.1 + 6; omega⟩
theorem law_10 (hL : L ≤ 2561) (hi : i + 5 ≤ L) (H : lwI L xs (K, I, J)) (hm : xs i &&& nI 31 = nI 10) : lwS L xs i (K, I, J) := by
  obtain ⟨p, T, t1, m1, s1, s2, o1, h1, h2⟩ := H
  have hc : decide ((nI (am_sl (K, I, J)) - nI 5) < nI i) = false := by
    rw [s1, pm_sub (by omega), pm_lt (by omega) (by omega)]
    exact decide_eq_false (by omega)
  have l0 := ld_S (I := I) (J := J) (k := i) s1 s2 hL (by omega)
  obtain ⟨I1, J1, a1, a2, a3, a4⟩ := tc_resume t1 h1 (xs (i + 1)) 5
  have h2a := mt_tf h2 a3 a4
  obtain ⟨I2, J2, b1, b2, b3, b4⟩ := m_resume m1 h2a (xs (i + 1)) 6
  have l01 := ld_S (I := I) (J := J) (k := i + 1) s1 s2 hL (by omega)
  have l02 := ld_S (I := I) (J := J) (k := i + 2) s1 s2 hL (by omega)
  have l03 := ld_S (I := I) (J := J) (k := i + 3) s1 s2 hL (by omega)
  have l04 := ld_S (I := I) (J := J) (k := i + 4) s1 s2 hL (by omega)
  have l11 := ld_S (I := I1) (J := J1) (k := i + 1) s1 s2 hL (by omega)
  have l12 := ld_S (I := I1) (J := J1) (k := i + 2) s1 s2 hL (by omega)
  have l13 := ld_S (I := I1) (J := J1) (k := i + 3) s1 s2 hL (by omega)
  have l14 := ld_S (I := I1) (J := J1) (k := i + 4) s1 s2 hL (by omega)
  have g1 : am_is (K, I, J) 0 8 = true := pm_is t1.1
  have g2 : am_is (K, I1, J1) 370 9 = true := pm_is m1.1
  change f_X8_resume 10 0 (xs (i + 1)) (K, I, J) = _ at a1
  change f_X9_resume 10 370 (xs (i + 1)) (K, I1, J1) = _ at b1
  unfold lwS
  rw [e_l_L_law_33, hc, cond_false, l0, Option.bind_some, hm]
  simp (disch := omega) only [pm_eq, Nat.reduceEqDiff, decide_true, decide_false, cond_true, cond_false]
  simp only [pm_add, l01, l02, l03, l04, l11, l12, l13, l14, Option.bind_some, g1, g2, cond_true, a1, b1, decide_true]
  exact ⟨(K, I2, J2), rfl, ⟨p, _, t1, m1, s1, s2, o1, tc_mf a2 b3 b4, b2⟩, by show K.1 ≤ K.1 + 1; omega, by show K.2.1 ≤ K.2.1 + 6; omega⟩
theorem law_11 (hL : L ≤ 2561) (hi : i + 5 ≤ L) (H : lwI L xs (K, I, J)) (hm : xs i &&& nI 31 = nI 11) : lwS L xs i (K, I, J) := by
  obtain ⟨p, T, t1, m1, s1, s2, o1, h1, h2⟩ := H
  have hc : decide ((nI (am_sl (K, I, J)) - nI 5) < nI i) = false := by
    rw [s1, pm_sub (by omega), pm_lt (by omega) (by omega)]
    exact decide_eq_false (by omega)
  have l0 := ld_S (I := I) (J := J) (k := i) s1 s2 hL (by omega)
  obtain ⟨I1, a1, a2, a3⟩ := tc_tick t1 h1 (xs (i + 1)) 4
  have h2a := mt_tf h2 a3 (fun _ _ => rfl)
  obtain ⟨I2, b1, b2, b3⟩ := m_tickS m1 h2a (xs (i + 1)) 6
  have l01 := ld_S (I := I) (J := J) (k := i + 1) s1 s2 hL (by omega)
  have l02 := ld_S (I := I) (J := J) (k := i + 2) s1 s2 hL (by omega)
  have l03 := ld_S (I := I) (J := J) (k := i + 3) s1 s2 hL (by omega)
  have l04 := ld_S (I := I) (J := J) (k := i + 4) s1 s2 hL (by omega)
  have l11 := ld_S (I := I1) (J := J) (k := i + 1) s1 s2 hL (by omega)
  have l12 := ld_S (I := I1) (J := J) (k := i + 2) s1 s2 hL (by omega)
  have l13 := ld_S (I := I1) (J := J) (k := i + 3) s1 s2 hL (by omega)
  have l14 := ld_S (I := I1) (J := J) (k := i + 4) s1 s2 hL (by omega)
  have g1 : am_is (K, I, J) 0 8 = true := pm_is t1.1
  have g2 : am_is (K, I1, J) 370 9 = true := pm_is m1.1
  change f_X8_tick 10 0 (xs (i + 1)) (K, I, J) = _ at a1
  change f_X9_tick 10 370 (xs (i + 1)) (K, I1, J) = _ at b1
  unfold lwS
  rw [e_l_L_law_33, hc, cond_false, l0, Option.bind_some, hm]
  simp (disch := omega) only [pm_eq, Nat.reduceEqDiff, decide_true, decide_false, cond_true, cond_false]
  simp only [pm_add, l01, l02, l03, l04, l11, l12, l13, l14, Option.bind_some, g1, g2, cond_true, a1, b1, decide_true]
  exact ⟨(K, I2, J), rfl, ⟨p, _, t1, m1, s1, s2, o1, tc_mf a2 b3 (fun _ _ => rfl), b2⟩, by show K.1 ≤ K.1 + 1; omega, by show K.2.1 ≤ K.2.1 + 6; omega⟩
theorem law_12 (hL : L ≤ 2561) (hi : i + 5 ≤ L) (H : lwI L xs (K, I, J)) (hm : xs i &&& nI 31 = nI 12) : lwS L xs i (K, I, J) := by
  obtain ⟨p, T, t1, m1, s1, s2, o1, h1, h2⟩ := H
  have hc : decide ((nI (am_sl (K, I, J)) - nI 5) < nI i) = false := by
    rw [s1, pm_sub (by omega), pm_lt (by omega) (by omega)]
    exact decide_eq_false (by omega)
  have l0 := ld_S (I := I) (J := J) (k := i) s1 s2 hL (by omega)
  have a1 := tc_end t1 h1 (xs (i + 1)) 9
  have b1 := m_end m1 h2 (xs (i + 1)) 9
  have b2 := mt_thrown h2 (nI 0)
  have b3 : mf_at I (am_u I 370 0 (nI 0)) := mf_u (by omega)
  have l01 := ld_S (I := I) (J := J) (k := i + 1) s1 s2 hL (by omega)
  have l02 := ld_S (I := I) (J := J) (k := i + 2) s1 s2 hL (by omega)
  have l03 := ld_S (I := I) (J := J) (k := i + 3) s1 s2 hL (by omega)
  have l04 := ld_S (I := I) (J := J) (k := i + 4) s1 s2 hL (by omega)
  have l11 := ld_S (I := I) (J := J) (k := i + 1) s1 s2 hL (by omega)
  have l12 := ld_S (I := I) (J := J) (k := i + 2) s1 s2 hL (by omega)
  have l13 := ld_S (I := I) (J := J) (k := i + 3) s1 s2 hL (by omega)
  have l14 := ld_S (I := I) (J := J) (k := i + 4) s1 s2 hL (by omega)
  have g1 : am_is (K, I, J) 0 8 = true := pm_is t1.1
  have g2 : am_is (K, I, J) 370 9 = true := pm_is m1.1
  change f_X8_end 10 0 (xs (i + 1)) (K, I, J) = _ at a1
  change f_X9_end 10 370 (xs (i + 1)) (K, I, J) = _ at b1
  unfold lwS
  rw [e_l_L_law_33, hc, cond_false, l0, Option.bind_some, hm]
  simp (disch := omega) only [pm_eq, Nat.reduceEqDiff, decide_true, decide_false, cond_true, cond_false]
  simp only [pm_add, l01, l02, l03, l04, l11, l12, l13, l14, Option.bind_some, g1, g2, cond_true, a1, b1, decide_true]
  exact ⟨(K, am_u I 370 0 (nI 0), J), rfl, ⟨p, _, t1, m1, s1, s2, o1, tc_mf h1 b3 (fun _ _ => rfl), b2⟩, by show K.1 ≤ K.1 + 1; omega, by show K.2.1 ≤ K.2.1 + 6; omega⟩
theorem law_14 (hL : L ≤ 2561) (hi : i + 5 ≤ L) (H : lwI L xs (K, I, J)) (hm : xs i &&& nI 31 = nI 14) : lwS L xs i (K, I, J) := by
  obtain ⟨p, T, t1, m1, s1, s2, o1, h1, h2⟩ := H
  have hc : decide ((nI (am_sl (K, I, J)) - nI 5) < nI i) = false := by
    rw [s1, pm_sub (by omega), pm_lt (by omega) (by omega)]
    exact decide_eq_false (by omega)
  have l0 := ld_S (I := I) (J := J) (k := i) s1 s2 hL (by omega)
  have a1 := tc_named t1 h1 (xs (i + 1)) (xs (i + 2)) 8
  have b1 := m_named m1 h2 (xs (i + 1)) (xs (i + 2)) 7
  have b2 := mt_thrown h2 (nI 0)
  have b3 : mf_at I (am_u I 370 0 (nI 0)) := mf_u (by omega)
  have l01 := ld_S (I := I) (J := J) (k := i + 1) s1 s2 hL (by omega)
  have l02 := ld_S (I := I) (J := J) (k := i + 2) s1 s2 hL (by omega)
  have l03 := ld_S (I := I) (J := J) (k := i + 3) s1 s2 hL (by omega)
  have l04 := ld_S (I := I) (J := J) (k := i + 4) s1 s2 hL (by omega)
  have l11 := ld_S (I := I) (J := J) (k := i + 1) s1 s2 hL (by omega)
  have l12 := ld_S (I := I) (J := J) (k := i + 2) s1 s2 hL (by omega)
  have l13 := ld_S (I := I) (J := J) (k := i + 3) s1 s2 hL (by omega)
  have l14 := ld_S (I := I) (J := J) (k := i + 4) s1 s2 hL (by omega)
  have g1 : am_is (K, I, J) 0 8 = true := pm_is t1.1
  have g2 : am_is (K, I, J) 370 9 = true := pm_is m1.1
  change f_X8_named 10 0 (xs (i + 1)) (xs (i + 2)) (K, I, J) = _ at a1
  change f_X9_named 10 370 (xs (i + 1)) (xs (i + 2)) (K, I, J) = _ at b1
  unfold lwS
  rw [e_l_L_law_33, hc, cond_false, l0, Option.bind_some, hm]
  simp (disch := omega) only [pm_eq, Nat.reduceEqDiff, decide_true, decide_false, cond_true, cond_false]
  have hcmp : lg_cmp (st_named (xs (i + 1)) (xs (i + 2)) T) (st_named (xs (i + 1)) (xs (i + 2)) T) = nI 0 := (lg_cmp_eq _ _).mpr rfl
  simp only [pm_add, l01, l02, l03, l04, l11, l12, l13, l14, Option.bind_some, g1, g2, cond_true, a1, b1, decide_true, hcmp]
  exact ⟨(K, am_u I 370 0 (nI 0), J), rfl, ⟨p, _, t1, m1, s1, s2, o1, tc_mf h1 b3 (fun _ _ => rfl), b2⟩, by show K.1 ≤ K.1 + 1; omega, by show K.2.1 ≤ K.2.1 + 6; omega⟩
theorem law_15 (hL : L ≤ 2561) (hi : i + 5 ≤ L) (H : lwI L xs (K, I, J)) (hm : xs i &&& nI 31 = nI 15) : lwS L xs i (K, I, J) := by
  obtain ⟨p, T, t1, m1, s1, s2, o1, h1, h2⟩ := H
  have hc : decide ((nI (am_sl (K, I, J)) - nI 5) < nI i) = false := by
    rw [s1, pm_sub (by omega), pm_lt (by omega) (by omega)]
    exact decide_eq_false (by omega)
  have l0 := ld_S (I := I) (J := J) (k := i) s1 s2 hL (by omega)
  have a1 := tc_missing t1 h1 (xs (i + 1)) (xs (i + 2)) 9
  have b1 := m_missing m1 h2 (xs (i + 1)) (xs (i + 2)) 9
  have b2 := mt_thrown h2 (nI 0)
  have b3 : mf_at I (am_u I 370 0 (nI 0)) := mf_u (by omega)
  have l01 := ld_S (I := I) (J := J) (k := i + 1) s1 s2 hL (by omega)
  have l02 := ld_S (I := I) (J := J) (k := i + 2) s1 s2 hL (by omega)
  have l03 := ld_S (I := I) (J := J) (k := i + 3) s1 s2 hL (by omega)
  have l04 := ld_S (I := I) (J := J) (k := i + 4) s1 s2 hL (by omega)
  have l11 := ld_S (I := I) (J := J) (k := i + 1) s1 s2 hL (by omega)
  have l12 := ld_S (I := I) (J := J) (k := i + 2) s1 s2 hL (by omega)
  have l13 := ld_S (I := I) (J := J) (k := i + 3) s1 s2 hL (by omega)
  have l14 := ld_S (I := I) (J := J) (k := i + 4) s1 s2 hL (by omega)
  have g1 : am_is (K, I, J) 0 8 = true := pm_is t1.1
  have g2 : am_is (K, I, J) 370 9 = true := pm_is m1.1
  change f_X8_missing 10 0 (xs (i + 1)) (xs (i + 2)) (K, I, J) = _ at a1
  change f_X9_missing 10 370 (xs (i + 1)) (xs (i + 2)) (K, I, J) = _ at b1
  unfold lwS
  rw [e_l_L_law_33, hc, cond_false, l0, Option.bind_some, hm]
  simp (disch := omega) only [pm_eq, Nat.reduceEqDiff, decide_true, decide_false, cond_true, cond_false]
  simp only [pm_add, l01, l02, l03, l04, l11, l12, l13, l14, Option.bind_some, g1, g2, cond_true, a1, b1, decide_true]
  exact ⟨(K, am_u I 370 0 (nI 0), J), rfl, ⟨p, _, t1, m1, s1, s2, o1, tc_mf h1 b3 (fun _ _ => rfl), b2⟩, by show K.1 ≤ K.1 + 1; omega, by show K.2.1 ≤ K.2.1 + 6; omega⟩
theorem law_16 (hL : L ≤ 2561) (hi : i + 5 ≤ L) (H : lwI L xs (K, I, J)) (hm : xs i &&& nI 31 = nI 16) : lwS L xs i (K, I, J) := by
  obtain ⟨p, T, t1, m1, s1, s2, o1, h1, h2⟩ := H
  have hc : decide ((nI (am_sl (K, I, J)) - nI 5) < nI i) = false := by
    rw [s1, pm_sub (by omega), pm_lt (by omega) (by omega)]
    exact decide_eq_false (by omega)
  have l0 := ld_S (I := I) (J := J) (k := i) s1 s2 hL (by omega)
  have a1 := tc_about t1 h1 (xs (i + 1)) (xs (i + 2)) 9
  have b1 := m_about m1 h2 (xs (i + 1)) (xs (i + 2)) 8
  have b2 := mt_thrown h2 (nI 0)
  have b3 : mf_at I (am_u I 370 0 (nI 0)) := mf_u (by omega)
  have l01 := ld_S (I := I) (J := J) (k := i + 1) s1 s2 hL (by omega)
  have l02 := ld_S (I := I) (J := J) (k := i + 2) s1 s2 hL (by omega)
  have l03 := ld_S (I := I) (J := J) (k := i + 3) s1 s2 hL (by omega)
  have l04 := ld_S (I := I) (J := J) (k := i + 4) s1 s2 hL (by omega)
  have l11 := ld_S (I := I) (J := J) (k := i + 1) s1 s2 hL (by omega)
  have l12 := ld_S (I := I) (J := J) (k := i + 2) s1 s2 hL (by omega)
  have l13 := ld_S (I := I) (J := J) (k := i + 3) s1 s2 hL (by omega)
  have l14 := ld_S (I := I) (J := J) (k := i + 4) s1 s2 hL (by omega)
  have g1 : am_is (K, I, J) 0 8 = true := pm_is t1.1
  have g2 : am_is (K, I, J) 370 9 = true := pm_is m1.1
  change f_X8_about 10 0 (xs (i + 1)) (xs (i + 2)) (K, I, J) = _ at a1
  change f_X9_about 10 370 (xs (i + 1)) (xs (i + 2)) (K, I, J) = _ at b1
  unfold lwS
  rw [e_l_L_law_33, hc, cond_false, l0, Option.bind_some, hm]
  simp (disch := omega) only [pm_eq, Nat.reduceEqDiff, decide_true, decide_false, cond_true, cond_false]
  simp only [pm_add, l01, l02, l03, l04, l11, l12, l13, l14, Option.bind_some, g1, g2, cond_true, a1, b1, decide_true]
  exact ⟨(K, am_u I 370 0 (nI 0), J), rfl, ⟨p, _, t1, m1, s1, s2, o1, tc_mf h1 b3 (fun _ _ => rfl), b2⟩, by show K.1 ≤ K.1 + 1; omega, by show K.2.1 ≤ K.2.1 + 6; omega⟩
theorem law_17 (hL : L ≤ 2561) (hi : i + 5 ≤ L) (H : lwI L xs (K, I, J)) (hm : xs i &&& nI 31 = nI 17) : lwS L xs i (K, I, J) := by
  obtain ⟨p, T, t1, m1, s1, s2, o1, h1, h2⟩ := H
  have hc : decide ((nI (am_sl (K, I, J)) - nI 5) < nI i) = false := by
    rw [s1, pm_sub (by omega), pm_lt (by omega) (by omega)]
    exact decide_eq_false (by omega)
  have l0 := ld_S (I := I) (J := J) (k := i) s1 s2 hL (by omega)
  obtain ⟨I1, a1, a2, a3⟩ := tc_busy t1 h1 (xs (i + 1)) 10
  have h2a := mt_tf h2 a3 (fun _ _ => rfl)
  obtain ⟨I2, b1, b2, b3⟩ := m_busy m1 h2a (xs (i + 1)) 10
  have l01 := ld_S (I := I) (J := J) (k := i + 1) s1 s2 hL (by omega)
  have l02 := ld_S (I := I) (J := J) (k := i + 2) s1 s2 hL (by omega)
  have l03 := ld_S (I := I) (J := J) (k := i + 3) s1 s2 hL (by omega)
  have l04 := ld_S (I := I) (J := J) (k := i + 4) s1 s2 hL (by omega)
  have l11 := ld_S (I := I1) (J := J) (k := i + 1) s1 s2 hL (by omega)
  have l12 := ld_S (I := I1) (J := J) (k := i + 2) s1 s2 hL (by omega)
  have l13 := ld_S (I := I1) (J := J) (k := i + 3) s1 s2 hL (by omega)
  have l14 := ld_S (I := I1) (J := J) (k := i + 4) s1 s2 hL (by omega)
  have g1 : am_is (K, I, J) 0 8 = true := pm_is t1.1
  have g2 : am_is (K, I1, J) 370 9 = true := pm_is m1.1
  change f_X8_busy 10 0 (xs (i + 1)) (K, I, J) = _ at a1
  change f_X9_busy 10 370 (xs (i + 1)) (K, I1, J) = _ at b1
  unfold lwS
  rw [e_l_L_law_33, hc, cond_false, l0, Option.bind_some, hm]
  simp (disch := omega) only [pm_eq, Nat.reduceEqDiff, decide_true, decide_false, cond_true, cond_false]
  simp only [pm_add, l01, l02, l03, l04, l11, l12, l13, l14, Option.bind_some, g1, g2, cond_true, a1, b1, decide_true]
  exact ⟨(K, I2, J), rfl, ⟨p, _, t1, m1, s1, s2, o1, tc_mf a2 b3 (fun _ _ => rfl), b2⟩, by show K.1 ≤ K.1 + 1; omega, by show K.2.1 ≤ K.2.1 + 6; omega⟩
theorem law_18 (hL : L ≤ 2561) (hi : i + 5 ≤ L) (H : lwI L xs (K, I, J)) (hm : xs i &&& nI 31 = nI 18) : lwS L xs i (K, I, J) := by
  obtain ⟨p, T, t1, m1, s1, s2, o1, h1, h2⟩ := H
  have hc : decide ((nI (am_sl (K, I, J)) - nI 5) < nI i) = false := by
    rw [s1, pm_sub (by omega), pm_lt (by omega) (by omega)]
    exact decide_eq_false (by omega)
  have l0 := ld_S (I := I) (J := J) (k := i) s1 s2 hL (by omega)
  obtain ⟨I1, a1, a2, a3⟩ := tc_forget t1 h1 (xs (i + 1)) 8
  have h2a := mt_tf h2 a3 (fun _ _ => rfl)
  obtain ⟨I2, J2, b1, b2, b3, b4⟩ := m_forget m1 h2a (xs (i + 1)) 8
  have l01 := ld_S (I := I) (J := J) (k := i + 1) s1 s2 hL (by omega)
  have l02 := ld_S (I := I) (J := J) (k := i + 2) s1 s2 hL (by omega)
  have l03 := ld_S (I := I) (J := J) (k := i + 3) s1 s2 hL (by omega)
  have l04 := ld_S (I := I) (J := J) (k := i + 4) s1 s2 hL (by omega)
  have l11 := ld_S (I := I1) (J := J) (k := i + 1) s1 s2 hL (by omega)
  have l12 := ld_S (I := I1) (J := J) (k := i + 2) s1 s2 hL (by omega)
  have l13 := ld_S (I := I1) (J := J) (k := i + 3) s1 s2 hL (by omega)
  have l14 := ld_S (I := I1) (J := J) (k := i + 4) s1 s2 hL (by omega)
  have g1 : am_is (K, I, J) 0 8 = true := pm_is t1.1
  have g2 : am_is (K, I1, J) 370 9 = true := pm_is m1.1
  change f_X8_forget 10 0 (xs (i + 1)) (K, I, J) = _ at a1
  change f_X9_forget 10 370 (xs (i + 1)) (K, I1, J) = _ at b1
  unfold lwS
  rw [e_l_L_law_33, hc, cond_false, l0, Option.bind_some, hm]
  simp (disch := omega) only [pm_eq, Nat.reduceEqDiff, decide_true, decide_false, cond_true, cond_false]
  simp only [pm_add, l01, l02, l03, l04, l11, l12, l13, l14, Option.bind_some, g1, g2, cond_true, a1, b1, decide_true]
  exact ⟨(K, I2, J2), rfl, ⟨p, _, t1, m1, s1, s2, o1, tc_mf a2 b3 b4, b2⟩, by show K.1 ≤ K.1 + 1; omega, by show K.2.1 ≤ K.2.1 + 6; omega⟩
theorem law_19 (hL : L ≤ 2561) (hi : i + 5 ≤ L) (H : lwI L xs (K, I, J)) (hm : xs i &&& nI 31 = nI 19) : lwS L xs i (K, I, J) := by
  obtain ⟨p, T, t1, m1, s1, s2, o1, h1, h2⟩ := H
  have hc : decide ((nI (am_sl (K, I, J)) - nI 5) < nI i) = false := by
    rw [s1, pm_sub (by omega), pm_lt (by omega) (by omega)]
    exact decide_eq_false (by omega)
  have l0 := ld_S (I := I) (J := J) (k := i) s1 s2 hL (by omega)
  have a1 := tc_count t1 h1 (xs (i + 1)) 9
  have b1 := m_count m1 h2 (xs (i + 1)) 9
  have b2 := mt_thrown h2 (nI 0)
  have b3 : mf_at I (am_u I 370 0 (nI 0)) := mf_u (by omega)
  have l01 := ld_S (I := I) (J := J) (k := i + 1) s1 s2 hL (by omega)
  have l02 := ld_S (I := I) (J := J) (k := i + 2) s1 s2 hL (by omega)
  have l03 := ld_S (I := I) (J := J) (k := i + 3) s1 s2 hL (by omega)
  have l04 := ld_S (I := I) (J := J) (k := i + 4) s1 s2 hL (by omega)
  have l11 := ld_S (I := I) (J := J) (k := i + 1) s1 s2 hL (by omega)
  have l12 := ld_S (I := I) (J := J) (k := i + 2) s1 s2 hL (by omega)
  have l13 := ld_S (I := I) (J := J) (k := i + 3) s1 s2 hL (by omega)
  have l14 := ld_S (I := I) (J := J) (k := i + 4) s1 s2 hL (by omega)
  have g1 : am_is (K, I, J) 0 8 = true := pm_is t1.1
  have g2 : am_is (K, I, J) 370 9 = true := pm_is m1.1
  change f_X8_count 10 0 (xs (i + 1)) (K, I, J) = _ at a1
  change f_X9_count 10 370 (xs (i + 1)) (K, I, J) = _ at b1
  unfold lwS
  rw [e_l_L_law_33, hc, cond_false, l0, Option.bind_some, hm]
  simp (disch := omega) only [pm_eq, Nat.reduceEqDiff, decide_true, decide_false, cond_true, cond_false]
  simp only [pm_add, l01, l02, l03, l04, l11, l12, l13, l14, Option.bind_some, g1, g2, cond_true, a1, b1, decide_true]
  exact ⟨(K, am_u I 370 0 (nI 0), J), rfl, ⟨p, _, t1, m1, s1, s2, o1, tc_mf h1 b3 (fun _ _ => rfl), b2⟩, by show K.1 ≤ K.1 + 1; omega, by show K.2.1 ≤ K.2.1 + 6; omega⟩
end LAW
