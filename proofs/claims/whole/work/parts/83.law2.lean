/-! THE LAW: got, the loop, the start -/
theorem mt_J411 {I : pm_I} {J : pm_J} {p j : Nat} {v : Int64} {T : sT} (h : mt_at I J p T) : mt_at I (am_u J 411 j v) p T := by
  obtain ⟨h1, h2, h4, h5, h6, h8⟩ := h
  exact ⟨h1, h2, mk_congr h4 (fun _ _ _ => rfl) (fun x _ _ => am_u_ne _ _ (by omega)), mv_congr h5 (fun _ _ _ => rfl) (fun x _ _ => am_u_ne _ _ (by omega)), h6, h8⟩
theorem tc_J411 {I : pm_I} {J : pm_J} {p j : Nat} {v : Int64} {T : sT} (h : tc_at I J p T) : tc_at I (am_u J 411 j v) p T := by
  obtain ⟨h1, h2, h3, h4, h5⟩ := h
  exact ⟨kc_congr h1 (fun _ _ => rfl) (fun a _ => am_u_ne _ _ (by omega)), sv_congr h2 (fun _ _ => rfl) (fun a _ => am_u_ne _ _ (by omega)), h3, h4, h5⟩
theorem i_and31 (x : Int32) : ∃ m, m < 32 ∧ x &&& nI 31 = nI m := by
  obtain ⟨k, h1, h2⟩ := pm_and x
  refine ⟨k % 32, by omega, ?_⟩
  have e : nI 255 &&& nI 31 = nI 31 := by decide +kernel
  have e2 : x &&& nI 31 = (x &&& nI 255) &&& nI 31 := by rw [Int32.and_assoc, e]
  rw [e2, h2]
  exact pk_andN (by omega) 5 (by decide +kernel)
def K_thr (K : am_K) : am_K := (K.1 + 1, K.2.1 + 6, K.2.2.1, K.2.2.2.1, K.2.2.2.2.1, K.2.2.2.2.2.1, K.2.2.2.2.2.2)
theorem tl_thr {K : am_K} (h : tl_ok K) : tl_ok (K_thr K) := by
  unfold tl_ok kl_ok sl_ok xl_ok wl_ok cl_ok rl_ok bl_ok pl_ok rl_ok at *
  exact h
theorem ml_thr {K : am_K} (h : ml_ok K) : ml_ok (K_thr K) := by
  unfold ml_ok at *
  exact h
section LW2
variable {L i : Nat} {xs : Nat → Int32} {K : am_K} {I : pm_I} {J : pm_J}
theorem law_13 (hL : L ≤ 2561) (hi : i + 5 ≤ L) (H : lwI L xs (K, I, J)) (hm : xs i &&& nI 31 = nI 13) : lwS L xs i (K, I, J) := by
  obtain ⟨p, T, t1, m1, s1, s2, o1, h1, h2⟩ := H
  have hc : decide ((nI (am_sl (K, I, J)) - nI 5) < nI i) = false := by
    rw [s1, pm_sub (by omega), pm_lt (by omega) (by omega)]
    exact decide_eq_false (by omega)
  have l0 := ld_S (I := I) (J := J) (k := i) s1 s2 hL (by omega)
  have l01 := ld_S (I := I) (J := J) (k := i + 1) s1 s2 hL (by omega)
  have l02 := ld_S (I := I) (J := J) (k := i + 2) s1 s2 hL (by omega)
  have g1 : am_is (K, I, J) 0 8 = true := pm_is t1.1
  have a1 := tc_got t1 h1 (xs (i + 1)) (xs (i + 2)) 8
  have o1 : pm_sh K 411 = (2, 1) := o1
  unfold lwS
  rw [e_l_L_law_33, hc, cond_false, l0, Option.bind_some, hm]
  simp (disch := omega) only [pm_eq, Nat.reduceEqDiff, decide_true, decide_false, cond_true, cond_false]
  cases hg : st_got (xs (i + 1)) (xs (i + 2)) T with
  | some b =>
    rw [hg] at a1
    change f_X8_got 9 0 (xs (i + 1)) (xs (i + 2)) (K, I, J) = some ((nI b, 0, none), (K, I, J)) at a1
    have g : f_L_got 10 0 (xs (i + 1)) (xs (i + 2)) 411 (K, I, J) = some ((nI 0, 0, none), (K, I, am_u J 411 0 (Int32.toInt64 (nI b)))) := by
      rw [show (10 : Nat) = 9 + 1 from rfl, e_L_got, g1, cond_true, a1, Option.bind_some]
      change (bif decide ((0 : Int64) = 0) then (am_stJ (K, I, J) 411 (nI 0) (Int32.toInt64 (nI b))).bind _ else _) = _
      rw [decide_eq_true rfl, cond_true, pm_stJ o1 (by omega) (by omega), Option.bind_some]
    have h2' : mt_at I (am_u J 411 0 (Int32.toInt64 (nI b))) p T := mt_J411 h2
    have b1 := m_got m1 h2' (xs (i + 1)) (xs (i + 2)) 9
    rw [hg] at b1
    change f_X9_got 10 370 (xs (i + 1)) (xs (i + 2)) (K, I, am_u J 411 0 (Int32.toInt64 (nI b))) = some ((nI b, 0, none), (K, am_u I 370 0 (nI 0), am_u J 411 0 (Int32.toInt64 (nI b)))) at b1
    have l11 := ld_S (I := I) (J := am_u J 411 0 (Int32.toInt64 (nI b))) (k := i + 1) s1 s2 hL (by omega)
    have l12 := ld_S (I := I) (J := am_u J 411 0 (Int32.toInt64 (nI b))) (k := i + 2) s1 s2 hL (by omega)
    have g2 : am_is (K, I, am_u J 411 0 (Int32.toInt64 (nI b))) 370 9 = true := pm_is m1.1
    have g3 : am_is (K, am_u I 370 0 (nI 0), am_u J 411 0 (Int32.toInt64 (nI b))) 370 9 = true := pm_is m1.1
    have th : f_X9_thrown 10 370 (K, am_u I 370 0 (nI 0), am_u J 411 0 (Int32.toInt64 (nI b))) = some ((nI 0, 0, none), (K, am_u I 370 0 (nI 0), am_u J 411 0 (Int32.toInt64 (nI b)))) := by
      rw [e_X9_thrown, pm_gI m1.1, Option.bind_some, am_u_self, if_pos rfl]
    have lj : am_ldJ (K, am_u I 370 0 (nI 0), am_u J 411 0 (Int32.toInt64 (nI b))) 411 (nI 0) = some (Int32.toInt64 (nI b)) := by
      rw [pm_ldJ o1 (by omega) (by omega), am_u_self, if_pos rfl]
    have hcmp : lg_cmp (Int32.toInt64 (nI b)) (Int32.toInt64 (nI b)) = nI 0 := (lg_cmp_eq _ _).mpr rfl
    simp only [pm_add, l01, l02, l11, l12, Option.bind_some, g, g2, g3, cond_true, b1, th, decide_true, not_true_eq_false, decide_false, cond_false, lj, hcmp]
    exact ⟨_, rfl, ⟨p, T, t1, m1, s1, s2, o1, tc_mf (tc_J411 h1) (mf_u (by omega)) (fun _ _ => rfl), mt_thrown h2' (nI 0)⟩, by show K.1 ≤ K.1 + 1; omega, by show K.2.1 ≤ K.2.1 + 6; omega⟩
  | none =>
    rw [hg] at a1
    change f_X8_got 9 0 (xs (i + 1)) (xs (i + 2)) (K, I, J) = some ((0, 1, none), (K, I, J)) at a1
    have g : f_L_got 10 0 (xs (i + 1)) (xs (i + 2)) 411 (K, I, J) = some ((nI 1, 0, none), (K_thr K, I, J)) := by
      rw [show (10 : Nat) = 9 + 1 from rfl, e_L_got, g1, cond_true, a1, Option.bind_some]
      change (bif decide ((1 : Int64) = 0) then _ else _) = _
      rw [decide_eq_false (by decide +kernel), cond_false]
      rfl
    have m1' := ml_thr m1
    have b1 := m_got m1' h2 (xs (i + 1)) (xs (i + 2)) 9
    rw [hg] at b1
    change f_X9_got 10 370 (xs (i + 1)) (xs (i + 2)) (K_thr K, I, J) = some ((nI 0, 0, none), (K_thr K, am_u I 370 0 (nI 1), J)) at b1
    have l11 := ld_S (K := K_thr K) (I := I) (J := J) (k := i + 1) s1 s2 hL (by omega)
    have l12 := ld_S (K := K_thr K) (I := I) (J := J) (k := i + 2) s1 s2 hL (by omega)
    have g2 : am_is (K_thr K, I, J) 370 9 = true := pm_is m1'.1
    have g3 : am_is (K_thr K, am_u I 370 0 (nI 1), J) 370 9 = true := pm_is m1'.1
    have th : f_X9_thrown 10 370 (K_thr K, am_u I 370 0 (nI 1), J) = some ((nI 1, 0, none), (K_thr K, am_u I 370 0 (nI 1), J)) := by
      rw [e_X9_thrown, pm_gI m1'.1, Option.bind_some, am_u_self, if_pos rfl]
    have hne : ¬ nI 1 = nI 0 := px_10
    simp only [pm_add, l01, l02, l11, l12, Option.bind_some, g, g2, g3, cond_true, b1, th, decide_true, hne, not_false_eq_true]
    exact ⟨_, rfl, ⟨p, T, tl_thr t1, m1', s1, s2, o1, tc_mf h1 (mf_u (by omega)) (fun _ _ => rfl), mt_thrown h2 (nI 1)⟩, by show K.1 + 1 ≤ K.1 + 1; omega, by show K.2.1 + 6 ≤ K.2.1 + 6; omega⟩
theorem law_x {m : Nat} (hL : L ≤ 2561) (hi : i + 5 ≤ L) (H : lwI L xs (K, I, J)) (hm : xs i &&& nI 31 = nI m) (h20 : 20 ≤ m) (h32 : m < 32) : lwS L xs i (K, I, J) := by
  have H' := H
  obtain ⟨p, T, t1, m1, s1, s2, o1, h1, h2⟩ := H
  have hc : decide ((nI (am_sl (K, I, J)) - nI 5) < nI i) = false := by
    rw [s1, pm_sub (by omega), pm_lt (by omega) (by omega)]
    exact decide_eq_false (by omega)
  have l0 := ld_S (I := I) (J := J) (k := i) s1 s2 hL (by omega)
  have hne : ∀ k, k < 20 → decide (nI m = nI k) = false := fun k hk => decide_eq_false (fun q => by have := (nI_eq (by omega) (by omega)).mp q; omega)
  unfold lwS
  rw [e_l_L_law_33, hc, cond_false, l0, Option.bind_some, hm]
  rw [hne 0 (by omega), cond_false, hne 1 (by omega), cond_false, hne 2 (by omega), cond_false, hne 3 (by omega), cond_false, hne 4 (by omega), cond_false, hne 5 (by omega), cond_false, hne 6 (by omega), cond_false, hne 7 (by omega), cond_false, hne 8 (by omega), cond_false, hne 9 (by omega), cond_false, hne 10 (by omega), cond_false, hne 11 (by omega), cond_false, hne 12 (by omega), cond_false, hne 13 (by omega), cond_false, hne 14 (by omega), cond_false, hne 15 (by omega), cond_false, hne 16 (by omega), cond_false, hne 17 (by omega), cond_false, hne 18 (by omega), cond_false, hne 19 (by omega), cond_false, pm_add]
  exact ⟨(K, I, J), rfl, H', by show K.1 ≤ K.1 + 1; omega, by show K.2.1 ≤ K.2.1 + 6; omega⟩
theorem law_step (hL : L ≤ 2561) (hi : i + 5 ≤ L) (H : lwI L xs (K, I, J)) : lwS L xs i (K, I, J) := by
  obtain ⟨m, hm, e⟩ := i_and31 (xs i)
  by_cases h20 : 20 ≤ m
  · exact law_x hL hi H e h20 hm
  · match m, h20, e with
    | 0, _, e => exact law_0 hL hi H e
    | 1, _, e => exact law_1 hL hi H e
    | 2, _, e => exact law_2 hL hi H e
    | 3, _, e => exact law_3 hL hi H e
    | 4, _, e => exact law_4 hL hi H e
    | 5, _, e => exact law_5 hL hi H e
    | 6, _, e => exact law_6 hL hi H e
    | 7, _, e => exact law_7 hL hi H e
    | 8, _, e => exact law_8 hL hi H e
    | 9, _, e => exact law_9 hL hi H e
    | 10, _, e => exact law_10 hL hi H e
    | 11, _, e => exact law_11 hL hi H e
    | 12, _, e => exact law_12 hL hi H e
    | 13, _, e => exact law_13 hL hi H e
    | 14, _, e => exact law_14 hL hi H e
    | 15, _, e => exact law_15 hL hi H e
    | 16, _, e => exact law_16 hL hi H e
    | 17, _, e => exact law_17 hL hi H e
    | 18, _, e => exact law_18 hL hi H e
    | 19, _, e => exact law_19 hL hi H e
    | m + 20, h20, _ => exact absurd (by omega) h20
theorem law_fin (hL : L ≤ 2561) (hi : L < i + 5) (hi1 : 1 ≤ i) (hi2 : i < 100000) (H : lwI L xs (K, I, J)) : l_L_law_33 (10 + 1) 0 370 411 (nI i) (K, I, J) = some ((nI 1, 0, none), (K, I, J)) := by
  obtain ⟨p, T, t1, m1, s1, s2, o1, h1, h2⟩ := H
  have hc : (nI (am_sl (K, I, J)) - nI 5) < nI i := by
    rw [s1]
    by_cases c : 5 ≤ L
    · rw [pm_sub c]
      exact nI_lt (by omega) (by omega)
    · have h0 : nI L - nI 5 < nI 0 := by
        have : L = 0 ∨ L = 1 ∨ L = 2 ∨ L = 3 ∨ L = 4 := by omega
        rcases this with rfl | rfl | rfl | rfl | rfl <;> decide +kernel
      exact Int32.lt_trans h0 (nI_lt (by omega) (by omega))
  rw [e_l_L_law_33, decide_eq_true hc, cond_true, pm_z1, cond_true]
end LW2
theorem law_loop {L : Nat} {xs : Nat → Int32} (hL : L ≤ 2561) : ∀ (n i : Nat) (σ : am_H), 1 ≤ i → L ≤ i + 5 * n + 4 → i + 5 * n < 100000 → lwI L xs σ → ∃ σ' : am_H, l_L_law_33 (10 + 1) 0 370 411 (nI i) σ = some ((nI 1, 0, none), σ') ∧ am_c σ' ≤ am_c σ + n ∧ am_s σ' ≤ am_s σ + 6 * n := by
  intro n
  induction n with
  | zero =>
    intro i σ h1 h2 h3 H
    obtain ⟨K, I, J⟩ := σ
    exact ⟨_, law_fin hL (by omega) h1 (by omega) H, by omega, by omega⟩
  | succ n ih =>
    intro i σ h1 h2 h3 H
    obtain ⟨K, I, J⟩ := σ
    by_cases c : L < i + 5
    · exact ⟨_, law_fin hL c h1 (by omega) H, by omega, by omega⟩
    · obtain ⟨σ1, a1, a2, a3, a4⟩ := law_step hL (show i + 5 ≤ L by omega) H
      obtain ⟨σ2, b1, b2, b3⟩ := ih (i + 5) σ1 (by omega) (by omega) (by omega) a2
      exact ⟨σ2, a1.trans b1, by omega, by omega⟩
theorem fX : QX.2.2.1 = 370 ∧ QX.1 = 370 ∧ (QR 40).2.2.1 = 411 ∧ (QR 40).1 = 411 := by decide +kernel
theorem cell_ok {L : Nat} (xs : Nat → Int32) (hL : L ≤ 2561) : ∃ x : Int32, ∀ (q : am_Q) (I : pm_I) (J : pm_J), f_L_cell 10 (nI 0) (qH q L xs I J) = some ((x, 0, none), qH q L xs I J) := by
  by_cases c : L ≤ 0
  · refine ⟨nI 0, fun q I J => ?_⟩
    rw [e_L_cell]
    change (bif decide (nI L ≤ nI 0) then _ else _) = _
    rw [pm_le (by omega) (by omega), decide_eq_true c, cond_true]
  · refine ⟨xs 0, fun q I J => ?_⟩
    rw [e_L_cell]
    change (bif decide (nI L ≤ nI 0) then _ else (am_ldS (qH q L xs I J) (nI 0)).bind _) = _
    rw [pm_le (by omega) (by omega), decide_eq_false c, cond_false]
    rw [show am_ldS (qH q L xs I J) (nI 0) = some (xs 0) from ld_S (K := (qH q L xs I J).1) (I := I) (J := J) (L := L) (k := 0) rfl rfl hL (by omega), Option.bind_some]
theorem lwI_mk {q : am_Q} {L : Nat} {xs : Nat → Int32} {I : pm_I} {J : pm_J} {p : Nat} {T : sT} (t : tl_ok (qH q L xs I J).1) (m : ml_ok (qH q L xs I J).1) (o : q.2.2.2.1 411 = (2, 1)) (h1 : tc_at I J p T) (h2 : mt_at I J p T) : lwI L xs (qH q L xs I J) := ⟨p, T, t, m, rfl, rfl, o, h1, h2⟩
/-- THE LAW ENDS WITH 1, in its room -/
theorem law_run {L : Nat} (xs : Nat → Int32) (hL : L ≤ 2561) : ∃ σ' : am_H, f_L_law 11 (am_s0 L xs) = some ((nI 1, 0, none), σ') ∧ am_c σ' ≤ 601024 ∧ am_s σ' ≤ 7293000 := by
  obtain ⟨x, hx⟩ := cell_ok xs hL
  obtain ⟨p, p1, p2, p3, p4, p5, p6⟩ := p_of x
  have o0 : qok (0, 0, 0, (fun _ => (99, 0)), (fun _ _ => none)) ZI ZJ := ⟨rfl, fun _ _ => rfl, fun _ _ => rfl⟩
  have o1 : qok QX (IV p 30) ZJ := qok_of fX.2.1 fX.1 (by omega)
  have o2 : qok (QR 40) (IS p) ZJ := by
    refine ⟨by rw [fX.2.2.1, fX.2.2.2], fun a ha => ?_, fun _ _ => rfl⟩
    rw [fX.2.2.1] at ha
    unfold IS
    rw [am_u_ne _ _ (by omega)]
    exact IV_hi (by omega) (by omega)
  obtain ⟨σ', a1, a2, a3⟩ := law_loop hL 512 1 (qH QW L xs (IS p) ZJ) (by omega) (by omega) (by omega) (lwI_mk (tl_of tl_W L xs _ _) (ml_of ml_W L xs _ _) fW.2.2.2 (tc_0 ⟨p1, p2⟩) (mt_0 ⟨p1, p2⟩))
  refine ⟨σ', ?_, ?_, ?_⟩
  · have i8 := i_X8 (L := L) (xs := xs) p3 7
    have i9 := i_X9 (L := L) (xs := xs) p4 p5 p6 10
    change f_X8_init 10 0 x (qH Q0 L xs ZI ZJ) = _ at i8
    rw [show (11 : Nat) = 10 + 1 from rfl, e_L_law]
    change (am_new (qH (0, 0, 0, (fun _ => (99, 0)), (fun _ _ => none)) L xs ZI ZJ) 8 7).bind _ = _
    rw [q_new o0, Option.bind_some]
    change (f_L_cell 10 (nI 0) (qH Q0 L xs ZI ZJ)).bind _ = _
    rw [hx, Option.bind_some]
    change (f_X8_init 10 0 x (qH Q0 L xs ZI ZJ)).bind _ = _
    rw [i8, Option.bind_some]
    change (am_new (qH QX L xs (IV p 30) ZJ) 9 50).bind _ = _
    rw [q_new o1, Option.bind_some, hx, Option.bind_some]
    change (f_X9_init 10 QX.2.2.1 x (qH (QR 0) L xs (IV p 30) ZJ)).bind _ = _
    rw [fX.1, i9, Option.bind_some]
    change (am_nwa (qH (QR 40) L xs (IS p) ZJ) 2 (nI 1)).bind _ = _
    rw [q_nwa o2 (by omega), Option.bind_some]
    change l_L_law_33 (10 + 1) 0 QX.2.2.1 (QR 40).2.2.1 (nI 1) (qH QW L xs (IS p) ZJ) = _
    rw [fX.1, fX.2.2.1]
    exact a1
  · have : am_c (qH QW L xs (IS p) ZJ) = 412 := fW.1
    omega
  · have : am_s (qH QW L xs (IS p) ZJ) ≤ 7000000 := fW.2.2.1
    omega
