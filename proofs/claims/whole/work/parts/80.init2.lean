/-! THE CONSTRUCTORS RUN -/
/-- the ints of the line, when i calls have been made -/
def IV (p i : Nat) : pm_I := fun a j => if j = 0 then (if a = 1 ∨ a = 5 then nI p else if a = 9 ∨ a = 11 then nI (4 + p) else if 15 ≤ a ∧ a < 15 + 5 * i ∧ (a - 15) % 5 = 0 then nI ((a - 15) / 5) else 0) else 0
def ZJ : pm_J := fun _ _ => 0
def ZI : pm_I := fun _ _ => 0
theorem IV_hi {p i a : Nat} (h : 12 ≤ a) (h2 : 15 + 5 * i ≤ a) : IV p i a = fun _ => 0 := by
  funext j
  unfold IV
  split
  · rw [if_neg (by omega), if_neg (by omega), if_neg (by omega)]
  · rfl
theorem IV_step (p i : Nat) : am_u (IV p i) (15 + 5 * i) 0 (nI i) = IV p (i + 1) := by
  funext a j
  rw [pm_u]
  unfold IV
  by_cases c1 : a = 15 + 5 * i
  · rw [if_pos c1]
    by_cases c2 : j = 0
    · rw [if_pos c2, if_pos c2, if_neg (by omega), if_neg (by omega), if_pos (by omega)]
      congr 1
      omega
    · rw [if_neg c2, if_neg c2, if_neg c2]
  · rw [if_neg c1]
    by_cases c2 : j = 0
    · rw [if_pos c2, if_pos c2]
      by_cases c3 : a = 1 ∨ a = 5
      · rw [if_pos c3, if_pos c3]
      · rw [if_neg c3, if_neg c3]
        by_cases c4 : a = 9 ∨ a = 11
        · rw [if_pos c4, if_pos c4]
        · rw [if_neg c4, if_neg c4]
          by_cases c5 : 15 ≤ a ∧ a < 15 + 5 * i ∧ (a - 15) % 5 = 0
          · rw [if_pos c5, if_pos (by omega)]
          · rw [if_neg c5, if_neg (by omega)]
    · rw [if_neg c2, if_neg c2]
theorem IV_0 (p : Nat) : am_u (am_u (am_u (am_u ZI 1 0 (nI p)) 5 0 (nI p)) 9 0 (nI 4 + nI p)) 11 0 (nI 4 + nI p) = IV p 0 := by
  funext a j
  rw [pm_add]
  simp only [pm_u]
  unfold IV ZI
  by_cases c2 : j = 0
  · rw [if_pos c2, if_pos c2, if_pos c2, if_pos c2, if_pos c2]
    by_cases c1 : a = 1
    · rw [if_neg (by omega), if_neg (by omega), if_neg (by omega), if_pos c1, if_pos (by omega)]
    · by_cases c3 : a = 5
      · rw [if_neg (by omega), if_neg (by omega), if_pos c3, if_pos (by omega)]
      · by_cases c4 : a = 9
        · rw [if_neg (by omega), if_pos c4, if_neg (by omega), if_pos (by omega)]
        · by_cases c5 : a = 11
          · rw [if_pos c5, if_neg (by omega), if_pos (by omega)]
          · rw [if_neg c5, if_neg c4, if_neg c3, if_neg c1, if_neg (by omega), if_neg (by omega), if_neg (by omega)]
  · rw [if_neg c2, if_neg c2, if_neg c2, if_neg c2, if_neg c2]
    simp only [ite_self]
section QI2
variable {L : Nat} {xs : Nat → Int32} {I : pm_I} {p : Nat}
theorem qokB {i : Nat} (hi : i < 30) : qok (QB i) (IV p i) ZJ := ⟨by rw [(fB i hi).1, (fB i hi).2.1], fun a ha => by rw [(fB i hi).1] at ha; exact IV_hi (by omega) ha, fun _ _ => rfl⟩
theorem i_loopB (d : Nat) : ∀ n i, i + n = 30 → l_X1_init_20 (d + 2) 13 (nI i) (qH (QB i) L xs (IV p i) ZJ) = some ((0, 0, none), qH (QB 30) L xs (IV p 30) ZJ) := by
  intro n
  induction n with
  | zero =>
    intro i hi
    obtain rfl : i = 30 := by omega
    rw [e_l_X1_init_20]
    rfl
  | succ n ih =>
    intro i hi
    have hi30 : i < 30 := by omega
    obtain ⟨f1, f2, f3, f4, f5⟩ := fB i hi30
    have hok := qokB (p := p) hi30
    have l14 : 14 < (QB i).2.2.1 := by rw [f1]; omega
    have hok2 : qok (qmk (QB i) 0 0 15) (IV p i) ZJ := qok_mk hok
    have hn : (QB i).2.2.1 < (qmk (QB i) 0 0 15).2.2.1 := by show (QB i).2.2.1 < (QB i).2.2.1 + 1; omega
    have s14 : (qX0 (QB i).2.2.1 (qmk (QB i) 0 0 15)).2.2.2.1 14 = (4, 30) := by
      unfold qX0 qX5
      rw [qsh_wR, qsh_lt (by show 14 < (QB i).2.2.1 + 1 + 1 + 1 + 1; omega), qsh_wR, qsh_lt (by show 14 < (QB i).2.2.1 + 1 + 1 + 1; omega), qsh_wR, qsh_wR, qsh_lt (by show 14 < (QB i).2.2.1 + 1 + 1; omega), qsh_lt (by show 14 < (QB i).2.2.1 + 1; omega), qsh_lt l14]
      exact f5
    have sn : (qX0 (QB i).2.2.1 (qmk (QB i) 0 0 15)).2.2.2.1 (QB i).2.2.1 = (0, 0) := by
      unfold qX0 qX5
      rw [qsh_wR, qsh_lt (by show (QB i).2.2.1 < (QB i).2.2.1 + 1 + 1 + 1 + 1; omega), qsh_wR, qsh_lt (by show (QB i).2.2.1 < (QB i).2.2.1 + 1 + 1 + 1; omega), qsh_wR, qsh_wR, qsh_lt (by show (QB i).2.2.1 < (QB i).2.2.1 + 1 + 1; omega), qsh_lt (by show (QB i).2.2.1 < (QB i).2.2.1 + 1; omega), qsh_self]
    have hr := ih (i + 1) (by omega)
    rw [e_l_X1_init_20, pm_le (by omega) (by omega), decide_eq_false (by omega), cond_false, q_gR f3 f4, Option.bind_some, q_new hok, Option.bind_some]
    change (f_X0_init (d + 1) (QB i).2.2.1 (nI i) (qH (qmk (QB i) 0 0 15) L xs (IV p i) ZJ)).bind _ = _
    rw [q_X0 hok2 qsh_self hn (nI i) d, Option.bind_some]
    change (am_stR (qH (qX0 (QB i).2.2.1 (qmk (QB i) 0 0 15)) L xs (am_u (IV p i) (QB i).2.2.1 0 (nI i)) ZJ) 14 0 (nI i) (QB i).2.2.1).bind _ = _
    rw [q_stR (n := 30) s14 sn hi30 (by omega), Option.bind_some, pm_add, f1, IV_step]
    exact hr
theorem qok_of {q : am_Q} {n : Nat} (h1 : q.1 = n) (h2 : q.2.2.1 = n) (h3 : 165 ≤ n) : qok q (IV p 30) ZJ := ⟨by rw [h1, h2], fun a ha => IV_hi (by omega) (by omega), fun _ _ => rfl⟩
theorem i_loopG (d : Nat) : ∀ n i, i + n = 30 → l_X6_init_101 (d + 2) 165 (nI i) (qH (QG i) L xs (IV p 30) ZJ) = some ((0, 0, none), qH (QG 30) L xs (IV p 30) ZJ) := by
  intro n
  induction n with
  | zero =>
    intro i hi
    obtain rfl : i = 30 := by omega
    rw [e_l_X6_init_101]
    rfl
  | succ n ih =>
    intro i hi
    have hi30 : i < 30 := by omega
    obtain ⟨f1, f2, f3, f4, f5, f6, f7⟩ := fG i hi30
    have hok : qok (QG i) (IV p 30) ZJ := qok_of f2 f1 (by omega)
    have hr := ih (i + 1) (by omega)
    have hok2 : qok (qmk (QG i) 0 2 3) (IV p 30) ZJ := qok_mk hok
    have hn : (QG i).2.2.1 < (qmk (QG i) 0 2 3).2.2.1 := by show (QG i).2.2.1 < (QG i).2.2.1 + 1; omega
    have lq : ∀ a, a < (QG i).2.2.1 → (qX2 (QG i).2.2.1 (qmk (QG i) 0 2 3)).2.2.2.1 a = (QG i).2.2.2.1 a := by
      intro a ha
      unfold qX2 qX5
      rw [qsh_wR, qsh_wR, qsh_lt (by show a < (QG i).2.2.1 + 1 + 1; omega), qsh_lt (by show a < (QG i).2.2.1 + 1; omega), qsh_lt ha]
    have sn : (qX2 (QG i).2.2.1 (qmk (QG i) 0 2 3)).2.2.2.1 (QG i).2.2.1 = (0, 2) := by
      unfold qX2 qX5
      rw [qsh_wR, qsh_wR, qsh_lt (by show (QG i).2.2.1 < (QG i).2.2.1 + 1 + 1; omega), qsh_lt (by show (QG i).2.2.1 < (QG i).2.2.1 + 1; omega), qsh_self]
    generalize hq1 : qwR (qX2 (QG i).2.2.1 (qmk (QG i) 0 2 3)) 168 i (QG i).2.2.1 = q1 at *
    have n1 : q1.2.2.1 = (QG i).2.2.1 + 3 := by rw [← hq1]; rfl
    have hokq : qok q1 (IV p 30) ZJ := by
      refine qok_of (n := (QG i).2.2.1 + 3) ?_ n1 (by omega)
      rw [← hq1]
      show (QG i).1 + 1 + 1 + 1 = _
      omega
    have sh1 : ∀ a, a < (QG i).2.2.1 → q1.2.2.2.1 a = (QG i).2.2.2.1 a := fun a ha => by rw [← hq1, qsh_wR]; exact lq a ha
    have r1 : q1.2.2.2.2 165 4 = some 169 := by
      rw [← hq1, f1]
      exact fG2 i hi30
    have hok3 : qok (qmk q1 0 4 4) (IV p 30) ZJ := qok_mk hokq
    have s9 : (qX4 q1.2.2.1 (qmk q1 0 4 4)).2.2.2.1 169 = (8, 30) := by
      unfold qX4
      rw [qsh_wR, qsh_lt (by show 169 < q1.2.2.1 + 1; omega), qsh_lt (by omega), sh1 169 (by omega)]
      exact f7
    have sn4 : (qX4 q1.2.2.1 (qmk q1 0 4 4)).2.2.2.1 q1.2.2.1 = (0, 4) := by
      unfold qX4
      rw [qsh_wR, qsh_lt (by show q1.2.2.1 < q1.2.2.1 + 1; omega), qsh_self]
    rw [e_l_X6_init_101, pm_le (by omega) (by omega), decide_eq_false (by omega), cond_false, q_gR f3 f4, Option.bind_some, q_new hok, Option.bind_some]
    change (f_X2_init (d + 1) (QG i).2.2.1 (qH (qmk (QG i) 0 2 3) L xs (IV p 30) ZJ)).bind _ = _
    rw [q_X2 hok2 qsh_self hn d, Option.bind_some]
    change (am_stR (qH (qX2 (QG i).2.2.1 (qmk (QG i) 0 2 3)) L xs (IV p 30) ZJ) 168 2 (nI i) (QG i).2.2.1).bind _ = _
    rw [q_stR (n := 30) (by rw [lq 168 (by omega)]; exact f5) sn hi30 (by omega), Option.bind_some, hq1, q_gR (by rw [sh1 165 (by omega)]; exact f3) r1, Option.bind_some, q_new hokq, Option.bind_some]
    change (f_X4_init (d + 1) q1.2.2.1 (qH (qmk q1 0 4 4) L xs (IV p 30) ZJ)).bind _ = _
    rw [q_X4 hok3 qsh_self (by show q1.2.2.1 < q1.2.2.1 + 1; omega) (d + 1), Option.bind_some]
    change (am_stR (qH (qX4 q1.2.2.1 (qmk q1 0 4 4)) L xs (IV p 30) ZJ) 169 4 (nI i) q1.2.2.1).bind _ = _
    rw [q_stR (n := 30) s9 sn4 hi30 (by omega), Option.bind_some, pm_add, ← hr]
    have e1 : qwR (qX4 q1.2.2.1 (qmk q1 0 4 4)) 169 i q1.2.2.1 = QG (i + 1) := by
      show _ = qwR (qX4 (223 + 5 * i) (qmk (qwR (qX2 (220 + 5 * i) (qmk (QG i) 0 2 3)) 168 i (220 + 5 * i)) 0 4 4)) 169 i (223 + 5 * i)
      rw [n1, ← hq1, f1]
      rw [show 220 + 5 * i + 3 = 223 + 5 * i by omega]
    rw [e1]
theorem i_loopE (d : Nat) : ∀ n i, i + n = 10 → l_X6_init_47 (d + 2) 165 (nI i) (qH (QE i) L xs (IV p 30) ZJ) = l_X6_init_74 (d + 2) 165 (nI 0) (qH (QE 10) L xs (IV p 30) ZJ) := by
  intro n
  induction n with
  | zero =>
    intro i hi
    obtain rfl : i = 10 := by omega
    rw [e_l_X6_init_47]
    rfl
  | succ n ih =>
    intro i hi
    have hi30 : i < 10 := by omega
    obtain ⟨f1, f2, f3, f4, f5⟩ := fE i hi30
    have hok : qok (QE i) (IV p 30) ZJ := qok_of f2 f1 (by omega)
    have hr := ih (i + 1) (by omega)
    have hok2 : qok (qmk (QE i) 0 2 3) (IV p 30) ZJ := qok_mk hok
    have hn : (QE i).2.2.1 < (qmk (QE i) 0 2 3).2.2.1 := by show (QE i).2.2.1 < (QE i).2.2.1 + 1; omega
    have lq : ∀ a, a < (QE i).2.2.1 → (qX2 (QE i).2.2.1 (qmk (QE i) 0 2 3)).2.2.2.1 a = (QE i).2.2.2.1 a := by
      intro a ha
      unfold qX2 qX5
      rw [qsh_wR, qsh_wR, qsh_lt (by show a < (QE i).2.2.1 + 1 + 1; omega), qsh_lt (by show a < (QE i).2.2.1 + 1; omega), qsh_lt ha]
    have sn : (qX2 (QE i).2.2.1 (qmk (QE i) 0 2 3)).2.2.2.1 (QE i).2.2.1 = (0, 2) := by
      unfold qX2 qX5
      rw [qsh_wR, qsh_wR, qsh_lt (by show (QE i).2.2.1 < (QE i).2.2.1 + 1 + 1; omega), qsh_lt (by show (QE i).2.2.1 < (QE i).2.2.1 + 1; omega), qsh_self]
    rw [e_l_X6_init_47, pm_le (by omega) (by omega), decide_eq_false (by omega), cond_false, q_gR f3 f4, Option.bind_some, q_new hok, Option.bind_some]
    change (f_X2_init (d + 1) (QE i).2.2.1 (qH (qmk (QE i) 0 2 3) L xs (IV p 30) ZJ)).bind _ = _
    rw [q_X2 hok2 qsh_self hn d, Option.bind_some]
    change (am_stR (qH (qX2 (QE i).2.2.1 (qmk (QE i) 0 2 3)) L xs (IV p 30) ZJ) 166 2 (nI i) (QE i).2.2.1).bind _ = _
    rw [q_stR (n := 10) (by rw [lq 166 (by omega)]; exact f5) sn hi30 (by omega), Option.bind_some, pm_add, f1]
    exact hr
theorem i_loopF (d : Nat) : ∀ n i, i + n = 10 → l_X6_init_74 (d + 2) 165 (nI i) (qH (QF i) L xs (IV p 30) ZJ) = l_X6_init_101 (d + 2) 165 (nI 0) (qH (QF 10) L xs (IV p 30) ZJ) := by
  intro n
  induction n with
  | zero =>
    intro i hi
    obtain rfl : i = 10 := by omega
    rw [e_l_X6_init_74]
    rfl
  | succ n ih =>
    intro i hi
    have hi30 : i < 10 := by omega
    obtain ⟨f1, f2, f3, f4, f5⟩ := fF i hi30
    have hok : qok (QF i) (IV p 30) ZJ := qok_of f2 f1 (by omega)
    have hr := ih (i + 1) (by omega)
    have hok2 : qok (qmk (QF i) 0 4 4) (IV p 30) ZJ := qok_mk hok
    have hn : (QF i).2.2.1 < (qmk (QF i) 0 4 4).2.2.1 := by show (QF i).2.2.1 < (QF i).2.2.1 + 1; omega
    have lq : ∀ a, a < (QF i).2.2.1 → (qX4 (QF i).2.2.1 (qmk (QF i) 0 4 4)).2.2.2.1 a = (QF i).2.2.2.1 a := by
      intro a ha
      unfold qX4
      rw [qsh_wR, qsh_lt (by show a < (QF i).2.2.1 + 1; omega), qsh_lt ha]
    have sn : (qX4 (QF i).2.2.1 (qmk (QF i) 0 4 4)).2.2.2.1 (QF i).2.2.1 = (0, 4) := by
      unfold qX4
      rw [qsh_wR, qsh_lt (by show (QF i).2.2.1 < (QF i).2.2.1 + 1; omega), qsh_self]
    rw [e_l_X6_init_74, pm_le (by omega) (by omega), decide_eq_false (by omega), cond_false, q_gR f3 f4, Option.bind_some, q_new hok, Option.bind_some]
    change (f_X4_init (d + 1) (QF i).2.2.1 (qH (qmk (QF i) 0 4 4) L xs (IV p 30) ZJ)).bind _ = _
    rw [q_X4 hok2 qsh_self hn (d + 1), Option.bind_some]
    change (am_stR (qH (qX4 (QF i).2.2.1 (qmk (QF i) 0 4 4)) L xs (IV p 30) ZJ) 167 4 (nI i) (QF i).2.2.1).bind _ = _
    rw [q_stR (n := 10) (by rw [lq 167 (by omega)]; exact f5) sn hi30 (by omega), Option.bind_some, pm_add, f1]
    exact hr
theorem fD : QC1.1 = 166 ∧ (QD0).1 = 170 ∧ QD0.2.2.1 = 170 := by decide +kernel
theorem i_X6 (d : Nat) : f_X6_init (d + 2) 165 5 (qH QC1 L xs (IV p 30) ZJ) = some ((0, 0, none), qH (QG 30) L xs (IV p 30) ZJ) := by
  have hn : QC1.2.2.1 = 166 := fA.2.2.2.2.2.2.1
  have hs : QC1.2.2.2.1 165 = (0, 6) := fA2.2.2.2.2.2.2.2.2.2.2.1
  have hok : qok QC1 (IV p 30) ZJ := qok_of fD.1 hn (by omega)
  rw [e_X6_init]
  generalize hq0 : QC1 = q0 at *
  have k0 : 165 < q0.2.2.1 := by omega
  rw [q_nwa hok (by omega), Option.bind_some]
  change (am_pR (qH (qmk q0 6 10 10) L xs (IV p 30) ZJ) 165 6 1 q0.2.2.1).bind _ = _
  rw [q_pR (by rw [qsh_lt k0]; exact hs), Option.bind_some]
  generalize hq1 : qwR (qmk q0 6 10 10) 165 1 q0.2.2.1 = q1
  have o1 : qok q1 (IV p 30) ZJ := by rw [← hq1]; exact qok_wR (qok_mk hok)
  have n1 : q1.2.2.1 = 167 := by rw [← hq1]; show q0.2.2.1 + 1 = 167; omega
  have s1 : q1.2.2.2.1 165 = (0, 6) := by rw [← hq1, qsh_wR, qsh_lt k0]; exact hs
  rw [q_nwa o1 (by omega), Option.bind_some]
  change (am_pR (qH (qmk q1 8 10 10) L xs (IV p 30) ZJ) 165 6 2 q1.2.2.1).bind _ = _
  rw [q_pR (by rw [qsh_lt (by omega)]; exact s1), Option.bind_some]
  generalize hq2 : qwR (qmk q1 8 10 10) 165 2 q1.2.2.1 = q2
  have o2 : qok q2 (IV p 30) ZJ := by rw [← hq2]; exact qok_wR (qok_mk o1)
  have n2 : q2.2.2.1 = 168 := by rw [← hq2]; show q1.2.2.1 + 1 = 168; omega
  have s2 : q2.2.2.2.1 165 = (0, 6) := by rw [← hq2, qsh_wR, qsh_lt (by omega)]; exact s1
  rw [q_nwa o2 (by omega), Option.bind_some]
  change (am_pR (qH (qmk q2 6 30 30) L xs (IV p 30) ZJ) 165 6 3 q2.2.2.1).bind _ = _
  rw [q_pR (by rw [qsh_lt (by omega)]; exact s2), Option.bind_some]
  generalize hq3 : qwR (qmk q2 6 30 30) 165 3 q2.2.2.1 = q3
  have o3 : qok q3 (IV p 30) ZJ := by rw [← hq3]; exact qok_wR (qok_mk o2)
  have n3 : q3.2.2.1 = 169 := by rw [← hq3]; show q2.2.2.1 + 1 = 169; omega
  have s3 : q3.2.2.2.1 165 = (0, 6) := by rw [← hq3, qsh_wR, qsh_lt (by omega)]; exact s2
  rw [q_nwa o3 (by omega), Option.bind_some]
  change (am_pR (qH (qmk q3 8 30 30) L xs (IV p 30) ZJ) 165 6 4 q3.2.2.1).bind _ = _
  rw [q_pR (by rw [qsh_lt (by omega)]; exact s3), Option.bind_some, q_pR (by rw [qsh_wR, qsh_lt (by omega)]; exact s3), Option.bind_some]
  have e0 : qwR (qwR (qmk q3 8 30 30) 165 4 q3.2.2.1) 165 0 5 = QE 0 := by
    show _ = QD0
    unfold QD0
    rw [hq0, n3, ← hq3, n2, ← hq2, n1, ← hq1, hn]
  rw [e0, i_loopE d 10 0 rfl]
  show l_X6_init_74 (d + 2) 165 (nI 0) (qH (QF 0) L xs (IV p 30) ZJ) = _
  rw [i_loopF d 10 0 rfl]
  exact i_loopG d 30 0 rfl
theorem IV_hi0 {p a : Nat} (h : 12 ≤ a) : IV p 0 a = fun _ => 0 := by
  funext j
  unfold IV
  split
  · rw [if_neg (by omega), if_neg (by omega), if_neg (by omega)]
  · rfl
theorem i_X1 (d : Nat) : f_X1_init (d + 2) 13 1 (qH QA9 L xs (IV p 0) ZJ) = some ((0, 0, none), qH (QB 30) L xs (IV p 30) ZJ) := by
  have hn : QA9.2.2.1 = 14 := fA.2.2.2.2.2.1
  have hs : QA9.2.2.2.1 13 = (0, 1) := fA2.2.2.2.2.2.2.2.2.2.1
  have hc : QA9.1 = 14 := by decide +kernel
  have hok : qok QA9 (IV p 0) ZJ := ⟨by rw [hc, hn], fun a ha => IV_hi0 (by omega), fun _ _ => rfl⟩
  have k0 : 13 < QA9.2.2.1 := by omega
  rw [e_X1_init, q_nwa hok (by omega), Option.bind_some]
  change (am_pR (qH (qmk QA9 4 30 30) L xs (IV p 0) ZJ) 13 1 1 QA9.2.2.1).bind _ = _
  rw [hn, q_pR (by rw [qsh_lt k0]; exact hs), Option.bind_some, q_pR (by rw [qsh_wR, qsh_lt k0]; exact hs), Option.bind_some]
  exact i_loopB d 30 0 rfl
theorem qokZ {q : am_Q} {n : Nat} (h1 : q.1 = n) (h2 : q.2.2.1 = n) (h3 : ∀ a, n ≤ a → I a = fun _ => 0) : qok q I ZJ := ⟨by rw [h1, h2], fun a ha => h3 a (by omega), fun _ _ => rfl⟩
theorem i_X8 {x : Int32} (hx : (if (nI 8) < (if x < (nI 40) then x else (nI 40)) then (if x < (nI 40) then x else (nI 40)) else (nI 8)) = nI p) (d : Nat) : f_X8_init (d + 3) 0 x (qH Q0 L xs ZI ZJ) = some ((0, 0, none), qH QX L xs (IV p 30) ZJ) := by
  have o0 : qok Q0 ZI ZJ := qokZ fA3.1 fA.1 (fun _ _ => rfl)
  rw [e_X8_init, hx, q_new o0, Option.bind_some]
  change (f_X7_init (d + 2) Q0.2.2.1 (nI p) (qH (qmk Q0 0 7 10) L xs ZI ZJ)).bind _ = _
  rw [fA.1, q_X7 (qok_mk o0) (by decide +kernel) (by decide +kernel) (nI p) (d + 2), Option.bind_some]
  change (am_pR (qH (qX7 1 (qmk Q0 0 7 10)) L xs (am_u ZI 1 0 (nI p)) ZJ) 0 8 0 Q0.2.2.1).bind _ = _
  rw [fA.1, q_pR (by decide +kernel), Option.bind_some, show qwR (qX7 1 (qmk Q0 0 7 10)) 0 0 1 = QA2 from rfl]
  have o1 : qok QA2 (am_u ZI 1 0 (nI p)) ZJ := qokZ fA3.2.1 fA.2.1 (fun a ha => by rw [am_u_ne _ _ (by omega)]; rfl)
  rw [q_new o1, Option.bind_some]
  change (f_X7_init (d + 2) QA2.2.2.1 (nI p) (qH (qmk QA2 0 7 10) L xs (am_u ZI 1 0 (nI p)) ZJ)).bind _ = _
  rw [fA.2.1, q_X7 (qok_mk o1) (by decide +kernel) (by decide +kernel) (nI p) (d + 2), Option.bind_some]
  change (am_pR (qH (qX7 5 (qmk QA2 0 7 10)) L xs (am_u (am_u ZI 1 0 (nI p)) 5 0 (nI p)) ZJ) 0 8 1 QA2.2.2.1).bind _ = _
  rw [fA.2.1, q_pR (by decide +kernel), Option.bind_some, show qwR (qX7 5 (qmk QA2 0 7 10)) 0 1 5 = QA4 from rfl]
  have o2 : qok QA4 (am_u (am_u ZI 1 0 (nI p)) 5 0 (nI p)) ZJ := qokZ fA3.2.2.1 fA.2.2.1 (fun a ha => by rw [am_u_ne _ _ (by omega), am_u_ne _ _ (by omega)]; rfl)
  rw [q_new o2, Option.bind_some]
  change (f_X3_init (d + 2) QA4.2.2.1 (nI p) (qH (qmk QA4 0 3 3) L xs (am_u (am_u ZI 1 0 (nI p)) 5 0 (nI p)) ZJ)).bind _ = _
  rw [fA.2.2.1, q_X3 (qok_mk o2) (by decide +kernel) (by decide +kernel) (nI p) (d + 2), Option.bind_some]
  change (am_pR (qH (qX3 9 (qmk QA4 0 3 3)) L xs (am_u (am_u (am_u ZI 1 0 (nI p)) 5 0 (nI p)) 9 0 (nI 4 + nI p)) ZJ) 0 8 2 QA4.2.2.1).bind _ = _
  rw [fA.2.2.1, q_pR (by decide +kernel), Option.bind_some, show qwR (qX3 9 (qmk QA4 0 3 3)) 0 2 9 = QA6 from rfl]
  have o3 : qok QA6 (am_u (am_u (am_u ZI 1 0 (nI p)) 5 0 (nI p)) 9 0 (nI 4 + nI p)) ZJ := qokZ fA3.2.2.2.1 fA.2.2.2.1 (fun a ha => by rw [am_u_ne _ _ (by omega), am_u_ne _ _ (by omega), am_u_ne _ _ (by omega)]; rfl)
  rw [q_new o3, Option.bind_some]
  change (f_X3_init (d + 2) QA6.2.2.1 (nI p) (qH (qmk QA6 0 3 3) L xs (am_u (am_u (am_u ZI 1 0 (nI p)) 5 0 (nI p)) 9 0 (nI 4 + nI p)) ZJ)).bind _ = _
  rw [fA.2.2.2.1, q_X3 (qok_mk o3) (by decide +kernel) (by decide +kernel) (nI p) (d + 2), Option.bind_some]
  change (am_pR (qH (qX3 11 (qmk QA6 0 3 3)) L xs (am_u (am_u (am_u (am_u ZI 1 0 (nI p)) 5 0 (nI p)) 9 0 (nI 4 + nI p)) 11 0 (nI 4 + nI p)) ZJ) 0 8 3 QA6.2.2.1).bind _ = _
  rw [fA.2.2.2.1, q_pR (by decide +kernel), Option.bind_some, show qwR (qX3 11 (qmk QA6 0 3 3)) 0 3 11 = QA8 from rfl, IV_0]
  have o4 : qok QA8 (IV p 0) ZJ := qokZ fA3.2.2.2.2.1 fA.2.2.2.2.1 (fun a ha => IV_hi0 (by omega))
  rw [q_new o4, Option.bind_some, show qmk QA8 0 1 4 = QA9 from rfl]
  rw [q_gR fA2.2.2.2.2.2.1 fA2.2.2.2.2.2.2.2.2.2.2.2.1, Option.bind_some]
  change (f_X1_init (d + 2) QA8.2.2.1 1 (qH QA9 L xs (IV p 0) ZJ)).bind _ = _
  rw [fA.2.2.2.2.1, i_X1 d, Option.bind_some]
  change (am_pR (qH (QB 30) L xs (IV p 30) ZJ) 0 8 4 QA8.2.2.1).bind _ = _
  rw [fA.2.2.2.2.1, q_pR fA2.2.2.2.2.2.2.1, Option.bind_some]
  have o5 : qok (qwR (QB 30) 0 4 13) (IV p 30) ZJ := qok_of (n := 165) (by decide +kernel) fA.2.2.2.2.2.2.2 (by omega)
  rw [q_new o5, Option.bind_some, show qmk (qwR (QB 30) 0 4 13) 0 6 6 = QC1 from rfl, q_gR fA2.2.2.2.2.2.2.2.1 fA2.2.2.2.2.2.2.2.2.2.2.2.2, Option.bind_some]
  change (f_X6_init (d + 2) (qwR (QB 30) 0 4 13).2.2.1 5 (qH QC1 L xs (IV p 30) ZJ)).bind _ = _
  rw [fA.2.2.2.2.2.2.2, i_X6 d, Option.bind_some]
  change (am_pR (qH (QG 30) L xs (IV p 30) ZJ) 0 8 5 (qwR (QB 30) 0 4 13).2.2.1).bind _ = _
  rw [fA.2.2.2.2.2.2.2, q_pR fA2.2.2.2.2.2.2.2.2.1, Option.bind_some]
  rfl
theorem okR {i : Nat} (hi : i < 41) : qok (QR i) (IV p 30) ZJ := qok_of (fR i hi).2.1 (fR i hi).1 (by omega)
theorem i_stepR {i t m f : Nat} {F : am_H → Option (am_r × am_H)} (hi : i < 40) (hm : m < 100000) {q' : am_Q} (hq : qwR (qmk (QR i) t m m) 370 f (371 + i) = q') : ((am_nwa (qH (QR i) L xs (IV p 30) ZJ) t (nI m)).bind fun s1 => (am_pR s1 370 9 f (am_n (qH (QR i) L xs (IV p 30) ZJ))).bind F) = F (qH q' L xs (IV p 30) ZJ) := by
  obtain ⟨f1, f2, f3⟩ := fR i (by omega)
  rw [q_nwa (okR (by omega)) hm, Option.bind_some]
  change (am_pR (qH (qmk (QR i) t m m) L xs (IV p 30) ZJ) 370 9 f (QR i).2.2.1).bind _ = _
  rw [f1, q_pR (by rw [qsh_lt (by omega)]; exact f3), Option.bind_some, hq]
theorem i_X9 {x : Int32} (h8 : ¬ nI 8 ≤ x → p = 8) (h40 : nI 8 ≤ x → ¬ x ≤ nI 40 → p = 40) (hp : nI 8 ≤ x → x ≤ nI 40 → x = nI p) (d : Nat) : f_X9_init d 370 x (qH (QR 0) L xs (IV p 30) ZJ) = some ((0, 0, none), qH (QR 40) L xs (am_u (IV p 30) 370 1 (nI p)) ZJ) := by
  have fl := (fR 40 (by omega)).2.2
  rw [e_X9_init]
  rw [i_stepR (i := 0) (t := 1) (m := 30) (f := 7) (q' := QR 1) (by omega) (by omega) rfl]
  rw [i_stepR (i := 1) (t := 1) (m := 30) (f := 8) (q' := QR 2) (by omega) (by omega) rfl]
  rw [i_stepR (i := 2) (t := 1) (m := 30) (f := 9) (q' := QR 3) (by omega) (by omega) rfl]
  rw [i_stepR (i := 3) (t := 1) (m := 30) (f := 10) (q' := QR 4) (by omega) (by omega) rfl]
  rw [i_stepR (i := 4) (t := 1) (m := 30) (f := 11) (q' := QR 5) (by omega) (by omega) rfl]
  rw [i_stepR (i := 5) (t := 3) (m := 30) (f := 12) (q' := QR 6) (by omega) (by omega) rfl]
  rw [i_stepR (i := 6) (t := 2) (m := 30) (f := 13) (q' := QR 7) (by omega) (by omega) rfl]
  rw [i_stepR (i := 7) (t := 2) (m := 30) (f := 14) (q' := QR 8) (by omega) (by omega) rfl]
  rw [i_stepR (i := 8) (t := 1) (m := 30) (f := 15) (q' := QR 9) (by omega) (by omega) rfl]
  rw [i_stepR (i := 9) (t := 1) (m := 1800) (f := 16) (q' := QR 10) (by omega) (by omega) rfl]
  rw [i_stepR (i := 10) (t := 1) (m := 30) (f := 17) (q' := QR 11) (by omega) (by omega) rfl]
  rw [i_stepR (i := 11) (t := 2) (m := 120) (f := 18) (q' := QR 12) (by omega) (by omega) rfl]
  rw [i_stepR (i := 12) (t := 3) (m := 120) (f := 19) (q' := QR 13) (by omega) (by omega) rfl]
  rw [i_stepR (i := 13) (t := 3) (m := 120) (f := 20) (q' := QR 14) (by omega) (by omega) rfl]
  rw [i_stepR (i := 14) (t := 1) (m := 30) (f := 21) (q' := QR 15) (by omega) (by omega) rfl]
  rw [i_stepR (i := 15) (t := 1) (m := 1800) (f := 22) (q' := QR 16) (by omega) (by omega) rfl]
  rw [i_stepR (i := 16) (t := 2) (m := 90) (f := 23) (q' := QR 17) (by omega) (by omega) rfl]
  rw [i_stepR (i := 17) (t := 2) (m := 10) (f := 26) (q' := QR 18) (by omega) (by omega) rfl]
  rw [i_stepR (i := 18) (t := 1) (m := 10) (f := 27) (q' := QR 19) (by omega) (by omega) rfl]
  rw [i_stepR (i := 19) (t := 1) (m := 600) (f := 28) (q' := QR 20) (by omega) (by omega) rfl]
  rw [i_stepR (i := 20) (t := 2) (m := 10) (f := 29) (q' := QR 21) (by omega) (by omega) rfl]
  rw [i_stepR (i := 21) (t := 2) (m := 30) (f := 30) (q' := QR 22) (by omega) (by omega) rfl]
  rw [i_stepR (i := 22) (t := 1) (m := 10) (f := 31) (q' := QR 23) (by omega) (by omega) rfl]
  rw [i_stepR (i := 23) (t := 3) (m := 30) (f := 32) (q' := QR 24) (by omega) (by omega) rfl]
  rw [i_stepR (i := 24) (t := 3) (m := 30) (f := 33) (q' := QR 25) (by omega) (by omega) rfl]
  rw [i_stepR (i := 25) (t := 2) (m := 30) (f := 34) (q' := QR 26) (by omega) (by omega) rfl]
  rw [i_stepR (i := 26) (t := 2) (m := 30) (f := 35) (q' := QR 27) (by omega) (by omega) rfl]
  rw [i_stepR (i := 27) (t := 2) (m := 90) (f := 36) (q' := QR 28) (by omega) (by omega) rfl]
  rw [i_stepR (i := 28) (t := 1) (m := 30) (f := 37) (q' := QR 29) (by omega) (by omega) rfl]
  rw [i_stepR (i := 29) (t := 1) (m := 1800) (f := 38) (q' := QR 30) (by omega) (by omega) rfl]
  rw [i_stepR (i := 30) (t := 1) (m := 30) (f := 39) (q' := QR 31) (by omega) (by omega) rfl]
  rw [i_stepR (i := 31) (t := 1) (m := 8400) (f := 40) (q' := QR 32) (by omega) (by omega) rfl]
  rw [i_stepR (i := 32) (t := 1) (m := 2) (f := 41) (q' := QR 33) (by omega) (by omega) rfl]
  rw [i_stepR (i := 33) (t := 1) (m := 2) (f := 42) (q' := QR 34) (by omega) (by omega) rfl]
  rw [i_stepR (i := 34) (t := 1) (m := 1800) (f := 43) (q' := QR 35) (by omega) (by omega) rfl]
  rw [i_stepR (i := 35) (t := 1) (m := 2) (f := 44) (q' := QR 36) (by omega) (by omega) rfl]
  rw [i_stepR (i := 36) (t := 1) (m := 2) (f := 45) (q' := QR 37) (by omega) (by omega) rfl]
  rw [i_stepR (i := 37) (t := 1) (m := 128) (f := 46) (q' := QR 38) (by omega) (by omega) rfl]
  rw [i_stepR (i := 38) (t := 1) (m := 2) (f := 47) (q' := QR 39) (by omega) (by omega) rfl]
  rw [i_stepR (i := 39) (t := 1) (m := 64) (f := 48) (q' := QR 40) (by omega) (by omega) rfl]
  by_cases c1 : nI 8 ≤ x
  · rw [decide_eq_true c1, cond_true]
    by_cases c2 : x ≤ nI 40
    · rw [decide_eq_true c2, cond_true, q_pI fl, Option.bind_some, ← hp c1 c2]
    · rw [decide_eq_false c2, cond_false, q_pI fl, Option.bind_some, h40 c1 c2]
  · rw [decide_eq_false c1, cond_false, q_pI fl, Option.bind_some, h8 c1]
end QI2
