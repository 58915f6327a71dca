/-! THE CLASS'S ROWS AND INBOXES -/
theorem wl_snoc {I : pm_I} {a p b : Nat} {l : List Nat} (h : wl_at I a p l) : wl_at (am_u I a (p + l.length) (nI b)) a p (l ++ [b]) := by
  intro i hi
  simp at hi
  rw [wl_append_at]
  simp only [pm_u]
  rw [if_pos trivial]
  by_cases h1 : i < l.length
  · rw [if_neg (by omega), if_pos h1]
    exact h i h1
  · obtain rfl : i = l.length := by omega
    simp
theorem rc_append {K : am_K} {I : pm_I} {J : pm_J} {r b : Nat} {row : List Nat} (M : rl_ok K r) (h : rc_at I r row) (hb : b < 256) (hl : row.length < 60) (d : Nat) :
    ∃ I' : pm_I, f_X5_append d r (nI b) (K, I, J) = some ((nI 1, 0, none), (K, I', J)) ∧ rc_at I' r (row ++ [b]) ∧ pm_fr I I' r 2 := by
  obtain ⟨M0, M1, M2⟩ := M
  obtain ⟨h1, h2, h3, h4⟩ := h
  rw [e_X5_append]
  simp (disch := first | assumption | omega) only [pm_gI, pm_gJ, pm_gR, pm_pI, pm_pZ, pm_pJ, pm_ldI, pm_ldJ, pm_ldR, pm_stI, pm_stZ, pm_stJ, pm_pZ0, pm_pZ1, pm_stZ0, pm_stZ1, pm_len, pm_cpyI, pm_cpyJ, pm_is, Option.bind_some, pm_u, pm_ur, pm_lt, pm_le, pm_eq, pm_ne, pm_add, pm_sub, pm_z0, pm_z1, cond_true, cond_false, decide_true, decide_false, not_false_eq_true, not_true_eq_false, reduceIte, Nat.reduceEqDiff, Nat.add_eq_left, Nat.left_eq_add, Nat.add_left_cancel_iff, Nat.one_ne_zero, am_cs, h1, hl]
  refine ⟨_, rfl, ⟨?_, ?_, ?_, ?_⟩, fun a ha => ?_⟩
  · simp [pm_u]
  · simp
    omega
  · have := wl_snoc (b := b) h3
    rw [Nat.zero_add] at this
    intro i hi
    rw [am_u_ne _ _ (show r + 1 ≠ r by omega)]
    exact this i hi
  · intro x hx
    rcases List.mem_append.mp hx with hx | hx
    · exact h4 x hx
    · obtain rfl : x = b := by simpa using hx
      exact hb
  · rw [am_u_ne _ _ (by omega), am_u_ne _ _ (by omega)]
theorem rc_append0 {K : am_K} {I : pm_I} {J : pm_J} {r : Nat} {row : List Nat} (M : rl_ok K r) (h : rc_at I r row) (hl : row.length = 60) (x : Int32) (d : Nat) :
    f_X5_append d r x (K, I, J) = some ((nI 0, 0, none), (K, I, J)) := by
  obtain ⟨M0, M1, M2⟩ := M
  obtain ⟨h1, h2, h3, h4⟩ := h
  rw [e_X5_append]
  rw [hl] at h1
  simp (disch := first | assumption | omega) only [pm_gI, pm_gJ, pm_gR, pm_pI, pm_pZ, pm_pJ, pm_ldI, pm_ldJ, pm_ldR, pm_stI, pm_stZ, pm_stJ, pm_pZ0, pm_pZ1, pm_stZ0, pm_stZ1, pm_len, pm_cpyI, pm_cpyJ, pm_is, Option.bind_some, pm_u, pm_ur, pm_lt, pm_le, pm_eq, pm_ne, pm_add, pm_sub, pm_z0, pm_z1, cond_true, cond_false, decide_true, decide_false, not_false_eq_true, not_true_eq_false, reduceIte, Nat.reduceEqDiff, Nat.add_eq_left, Nat.left_eq_add, Nat.add_left_cancel_iff, Nat.one_ne_zero, am_cs, h1, Nat.lt_irrefl]
theorem rc_copy {K : am_K} {I : pm_I} {J : pm_J} {r s : Nat} {row : List Nat} (M : rl_ok K r) (N : rl_ok K s) (h : rc_at I s row) (hne : r + 2 ≤ s ∨ s + 2 ≤ r) (d : Nat) :
    ∃ I' : pm_I, f_X5_copyOf d r s (K, I, J) = some ((0, 0, none), (K, I', J)) ∧ rc_at I' r row ∧ pm_fr I I' r 2 := by
  obtain ⟨M0, M1, M2⟩ := M
  obtain ⟨N0, N1, N2⟩ := N
  obtain ⟨h1, h2, h3, h4⟩ := h
  rw [e_X5_copyOf]
  have e1 : am_ur I (r + 1) (va_cpy (I (s + 1)) (I (r + 1)) 0 0 row.length) s 1 = nI row.length := by
    rw [am_ur_ne _ _ (by omega)]
    exact h1
  simp (disch := first | assumption | omega) only [pm_gI, pm_gJ, pm_gR, pm_pI, pm_pZ, pm_pJ, pm_ldI, pm_ldJ, pm_ldR, pm_stI, pm_stZ, pm_stJ, pm_pZ0, pm_pZ1, pm_stZ0, pm_stZ1, pm_len, pm_cpyI, pm_cpyJ, pm_is, Option.bind_some, pm_u, pm_ur, pm_lt, pm_le, pm_eq, pm_ne, pm_add, pm_sub, pm_z0, pm_z1, cond_true, cond_false, decide_true, decide_false, not_false_eq_true, not_true_eq_false, reduceIte, Nat.reduceEqDiff, Nat.add_eq_left, Nat.left_eq_add, Nat.add_left_cancel_iff, Nat.one_ne_zero, am_cs, h1]
  rw [if_neg (by omega)]
  simp (disch := first | assumption | omega) only [pm_gI, pm_gJ, pm_gR, pm_pI, pm_pZ, pm_pJ, pm_ldI, pm_ldJ, pm_ldR, pm_stI, pm_stZ, pm_stJ, pm_pZ0, pm_pZ1, pm_stZ0, pm_stZ1, pm_len, pm_cpyI, pm_cpyJ, pm_is, Option.bind_some, pm_u, pm_ur, pm_lt, pm_le, pm_eq, pm_ne, pm_add, pm_sub, pm_z0, pm_z1, cond_true, cond_false, decide_true, decide_false, not_false_eq_true, not_true_eq_false, reduceIte, Nat.reduceEqDiff, Nat.add_eq_left, Nat.left_eq_add, Nat.add_left_cancel_iff, Nat.one_ne_zero, am_cs, h1]
  refine ⟨_, rfl, ⟨?_, h2, fun i hi => ?_, h4⟩, fun a ha => ?_⟩
  · simp [pm_u]
  · rw [am_u_ne _ _ (show r + 1 ≠ r by omega), am_ur_self]
    unfold va_cpy
    rw [if_pos (by omega)]
    have := h3 i hi
    simpa using this
  · rw [am_u_ne _ _ (by omega), am_ur_ne _ _ (by omega)]
/-- a row's digest -/
def sd_dig (row : List Nat) : Int64 := row.foldl (fun v b => (v ^^^ (Int32.toInt64 (nI b))) * (lN 1099511628211)) (Int32.toInt64 (nI row.length))
theorem rc_digLoop {K : am_K} {I : pm_I} {J : pm_J} {r : Nat} {row : List Nat} (M : rl_ok K r) (h : rc_at I r row) (d : Nat) : ∀ (n i : Nat) (v : Int64), i + n = row.length →
    l_X5_digest_8 d r v (nI i) (K, I, J) = some ((0, (row.drop i).foldl (fun v b => (v ^^^ (Int32.toInt64 (nI b))) * (lN 1099511628211)) v, none), (K, I, J)) := by
  obtain ⟨M0, M1, M2⟩ := M
  obtain ⟨h1, h2, h3, h4⟩ := h
  intro n
  induction n with
  | zero =>
    intro i v hi
    rw [e_l_X5_digest_8]
    have hle : row.length ≤ i := by omega
    simp (disch := first | assumption | omega) only [pm_gI, pm_gJ, pm_gR, pm_pI, pm_pZ, pm_pJ, pm_ldI, pm_ldJ, pm_ldR, pm_stI, pm_stZ, pm_stJ, pm_pZ0, pm_pZ1, pm_stZ0, pm_stZ1, pm_len, pm_cpyI, pm_cpyJ, pm_is, Option.bind_some, pm_u, pm_ur, pm_lt, pm_le, pm_eq, pm_ne, pm_add, pm_sub, pm_z0, pm_z1, cond_true, cond_false, decide_true, decide_false, not_false_eq_true, not_true_eq_false, reduceIte, Nat.reduceEqDiff, Nat.add_eq_left, Nat.left_eq_add, Nat.add_left_cancel_iff, Nat.one_ne_zero, am_cs, h1, hle]
    rw [List.drop_of_length_le hle]
    rfl
  | succ n ih =>
    intro i v hi
    rw [e_l_X5_digest_8]
    have hle : ¬ row.length ≤ i := by omega
    have hb := h3 i (by omega)
    rw [Nat.zero_add] at hb
    simp (disch := first | assumption | omega) only [pm_gI, pm_gJ, pm_gR, pm_pI, pm_pZ, pm_pJ, pm_ldI, pm_ldJ, pm_ldR, pm_stI, pm_stZ, pm_stJ, pm_pZ0, pm_pZ1, pm_stZ0, pm_stZ1, pm_len, pm_cpyI, pm_cpyJ, pm_is, Option.bind_some, pm_u, pm_ur, pm_lt, pm_le, pm_eq, pm_ne, pm_add, pm_sub, pm_z0, pm_z1, cond_true, cond_false, decide_true, decide_false, not_false_eq_true, not_true_eq_false, reduceIte, Nat.reduceEqDiff, Nat.add_eq_left, Nat.left_eq_add, Nat.add_left_cancel_iff, Nat.one_ne_zero, am_cs, h1, hle, hb]
    rw [ih (i + 1) _ (by omega)]
    have hd : row.drop i = row.getD i 0 :: row.drop (i + 1) := by
      rw [List.drop_eq_getElem_cons (by omega)]
      simp [show i < row.length by omega]
    rw [hd]
    rfl
theorem rc_digest {K : am_K} {I : pm_I} {J : pm_J} {r : Nat} {row : List Nat} (M : rl_ok K r) (h : rc_at I r row) (d : Nat) :
    f_X5_digest d r (K, I, J) = some ((0, sd_dig row, none), (K, I, J)) := by
  have := rc_digLoop (J := J) M h d row.length 0 (Int32.toInt64 (nI row.length)) (by omega)
  obtain ⟨M0, M1, M2⟩ := M
  obtain ⟨h1, h2, h3, h4⟩ := h
  rw [e_X5_digest]
  simp (disch := first | assumption | omega) only [pm_gI, pm_gJ, pm_gR, pm_pI, pm_pZ, pm_pJ, pm_ldI, pm_ldJ, pm_ldR, pm_stI, pm_stZ, pm_stJ, pm_pZ0, pm_pZ1, pm_stZ0, pm_stZ1, pm_len, pm_cpyI, pm_cpyJ, pm_is, Option.bind_some, pm_u, pm_ur, pm_lt, pm_le, pm_eq, pm_ne, pm_add, pm_sub, pm_z0, pm_z1, cond_true, cond_false, decide_true, decide_false, not_false_eq_true, not_true_eq_false, reduceIte, Nat.reduceEqDiff, Nat.add_eq_left, Nat.left_eq_add, Nat.add_left_cancel_iff, Nat.one_ne_zero, am_cs, h1]
  exact this
/-- an inbox's cells; what an inbox holds; a whole frame in it -/
def xl_ok (K : am_K) (x : Nat) : Prop := pm_sh K x = (0, 3) ∧ pm_sh K (x + 1) = (1, 45) ∧ pm_R K x 1 = some (x + 1)
def xc_at (I : pm_I) (x p : Nat) (g : List Nat) : Prop := I x 0 = nI (4 + p) ∧ I x 2 = nI g.length ∧ g.length ≤ 45 ∧ wl_at I (x + 1) 0 g ∧ ∀ b ∈ g, b < 256
def xf_at (I : pm_I) (x c k pl : Nat) (dat : List Nat) : Prop := I (x + 1) 0 = nI (4 + dat.length) ∧ I (x + 1) 1 = nI c ∧ I (x + 1) 2 = nI k ∧ I (x + 1) 3 = nI pl ∧ wl_at I (x + 1) 4 dat ∧ dat.length ≤ 40 ∧ (∀ b ∈ dat, b < 256) ∧ c < 256 ∧ k < 256 ∧ pl < 256
theorem xc_congr {I I' : pm_I} {x p : Nat} {g : List Nat} (h : xc_at I x p g) (e0 : I' x = I x) (e1 : I' (x + 1) = I (x + 1)) : xc_at I' x p g := by
  obtain ⟨h0, h1, h2, h3, h4⟩ := h
  refine ⟨by rw [e0]; exact h0, by rw [e0]; exact h1, h2, fun i hi => ?_, h4⟩
  rw [e1]
  exact h3 i hi
theorem xf_congr {I I' : pm_I} {x c k pl : Nat} {dat : List Nat} (h : xf_at I x c k pl dat) (e1 : I' (x + 1) = I (x + 1)) : xf_at I' x c k pl dat := by
  obtain ⟨h0, h1, h2, h3, h4, h5⟩ := h
  refine ⟨by rw [e1]; exact h0, by rw [e1]; exact h1, by rw [e1]; exact h2, by rw [e1]; exact h3, fun i hi => ?_, h5⟩
  rw [e1]
  exact h4 i hi
theorem xc_clear {K : am_K} {I : pm_I} {J : pm_J} {x p : Nat} (M : xl_ok K x) (h : I x 0 = nI (4 + p)) (d : Nat) :
    ∃ I' : pm_I, f_X3_clear d x (K, I, J) = some ((0, 0, none), (K, I', J)) ∧ xc_at I' x p [] ∧ pm_fr I I' x 1 := by
  obtain ⟨M0, M1, M2⟩ := M
  rw [e_X3_clear]
  simp (disch := first | assumption | omega) only [pm_gI, pm_gJ, pm_gR, pm_pI, pm_pZ, pm_pJ, pm_ldI, pm_ldJ, pm_ldR, pm_stI, pm_stZ, pm_stJ, pm_pZ0, pm_pZ1, pm_stZ0, pm_stZ1, pm_len, pm_cpyI, pm_cpyJ, pm_is, Option.bind_some, pm_u, pm_ur, pm_lt, pm_le, pm_eq, pm_ne, pm_add, pm_sub, pm_z0, pm_z1, cond_true, cond_false, decide_true, decide_false, not_false_eq_true, not_true_eq_false, reduceIte, Nat.reduceEqDiff, Nat.add_eq_left, Nat.left_eq_add, Nat.add_left_cancel_iff, Nat.one_ne_zero, am_cs]
  refine ⟨_, rfl, ⟨?_, ?_, by simp, fun i hi => absurd hi (by simp), by simp⟩, fun a ha => ?_⟩
  · simp [pm_u, h]
  · simp [pm_u]
  · rw [am_u_ne _ _ (by omega)]
/-- what comes of a byte that is gathered: 0 more is to come, 1 a frame is whole, 2 the line is broken -/
def sg_code (p : Nat) (g : List Nat) (b : Nat) : Nat := if g = [] ∧ (b < 4 ∨ 4 + p < b) then 2 else if g.length + 1 ≤ (g ++ [b]).getD 0 0 then 0 else if b = g.sum % 256 then 1 else 2
/-- what gathered bytes keep to -/
def sg_ok (p : Nat) (g : List Nat) : Prop := g = [] ∨ (4 ≤ g.getD 0 0 ∧ g.getD 0 0 ≤ 4 + p ∧ g.length ≤ g.getD 0 0)
theorem xc_gather {K : am_K} {I : pm_I} {J : pm_J} {x p b : Nat} {g : List Nat} (M : xl_ok K x) (h : xc_at I x p g) (hg : sg_ok p g) (hp : p ≤ 40) (hb : b < 256) (d : Nat) :
    ∃ I' : pm_I, f_X3_gather (d + 1) x (nI b) (K, I, J) = some ((nI (sg_code p g b), 0, none), (K, I', J)) ∧ I' x 0 = nI (4 + p) ∧ (sg_code p g b ≠ 2 → xc_at I' x p (g ++ [b])) ∧ pm_fr I I' x 2 := by
  obtain ⟨M0, M1, M2⟩ := M
  obtain ⟨h0, h1, h2, h3, h4⟩ := h
  have hlen : g.length ≤ 44 := by
    rcases hg with rfl | hg
    · simp
    · omega
  have hrest : ¬ (g = [] ∧ (b < 4 ∨ 4 + p < b)) → ∃ I' : pm_I, l_X3_gather_20 (d + 1) x (nI b) (K, I, J) = some ((nI (sg_code p g b), 0, none), (K, I', J)) ∧ I' x 0 = nI (4 + p) ∧ (sg_code p g b ≠ 2 → xc_at I' x p (g ++ [b])) ∧ pm_fr I I' x 2 := by
    intro hc
    have hsn := wl_snoc (b := b) h3
    rw [Nat.zero_add] at hsn
    have hfst := hsn 0 (by simp)
    rw [am_u_self] at hfst
    have hlst := hsn g.length (by simp)
    rw [am_u_self] at hlst
    have e0 : (if 0 = g.length then nI b else I (x + 1) 0) = nI ((g ++ [b]).getD 0 0) := hfst
    have hg0 : (g ++ [b]).getD 0 0 < 256 := by
      rw [wl_append_at]
      split
      · next hh =>
        have : g.getD 0 0 ∈ g := by
          rw [List.getD_eq_getElem?_getD, List.getElem?_eq_getElem hh]
          exact List.getElem_mem _
        exact h4 _ this
      · simp; omega
    have hgs : g.sum < 100000 := by have := wl_sum_bd h4; omega
    have hsum : f_X8_sumOf d (x + 1) (nI 0) (nI g.length) (K, am_u (am_u I (x + 1) g.length (nI b)) x 2 (nI (g.length + 1)), J) = some ((nI (g.sum % 256), 0, none), (K, am_u (am_u I (x + 1) g.length (nI b)) x 2 (nI (g.length + 1)), J)) := by
      have := wl_sumOf (K := K) (J := J) (I := am_u (am_u I (x + 1) g.length (nI b)) x 2 (nI (g.length + 1))) (a := x + 1) (p := 0) (n := 45) (l := g) M1 (fun i hi => by
        rw [am_u_ne _ _ (show x + 1 ≠ x by omega), am_u_self, if_neg (by omega)]
        exact h3 i hi) (by omega) (by omega) hgs d
      rw [Nat.zero_add] at this
      exact this
    rw [e_l_X3_gather_20]
    have hl45 : g.length < 45 := by omega
    simp (disch := first | assumption | omega) only [pm_gI, pm_gJ, pm_gR, pm_pI, pm_pZ, pm_pJ, pm_ldI, pm_ldJ, pm_ldR, pm_stI, pm_stZ, pm_stJ, pm_pZ0, pm_pZ1, pm_stZ0, pm_stZ1, pm_len, pm_cpyI, pm_cpyJ, pm_is, Option.bind_some, pm_u, pm_ur, pm_lt, pm_le, pm_eq, pm_ne, pm_add, pm_sub, pm_z0, pm_z1, cond_true, cond_false, decide_true, decide_false, not_false_eq_true, not_true_eq_false, reduceIte, Nat.reduceEqDiff, Nat.add_eq_left, Nat.left_eq_add, Nat.add_left_cancel_iff, Nat.one_ne_zero, am_cs, h1, hl45]
    rw [e0, Nat.add_sub_cancel, if_pos rfl, hsum]
    unfold sg_code
    rw [if_neg hc]
    have hx : xc_at (am_u (am_u I (x + 1) g.length (nI b)) x 2 (nI (g.length + 1))) x p (g ++ [b]) := by
      refine ⟨?_, ?_, ?_, ?_, ?_⟩
      · simp [pm_u, h0]
      · simp [pm_u]
      · simp
        omega
      · intro i hi
        rw [am_u_ne _ _ (show x + 1 ≠ x by omega)]
        exact hsn i hi
      · intro y hy
        rcases List.mem_append.mp hy with hy | hy
        · exact h4 y hy
        · obtain rfl : y = b := by simpa using hy
          exact hb
    have hfr : pm_fr I (am_u (am_u I (x + 1) g.length (nI b)) x 2 (nI (g.length + 1))) x 2 := fun a ha => by rw [am_u_ne _ _ (by omega), am_u_ne _ _ (by omega)]
    by_cases c1 : g.length + 1 ≤ (g ++ [b]).getD 0 0
    · rw [if_pos c1, pm_lt (by omega) (by omega), decide_eq_false (by omega)]
      exact ⟨_, rfl, hx.1, fun _ => hx, hfr⟩
    · rw [if_neg c1, pm_lt (by omega) (by omega), decide_eq_true (by omega)]
      by_cases c2 : b = g.sum % 256
      · rw [if_pos c2]
        simp (disch := first | assumption | omega) only [pm_gI, pm_gJ, pm_gR, pm_pI, pm_pZ, pm_pJ, pm_ldI, pm_ldJ, pm_ldR, pm_stI, pm_stZ, pm_stJ, pm_pZ0, pm_pZ1, pm_stZ0, pm_stZ1, pm_len, pm_cpyI, pm_cpyJ, pm_is, Option.bind_some, pm_u, pm_ur, pm_lt, pm_le, pm_eq, pm_ne, pm_add, pm_sub, pm_z0, pm_z1, cond_true, cond_false, decide_true, decide_false, not_false_eq_true, not_true_eq_false, reduceIte, Nat.reduceEqDiff, Nat.add_eq_left, Nat.left_eq_add, Nat.add_left_cancel_iff, Nat.one_ne_zero, am_cs]
        rw [decide_eq_false (by omega)]
        exact ⟨_, rfl, hx.1, fun _ => hx, hfr⟩
      · rw [if_neg c2]
        simp (disch := first | assumption | omega) only [pm_gI, pm_gJ, pm_gR, pm_pI, pm_pZ, pm_pJ, pm_ldI, pm_ldJ, pm_ldR, pm_stI, pm_stZ, pm_stJ, pm_pZ0, pm_pZ1, pm_stZ0, pm_stZ1, pm_len, pm_cpyI, pm_cpyJ, pm_is, Option.bind_some, pm_u, pm_ur, pm_lt, pm_le, pm_eq, pm_ne, pm_add, pm_sub, pm_z0, pm_z1, cond_true, cond_false, decide_true, decide_false, not_false_eq_true, not_true_eq_false, reduceIte, Nat.reduceEqDiff, Nat.add_eq_left, Nat.left_eq_add, Nat.add_left_cancel_iff, Nat.one_ne_zero, am_cs]
        rw [decide_eq_true c2]
        exact ⟨_, rfl, hx.1, fun hh => absurd rfl hh, hfr⟩
  rw [e_X3_gather]
  simp (disch := first | assumption | omega) only [pm_gI, pm_gJ, pm_gR, pm_pI, pm_pZ, pm_pJ, pm_ldI, pm_ldJ, pm_ldR, pm_stI, pm_stZ, pm_stJ, pm_pZ0, pm_pZ1, pm_stZ0, pm_stZ1, pm_len, pm_cpyI, pm_cpyJ, pm_is, Option.bind_some, pm_u, pm_ur, pm_lt, pm_le, pm_eq, pm_ne, pm_add, pm_sub, pm_z0, pm_z1, cond_true, cond_false, decide_true, decide_false, not_false_eq_true, not_true_eq_false, reduceIte, Nat.reduceEqDiff, Nat.add_eq_left, Nat.left_eq_add, Nat.add_left_cancel_iff, Nat.one_ne_zero, am_cs, h1, h0]
  by_cases hc : g = [] ∧ (b < 4 ∨ 4 + p < b)
  · obtain ⟨rfl, hc⟩ := hc
    have hcode : sg_code p [] b = 2 := by
      unfold sg_code
      rw [if_pos ⟨rfl, hc⟩]
    rw [hcode]
    simp only [List.length_nil]
    by_cases c1 : b < 4
    · simp (disch := first | assumption | omega) only [pm_gI, pm_gJ, pm_gR, pm_pI, pm_pZ, pm_pJ, pm_ldI, pm_ldJ, pm_ldR, pm_stI, pm_stZ, pm_stJ, pm_pZ0, pm_pZ1, pm_stZ0, pm_stZ1, pm_len, pm_cpyI, pm_cpyJ, pm_is, Option.bind_some, pm_u, pm_ur, pm_lt, pm_le, pm_eq, pm_ne, pm_add, pm_sub, pm_z0, pm_z1, cond_true, cond_false, decide_true, decide_false, not_false_eq_true, not_true_eq_false, reduceIte, Nat.reduceEqDiff, Nat.add_eq_left, Nat.left_eq_add, Nat.add_left_cancel_iff, Nat.one_ne_zero, am_cs, c1]
      exact ⟨I, rfl, h0, fun hh => absurd rfl hh, pm_fr.refl _ _ _⟩
    · have c2 : 4 + p < b := by omega
      simp (disch := first | assumption | omega) only [pm_gI, pm_gJ, pm_gR, pm_pI, pm_pZ, pm_pJ, pm_ldI, pm_ldJ, pm_ldR, pm_stI, pm_stZ, pm_stJ, pm_pZ0, pm_pZ1, pm_stZ0, pm_stZ1, pm_len, pm_cpyI, pm_cpyJ, pm_is, Option.bind_some, pm_u, pm_ur, pm_lt, pm_le, pm_eq, pm_ne, pm_add, pm_sub, pm_z0, pm_z1, cond_true, cond_false, decide_true, decide_false, not_false_eq_true, not_true_eq_false, reduceIte, Nat.reduceEqDiff, Nat.add_eq_left, Nat.left_eq_add, Nat.add_left_cancel_iff, Nat.one_ne_zero, am_cs, c1, c2]
      exact ⟨I, rfl, h0, fun hh => absurd rfl hh, pm_fr.refl _ _ _⟩
  · obtain ⟨I', g1, g2⟩ := hrest hc
    rw [g1]
    by_cases hz : g.length = 0
    · have hn : g = [] := List.length_eq_zero_iff.mp hz
      have c1 : ¬ b < 4 := fun hh => hc ⟨hn, Or.inl hh⟩
      have c2 : ¬ 4 + p < b := fun hh => hc ⟨hn, Or.inr hh⟩
      simp (disch := first | assumption | omega) only [pm_gI, pm_gJ, pm_gR, pm_pI, pm_pZ, pm_pJ, pm_ldI, pm_ldJ, pm_ldR, pm_stI, pm_stZ, pm_stJ, pm_pZ0, pm_pZ1, pm_stZ0, pm_stZ1, pm_len, pm_cpyI, pm_cpyJ, pm_is, Option.bind_some, pm_u, pm_ur, pm_lt, pm_le, pm_eq, pm_ne, pm_add, pm_sub, pm_z0, pm_z1, cond_true, cond_false, decide_true, decide_false, not_false_eq_true, not_true_eq_false, reduceIte, Nat.reduceEqDiff, Nat.add_eq_left, Nat.left_eq_add, Nat.add_left_cancel_iff, Nat.one_ne_zero, am_cs, hz, c1, c2]
      exact ⟨I', rfl, g2⟩
    · simp (disch := first | assumption | omega) only [pm_gI, pm_gJ, pm_gR, pm_pI, pm_pZ, pm_pJ, pm_ldI, pm_ldJ, pm_ldR, pm_stI, pm_stZ, pm_stJ, pm_pZ0, pm_pZ1, pm_stZ0, pm_stZ1, pm_len, pm_cpyI, pm_cpyJ, pm_is, Option.bind_some, pm_u, pm_ur, pm_lt, pm_le, pm_eq, pm_ne, pm_add, pm_sub, pm_z0, pm_z1, cond_true, cond_false, decide_true, decide_false, not_false_eq_true, not_true_eq_false, reduceIte, Nat.reduceEqDiff, Nat.add_eq_left, Nat.left_eq_add, Nat.add_left_cancel_iff, Nat.one_ne_zero, am_cs, hz]
      exact ⟨I', rfl, g2⟩
theorem xf_number {K : am_K} {I : pm_I} {J : pm_J} {x c k pl : Nat} {dat : List Nat} (M : xl_ok K x) (h : xf_at I x c k pl dat) (d : Nat) : f_X3_number d x (K, I, J) = some ((nI c, 0, none), (K, I, J)) := by
  obtain ⟨M0, M1, M2⟩ := M
  rw [e_X3_number]
  simp (disch := first | assumption | omega) only [pm_gI, pm_gJ, pm_gR, pm_pI, pm_pZ, pm_pJ, pm_ldI, pm_ldJ, pm_ldR, pm_stI, pm_stZ, pm_stJ, pm_pZ0, pm_pZ1, pm_stZ0, pm_stZ1, pm_len, pm_cpyI, pm_cpyJ, pm_is, Option.bind_some, pm_u, pm_ur, pm_lt, pm_le, pm_eq, pm_ne, pm_add, pm_sub, pm_z0, pm_z1, cond_true, cond_false, decide_true, decide_false, not_false_eq_true, not_true_eq_false, reduceIte, Nat.reduceEqDiff, Nat.add_eq_left, Nat.left_eq_add, Nat.add_left_cancel_iff, Nat.one_ne_zero, am_cs, h.2.1]
theorem xf_kind {K : am_K} {I : pm_I} {J : pm_J} {x c k pl : Nat} {dat : List Nat} (M : xl_ok K x) (h : xf_at I x c k pl dat) (d : Nat) : f_X3_kind d x (K, I, J) = some ((nI k, 0, none), (K, I, J)) := by
  obtain ⟨M0, M1, M2⟩ := M
  rw [e_X3_kind]
  simp (disch := first | assumption | omega) only [pm_gI, pm_gJ, pm_gR, pm_pI, pm_pZ, pm_pJ, pm_ldI, pm_ldJ, pm_ldR, pm_stI, pm_stZ, pm_stJ, pm_pZ0, pm_pZ1, pm_stZ0, pm_stZ1, pm_len, pm_cpyI, pm_cpyJ, pm_is, Option.bind_some, pm_u, pm_ur, pm_lt, pm_le, pm_eq, pm_ne, pm_add, pm_sub, pm_z0, pm_z1, cond_true, cond_false, decide_true, decide_false, not_false_eq_true, not_true_eq_false, reduceIte, Nat.reduceEqDiff, Nat.add_eq_left, Nat.left_eq_add, Nat.add_left_cancel_iff, Nat.one_ne_zero, am_cs, h.2.2.1]
theorem xf_place {K : am_K} {I : pm_I} {J : pm_J} {x c k pl : Nat} {dat : List Nat} (M : xl_ok K x) (h : xf_at I x c k pl dat) (d : Nat) : f_X3_place d x (K, I, J) = some ((nI pl, 0, none), (K, I, J)) := by
  obtain ⟨M0, M1, M2⟩ := M
  rw [e_X3_place]
  simp (disch := first | assumption | omega) only [pm_gI, pm_gJ, pm_gR, pm_pI, pm_pZ, pm_pJ, pm_ldI, pm_ldJ, pm_ldR, pm_stI, pm_stZ, pm_stJ, pm_pZ0, pm_pZ1, pm_stZ0, pm_stZ1, pm_len, pm_cpyI, pm_cpyJ, pm_is, Option.bind_some, pm_u, pm_ur, pm_lt, pm_le, pm_eq, pm_ne, pm_add, pm_sub, pm_z0, pm_z1, cond_true, cond_false, decide_true, decide_false, not_false_eq_true, not_true_eq_false, reduceIte, Nat.reduceEqDiff, Nat.add_eq_left, Nat.left_eq_add, Nat.add_left_cancel_iff, Nat.one_ne_zero, am_cs, h.2.2.2.1]
theorem xf_dataSize {K : am_K} {I : pm_I} {J : pm_J} {x c k pl : Nat} {dat : List Nat} (M : xl_ok K x) (h : xf_at I x c k pl dat) (d : Nat) : f_X3_dataSize d x (K, I, J) = some ((nI dat.length, 0, none), (K, I, J)) := by
  obtain ⟨M0, M1, M2⟩ := M
  rw [e_X3_dataSize]
  simp (disch := first | assumption | omega) only [pm_gI, pm_gJ, pm_gR, pm_pI, pm_pZ, pm_pJ, pm_ldI, pm_ldJ, pm_ldR, pm_stI, pm_stZ, pm_stJ, pm_pZ0, pm_pZ1, pm_stZ0, pm_stZ1, pm_len, pm_cpyI, pm_cpyJ, pm_is, Option.bind_some, pm_u, pm_ur, pm_lt, pm_le, pm_eq, pm_ne, pm_add, pm_sub, pm_z0, pm_z1, cond_true, cond_false, decide_true, decide_false, not_false_eq_true, not_true_eq_false, reduceIte, Nat.reduceEqDiff, Nat.add_eq_left, Nat.left_eq_add, Nat.add_left_cancel_iff, Nat.one_ne_zero, am_cs, h.1, Nat.add_sub_cancel_left]
theorem xf_dataAt {K : am_K} {I : pm_I} {J : pm_J} {x c k pl i : Nat} {dat : List Nat} (M : xl_ok K x) (h : xf_at I x c k pl dat) (hi : i < 100) (d : Nat) : f_X3_dataAt (d + 1) x (nI i) (K, I, J) = some ((nI (dat.getD i 0), 0, none), (K, I, J)) := by
  have hs := xf_dataSize (J := J) M h d
  have hl := h.2.2.2.2.2.1
  obtain ⟨M0, M1, M2⟩ := M
  rw [e_X3_dataAt]
  have c0 : ¬ i < 0 := by omega
  simp (disch := first | assumption | omega) only [pm_gI, pm_gJ, pm_gR, pm_pI, pm_pZ, pm_pJ, pm_ldI, pm_ldJ, pm_ldR, pm_stI, pm_stZ, pm_stJ, pm_pZ0, pm_pZ1, pm_stZ0, pm_stZ1, pm_len, pm_cpyI, pm_cpyJ, pm_is, Option.bind_some, pm_u, pm_ur, pm_lt, pm_le, pm_eq, pm_ne, pm_add, pm_sub, pm_z0, pm_z1, cond_true, cond_false, decide_true, decide_false, not_false_eq_true, not_true_eq_false, reduceIte, Nat.reduceEqDiff, Nat.add_eq_left, Nat.left_eq_add, Nat.add_left_cancel_iff, Nat.one_ne_zero, am_cs, hs, c0]
  by_cases c : dat.length ≤ i
  · have : dat.getD i 0 = 0 := by simp [List.getD_eq_getElem?_getD, List.getElem?_eq_none c]
    simp (disch := first | assumption | omega) only [pm_gI, pm_gJ, pm_gR, pm_pI, pm_pZ, pm_pJ, pm_ldI, pm_ldJ, pm_ldR, pm_stI, pm_stZ, pm_stJ, pm_pZ0, pm_pZ1, pm_stZ0, pm_stZ1, pm_len, pm_cpyI, pm_cpyJ, pm_is, Option.bind_some, pm_u, pm_ur, pm_lt, pm_le, pm_eq, pm_ne, pm_add, pm_sub, pm_z0, pm_z1, cond_true, cond_false, decide_true, decide_false, not_false_eq_true, not_true_eq_false, reduceIte, Nat.reduceEqDiff, Nat.add_eq_left, Nat.left_eq_add, Nat.add_left_cancel_iff, Nat.one_ne_zero, am_cs, c, this]
  · have := h.2.2.2.2.1 i (by omega)
    simp (disch := first | assumption | omega) only [pm_gI, pm_gJ, pm_gR, pm_pI, pm_pZ, pm_pJ, pm_ldI, pm_ldJ, pm_ldR, pm_stI, pm_stZ, pm_stJ, pm_pZ0, pm_pZ1, pm_stZ0, pm_stZ1, pm_len, pm_cpyI, pm_cpyJ, pm_is, Option.bind_some, pm_u, pm_ur, pm_lt, pm_le, pm_eq, pm_ne, pm_add, pm_sub, pm_z0, pm_z1, cond_true, cond_false, decide_true, decide_false, not_false_eq_true, not_true_eq_false, reduceIte, Nat.reduceEqDiff, Nat.add_eq_left, Nat.left_eq_add, Nat.add_left_cancel_iff, Nat.one_ne_zero, am_cs, c, this]
theorem xf_hasNumber {K : am_K} {I : pm_I} {J : pm_J} {x c k pl : Nat} {dat : List Nat} (M : xl_ok K x) (h : xf_at I x c k pl dat) (d : Nat) : f_X3_hasNumber (d + 1) x (K, I, J) = some ((nI (if dat.length = 8 then 1 else 0), 0, none), (K, I, J)) := by
  have hs := xf_dataSize (J := J) M h d
  have hl := h.2.2.2.2.2.1
  obtain ⟨M0, M1, M2⟩ := M
  rw [e_X3_hasNumber]
  by_cases c : dat.length = 8
  · simp (disch := first | assumption | omega) only [pm_gI, pm_gJ, pm_gR, pm_pI, pm_pZ, pm_pJ, pm_ldI, pm_ldJ, pm_ldR, pm_stI, pm_stZ, pm_stJ, pm_pZ0, pm_pZ1, pm_stZ0, pm_stZ1, pm_len, pm_cpyI, pm_cpyJ, pm_is, Option.bind_some, pm_u, pm_ur, pm_lt, pm_le, pm_eq, pm_ne, pm_add, pm_sub, pm_z0, pm_z1, cond_true, cond_false, decide_true, decide_false, not_false_eq_true, not_true_eq_false, reduceIte, Nat.reduceEqDiff, Nat.add_eq_left, Nat.left_eq_add, Nat.add_left_cancel_iff, Nat.one_ne_zero, am_cs, hs, c]
  · simp (disch := first | assumption | omega) only [pm_gI, pm_gJ, pm_gR, pm_pI, pm_pZ, pm_pJ, pm_ldI, pm_ldJ, pm_ldR, pm_stI, pm_stZ, pm_stJ, pm_pZ0, pm_pZ1, pm_stZ0, pm_stZ1, pm_len, pm_cpyI, pm_cpyJ, pm_is, Option.bind_some, pm_u, pm_ur, pm_lt, pm_le, pm_eq, pm_ne, pm_add, pm_sub, pm_z0, pm_z1, cond_true, cond_false, decide_true, decide_false, not_false_eq_true, not_true_eq_false, reduceIte, Nat.reduceEqDiff, Nat.add_eq_left, Nat.left_eq_add, Nat.add_left_cancel_iff, Nat.one_ne_zero, am_cs, hs, c]
/-- the long that eight bytes make -/
def sd_num (dat : List Nat) : Int64 := dat.foldl (fun (v : Int64) (b : Nat) => (v <<< (Int32.toInt64 (nI 8) &&& 63)) ||| (Int32.toInt64 (nI b))) (lN 0)
theorem wl_drop_cons {l : List Nat} {i : Nat} (h : i < l.length) : l.drop i = l.getD i 0 :: l.drop (i + 1) := by
  rw [List.drop_eq_getElem_cons h]
  simp [h]
theorem xf_numLoop {K : am_K} {I : pm_I} {J : pm_J} {x c k pl : Nat} {dat : List Nat} (M : xl_ok K x) (h : xf_at I x c k pl dat) (h8 : dat.length = 8) (d : Nat) : ∀ (n i : Nat) (v : Int64), i + n = 8 →
    l_X3_numberData_4 (d + 2) x v (nI i) (K, I, J) = some ((0, (dat.drop i).foldl (fun (v : Int64) (b : Nat) => (v <<< (Int32.toInt64 (nI 8) &&& 63)) ||| (Int32.toInt64 (nI b))) v, none), (K, I, J)) := by
  intro n
  induction n with
  | zero =>
    intro i v hi
    obtain rfl : i = 8 := by omega
    rw [e_l_X3_numberData_4, List.drop_of_length_le (by omega)]
    simp (disch := first | assumption | omega) only [pm_gI, pm_gJ, pm_gR, pm_pI, pm_pZ, pm_pJ, pm_ldI, pm_ldJ, pm_ldR, pm_stI, pm_stZ, pm_stJ, pm_pZ0, pm_pZ1, pm_stZ0, pm_stZ1, pm_len, pm_cpyI, pm_cpyJ, pm_is, Option.bind_some, pm_u, pm_ur, pm_lt, pm_le, pm_eq, pm_ne, pm_add, pm_sub, pm_z0, pm_z1, cond_true, cond_false, decide_true, decide_false, not_false_eq_true, not_true_eq_false, reduceIte, Nat.reduceEqDiff, Nat.add_eq_left, Nat.left_eq_add, Nat.add_left_cancel_iff, Nat.one_ne_zero, am_cs, Nat.le_refl]
    rfl
  | succ n ih =>
    intro i v hi
    have h1 := xf_dataAt (J := J) (i := i) M h (by omega) d
    rw [e_l_X3_numberData_4, wl_drop_cons (by omega)]
    obtain ⟨M0, M1, M2⟩ := M
    have c1 : ¬ 8 ≤ i := by omega
    simp (disch := first | assumption | omega) only [pm_gI, pm_gJ, pm_gR, pm_pI, pm_pZ, pm_pJ, pm_ldI, pm_ldJ, pm_ldR, pm_stI, pm_stZ, pm_stJ, pm_pZ0, pm_pZ1, pm_stZ0, pm_stZ1, pm_len, pm_cpyI, pm_cpyJ, pm_is, Option.bind_some, pm_u, pm_ur, pm_lt, pm_le, pm_eq, pm_ne, pm_add, pm_sub, pm_z0, pm_z1, cond_true, cond_false, decide_true, decide_false, not_false_eq_true, not_true_eq_false, reduceIte, Nat.reduceEqDiff, Nat.add_eq_left, Nat.left_eq_add, Nat.add_left_cancel_iff, Nat.one_ne_zero, am_cs, c1, h1]
    exact ih (i + 1) _ (by omega)
theorem xf_numberData {K : am_K} {I : pm_I} {J : pm_J} {x c k pl : Nat} {dat : List Nat} (M : xl_ok K x) (h : xf_at I x c k pl dat) (h8 : dat.length = 8) (d : Nat) : f_X3_numberData (d + 2) x (K, I, J) = some ((0, sd_num dat, none), (K, I, J)) := by
  rw [e_X3_numberData]
  exact xf_numLoop M h h8 d 8 0 (lN 0) rfl
theorem rc_pieceLoop {K : am_K} {J : pm_J} {r x c k pl : Nat} {row dat : List Nat} (M : rl_ok K r) (N : xl_ok K x) (hne : r + 2 ≤ x ∨ x + 2 ≤ r) (hr : row.length + dat.length ≤ 60) (d : Nat) : ∀ (n i : Nat) (I : pm_I), i + n = dat.length → xf_at I x c k pl dat → rc_at I r (row ++ dat.take i) →
    ∃ I' : pm_I, l_X5_appendPiece_30 (d + 2) r x (nI dat.length) (nI i) (K, I, J) = some ((0, 0, none), (K, I', J)) ∧ rc_at I' r (row ++ dat) ∧ pm_fr I I' r 2 := by
  intro n
  induction n with
  | zero =>
    intro i I hi hx hrow
    obtain rfl : i = dat.length := by omega
    rw [List.take_length] at hrow
    have h40 := hx.2.2.2.2.2.1
    rw [e_l_X5_appendPiece_30]
    simp (disch := first | assumption | omega) only [pm_gI, pm_gJ, pm_gR, pm_pI, pm_pZ, pm_pJ, pm_ldI, pm_ldJ, pm_ldR, pm_stI, pm_stZ, pm_stJ, pm_pZ0, pm_pZ1, pm_stZ0, pm_stZ1, pm_len, pm_cpyI, pm_cpyJ, pm_is, Option.bind_some, pm_u, pm_ur, pm_lt, pm_le, pm_eq, pm_ne, pm_add, pm_sub, pm_z0, pm_z1, cond_true, cond_false, decide_true, decide_false, not_false_eq_true, not_true_eq_false, reduceIte, Nat.reduceEqDiff, Nat.add_eq_left, Nat.left_eq_add, Nat.add_left_cancel_iff, Nat.one_ne_zero, am_cs, Nat.le_refl]
    exact ⟨I, rfl, hrow, pm_fr.refl _ _ _⟩
  | succ n ih =>
    intro i I hi hx hrow
    have h40 := hx.2.2.2.2.2.1
    have h1 := xf_dataAt (J := J) (i := i) N hx (by omega) d
    have hmem : dat.getD i 0 ∈ dat := by
      rw [List.getD_eq_getElem?_getD, List.getElem?_eq_getElem (by omega)]
      exact List.getElem_mem _
    obtain ⟨I1, g1, g2, g3⟩ := rc_append (J := J) M hrow (hx.2.2.2.2.2.2.1 _ hmem) (by simp; omega) (d + 1)
    have ht : row ++ dat.take i ++ [dat.getD i 0] = row ++ dat.take (i + 1) := by
      rw [List.append_assoc]
      congr 1
      rw [List.take_succ, List.getElem?_eq_getElem (by omega), List.getD_eq_getElem?_getD, List.getElem?_eq_getElem (by omega)]
      rfl
    rw [ht] at g2
    obtain ⟨I2, k1, k2, k3⟩ := ih (i + 1) I1 (by omega) (xf_congr hx (g3 _ (by omega))) g2
    rw [e_l_X5_appendPiece_30]
    obtain ⟨M0, M1, M2⟩ := M
    obtain ⟨N0, N1, N2⟩ := N
    have c1 : ¬ dat.length ≤ i := by omega
    simp (disch := first | assumption | omega) only [pm_gI, pm_gJ, pm_gR, pm_pI, pm_pZ, pm_pJ, pm_ldI, pm_ldJ, pm_ldR, pm_stI, pm_stZ, pm_stJ, pm_pZ0, pm_pZ1, pm_stZ0, pm_stZ1, pm_len, pm_cpyI, pm_cpyJ, pm_is, Option.bind_some, pm_u, pm_ur, pm_lt, pm_le, pm_eq, pm_ne, pm_add, pm_sub, pm_z0, pm_z1, cond_true, cond_false, decide_true, decide_false, not_false_eq_true, not_true_eq_false, reduceIte, Nat.reduceEqDiff, Nat.add_eq_left, Nat.left_eq_add, Nat.add_left_cancel_iff, Nat.one_ne_zero, am_cs, c1, h1, g1]
    exact ⟨I2, k1, k2, g3.trans k3⟩
/-- a piece at a place, put to a row -/
def sr_piece (row : List Nat) (pl : Nat) (dat : List Nat) : List Nat := if pl = row.length ∧ row.length + dat.length ≤ 60 then row ++ dat else row
theorem rc_piece {K : am_K} {I : pm_I} {J : pm_J} {r x c k pl : Nat} {row dat : List Nat} (M : rl_ok K r) (N : xl_ok K x) (hne : r + 2 ≤ x ∨ x + 2 ≤ r) (hrow : rc_at I r row) (hx : xf_at I x c k pl dat) (d : Nat) :
    ∃ I' : pm_I, f_X5_appendPiece (d + 2) r x (K, I, J) = some ((0, 0, none), (K, I', J)) ∧ rc_at I' r (sr_piece row pl dat) ∧ pm_fr I I' r 2 := by
  have h40 := hx.2.2.2.2.2.1
  have h256 := hx.2.2.2.2.2.2.2.2.2
  have h1 := xf_dataSize (J := J) N hx (d + 1)
  have h2 := xf_place (J := J) N hx (d + 1)
  have hl := hrow.1
  have hl2 := hrow.2.1
  unfold sr_piece
  rw [e_X5_appendPiece]
  by_cases c1 : pl = row.length
  · by_cases c2 : row.length + dat.length ≤ 60
    · obtain ⟨I', g1, g2, g3⟩ := rc_pieceLoop (J := J) M N hne c2 d dat.length 0 I (by omega) hx (by simpa using hrow)
      obtain ⟨M0, M1, M2⟩ := M
      obtain ⟨N0, N1, N2⟩ := N
      rw [if_pos ⟨c1, c2⟩]
      simp (disch := first | assumption | omega) only [pm_gI, pm_gJ, pm_gR, pm_pI, pm_pZ, pm_pJ, pm_ldI, pm_ldJ, pm_ldR, pm_stI, pm_stZ, pm_stJ, pm_pZ0, pm_pZ1, pm_stZ0, pm_stZ1, pm_len, pm_cpyI, pm_cpyJ, pm_is, Option.bind_some, pm_u, pm_ur, pm_lt, pm_le, pm_eq, pm_ne, pm_add, pm_sub, pm_z0, pm_z1, cond_true, cond_false, decide_true, decide_false, not_false_eq_true, not_true_eq_false, reduceIte, Nat.reduceEqDiff, Nat.add_eq_left, Nat.left_eq_add, Nat.add_left_cancel_iff, Nat.one_ne_zero, am_cs, h1, h2, hl, c1, c2]
      exact ⟨I', g1, g2, g3⟩
    · obtain ⟨M0, M1, M2⟩ := M
      obtain ⟨N0, N1, N2⟩ := N
      rw [if_neg (fun h => c2 h.2)]
      simp (disch := first | assumption | omega) only [pm_gI, pm_gJ, pm_gR, pm_pI, pm_pZ, pm_pJ, pm_ldI, pm_ldJ, pm_ldR, pm_stI, pm_stZ, pm_stJ, pm_pZ0, pm_pZ1, pm_stZ0, pm_stZ1, pm_len, pm_cpyI, pm_cpyJ, pm_is, Option.bind_some, pm_u, pm_ur, pm_lt, pm_le, pm_eq, pm_ne, pm_add, pm_sub, pm_z0, pm_z1, cond_true, cond_false, decide_true, decide_false, not_false_eq_true, not_true_eq_false, reduceIte, Nat.reduceEqDiff, Nat.add_eq_left, Nat.left_eq_add, Nat.add_left_cancel_iff, Nat.one_ne_zero, am_cs, h1, h2, hl, c1, c2]
      exact ⟨I, rfl, hrow, pm_fr.refl _ _ _⟩
  · obtain ⟨M0, M1, M2⟩ := M
    obtain ⟨N0, N1, N2⟩ := N
    rw [if_neg (fun h => c1 h.1)]
    simp (disch := first | assumption | omega) only [pm_gI, pm_gJ, pm_gR, pm_pI, pm_pZ, pm_pJ, pm_ldI, pm_ldJ, pm_ldR, pm_stI, pm_stZ, pm_stJ, pm_pZ0, pm_pZ1, pm_stZ0, pm_stZ1, pm_len, pm_cpyI, pm_cpyJ, pm_is, Option.bind_some, pm_u, pm_ur, pm_lt, pm_le, pm_eq, pm_ne, pm_add, pm_sub, pm_z0, pm_z1, cond_true, cond_false, decide_true, decide_false, not_false_eq_true, not_true_eq_false, reduceIte, Nat.reduceEqDiff, Nat.add_eq_left, Nat.left_eq_add, Nat.add_left_cancel_iff, Nat.one_ne_zero, am_cs, h1, h2, hl, c1]
    exact ⟨I, rfl, hrow, pm_fr.refl _ _ _⟩
