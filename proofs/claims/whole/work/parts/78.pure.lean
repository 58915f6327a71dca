/-! THE CLOCK BY JUMPS IS THE CLOCK TICK BY TICK -/
def ok_at (t : Nat) (C : sCl) : Prop := C.on = 1 → t < C.la ∧ (C.wt ≠ 0 → t < C.wk)
theorem sk_run_late {t : Nat} : ∀ (n i late : Nat) (cs : Nat → sCl) (W : sWy), sk_run t n i late cs W = (late + (sk_run t n i 0 cs W).1, (sk_run t n i 0 cs W).2) := by
  intro n
  induction n with
  | zero => intro i late cs W; rfl
  | succ n ih =>
    intro i late cs W
    unfold sk_run
    by_cases c0 : (cs i).on = 0
    · rw [if_pos c0, if_pos c0]
      exact ih _ _ _ _
    · rw [if_neg c0, if_neg c0]
      by_cases c1 : t < (cs i).la
      · rw [if_pos c1, if_pos c1]
        by_cases c2 : (cs i).wt = 0 ∨ t < (cs i).wk
        · rw [if_pos c2, if_pos c2]
          exact ih _ _ _ _
        · rw [if_neg c2, if_neg c2]
          exact ih _ _ _ _
      · rw [if_neg c1, if_neg c1, ih _ (late + 1), ih _ (0 + 1)]
        show (late + 1 + _, _) = (late + (0 + 1 + _), _)
        rw [Nat.zero_add, Nat.add_assoc]
theorem sk_run_idle {t : Nat} : ∀ (n i late : Nat) (cs : Nat → sCl) (W : sWy), (∀ c, i ≤ c → c < i + n → (cs c).on = 1 → t < (cs c).la ∧ ((cs c).wt = 0 ∨ t < (cs c).wk)) → sk_run t n i late cs W = (late, cs, W) := by
  intro n
  induction n with
  | zero => intro i late cs W _; rfl
  | succ n ih =>
    intro i late cs W h
    have h' := ih (i + 1) late cs W (fun c h1 h2 => h c (by omega) (by omega))
    unfold sk_run
    by_cases c0 : (cs i).on = 0
    · rw [if_pos c0]
      exact h'
    · have hi := h i (Nat.le_refl _) (by omega) (by rcases so_on01 (cs i) with q | q <;> omega)
      rw [if_neg c0, if_pos hi.1, if_pos hi.2]
      exact h'
theorem ok_open {t : Nat} {C : sCl} (h : t < C.la) : ok_at t (so_openC (C.setWt 0 C.wk C.tr)) := by
  intro _
  unfold so_openC
  split
  · split
    · exact ⟨h, fun q => absurd rfl q⟩
    · exact ⟨h, fun q => absurd rfl q⟩
  · split
    · exact ⟨h, fun q => absurd rfl q⟩
    · exact ⟨h, fun q => absurd rfl q⟩
theorem sk_run_ok {t : Nat} : ∀ (n i late : Nat) (cs : Nat → sCl) (W : sWy), (∀ c, c < i ∨ i + n ≤ c → ok_at t (cs c)) → ∀ c, ok_at t ((sk_run t n i late cs W).2.1 c) := by
  intro n
  induction n with
  | zero => intro i late cs W h c; exact h c (by omega)
  | succ n ih =>
    intro i late cs W h
    have key : ∀ cs' : Nat → sCl, (∀ c, c ≠ i → cs' c = cs c) → ok_at t (cs' i) → ∀ late' W' c, ok_at t ((sk_run t n (i + 1) late' cs' W').2.1 c) := by
      intro cs' h1 h2 late' W'
      refine ih (i + 1) late' cs' W' (fun c hc => ?_)
      by_cases q : c = i
      · rw [q]
        exact h2
      · rw [h1 c q]
        exact h c (by omega)
    unfold sk_run
    by_cases c0 : (cs i).on = 0
    · rw [if_pos c0]
      exact key cs (fun _ _ => rfl) (fun q => absurd q (by omega)) _ _
    · rw [if_neg c0]
      by_cases c1 : t < (cs i).la
      · rw [if_pos c1]
        by_cases c2 : (cs i).wt = 0 ∨ t < (cs i).wk
        · rw [if_pos c2]
          exact key cs (fun _ _ => rfl) (fun _ => ⟨c1, fun q => by rcases c2 with q2 | q2; exact absurd q2 q; exact q2⟩) _ _
        · rw [if_neg c2]
          exact key _ (fun c q => su_ne _ _ q) (by rw [su_self]; exact ok_open c1) _ _
      · rw [if_neg c1]
        refine key _ (fun c q => su_ne _ _ q) ?_ _ _
        rw [su_self]
        intro q
        rw [so_fin_on _ (px_neg (by omega) (by omega))] at q
        omega
theorem sk_due_hi : ∀ (n i t : Nat) (cs : Nat → sCl) (c : Nat), i ≤ c → c < i + n → (cs c).on = 1 → sk_due cs n i t ≤ (cs c).la ∧ ((cs c).wt ≠ 0 → sk_due cs n i t ≤ (cs c).wk) := by
  intro n
  induction n with
  | zero => intro i t cs c h1 h2; omega
  | succ n ih =>
    intro i t cs c h1 h2 h3
    unfold sk_due
    by_cases q : c = i
    · subst q
      rw [if_neg (by omega)]
      have hle := sk_due_le cs n (c + 1)
      by_cases q2 : (cs c).wt = 0
      · rw [if_pos q2]
        have := hle (min (cs c).la t)
        exact ⟨by omega, fun q => absurd q2 q⟩
      · rw [if_neg q2]
        have := hle (min (cs c).wk (min (cs c).la t))
        exact ⟨by omega, fun _ => by omega⟩
    · exact ih (i + 1) _ cs c (by omega) (by omega) h3
theorem sk_due_lo {ck : Nat} : ∀ (n i t : Nat) (cs : Nat → sCl), ck < t → (∀ c, i ≤ c → c < i + n → ok_at ck (cs c)) → ck < sk_due cs n i t := by
  intro n
  induction n with
  | zero => intro i t cs h _; exact h
  | succ n ih =>
    intro i t cs h h2
    unfold sk_due
    refine ih (i + 1) _ cs ?_ (fun c q1 q2 => h2 c (by omega) (by omega))
    by_cases c0 : (cs i).on = 0
    · rw [if_pos c0]
      exact h
    · rw [if_neg c0]
      have hi := h2 i (Nat.le_refl _) (by omega) (by rcases so_on01 (cs i) with q | q <;> omega)
      by_cases c1 : (cs i).wt = 0
      · rw [if_pos c1]
        omega
      · rw [if_neg c1]
        have := hi.2 c1
        omega
theorem mtick_idle : ∀ (j r late : Nat) (T : sT), (∀ c, c < T.mk → (T.cs c).on = 1 → T.ck + j < (T.cs c).la ∧ ((T.cs c).wt = 0 ∨ T.ck + j < (T.cs c).wk)) → mtick (j + r) late T = mtick r late (T.setK T.w0 T.cs T.mk (T.ck + j)) := by
  intro j
  induction j with
  | zero => intro r late T _; rw [Nat.zero_add]; rfl
  | succ j ih =>
    intro r late T h
    rw [show j + 1 + r = (j + r) + 1 by omega]
    show mtick (j + r) (sk_run (T.ck + 1) T.mk 0 late T.cs T.w0).1 (T.setK (sk_run (T.ck + 1) T.mk 0 late T.cs T.w0).2.2 (sk_run (T.ck + 1) T.mk 0 late T.cs T.w0).2.1 T.mk (T.ck + 1)) = _
    rw [sk_run_idle _ _ _ _ _ (fun c _ h2 h3 => by
      have := h c (by omega) h3
      omega)]
    show mtick (j + r) late (T.setK T.w0 T.cs T.mk (T.ck + 1)) = _
    rw [ih r late (T.setK T.w0 T.cs T.mk (T.ck + 1)) (fun c h1 h2 => by
      have := h c h1 h2
      show T.ck + 1 + j < (T.cs c).la ∧ ((T.cs c).wt = 0 ∨ T.ck + 1 + j < (T.cs c).wk)
      omega)]
    show mtick r late (T.setK T.w0 T.cs T.mk (T.ck + 1 + j)) = mtick r late (T.setK T.w0 T.cs T.mk (T.ck + (j + 1)))
    rw [Nat.add_right_comm, Nat.add_assoc]
theorem mtick_to {T : sT} {t r late : Nat} (h1 : T.ck < t) (h2 : ∀ c, c < T.mk → (T.cs c).on = 1 → t ≤ (T.cs c).la ∧ ((T.cs c).wt ≠ 0 → t ≤ (T.cs c).wk)) : mtick (t - T.ck + r) late T = mtick r (late + (st_run t T).1) (st_run t T).2 := by
  have h3 := mtick_idle (t - T.ck - 1) (r + 1) late T (fun c q1 q2 => by
    have := h2 c q1 q2
    refine ⟨by omega, ?_⟩
    by_cases q3 : (T.cs c).wt = 0
    · exact Or.inl q3
    · exact Or.inr (by have := this.2 q3; omega))
  rw [show t - T.ck + r = t - T.ck - 1 + (r + 1) by omega, h3]
  have ht : T.ck + (t - T.ck - 1) + 1 = t := by omega
  show mtick r (sk_run (T.ck + (t - T.ck - 1) + 1) T.mk 0 late T.cs T.w0).1 (T.setK (sk_run (T.ck + (t - T.ck - 1) + 1) T.mk 0 late T.cs T.w0).2.2 (sk_run (T.ck + (t - T.ck - 1) + 1) T.mk 0 late T.cs T.w0).2.1 T.mk (T.ck + (t - T.ck - 1) + 1)) = _
  rw [ht, sk_run_late]
  rfl
theorem tick_eq {tg : Nat} : ∀ (m n late : Nat) (T : sT), n ≤ m → T.ck + n = tg → (∀ c, ok_at T.ck (T.cs c)) → (∀ c, T.mk ≤ c → (T.cs c).on = 0) → st_jump tg m late T = mtick n late T := by
  intro m
  induction m with
  | zero =>
    intro n late T h1 h2 h3 h4
    obtain rfl : n = 0 := by omega
    rfl
  | succ m ih =>
    intro n late T h1 h2 h3 h4
    unfold st_jump
    by_cases c0 : tg ≤ T.ck
    · rw [if_pos c0]
      obtain rfl : n = 0 := by omega
      rfl
    · rw [if_neg c0]
      have hlo := sk_due_lo T.mk 0 tg T.cs (show T.ck < tg by omega) (fun c _ _ => h3 c)
      have hle := sk_due_le T.cs T.mk 0 tg
      have hhi := fun c (q1 : c < T.mk) (q2 : (T.cs c).on = 1) => sk_due_hi T.mk 0 tg T.cs c (Nat.zero_le _) (by omega) q2
      generalize sk_due T.cs T.mk 0 tg = t at *
      rw [show n = t - T.ck + (tg - t) by omega, mtick_to hlo hhi]
      refine ih (tg - t) _ _ (by omega) (by show t + (tg - t) = tg; omega) ?_ ?_
      · show ∀ c, ok_at t ((sk_run t T.mk 0 0 T.cs T.w0).2.1 c)
        refine sk_run_ok _ _ _ _ _ (fun c hc q => ?_)
        have := h4 c (by omega)
        omega
      · intro c hc
        show ((sk_run t T.mk 0 0 T.cs T.w0).2.1 c).on = 0
        have hc : T.mk ≤ c := hc
        rw [sk_run_new _ _ _ _ _ c (by omega)]
        exact h4 c hc
