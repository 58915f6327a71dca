/-! THE START: what both sides hold after the constructors -/
def T0 : sT := (([], [], 0, 0), ([], [], 0, 0), [], [], (fun _ => sCl.new), 0, 0, ((fun _ => none), 0, (fun _ => none), 0, (fun _ => none), (fun _ => none), 0), 0)
/-- the page's size out of the script's first int -/
theorem p_of (x : Int32) : ∃ p, 8 ≤ p ∧ p ≤ 40 ∧ (if (nI 8) < (if x < (nI 40) then x else (nI 40)) then (if x < (nI 40) then x else (nI 40)) else (nI 8)) = nI p ∧ (¬ nI 8 ≤ x → p = 8) ∧ (nI 8 ≤ x → ¬ x ≤ nI 40 → p = 40) ∧ (nI 8 ≤ x → x ≤ nI 40 → x = nI p) := by
  by_cases c1 : nI 8 ≤ x
  · by_cases c2 : x ≤ nI 40
    · have h0 : ¬ x < nI 1 := fun q => absurd (Int32.lt_of_le_of_lt c1 q) (by decide +kernel)
      obtain ⟨j, j1, j2, rfl⟩ := px_rng (n := 40) (by omega) h0 c2
      have j8 : 8 ≤ j := (nI_leI (by omega) (by omega)).mp c1
      refine ⟨j, j8, j2, ?_, fun q => absurd c1 q, fun _ q => absurd c2 q, fun _ _ => rfl⟩
      by_cases c3 : j = 40
      · subst c3
        decide +kernel
      · rw [if_pos (nI_lt (show j < 40 by omega) (by omega))]
        by_cases c4 : j = 8
        · subst c4
          decide +kernel
        · rw [if_pos (nI_lt (show 8 < j by omega) (by omega))]
    · refine ⟨40, by omega, by omega, ?_, fun q => absurd c1 q, fun _ _ => rfl, fun _ q => absurd q c2⟩
      have c3 : ¬ x < nI 40 := fun q => c2 (Int32.le_of_lt q)
      rw [if_neg c3]
      decide +kernel
  · refine ⟨8, by omega, by omega, ?_, fun _ => rfl, fun q => absurd q c1, fun q => absurd q c1⟩
    have c3 : x < nI 8 := Int32.not_le.mp c1
    have c4 : x < nI 40 := Int32.lt_trans c3 (by decide +kernel)
    have c5 : ¬ nI 8 < x := fun q => Int32.lt_irrefl (Int32.lt_trans q c3)
    rw [if_pos c4, if_neg c5]
theorem tl_of {q : am_Q} (h : tl_ok (qH q 0 (fun _ => 0) ZI ZJ).1) (L : Nat) (xs : Nat → Int32) (I : pm_I) (J : pm_J) : tl_ok (qH q L xs I J).1 := by
  unfold tl_ok kl_ok sl_ok xl_ok wl_ok cl_ok rl_ok bl_ok pl_ok rl_ok at *
  exact h
theorem ml_of {q : am_Q} (h : ml_ok (qH q 0 (fun _ => 0) ZI ZJ).1) (L : Nat) (xs : Nat → Int32) (I : pm_I) (J : pm_J) : ml_ok (qH q L xs I J).1 := by
  unfold ml_ok at *
  exact h
theorem tl_W : tl_ok (qH QW 0 (fun _ => 0) ZI ZJ).1 := by
  refine ⟨?_, ?_, ?_, ?_, ?_, ?_, ?_, ⟨?_, ?_, ?_, ?_, ?_, ?_⟩, ⟨?_, ?_, ?_, ?_, ?_, ?_, ?_, ?_, ?_, ?_, ?_, ?_, ?_, ?_, ?_⟩, ?_, ?_⟩
  all_goals first
    | decide +kernel
    | (unfold wl_ok; decide +kernel)
    | (unfold xl_ok; decide +kernel)
    | (unfold cl_ok rl_ok; decide +kernel)
    | (unfold bl_ok rl_ok; decide +kernel)
    | (unfold pl_ok; decide +kernel)
theorem ml_W : ml_ok (qH QW 0 (fun _ => 0) ZI ZJ).1 := by
  unfold ml_ok
  repeat' apply And.intro
  all_goals decide +kernel
theorem wv_nil : wv_ok [] [] 0 := ⟨fun x hx => absurd hx (by simp), fun x hx => absurd hx (by simp), rfl, fun f hf => absurd hf (by simp)⟩
def IS (p : Nat) : pm_I := am_u (IV p 30) 370 1 (nI p)
theorem IS_z {p a j : Nat} (h : j ≠ 0) (h2 : a ≠ 370 ∨ j ≠ 1) : IS p a j = nI 0 := by
  unfold IS IV
  rw [pm_u]
  by_cases c : a = 370
  · rw [if_pos c, if_neg (by omega), if_neg h]
    rfl
  · rw [if_neg c, if_neg h]
    rfl
theorem IS_0 {p a : Nat} (h1 : a ≠ 1) (h2 : a ≠ 5) (h3 : a ≠ 9) (h4 : a ≠ 11) (h5 : a < 15 ∨ 165 ≤ a ∨ (a - 15) % 5 ≠ 0) : IS p a 0 = nI 0 := by
  unfold IS IV
  rw [pm_u]
  have e : (if (0 : Nat) = 0 then (if a = 1 ∨ a = 5 then nI p else if a = 9 ∨ a = 11 then nI (4 + p) else if 15 ≤ a ∧ a < 15 + 5 * 30 ∧ (a - 15) % 5 = 0 then nI ((a - 15) / 5) else 0) else 0) = nI 0 := by
    rw [if_pos rfl, if_neg (by omega), if_neg (by omega), if_neg (by omega)]
    rfl
  by_cases c : a = 370
  · rw [if_pos c, if_neg (by omega)]
    exact e
  · rw [if_neg c]
    exact e
theorem IS_m {p a j : Nat} (h : 371 ≤ a) : IS p a j = nI 0 := by
  by_cases c : j = 0
  · subst c
    exact IS_0 (by omega) (by omega) (by omega) (by omega) (by omega)
  · exact IS_z c (by omega)
theorem mc_new {p c : Nat} : mc_at (IS p) ZJ 0 c sCl.new := by
  refine ⟨IS_m (by omega), IS_m (by omega), fun q => absurd q (by show ¬ (0 : Nat) = 1; omega), ⟨IS_m (by omega), fun q => absurd rfl q⟩, IS_m (by omega), IS_m (by omega), rfl, rfl, IS_m (by omega), fun q => absurd q (by show ¬ (0 : Nat) = 1; omega), fun _ => ⟨IS_m (by omega), fun i hi => absurd hi (by show ¬ i < 0; omega)⟩, fun i _ => IS_m (by omega), fun i _ q => absurd rfl q, IS_m (by omega), fun q => absurd q (by show ¬ (0 : Nat) = 2; omega), fun q => absurd q (by show ¬ (0 : Nat) = 3; omega), ⟨by show 0 ≤ 60; omega, fun _ => by show 0 ≤ 1; omega, fun _ => by show 0 ≤ 3; omega⟩, fun x hx => absurd hx (by show ¬ x ∈ ([] : List Nat); simp), ?_⟩
  exact ⟨by show 0 ≤ 4; omega, by show 0 ≤ 1; omega, by show 0 ≤ 2000000; omega, by show 0 ≤ 1; omega, by show 0 ≤ 2000000; omega, by show 0 ≤ 5; omega, fun _ => by show 0 ≤ 4; omega, by show 0 ≤ 4; omega, fun i => by show 0 ≤ 2; omega, fun i _ => rfl, fun i _ => rfl⟩
theorem bm_nil {α : Type} : bm_ok (fun _ => (none : Option (Int64 × α))) (fun _ => none) 0 := ⟨fun i d r _ h => absurd h (by simp), fun d r h => absurd h (by simp), fun i j d r r' _ _ h _ => absurd h (by simp), rfl⟩
theorem mt_0 {p : Nat} (hp : 8 ≤ p ∧ p ≤ 40) : mt_at (IS p) ZJ p T0 := by
  have h1 : ∀ j, j ≠ 1 → IS p 370 j = nI 0 := by
    intro j hj
    by_cases c : j = 0
    · subst c
      exact IS_0 (by omega) (by omega) (by omega) (by omega) (by omega)
    · exact IS_z c (by omega)
  have hw : ∀ e, mw_at (IS p) e ([], [], 0, 0) := fun e => ⟨0, IS_m (by omega), IS_m (by omega), IS_m (by omega), IS_m (by omega), by show 0 + 0 ≤ 4200; omega, by show 0 ≤ 2000; omega, by show 0 ≤ 410; omega, fun i hi => absurd hi (by show ¬ i < 0; omega), fun i hi => absurd hi (by show ¬ i < 0; omega), wv_nil⟩
  have hg : ∀ a, mg_at (IS p) a p [] := fun a => ⟨IS_m (by omega), fun i hi => absurd hi (by simp), Or.inl rfl, fun x hx => absurd hx (by simp)⟩
  refine ⟨⟨?_, h1 2 (by omega), h1 3 (by omega), h1 4 (by omega), h1 5 (by omega), h1 6 (by omega), h1 24 (by omega), h1 25 (by omega)⟩, ⟨hw 0, hw 1⟩, ⟨fun c _ => mc_new, fun c _ => rfl, by show 0 ≤ 30; omega, by show 0 ≤ 1000000; omega⟩, ⟨⟨fun _ => none, ⟨by show 0 ≤ 10; omega, fun _ _ => rfl, fun k hk => absurd hk (by show ¬ k < 0; omega)⟩, bm_nil⟩, ⟨fun _ => none, ⟨by show 0 ≤ 10; omega, fun _ _ => rfl, fun k hk => absurd hk (by show ¬ k < 0; omega)⟩, bm_nil⟩, fun c _ => IS_m (by omega), fun c _ => IS_m (by omega), by show 0 ≤ 100; omega⟩, ⟨hg 1, hg 0⟩, hp⟩
  unfold IS
  rw [am_u_self, if_pos rfl]
theorem tc_0 {p : Nat} (hp : 8 ≤ p ∧ p ≤ 40) : tc_at (IS p) ZJ p T0 := by
  have e1 : IS p 1 0 = nI p ∧ IS p 5 0 = nI p ∧ IS p 9 0 = nI (4 + p) ∧ IS p 11 0 = nI (4 + p) := by
    refine ⟨?_, ?_, ?_, ?_⟩ <;> (unfold IS IV; simp [pm_u])
  have hw : ∀ w, w = 1 ∨ w = 5 → wy_at (IS p) w p ([], [], 0, 0) := by
    intro w hw
    refine ⟨⟨0, 0, IS_z (by omega) (by omega), IS_z (by omega) (by omega), IS_z (by omega) (by omega), IS_z (by omega) (by omega), IS_z (by omega) (by omega), IS_z (by omega) (by omega), by show 0 + 0 ≤ 2000; omega, by show 0 + 0 ≤ 400; omega, fun i hi => absurd hi (by show ¬ i < 0; omega), fun i hi => absurd hi (by show ¬ i < 0; omega)⟩, wv_nil, ?_, hp⟩
    rcases hw with rfl | rfl
    · exact e1.1
    · exact e1.2.1
  have hx : ∀ x, x = 9 ∨ x = 11 → xc_at (IS p) x p [] := by
    intro x hx
    refine ⟨?_, IS_z (by omega) (by omega), by show 0 ≤ 45; omega, fun i hi => absurd hi (by simp), fun b hb => absurd hb (by simp)⟩
    rcases hx with rfl | rfl
    · exact e1.2.2.1
    · exact e1.2.2.2
  have hc : ∀ i, i < 30 → cc_at (IS p) ZJ (15 + 5 * i) i sCl.new := by
    intro i hi
    refine ⟨⟨?_, IS_z (by omega) (by omega), IS_z (by omega) (by omega), IS_z (by omega) (by omega), IS_z (by omega) (by omega), IS_z (by omega) (by omega), IS_z (by omega) (by omega), IS_z (by omega) (by omega), IS_z (by omega) (by omega), IS_z (by omega) (by omega), rfl, rfl⟩, ⟨IS_z (by omega) (by omega), by show 0 ≤ 60; omega, fun j hj => absurd hj (by show ¬ j < 0; omega), fun x hx => absurd hx (by show ¬ x ∈ ([] : List Nat); simp)⟩, fun j hj => absurd hj (by show ¬ j < 0; omega), fun j hj => ?_, ?_⟩
    · unfold IS IV
      rw [pm_u, if_neg (by omega), if_pos rfl, if_neg (by omega), if_neg (by omega), if_pos (by omega)]
      congr 1
      omega
    · by_cases c : j = 0
      · subst c
        exact IS_0 (by omega) (by omega) (by omega) (by omega) (by omega)
      · exact IS_z c (by omega)
    · exact (mc_new (p := p) (c := 0)).2.2.2.2.2.2.2.2.2.2.2.2.2.2.2.2.2.2
  refine ⟨⟨hw 1 (by omega), IS_z (by omega) (by omega), IS_z (by omega) (by omega), by show 0 ≤ 30; omega, by show 0 ≤ 1000000; omega, hc, fun _ _ => rfl⟩, ⟨hw 5 (by omega), ⟨IS_z (by omega) (by omega), by show 0 ≤ 100; omega⟩, ⟨fun _ => none, fun i _ => IS_z (by omega) (by omega), bm_nil⟩, ⟨fun _ => none, fun i _ => IS_z (by omega) (by omega), bm_nil⟩, fun i _ => IS_z (by omega) (by omega), fun i _ => IS_z (by omega) (by omega)⟩, ⟨hx 9 (by omega), Or.inl rfl⟩, ⟨hx 11 (by omega), Or.inl rfl⟩, IS_z (by omega) (by omega)⟩
