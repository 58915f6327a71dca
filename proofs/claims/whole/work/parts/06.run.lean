/-! RUNS OF THE MACHINE: am_ex with a bound on its steps, am_L without one; d bounds the depth of the calls -/
abbrev am_X : Type := Option (am_r × am_H)
def am_cs {α : Type} (o : Option Nat) (a : α) (f : Nat → α) : α := match o with
  | none => a
  | some k => f k
/-- behind a call that answered r -/
def am_bk (rt : Nat) (k : List Value → am_H → am_X) (st : List Value) (r : am_r × am_H) : am_X :=
  bif Nat.beq rt 0 then k st r.2 else
  bif Nat.beq rt 2 then k (.long r.1.2.1 :: st) r.2 else
  bif Nat.beq rt 3 then am_cs r.1.2.2 (k (.null :: st) r.2) (fun a => k (.ref a :: st) r.2) else
  k (.int r.1.1 :: st) r.2
def am_act (i : am_O) (rt pc : Nat) (lv : am_lv) (st : List Value) (σ : am_H) : Option am_A := match i with
  | .inl i => am_i i rt pc lv st σ
  | .inr o => am_p am_nA am_cM am_ml o pc lv st σ
def am_G (call : Nat → List Value → am_H → am_X) (rec : Nat → am_lv → List Value → am_H → am_X) (pc : Nat) (σ : am_H) (a : Option am_A) : am_X :=
  match a with
  | none => none
  | some (.inl (bs, q, lv, st)) => am_sw (fun q => rec q lv st σ) bs q
  | some (.inr (.inl (g, r))) => bif g then some (r, σ) else none
  | some (.inr (.inr (.inl (g, y, as, lv, st)))) => bif g then (call y as σ).bind (fun r => am_bk (am_rt y) (fun st τ => rec (pc + 3) lv st τ) st r) else none
  | some (.inr (.inr (.inr (.inl (o, q, lv, st))))) => o.bind (fun x => rec q lv (.int x :: st) σ)
  | some (.inr (.inr (.inr (.inr (.inl (o, q, lv, st)))))) => o.bind (fun x => rec q lv (.long x :: st) σ)
  | some (.inr (.inr (.inr (.inr (.inr (.inl (o, q, lv, st))))))) => o.bind (fun x => rec q lv (.ref x :: st) σ)
  | some (.inr (.inr (.inr (.inr (.inr (.inr (.inl (o, q, lv, st)))))))) => o.bind (fun τ => rec q lv st τ)
  | some (.inr (.inr (.inr (.inr (.inr (.inr (.inr (g, y, as, lv, st, h)))))))) => bif g then (call y as σ).bind (fun r => bif decide (r.1.2.1 = 0) then rec (pc + 3) lv (.int r.1.1 :: st) r.2 else rec h lv [.ref (am_c r.2)] (am_thr r.2)) else none
def am_F (call : Nat → List Value → am_H → am_X) (rec : Nat → am_lv → List Value → am_H → am_X) (y pc : Nat) (lv : am_lv) (st : List Value) (σ : am_H) : am_X :=
  match am_prog y pc with
  | none => none
  | some (i, t) => am_G call rec pc σ (am_act i (am_rt y) pc (am_trim t lv) st σ)
def am_ex : Nat → Nat → Nat → Nat → am_lv → List Value → am_H → am_X
  | 0, _, _, _, _, _, _ => none
  | f + 1, d, y, pc, lv, st, σ => am_F (fun y' as τ => match d with | 0 => none | d' + 1 => am_ex f d' y' 0 (am_args 0 as) [] τ) (fun pc lv st τ => am_ex f d y pc lv st τ) y pc lv st σ
/-- less known: where the first says something, the second says the same -/
def am_le (a b : am_X) : Prop := ∀ r, a = some r → b = some r
theorem am_le.bind {α : Type} {o : Option α} {f g : α → am_X} (h : ∀ x, am_le (f x) (g x)) : am_le (o.bind f) (o.bind g) := by
  cases o with
  | none => exact fun r h => h
  | some x => exact h x
theorem am_sw_le {k k' : Nat → am_X} (h : ∀ q, am_le (k q) (k' q)) : ∀ (bs : List (Bool × Nat)) (q : Nat), am_le (am_sw k bs q) (am_sw k' bs q)
  | [], q => h q
  | (b, t) :: l, q => by
    cases b
    · exact am_sw_le h l q
    · exact h t
theorem am_bk_le {k k' : List Value → am_H → am_X} (h : ∀ st τ, am_le (k st τ) (k' st τ)) (rt : Nat) (st : List Value) (r : am_r × am_H) : am_le (am_bk rt k st r) (am_bk rt k' st r) := by
  unfold am_bk
  cases Nat.beq rt 0
  · cases Nat.beq rt 2
    · cases Nat.beq rt 3
      · exact h _ _
      · obtain ⟨⟨a, b, o⟩, τ⟩ := r
        cases o
        · exact h _ _
        · exact h _ _
    · exact h _ _
  · exact h _ _
theorem am_G_le {call call' : Nat → List Value → am_H → am_X} {rec rec' : Nat → am_lv → List Value → am_H → am_X} (hc : ∀ y as τ, am_le (call y as τ) (call' y as τ)) (hr : ∀ q lv st τ, am_le (rec q lv st τ) (rec' q lv st τ)) (pc : Nat) (σ : am_H) (a : Option am_A) : am_le (am_G call rec pc σ a) (am_G call' rec' pc σ a) := by
  rcases a with _ | ⟨bs, q, lv, st⟩ | ⟨g, r⟩ | ⟨g, y, as, lv, st⟩ | ⟨o, q, lv, st⟩ | ⟨o, q, lv, st⟩ | ⟨o, q, lv, st⟩ | ⟨o, q, lv, st⟩ | ⟨g, y', as, lv, st, hp⟩
  · exact fun r h => h
  · exact am_sw_le (fun q => hr q lv st σ) bs q
  · exact fun r h => h
  · cases g
    · exact fun r h => h
    · intro r h
      show (call' y as σ).bind _ = some r
      have h : (call y as σ).bind (fun r => am_bk (am_rt y) (fun st τ => rec (pc + 3) lv st τ) st r) = some r := h
      cases e : call y as σ with
      | none => rw [e] at h; cases h
      | some x =>
        rw [e] at h
        rw [hc _ _ _ x e]
        exact am_bk_le (fun st τ => hr (pc + 3) lv st τ) (am_rt y) st x r h
  · exact am_le.bind (fun x => hr _ _ _ _)
  · exact am_le.bind (fun x => hr _ _ _ _)
  · exact am_le.bind (fun x => hr _ _ _ _)
  · exact am_le.bind (fun x => hr _ _ _ _)
  · cases g
    · exact fun r h => h
    · intro r h
      show (call' y' as σ).bind _ = some r
      have h : (call y' as σ).bind (fun r => bif decide (r.1.2.1 = 0) then rec (pc + 3) lv (.int r.1.1 :: st) r.2 else rec hp lv [.ref (am_c r.2)] (am_thr r.2)) = some r := h
      cases e : call y' as σ with
      | none => rw [e] at h; cases h
      | some x =>
        rw [e] at h
        rw [hc _ _ _ x e]
        have h : (bif decide (x.1.2.1 = 0) then rec (pc + 3) lv (.int x.1.1 :: st) x.2 else rec hp lv [.ref (am_c x.2)] (am_thr x.2)) = some r := h
        show (bif decide (x.1.2.1 = 0) then rec' (pc + 3) lv (.int x.1.1 :: st) x.2 else rec' hp lv [.ref (am_c x.2)] (am_thr x.2)) = some r
        cases e2 : decide (x.1.2.1 = 0) with
        | true => rw [e2] at h; exact hr _ _ _ _ r h
        | false => rw [e2] at h; exact hr _ _ _ _ r h
theorem am_F_le {call call' : Nat → List Value → am_H → am_X} {rec rec' : Nat → am_lv → List Value → am_H → am_X} (hc : ∀ y as τ, am_le (call y as τ) (call' y as τ)) (hr : ∀ q lv st τ, am_le (rec q lv st τ) (rec' q lv st τ)) (y pc : Nat) (lv : am_lv) (st : List Value) (σ : am_H) : am_le (am_F call rec y pc lv st σ) (am_F call' rec' y pc lv st σ) := by
  unfold am_F
  cases am_prog y pc with
  | none => exact fun r h => h
  | some q => exact am_G_le hc hr pc σ _
theorem am_ex_le : ∀ (f d y pc : Nat) (lv : am_lv) (st : List Value) (σ : am_H), am_le (am_ex f d y pc lv st σ) (am_ex (f + 1) d y pc lv st σ)
  | 0, d, y, pc, lv, st, σ => fun r h => by cases h
  | f + 1, d, y, pc, lv, st, σ => by
    refine am_F_le (fun y' as τ => ?_) (fun q lv st τ => am_ex_le f d y q lv st τ) y pc lv st σ
    cases d with
    | zero => exact fun r h => h
    | succ d => exact am_ex_le f d y' 0 (am_args 0 as) [] τ
theorem am_ex_add {f d y pc : Nat} {lv : am_lv} {st : List Value} {σ : am_H} {r : am_r × am_H} (h : am_ex f d y pc lv st σ = some r) : ∀ n, am_ex (f + n) d y pc lv st σ = some r
  | 0 => h
  | n + 1 => am_ex_le (f + n) d y pc lv st σ r (am_ex_add h n)
theorem am_ex_up {f g d y pc : Nat} {lv : am_lv} {st : List Value} {σ : am_H} {r : am_r × am_H} (h : am_ex f d y pc lv st σ = some r) (hg : f ≤ g) : am_ex g d y pc lv st σ = some r := by
  have := am_ex_add h (g - f)
  rwa [show f + (g - f) = g by omega] at this
theorem am_L_ex (d y pc : Nat) (lv : am_lv) (st : List Value) (σ : am_H) : ∃ x : am_X, (∃ f r, x = some r ∧ am_ex f d y pc lv st σ = some r) ∨ (x = none ∧ ∀ f, am_ex f d y pc lv st σ = none) := by
  by_cases h : ∃ f r, am_ex f d y pc lv st σ = some r
  · obtain ⟨f, r, h⟩ := h
    exact ⟨some r, Or.inl ⟨f, r, rfl, h⟩⟩
  · refine ⟨none, Or.inr ⟨rfl, fun f => ?_⟩⟩
    cases e : am_ex f d y pc lv st σ with
    | none => rfl
    | some r => exact absurd ⟨f, r, e⟩ h
noncomputable def am_L (d y pc : Nat) (lv : am_lv) (st : List Value) (σ : am_H) : am_X := Classical.choose (am_L_ex d y pc lv st σ)
theorem am_L_spec (d y pc : Nat) (lv : am_lv) (st : List Value) (σ : am_H) : (∃ f r, am_L d y pc lv st σ = some r ∧ am_ex f d y pc lv st σ = some r) ∨ (am_L d y pc lv st σ = none ∧ ∀ f, am_ex f d y pc lv st σ = none) := Classical.choose_spec (am_L_ex d y pc lv st σ)
theorem am_L_to {d y pc : Nat} {lv : am_lv} {st : List Value} {σ : am_H} {r : am_r × am_H} (h : am_L d y pc lv st σ = some r) : ∃ f, am_ex f d y pc lv st σ = some r := by
  rcases am_L_spec d y pc lv st σ with ⟨f, r', e, h'⟩ | ⟨e, -⟩
  · rw [e] at h; cases h; exact ⟨f, h'⟩
  · rw [e] at h; cases h
theorem am_L_of {f d y pc : Nat} {lv : am_lv} {st : List Value} {σ : am_H} {r : am_r × am_H} (h : am_ex f d y pc lv st σ = some r) : am_L d y pc lv st σ = some r := by
  rcases am_L_spec d y pc lv st σ with ⟨g, r', e, h'⟩ | ⟨e, hn⟩
  · have a := am_ex_up h (Nat.le_max_left f g)
    have b := am_ex_up h' (Nat.le_max_right f g)
    rw [a] at b; cases b; exact e
  · rw [hn f] at h; cases h
/-- the calls of a run of depth d -/
noncomputable def am_C (d : Nat) (y : Nat) (as : List Value) (σ : am_H) : am_X := match d with
  | 0 => none
  | d' + 1 => am_L d' y 0 (am_args 0 as) [] σ
theorem am_bindE {α : Type} {o : Option α} {f : α → am_X} {r : am_r × am_H} (h : o.bind f = some r) : ∃ x, o = some x ∧ f x = some r := by
  cases o with
  | none => cases h
  | some x => exact ⟨x, rfl, h⟩
theorem am_swE {k : Nat → am_X} {r : am_r × am_H} : ∀ (bs : List (Bool × Nat)) (q : Nat), am_sw k bs q = some r → ∃ t, k t = some r ∧ ∀ k' : Nat → am_X, k' t = some r → am_sw k' bs q = some r
  | [], q, h => ⟨q, h, fun _ h => h⟩
  | (true, t) :: l, q, h => ⟨t, h, fun _ h => h⟩
  | (false, t) :: l, q, h => am_swE l q h
theorem am_bkE {rt : Nat} {k : List Value → am_H → am_X} {st : List Value} {x r : am_r × am_H} (h : am_bk rt k st x = some r) : ∃ st', k st' x.2 = some r ∧ ∀ k' : List Value → am_H → am_X, k' st' x.2 = some r → am_bk rt k' st x = some r := by
  obtain ⟨⟨a, b, o⟩, τ⟩ := x
  unfold am_bk at h ⊢
  cases h0 : Nat.beq rt 0
  · rw [h0] at h
    cases h2 : Nat.beq rt 2
    · rw [h2] at h
      cases h3 : Nat.beq rt 3
      · rw [h3] at h
        exact ⟨_, h, fun _ q => q⟩
      · rw [h3] at h
        cases o
        · exact ⟨_, h, fun _ q => q⟩
        · exact ⟨_, h, fun _ q => q⟩
    · rw [h2] at h
      exact ⟨_, h, fun _ q => q⟩
  · rw [h0] at h
    exact ⟨_, h, fun _ q => q⟩
theorem am_L_F (d y pc : Nat) (lv : am_lv) (st : List Value) (σ : am_H) : am_L d y pc lv st σ = am_F (am_C d) (fun pc lv st τ => am_L d y pc lv st τ) y pc lv st σ := by
  have up : ∀ r, am_L d y pc lv st σ = some r → am_F (am_C d) (fun pc lv st τ => am_L d y pc lv st τ) y pc lv st σ = some r := by
    intro r h
    obtain ⟨f, h⟩ := am_L_to h
    cases f with
    | zero => cases h
    | succ f =>
      refine am_F_le (fun y' as τ => ?_) (fun q lv st τ => fun r h => am_L_of h) y pc lv st σ r h
      cases d with
      | zero => exact fun r h => by cases h
      | succ d => exact fun r h => am_L_of h
  have down : ∀ r, am_F (am_C d) (fun pc lv st τ => am_L d y pc lv st τ) y pc lv st σ = some r → am_L d y pc lv st σ = some r := by
    intro r h
    have key : ∃ f, am_ex (f + 1) d y pc lv st σ = some r := by
      show ∃ f, am_F _ _ y pc lv st σ = some r
      unfold am_F at h ⊢
      cases hp : am_prog y pc with
      | none => rw [hp] at h; cases h
      | some q =>
        rw [hp] at h
        dsimp only at h ⊢
        generalize am_act q.1 (am_rt y) pc (am_trim q.2 lv) st σ = a at h ⊢
        rcases a with _ | ⟨bs, q, lv, st⟩ | ⟨g, z⟩ | ⟨g, y', as, lv, st⟩ | ⟨o, q, lv, st⟩ | ⟨o, q, lv, st⟩ | ⟨o, q, lv, st⟩ | ⟨o, q, lv, st⟩ | ⟨g, y', as, lv, st, hp⟩
        · cases h
        · obtain ⟨t, ht, hk⟩ := am_swE bs q h
          obtain ⟨f, hf⟩ := am_L_to ht
          exact ⟨f, hk _ hf⟩
        · exact ⟨0, h⟩
        · cases g
          · cases h
          · obtain ⟨x, hx, h⟩ := am_bindE h
            cases d with
            | zero => cases hx
            | succ d =>
              obtain ⟨f1, h1⟩ := am_L_to (d := d) hx
              obtain ⟨st', h2, hk⟩ := am_bkE h
              obtain ⟨f2, h2⟩ := am_L_to h2
              refine ⟨max f1 f2, ?_⟩
              show (am_ex (max f1 f2) d y' 0 (am_args 0 as) [] σ).bind _ = some r
              rw [am_ex_up h1 (Nat.le_max_left f1 f2)]
              exact hk _ (am_ex_up h2 (Nat.le_max_right f1 f2))
        · obtain ⟨x, hx, h⟩ := am_bindE h
          obtain ⟨f, hf⟩ := am_L_to h
          exact ⟨f, by rw [hx]; exact hf⟩
        · obtain ⟨x, hx, h⟩ := am_bindE h
          obtain ⟨f, hf⟩ := am_L_to h
          exact ⟨f, by rw [hx]; exact hf⟩
        · obtain ⟨x, hx, h⟩ := am_bindE h
          obtain ⟨f, hf⟩ := am_L_to h
          exact ⟨f, by rw [hx]; exact hf⟩
        · obtain ⟨x, hx, h⟩ := am_bindE h
          obtain ⟨f, hf⟩ := am_L_to h
          exact ⟨f, by rw [hx]; exact hf⟩
        · cases g
          · cases h
          · obtain ⟨x, hx, h⟩ := am_bindE h
            cases d with
            | zero => cases hx
            | succ d =>
              obtain ⟨f1, h1⟩ := am_L_to (d := d) hx
              cases e2 : decide (x.1.2.1 = 0) with
              | true =>
                rw [e2] at h
                obtain ⟨f2, h2⟩ := am_L_to h
                refine ⟨max f1 f2, ?_⟩
                show (am_ex (max f1 f2) d y' 0 (am_args 0 as) [] σ).bind _ = some r
                rw [am_ex_up h1 (Nat.le_max_left f1 f2)]
                show (bif decide (x.1.2.1 = 0) then _ else _) = some r
                rw [e2]
                exact am_ex_up h2 (Nat.le_max_right f1 f2)
              | false =>
                rw [e2] at h
                obtain ⟨f2, h2⟩ := am_L_to h
                refine ⟨max f1 f2, ?_⟩
                show (am_ex (max f1 f2) d y' 0 (am_args 0 as) [] σ).bind _ = some r
                rw [am_ex_up h1 (Nat.le_max_left f1 f2)]
                show (bif decide (x.1.2.1 = 0) then _ else _) = some r
                rw [e2]
                exact am_ex_up h2 (Nat.le_max_right f1 f2)
    obtain ⟨f, hf⟩ := key
    exact am_L_of hf
  cases e : am_L d y pc lv st σ with
  | some r => exact (up r e).symm
  | none =>
    cases e' : am_F (am_C d) (fun pc lv st τ => am_L d y pc lv st τ) y pc lv st σ with
    | none => rfl
    | some r => rw [down r e'] at e; cases e
theorem am_trim3 (l : List Nat) : ∀ lv : am_lv, am_trimL l (am_trimL l lv) = am_trimL l lv
  | [] => rfl
  | q :: lv => by
    show am_trimL l (bif am_has l q.1 then q :: am_trimL l lv else am_trimL l lv) = (bif am_has l q.1 then q :: am_trimL l lv else am_trimL l lv)
    cases h : am_has l q.1
    · exact am_trim3 l lv
    · show (bif am_has l q.1 then q :: am_trimL l (am_trimL l lv) else am_trimL l (am_trimL l lv)) = q :: am_trimL l lv
      rw [h, am_trim3 l lv]
      rfl
theorem am_trim2 (t : Option (List Nat)) (lv : am_lv) : am_trim t (am_trim t lv) = am_trim t lv := by
  cases t with
  | none => rfl
  | some l => exact am_trim3 l lv
/-- a stretch of at most K instructions at once, up to the places where walks are cut -/
def am_it : Nat → (Nat → List Value → am_H → am_X) → (Nat → am_lv → List Value → am_H → am_X) → Nat → Bool → Nat → am_lv → List Value → am_H → am_X
  | 0, _, rest, _, _, pc, lv, st, σ => rest pc lv st σ
  | K + 1, call, rest, y, first, pc, lv, st, σ => match am_prog y pc with
    | none => none
    | some (i, none) => am_G call (fun pc lv st τ => am_it K call rest y false pc lv st τ) pc σ (am_act i (am_rt y) pc lv st σ)
    | some (i, some t) => bif first then am_G call (fun pc lv st τ => am_it K call rest y false pc lv st τ) pc σ (am_act i (am_rt y) pc (am_trim (some t) lv) st σ) else rest pc (am_trim (some t) lv) st σ
theorem am_G_congr {call : Nat → List Value → am_H → am_X} {rec rec' : Nat → am_lv → List Value → am_H → am_X} (hr : ∀ q lv st τ, rec q lv st τ = rec' q lv st τ) (pc : Nat) (σ : am_H) (a : Option am_A) : am_G call rec pc σ a = am_G call rec' pc σ a := by
  have : rec = rec' := by funext q lv st τ; exact hr q lv st τ
  rw [this]
theorem am_L_trim {d y pc : Nat} {i : am_O} {t : Option (List Nat)} (hp : am_prog y pc = some (i, t)) (lv : am_lv) (st : List Value) (σ : am_H) : am_L d y pc (am_trim t lv) st σ = am_L d y pc lv st σ := by
  rw [am_L_F, am_L_F d y pc lv st σ]
  unfold am_F
  rw [hp]
  dsimp only
  rw [am_trim2]
theorem am_L_it (d y : Nat) : ∀ (K : Nat) (first : Bool) (pc : Nat) (lv : am_lv) (st : List Value) (σ : am_H), am_it K (am_C d) (fun pc lv st τ => am_L d y pc lv st τ) y first pc lv st σ = am_L d y pc lv st σ
  | 0, first, pc, lv, st, σ => rfl
  | K + 1, first, pc, lv, st, σ => by
    rw [am_L_F]
    unfold am_it am_F
    cases hp : am_prog y pc with
    | none => rfl
    | some q =>
      obtain ⟨i, t⟩ := q
      cases t with
      | none => exact am_G_congr (fun q lv st τ => am_L_it d y K false q lv st τ) pc σ _
      | some t =>
        cases first with
        | true => exact am_G_congr (fun q lv st τ => am_L_it d y K false q lv st τ) pc σ _
        | false =>
          show am_L d y pc (am_trim (some t) lv) st σ = _
          rw [am_L_trim hp, am_L_F]
          unfold am_F
          rw [hp]
