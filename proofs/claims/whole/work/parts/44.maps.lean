/-! MAPS held in slots -/
def fu_at {α β : Type} [DecidableEq α] (g : α → β) (a : α) (b : β) : α → β := fun x => if x = a then b else g x
theorem fu_self {α β : Type} [DecidableEq α] (g : α → β) (a : α) (b : β) : fu_at g a b a = b := if_pos rfl
theorem fu_ne {α β : Type} [DecidableEq α] (g : α → β) {a x : α} (b : β) (h : x ≠ a) : fu_at g a b x = g x := if_neg h
section MPS
variable {α : Type}
/-- how many slots are taken -/
def bm_n (s : Nat → Option (Int64 × α)) : Nat → Nat
  | 0 => 0
  | n + 1 => bm_n s n + (match s n with | none => 0 | some _ => 1)
/-- ten slots hold a map -/
def bm_ok (s : Nat → Option (Int64 × α)) (B : Int64 → Option α) (nb : Nat) : Prop := (∀ i d r, i < 10 → s i = some (d, r) → B d = some r) ∧ (∀ d r, B d = some r → ∃ i, i < 10 ∧ s i = some (d, r)) ∧ (∀ i j d r r', i < 10 → j < 10 → s i = some (d, r) → s j = some (d, r') → i = j) ∧ bm_n s 10 = nb
variable {s s' : Nat → Option (Int64 × α)} {B : Int64 → Option α} {nb : Nat}
theorem bm_n_le (n : Nat) : bm_n s n ≤ n := by
  induction n with
  | zero => exact Nat.le_refl _
  | succ n ih =>
    unfold bm_n
    split <;> omega
theorem bm_n_congr (n : Nat) (h : ∀ i, i < n → s' i = s i) : bm_n s' n = bm_n s n := by
  induction n with
  | zero => rfl
  | succ n ih =>
    unfold bm_n
    rw [ih (fun i hi => h i (by omega)), h n (by omega)]
theorem bm_n_full (n : Nat) (h : ∀ i, i < n → s i ≠ none) : bm_n s n = n := by
  induction n with
  | zero => rfl
  | succ n ih =>
    unfold bm_n
    rw [ih (fun i hi => h i (by omega))]
    cases c : s n with
    | none => exact absurd c (h n (by omega))
    | some x => rfl
theorem bm_n_lt {n i : Nat} (hi : i < n) (h : s i = none) : bm_n s n < n := by
  induction n with
  | zero => omega
  | succ n ih =>
    unfold bm_n
    by_cases c : i = n
    · subst c
      rw [h]
      have := bm_n_le (s := s) i
      show bm_n s i + 0 < i + 1
      omega
    · have := ih (by omega)
      split <;> omega
theorem bm_n_set {n i : Nat} (hi : i < n) (x : Int64 × α) (h : s i = none) : bm_n (fu_at s i (some x)) n = bm_n s n + 1 := by
  induction n with
  | zero => omega
  | succ n ih =>
    unfold bm_n
    by_cases c : i = n
    · subst c
      rw [fu_self, h, bm_n_congr (s := s) i (fun j hj => fu_ne s _ (show j ≠ i by omega))]
      rfl
    · rw [fu_ne s _ (show n ≠ i by omega), ih (by omega)]
      omega
theorem bm_n_same {n i : Nat} (x y : Int64 × α) (h : s i = some y) : bm_n (fu_at s i (some x)) n = bm_n s n := by
  induction n with
  | zero => rfl
  | succ n ih =>
    unfold bm_n
    rw [ih]
    by_cases c : i = n
    · subst c
      rw [fu_self, h]
    · rw [fu_ne s _ (show n ≠ i by omega)]
theorem bm_n_del {n i : Nat} (hi : i < n) (y : Int64 × α) (h : s i = some y) : bm_n (fu_at s i none) n + 1 = bm_n s n := by
  induction n with
  | zero => omega
  | succ n ih =>
    unfold bm_n
    by_cases c : i = n
    · subst c
      rw [fu_self, h, bm_n_congr (s := s) i (fun j hj => fu_ne s _ (show j ≠ i by omega))]
      rfl
    · have := ih (by omega)
      rw [fu_ne s _ (show n ≠ i by omega)]
      omega
theorem bm_ins (h : bm_ok s B nb) {i : Nat} (hi : i < 10) (hs : s i = none) {d : Int64} (hd : B d = none) (r : α) : bm_ok (fu_at s i (some (d, r))) (fu_at B d (some r)) (nb + 1) := by
  obtain ⟨h1, h2, h3, h4⟩ := h
  have key : ∀ j d' r', j < 10 → fu_at s i (some (d, r)) j = some (d', r') → (j = i ∧ d' = d ∧ r' = r) ∨ (j ≠ i ∧ d' ≠ d ∧ s j = some (d', r')) := by
    intro j d' r' hj hh
    by_cases c : j = i
    · subst c
      rw [fu_self] at hh
      injection hh with hh
      injection hh with e1 e2
      exact Or.inl ⟨rfl, e1.symm, e2.symm⟩
    · rw [fu_ne _ _ c] at hh
      refine Or.inr ⟨c, fun e => ?_, hh⟩
      have := h1 j d' r' hj hh
      rw [e, hd] at this
      exact absurd this (by simp)
  refine ⟨fun j d' r' hj hh => ?_, fun d' r' hh => ?_, fun j j' d' r' r'' hj hj' hh hh' => ?_, ?_⟩
  · rcases key j d' r' hj hh with ⟨-, rfl, rfl⟩ | ⟨-, c, hh⟩
    · exact fu_self _ _ _
    · rw [fu_ne _ _ c]
      exact h1 j d' r' hj hh
  · by_cases c : d' = d
    · subst c
      rw [fu_self] at hh
      injection hh with hh
      exact ⟨i, hi, by rw [fu_self, hh]⟩
    · rw [fu_ne _ _ c] at hh
      obtain ⟨j, hj, hj2⟩ := h2 d' r' hh
      refine ⟨j, hj, ?_⟩
      rw [fu_ne _ _ (show j ≠ i from fun e => by rw [e, hs] at hj2; exact absurd hj2 (by simp))]
      exact hj2
  · rcases key j d' r' hj hh with ⟨e1, e2, -⟩ | ⟨c1, c2, q1⟩
    · rcases key j' d' r'' hj' hh' with ⟨e1', -, -⟩ | ⟨-, c2', -⟩
      · omega
      · exact absurd e2 c2'
    · rcases key j' d' r'' hj' hh' with ⟨-, e2', -⟩ | ⟨-, -, q1'⟩
      · exact absurd e2' c2
      · exact h3 j j' d' r' r'' hj hj' q1 q1'
  · rw [bm_n_set hi _ hs, h4]
theorem bm_rep (h : bm_ok s B nb) {i : Nat} (hi : i < 10) {d : Int64} {r0 : α} (hs : s i = some (d, r0)) (r : α) : bm_ok (fu_at s i (some (d, r))) (fu_at B d (some r)) nb := by
  obtain ⟨h1, h2, h3, h4⟩ := h
  have key : ∀ j d' r', j < 10 → fu_at s i (some (d, r)) j = some (d', r') → (j = i ∧ d' = d ∧ r' = r) ∨ (j ≠ i ∧ d' ≠ d ∧ s j = some (d', r')) := by
    intro j d' r' hj hh
    by_cases c : j = i
    · subst c
      rw [fu_self] at hh
      injection hh with hh
      injection hh with e1 e2
      exact Or.inl ⟨rfl, e1.symm, e2.symm⟩
    · rw [fu_ne _ _ c] at hh
      refine Or.inr ⟨c, fun e => ?_, hh⟩
      rw [e] at hh
      exact c (h3 j i d r' r0 hj hi hh hs)
  refine ⟨fun j d' r' hj hh => ?_, fun d' r' hh => ?_, fun j j' d' r' r'' hj hj' hh hh' => ?_, ?_⟩
  · rcases key j d' r' hj hh with ⟨-, rfl, rfl⟩ | ⟨-, c, hh⟩
    · exact fu_self _ _ _
    · rw [fu_ne _ _ c]
      exact h1 j d' r' hj hh
  · by_cases c : d' = d
    · subst c
      rw [fu_self] at hh
      injection hh with hh
      exact ⟨i, hi, by rw [fu_self, hh]⟩
    · rw [fu_ne _ _ c] at hh
      obtain ⟨j, hj, hj2⟩ := h2 d' r' hh
      refine ⟨j, hj, ?_⟩
      rw [fu_ne _ _ (show j ≠ i from fun e => by
        rw [e, hs] at hj2
        injection hj2 with hj2
        injection hj2 with e1 e2
        exact c e1.symm)]
      exact hj2
  · rcases key j d' r' hj hh with ⟨e1, e2, -⟩ | ⟨c1, c2, q1⟩
    · rcases key j' d' r'' hj' hh' with ⟨e1', -, -⟩ | ⟨-, c2', -⟩
      · omega
      · exact absurd e2 c2'
    · rcases key j' d' r'' hj' hh' with ⟨-, e2', -⟩ | ⟨-, -, q1'⟩
      · exact absurd e2' c2
      · exact h3 j j' d' r' r'' hj hj' q1 q1'
  · rw [bm_n_same _ _ hs, h4]
theorem bm_del (h : bm_ok s B nb) {i : Nat} (hi : i < 10) {d : Int64} {r0 : α} (hs : s i = some (d, r0)) : bm_ok (fu_at s i none) (fu_at B d none) (nb - 1) := by
  obtain ⟨h1, h2, h3, h4⟩ := h
  have key : ∀ j d' r', j < 10 → fu_at s i none j = some (d', r') → j ≠ i ∧ d' ≠ d ∧ s j = some (d', r') := by
    intro j d' r' hj hh
    by_cases c : j = i
    · subst c
      rw [fu_self] at hh
      exact absurd hh (by simp)
    · rw [fu_ne _ _ c] at hh
      refine ⟨c, fun e => ?_, hh⟩
      rw [e] at hh
      exact c (h3 j i d r' r0 hj hi hh hs)
  refine ⟨fun j d' r' hj hh => ?_, fun d' r' hh => ?_, fun j j' d' r' r'' hj hj' hh hh' => ?_, ?_⟩
  · obtain ⟨-, c, hh⟩ := key j d' r' hj hh
    rw [fu_ne _ _ c]
    exact h1 j d' r' hj hh
  · by_cases c : d' = d
    · subst c
      rw [fu_self] at hh
      exact absurd hh (by simp)
    · rw [fu_ne _ _ c] at hh
      obtain ⟨j, hj, hj2⟩ := h2 d' r' hh
      refine ⟨j, hj, ?_⟩
      rw [fu_ne _ _ (show j ≠ i from fun e => by
        rw [e, hs] at hj2
        injection hj2 with hj2
        injection hj2 with e1 e2
        exact c e1.symm)]
      exact hj2
  · exact h3 j j' d' r' r'' hj hj' (key j d' r' hj hh).2.2 (key j' d' r'' hj' hh').2.2
  · have := bm_n_del hi _ hs
    omega
/-- the first slot that holds a key; the first that holds none -/
def bs_find (s : Nat → Option (Int64 × α)) (v : Int64) : Nat → Nat → Option Nat
  | 0, _ => none
  | n + 1, i => match s i with | none => bs_find s v n (i + 1) | some x => if x.1 = v then some i else bs_find s v n (i + 1)
def bs_free (s : Nat → Option (Int64 × α)) : Nat → Nat → Option Nat
  | 0, _ => none
  | n + 1, i => match s i with | none => some i | some _ => bs_free s n (i + 1)
theorem bs_find_some {v : Int64} : ∀ {n i j : Nat}, bs_find s v n i = some j → i ≤ j ∧ j < i + n ∧ ∃ r, s j = some (v, r) := by
  intro n
  induction n with
  | zero => intro i j h; exact absurd h (by simp [bs_find])
  | succ n ih =>
    intro i j h
    unfold bs_find at h
    cases c : s i with
    | none =>
      rw [c] at h
      obtain ⟨a, b, e⟩ := ih h
      exact ⟨by omega, by omega, e⟩
    | some x =>
      rw [c] at h
      by_cases c2 : x.1 = v
      · have h : (if x.1 = v then some i else bs_find s v n (i + 1)) = some j := h
        rw [if_pos c2] at h
        injection h with h
        subst h
        exact ⟨by omega, by omega, x.2, by rw [c, ← c2]⟩
      · have h : (if x.1 = v then some i else bs_find s v n (i + 1)) = some j := h
        rw [if_neg c2] at h
        obtain ⟨a, b, e⟩ := ih h
        exact ⟨by omega, by omega, e⟩
theorem bs_find_none {v : Int64} : ∀ {n i : Nat}, bs_find s v n i = none → ∀ j r, i ≤ j → j < i + n → s j ≠ some (v, r) := by
  intro n
  induction n with
  | zero => intro i h j r a b; omega
  | succ n ih =>
    intro i h j r a b
    unfold bs_find at h
    cases c : s i with
    | none =>
      rw [c] at h
      by_cases e : j = i
      · rw [e, c]; simp
      · exact ih h j r (by omega) (by omega)
    | some x =>
      rw [c] at h
      have h : (if x.1 = v then some i else bs_find s v n (i + 1)) = none := h
      by_cases c2 : x.1 = v
      · rw [if_pos c2] at h
        exact absurd h (by simp)
      · rw [if_neg c2] at h
        by_cases e : j = i
        · rw [e, c]
          intro hh
          injection hh with hh
          exact c2 (by rw [hh])
        · exact ih h j r (by omega) (by omega)
theorem bs_free_some : ∀ {n i j : Nat}, bs_free s n i = some j → i ≤ j ∧ j < i + n ∧ s j = none := by
  intro n
  induction n with
  | zero => intro i j h; exact absurd h (by simp [bs_free])
  | succ n ih =>
    intro i j h
    unfold bs_free at h
    cases c : s i with
    | none =>
      rw [c] at h
      injection h with h
      subst h
      exact ⟨by omega, by omega, c⟩
    | some x =>
      rw [c] at h
      obtain ⟨a, b, e⟩ := ih h
      exact ⟨by omega, by omega, e⟩
theorem bs_free_none : ∀ {n i : Nat}, bs_free s n i = none → ∀ j, i ≤ j → j < i + n → s j ≠ none := by
  intro n
  induction n with
  | zero => intro i h j a b; omega
  | succ n ih =>
    intro i h j a b
    unfold bs_free at h
    cases c : s i with
    | none =>
      rw [c] at h
      exact absurd h (by simp)
    | some x =>
      rw [c] at h
      by_cases e : j = i
      · rw [e, c]; simp
      · exact ih h j (by omega) (by omega)
/-- looked up by a map -/
theorem bm_find (h : bm_ok s B nb) (v : Int64) : (∃ i r, i < 10 ∧ bs_find s v 10 0 = some i ∧ s i = some (v, r) ∧ B v = some r) ∨ (bs_find s v 10 0 = none ∧ B v = none) := by
  cases c : bs_find s v 10 0 with
  | none =>
    refine Or.inr ⟨rfl, ?_⟩
    cases e : B v with
    | none => rfl
    | some r =>
      obtain ⟨i, hi, hi2⟩ := h.2.1 v r e
      exact absurd hi2 (bs_find_none c i r (by omega) (by omega))
  | some i =>
    obtain ⟨a, b, r, e⟩ := bs_find_some c
    exact Or.inl ⟨i, r, by omega, rfl, e, h.1 i v r (by omega) e⟩
theorem bm_free (h : bm_ok s B nb) : (∃ i, i < 10 ∧ bs_free s 10 0 = some i ∧ s i = none ∧ nb < 10) ∨ (bs_free s 10 0 = none ∧ nb = 10) := by
  cases c : bs_free s 10 0 with
  | none =>
    refine Or.inr ⟨rfl, ?_⟩
    rw [← h.2.2.2]
    exact bm_n_full 10 (fun i hi => bs_free_none c i (by omega) (by omega))
  | some i =>
    obtain ⟨a, b, e⟩ := bs_free_some c
    refine Or.inl ⟨i, by omega, rfl, e, ?_⟩
    rw [← h.2.2.2]
    exact bm_n_lt (by omega) e
end MPS
