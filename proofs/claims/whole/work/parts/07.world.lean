/-! THE ABSTRACT MEMORY AND THE HEAP: the cells from B on are what the memory says -/
def am_tr (B b : Nat) : Value → Value
  | .ref k => .ref (B + k)
  | .retAddr _ => .ref b
  | v => v
theorem am_tr_cat (B b : Nat) (v : Value) : (am_tr B b v).category = v.category := by cases v <;> rfl
theorem am_two_cat (v : Value) : am_two v = decide (v.category = 2) := by cases v <;> rfl
abbrev am_tl (B b : Nat) (lv : am_lv) : List (Nat × Value) := lv.map (fun q => (q.1, am_tr B b q.2))
abbrev am_ts (B b : Nat) (st : List Value) : List Value := st.map (am_tr B b)
theorem am_cats_ok (B b : Nat) : ∀ st : List Value, ((am_ts B b st).map fun v => v.category).sum = am_cats st
  | [] => rfl
  | v :: st => by
    have h := am_cats_ok B b st
    have e : (am_tr B b v).category = (bif am_two v then 2 else 1) := by cases v <;> rfl
    show ((am_tr B b v).category :: ((am_ts B b st).map fun v => v.category)).sum = (bif am_two v then 2 else 1) + am_cats st
    rw [List.sum_cons, h, e]
/-- a field's value -/
def am_fv (B : Nat) (σ : am_H) (ci k j : Nat) : Value :=
  if am_fk (am_ty ci j) = 1 then .long (am_J σ k j) else if am_fk (am_ty ci j) = 2 then va_rf ((am_R σ k j).map (B + ·)) else .int (am_I σ k j)
/-- a cell of the memory, as the kit's worlds have it -/
def am_e (ac : Nat → ClassId) (B : Nat) (σ : am_H) (k : Nat) : va_E := match am_sh σ k with
  | (0, ci) => .inr (ci, (List.range (am_N ci)).map (am_fv B σ ci k))
  | (1, n) => .inl (ac 1, n, .inl (am_I σ k))
  | (2, n) => .inl (ac 2, n, .inr (.inl (am_J σ k)))
  | (3, n) => .inl (ac 3, n, .inl (am_I σ k))
  | (t, n) => .inl (ac t, n, .inr (.inr (.inr (.inr (fun j => (am_R σ k j).map (B + ·))))))
theorem am_e0 {ac : Nat → ClassId} {B : Nat} {σ : am_H} {k ci : Nat} (h : am_sh σ k = (0, ci)) : am_e ac B σ k = .inr (ci, (List.range (am_N ci)).map (am_fv B σ ci k)) := by unfold am_e; rw [h]; rfl
theorem am_e1 {ac : Nat → ClassId} {B : Nat} {σ : am_H} {k n : Nat} (h : am_sh σ k = (1, n)) : am_e ac B σ k = .inl (ac 1, n, .inl (am_I σ k)) := by unfold am_e; rw [h]; rfl
theorem am_e2 {ac : Nat → ClassId} {B : Nat} {σ : am_H} {k n : Nat} (h : am_sh σ k = (2, n)) : am_e ac B σ k = .inl (ac 2, n, .inr (.inl (am_J σ k))) := by unfold am_e; rw [h]; rfl
theorem am_e3 {ac : Nat → ClassId} {B : Nat} {σ : am_H} {k n : Nat} (h : am_sh σ k = (3, n)) : am_e ac B σ k = .inl (ac 3, n, .inl (am_I σ k)) := by unfold am_e; rw [h]; rfl
theorem am_e4 {ac : Nat → ClassId} {B : Nat} {σ : am_H} {k t n : Nat} (h : am_sh σ k = (4 + t, n)) : am_e ac B σ k = .inl (ac (4 + t), n, .inr (.inr (.inr (.inr (fun j => (am_R σ k j).map (B + ·)))))) := by
  unfold am_e; rw [h, Nat.add_comm 4 t]; rfl
theorem am_e_congr {ac : Nat → ClassId} {B : Nat} {σ τ : am_H} {k : Nat} (h1 : am_sh τ k = am_sh σ k) (h2 : am_I τ k = am_I σ k) (h3 : am_J τ k = am_J σ k) (h4 : am_R τ k = am_R σ k) : am_e ac B τ k = am_e ac B σ k := by
  unfold am_e am_fv
  rw [h1, h2, h3, h4]
def am_ws (ac : Nat → ClassId) (B : Nat) (σ : am_H) : va_W := (List.range (am_n σ)).map (fun k => (B + k, am_e ac B σ k))
theorem am_ws_at {ac : Nat → ClassId} {B : Nat} {σ : am_H} {k : Nat} (h : k < am_n σ) : (am_ws ac B σ)[k]? = some (B + k, am_e ac B σ k) := by
  unfold am_ws
  rw [List.getElem?_map, List.getElem?_range h]
  rfl
theorem am_ws_to {ac : Nat → ClassId} {B : Nat} {σ : am_H} {k : Nat} {p : Nat × va_E} (h : (am_ws ac B σ)[k]? = some p) : k < am_n σ ∧ p = (B + k, am_e ac B σ k) := by
  by_cases hk : k < am_n σ
  · rw [am_ws_at hk] at h
    exact ⟨hk, (Option.some.inj h).symm⟩
  · rw [List.getElem?_eq_none (by unfold am_ws; simp; omega)] at h
    cases h
theorem am_ws_D (ac : Nat → ClassId) (B : Nat) (σ : am_H) : va_D (fun q => B ≤ q) (am_ws ac B σ) := by
  refine ⟨fun i j p q hi hj h => ?_, fun k q hk => ?_⟩
  · obtain ⟨-, rfl⟩ := am_ws_to hi
    obtain ⟨-, rfl⟩ := am_ws_to hj
    have h : B + i = B + j := h
    omega
  · obtain ⟨-, rfl⟩ := am_ws_to hk
    exact Nat.le_add_right B k
theorem am_ws_set {ac : Nat → ClassId} {B : Nat} {σ τ : am_H} {k : Nat} {e : va_E} (hn : am_n τ = am_n σ) (hk : k < am_n σ) (he : am_e ac B τ k = e) (ho : ∀ q, q ≠ k → am_e ac B τ q = am_e ac B σ q) : (am_ws ac B σ).set k (B + k, e) = am_ws ac B τ := by
  apply List.ext_getElem?
  intro i
  by_cases hi : i = k
  · subst hi
    rw [List.getElem?_set_self (by unfold am_ws; simpa using hk), am_ws_at (by rw [hn]; exact hk), he]
  · rw [List.getElem?_set_ne (Ne.symm hi)]
    by_cases hl : i < am_n σ
    · rw [am_ws_at hl, am_ws_at (by rw [hn]; exact hl), ho i hi]
    · rw [List.getElem?_eq_none (by unfold am_ws; simp; omega), List.getElem?_eq_none (by unfold am_ws; simp; omega)]
theorem am_ur_self {α : Type} (f : Nat → α) (k : Nat) (g : α) : am_ur f k g k = g := by simp [am_ur]
theorem am_ur_ne {α : Type} (f : Nat → α) {k j : Nat} (g : α) (h : j ≠ k) : am_ur f k g j = f j := by simp [am_ur, h]
theorem am_u_ne {α : Type} (f : Nat → Nat → α) {k j a : Nat} (v : α) (h : a ≠ k) : am_u f k j v a = f a := by
  funext b; simp [am_u, h]
theorem am_u_self {α : Type} (f : Nat → Nat → α) (k j : Nat) (v : α) (b : Nat) : am_u f k j v k b = if b = j then v else f k b := by simp [am_u]
theorem am_mk_e {ac : Nat → ClassId} {B : Nat} {σ : am_H} {t x N k : Nat} (h : k ≠ am_n σ) : am_e ac B (am_mk σ t x N) k = am_e ac B σ k :=
  am_e_congr (am_ur_ne _ _ h) (am_ur_ne _ _ h) (am_ur_ne _ _ h) (am_ur_ne _ _ h)
theorem am_ws_mk (ac : Nat → ClassId) (B : Nat) (σ : am_H) (t x N : Nat) : am_ws ac B (am_mk σ t x N) = am_ws ac B σ ++ [(B + am_n σ, am_e ac B (am_mk σ t x N) (am_n σ))] := by
  unfold am_ws
  show (List.range (am_n σ + 1)).map _ = _
  rw [List.range_succ, List.map_append]
  congr 1
  apply List.map_congr_left
  intro k hk
  rw [am_mk_e (Nat.ne_of_lt (List.mem_range.mp hk))]
def am_wf (σ : am_H) : Prop := ∀ k, am_n σ ≤ k → (am_sh σ k).1 = 99
theorem am_is_sh {σ : am_H} {k ci : Nat} (h : am_is σ k ci = true) : am_sh σ k = (0, ci) := by
  unfold am_is at h
  rw [Bool.and_eq_true] at h
  exact Prod.ext (Nat.eq_of_beq_eq_true h.1) (Nat.eq_of_beq_eq_true h.2)
theorem am_ar_sh {σ : am_H} {k t : Nat} (h : am_ar σ k t = true) : am_sh σ k = (t, (am_sh σ k).2) := Prod.ext (Nat.eq_of_beq_eq_true h) rfl
theorem am_wf.lt {σ : am_H} (w : am_wf σ) {k t n : Nat} (h : am_sh σ k = (t, n)) (ht : t ≠ 99) : k < am_n σ := by
  by_cases hk : k < am_n σ
  · exact hk
  · have := w k (by omega)
    rw [h] at this
    exact absurd this ht
theorem am_ix_some {i : Int32} {n j : Nat} (h : am_ix i n = some j) : vp_in i n ∧ i.toNatClampNeg = j := by
  unfold am_ix at h
  cases h1 : decide (i < 0)
  · cases h2 : decide (n ≤ i.toNatClampNeg)
    · rw [h1, h2] at h
      refine ⟨?_, Option.some.inj h⟩
      rintro (q | q)
      · exact absurd q (of_decide_eq_false h1)
      · exact absurd q (of_decide_eq_false h2)
    · rw [h1, h2] at h; cases h
  · rw [h1] at h; cases h
theorem am_zb_or {v : Int32} (h : am_zb v = true) : v = 0 ∨ v = 1 := by
  unfold am_zb at h
  rw [Bool.or_eq_true, decide_eq_true_eq, decide_eq_true_eq] at h
  exact h
theorem am_zb_nar {v : Int32} (h : am_zb v = true) : narrow .boolean (.int v) = .int v ∧ fits .boolean (.int v) = true := by
  rcases am_zb_or h with rfl | rfl
  · exact ⟨by decide +kernel, by decide +kernel⟩
  · exact ⟨by decide +kernel, by decide +kernel⟩
-- the classes' tables
theorem am_cl_at : ∀ ci, ci < 10 → am_cl[ci]? = some (am_Rn ci, am_T ci, am_N ci) := by
  intro ci h
  match ci, h with
  | 0, _ => rfl
  | 1, _ => rfl
  | 2, _ => rfl
  | 3, _ => rfl
  | 4, _ => rfl
  | 5, _ => rfl
  | 6, _ => rfl
  | 7, _ => rfl
  | 8, _ => rfl
  | 9, _ => rfl
theorem am_ty_ok : ∀ ci, ci < 10 → ∀ k, k < am_N ci → parseFieldDescriptor (am_T ci k).2.2.1 = some (am_ty ci k) := by
  intro ci h
  match ci, h with
  | 0, _ => exact tyX0_ok
  | 1, _ => exact tyX1_ok
  | 2, _ => exact tyX2_ok
  | 3, _ => exact tyX3_ok
  | 4, _ => exact tyX4_ok
  | 5, _ => exact tyX5_ok
  | 6, _ => exact tyX6_ok
  | 7, _ => exact tyX7_ok
  | 8, _ => exact tyX8_ok
  | 9, _ => exact tyX9_ok
theorem am_nm_ok : ∀ ci, ci < 10 → ∀ a, a < am_N ci → ∀ b, b < am_N ci → a ≠ b → (am_T ci a).2.1 ≠ (am_T ci b).2.1 := by
  intro ci h
  match ci, h with
  | 0, _ => exact nmX0
  | 1, _ => exact nmX1
  | 2, _ => exact nmX2
  | 3, _ => exact nmX3
  | 4, _ => exact nmX4
  | 5, _ => exact nmX5
  | 6, _ => exact nmX6
  | 7, _ => exact nmX7
  | 8, _ => exact nmX8
  | 9, _ => exact nmX9
