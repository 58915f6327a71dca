/-! WHAT NO RUN UNDOES: cells and slots made only grow, the script stays -/
def am_mo (σ τ : am_H) : Prop := am_c σ ≤ am_c τ ∧ am_s σ ≤ am_s τ ∧ am_sl τ = am_sl σ ∧ am_sx τ = am_sx σ
theorem am_mo.rf (σ : am_H) : am_mo σ σ := ⟨Nat.le_refl _, Nat.le_refl _, rfl, rfl⟩
theorem am_mo.tr {σ τ ρ : am_H} (h1 : am_mo σ τ) (h2 : am_mo τ ρ) : am_mo σ ρ := ⟨Nat.le_trans h1.1 h2.1, Nat.le_trans h1.2.1 h2.2.1, h2.2.2.1.trans h1.2.2.1, h2.2.2.2.trans h1.2.2.2⟩
theorem am_mo_wI (σ : am_H) (k j : Nat) (v : Int32) : am_mo σ (am_wI σ k j v) := am_mo.rf σ
theorem am_mo_mk (σ : am_H) (t x N : Nat) : am_mo σ (am_mk σ t x N) := ⟨Nat.le_succ _, Nat.le_add_right _ _, rfl, rfl⟩
theorem am_mo_thr (σ : am_H) : am_mo σ (am_thr σ) := ⟨Nat.le_succ _, Nat.le_add_right _ _, rfl, rfl⟩
theorem am_mo_stI {σ τ : am_H} {k : Nat} {i v : Int32} (h : am_stI σ k i v = some τ) : am_mo σ τ := by obtain ⟨-, -, rfl⟩ := am_stI_some h; exact am_mo.rf σ
theorem am_mo_stZ {σ τ : am_H} {k : Nat} {i v : Int32} (h : am_stZ σ k i v = some τ) : am_mo σ τ := by obtain ⟨-, -, -, rfl⟩ := am_stZ_some h; exact am_mo.rf σ
theorem am_mo_stJ {σ τ : am_H} {k : Nat} {i : Int32} {v : Int64} (h : am_stJ σ k i v = some τ) : am_mo σ τ := by obtain ⟨-, -, rfl⟩ := am_stJ_some h; exact am_mo.rf σ
theorem am_mo_stR {σ τ : am_H} {k ci x : Nat} {i : Int32} (h : am_stR σ k ci i x = some τ) : am_mo σ τ := by obtain ⟨-, -, -, rfl⟩ := am_stR_some h; exact am_mo.rf σ
theorem am_mo_nwa {σ τ : am_H} {t : Nat} {i : Int32} (h : am_nwa σ t i = some τ) : am_mo σ τ := by obtain ⟨-, -, rfl⟩ := am_nwa_some h; exact am_mo_mk σ _ _ _
theorem am_mo_new {σ τ : am_H} {ci N : Nat} (h : am_new σ ci N = some τ) : am_mo σ τ := by obtain ⟨-, rfl⟩ := am_bif (o := none) h; exact am_mo_mk σ _ _ _
theorem am_mo_pI {σ τ : am_H} {k ci j : Nat} {v : Int32} (h : am_pI σ k ci j v = some τ) : am_mo σ τ := by obtain ⟨-, rfl⟩ := am_bif (o := none) h; exact am_mo.rf σ
theorem am_mo_pZ {σ τ : am_H} {k ci j : Nat} {v : Int32} (h : am_pZ σ k ci j v = some τ) : am_mo σ τ := by obtain ⟨-, rfl⟩ := am_bif (o := none) h; exact am_mo.rf σ
theorem am_mo_pJ {σ τ : am_H} {k ci j : Nat} {v : Int64} (h : am_pJ σ k ci j v = some τ) : am_mo σ τ := by obtain ⟨-, rfl⟩ := am_bif (o := none) h; exact am_mo.rf σ
theorem am_mo_pR {σ τ : am_H} {k ci j v : Nat} (h : am_pR σ k ci j v = some τ) : am_mo σ τ := by obtain ⟨-, rfl⟩ := am_bif (o := none) h; exact am_mo.rf σ
theorem am_mo_cpy {σ τ : am_H} {k q : Nat} {sp dp n : Int32} (h : am_cpy σ k sp q dp n = some τ) : am_mo σ τ := by
  obtain ⟨-, ⟨-, -, rfl⟩ | ⟨-, -, rfl⟩⟩ := am_cpy_some h
  · exact am_mo.rf σ
  · exact am_mo.rf σ
set_option maxHeartbeats 4000000 in
theorem am_i_mo {i : Instr} {rt pc q : Nat} {lv lv' : am_lv} {st st' : List Value} {σ τ : am_H} {o : Option am_H} (h : am_i i rt pc lv st σ = am_wr o q lv' st') (ho : o = some τ) : am_mo σ τ := by
  cases i <;> (dsimp only [am_i] at h) <;> (try (repeat' split at h)) <;> first
    | (cases h; done)
    | (cases h; first | exact am_mo_stI ho | exact am_mo_stZ ho | exact am_mo_stJ ho | exact am_mo_nwa ho)
    | (revert h; cases Nat.beq rt 1 <;> cases Nat.beq rt 4 <;> cases Nat.beq rt 2 <;> cases Nat.beq rt 3 <;> cases Nat.beq rt 0 <;> intro h <;> cases h)
set_option maxHeartbeats 4000000 in
theorem am_p_mo {x : Nat × Nat × Nat × Nat} {nA cM mL : Nat → Nat} {pc q : Nat} {lv lv' : am_lv} {st st' : List Value} {σ τ : am_H} {o : Option am_H} (h : am_p nA cM mL x pc lv st σ = am_wr o q lv' st') (ho : o = some τ) : am_mo σ τ := by
  unfold am_p at h
  split at h <;> (try (repeat' split at h)) <;> first
    | (cases h; done)
    | (cases h; first | exact am_mo_pI ho | exact am_mo_pZ ho | exact am_mo_pJ ho | exact am_mo_pR ho | exact am_mo_new ho | exact am_mo_nwa ho | exact am_mo_stR ho)
    | (revert h; generalize (Nat.ble (am_cats _) 8 && Nat.ble _ _) = g; intro h; cases g <;> cases h; done)
    | (revert h; generalize Nat.ble (am_cats _) 8 = g; intro h; cases g <;> cases h; done)
    | (revert h; generalize Nat.ble (am_cats _) 8 = g; intro h; cases g <;> cases h <;> exact am_mo_cpy ho)
theorem am_ex_mo : ∀ {f d y pc : Nat} {lv : am_lv} {st : List Value} {σ : am_H} {res : am_r × am_H}, am_ex f d y pc lv st σ = some res → am_mo σ res.2
  | 0, d, y, pc, lv, st, σ, res, h => by cases h
  | f + 1, d, y, pc, lv, st, σ, res, h => by
    unfold am_ex am_F at h
    cases hp : am_prog y pc with
    | none => rw [hp] at h; cases h
    | some q =>
      rw [hp] at h
      dsimp only at h
      cases ha : am_act q.1 (am_rt y) pc (am_trim q.2 lv) st σ with
      | none => rw [ha] at h; cases h
      | some a =>
        rw [ha] at h
        rcases a with ⟨bs, q', lv', st'⟩ | ⟨g, z⟩ | ⟨g, y', as, lv', st'⟩ | ⟨o, q', lv', st'⟩ | ⟨o, q', lv', st'⟩ | ⟨o, q', lv', st'⟩ | ⟨o, q', lv', st'⟩ | ⟨g, y', as, lv', st', hp'⟩
        · obtain ⟨t, ht, -⟩ := am_swE bs q' h
          exact am_ex_mo (f := f) ht
        · cases g with
          | false => cases h
          | true => cases h; exact am_mo.rf σ
        · cases g with
          | false => cases h
          | true =>
            obtain ⟨x, hx, h⟩ := am_bindE h
            cases d with
            | zero => cases hx
            | succ d =>
              obtain ⟨st2, h2, -⟩ := am_bkE h
              exact (am_ex_mo (f := f) (d := d) hx).tr (am_ex_mo (f := f) h2)
        · obtain ⟨x, hx, h⟩ := am_bindE h
          exact am_ex_mo (f := f) h
        · obtain ⟨x, hx, h⟩ := am_bindE h
          exact am_ex_mo (f := f) h
        · obtain ⟨x, hx, h⟩ := am_bindE h
          exact am_ex_mo (f := f) h
        · obtain ⟨x, hx, h⟩ := am_bindE h
          refine am_mo.tr ?_ (am_ex_mo (f := f) h)
          obtain ⟨i, t⟩ := q
          cases i with
          | inl i => exact am_i_mo ha hx
          | inr i => exact am_p_mo ha hx
        · cases g with
          | false => cases h
          | true =>
            obtain ⟨x, hx, h⟩ := am_bindE h
            cases d with
            | zero => cases hx
            | succ d =>
              refine (am_ex_mo (f := f) (d := d) hx).tr ?_
              cases e2 : decide (x.1.2.1 = 0) with
              | true => rw [e2] at h; exact am_ex_mo (f := f) h
              | false => rw [e2] at h; exact (am_mo_thr _).tr (am_ex_mo (f := f) h)
