/-! TOOLS for the pure part: states as (K, I, J) with K fixed -/
abbrev pm_sh (K : am_K) : Nat → Nat × Nat := K.2.2.2.1
abbrev pm_R (K : am_K) : Nat → Nat → Option Nat := K.2.2.2.2.1
abbrev pm_I : Type := Nat → Nat → Int32
abbrev pm_J : Type := Nat → Nat → Int64
section PMT
variable {K : am_K} {I : pm_I} {J : pm_J} {a b ci n j m : Nat}
theorem pm_is (h : pm_sh K a = (0, ci)) : am_is (K, I, J) a ci = true := by
  show (Nat.beq (pm_sh K a).1 0 && Nat.beq (pm_sh K a).2 ci) = true
  rw [h]; simp
theorem pm_gI (h : pm_sh K a = (0, ci)) : am_gI (K, I, J) a ci b = some (I a b) := by unfold am_gI; rw [pm_is h]; rfl
theorem pm_gJ (h : pm_sh K a = (0, ci)) : am_gJ (K, I, J) a ci b = some (J a b) := by unfold am_gJ; rw [pm_is h]; rfl
theorem pm_gR (h : pm_sh K a = (0, ci)) {x : Nat} (hr : pm_R K a b = some x) : am_gR (K, I, J) a ci b = some x := by unfold am_gR; rw [pm_is h]; exact hr
theorem pm_pI (h : pm_sh K a = (0, ci)) {v : Int32} : am_pI (K, I, J) a ci b v = some (K, am_u I a b v, J) := by unfold am_pI; rw [pm_is h]; rfl
theorem pm_pZ (h : pm_sh K a = (0, ci)) {v : Int32} (hz : am_zb v = true) : am_pZ (K, I, J) a ci b v = some (K, am_u I a b v, J) := by unfold am_pZ; rw [pm_is h, hz]; rfl
theorem pm_pJ (h : pm_sh K a = (0, ci)) {v : Int64} : am_pJ (K, I, J) a ci b v = some (K, I, am_u J a b v) := by unfold am_pJ; rw [pm_is h]; rfl
theorem pm_ar {t : Nat} (h : pm_sh K a = (t, n)) : am_ar (K, I, J) a t = true := by
  show Nat.beq (pm_sh K a).1 t = true
  rw [h]; simp
theorem pm_ix (h : j < n) (hn : n < 2147483648) : am_ix (nI j) n = some j := by
  unfold am_ix
  have h1 : ¬ nI j < 0 := nI_pos (by omega)
  have h2 : (nI j).toNatClampNeg = j := nI_clamp (by omega)
  rw [h2, decide_eq_false h1, decide_eq_false (by omega)]
  rfl
theorem pm_ldI {t : Nat} (h : pm_sh K a = (t, n)) (hj : j < n) (hn : n < 2147483648) : am_ldI (K, I, J) a t (nI j) = some (I a j) := by
  unfold am_ldI
  rw [pm_ar h]
  show (am_ix (nI j) (pm_sh K a).2).map _ = _
  rw [h, pm_ix hj hn]; rfl
theorem pm_ldJ (h : pm_sh K a = (2, n)) (hj : j < n) (hn : n < 2147483648) : am_ldJ (K, I, J) a (nI j) = some (J a j) := by
  unfold am_ldJ
  rw [pm_ar h]
  show (am_ix (nI j) (pm_sh K a).2).map _ = _
  rw [h, pm_ix hj hn]; rfl
theorem pm_ldR (h : pm_sh K a = (4 + ci, n)) (hj : j < n) (hn : n < 2147483648) {x : Nat} (hr : pm_R K a j = some x) : am_ldR (K, I, J) a ci (nI j) = some x := by
  unfold am_ldR
  rw [pm_ar h]
  show (am_ix (nI j) (pm_sh K a).2).bind _ = _
  rw [h, pm_ix hj hn]; exact hr
theorem pm_stI (h : pm_sh K a = (1, n)) (hj : j < n) (hn : n < 2147483648) {v : Int32} : am_stI (K, I, J) a (nI j) v = some (K, am_u I a j v, J) := by
  unfold am_stI
  rw [pm_ar h]
  show (am_ix (nI j) (pm_sh K a).2).map _ = _
  rw [h, pm_ix hj hn]; rfl
theorem pm_stZ (h : pm_sh K a = (3, n)) (hj : j < n) (hn : n < 2147483648) {v : Int32} (hz : am_zb v = true) : am_stZ (K, I, J) a (nI j) v = some (K, am_u I a j v, J) := by
  unfold am_stZ
  rw [pm_ar h, hz]
  show (am_ix (nI j) (pm_sh K a).2).map _ = _
  rw [h, pm_ix hj hn]; rfl
theorem pm_stJ (h : pm_sh K a = (2, n)) (hj : j < n) (hn : n < 2147483648) {v : Int64} : am_stJ (K, I, J) a (nI j) v = some (K, I, am_u J a j v) := by
  unfold am_stJ
  rw [pm_ar h]
  show (am_ix (nI j) (pm_sh K a).2).map _ = _
  rw [h, pm_ix hj hn]; rfl
theorem pm_len (h : pm_sh K a = (1, n)) : am_len (K, I, J) a = some (nI n) := by
  unfold am_len
  rw [pm_ar h]
  show some (nI (pm_sh K a).2) = _
  rw [h]
theorem pm_cpyI {p q m : Nat} (h : pm_sh K a = (1, n)) (h2 : pm_sh K b = (1, m)) {l : Nat} (h3 : p + l ≤ n) (h4 : q + l ≤ m) (hn : n < 2147483648) (hm : m < 2147483648) : am_cpy (K, I, J) a (nI p) b (nI q) (nI l) = some (K, am_ur I b (va_cpy (I a) (I b) p q l), J) := by
  unfold am_cpy
  have e1 : ¬ nI p < 0 := nI_pos (by omega)
  have e2 : ¬ nI q < 0 := nI_pos (by omega)
  have e3 : ¬ nI l < 0 := nI_pos (by omega)
  rw [nI_clamp (show p < 2 ^ 31 by omega), nI_clamp (show q < 2 ^ 31 by omega), nI_clamp (show l < 2 ^ 31 by omega), decide_eq_false e1, decide_eq_false e2, decide_eq_false e3]
  have e4 : decide ((am_sh (K, I, J) a).2 < p + l) = false := by
    apply decide_eq_false
    show ¬ (pm_sh K a).2 < p + l
    rw [h]; show ¬ n < p + l; omega
  have e5 : decide ((am_sh (K, I, J) b).2 < q + l) = false := by
    apply decide_eq_false
    show ¬ (pm_sh K b).2 < q + l
    rw [h2]; show ¬ m < q + l; omega
  rw [e4, e5, pm_ar h, pm_ar h2]
  rfl
theorem pm_cpyJ {p q m : Nat} (h : pm_sh K a = (2, n)) (h2 : pm_sh K b = (2, m)) {l : Nat} (h3 : p + l ≤ n) (h4 : q + l ≤ m) (hn : n < 2147483648) (hm : m < 2147483648) : am_cpy (K, I, J) a (nI p) b (nI q) (nI l) = some (K, I, am_ur J b (va_cpy (J a) (J b) p q l)) := by
  unfold am_cpy
  have e1 : ¬ nI p < 0 := nI_pos (by omega)
  have e2 : ¬ nI q < 0 := nI_pos (by omega)
  have e3 : ¬ nI l < 0 := nI_pos (by omega)
  rw [nI_clamp (show p < 2 ^ 31 by omega), nI_clamp (show q < 2 ^ 31 by omega), nI_clamp (show l < 2 ^ 31 by omega), decide_eq_false e1, decide_eq_false e2, decide_eq_false e3]
  have e4 : decide ((am_sh (K, I, J) a).2 < p + l) = false := by
    apply decide_eq_false
    show ¬ (pm_sh K a).2 < p + l
    rw [h]; show ¬ n < p + l; omega
  have e5 : decide ((am_sh (K, I, J) b).2 < q + l) = false := by
    apply decide_eq_false
    show ¬ (pm_sh K b).2 < q + l
    rw [h2]; show ¬ m < q + l; omega
  have e6 : am_ar (K, I, J) a 1 = false := by
    show Nat.beq (pm_sh K a).1 1 = false
    rw [h]; rfl
  rw [e4, e5, e6, pm_ar h, pm_ar h2]
  rfl
theorem pm_u {α : Type} {f : Nat → Nat → α} {k j x y : Nat} {v : α} : am_u f k j v x y = if x = k then (if y = j then v else f x y) else f x y := rfl
theorem pm_ur {α : Type} {f : Nat → α} {k x : Nat} {v : α} : am_ur f k v x = if x = k then v else f x := rfl
theorem pm_lt (ha : a < 2147483648) (hb : b < 2147483648) : decide (nI a < nI b) = decide (a < b) := by
  by_cases h : a < b
  · rw [decide_eq_true h, decide_eq_true (nI_lt h hb)]
  · rw [decide_eq_false h, decide_eq_false (nI_nlt (Nat.le_of_not_lt h) ha)]
theorem pm_le (ha : a < 2147483648) (hb : b < 2147483648) : decide (nI a ≤ nI b) = decide (a ≤ b) := by
  by_cases h : a ≤ b
  · rw [decide_eq_true h, decide_eq_true (nI_le h hb)]
  · rw [decide_eq_false h, decide_eq_false (nI_ge (Nat.lt_of_not_le h) ha)]
theorem pm_eq (ha : a < 2147483648) (hb : b < 2147483648) : decide (nI a = nI b) = decide (a = b) := by
  by_cases h : a = b
  · rw [decide_eq_true h, decide_eq_true (by rw [h])]
  · rw [decide_eq_false h, decide_eq_false (fun q => h ((nI_eq ha hb).mp q))]
theorem pm_ne (ha : a < 2147483648) (hb : b < 2147483648) : decide (¬ nI a = nI b) = decide (¬ a = b) := by
  by_cases h : a = b
  · subst h; simp
  · rw [decide_eq_true h]
    exact decide_eq_true (fun q => h ((nI_eq ha hb).mp q))
theorem pm_sub (h : b ≤ a) : nI a - nI b = nI (a - b) := pk_sub h
theorem pm_add : nI a + nI b = nI (a + b) := nI_add a b
theorem pm_z0 : am_zb (nI 0) = true := by decide +kernel
theorem pm_z1 : am_zb (nI 1) = true := by decide +kernel
theorem pm_pZ0 (h : pm_sh K a = (0, ci)) : am_pZ (K, I, J) a ci b (nI 0) = some (K, am_u I a b (nI 0), J) := pm_pZ h pm_z0
theorem pm_pZ1 (h : pm_sh K a = (0, ci)) : am_pZ (K, I, J) a ci b (nI 1) = some (K, am_u I a b (nI 1), J) := pm_pZ h pm_z1
theorem pm_stZ0 (h : pm_sh K a = (3, n)) (hj : j < n) (hn : n < 2147483648) : am_stZ (K, I, J) a (nI j) (nI 0) = some (K, am_u I a j (nI 0), J) := pm_stZ h hj hn pm_z0
theorem pm_stZ1 (h : pm_sh K a = (3, n)) (hj : j < n) (hn : n < 2147483648) : am_stZ (K, I, J) a (nI j) (nI 1) = some (K, am_u I a j (nI 1), J) := pm_stZ h hj hn pm_z1
theorem pm_and (x : Int32) : ∃ k, k < 256 ∧ x &&& nI 255 = nI k := by
  obtain ⟨j, h1, h2⟩ := pk_andE x (m := nI 255) 8 (by decide +kernel)
  exact ⟨j, h1, h2⟩
end PMT
