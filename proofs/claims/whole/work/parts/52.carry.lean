/-! THE CLASS CARRIES BYTES -/
def sWy.nx (W : sWy) : sWy := (W.q.tail, if W.ar + 1 < W.fs.headD 0 then W.fs else W.fs.tail, if W.ar + 1 < W.fs.headD 0 then W.ar + 1 else 0, W.rf)
def sg_dat (g : List Nat) : List Nat := (g.drop 4).take (g.getD 0 0 - 4)
def st_broken (T : sT) : sT := (T.setL T.w0.none T.w1.none [] []).setBk (T.bk + 1)
def sg_c0 (p : Nat) (T : sT) : Nat := sg_code p T.g0 (T.w0.q.headD 0)
def sg_c1 (p : Nat) (T : sT) : Nat := sg_code p T.g1 (T.w1.q.headD 0)
def sg_n0 (T : sT) : List Nat := T.g0 ++ [T.w0.q.headD 0]
def sg_n1 (T : sT) : List Nat := T.g1 ++ [T.w1.q.headD 0]
def st_act0 (p : Nat) (T : sT) (g : List Nat) : sT := T.setS (ss_act p (g.getD 1 0) (g.getD 2 0) (g.getD 3 0) (sg_dat g) T.sv T.w1).2 (ss_act p (g.getD 1 0) (g.getD 2 0) (g.getD 3 0) (sg_dat g) T.sv T.w1).1
def st_act1 (p : Nat) (T : sT) (g : List Nat) : sT := T.setC (sk_heedW p T.cs T.mk (g.getD 1 0) T.w0 (g.getD 2 0) (g.getD 3 0)) (sk_heedC T.cs T.mk T.ck (g.getD 1 0) (g.getD 2 0) (g.getD 3 0) (sg_dat g))
/-- a byte arrives at the server; at the client -/
def st_byte0 (p : Nat) (T : sT) : sT := if sg_c0 p T = 0 then (T.setW0 T.w0.nx).setG0 (sg_n0 T) else (st_act0 p (T.setW0 T.w0.nx) (sg_n0 T)).setG0 []
def st_byte1 (p : Nat) (T : sT) : sT := if sg_c1 p T = 0 then (T.setW1 T.w1.nx).setG1 (sg_n1 T) else (st_act1 p (T.setW1 T.w1.nx) (sg_n1 T)).setG1 []
def st_car0 (p : Nat) : Nat → Nat → sT → Nat × sT
  | 0, k, T => (k, T)
  | n + 1, k, T => if sg_c0 p T = 2 then (k + 1, st_broken T) else st_car0 p n (k + 1) (st_byte0 p T)
def st_car1 (p : Nat) : Nat → Nat → sT → Nat × sT
  | 0, k, T => (k, T)
  | n + 1, k, T => if sg_c1 p T = 2 then (k + 1, st_broken T) else st_car1 p n (k + 1) (st_byte1 p T)
theorem sg_code_012 (p : Nat) (g : List Nat) (b : Nat) : sg_code p g b = 0 ∨ sg_code p g b = 1 ∨ sg_code p g b = 2 := by
  unfold sg_code
  split
  · omega
  · split
    · omega
    · split <;> omega
theorem sg_pos {p : Nat} {g : List Nat} (h : 4 ≤ g.getD 0 0) : 0 < g.length := by
  cases g with
  | nil => exact absurd h (by simp)
  | cons a g => simp
theorem sg_code0 {p : Nat} {g : List Nat} {b : Nat} (hg : sg_ok p g) (h : sg_code p g b = 0) : sg_ok p (g ++ [b]) := by
  unfold sg_code at h
  by_cases c0 : g = [] ∧ (b < 4 ∨ 4 + p < b)
  · rw [if_pos c0] at h
    omega
  · rw [if_neg c0] at h
    by_cases c1 : g.length + 1 ≤ (g ++ [b]).getD 0 0
    · right
      have hh : 4 ≤ (g ++ [b]).getD 0 0 ∧ (g ++ [b]).getD 0 0 ≤ 4 + p := by
        rw [wl_append_at]
        rcases hg with rfl | hg
        · have c2 : ¬ (b < 4 ∨ 4 + p < b) := fun hh => c0 ⟨rfl, hh⟩
          simp
          omega
        · rw [if_pos (sg_pos (p := p) hg.1)]
          omega
      refine ⟨hh.1, hh.2, ?_⟩
      rw [List.length_append]
      exact c1
    · rw [if_neg c1] at h
      split at h <;> omega
theorem sg_code1 {p : Nat} {g : List Nat} {b : Nat} (hg : sg_ok p g) (h : sg_code p g b = 1) : 4 ≤ (g ++ [b]).getD 0 0 ∧ (g ++ [b]).getD 0 0 ≤ 4 + p ∧ (g ++ [b]).length = (g ++ [b]).getD 0 0 + 1 := by
  unfold sg_code at h
  by_cases c0 : g = [] ∧ (b < 4 ∨ 4 + p < b)
  · rw [if_pos c0] at h
    omega
  · rw [if_neg c0] at h
    by_cases c1 : g.length + 1 ≤ (g ++ [b]).getD 0 0
    · rw [if_pos c1] at h
      omega
    · rw [wl_append_at] at c1 ⊢
      rcases hg with rfl | hg
      · have c2 : ¬ (b < 4 ∨ 4 + p < b) := fun hh => c0 ⟨rfl, hh⟩
        simp at c1
        omega
      · rw [if_pos (sg_pos (p := p) hg.1)] at c1 ⊢
        refine ⟨hg.1, hg.2.1, ?_⟩
        rw [List.length_append]
        show g.length + 1 = _
        omega
section CAR
variable {K : am_K} {I I' : pm_I} {J J' : pm_J} {p w x : Nat} {T : sT} {W : sWy} {g : List Nat}
theorem wl_memD {l : List Nat} {i : Nat} (h : i < l.length) : l.getD i 0 ∈ l := by
  rw [List.getD_eq_getElem?_getD, List.getElem?_eq_getElem h]
  exact List.getElem_mem _
theorem xf_of (h : xc_at I x p g) (h4 : 4 ≤ g.getD 0 0) (h44 : g.getD 0 0 ≤ 44) (hl : g.length = g.getD 0 0 + 1) : xf_at I x (g.getD 1 0) (g.getD 2 0) (g.getD 3 0) (sg_dat g) := by
  obtain ⟨q0, q1, q2, q3, q4⟩ := h
  have hlen : (sg_dat g).length = g.getD 0 0 - 4 := by
    unfold sg_dat
    rw [List.length_take, List.length_drop]
    omega
  have a0 := q3 0 (by omega)
  have a1 := q3 1 (by omega)
  have a2 := q3 2 (by omega)
  have a3 := q3 3 (by omega)
  rw [Nat.zero_add] at a0 a1 a2 a3
  refine ⟨?_, a1, a2, a3, fun i hi => ?_, by omega, fun b hb => q4 b (List.mem_of_mem_drop (List.mem_of_mem_take hb)), q4 _ (wl_memD (by omega)), q4 _ (wl_memD (by omega)), q4 _ (wl_memD (by omega))⟩
  · rw [a0, hlen]
    congr 1
    omega
  · have := q3 (4 + i) (by omega)
    rw [Nat.zero_add] at this
    rw [this]
    unfold sg_dat
    rw [hlen] at hi
    congr 1
    rw [List.getD_eq_getElem?_getD, List.getD_eq_getElem?_getD, List.getElem?_take, if_pos hi, List.getElem?_drop]
theorem wy_next (L : wl_ok K w) (h : wy_at I w p W) (hq : 0 < W.q.length) (d : Nat) : ∃ I' : pm_I, f_X7_nextByte d w (K, I, J) = some ((nI (W.q.headD 0), 0, none), (K, I', J)) ∧ wy_at I' w p W.nx ∧ pm_fr I I' w 1 ∧ W.q.headD 0 < 256 := by
  obtain ⟨h1, h2, h3, h4⟩ := h
  have har := wv_ar h2
  obtain ⟨v1, v2, v3, v4⟩ := h2
  obtain ⟨q, fs, ar, rf⟩ := W
  cases q with
  | nil => exact absurd hq (by simp)
  | cons b q =>
    cases fs with
    | nil =>
      have v3 : 0 = (b :: q).length + ar := v3
      simp at v3
      omega
    | cons f fs =>
      have hf := v2 f List.mem_cons_self
      obtain ⟨I1, g1, g2, g3, g4⟩ := wc_next (J := J) L h1 (show ar < 46 from by have : ar < 45 := har; omega) (by omega) d
      have v3' : f + fs.sum = q.length + 1 + ar := by
        have : (f :: fs).sum = (b :: q).length + ar := v3
        simpa using this
      have v4' : ar < f := v4 f rfl
      refine ⟨I1, g1, ⟨g2, ?_, g3.trans h3, h4⟩, fun a ha => g4 a (by omega), v1 b List.mem_cons_self⟩
      show wv_ok q (if ar + 1 < f then f :: fs else fs) (if ar + 1 < f then ar + 1 else 0)
      by_cases c : ar + 1 < f
      · rw [if_pos c, if_pos c]
        refine ⟨fun x hx => v1 x (List.mem_cons_of_mem _ hx), v2, ?_, fun f' hf' => ?_⟩
        · simp
          omega
        · have : f = f' := by simpa using hf'
          omega
      · rw [if_neg c, if_neg c]
        refine ⟨fun x hx => v1 x (List.mem_cons_of_mem _ hx), fun y hy => v2 y (List.mem_cons_of_mem _ hy), by omega, fun f' hf' => ?_⟩
        have := v2 f' (List.mem_cons_of_mem _ (List.mem_of_mem_head? hf'))
        omega
theorem tc_g0 (h : tc_at I J p T) (e : pm_fr I I' 9 2) (hx : xc_at I' 9 p g) (hg : sg_ok p g) : tc_at I' J p (T.setG0 g) := by
  obtain ⟨h1, h2, ⟨h3, h4⟩, ⟨h5, h6⟩, h7⟩ := h
  refine ⟨kc_congr h1 (fun a _ => e a (by omega)) (fun _ _ => rfl), sv_congr h2 (fun a _ => e a (by omega)) (fun _ _ => rfl), ⟨hx, hg⟩, ⟨xc_congr h5 (e _ (by omega)) (e _ (by omega)), h6⟩, ?_⟩
  rw [e 0 (by omega)]
  exact h7
theorem tc_g1 (h : tc_at I J p T) (e : pm_fr I I' 11 2) (hx : xc_at I' 11 p g) (hg : sg_ok p g) : tc_at I' J p (T.setG1 g) := by
  obtain ⟨h1, h2, ⟨h3, h4⟩, ⟨h5, h6⟩, h7⟩ := h
  refine ⟨kc_congr h1 (fun a _ => e a (by omega)) (fun _ _ => rfl), sv_congr h2 (fun a _ => e a (by omega)) (fun _ _ => rfl), ⟨xc_congr h3 (e _ (by omega)) (e _ (by omega)), h4⟩, ⟨hx, hg⟩, ?_⟩
  rw [e 0 (by omega)]
  exact h7
/-- all of the class's memory, but for what the inboxes hold -/
def tb_at (I : pm_I) (J : pm_J) (p : Nat) (T : sT) : Prop := kc_at I J p T.w0 T.cs T.mk T.ck ∧ sv_at I J p T.w1 T.sv ∧ I 9 0 = nI (4 + p) ∧ I 11 0 = nI (4 + p) ∧ I 0 6 = nI T.bk
theorem tc_tb (h : tc_at I J p T) : tb_at I J p T := ⟨h.1, h.2.1, h.2.2.1.1.1, h.2.2.2.1.1.1, h.2.2.2.2⟩
theorem tb_clear (L : tl_ok K) (h : tb_at I J p T) (d : Nat) : ∃ I' : pm_I, f_X8_clearLine (d + 1) 0 (K, I, J) = some ((0, 0, none), (K, I', J)) ∧ tc_at I' J p (T.setL T.w0.none T.w1.none [] []) ∧ tf_at I I' := by
  obtain ⟨l0, l1, l2, l3, l4, l5, l6, l7, l8, l9, l10⟩ := L
  obtain ⟨h1, h2, h3, h4, h5⟩ := h
  have w0 := l7.2.2.2.2.1
  have w1 := l8.2.2.2.2.2.2.2.2.2.2.1
  have w00 := w0.1
  have w10 := w1.1
  have x0 := l9.1
  have x1 := l10.1
  obtain ⟨I1, a1, a2, a3⟩ := wy_clear (J := J) w0 h1.1 d
  obtain ⟨I2, b1, b2, b3⟩ := wy_clear (J := J) w1 (wy_fr h2.1 a3 (by omega)) d
  obtain ⟨I3, c1, c2, c3⟩ := xc_clear (J := J) l9 (p := p) (show I2 9 0 = nI (4 + p) by rw [b3 _ (by omega), a3 _ (by omega)]; exact h3) d
  obtain ⟨I4, d1, d2, d3⟩ := xc_clear (J := J) l10 (p := p) (show I3 11 0 = nI (4 + p) by rw [c3 _ (by omega), b3 _ (by omega), a3 _ (by omega)]; exact h4) d
  have hall : ∀ a, a ≠ 1 → a ≠ 5 → a ≠ 9 → a ≠ 11 → I4 a = I a := fun a n1 n5 n9 n11 => by rw [d3 _ (by omega), c3 _ (by omega), b3 _ (by omega), a3 _ (by omega)]
  rw [e_X8_clearLine]
  simp (disch := first | assumption | omega) only [pm_gI, pm_gJ, pm_gR, pm_pI, pm_pZ, pm_pJ, pm_ldI, pm_ldJ, pm_ldR, pm_stI, pm_stZ, pm_stJ, pm_pZ0, pm_pZ1, pm_stZ0, pm_stZ1, pm_len, pm_cpyI, pm_cpyJ, pm_is, Option.bind_some, pm_u, pm_ur, pm_lt, pm_le, pm_eq, pm_ne, pm_add, pm_sub, pm_z0, pm_z1, cond_true, cond_false, decide_true, decide_false, not_false_eq_true, not_true_eq_false, reduceIte, Nat.reduceEqDiff, Nat.add_eq_left, Nat.left_eq_add, Nat.add_left_cancel_iff, Nat.one_ne_zero, am_cs, a1, b1, c1, d1, w00, w10, x0, x1]
  refine ⟨I4, rfl, ⟨?_, ?_, ⟨xc_congr c2 (d3 _ (by omega)) (d3 _ (by omega)), Or.inl rfl⟩, ⟨d2, Or.inl rfl⟩, ?_⟩, fun a ha => hall a (by omega) (by omega) (by omega) (by omega)⟩
  · obtain ⟨q1, q2, q3, q4, q5, q6, q7⟩ := h1
    refine ⟨wy_congr a2 (by rw [d3 _ (by omega), c3 _ (by omega), b3 _ (by omega)]) (by rw [d3 _ (by omega), c3 _ (by omega), b3 _ (by omega)]) (by rw [d3 _ (by omega), c3 _ (by omega), b3 _ (by omega)]), ?_, ?_, q4, q5, fun i hi => cc_congr (q6 i hi) (fun a _ _ => hall a (by omega) (by omega) (by omega) (by omega)) (fun _ _ _ => rfl), q7⟩
    · rw [hall 13 (by omega) (by omega) (by omega) (by omega)]
      exact q2
    · rw [hall 13 (by omega) (by omega) (by omega) (by omega)]
      exact q3
  · obtain ⟨q1, q2, q3, q4, q5, q6⟩ := h2
    refine ⟨wy_congr b2 (by rw [d3 _ (by omega), c3 _ (by omega)]) (by rw [d3 _ (by omega), c3 _ (by omega)]) (by rw [d3 _ (by omega), c3 _ (by omega)]), ?_, sv_bl_congr q3 (fun a _ _ => hall a (by omega) (by omega) (by omega) (by omega)) (fun _ _ _ => rfl), sv_rs_congr q4 (fun a _ _ => hall a (by omega) (by omega) (by omega) (by omega)) (fun _ _ _ => rfl), fun i hi => bo_congr (q5 i hi) (fun b _ _ => hall b (by omega) (by omega) (by omega) (by omega)) (fun _ _ _ => rfl), fun i hi => po_congr (q6 i hi) (fun b _ _ => hall b (by omega) (by omega) (by omega) (by omega)) (fun _ _ _ => rfl)⟩
    rw [hall 165 (by omega) (by omega) (by omega) (by omega)]
    exact q2
  · rw [hall 0 (by omega) (by omega) (by omega) (by omega)]
    exact h5
end CAR
