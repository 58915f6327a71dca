/-! THE CONSTRUCTORS: a memory's shapes, closed; what is made, cell by cell -/
abbrev am_Q : Type := Nat × Nat × Nat × (Nat → Nat × Nat) × (Nat → Nat → Option Nat)
def qmk (q : am_Q) (t x N : Nat) : am_Q := (q.1 + 1, q.2.1 + N, q.2.2.1 + 1, am_ur q.2.2.2.1 q.2.2.1 (t, x), am_ur q.2.2.2.2 q.2.2.1 (fun _ => none))
def qwR (q : am_Q) (k j v : Nat) : am_Q := (q.1, q.2.1, q.2.2.1, q.2.2.2.1, am_u q.2.2.2.2 k j (some v))
def qH (q : am_Q) (L : Nat) (xs : Nat → Int32) (I : pm_I) (J : pm_J) : am_H := ((q.1, q.2.1, q.2.2.1, q.2.2.2.1, q.2.2.2.2, L, xs), I, J)
def qok (q : am_Q) (I : pm_I) (J : pm_J) : Prop := q.1 = q.2.2.1 ∧ (∀ a, q.2.2.1 ≤ a → I a = fun _ => 0) ∧ (∀ a, q.2.2.1 ≤ a → J a = fun _ => 0)
section QIN
variable {q : am_Q} {L : Nat} {xs : Nat → Int32} {I : pm_I} {J : pm_J} {k j t x N ci v : Nat}
theorem ur_id {α : Type} {f : Nat → α} {k : Nat} {g : α} (h : f k = g) : am_ur f k g = f := by
  funext a
  rw [pm_ur]
  split
  · next q => rw [q, h]
  · rfl
theorem q_mk (h : qok q I J) : am_mk (qH q L xs I J) t x N = qH (qmk q t x N) L xs I J := by
  show (_, am_ur I q.2.2.1 (fun _ => 0), am_ur J q.2.2.1 (fun _ => 0)) = _
  rw [ur_id (h.2.1 _ (Nat.le_refl _)), ur_id (h.2.2 _ (Nat.le_refl _))]
  rfl
theorem q_new (h : qok q I J) : am_new (qH q L xs I J) ci N = some (qH (qmk q 0 ci N) L xs I J) := by
  unfold am_new
  rw [show Nat.beq (am_c (qH q L xs I J)) (am_n (qH q L xs I J)) = true from by show Nat.beq q.1 q.2.2.1 = true; rw [h.1]; exact Nat.beq_refl _, cond_true, q_mk h]
theorem q_nwa (h : qok q I J) (hj : j < 100000) : am_nwa (qH q L xs I J) t (nI j) = some (qH (qmk q t j j) L xs I J) := by
  unfold am_nwa
  rw [show Nat.beq (am_c (qH q L xs I J)) (am_n (qH q L xs I J)) = true from by show Nat.beq q.1 q.2.2.1 = true; rw [h.1]; exact Nat.beq_refl _, cond_true, pm_ix hj (by omega), Option.map_some, q_mk h]
theorem q_pR (h : q.2.2.2.1 k = (0, ci)) : am_pR (qH q L xs I J) k ci j v = some (qH (qwR q k j v) L xs I J) := by
  unfold am_pR
  rw [show am_is (qH q L xs I J) k ci = true from pm_is h, cond_true]
  rfl
theorem q_pI (h : q.2.2.2.1 k = (0, ci)) {w : Int32} : am_pI (qH q L xs I J) k ci j w = some (qH q L xs (am_u I k j w) J) := pm_pI h
theorem q_gR (h : q.2.2.2.1 k = (0, ci)) (hr : q.2.2.2.2 k j = some v) : am_gR (qH q L xs I J) k ci j = some v := pm_gR h hr
theorem q_stR {n : Nat} (h : q.2.2.2.1 k = (4 + ci, n)) (hv : q.2.2.2.1 v = (0, ci)) (hj : j < n) (hn : n < 2147483648) : am_stR (qH q L xs I J) k ci (nI j) v = some (qH (qwR q k j v) L xs I J) := by
  unfold am_stR
  have e1 : am_ar (qH q L xs I J) k (4 + ci) = true := pm_ar h
  have e2 : am_is (qH q L xs I J) v ci = true := pm_is hv
  have e3 : (am_sh (qH q L xs I J) k).2 = n := by
    show (q.2.2.2.1 k).2 = n
    rw [h]
  rw [e1, e2, e3, Bool.and_self, cond_true, pm_ix hj hn, Option.map_some]
  rfl
theorem qok_mk (h : qok q I J) : qok (qmk q t x N) I J := ⟨by show q.1 + 1 = q.2.2.1 + 1; rw [h.1], fun a ha => h.2.1 a (by have ha : q.2.2.1 + 1 ≤ a := ha; omega), fun a ha => h.2.2 a (by have ha : q.2.2.1 + 1 ≤ a := ha; omega)⟩
theorem qok_wR (h : qok q I J) : qok (qwR q k j v) I J := h
theorem qok_u (h : qok q I J) (hk : k < q.2.2.1) {w : Int32} : qok q (am_u I k j w) J := ⟨h.1, fun a ha => by rw [am_u_ne _ _ (by omega)]; exact h.2.1 a ha, h.2.2⟩
theorem qsh_lt {a : Nat} (h : a < q.2.2.1) : (qmk q t x N).2.2.2.1 a = q.2.2.2.1 a := by
  show (if a = q.2.2.1 then (t, x) else q.2.2.2.1 a) = _
  rw [if_neg (by omega)]
theorem qsh_self : (qmk q t x N).2.2.2.1 q.2.2.1 = (t, x) := if_pos rfl
theorem qn_mk : (qmk q t x N).2.2.1 = q.2.2.1 + 1 := rfl
theorem qn_wR : (qwR q k j v).2.2.1 = q.2.2.1 := rfl
theorem qsh_wR : (qwR q k j v).2.2.2.1 = q.2.2.2.1 := rfl
def qX5 (k : Nat) (q : am_Q) : am_Q := qwR (qmk q 1 60 60) k 0 q.2.2.1
def qX4 (k : Nat) (q : am_Q) : am_Q := qwR (qmk q 2 3 3) k 0 q.2.2.1
def qX3 (k : Nat) (q : am_Q) : am_Q := qwR (qmk q 1 45 45) k 1 q.2.2.1
def qX7 (k : Nat) (q : am_Q) : am_Q := qwR (qmk (qwR (qmk (qwR (qmk q 1 2000 2000) k 1 q.2.2.1) 1 400 400) k 2 (q.2.2.1 + 1)) 1 8 8) k 3 (q.2.2.1 + 1 + 1)
def qX2 (k : Nat) (q : am_Q) : am_Q := qwR (qX5 q.2.2.1 (qmk q 0 5 2)) k 0 q.2.2.1
def qX0 (k : Nat) (q : am_Q) : am_Q := qwR (qmk (qwR (qmk (qwR (qX5 q.2.2.1 (qmk q 0 5 2)) k 9 q.2.2.1) 2 4 4) k 10 (q.2.2.1 + 1 + 1)) 1 4 4) k 12 (q.2.2.1 + 1 + 1 + 1)
theorem q_X5 (h : qok q I J) (hk : q.2.2.2.1 k = (0, 5)) (hl : k < q.2.2.1) (d : Nat) : f_X5_init d k (qH q L xs I J) = some ((0, 0, none), qH (qX5 k q) L xs I J) := by
  rw [e_X5_init, q_nwa h (by omega), Option.bind_some, q_pR (by rw [qsh_lt hl]; exact hk), Option.bind_some]
  rfl
theorem q_X4 (h : qok q I J) (hk : q.2.2.2.1 k = (0, 4)) (hl : k < q.2.2.1) (d : Nat) : f_X4_init d k (qH q L xs I J) = some ((0, 0, none), qH (qX4 k q) L xs I J) := by
  rw [e_X4_init, q_nwa h (by omega), Option.bind_some, q_pR (by rw [qsh_lt hl]; exact hk), Option.bind_some]
  rfl
theorem q_X3 (h : qok q I J) (hk : q.2.2.2.1 k = (0, 3)) (hl : k < q.2.2.1) (x : Int32) (d : Nat) : f_X3_init d k x (qH q L xs I J) = some ((0, 0, none), qH (qX3 k q) L xs (am_u I k 0 (nI 4 + x)) J) := by
  rw [e_X3_init, q_nwa h (by omega), Option.bind_some, q_pR (by rw [qsh_lt hl]; exact hk), Option.bind_some, q_pI (by rw [qsh_wR, qsh_lt hl]; exact hk), Option.bind_some]
  rfl
theorem q_X7 (h : qok q I J) (hk : q.2.2.2.1 k = (0, 7)) (hl : k < q.2.2.1) (x : Int32) (d : Nat) : f_X7_init d k x (qH q L xs I J) = some ((0, 0, none), qH (qX7 k q) L xs (am_u I k 0 x) J) := by
  have h1 : qok (qwR (qmk q 1 2000 2000) k 1 q.2.2.1) I J := qok_wR (qok_mk h)
  have s1 : (qwR (qmk q 1 2000 2000) k 1 q.2.2.1).2.2.2.1 k = (0, 7) := by rw [qsh_wR, qsh_lt hl]; exact hk
  have l1 : k < (qwR (qmk q 1 2000 2000) k 1 q.2.2.1).2.2.1 := by show k < q.2.2.1 + 1; omega
  have h2 : qok (qwR (qmk (qwR (qmk q 1 2000 2000) k 1 q.2.2.1) 1 400 400) k 2 (q.2.2.1 + 1)) I J := qok_wR (qok_mk h1)
  have s2 : (qwR (qmk (qwR (qmk q 1 2000 2000) k 1 q.2.2.1) 1 400 400) k 2 (q.2.2.1 + 1)).2.2.2.1 k = (0, 7) := by rw [qsh_wR, qsh_lt l1]; exact s1
  have l2 : k < (qwR (qmk (qwR (qmk q 1 2000 2000) k 1 q.2.2.1) 1 400 400) k 2 (q.2.2.1 + 1)).2.2.1 := by show k < q.2.2.1 + 1 + 1; omega
  rw [e_X7_init, q_nwa h (by omega), Option.bind_some, q_pR (by rw [qsh_lt hl]; exact hk), Option.bind_some]
  change (am_nwa (qH (qwR (qmk q 1 2000 2000) k 1 q.2.2.1) L xs I J) 1 (nI 400)).bind _ = _
  rw [q_nwa h1 (by omega), Option.bind_some, q_pR (by rw [qsh_lt l1]; exact s1), Option.bind_some]
  change (am_nwa (qH (qwR (qmk (qwR (qmk q 1 2000 2000) k 1 q.2.2.1) 1 400 400) k 2 (q.2.2.1 + 1)) L xs I J) 1 (nI 8)).bind _ = _
  rw [q_nwa h2 (by omega), Option.bind_some, q_pR (by rw [qsh_lt l2]; exact s2), Option.bind_some, q_pI (by rw [qsh_wR, qsh_lt l2]; exact s2), Option.bind_some]
  rfl
theorem q_X2 (h : qok q I J) (hk : q.2.2.2.1 k = (0, 2)) (hl : k < q.2.2.1) (d : Nat) : f_X2_init (d + 1) k (qH q L xs I J) = some ((0, 0, none), qH (qX2 k q) L xs I J) := by
  have l1 : k < (qmk q 0 5 2).2.2.1 := by show k < q.2.2.1 + 1; omega
  rw [e_X2_init, q_new h, Option.bind_some]
  change (f_X5_init d q.2.2.1 (qH (qmk q 0 5 2) L xs I J)).bind _ = _
  rw [q_X5 (qok_mk h) qsh_self (by show q.2.2.1 < q.2.2.1 + 1; omega), Option.bind_some]
  change (am_pR (qH (qX5 q.2.2.1 (qmk q 0 5 2)) L xs I J) k 2 0 q.2.2.1).bind _ = _
  rw [q_pR (by unfold qX5; rw [qsh_wR, qsh_lt l1, qsh_lt hl]; exact hk), Option.bind_some]
  rfl
theorem q_X0 (h : qok q I J) (hk : q.2.2.2.1 k = (0, 0)) (hl : k < q.2.2.1) (x : Int32) (d : Nat) : f_X0_init (d + 1) k x (qH q L xs I J) = some ((0, 0, none), qH (qX0 k q) L xs (am_u I k 0 x) J) := by
  have l1 : k < (qmk q 0 5 2).2.2.1 := by show k < q.2.2.1 + 1; omega
  have s2 : (qX5 q.2.2.1 (qmk q 0 5 2)).2.2.2.1 k = (0, 0) := by unfold qX5; rw [qsh_wR, qsh_lt l1, qsh_lt hl]; exact hk
  have h3 : qok (qwR (qX5 q.2.2.1 (qmk q 0 5 2)) k 9 q.2.2.1) I J := qok_wR (qok_wR (qok_mk (qok_mk h)))
  have l3 : k < (qwR (qX5 q.2.2.1 (qmk q 0 5 2)) k 9 q.2.2.1).2.2.1 := by show k < q.2.2.1 + 1 + 1; omega
  have s3 : (qwR (qX5 q.2.2.1 (qmk q 0 5 2)) k 9 q.2.2.1).2.2.2.1 k = (0, 0) := s2
  have h4 : qok (qwR (qmk (qwR (qX5 q.2.2.1 (qmk q 0 5 2)) k 9 q.2.2.1) 2 4 4) k 10 (q.2.2.1 + 1 + 1)) I J := qok_wR (qok_mk h3)
  have l4 : k < (qwR (qmk (qwR (qX5 q.2.2.1 (qmk q 0 5 2)) k 9 q.2.2.1) 2 4 4) k 10 (q.2.2.1 + 1 + 1)).2.2.1 := by show k < q.2.2.1 + 1 + 1 + 1; omega
  have s4 : (qwR (qmk (qwR (qX5 q.2.2.1 (qmk q 0 5 2)) k 9 q.2.2.1) 2 4 4) k 10 (q.2.2.1 + 1 + 1)).2.2.2.1 k = (0, 0) := by rw [qsh_wR, qsh_lt l3]; exact s3
  rw [e_X0_init, q_new h, Option.bind_some]
  change (f_X5_init d q.2.2.1 (qH (qmk q 0 5 2) L xs I J)).bind _ = _
  rw [q_X5 (qok_mk h) qsh_self (by show q.2.2.1 < q.2.2.1 + 1; omega), Option.bind_some]
  change (am_pR (qH (qX5 q.2.2.1 (qmk q 0 5 2)) L xs I J) k 0 9 q.2.2.1).bind _ = _
  rw [q_pR s2, Option.bind_some, q_nwa h3 (by omega), Option.bind_some]
  change (am_pR (qH (qmk (qwR (qX5 q.2.2.1 (qmk q 0 5 2)) k 9 q.2.2.1) 2 4 4) L xs I J) k 0 10 (q.2.2.1 + 1 + 1)).bind _ = _
  rw [q_pR (by rw [qsh_lt l3]; exact s3), Option.bind_some, q_nwa h4 (by omega), Option.bind_some]
  change (am_pR (qH (qmk (qwR (qmk (qwR (qX5 q.2.2.1 (qmk q 0 5 2)) k 9 q.2.2.1) 2 4 4) k 10 (q.2.2.1 + 1 + 1)) 1 4 4) L xs I J) k 0 12 (q.2.2.1 + 1 + 1 + 1)).bind _ = _
  rw [q_pR (by rw [qsh_lt l4]; exact s4), Option.bind_some, q_pI (by rw [qsh_wR, qsh_lt l4]; exact s4), Option.bind_some]
  rfl
end QIN
/-! the line's memory, step by step -/
def Q0 : am_Q := qmk (0, 0, 0, fun _ => (99, 0), fun _ _ => none) 0 8 7
def QA2 : am_Q := qwR (qX7 1 (qmk Q0 0 7 10)) 0 0 1
def QA4 : am_Q := qwR (qX7 5 (qmk QA2 0 7 10)) 0 1 5
def QA6 : am_Q := qwR (qX3 9 (qmk QA4 0 3 3)) 0 2 9
def QA8 : am_Q := qwR (qX3 11 (qmk QA6 0 3 3)) 0 3 11
def QA9 : am_Q := qmk QA8 0 1 4
def QB : Nat → am_Q
  | 0 => qwR (qwR (qmk QA9 4 30 30) 13 1 14) 13 0 1
  | i + 1 => qwR (qX0 (15 + 5 * i) (qmk (QB i) 0 0 15)) 14 i (15 + 5 * i)
def QC1 : am_Q := qmk (qwR (QB 30) 0 4 13) 0 6 6
def QD0 : am_Q := qwR (qwR (qmk (qwR (qmk (qwR (qmk (qwR (qmk QC1 6 10 10) 165 1 166) 8 10 10) 165 2 167) 6 30 30) 165 3 168) 8 30 30) 165 4 169) 165 0 5
def QE : Nat → am_Q
  | 0 => QD0
  | i + 1 => qwR (qX2 (170 + 3 * i) (qmk (QE i) 0 2 3)) 166 i (170 + 3 * i)
def QF : Nat → am_Q
  | 0 => QE 10
  | i + 1 => qwR (qX4 (200 + 2 * i) (qmk (QF i) 0 4 4)) 167 i (200 + 2 * i)
def QG : Nat → am_Q
  | 0 => QF 10
  | i + 1 => qwR (qX4 (223 + 5 * i) (qmk (qwR (qX2 (220 + 5 * i) (qmk (QG i) 0 2 3)) 168 i (220 + 5 * i)) 0 4 4)) 169 i (223 + 5 * i)
def QX : am_Q := qwR (QG 30) 0 5 165
theorem fA : Q0.2.2.1 = 1 ∧ QA2.2.2.1 = 5 ∧ QA4.2.2.1 = 9 ∧ QA6.2.2.1 = 11 ∧ QA8.2.2.1 = 13 ∧ QA9.2.2.1 = 14 ∧ QC1.2.2.1 = 166 ∧ (qwR (QB 30) 0 4 13).2.2.1 = 165 := by decide +kernel
theorem fA2 : Q0.2.2.2.1 0 = (0, 8) ∧ QA2.2.2.2.1 0 = (0, 8) ∧ QA4.2.2.2.1 0 = (0, 8) ∧ QA6.2.2.2.1 0 = (0, 8) ∧ QA8.2.2.2.1 0 = (0, 8) ∧ QA9.2.2.2.1 0 = (0, 8) ∧ (QB 30).2.2.2.1 0 = (0, 8) ∧ QC1.2.2.2.1 0 = (0, 8) ∧ (QG 30).2.2.2.1 0 = (0, 8) ∧ QA9.2.2.2.1 13 = (0, 1) ∧ QC1.2.2.2.1 165 = (0, 6) ∧ QA9.2.2.2.2 0 0 = some 1 ∧ QC1.2.2.2.2 0 1 = some 5 := by decide +kernel
theorem fA3 : Q0.1 = 1 ∧ QA2.1 = 5 ∧ QA4.1 = 9 ∧ QA6.1 = 11 ∧ QA8.1 = 13 ∧ (QB 30).1 = (QB 30).2.2.1 ∧ (QG 30).1 = (QG 30).2.2.1 := by decide +kernel
theorem fB : ∀ i, i < 30 → (QB i).2.2.1 = 15 + 5 * i ∧ (QB i).1 = 15 + 5 * i ∧ (QB i).2.2.2.1 13 = (0, 1) ∧ (QB i).2.2.2.2 13 1 = some 14 ∧ (QB i).2.2.2.1 14 = (4, 30) := by decide +kernel
theorem fE : ∀ i, i < 10 → (QE i).2.2.1 = 170 + 3 * i ∧ (QE i).1 = 170 + 3 * i ∧ (QE i).2.2.2.1 165 = (0, 6) ∧ (QE i).2.2.2.2 165 1 = some 166 ∧ (QE i).2.2.2.1 166 = (6, 10) := by decide +kernel
theorem fF : ∀ i, i < 10 → (QF i).2.2.1 = 200 + 2 * i ∧ (QF i).1 = 200 + 2 * i ∧ (QF i).2.2.2.1 165 = (0, 6) ∧ (QF i).2.2.2.2 165 2 = some 167 ∧ (QF i).2.2.2.1 167 = (8, 10) := by decide +kernel
theorem fG : ∀ i, i < 30 → (QG i).2.2.1 = 220 + 5 * i ∧ (QG i).1 = 220 + 5 * i ∧ (QG i).2.2.2.1 165 = (0, 6) ∧ (QG i).2.2.2.2 165 3 = some 168 ∧ (QG i).2.2.2.1 168 = (6, 30) ∧ (QG i).2.2.2.2 165 4 = some 169 ∧ (QG i).2.2.2.1 169 = (8, 30) := by decide +kernel

def qrL : List (Nat × Nat × Nat) := [(1, 30, 7), (1, 30, 8), (1, 30, 9), (1, 30, 10), (1, 30, 11), (3, 30, 12), (2, 30, 13), (2, 30, 14), (1, 30, 15), (1, 1800, 16), (1, 30, 17), (2, 120, 18), (3, 120, 19), (3, 120, 20), (1, 30, 21), (1, 1800, 22), (2, 90, 23), (2, 10, 26), (1, 10, 27), (1, 600, 28), (2, 10, 29), (2, 30, 30), (1, 10, 31), (3, 30, 32), (3, 30, 33), (2, 30, 34), (2, 30, 35), (2, 90, 36), (1, 30, 37), (1, 1800, 38), (1, 30, 39), (1, 8400, 40), (1, 2, 41), (1, 2, 42), (1, 1800, 43), (1, 2, 44), (1, 2, 45), (1, 128, 46), (1, 2, 47), (1, 64, 48)]
def QR : Nat → am_Q
  | 0 => qmk QX 0 9 50
  | i + 1 => qwR (qmk (QR i) (qrL.getD i (0, 0, 0)).1 (qrL.getD i (0, 0, 0)).2.1 (qrL.getD i (0, 0, 0)).2.1) 370 (qrL.getD i (0, 0, 0)).2.2 (371 + i)
def QW : am_Q := qmk (QR 40) 2 1 1
theorem fR : ∀ i, i < 41 → (QR i).2.2.1 = 371 + i ∧ (QR i).1 = 371 + i ∧ (QR i).2.2.2.1 370 = (0, 9) := by decide +kernel
theorem fW : QW.1 = 412 ∧ QW.2.2.1 = 412 ∧ QW.2.1 ≤ 7000000 ∧ QW.2.2.2.1 411 = (2, 1) := by decide +kernel
theorem fG2 : ∀ i, i < 30 → (qwR (qX2 (220 + 5 * i) (qmk (QG i) 0 2 3)) 168 i (220 + 5 * i)).2.2.2.2 165 4 = some 169 := by decide +kernel
