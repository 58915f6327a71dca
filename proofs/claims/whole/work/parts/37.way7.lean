/-! THE SPEC'S WAY, and how the class's way sends -/
/-- bytes underway, sizes of their frames, how many bytes of the first one have arrived, how many frames were refused -/
abbrev sWy : Type := List Nat × List Nat × Nat × Nat
abbrev sWy.q (W : sWy) : List Nat := W.1
abbrev sWy.fs (W : sWy) : List Nat := W.2.1
abbrev sWy.ar (W : sWy) : Nat := W.2.2.1
abbrev sWy.rf (W : sWy) : Nat := W.2.2.2
def sWy.send (W : sWy) (fr : List Nat) : sWy := if W.q.length + fr.length ≤ 2000 then ⟨W.q ++ fr, W.fs ++ [fr.length], W.ar, W.rf⟩ else ⟨W.q, W.fs, W.ar, W.rf + 1⟩
def wy_at (I : pm_I) (w p : Nat) (W : sWy) : Prop := wc_ok I w W.q W.fs W.ar W.rf ∧ wv_ok W.q W.fs W.ar ∧ I w 0 = nI p ∧ 8 ≤ p ∧ p ≤ 40
/-- nothing but n cells from w on has changed -/
def pm_fr {α : Type} (I I' : Nat → α) (w n : Nat) : Prop := ∀ a, a < w ∨ w + n ≤ a → I' a = I a
theorem pm_fr.refl {α : Type} (I : Nat → α) (w n : Nat) : pm_fr I I w n := fun _ _ => rfl
theorem pm_fr.trans {α : Type} {I I' I'' : Nat → α} {w n : Nat} (h : pm_fr I I' w n) (h' : pm_fr I' I'' w n) : pm_fr I I'' w n := fun a ha => (h' a ha).trans (h a ha)
theorem pm_fr.mono {α : Type} {I I' : Nat → α} {w n w' n' : Nat} (h : pm_fr I I' w n) (h1 : w' ≤ w) (h2 : w + n ≤ w' + n') : pm_fr I I' w' n' := fun a ha => h a (by omega)
theorem pm_fr_u {I : pm_I} {w n k j : Nat} {v : Int32} (h : w ≤ k ∧ k < w + n) : pm_fr I (am_u I k j v) w n := fun a ha => am_u_ne _ _ (by omega)
theorem wy_congr {I I' : pm_I} {w p : Nat} {W : sWy} (h : wy_at I w p W) (e0 : I' w = I w) (e1 : I' (w + 1) = I (w + 1)) (e2 : I' (w + 2) = I (w + 2)) : wy_at I' w p W := by
  obtain ⟨⟨hd, ff, h⟩, hv, hz⟩ := h
  refine ⟨⟨hd, ff, ?_⟩, hv, ?_⟩
  · rw [e0, e1, e2]
    exact h
  · rw [e0]
    exact hz
theorem wy_fr {I I' : pm_I} {w p a n : Nat} {W : sWy} (h : wy_at I w p W) (e : pm_fr I I' a n) (hd : w + 4 ≤ a ∨ a + n ≤ w) : wy_at I' w p W := wy_congr h (e _ (by omega)) (e _ (by omega)) (e _ (by omega))
theorem wv_send {q fs : List Nat} {ar : Nat} (h : wv_ok q fs ar) {fr : List Nat} (hb : ∀ x ∈ fr, x < 256) (h5 : 5 ≤ fr.length) (h45 : fr.length ≤ 45) : wv_ok (q ++ fr) (fs ++ [fr.length]) ar := by
  obtain ⟨h1, h2, h3, h4⟩ := h
  refine ⟨fun x hx => ?_, fun x hx => ?_, ?_, fun f hf => ?_⟩
  · rcases List.mem_append.mp hx with hx | hx
    · exact h1 x hx
    · exact hb x hx
  · rcases List.mem_append.mp hx with hx | hx
    · exact h2 x hx
    · obtain rfl : x = fr.length := by simpa using hx
      exact ⟨h5, h45⟩
  · simp
    omega
  · cases fs with
    | nil =>
      obtain rfl : fr.length = f := by simpa using hf
      have h3 : 0 = q.length + ar := h3
      omega
    | cons g fs => exact h4 f (by simpa using hf)
theorem wf_all_bd {c kd pl : Nat} {dat : List Nat} (hc : c < 256) (hk : kd < 256) (hp : pl < 256) (hb : ∀ x ∈ dat, x < 256) (hn : dat.length ≤ 40) : ∀ x ∈ wf_all c kd pl dat, x < 256 := by
  intro x hx
  unfold wf_all at hx
  rcases List.mem_append.mp hx with hx | hx
  · simp only [wf_head, List.mem_cons] at hx
    rcases hx with hx | hx | hx | hx | hx
    · omega
    · omega
    · omega
    · omega
    · exact hb x hx
  · obtain rfl : x = (wf_head c kd pl dat).sum % 256 := by simpa using hx
    omega
theorem wy_send {K : am_K} {I : pm_I} {J : pm_J} {w p c kd pl da m fr n : Nat} {W : sWy} {dat : List Nat} (L : wl_ok K w) (hw : wy_at I w p W) (hda : pm_sh K da = (1, m)) (hne : da < w ∨ w + 3 ≤ da) (hdat : wl_at I da fr dat) (hm : fr + dat.length ≤ m) (hm2 : m < 100000) (hn : dat.length = n) (hn40 : n ≤ 40) (hc : c < 256) (hk : kd < 256) (hp : pl < 256) (hb : ∀ x ∈ dat, x < 256) (d : Nat) :
    ∃ I' : pm_I, f_X7_send (d + 1) w (nI c) (nI kd) (nI pl) da (nI fr) (nI n) (K, I, J) = some ((0, 0, none), (K, I', J)) ∧ wy_at I' w p (W.send (wf_all c kd pl dat)) ∧ pm_fr I I' w 3 := by
  obtain ⟨⟨hd, ff, hw⟩, hv, hz, hz2⟩ := hw
  have hl : (wf_all c kd pl dat).length = 5 + n := by rw [wf_all_len, hn]
  unfold sWy.send
  by_cases h : W.q.length + (5 + n) ≤ 2000
  · obtain ⟨I', hd', ff', g1, g2, gz, g3⟩ := wc_send (J := J) L hw hv hda (by omega) (by omega) (by omega) hdat hm hm2 hn hn40 hc hk hp hb h d
    refine ⟨I', g1, ?_, fun a ha => g3 a (by omega) (by omega) (by omega)⟩
    rw [hl, if_pos h]
    refine ⟨⟨hd', ff', g2⟩, ?_, gz.trans hz, hz2⟩
    show wv_ok (W.q ++ wf_all c kd pl dat) (W.fs ++ [5 + n]) W.ar
    rw [← hl]
    exact wv_send hv (wf_all_bd hc hk hp hb (by omega)) (by omega) (by omega)
  · obtain ⟨I', g1, g2, gz, g3⟩ := wc_send0 (J := J) (da := da) L hw hn40 (by omega) (nI c) (nI kd) (nI pl) (nI fr) d
    refine ⟨I', g1, ?_, fun a ha => g3 a (by omega)⟩
    rw [hl, if_neg h]
    exact ⟨⟨hd, ff, g2⟩, hv, gz.trans hz, hz2⟩
theorem wy_sendEmpty {K : am_K} {I : pm_I} {J : pm_J} {w p c kd pl : Nat} {W : sWy} (L : wl_ok K w) (hw : wy_at I w p W) (hc : c < 256) (hk : kd < 256) (hp : pl < 256) (d : Nat) :
    ∃ I' : pm_I, f_X7_sendEmpty (d + 2) w (nI c) (nI kd) (nI pl) (K, I, J) = some ((0, 0, none), (K, I', J)) ∧ wy_at I' w p (W.send (wf_all c kd pl [])) ∧ pm_fr I I' w 4 := by
  obtain ⟨I', g1, g2, g3⟩ := wy_send (J := J) (dat := []) (fr := 0) (n := 0) L hw L.2.2.2.1 (by omega) (fun i hi => absurd hi (by simp)) (by simp) (by omega) rfl (by omega) hc hk hp (by simp) d
  obtain ⟨L0, L1, L2, L3, R1, R2, R3⟩ := L
  rw [e_X7_sendEmpty]
  simp (disch := first | assumption | omega) only [pm_gI, pm_gJ, pm_gR, pm_pI, pm_pZ, pm_pJ, pm_ldI, pm_ldJ, pm_ldR, pm_stI, pm_stZ, pm_stJ, pm_pZ0, pm_pZ1, pm_stZ0, pm_stZ1, pm_len, pm_cpyI, pm_cpyJ, pm_is, Option.bind_some, pm_u, pm_ur, pm_lt, pm_le, pm_eq, pm_ne, pm_add, pm_sub, pm_z0, pm_z1, cond_true, cond_false, decide_true, decide_false, not_false_eq_true, not_true_eq_false, reduceIte, Nat.reduceEqDiff, Nat.add_eq_left, Nat.left_eq_add, Nat.add_left_cancel_iff, Nat.one_ne_zero, am_cs, g1]
  exact ⟨I', rfl, g2, g3.mono (by omega) (by omega)⟩
theorem wy_sendByte {K : am_K} {I : pm_I} {J : pm_J} {w p c kd pl b : Nat} {W : sWy} (L : wl_ok K w) (hw : wy_at I w p W) (hc : c < 256) (hk : kd < 256) (hp : pl < 256) (hb : b < 256) (d : Nat) :
    ∃ I' : pm_I, f_X7_sendByte (d + 2) w (nI c) (nI kd) (nI pl) (nI b) (K, I, J) = some ((0, 0, none), (K, I', J)) ∧ wy_at I' w p (W.send (wf_all c kd pl [b])) ∧ pm_fr I I' w 4 := by
  have f0 : pm_fr I (am_u I (w + 3) 0 (nI b)) (w + 3) 1 := pm_fr_u (by omega)
  have hdt : wl_at (am_u I (w + 3) 0 (nI b)) (w + 3) 0 [b] := by
    intro i hi
    obtain rfl : i = 0 := by simpa using hi
    simp [pm_u]
  obtain ⟨I', g1, g2, g3⟩ := wy_send (J := J) (I := am_u I (w + 3) 0 (nI b)) (dat := [b]) (fr := 0) (n := 1) L (wy_congr hw (f0 _ (by omega)) (f0 _ (by omega)) (f0 _ (by omega))) L.2.2.2.1 (by omega) hdt (by simp) (by omega) rfl (by omega) hc hk hp (by simpa using hb) d
  obtain ⟨L0, L1, L2, L3, R1, R2, R3⟩ := L
  rw [e_X7_sendByte]
  simp (disch := first | assumption | omega) only [pm_gI, pm_gJ, pm_gR, pm_pI, pm_pZ, pm_pJ, pm_ldI, pm_ldJ, pm_ldR, pm_stI, pm_stZ, pm_stJ, pm_pZ0, pm_pZ1, pm_stZ0, pm_stZ1, pm_len, pm_cpyI, pm_cpyJ, pm_is, Option.bind_some, pm_u, pm_ur, pm_lt, pm_le, pm_eq, pm_ne, pm_add, pm_sub, pm_z0, pm_z1, cond_true, cond_false, decide_true, decide_false, not_false_eq_true, not_true_eq_false, reduceIte, Nat.reduceEqDiff, Nat.add_eq_left, Nat.left_eq_add, Nat.add_left_cancel_iff, Nat.one_ne_zero, am_cs, g1]
  exact ⟨I', rfl, g2, (f0.mono (by omega) (by omega)).trans (g3.mono (by omega) (by omega))⟩
/-- byte i of a long, the highest first -/
def lb_byte (v : Int64) (i : Nat) : Nat := (v.toBitVec.toNat >>> (56 - 8 * i)) % 256
def lb_long (v : Int64) : List Nat := [lb_byte v 0, lb_byte v 1, lb_byte v 2, lb_byte v 3, lb_byte v 4, lb_byte v 5, lb_byte v 6, lb_byte v 7]
theorem lb_bd (v : Int64) (i : Nat) : lb_byte v i < 256 := Nat.mod_lt _ (by omega)
theorem lb_long_bd (v : Int64) : ∀ x ∈ lb_long v, x < 256 := by
  intro x hx
  simp only [lb_long, List.mem_cons, List.not_mem_nil, or_false] at hx
  rcases hx with h | h | h | h | h | h | h | h <;> (rw [h]; exact lb_bd v _)
theorem lb_sh (v : Int64) (s : Nat) (hs : s < 64) : (Int64.toInt32 ((Int64.toUInt64 v >>> (UInt64.ofNat s)).toInt64)) &&& (nI 255) = nI ((v.toBitVec.toNat >>> s) % 256) := by
  apply Int32.toBitVec_inj.mp
  apply BitVec.eq_of_toNat_eq
  show ((BitVec.signExtend 32 (v.toBitVec >>> ((BitVec.ofNat 64 s) % 64))) &&& BitVec.ofNat 32 255).toNat = (BitVec.ofNat 32 ((v.toBitVec.toNat >>> s) % 256)).toNat
  have h1 : (BitVec.ofNat 64 s) % 64 = BitVec.ofNat 64 s := by
    apply BitVec.eq_of_toNat_eq
    simp
    omega
  rw [h1, BitVec.toNat_and, BitVec.signExtend_eq_setWidth_of_le _ (by omega), BitVec.toNat_setWidth, BitVec.ushiftRight_eq', BitVec.toNat_ushiftRight, BitVec.toNat_ofNat, BitVec.toNat_ofNat, BitVec.toNat_ofNat, Nat.mod_eq_of_lt (show s < 2 ^ 64 by omega), Nat.mod_eq_of_lt (show 255 < 2 ^ 32 by omega), show (255 : Nat) = 2 ^ 8 - 1 from rfl, Nat.and_two_pow_sub_one_eq_mod]
  omega
theorem lb_class (v : Int64) (i : Nat) (hi : i < 8) : (Int64.toInt32 ((Int64.toUInt64 v >>> ((Int32.toInt64 ((nI 56) - ((nI 8) * nI i))).toUInt64 &&& Int64.toUInt64 63)).toInt64)) &&& (nI 255) = nI (lb_byte v i) := by
  have h : (Int32.toInt64 ((nI 56) - ((nI 8) * nI i))).toUInt64 &&& Int64.toUInt64 63 = UInt64.ofNat (56 - 8 * i) := by
    rcases i with _ | _ | _ | _ | _ | _ | _ | _ | i
    · decide +kernel
    · decide +kernel
    · decide +kernel
    · decide +kernel
    · decide +kernel
    · decide +kernel
    · decide +kernel
    · decide +kernel
    · omega
  rw [h]
  exact lb_sh v _ (by omega)
theorem lb_get (v : Int64) (i : Nat) (hi : i < 8) : (lb_long v).getD i 0 = lb_byte v i := by
  rcases i with _ | _ | _ | _ | _ | _ | _ | _ | i
  · rfl
  · rfl
  · rfl
  · rfl
  · rfl
  · rfl
  · rfl
  · rfl
  · omega
theorem wy_numLoop {K : am_K} {J : pm_J} {w p c kd pl : Nat} {W : sWy} (v : Int64) (L : wl_ok K w) (hc : c < 256) (hk : kd < 256) (hp : pl < 256) (d : Nat) : ∀ (n i : Nat) (I : pm_I), i + n = 8 → wy_at I w p W → (∀ j, j < i → I (w + 3) j = nI (lb_byte v j)) →
    ∃ I' : pm_I, l_X7_sendNumber_3 (d + 2) w (nI c) (nI kd) (nI pl) v (nI i) (K, I, J) = some ((0, 0, none), (K, I', J)) ∧ wy_at I' w p (W.send (wf_all c kd pl (lb_long v))) ∧ pm_fr I I' w 4
  | 0, i, I, hi, hw, hs => by
    obtain rfl : i = 8 := by omega
    obtain ⟨I', g1, g2, g3⟩ := wy_send (J := J) (dat := lb_long v) (fr := 0) (n := 8) L hw L.2.2.2.1 (by omega) (fun i hi => by rw [lb_get v i hi, Nat.zero_add]; exact hs i hi) (Nat.le_refl _) (by omega) rfl (by omega) hc hk hp (lb_long_bd v) d
    obtain ⟨L0, L1, L2, L3, R1, R2, R3⟩ := L
    rw [e_l_X7_sendNumber_3]
    simp (disch := first | assumption | omega) only [pm_gI, pm_gJ, pm_gR, pm_pI, pm_pZ, pm_pJ, pm_ldI, pm_ldJ, pm_ldR, pm_stI, pm_stZ, pm_stJ, pm_pZ0, pm_pZ1, pm_stZ0, pm_stZ1, pm_len, pm_cpyI, pm_cpyJ, pm_is, Option.bind_some, pm_u, pm_ur, pm_lt, pm_le, pm_eq, pm_ne, pm_add, pm_sub, pm_z0, pm_z1, cond_true, cond_false, decide_true, decide_false, not_false_eq_true, not_true_eq_false, reduceIte, Nat.reduceEqDiff, Nat.add_eq_left, Nat.left_eq_add, Nat.add_left_cancel_iff, Nat.one_ne_zero, am_cs, g1, Nat.le_refl]
    exact ⟨I', rfl, g2, g3.mono (by omega) (by omega)⟩
  | n + 1, i, I, hi, hw, hs => by
    have f0 : pm_fr I (am_u I (w + 3) i (nI (lb_byte v i))) (w + 3) 1 := pm_fr_u (by omega)
    obtain ⟨I', g1, g2, g3⟩ := wy_numLoop v L hc hk hp d n (i + 1) (am_u I (w + 3) i (nI (lb_byte v i))) (by omega) (wy_congr hw (f0 _ (by omega)) (f0 _ (by omega)) (f0 _ (by omega))) (by
      intro j hj
      simp only [pm_u]
      rw [if_pos trivial]
      by_cases h : j = i
      · rw [if_pos h, h]
      · rw [if_neg h]; exact hs j (by omega))
    obtain ⟨L0, L1, L2, L3, R1, R2, R3⟩ := L
    rw [e_l_X7_sendNumber_3, lb_class v i (by omega)]
    rw [pm_le (by omega) (by omega), decide_eq_false (show ¬ 8 ≤ i by omega)]
    simp (disch := first | assumption | omega) only [pm_gI, pm_gJ, pm_gR, pm_pI, pm_pZ, pm_pJ, pm_ldI, pm_ldJ, pm_ldR, pm_stI, pm_stZ, pm_stJ, pm_pZ0, pm_pZ1, pm_stZ0, pm_stZ1, pm_len, pm_cpyI, pm_cpyJ, pm_is, Option.bind_some, pm_u, pm_ur, pm_lt, pm_le, pm_eq, pm_ne, pm_add, pm_sub, pm_z0, pm_z1, cond_true, cond_false, decide_true, decide_false, not_false_eq_true, not_true_eq_false, reduceIte, Nat.reduceEqDiff, Nat.add_eq_left, Nat.left_eq_add, Nat.add_left_cancel_iff, Nat.one_ne_zero, am_cs]
    exact ⟨I', g1, g2, (f0.mono (by omega) (by omega)).trans g3⟩
theorem wy_sendNumber {K : am_K} {I : pm_I} {J : pm_J} {w p c kd pl : Nat} {W : sWy} (v : Int64) (L : wl_ok K w) (hw : wy_at I w p W) (hc : c < 256) (hk : kd < 256) (hp : pl < 256) (d : Nat) :
    ∃ I' : pm_I, f_X7_sendNumber (d + 2) w (nI c) (nI kd) (nI pl) v (K, I, J) = some ((0, 0, none), (K, I', J)) ∧ wy_at I' w p (W.send (wf_all c kd pl (lb_long v))) ∧ pm_fr I I' w 4 := by
  rw [e_X7_sendNumber]
  exact wy_numLoop v L hc hk hp d 8 0 I rfl hw (fun j hj => by omega)
/-- a row's cells; what a row holds -/
def rl_ok (K : am_K) (r : Nat) : Prop := pm_sh K r = (0, 5) ∧ pm_sh K (r + 1) = (1, 60) ∧ pm_R K r 0 = some (r + 1)
def rc_at (I : pm_I) (r : Nat) (row : List Nat) : Prop := I r 1 = nI row.length ∧ row.length ≤ 60 ∧ wl_at I (r + 1) 0 row ∧ ∀ x ∈ row, x < 256
theorem rc_congr {I I' : pm_I} {r : Nat} {row : List Nat} (h : rc_at I r row) (e0 : I' r = I r) (e1 : I' (r + 1) = I (r + 1)) : rc_at I' r row := by
  obtain ⟨h1, h2, h3, h4⟩ := h
  refine ⟨by rw [e0]; exact h1, h2, fun i hi => ?_, h4⟩
  rw [e1]
  exact h3 i hi
theorem rc_fr {I I' : pm_I} {r a n : Nat} {row : List Nat} (h : rc_at I r row) (e : pm_fr I I' a n) (hd : r + 2 ≤ a ∨ a + n ≤ r) : rc_at I' r row := rc_congr h (e _ (by omega)) (e _ (by omega))
/-- the frames that a row is sent in, from a place on -/
def sWy.pieces (p c : Nat) (row : List Nat) : Nat → Nat → sWy → sWy
  | 0, _, W => W.send (wf_all c 8 row.length [])
  | n + 1, i, W => if i < row.length then sWy.pieces p c row n (i + p) (W.send (wf_all c 7 i ((row.drop i).take p))) else W.send (wf_all c 8 row.length [])
theorem wy_piecesLoop {K : am_K} {J : pm_J} {w r c p : Nat} {row : List Nat} (L : wl_ok K w) (M : rl_ok K r) (hr : r + 2 ≤ w ∨ w + 4 ≤ r) (hc : c < 256) (d : Nat) : ∀ (n i : Nat) (I : pm_I) (W : sWy), i < 256 → row.length ≤ i + 8 * n → wy_at I w p W → rc_at I r row →
    ∃ I' : pm_I, l_X7_sendPieces_3 (d + 2) w (nI c) r (nI i) (K, I, J) = some ((0, 0, none), (K, I', J)) ∧ wy_at I' w p (W.pieces p c row n i) ∧ pm_fr I I' w 3 := by
  intro n
  induction n with
  | zero =>
    intro i I W hi hl hw hrow
    obtain ⟨h1, h2, h3, h4⟩ := hrow
    obtain ⟨M0, M1, M2⟩ := M
    obtain ⟨I', g1, g2, g3⟩ := wy_send (J := J) (dat := []) (fr := 0) (n := 0) L hw M1 (by omega) (fun i hi => absurd hi (by simp)) (by simp) (by omega) rfl (by omega) hc (show 8 < 256 by omega) (show row.length < 256 by omega) (by simp) d
    obtain ⟨L0, L1, L2, L3, R1, R2, R3⟩ := L
    rw [e_l_X7_sendPieces_3]
    have hle : row.length ≤ i := by omega
    simp (disch := first | assumption | omega) only [pm_gI, pm_gJ, pm_gR, pm_pI, pm_pZ, pm_pJ, pm_ldI, pm_ldJ, pm_ldR, pm_stI, pm_stZ, pm_stJ, pm_pZ0, pm_pZ1, pm_stZ0, pm_stZ1, pm_len, pm_cpyI, pm_cpyJ, pm_is, Option.bind_some, pm_u, pm_ur, pm_lt, pm_le, pm_eq, pm_ne, pm_add, pm_sub, pm_z0, pm_z1, cond_true, cond_false, decide_true, decide_false, not_false_eq_true, not_true_eq_false, reduceIte, Nat.reduceEqDiff, Nat.add_eq_left, Nat.left_eq_add, Nat.add_left_cancel_iff, Nat.one_ne_zero, am_cs, g1, h1, hle]
    exact ⟨I', rfl, g2, g3⟩
  | succ n ih =>
    intro i I W hi hl hw hrow
    have hpp := hw.2.2
    have hrow' := hrow
    obtain ⟨h1, h2, h3, h4⟩ := hrow
    have M' := M
    obtain ⟨M0, M1, M2⟩ := M
    unfold sWy.pieces
    by_cases hle : row.length ≤ i
    · obtain ⟨I', g1, g2, g3⟩ := wy_send (J := J) (dat := []) (fr := 0) (n := 0) L hw M1 (by omega) (fun i hi => absurd hi (by simp)) (by simp) (by omega) rfl (by omega) hc (show 8 < 256 by omega) (show row.length < 256 by omega) (by simp) d
      obtain ⟨L0, L1, L2, L3, R1, R2, R3⟩ := L
      rw [e_l_X7_sendPieces_3, if_neg (by omega)]
      simp (disch := first | assumption | omega) only [pm_gI, pm_gJ, pm_gR, pm_pI, pm_pZ, pm_pJ, pm_ldI, pm_ldJ, pm_ldR, pm_stI, pm_stZ, pm_stJ, pm_pZ0, pm_pZ1, pm_stZ0, pm_stZ1, pm_len, pm_cpyI, pm_cpyJ, pm_is, Option.bind_some, pm_u, pm_ur, pm_lt, pm_le, pm_eq, pm_ne, pm_add, pm_sub, pm_z0, pm_z1, cond_true, cond_false, decide_true, decide_false, not_false_eq_true, not_true_eq_false, reduceIte, Nat.reduceEqDiff, Nat.add_eq_left, Nat.left_eq_add, Nat.add_left_cancel_iff, Nat.one_ne_zero, am_cs, g1, h1, hle]
      exact ⟨I', rfl, g2, g3⟩
    · have hlen : ((row.drop i).take p).length = min p (row.length - i) := by simp
      obtain ⟨I1, g1, g2, g3⟩ := wy_send (J := J) (dat := (row.drop i).take p) (fr := i) (n := min p (row.length - i)) L hw M1 (by omega) (by
        intro k hk
        rw [hlen] at hk
        have := h3 (i + k) (by omega)
        rw [Nat.zero_add] at this
        rw [this]
        simp [List.getElem?_take, show k < p by omega]) (by omega) (by omega) hlen (by omega) hc (show 7 < 256 by omega) (show i < 256 by omega) (fun x hx => h4 x (List.mem_of_mem_drop (List.mem_of_mem_take hx))) d
      obtain ⟨I2, k1, k2, k3⟩ := ih (i + p) I1 (W.send (wf_all c 7 i ((row.drop i).take p))) (by omega) (by omega) g2 (rc_congr hrow' (g3 _ (by omega)) (g3 _ (by omega)))
      obtain ⟨L0, L1, L2, L3, R1, R2, R3⟩ := L
      rw [e_l_X7_sendPieces_3, if_pos (by omega)]
      have hmin : (if nI (row.length - i) < nI p then nI (row.length - i) else nI p) = nI (min p (row.length - i)) := by
        by_cases h : row.length - i < p
        · rw [if_pos (nI_lt h (by omega)), Nat.min_eq_right (by omega)]
        · rw [if_neg (nI_nlt (by omega) (by omega)), Nat.min_eq_left (by omega)]
      simp (disch := first | assumption | omega) only [pm_gI, pm_gJ, pm_gR, pm_pI, pm_pZ, pm_pJ, pm_ldI, pm_ldJ, pm_ldR, pm_stI, pm_stZ, pm_stJ, pm_pZ0, pm_pZ1, pm_stZ0, pm_stZ1, pm_len, pm_cpyI, pm_cpyJ, pm_is, Option.bind_some, pm_u, pm_ur, pm_lt, pm_le, pm_eq, pm_ne, pm_add, pm_sub, pm_z0, pm_z1, cond_true, cond_false, decide_true, decide_false, not_false_eq_true, not_true_eq_false, reduceIte, Nat.reduceEqDiff, Nat.add_eq_left, Nat.left_eq_add, Nat.add_left_cancel_iff, Nat.one_ne_zero, am_cs, h1, hle, hpp.1]
      rw [hmin]
      simp (disch := first | assumption | omega) only [pm_gI, pm_gJ, pm_gR, pm_pI, pm_pZ, pm_pJ, pm_ldI, pm_ldJ, pm_ldR, pm_stI, pm_stZ, pm_stJ, pm_pZ0, pm_pZ1, pm_stZ0, pm_stZ1, pm_len, pm_cpyI, pm_cpyJ, pm_is, Option.bind_some, pm_u, pm_ur, pm_lt, pm_le, pm_eq, pm_ne, pm_add, pm_sub, pm_z0, pm_z1, cond_true, cond_false, decide_true, decide_false, not_false_eq_true, not_true_eq_false, reduceIte, Nat.reduceEqDiff, Nat.add_eq_left, Nat.left_eq_add, Nat.add_left_cancel_iff, Nat.one_ne_zero, am_cs, g1, g2.2.2.1]
      exact ⟨I2, k1, k2, g3.trans k3⟩
theorem wy_sendPieces {K : am_K} {I : pm_I} {J : pm_J} {w p r c i : Nat} {W : sWy} {row : List Nat} (L : wl_ok K w) (hw : wy_at I w p W) (M : rl_ok K r) (hrow : rc_at I r row) (hr : r + 2 ≤ w ∨ w + 4 ≤ r) (hc : c < 256) (hi : i < 256) (d : Nat) :
    ∃ I' : pm_I, f_X7_sendPieces (d + 2) w (nI c) r (nI i) (K, I, J) = some ((0, 0, none), (K, I', J)) ∧ wy_at I' w p (W.pieces p c row 8 i) ∧ pm_fr I I' w 4 := by
  rw [e_X7_sendPieces]
  obtain ⟨I', g1, g2, g3⟩ := wy_piecesLoop (J := J) L M hr hc d 8 i I W hi (by have := hrow.2.1; omega) hw hrow
  exact ⟨I', g1, g2, g3.mono (by omega) (by omega)⟩
