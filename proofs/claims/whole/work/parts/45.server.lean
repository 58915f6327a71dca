/-! THE SPEC'S SERVER, and the class's -/
/-- blobs, how many; results, how many; partials; notes; busy for -/
abbrev sSv : Type := (Int64 → Option (List Nat)) × (Nat) × (Int64 → Option (List Int64)) × (Nat) × (Nat → Option (Int64 × List Nat)) × (Nat → Option (Int64 × List Int64)) × (Nat)
def sSv.B (S : sSv) : Int64 → Option (List Nat) := S.1
def sSv.nb (S : sSv) : Nat := S.2.1
def sSv.R (S : sSv) : Int64 → Option (List Int64) := S.2.2.1
def sSv.nr (S : sSv) : Nat := S.2.2.2.1
def sSv.pt (S : sSv) : Nat → Option (Int64 × List Nat) := S.2.2.2.2.1
def sSv.nt (S : sSv) : Nat → Option (Int64 × List Int64) := S.2.2.2.2.2.1
def sSv.bz (S : sSv) : Nat := S.2.2.2.2.2.2
def sSv.setB (S : sSv) (y1 : Int64 → Option (List Nat)) (y2 : Nat) : sSv := (y1, y2, S.R, S.nr, S.pt, S.nt, S.bz)
def sSv.setR (S : sSv) (y1 : Int64 → Option (List Int64)) (y2 : Nat) : sSv := (S.B, S.nb, y1, y2, S.pt, S.nt, S.bz)
def sSv.setPt (S : sSv) (y1 : Nat → Option (Int64 × List Nat)) : sSv := (S.B, S.nb, S.R, S.nr, y1, S.nt, S.bz)
def sSv.setNt (S : sSv) (y1 : Nat → Option (Int64 × List Int64)) : sSv := (S.B, S.nb, S.R, S.nr, S.pt, y1, S.bz)
def sSv.setBz (S : sSv) (y1 : Nat) : sSv := (S.B, S.nb, S.R, S.nr, S.pt, S.nt, y1)
theorem sSv_B_setB (S : sSv) (y1 : Int64 → Option (List Nat)) (y2 : Nat) : (S.setB y1 y2).B = y1 := rfl
theorem sSv_nb_setB (S : sSv) (y1 : Int64 → Option (List Nat)) (y2 : Nat) : (S.setB y1 y2).nb = y2 := rfl
theorem sSv_R_setB (S : sSv) (y1 : Int64 → Option (List Nat)) (y2 : Nat) : (S.setB y1 y2).R = S.R := rfl
theorem sSv_nr_setB (S : sSv) (y1 : Int64 → Option (List Nat)) (y2 : Nat) : (S.setB y1 y2).nr = S.nr := rfl
theorem sSv_pt_setB (S : sSv) (y1 : Int64 → Option (List Nat)) (y2 : Nat) : (S.setB y1 y2).pt = S.pt := rfl
theorem sSv_nt_setB (S : sSv) (y1 : Int64 → Option (List Nat)) (y2 : Nat) : (S.setB y1 y2).nt = S.nt := rfl
theorem sSv_bz_setB (S : sSv) (y1 : Int64 → Option (List Nat)) (y2 : Nat) : (S.setB y1 y2).bz = S.bz := rfl
theorem sSv_B_setR (S : sSv) (y1 : Int64 → Option (List Int64)) (y2 : Nat) : (S.setR y1 y2).B = S.B := rfl
theorem sSv_nb_setR (S : sSv) (y1 : Int64 → Option (List Int64)) (y2 : Nat) : (S.setR y1 y2).nb = S.nb := rfl
theorem sSv_R_setR (S : sSv) (y1 : Int64 → Option (List Int64)) (y2 : Nat) : (S.setR y1 y2).R = y1 := rfl
theorem sSv_nr_setR (S : sSv) (y1 : Int64 → Option (List Int64)) (y2 : Nat) : (S.setR y1 y2).nr = y2 := rfl
theorem sSv_pt_setR (S : sSv) (y1 : Int64 → Option (List Int64)) (y2 : Nat) : (S.setR y1 y2).pt = S.pt := rfl
theorem sSv_nt_setR (S : sSv) (y1 : Int64 → Option (List Int64)) (y2 : Nat) : (S.setR y1 y2).nt = S.nt := rfl
theorem sSv_bz_setR (S : sSv) (y1 : Int64 → Option (List Int64)) (y2 : Nat) : (S.setR y1 y2).bz = S.bz := rfl
theorem sSv_B_setPt (S : sSv) (y1 : Nat → Option (Int64 × List Nat)) : (S.setPt y1).B = S.B := rfl
theorem sSv_nb_setPt (S : sSv) (y1 : Nat → Option (Int64 × List Nat)) : (S.setPt y1).nb = S.nb := rfl
theorem sSv_R_setPt (S : sSv) (y1 : Nat → Option (Int64 × List Nat)) : (S.setPt y1).R = S.R := rfl
theorem sSv_nr_setPt (S : sSv) (y1 : Nat → Option (Int64 × List Nat)) : (S.setPt y1).nr = S.nr := rfl
theorem sSv_pt_setPt (S : sSv) (y1 : Nat → Option (Int64 × List Nat)) : (S.setPt y1).pt = y1 := rfl
theorem sSv_nt_setPt (S : sSv) (y1 : Nat → Option (Int64 × List Nat)) : (S.setPt y1).nt = S.nt := rfl
theorem sSv_bz_setPt (S : sSv) (y1 : Nat → Option (Int64 × List Nat)) : (S.setPt y1).bz = S.bz := rfl
theorem sSv_B_setNt (S : sSv) (y1 : Nat → Option (Int64 × List Int64)) : (S.setNt y1).B = S.B := rfl
theorem sSv_nb_setNt (S : sSv) (y1 : Nat → Option (Int64 × List Int64)) : (S.setNt y1).nb = S.nb := rfl
theorem sSv_R_setNt (S : sSv) (y1 : Nat → Option (Int64 × List Int64)) : (S.setNt y1).R = S.R := rfl
theorem sSv_nr_setNt (S : sSv) (y1 : Nat → Option (Int64 × List Int64)) : (S.setNt y1).nr = S.nr := rfl
theorem sSv_pt_setNt (S : sSv) (y1 : Nat → Option (Int64 × List Int64)) : (S.setNt y1).pt = S.pt := rfl
theorem sSv_nt_setNt (S : sSv) (y1 : Nat → Option (Int64 × List Int64)) : (S.setNt y1).nt = y1 := rfl
theorem sSv_bz_setNt (S : sSv) (y1 : Nat → Option (Int64 × List Int64)) : (S.setNt y1).bz = S.bz := rfl
theorem sSv_B_setBz (S : sSv) (y1 : Nat) : (S.setBz y1).B = S.B := rfl
theorem sSv_nb_setBz (S : sSv) (y1 : Nat) : (S.setBz y1).nb = S.nb := rfl
theorem sSv_R_setBz (S : sSv) (y1 : Nat) : (S.setBz y1).R = S.R := rfl
theorem sSv_nr_setBz (S : sSv) (y1 : Nat) : (S.setBz y1).nr = S.nr := rfl
theorem sSv_pt_setBz (S : sSv) (y1 : Nat) : (S.setBz y1).pt = S.pt := rfl
theorem sSv_nt_setBz (S : sSv) (y1 : Nat) : (S.setBz y1).nt = S.nt := rfl
theorem sSv_bz_setBz (S : sSv) (y1 : Nat) : (S.setBz y1).bz = y1 := rfl
def bl_ok (K : am_K) (a : Nat) : Prop := pm_sh K a = (0, 2) ∧ pm_R K a 0 = some (a + 1) ∧ rl_ok K (a + 1)
def pl_ok (K : am_K) (a : Nat) : Prop := pm_sh K a = (0, 4) ∧ pm_R K a 0 = some (a + 1) ∧ pm_sh K (a + 1) = (2, 3)
/-- where the server's cells lie -/
def sl_ok (K : am_K) : Prop := pm_sh K 165 = (0, 6) ∧ pm_R K 165 0 = some 5 ∧ pm_R K 165 1 = some 166 ∧ pm_R K 165 2 = some 167 ∧ pm_R K 165 3 = some 168 ∧ pm_R K 165 4 = some 169 ∧ pm_sh K 166 = (6, 10) ∧ pm_sh K 167 = (8, 10) ∧ pm_sh K 168 = (6, 30) ∧ pm_sh K 169 = (8, 30) ∧ wl_ok K 5 ∧ (∀ i, i < 10 → pm_R K 166 i = some (170 + 3 * i) ∧ bl_ok K (170 + 3 * i)) ∧ (∀ i, i < 10 → pm_R K 167 i = some (200 + 2 * i) ∧ pl_ok K (200 + 2 * i)) ∧ (∀ i, i < 30 → pm_R K 168 i = some (220 + 5 * i) ∧ bl_ok K (220 + 5 * i)) ∧ (∀ i, i < 30 → pm_R K 169 i = some (223 + 5 * i) ∧ pl_ok K (223 + 5 * i))
def bo_at (I : pm_I) (J : pm_J) (a : Nat) : Option (Int64 × List Nat) → Prop
  | none => I a 2 = nI 0
  | some x => I a 2 = nI 1 ∧ J a 1 = x.1 ∧ rc_at I (a + 1) x.2
def po_at (I : pm_I) (J : pm_J) (a : Nat) : Option (Int64 × List Int64) → Prop
  | none => I a 3 = nI 0
  | some x => I a 3 = nI 1 ∧ J a 1 = x.1 ∧ I a 2 = nI x.2.length ∧ x.2.length ≤ 3 ∧ cd_at (J (a + 1)) x.2
theorem bo_congr {I I' : pm_I} {J J' : pm_J} {a : Nat} {o : Option (Int64 × List Nat)} (h : bo_at I J a o) (e : ∀ b, a ≤ b → b < a + 3 → I' b = I b) (g : ∀ b, a ≤ b → b < a + 3 → J' b = J b) : bo_at I' J' a o := by
  cases o with
  | none =>
    show I' a 2 = nI 0
    rw [e a (by omega) (by omega)]
    exact h
  | some x =>
    obtain ⟨h1, h2, h3⟩ := h
    refine ⟨?_, ?_, rc_congr h3 (e _ (by omega) (by omega)) (e _ (by omega) (by omega))⟩
    · rw [e a (by omega) (by omega)]
      exact h1
    · rw [g a (by omega) (by omega)]
      exact h2
theorem po_congr {I I' : pm_I} {J J' : pm_J} {a : Nat} {o : Option (Int64 × List Int64)} (h : po_at I J a o) (e : ∀ b, a ≤ b → b < a + 2 → I' b = I b) (g : ∀ b, a ≤ b → b < a + 2 → J' b = J b) : po_at I' J' a o := by
  cases o with
  | none =>
    show I' a 3 = nI 0
    rw [e a (by omega) (by omega)]
    exact h
  | some x =>
    obtain ⟨h1, h2, h3, h4, h5⟩ := h
    refine ⟨?_, ?_, ?_, h4, ?_⟩
    · rw [e a (by omega) (by omega)]
      exact h1
    · rw [g a (by omega) (by omega)]
      exact h2
    · rw [e a (by omega) (by omega)]
      exact h3
    · rw [g (a + 1) (by omega) (by omega)]
      exact h5
def sv_bl (I : pm_I) (J : pm_J) (S : sSv) : Prop := ∃ s, (∀ i, i < 10 → bo_at I J (170 + 3 * i) (s i)) ∧ bm_ok s S.B S.nb
def sv_rs (I : pm_I) (J : pm_J) (S : sSv) : Prop := ∃ t, (∀ i, i < 10 → po_at I J (200 + 2 * i) (t i)) ∧ bm_ok t S.R S.nr
def sv_pt (I : pm_I) (J : pm_J) (S : sSv) : Prop := ∀ i, i < 30 → bo_at I J (220 + 5 * i) (S.pt i)
def sv_nt (I : pm_I) (J : pm_J) (S : sSv) : Prop := ∀ i, i < 30 → po_at I J (223 + 5 * i) (S.nt i)
def sv_at (I : pm_I) (J : pm_J) (p : Nat) (W : sWy) (S : sSv) : Prop := wy_at I 5 p W ∧ (I 165 5 = nI S.bz ∧ S.bz ≤ 100) ∧ sv_bl I J S ∧ sv_rs I J S ∧ sv_pt I J S ∧ sv_nt I J S
/-- nothing but the server's cells and its way's has changed -/
def sf_at {α : Type} (I I' : Nat → α) : Prop := ∀ a, a < 5 ∨ (9 ≤ a ∧ a < 165) ∨ 370 ≤ a → I' a = I a
theorem sf_at.refl {α : Type} (I : Nat → α) : sf_at I I := fun _ _ => rfl
theorem sf_at.trans {α : Type} {I I' I'' : Nat → α} (h : sf_at I I') (h' : sf_at I' I'') : sf_at I I'' := fun a ha => (h' a ha).trans (h a ha)
theorem sf_fr {α : Type} {I I' : Nat → α} {x n : Nat} (h : pm_fr I I' x n) (hx : (5 ≤ x ∧ x + n ≤ 9) ∨ (165 ≤ x ∧ x + n ≤ 370)) : sf_at I I' := fun a ha => h a (by omega)
section SRV
variable {K : am_K} {I I' : pm_I} {J J' : pm_J} {p : Nat} {W W' : sWy} {S : sSv}
theorem sv_bl_congr (h : sv_bl I J S) (e : ∀ a, 170 ≤ a → a < 200 → I' a = I a) (g : ∀ a, 170 ≤ a → a < 200 → J' a = J a) : sv_bl I' J' S := by
  obtain ⟨s, h1, h2⟩ := h
  exact ⟨s, fun i hi => bo_congr (h1 i hi) (fun b _ _ => e b (by omega) (by omega)) (fun b _ _ => g b (by omega) (by omega)), h2⟩
theorem sv_rs_congr (h : sv_rs I J S) (e : ∀ a, 200 ≤ a → a < 220 → I' a = I a) (g : ∀ a, 200 ≤ a → a < 220 → J' a = J a) : sv_rs I' J' S := by
  obtain ⟨s, h1, h2⟩ := h
  exact ⟨s, fun i hi => po_congr (h1 i hi) (fun b _ _ => e b (by omega) (by omega)) (fun b _ _ => g b (by omega) (by omega)), h2⟩
theorem sv_congr (h : sv_at I J p W S) (e : ∀ a, (5 ≤ a ∧ a < 9) ∨ (165 ≤ a ∧ a < 370) → I' a = I a) (g : ∀ a, (5 ≤ a ∧ a < 9) ∨ (165 ≤ a ∧ a < 370) → J' a = J a) : sv_at I' J' p W S := by
  obtain ⟨h1, h2, h3, h4, h5, h6⟩ := h
  refine ⟨wy_congr h1 (e _ (by omega)) (e _ (by omega)) (e _ (by omega)), ?_, sv_bl_congr h3 (fun a _ _ => e a (by omega)) (fun a _ _ => g a (by omega)), sv_rs_congr h4 (fun a _ _ => e a (by omega)) (fun a _ _ => g a (by omega)), fun i hi => bo_congr (h5 i hi) (fun b _ _ => e b (by omega)) (fun b _ _ => g b (by omega)), fun i hi => po_congr (h6 i hi) (fun b _ _ => e b (by omega)) (fun b _ _ => g b (by omega))⟩
  rw [e 165 (by omega)]
  exact h2
theorem sv_way (h : sv_at I J p W S) (e : pm_fr I I' 5 4) (hw : wy_at I' 5 p W') : sv_at I' J p W' S := by
  obtain ⟨h1, h2, h3, h4, h5, h6⟩ := h
  refine ⟨hw, ?_, sv_bl_congr h3 (fun a _ _ => e a (by omega)) (fun a _ _ => rfl), sv_rs_congr h4 (fun a _ _ => e a (by omega)) (fun a _ _ => rfl), fun i hi => bo_congr (h5 i hi) (fun b _ _ => e b (by omega)) (fun b _ _ => rfl), fun i hi => po_congr (h6 i hi) (fun b _ _ => e b (by omega)) (fun b _ _ => rfl)⟩
  rw [e 165 (by omega)]
  exact h2
theorem sv_setBz (h : sv_at I J p W S) {b : Nat} (hb : b ≤ 100) : sv_at (am_u I 165 5 (nI b)) J p W (S.setBz b) := by
  have e : pm_fr I (am_u I 165 5 (nI b)) 165 1 := pm_fr_u (by omega)
  obtain ⟨h1, h2, h3, h4, h5, h6⟩ := h
  refine ⟨wy_fr h1 e (by omega), ⟨?_, hb⟩, sv_bl_congr h3 (fun a _ _ => e a (by omega)) (fun a _ _ => rfl), sv_rs_congr h4 (fun a _ _ => e a (by omega)) (fun a _ _ => rfl), fun i hi => bo_congr (h5 i hi) (fun b _ _ => e b (by omega)) (fun b _ _ => rfl), fun i hi => po_congr (h6 i hi) (fun b _ _ => e b (by omega)) (fun b _ _ => rfl)⟩
  simp [pm_u]
  rfl
theorem sv_setPt (h : sv_at I J p W S) {c : Nat} (hc : c < 30) {o : Option (Int64 × List Nat)} (e : pm_fr I I' (220 + 5 * c) 3) (g : pm_fr J J' (220 + 5 * c) 3) (ho : bo_at I' J' (220 + 5 * c) o) : sv_at I' J' p W (S.setPt (fu_at S.pt c o)) := by
  obtain ⟨h1, h2, h3, h4, h5, h6⟩ := h
  refine ⟨wy_fr h1 e (by omega), ?_, sv_bl_congr h3 (fun a _ _ => e a (by omega)) (fun a _ _ => g a (by omega)), sv_rs_congr h4 (fun a _ _ => e a (by omega)) (fun a _ _ => g a (by omega)), fun i hi => ?_, fun i hi => po_congr (h6 i hi) (fun b _ _ => e b (by omega)) (fun b _ _ => g b (by omega))⟩
  · rw [e 165 (by omega)]
    exact h2
  · show bo_at I' J' (220 + 5 * i) (fu_at S.pt c o i)
    by_cases x : i = c
    · rw [x, fu_self]
      exact ho
    · rw [fu_ne _ _ x]
      exact bo_congr (h5 i hi) (fun b _ _ => e b (by omega)) (fun b _ _ => g b (by omega))
theorem sv_setNt (h : sv_at I J p W S) {c : Nat} (hc : c < 30) {o : Option (Int64 × List Int64)} (e : pm_fr I I' (223 + 5 * c) 2) (g : pm_fr J J' (223 + 5 * c) 2) (ho : po_at I' J' (223 + 5 * c) o) : sv_at I' J' p W (S.setNt (fu_at S.nt c o)) := by
  obtain ⟨h1, h2, h3, h4, h5, h6⟩ := h
  refine ⟨wy_fr h1 e (by omega), ?_, sv_bl_congr h3 (fun a _ _ => e a (by omega)) (fun a _ _ => g a (by omega)), sv_rs_congr h4 (fun a _ _ => e a (by omega)) (fun a _ _ => g a (by omega)), fun i hi => bo_congr (h5 i hi) (fun b _ _ => e b (by omega)) (fun b _ _ => g b (by omega)), fun i hi => ?_⟩
  · rw [e 165 (by omega)]
    exact h2
  · show po_at I' J' (223 + 5 * i) (fu_at S.nt c o i)
    by_cases x : i = c
    · rw [x, fu_self]
      exact ho
    · rw [fu_ne _ _ x]
      exact po_congr (h6 i hi) (fun b _ _ => e b (by omega)) (fun b _ _ => g b (by omega))
/-- a blob's slot is changed -/
theorem sv_setB (h : sv_at I J p W S) {s : Nat → Option (Int64 × List Nat)} {i : Nat} (hi : i < 10) {o : Option (Int64 × List Nat)} {B : Int64 → Option (List Nat)} {nb : Nat} (hs : ∀ i, i < 10 → bo_at I J (170 + 3 * i) (s i)) (hm : bm_ok (fu_at s i o) B nb) (e : pm_fr I I' (170 + 3 * i) 3) (g : pm_fr J J' (170 + 3 * i) 3) (ho : bo_at I' J' (170 + 3 * i) o) : sv_at I' J' p W (S.setB B nb) := by
  obtain ⟨h1, h2, h3, h4, h5, h6⟩ := h
  refine ⟨wy_fr h1 e (by omega), ?_, ⟨fu_at s i o, fun j hj => ?_, hm⟩, sv_rs_congr h4 (fun a _ _ => e a (by omega)) (fun a _ _ => g a (by omega)), fun i hi => bo_congr (h5 i hi) (fun b _ _ => e b (by omega)) (fun b _ _ => g b (by omega)), fun i hi => po_congr (h6 i hi) (fun b _ _ => e b (by omega)) (fun b _ _ => g b (by omega))⟩
  · rw [e 165 (by omega)]
    exact h2
  · by_cases x : j = i
    · rw [x, fu_self]
      exact ho
    · rw [fu_ne _ _ x]
      exact bo_congr (hs j hj) (fun b _ _ => e b (by omega)) (fun b _ _ => g b (by omega))
theorem sv_setR (h : sv_at I J p W S) {s : Nat → Option (Int64 × List Int64)} {i : Nat} (hi : i < 10) {o : Option (Int64 × List Int64)} {B : Int64 → Option (List Int64)} {nb : Nat} (hs : ∀ i, i < 10 → po_at I J (200 + 2 * i) (s i)) (hm : bm_ok (fu_at s i o) B nb) (e : pm_fr I I' (200 + 2 * i) 2) (g : pm_fr J J' (200 + 2 * i) 2) (ho : po_at I' J' (200 + 2 * i) o) : sv_at I' J' p W (S.setR B nb) := by
  obtain ⟨h1, h2, h3, h4, h5, h6⟩ := h
  refine ⟨wy_fr h1 e (by omega), ?_, sv_bl_congr h3 (fun a _ _ => e a (by omega)) (fun a _ _ => g a (by omega)), ⟨fu_at s i o, fun j hj => ?_, hm⟩, fun i hi => bo_congr (h5 i hi) (fun b _ _ => e b (by omega)) (fun b _ _ => g b (by omega)), fun i hi => po_congr (h6 i hi) (fun b _ _ => e b (by omega)) (fun b _ _ => g b (by omega))⟩
  · rw [e 165 (by omega)]
    exact h2
  · by_cases x : j = i
    · rw [x, fu_self]
      exact ho
    · rw [fu_ne _ _ x]
      exact po_congr (hs j hj) (fun b _ _ => e b (by omega)) (fun b _ _ => g b (by omega))
/-! slots are searched -/
theorem sv_blobLoop (L : sl_ok K) {s : Nat → Option (Int64 × List Nat)} (hs : ∀ i, i < 10 → bo_at I J (170 + 3 * i) (s i)) (v : Int64) (d : Nat) : ∀ n i, i + n = 10 → l_X6_blobOf_2 d 165 v (nI i) (K, I, J) = some ((0, 0, (bs_find s v n i).map (fun i => 170 + 3 * i)), (K, I, J)) := by
  obtain ⟨l0, l1, l2, l3, l4, l5, l6, l7, l8, l9, l10, l11, l12, l13, l14⟩ := L
  intro n
  induction n with
  | zero =>
    intro i hi
    obtain rfl : i = 10 := by omega
    rw [e_l_X6_blobOf_2]
    simp (disch := first | assumption | omega) only [pm_gI, pm_gJ, pm_gR, pm_pI, pm_pZ, pm_pJ, pm_ldI, pm_ldJ, pm_ldR, pm_stI, pm_stZ, pm_stJ, pm_pZ0, pm_pZ1, pm_stZ0, pm_stZ1, pm_len, pm_cpyI, pm_cpyJ, pm_is, Option.bind_some, pm_u, pm_ur, pm_lt, pm_le, pm_eq, pm_ne, pm_add, pm_sub, pm_z0, pm_z1, cond_true, cond_false, decide_true, decide_false, not_false_eq_true, not_true_eq_false, reduceIte, Nat.reduceEqDiff, Nat.add_eq_left, Nat.left_eq_add, Nat.add_left_cancel_iff, Nat.one_ne_zero, am_cs, Nat.le_refl]
    rfl
  | succ n ih =>
    intro i hi
    have c0 : ¬ 10 ≤ i := by omega
    have m1 := (l11 i (by omega)).1
    have m0 := (l11 i (by omega)).2.1
    have hi' := hs i (by omega)
    rw [e_l_X6_blobOf_2]
    unfold bs_find
    cases c : s i with
    | none =>
      rw [c] at hi'
      have hi' : I (170 + 3 * i) 2 = nI 0 := hi'
      simp (disch := first | assumption | omega) only [pm_gI, pm_gJ, pm_gR, pm_pI, pm_pZ, pm_pJ, pm_ldI, pm_ldJ, pm_ldR, pm_stI, pm_stZ, pm_stJ, pm_pZ0, pm_pZ1, pm_stZ0, pm_stZ1, pm_len, pm_cpyI, pm_cpyJ, pm_is, Option.bind_some, pm_u, pm_ur, pm_lt, pm_le, pm_eq, pm_ne, pm_add, pm_sub, pm_z0, pm_z1, cond_true, cond_false, decide_true, decide_false, not_false_eq_true, not_true_eq_false, reduceIte, Nat.reduceEqDiff, Nat.add_eq_left, Nat.left_eq_add, Nat.add_left_cancel_iff, Nat.one_ne_zero, am_cs, c0, hi']
      exact ih (i + 1) (by omega)
    | some x =>
      rw [c] at hi'
      obtain ⟨h1, h2, h3⟩ := hi'
      by_cases c2 : x.1 = v
      · simp (disch := first | assumption | omega) only [pm_gI, pm_gJ, pm_gR, pm_pI, pm_pZ, pm_pJ, pm_ldI, pm_ldJ, pm_ldR, pm_stI, pm_stZ, pm_stJ, pm_pZ0, pm_pZ1, pm_stZ0, pm_stZ1, pm_len, pm_cpyI, pm_cpyJ, pm_is, Option.bind_some, pm_u, pm_ur, pm_lt, pm_le, pm_eq, pm_ne, pm_add, pm_sub, pm_z0, pm_z1, cond_true, cond_false, decide_true, decide_false, not_false_eq_true, not_true_eq_false, reduceIte, Nat.reduceEqDiff, Nat.add_eq_left, Nat.left_eq_add, Nat.add_left_cancel_iff, Nat.one_ne_zero, am_cs, c0, h1, h2, px_cmp, decide_not, c2]
        rfl
      · simp (disch := first | assumption | omega) only [pm_gI, pm_gJ, pm_gR, pm_pI, pm_pZ, pm_pJ, pm_ldI, pm_ldJ, pm_ldR, pm_stI, pm_stZ, pm_stJ, pm_pZ0, pm_pZ1, pm_stZ0, pm_stZ1, pm_len, pm_cpyI, pm_cpyJ, pm_is, Option.bind_some, pm_u, pm_ur, pm_lt, pm_le, pm_eq, pm_ne, pm_add, pm_sub, pm_z0, pm_z1, cond_true, cond_false, decide_true, decide_false, not_false_eq_true, not_true_eq_false, reduceIte, Nat.reduceEqDiff, Nat.add_eq_left, Nat.left_eq_add, Nat.add_left_cancel_iff, Nat.one_ne_zero, am_cs, c0, h1, h2, px_cmp, decide_not, c2]
        exact ih (i + 1) (by omega)
theorem sv_blobOf (L : sl_ok K) {s : Nat → Option (Int64 × List Nat)} (hs : ∀ i, i < 10 → bo_at I J (170 + 3 * i) (s i)) (v : Int64) (d : Nat) : f_X6_blobOf d 165 v (K, I, J) = some ((0, 0, (bs_find s v 10 0).map (fun i => 170 + 3 * i)), (K, I, J)) := by
  rw [e_X6_blobOf]
  exact sv_blobLoop L hs v d 10 0 rfl
theorem sv_freeBlobLoop (L : sl_ok K) {s : Nat → Option (Int64 × List Nat)} (hs : ∀ i, i < 10 → bo_at I J (170 + 3 * i) (s i)) (d : Nat) : ∀ n i, i + n = 10 → l_X6_freeBlob_2 d 165 (nI i) (K, I, J) = some ((0, 0, (bs_free s n i).map (fun i => 170 + 3 * i)), (K, I, J)) := by
  obtain ⟨l0, l1, l2, l3, l4, l5, l6, l7, l8, l9, l10, l11, l12, l13, l14⟩ := L
  intro n
  induction n with
  | zero =>
    intro i hi
    obtain rfl : i = 10 := by omega
    rw [e_l_X6_freeBlob_2]
    simp (disch := first | assumption | omega) only [pm_gI, pm_gJ, pm_gR, pm_pI, pm_pZ, pm_pJ, pm_ldI, pm_ldJ, pm_ldR, pm_stI, pm_stZ, pm_stJ, pm_pZ0, pm_pZ1, pm_stZ0, pm_stZ1, pm_len, pm_cpyI, pm_cpyJ, pm_is, Option.bind_some, pm_u, pm_ur, pm_lt, pm_le, pm_eq, pm_ne, pm_add, pm_sub, pm_z0, pm_z1, cond_true, cond_false, decide_true, decide_false, not_false_eq_true, not_true_eq_false, reduceIte, Nat.reduceEqDiff, Nat.add_eq_left, Nat.left_eq_add, Nat.add_left_cancel_iff, Nat.one_ne_zero, am_cs, Nat.le_refl]
    rfl
  | succ n ih =>
    intro i hi
    have c0 : ¬ 10 ≤ i := by omega
    have m1 := (l11 i (by omega)).1
    have m0 := (l11 i (by omega)).2.1
    have hi' := hs i (by omega)
    rw [e_l_X6_freeBlob_2]
    unfold bs_free
    cases c : s i with
    | none =>
      rw [c] at hi'
      have hi' : I (170 + 3 * i) 2 = nI 0 := hi'
      simp (disch := first | assumption | omega) only [pm_gI, pm_gJ, pm_gR, pm_pI, pm_pZ, pm_pJ, pm_ldI, pm_ldJ, pm_ldR, pm_stI, pm_stZ, pm_stJ, pm_pZ0, pm_pZ1, pm_stZ0, pm_stZ1, pm_len, pm_cpyI, pm_cpyJ, pm_is, Option.bind_some, pm_u, pm_ur, pm_lt, pm_le, pm_eq, pm_ne, pm_add, pm_sub, pm_z0, pm_z1, cond_true, cond_false, decide_true, decide_false, not_false_eq_true, not_true_eq_false, reduceIte, Nat.reduceEqDiff, Nat.add_eq_left, Nat.left_eq_add, Nat.add_left_cancel_iff, Nat.one_ne_zero, am_cs, c0, hi']
      rfl
    | some x =>
      rw [c] at hi'
      obtain ⟨h1, h2, h3⟩ := hi'
      simp (disch := first | assumption | omega) only [pm_gI, pm_gJ, pm_gR, pm_pI, pm_pZ, pm_pJ, pm_ldI, pm_ldJ, pm_ldR, pm_stI, pm_stZ, pm_stJ, pm_pZ0, pm_pZ1, pm_stZ0, pm_stZ1, pm_len, pm_cpyI, pm_cpyJ, pm_is, Option.bind_some, pm_u, pm_ur, pm_lt, pm_le, pm_eq, pm_ne, pm_add, pm_sub, pm_z0, pm_z1, cond_true, cond_false, decide_true, decide_false, not_false_eq_true, not_true_eq_false, reduceIte, Nat.reduceEqDiff, Nat.add_eq_left, Nat.left_eq_add, Nat.add_left_cancel_iff, Nat.one_ne_zero, am_cs, c0, h1]
      exact ih (i + 1) (by omega)
theorem sv_freeBlob (L : sl_ok K) {s : Nat → Option (Int64 × List Nat)} (hs : ∀ i, i < 10 → bo_at I J (170 + 3 * i) (s i)) (d : Nat) : f_X6_freeBlob d 165 (K, I, J) = some ((0, 0, (bs_free s 10 0).map (fun i => 170 + 3 * i)), (K, I, J)) := by
  rw [e_X6_freeBlob]
  exact sv_freeBlobLoop L hs d 10 0 rfl
theorem sv_resultLoop (L : sl_ok K) {s : Nat → Option (Int64 × List Int64)} (hs : ∀ i, i < 10 → po_at I J (200 + 2 * i) (s i)) (v : Int64) (d : Nat) : ∀ n i, i + n = 10 → l_X6_resultOf_2 d 165 v (nI i) (K, I, J) = some ((0, 0, (bs_find s v n i).map (fun i => 200 + 2 * i)), (K, I, J)) := by
  obtain ⟨l0, l1, l2, l3, l4, l5, l6, l7, l8, l9, l10, l11, l12, l13, l14⟩ := L
  intro n
  induction n with
  | zero =>
    intro i hi
    obtain rfl : i = 10 := by omega
    rw [e_l_X6_resultOf_2]
    simp (disch := first | assumption | omega) only [pm_gI, pm_gJ, pm_gR, pm_pI, pm_pZ, pm_pJ, pm_ldI, pm_ldJ, pm_ldR, pm_stI, pm_stZ, pm_stJ, pm_pZ0, pm_pZ1, pm_stZ0, pm_stZ1, pm_len, pm_cpyI, pm_cpyJ, pm_is, Option.bind_some, pm_u, pm_ur, pm_lt, pm_le, pm_eq, pm_ne, pm_add, pm_sub, pm_z0, pm_z1, cond_true, cond_false, decide_true, decide_false, not_false_eq_true, not_true_eq_false, reduceIte, Nat.reduceEqDiff, Nat.add_eq_left, Nat.left_eq_add, Nat.add_left_cancel_iff, Nat.one_ne_zero, am_cs, Nat.le_refl]
    rfl
  | succ n ih =>
    intro i hi
    have c0 : ¬ 10 ≤ i := by omega
    have m1 := (l12 i (by omega)).1
    have m0 := (l12 i (by omega)).2.1
    have hi' := hs i (by omega)
    rw [e_l_X6_resultOf_2]
    unfold bs_find
    cases c : s i with
    | none =>
      rw [c] at hi'
      have hi' : I (200 + 2 * i) 3 = nI 0 := hi'
      simp (disch := first | assumption | omega) only [pm_gI, pm_gJ, pm_gR, pm_pI, pm_pZ, pm_pJ, pm_ldI, pm_ldJ, pm_ldR, pm_stI, pm_stZ, pm_stJ, pm_pZ0, pm_pZ1, pm_stZ0, pm_stZ1, pm_len, pm_cpyI, pm_cpyJ, pm_is, Option.bind_some, pm_u, pm_ur, pm_lt, pm_le, pm_eq, pm_ne, pm_add, pm_sub, pm_z0, pm_z1, cond_true, cond_false, decide_true, decide_false, not_false_eq_true, not_true_eq_false, reduceIte, Nat.reduceEqDiff, Nat.add_eq_left, Nat.left_eq_add, Nat.add_left_cancel_iff, Nat.one_ne_zero, am_cs, c0, hi']
      exact ih (i + 1) (by omega)
    | some x =>
      rw [c] at hi'
      obtain ⟨h1, h2, h3⟩ := hi'
      by_cases c2 : x.1 = v
      · simp (disch := first | assumption | omega) only [pm_gI, pm_gJ, pm_gR, pm_pI, pm_pZ, pm_pJ, pm_ldI, pm_ldJ, pm_ldR, pm_stI, pm_stZ, pm_stJ, pm_pZ0, pm_pZ1, pm_stZ0, pm_stZ1, pm_len, pm_cpyI, pm_cpyJ, pm_is, Option.bind_some, pm_u, pm_ur, pm_lt, pm_le, pm_eq, pm_ne, pm_add, pm_sub, pm_z0, pm_z1, cond_true, cond_false, decide_true, decide_false, not_false_eq_true, not_true_eq_false, reduceIte, Nat.reduceEqDiff, Nat.add_eq_left, Nat.left_eq_add, Nat.add_left_cancel_iff, Nat.one_ne_zero, am_cs, c0, h1, h2, px_cmp, decide_not, c2]
        rfl
      · simp (disch := first | assumption | omega) only [pm_gI, pm_gJ, pm_gR, pm_pI, pm_pZ, pm_pJ, pm_ldI, pm_ldJ, pm_ldR, pm_stI, pm_stZ, pm_stJ, pm_pZ0, pm_pZ1, pm_stZ0, pm_stZ1, pm_len, pm_cpyI, pm_cpyJ, pm_is, Option.bind_some, pm_u, pm_ur, pm_lt, pm_le, pm_eq, pm_ne, pm_add, pm_sub, pm_z0, pm_z1, cond_true, cond_false, decide_true, decide_false, not_false_eq_true, not_true_eq_false, reduceIte, Nat.reduceEqDiff, Nat.add_eq_left, Nat.left_eq_add, Nat.add_left_cancel_iff, Nat.one_ne_zero, am_cs, c0, h1, h2, px_cmp, decide_not, c2]
        exact ih (i + 1) (by omega)
theorem sv_resultOf (L : sl_ok K) {s : Nat → Option (Int64 × List Int64)} (hs : ∀ i, i < 10 → po_at I J (200 + 2 * i) (s i)) (v : Int64) (d : Nat) : f_X6_resultOf d 165 v (K, I, J) = some ((0, 0, (bs_find s v 10 0).map (fun i => 200 + 2 * i)), (K, I, J)) := by
  rw [e_X6_resultOf]
  exact sv_resultLoop L hs v d 10 0 rfl
theorem sv_freeResultLoop (L : sl_ok K) {s : Nat → Option (Int64 × List Int64)} (hs : ∀ i, i < 10 → po_at I J (200 + 2 * i) (s i)) (d : Nat) : ∀ n i, i + n = 10 → l_X6_freeResult_2 d 165 (nI i) (K, I, J) = some ((0, 0, (bs_free s n i).map (fun i => 200 + 2 * i)), (K, I, J)) := by
  obtain ⟨l0, l1, l2, l3, l4, l5, l6, l7, l8, l9, l10, l11, l12, l13, l14⟩ := L
  intro n
  induction n with
  | zero =>
    intro i hi
    obtain rfl : i = 10 := by omega
    rw [e_l_X6_freeResult_2]
    simp (disch := first | assumption | omega) only [pm_gI, pm_gJ, pm_gR, pm_pI, pm_pZ, pm_pJ, pm_ldI, pm_ldJ, pm_ldR, pm_stI, pm_stZ, pm_stJ, pm_pZ0, pm_pZ1, pm_stZ0, pm_stZ1, pm_len, pm_cpyI, pm_cpyJ, pm_is, Option.bind_some, pm_u, pm_ur, pm_lt, pm_le, pm_eq, pm_ne, pm_add, pm_sub, pm_z0, pm_z1, cond_true, cond_false, decide_true, decide_false, not_false_eq_true, not_true_eq_false, reduceIte, Nat.reduceEqDiff, Nat.add_eq_left, Nat.left_eq_add, Nat.add_left_cancel_iff, Nat.one_ne_zero, am_cs, Nat.le_refl]
    rfl
  | succ n ih =>
    intro i hi
    have c0 : ¬ 10 ≤ i := by omega
    have m1 := (l12 i (by omega)).1
    have m0 := (l12 i (by omega)).2.1
    have hi' := hs i (by omega)
    rw [e_l_X6_freeResult_2]
    unfold bs_free
    cases c : s i with
    | none =>
      rw [c] at hi'
      have hi' : I (200 + 2 * i) 3 = nI 0 := hi'
      simp (disch := first | assumption | omega) only [pm_gI, pm_gJ, pm_gR, pm_pI, pm_pZ, pm_pJ, pm_ldI, pm_ldJ, pm_ldR, pm_stI, pm_stZ, pm_stJ, pm_pZ0, pm_pZ1, pm_stZ0, pm_stZ1, pm_len, pm_cpyI, pm_cpyJ, pm_is, Option.bind_some, pm_u, pm_ur, pm_lt, pm_le, pm_eq, pm_ne, pm_add, pm_sub, pm_z0, pm_z1, cond_true, cond_false, decide_true, decide_false, not_false_eq_true, not_true_eq_false, reduceIte, Nat.reduceEqDiff, Nat.add_eq_left, Nat.left_eq_add, Nat.add_left_cancel_iff, Nat.one_ne_zero, am_cs, c0, hi']
      rfl
    | some x =>
      rw [c] at hi'
      obtain ⟨h1, h2, h3⟩ := hi'
      simp (disch := first | assumption | omega) only [pm_gI, pm_gJ, pm_gR, pm_pI, pm_pZ, pm_pJ, pm_ldI, pm_ldJ, pm_ldR, pm_stI, pm_stZ, pm_stJ, pm_pZ0, pm_pZ1, pm_stZ0, pm_stZ1, pm_len, pm_cpyI, pm_cpyJ, pm_is, Option.bind_some, pm_u, pm_ur, pm_lt, pm_le, pm_eq, pm_ne, pm_add, pm_sub, pm_z0, pm_z1, cond_true, cond_false, decide_true, decide_false, not_false_eq_true, not_true_eq_false, reduceIte, Nat.reduceEqDiff, Nat.add_eq_left, Nat.left_eq_add, Nat.add_left_cancel_iff, Nat.one_ne_zero, am_cs, c0, h1]
      exact ih (i + 1) (by omega)
theorem sv_freeResult (L : sl_ok K) {s : Nat → Option (Int64 × List Int64)} (hs : ∀ i, i < 10 → po_at I J (200 + 2 * i) (s i)) (d : Nat) : f_X6_freeResult d 165 (K, I, J) = some ((0, 0, (bs_free s 10 0).map (fun i => 200 + 2 * i)), (K, I, J)) := by
  rw [e_X6_freeResult]
  exact sv_freeResultLoop L hs d 10 0 rfl
theorem bm_n_succ {α : Type} (s : Nat → Option (Int64 × α)) (n : Nat) : bm_n s (n + 1) = bm_n s n + (match s n with | none => 0 | some _ => 1) := rfl
theorem sv_blobCountLoop (L : sl_ok K) {s : Nat → Option (Int64 × List Nat)} (hs : ∀ i, i < 10 → bo_at I J (170 + 3 * i) (s i)) (d : Nat) : ∀ n i, i + n = 10 → l_X6_blobCount_4 d 165 (nI (bm_n s i)) (nI i) (K, I, J) = some ((nI (bm_n s 10), 0, none), (K, I, J)) := by
  obtain ⟨l0, l1, l2, l3, l4, l5, l6, l7, l8, l9, l10, l11, l12, l13, l14⟩ := L
  intro n
  induction n with
  | zero =>
    intro i hi
    obtain rfl : i = 10 := by omega
    rw [e_l_X6_blobCount_4]
    simp (disch := first | assumption | omega) only [pm_gI, pm_gJ, pm_gR, pm_pI, pm_pZ, pm_pJ, pm_ldI, pm_ldJ, pm_ldR, pm_stI, pm_stZ, pm_stJ, pm_pZ0, pm_pZ1, pm_stZ0, pm_stZ1, pm_len, pm_cpyI, pm_cpyJ, pm_is, Option.bind_some, pm_u, pm_ur, pm_lt, pm_le, pm_eq, pm_ne, pm_add, pm_sub, pm_z0, pm_z1, cond_true, cond_false, decide_true, decide_false, not_false_eq_true, not_true_eq_false, reduceIte, Nat.reduceEqDiff, Nat.add_eq_left, Nat.left_eq_add, Nat.add_left_cancel_iff, Nat.one_ne_zero, am_cs, Nat.le_refl]
  | succ n ih =>
    intro i hi
    have c0 : ¬ 10 ≤ i := by omega
    have m1 := (l11 i (by omega)).1
    have m0 := (l11 i (by omega)).2.1
    have hi' := hs i (by omega)
    have hn := ih (i + 1) (by omega)
    rw [bm_n_succ] at hn
    rw [e_l_X6_blobCount_4]
    cases c : s i with
    | none =>
      rw [c] at hi' hn
      have hi' : I (170 + 3 * i) 2 = nI 0 := hi'
      simp (disch := first | assumption | omega) only [pm_gI, pm_gJ, pm_gR, pm_pI, pm_pZ, pm_pJ, pm_ldI, pm_ldJ, pm_ldR, pm_stI, pm_stZ, pm_stJ, pm_pZ0, pm_pZ1, pm_stZ0, pm_stZ1, pm_len, pm_cpyI, pm_cpyJ, pm_is, Option.bind_some, pm_u, pm_ur, pm_lt, pm_le, pm_eq, pm_ne, pm_add, pm_sub, pm_z0, pm_z1, cond_true, cond_false, decide_true, decide_false, not_false_eq_true, not_true_eq_false, reduceIte, Nat.reduceEqDiff, Nat.add_eq_left, Nat.left_eq_add, Nat.add_left_cancel_iff, Nat.one_ne_zero, am_cs, c0, hi']
      exact hn
    | some x =>
      rw [c] at hi' hn
      obtain ⟨h1, h2, h3⟩ := hi'
      simp (disch := first | assumption | omega) only [pm_gI, pm_gJ, pm_gR, pm_pI, pm_pZ, pm_pJ, pm_ldI, pm_ldJ, pm_ldR, pm_stI, pm_stZ, pm_stJ, pm_pZ0, pm_pZ1, pm_stZ0, pm_stZ1, pm_len, pm_cpyI, pm_cpyJ, pm_is, Option.bind_some, pm_u, pm_ur, pm_lt, pm_le, pm_eq, pm_ne, pm_add, pm_sub, pm_z0, pm_z1, cond_true, cond_false, decide_true, decide_false, not_false_eq_true, not_true_eq_false, reduceIte, Nat.reduceEqDiff, Nat.add_eq_left, Nat.left_eq_add, Nat.add_left_cancel_iff, Nat.one_ne_zero, am_cs, c0, h1]
      exact hn
theorem sv_resultCountLoop (L : sl_ok K) {s : Nat → Option (Int64 × List Int64)} (hs : ∀ i, i < 10 → po_at I J (200 + 2 * i) (s i)) (d : Nat) : ∀ n i, i + n = 10 → l_X6_resultCount_4 d 165 (nI (bm_n s i)) (nI i) (K, I, J) = some ((nI (bm_n s 10), 0, none), (K, I, J)) := by
  obtain ⟨l0, l1, l2, l3, l4, l5, l6, l7, l8, l9, l10, l11, l12, l13, l14⟩ := L
  intro n
  induction n with
  | zero =>
    intro i hi
    obtain rfl : i = 10 := by omega
    rw [e_l_X6_resultCount_4]
    simp (disch := first | assumption | omega) only [pm_gI, pm_gJ, pm_gR, pm_pI, pm_pZ, pm_pJ, pm_ldI, pm_ldJ, pm_ldR, pm_stI, pm_stZ, pm_stJ, pm_pZ0, pm_pZ1, pm_stZ0, pm_stZ1, pm_len, pm_cpyI, pm_cpyJ, pm_is, Option.bind_some, pm_u, pm_ur, pm_lt, pm_le, pm_eq, pm_ne, pm_add, pm_sub, pm_z0, pm_z1, cond_true, cond_false, decide_true, decide_false, not_false_eq_true, not_true_eq_false, reduceIte, Nat.reduceEqDiff, Nat.add_eq_left, Nat.left_eq_add, Nat.add_left_cancel_iff, Nat.one_ne_zero, am_cs, Nat.le_refl]
  | succ n ih =>
    intro i hi
    have c0 : ¬ 10 ≤ i := by omega
    have m1 := (l12 i (by omega)).1
    have m0 := (l12 i (by omega)).2.1
    have hi' := hs i (by omega)
    have hn := ih (i + 1) (by omega)
    rw [bm_n_succ] at hn
    rw [e_l_X6_resultCount_4]
    cases c : s i with
    | none =>
      rw [c] at hi' hn
      have hi' : I (200 + 2 * i) 3 = nI 0 := hi'
      simp (disch := first | assumption | omega) only [pm_gI, pm_gJ, pm_gR, pm_pI, pm_pZ, pm_pJ, pm_ldI, pm_ldJ, pm_ldR, pm_stI, pm_stZ, pm_stJ, pm_pZ0, pm_pZ1, pm_stZ0, pm_stZ1, pm_len, pm_cpyI, pm_cpyJ, pm_is, Option.bind_some, pm_u, pm_ur, pm_lt, pm_le, pm_eq, pm_ne, pm_add, pm_sub, pm_z0, pm_z1, cond_true, cond_false, decide_true, decide_false, not_false_eq_true, not_true_eq_false, reduceIte, Nat.reduceEqDiff, Nat.add_eq_left, Nat.left_eq_add, Nat.add_left_cancel_iff, Nat.one_ne_zero, am_cs, c0, hi']
      exact hn
    | some x =>
      rw [c] at hi' hn
      obtain ⟨h1, h2, h3⟩ := hi'
      simp (disch := first | assumption | omega) only [pm_gI, pm_gJ, pm_gR, pm_pI, pm_pZ, pm_pJ, pm_ldI, pm_ldJ, pm_ldR, pm_stI, pm_stZ, pm_stJ, pm_pZ0, pm_pZ1, pm_stZ0, pm_stZ1, pm_len, pm_cpyI, pm_cpyJ, pm_is, Option.bind_some, pm_u, pm_ur, pm_lt, pm_le, pm_eq, pm_ne, pm_add, pm_sub, pm_z0, pm_z1, cond_true, cond_false, decide_true, decide_false, not_false_eq_true, not_true_eq_false, reduceIte, Nat.reduceEqDiff, Nat.add_eq_left, Nat.left_eq_add, Nat.add_left_cancel_iff, Nat.one_ne_zero, am_cs, c0, h1]
      exact hn
theorem sv_blobCount (L : sl_ok K) (h : sv_at I J p W S) (d : Nat) : f_X6_blobCount d 165 (K, I, J) = some ((nI S.nb, 0, none), (K, I, J)) := by
  obtain ⟨s, h1, h2⟩ := h.2.2.1
  rw [e_X6_blobCount, ← h2.2.2.2]
  exact sv_blobCountLoop L h1 d 10 0 rfl
theorem sv_resultCount (L : sl_ok K) (h : sv_at I J p W S) (d : Nat) : f_X6_resultCount d 165 (K, I, J) = some ((nI S.nr, 0, none), (K, I, J)) := by
  obtain ⟨s, h1, h2⟩ := h.2.2.2.1
  rw [e_X6_resultCount, ← h2.2.2.2]
  exact sv_resultCountLoop L h1 d 10 0 rfl
end SRV
