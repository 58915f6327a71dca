/-! READS AND WRITES of the abstract machine are followed by the machine's own -/
theorem am_ldI_some {σ : am_H} {k t : Nat} {j x : Int32} (h : am_ldI σ k t j = some x) : am_sh σ k = (t, (am_sh σ k).2) ∧ vp_in j (am_sh σ k).2 ∧ am_I σ k j.toNatClampNeg = x := by
  unfold am_ldI at h
  cases e : am_ar σ k t with
  | false => rw [e] at h; cases h
  | true =>
    rw [e] at h
    have h : (am_ix j (am_sh σ k).2).map (fun j => am_I σ k j) = some x := h
    cases e2 : am_ix j (am_sh σ k).2 with
    | none => rw [e2] at h; cases h
    | some q =>
      rw [e2] at h
      obtain ⟨h1, h2⟩ := am_ix_some e2
      exact ⟨am_ar_sh e, h1, by rw [h2]; exact Option.some.inj h⟩
theorem am_ldJ_some {σ : am_H} {k : Nat} {j : Int32} {x : Int64} (h : am_ldJ σ k j = some x) : am_sh σ k = (2, (am_sh σ k).2) ∧ vp_in j (am_sh σ k).2 ∧ am_J σ k j.toNatClampNeg = x := by
  unfold am_ldJ at h
  cases e : am_ar σ k 2 with
  | false => rw [e] at h; cases h
  | true =>
    rw [e] at h
    have h : (am_ix j (am_sh σ k).2).map (fun j => am_J σ k j) = some x := h
    cases e2 : am_ix j (am_sh σ k).2 with
    | none => rw [e2] at h; cases h
    | some q =>
      rw [e2] at h
      obtain ⟨h1, h2⟩ := am_ix_some e2
      exact ⟨am_ar_sh e, h1, by rw [h2]; exact Option.some.inj h⟩
theorem am_ldR_some {σ : am_H} {k ci : Nat} {j : Int32} {x : Nat} (h : am_ldR σ k ci j = some x) : am_sh σ k = (4 + ci, (am_sh σ k).2) ∧ vp_in j (am_sh σ k).2 ∧ am_R σ k j.toNatClampNeg = some x := by
  unfold am_ldR at h
  cases e : am_ar σ k (4 + ci) with
  | false => rw [e] at h; cases h
  | true =>
    rw [e] at h
    have h : (am_ix j (am_sh σ k).2).bind (fun j => am_R σ k j) = some x := h
    cases e2 : am_ix j (am_sh σ k).2 with
    | none => rw [e2] at h; cases h
    | some q =>
      rw [e2] at h
      obtain ⟨h1, h2⟩ := am_ix_some e2
      exact ⟨am_ar_sh e, h1, by rw [h2]; exact h⟩
theorem am_ldS_some {σ : am_H} {j x : Int32} (h : am_ldS σ j = some x) : vp_in j (am_sl σ) ∧ am_sx σ j.toNatClampNeg = x := by
  unfold am_ldS at h
  cases e2 : am_ix j (am_sl σ) with
  | none => rw [e2] at h; cases h
  | some q =>
    rw [e2] at h
    obtain ⟨h1, h2⟩ := am_ix_some e2
    exact ⟨h1, by rw [h2]; exact Option.some.inj h⟩
theorem am_stM {o : Option Nat} {f : Nat → am_H} {i : Int32} {n : Nat} {τ : am_H} (e : o = am_ix i n) (h : o.map f = some τ) : vp_in i n ∧ τ = f i.toNatClampNeg := by
  cases e2 : am_ix i n with
  | none => rw [e, e2] at h; cases h
  | some q =>
    rw [e, e2] at h
    obtain ⟨h1, h2⟩ := am_ix_some e2
    exact ⟨h1, by rw [h2]; exact (Option.some.inj h).symm⟩
theorem am_stI_some {σ τ : am_H} {k : Nat} {i v : Int32} (h : am_stI σ k i v = some τ) : am_sh σ k = (1, (am_sh σ k).2) ∧ vp_in i (am_sh σ k).2 ∧ τ = am_wI σ k i.toNatClampNeg v := by
  unfold am_stI at h
  cases e : am_ar σ k 1 with
  | false => rw [e] at h; cases h
  | true => rw [e] at h; exact ⟨am_ar_sh e, am_stM rfl h⟩
theorem am_stZ_some {σ τ : am_H} {k : Nat} {i v : Int32} (h : am_stZ σ k i v = some τ) : am_zb v = true ∧ am_sh σ k = (3, (am_sh σ k).2) ∧ vp_in i (am_sh σ k).2 ∧ τ = am_wI σ k i.toNatClampNeg v := by
  unfold am_stZ at h
  cases e : am_ar σ k 3 && am_zb v with
  | false => rw [e] at h; cases h
  | true =>
    rw [e] at h
    rw [Bool.and_eq_true] at e
    exact ⟨e.2, am_ar_sh e.1, am_stM rfl h⟩
theorem am_stJ_some {σ τ : am_H} {k : Nat} {i : Int32} {v : Int64} (h : am_stJ σ k i v = some τ) : am_sh σ k = (2, (am_sh σ k).2) ∧ vp_in i (am_sh σ k).2 ∧ τ = am_wJ σ k i.toNatClampNeg v := by
  unfold am_stJ at h
  cases e : am_ar σ k 2 with
  | false => rw [e] at h; cases h
  | true => rw [e] at h; exact ⟨am_ar_sh e, am_stM rfl h⟩
theorem am_stR_some {σ τ : am_H} {k ci x : Nat} {i : Int32} (h : am_stR σ k ci i x = some τ) : am_is σ x ci = true ∧ am_sh σ k = (4 + ci, (am_sh σ k).2) ∧ vp_in i (am_sh σ k).2 ∧ τ = am_wR σ k i.toNatClampNeg (some x) := by
  unfold am_stR at h
  cases e : am_ar σ k (4 + ci) && am_is σ x ci with
  | false => rw [e] at h; cases h
  | true =>
    rw [e] at h
    rw [Bool.and_eq_true] at e
    exact ⟨e.2, am_ar_sh e.1, am_stM rfl h⟩
theorem am_bif {α : Type} {g : Bool} {x : α} {o : Option α} {z : α} (h : (bif g then some x else none) = some z) : g = true ∧ x = z := by
  cases g with
  | false => cases h
  | true => exact ⟨rfl, Option.some.inj h⟩
-- the worlds behind a write
theorem am_upd_eq {f : Nat → Nat → Int32} {k j : Nat} {v : Int32} : am_u f k j v k = upd (f k) j v := by
  funext q; simp [am_u, upd]
theorem am_updL_eq {f : Nat → Nat → Int64} {k j : Nat} {v : Int64} : am_u f k j v k = vp_updL (f k) j v := by
  funext q; simp [am_u, vp_updL]
theorem am_ws_wI1 {ac : Nat → ClassId} {B : Nat} {σ : am_H} {k n j : Nat} {v : Int32} (hk : k < am_n σ) (h : am_sh σ k = (1, n)) : (am_ws ac B σ).set k (B + k, .inl (ac 1, n, .inl (upd (am_I σ k) j v))) = am_ws ac B (am_wI σ k j v) :=
  am_ws_set rfl hk (by rw [am_e1 (show am_sh (am_wI σ k j v) k = (1, n) from h)]; show _ = Sum.inl (ac 1, n, Sum.inl _); rw [← am_upd_eq]; rfl) (fun q hq => am_e_congr rfl (am_u_ne _ _ hq) rfl rfl)
theorem am_ws_wI3 {ac : Nat → ClassId} {B : Nat} {σ : am_H} {k n j : Nat} {v : Int32} (hk : k < am_n σ) (h : am_sh σ k = (3, n)) : (am_ws ac B σ).set k (B + k, .inl (ac 3, n, .inl (upd (am_I σ k) j v))) = am_ws ac B (am_wI σ k j v) :=
  am_ws_set rfl hk (by rw [am_e3 (show am_sh (am_wI σ k j v) k = (3, n) from h)]; show _ = Sum.inl (ac 3, n, Sum.inl _); rw [← am_upd_eq]; rfl) (fun q hq => am_e_congr rfl (am_u_ne _ _ hq) rfl rfl)
theorem am_ws_wJ2 {ac : Nat → ClassId} {B : Nat} {σ : am_H} {k n j : Nat} {v : Int64} (hk : k < am_n σ) (h : am_sh σ k = (2, n)) : (am_ws ac B σ).set k (B + k, .inl (ac 2, n, .inr (.inl (vp_updL (am_J σ k) j v)))) = am_ws ac B (am_wJ σ k j v) :=
  am_ws_set rfl hk (by rw [am_e2 (show am_sh (am_wJ σ k j v) k = (2, n) from h)]; show _ = Sum.inl (ac 2, n, Sum.inr (Sum.inl _)); rw [← am_updL_eq]; rfl) (fun q hq => am_e_congr rfl rfl (am_u_ne _ _ hq) rfl)
theorem am_ws_wR4 {ac : Nat → ClassId} {B : Nat} {σ : am_H} {k ci n j x : Nat} (hk : k < am_n σ) (h : am_sh σ k = (4 + ci, n)) : (am_ws ac B σ).set k (B + k, .inl (ac (4 + ci), n, .inr (.inr (.inr (.inr (va_up (fun j => (am_R σ k j).map (B + ·)) j (some (B + x)))))))) = am_ws ac B (am_wR σ k j (some x)) :=
  am_ws_set rfl hk (by
    rw [am_e4 (show am_sh (am_wR σ k j (some x)) k = (4 + ci, n) from h)]
    congr 7
    funext q
    show Option.map (B + ·) (am_u (am_R σ) k j (some x) k q) = _
    rw [am_u_self]
    by_cases hq : q = j
    · subst hq; simp [va_up]
    · simp [va_up, hq]) (fun q hq => am_e_congr rfl rfl rfl (am_u_ne _ _ hq))
theorem am_fs_set {f g : Nat → Value} {N j : Nat} {w : Value} (hj : j < N) (h1 : g j = w) (h2 : ∀ i, i ≠ j → g i = f i) : ((List.range N).map f).set j w = (List.range N).map g := by
  apply List.ext_getElem?
  intro i
  by_cases hi : i = j
  · subst hi
    rw [List.getElem?_set_self (by simpa using hj), List.getElem?_map, List.getElem?_range hj]
    simp [h1]
  · rw [List.getElem?_set_ne (Ne.symm hi), List.getElem?_map, List.getElem?_map]
    by_cases hl : i < N
    · rw [List.getElem?_range hl]; simp [h2 i hi]
    · rw [List.getElem?_eq_none (by simpa using hl)]; rfl
theorem am_ws_f {ac : Nat → ClassId} {B : Nat} {σ τ : am_H} {k ci j : Nat} {w : Value} (hk : k < am_n σ) (h : am_sh σ k = (0, ci)) (hj : j < am_N ci) (hn : am_n τ = am_n σ) (hs : am_sh τ = am_sh σ) (ho : ∀ q, q ≠ k → am_I τ q = am_I σ q ∧ am_J τ q = am_J σ q ∧ am_R τ q = am_R σ q) (h1 : am_fv B τ ci k j = w) (h2 : ∀ i, i ≠ j → am_fv B τ ci k i = am_fv B σ ci k i) : (am_ws ac B σ).set k (B + k, .inr (ci, ((List.range (am_N ci)).map (am_fv B σ ci k)).set j w)) = am_ws ac B τ :=
  am_ws_set hn hk (by rw [am_e0 (by rw [hs]; exact h), am_fs_set hj h1 h2]) (fun q hq => am_e_congr (by rw [hs]) (ho q hq).1 (ho q hq).2.1 (ho q hq).2.2)
-- the classes' words
set_option maxRecDepth 100000 in
theorem am_lyx_all : ∀ ci, ci < 10 → ∀ j, j < am_N ci → ∃ q ∈ am_lyx, q.1 = (ci, j) := by decide +kernel
theorem am_lay_in {ci : Nat} (hci : ci < 10) : ∀ w ∈ u_ws (am_Rn ci) (am_T ci) (am_N ci), w ∈ am_W := by
  intro w hw
  obtain ⟨j, hj, rfl⟩ := List.mem_map.mp hw
  obtain ⟨q, hq, he⟩ := am_lyx_all ci hci j (List.mem_range.mp hj)
  have := am_lyx_ok q hq
  rw [he] at this
  exact am_W_of this (by unfold u_lay; split <;> rfl)
theorem am_fl_in {o idx ci j : Nat} (h : am_has4 am_flx (o, idx, ci, j) = true) : Cond.fieldLink (am_own o) idx (am_T ci j).1 (am_T ci j).2.1 (am_T ci j).2.2.1 ∈ am_W := by
  obtain ⟨i, hi⟩ := am_has4_mem h
  exact am_W_of (am_flx_ok _ hi) rfl
set_option maxRecDepth 100000 in
theorem am_tyk : ∀ ci, ci < 10 → ∀ j, j < am_N ci → am_ty ci j = .int ∨ am_ty ci j = .boolean ∨ am_ty ci j = .long ∨ am_isR (am_ty ci j) = true := by decide +kernel
section AMH
variable {p : Program} {l : Launch} {e : Env} {R : Room} {s : State} {m : MethodId} {args : Array Value} {below : List Frame} {meth : Method} {c : Code} {Q : State → Prop} {D : va_G} {ac : Nat → ClassId} {B b y c0 s0 : Nat} {pc : Nat} {lv : am_lv} {st : List Value} {σ : am_H} {res : am_r × am_H} {call : Nat → List Value → am_H → am_X} {rec : Nat → am_lv → List Value → am_H → am_X}
theorem am_Wsz {H : Heap} {locs : List Loc} {cells slots : Nat} {g : JFrame} (h : s.heap.size ≤ H.size → H.size ≤ s.heap.size + cells → W p l e R s m args below meth c H locs cells slots Q g) : W p l e R s m args below meth c H locs cells slots Q g := by
  intro T hT X
  have z := X.same.2
  have e1 : (T.setVm s.vm).heap = H := hT
  rw [e1] at z
  exact h z.1 z.2.1 T hT X

theorem am_s_iaload (cx : am_cx p R s m args meth c B c0 y) (hok : am_okI y pc (.iaload) = true) (hG : am_G call rec pc σ (am_i (.iaload) (am_rt y) pc lv st σ) = some res) (hrec : ∀ q lv st τ, rec q lv st τ = some res → am_WW p l e R s m args below meth c Q D ac B b y c0 s0 q lv st τ) : am_WW p l e R s m args below meth c Q D ac B b y c0 s0 pc lv st σ := by
  rcases st with _ | ⟨v, _ | ⟨w, st⟩⟩
  · exact (am_no hG rfl).elim
  · cases v <;> exact (am_no hG rfl).elim
  cases v <;> cases w <;> try exact (am_no hG rfl).elim
  · rename_i j k
    obtain ⟨x, hx, hG⟩ := am_bindE (o := am_ldI σ k 1 j) hG
    obtain ⟨hsh, hin, rfl⟩ := am_ldI_some hx
    intro H locs ls kc ks hl hI hS ec es
    have hk := hI.2.2.2.1.lt hsh (by decide)
    have hw := am_ws_at (ac := ac) (B := B) hk
    rw [am_e1 hsh] at hw
    exact va_iald cx.1 cx.2.1 hI.1 hI.2.2.1 k 0 hw rfl hin (am_d_ok hok) (hrec _ _ _ _ hG H locs ls kc ks hl hI hS ec es)
  · rename_i j k
    obtain ⟨x, hx, hG⟩ := am_bindE (o := am_ldS σ j) hG
    obtain ⟨hin, rfl⟩ := am_ldS_some hx
    intro H locs ls kc ks hl hI hS ec es
    exact va_sld (A := fun q => B ≤ q) cx.1 cx.2.1 hI.2.2.2.2.2.1 (by have := cx.2.2.2.2.2.2.2.2; have := hI.2.2.2.2.2.2; omega) (Nat.not_le.mpr hI.2.2.2.2.2.2) hS hin (am_d_ok hok) (hrec _ _ _ _ hG H locs ls kc ks hl hI hS ec es)
theorem am_s_baload (cx : am_cx p R s m args meth c B c0 y) (hok : am_okI y pc (.baload) = true) (hG : am_G call rec pc σ (am_i (.baload) (am_rt y) pc lv st σ) = some res) (hrec : ∀ q lv st τ, rec q lv st τ = some res → am_WW p l e R s m args below meth c Q D ac B b y c0 s0 q lv st τ) : am_WW p l e R s m args below meth c Q D ac B b y c0 s0 pc lv st σ := by
  rcases st with _ | ⟨v, _ | ⟨w, st⟩⟩
  · exact (am_no hG rfl).elim
  · cases v <;> exact (am_no hG rfl).elim
  cases v <;> cases w <;> try exact (am_no hG rfl).elim
  rename_i j k
  obtain ⟨x, hx, hG⟩ := am_bindE (o := am_ldI σ k 3 j) hG
  obtain ⟨hsh, hin, rfl⟩ := am_ldI_some hx
  intro H locs ls kc ks hl hI hS ec es
  have hk := hI.2.2.2.1.lt hsh (by decide)
  have hw := am_ws_at (ac := ac) (B := B) hk
  rw [am_e3 hsh] at hw
  exact va_zald cx.1 cx.2.1 hI.1 hI.2.2.1 k 2 hw rfl hin (am_d_ok hok) (hrec _ _ _ _ hG H locs ls kc ks hl hI hS ec es)
theorem am_s_laload (cx : am_cx p R s m args meth c B c0 y) (hok : am_okI y pc (.laload) = true) (hG : am_G call rec pc σ (am_i (.laload) (am_rt y) pc lv st σ) = some res) (hrec : ∀ q lv st τ, rec q lv st τ = some res → am_WW p l e R s m args below meth c Q D ac B b y c0 s0 q lv st τ) : am_WW p l e R s m args below meth c Q D ac B b y c0 s0 pc lv st σ := by
  rcases st with _ | ⟨v, _ | ⟨w, st⟩⟩
  · exact (am_no hG rfl).elim
  · cases v <;> exact (am_no hG rfl).elim
  cases v <;> cases w <;> try exact (am_no hG rfl).elim
  rename_i j k
  obtain ⟨x, hx, hG⟩ := am_bindE (o := am_ldJ σ k j) hG
  obtain ⟨hsh, hin, rfl⟩ := am_ldJ_some hx
  intro H locs ls kc ks hl hI hS ec es
  have hk := hI.2.2.2.1.lt hsh (by decide)
  have hw := am_ws_at (ac := ac) (B := B) hk
  rw [am_e2 hsh] at hw
  exact va_lald cx.1 cx.2.1 hI.1 hI.2.2.1 k 1 hw rfl hin (am_d_ok hok) (hrec _ _ _ _ hG H locs ls kc ks hl hI hS ec es)
theorem am_s_arraylength (cx : am_cx p R s m args meth c B c0 y) (hok : am_okI y pc (.arraylength) = true) (hG : am_G call rec pc σ (am_i (.arraylength) (am_rt y) pc lv st σ) = some res) (hrec : ∀ q lv st τ, rec q lv st τ = some res → am_WW p l e R s m args below meth c Q D ac B b y c0 s0 q lv st τ) : am_WW p l e R s m args below meth c Q D ac B b y c0 s0 pc lv st σ := by
  rcases st with _ | ⟨v, st⟩
  · exact (am_no hG rfl).elim
  cases v <;> try exact (am_no hG rfl).elim
  · rename_i k
    obtain ⟨x, hx, hG⟩ := am_bindE (o := am_len σ k) hG
    unfold am_len at hx
    cases e1 : am_ar σ k 1 with
    | false => rw [e1] at hx; cases hx
    | true =>
      rw [e1] at hx
      have hx : nI (am_sh σ k).2 = x := Option.some.inj hx
      have hsh := am_ar_sh e1
      intro H locs ls kc ks hl hI hS ec es
      have hk := hI.2.2.2.1.lt hsh (by decide)
      have hw := am_ws_at (ac := ac) (B := B) hk
      rw [am_e1 hsh] at hw
      exact va_alen cx.1 cx.2.1 hI.1 hI.2.2.1 k 0 hw rfl hx (am_d_ok hok) (hrec _ _ _ _ hG H locs ls kc ks hl hI hS ec es)
  · rename_i k
    intro H locs ls kc ks hl hI hS ec es
    exact va_slen (A := fun q => B ≤ q) cx.1 cx.2.1 hI.2.2.2.2.2.1 (by have := cx.2.2.2.2.2.2.2.2; have := hI.2.2.2.2.2.2; omega) (Nat.not_le.mpr hI.2.2.2.2.2.2) hS (am_d_ok hok) (hrec _ _ _ _ hG H locs ls kc ks hl hI hS ec es)
theorem am_s_iastore (cx : am_cx p R s m args meth c B c0 y) (hok : am_okI y pc (.iastore) = true) (hG : am_G call rec pc σ (am_i (.iastore) (am_rt y) pc lv st σ) = some res) (hrec : ∀ q lv st τ, rec q lv st τ = some res → am_WW p l e R s m args below meth c Q D ac B b y c0 s0 q lv st τ) : am_WW p l e R s m args below meth c Q D ac B b y c0 s0 pc lv st σ := by
  rcases st with _ | ⟨v, _ | ⟨w, _ | ⟨u, st⟩⟩⟩
  · exact (am_no hG rfl).elim
  · cases v <;> exact (am_no hG rfl).elim
  · cases v <;> cases w <;> exact (am_no hG rfl).elim
  cases v <;> try exact (am_no hG rfl).elim
  all_goals cases w <;> try exact (am_no hG rfl).elim
  all_goals cases u <;> try exact (am_no hG rfl).elim
  rename_i x j k
  obtain ⟨τ, hx, hG⟩ := am_bindE (o := am_stI σ k j x) hG
  obtain ⟨hsh, hin, rfl⟩ := am_stI_some hx
  intro H locs ls kc ks hl hI hS ec es
  have hk := hI.2.2.2.1.lt hsh (by decide)
  have hw := am_ws_at (ac := ac) (B := B) hk
  rw [am_e1 hsh] at hw
  refine va_iast cx.1 cx.2.1 hI.1 hI.2.2.1 (am_ws_D ac B σ) hS k 0 hw rfl hin (am_d_ok hok) (fun H1 locs1 hP1 _ hS1 => ?_)
  rw [am_ws_wI1 hk hsh] at hP1
  exact hrec _ _ _ _ hG H1 locs1 ls kc ks hl ⟨hI.1, hI.2.1, hP1, hI.2.2.2.1, hI.2.2.2.2⟩ hS1 ec es
theorem am_s_lastore (cx : am_cx p R s m args meth c B c0 y) (hok : am_okI y pc (.lastore) = true) (hG : am_G call rec pc σ (am_i (.lastore) (am_rt y) pc lv st σ) = some res) (hrec : ∀ q lv st τ, rec q lv st τ = some res → am_WW p l e R s m args below meth c Q D ac B b y c0 s0 q lv st τ) : am_WW p l e R s m args below meth c Q D ac B b y c0 s0 pc lv st σ := by
  rcases st with _ | ⟨v, _ | ⟨w, _ | ⟨u, st⟩⟩⟩
  · exact (am_no hG rfl).elim
  · cases v <;> exact (am_no hG rfl).elim
  · cases v <;> cases w <;> exact (am_no hG rfl).elim
  cases v <;> try exact (am_no hG rfl).elim
  all_goals cases w <;> try exact (am_no hG rfl).elim
  all_goals cases u <;> try exact (am_no hG rfl).elim
  rename_i x j k
  obtain ⟨τ, hx, hG⟩ := am_bindE (o := am_stJ σ k j x) hG
  obtain ⟨hsh, hin, rfl⟩ := am_stJ_some hx
  intro H locs ls kc ks hl hI hS ec es
  have hk := hI.2.2.2.1.lt hsh (by decide)
  have hw := am_ws_at (ac := ac) (B := B) hk
  rw [am_e2 hsh] at hw
  refine va_last cx.1 cx.2.1 hI.1 hI.2.2.1 (am_ws_D ac B σ) hS k 1 hw rfl hin (am_d_ok hok) (fun H1 locs1 hP1 _ hS1 => ?_)
  rw [am_ws_wJ2 hk hsh] at hP1
  exact hrec _ _ _ _ hG H1 locs1 ls kc ks hl ⟨hI.1, hI.2.1, hP1, hI.2.2.2.1, hI.2.2.2.2⟩ hS1 ec es
theorem am_s_bastore (cx : am_cx p R s m args meth c B c0 y) (hok : am_okI y pc (.bastore) = true) (hG : am_G call rec pc σ (am_i (.bastore) (am_rt y) pc lv st σ) = some res) (hrec : ∀ q lv st τ, rec q lv st τ = some res → am_WW p l e R s m args below meth c Q D ac B b y c0 s0 q lv st τ) : am_WW p l e R s m args below meth c Q D ac B b y c0 s0 pc lv st σ := by
  rcases st with _ | ⟨v, _ | ⟨w, _ | ⟨u, st⟩⟩⟩
  · exact (am_no hG rfl).elim
  · cases v <;> exact (am_no hG rfl).elim
  · cases v <;> cases w <;> exact (am_no hG rfl).elim
  cases v <;> try exact (am_no hG rfl).elim
  all_goals cases w <;> try exact (am_no hG rfl).elim
  all_goals cases u <;> try exact (am_no hG rfl).elim
  rename_i x j k
  obtain ⟨τ, hx, hG⟩ := am_bindE (o := am_stZ σ k j x) hG
  obtain ⟨hz, hsh, hin, rfl⟩ := am_stZ_some hx
  intro H locs ls kc ks hl hI hS ec es
  have hk := hI.2.2.2.1.lt hsh (by decide)
  have hw := am_ws_at (ac := ac) (B := B) hk
  rw [am_e3 hsh] at hw
  refine va_zast cx.1 cx.2.1 hI.1 hI.2.2.1 (am_ws_D ac B σ) hS k 2 hw rfl hin (am_d_ok hok) (fun H1 locs1 hP1 _ hS1 => ?_)
  have hv : vp_nar .boolean x = x := by unfold vp_nar; rw [(am_zb_nar hz).1]
  rw [hv, am_ws_wI3 hk hsh] at hP1
  exact hrec _ _ _ _ hG H1 locs1 ls kc ks hl ⟨hI.1, hI.2.1, hP1, hI.2.2.2.1, hI.2.2.2.2⟩ hS1 ec es
theorem am_czE {ci : Nat} (h : am_cz ci = true) : ci = 0 ∨ ci = 2 ∨ ci = 4 := by
  simp only [am_cz, Bool.or_eq_true] at h
  rcases h with h | h | h
  · exact Or.inl (Nat.eq_of_beq_eq_true h)
  · exact Or.inr (Or.inl (Nat.eq_of_beq_eq_true h))
  · exact Or.inr (Or.inr (Nat.eq_of_beq_eq_true h))
theorem am_cz_ti {ci : Nat} (h : am_cz ci = true) : ∃ t0 : Nat, (am_tys ac)[t0]? = some (ac (4 + ci), FieldType.object (am_Rn ci)) := by
  rcases am_czE h with rfl | rfl | rfl
  · exact ⟨3, rfl⟩
  · exact ⟨4, rfl⟩
  · exact ⟨5, rfl⟩
theorem am_cz_lt {ci : Nat} (h : am_cz ci = true) : ci < 10 := by
  rcases am_czE h with rfl | rfl | rfl <;> decide
theorem am_s_p21 {z ci z2 : Nat} (cx : am_cx p R s m args meth c B c0 y) (hok : am_okP y pc (21, z, ci, z2) = true) (hG : am_G call rec pc σ (am_p am_nA am_cM am_ml (21, z, ci, z2) pc lv st σ) = some res) (hrec : ∀ q lv st τ, rec q lv st τ = some res → am_WW p l e R s m args below meth c Q D ac B b y c0 s0 q lv st τ) : am_WW p l e R s m args below meth c Q D ac B b y c0 s0 pc lv st σ := by
  have hok := Bool.and_eq_true _ _ ▸ hok
  rcases st with _ | ⟨v, _ | ⟨w, st⟩⟩
  · exact (am_no hG rfl).elim
  · cases v <;> exact (am_no hG rfl).elim
  cases v <;> cases w <;> try exact (am_no hG rfl).elim
  rename_i j k
  obtain ⟨x, hx, hG⟩ := am_bindE (o := am_ldR σ k ci j) hG
  obtain ⟨hsh, hin, hR⟩ := am_ldR_some hx
  intro H locs ls kc ks hl hI hS ec es
  have hk := hI.2.2.2.1.lt hsh (by have := am_cz_lt hok.2; omega)
  have hw := am_ws_at (ac := ac) (B := B) hk
  rw [am_e4 hsh] at hw
  obtain ⟨t0, ht⟩ := am_cz_ti (ac := ac) hok.2
  refine va_aldq cx.1 cx.2.1 hI.1 hI.2.2.1 k t0 hw ht hin (am_d_ok hok.1) ?_
  show W p l e R s m args below meth c H locs kc ks Q (F0 m (pc + 1) ls (va_rf (Option.map (B + ·) (am_R σ k j.toNatClampNeg)) :: _))
  rw [hR]
  exact hrec _ _ _ _ hG H locs ls kc ks hl hI hS ec es
theorem am_s_p22 {z ci z2 : Nat} (cx : am_cx p R s m args meth c B c0 y) (hok : am_okP y pc (22, z, ci, z2) = true) (hG : am_G call rec pc σ (am_p am_nA am_cM am_ml (22, z, ci, z2) pc lv st σ) = some res) (hrec : ∀ q lv st τ, rec q lv st τ = some res → am_WW p l e R s m args below meth c Q D ac B b y c0 s0 q lv st τ) : am_WW p l e R s m args below meth c Q D ac B b y c0 s0 pc lv st σ := by
  have hok := Bool.and_eq_true _ _ ▸ hok
  rcases st with _ | ⟨v, _ | ⟨w, _ | ⟨u, st⟩⟩⟩
  · exact (am_no hG rfl).elim
  · cases v <;> exact (am_no hG rfl).elim
  · cases v <;> cases w <;> exact (am_no hG rfl).elim
  cases v <;> try exact (am_no hG rfl).elim
  all_goals cases w <;> try exact (am_no hG rfl).elim
  all_goals cases u <;> try exact (am_no hG rfl).elim
  rename_i x j k
  obtain ⟨τ, hx, hG⟩ := am_bindE (o := am_stR σ k ci j x) hG
  obtain ⟨hi, hsh, hin, rfl⟩ := am_stR_some hx
  intro H locs ls kc ks hl hI hS ec es
  have hk := hI.2.2.2.1.lt hsh (by have := am_cz_lt hok.2; omega)
  have hw := am_ws_at (ac := ac) (B := B) hk
  rw [am_e4 hsh] at hw
  have hkx := hI.2.2.2.1.lt (am_is_sh hi) (by decide)
  have hwx := am_ws_at (ac := ac) (B := B) hkx
  rw [am_e0 (am_is_sh hi)] at hwx
  obtain ⟨t0, ht⟩ := am_cz_ti (ac := ac) hok.2
  refine va_astq (r := (am_Rn ci, am_T ci, am_N ci)) cx.1 cx.2.1 hI.1 hI.2.2.1 (am_ws_D ac B σ) hS k t0 x ci hw ht hwx (am_cl_at ci (am_cz_lt hok.2)) hin (am_d_ok hok.1) (fun H1 locs1 hP1 _ hS1 => ?_)
  rw [am_ws_wR4 hk hsh] at hP1
  exact hrec _ _ _ _ hG H1 locs1 ls kc ks hl ⟨hI.1, hI.2.1, hP1, hI.2.2.2.1, hI.2.2.2.2⟩ hS1 ec es
theorem am_s_p0 {idx ci j : Nat} (cx : am_cx p R s m args meth c B c0 y) (hok : am_okP y pc (0, idx, ci, j) = true) (hG : am_G call rec pc σ (am_p am_nA am_cM am_ml (0, idx, ci, j) pc lv st σ) = some res) (hrec : ∀ q lv st τ, rec q lv st τ = some res → am_WW p l e R s m args below meth c Q D ac B b y c0 s0 q lv st τ) : am_WW p l e R s m args below meth c Q D ac B b y c0 s0 pc lv st σ := by
  simp only [am_okP, Bool.and_eq_true, Bool.or_eq_true, decide_eq_true_eq] at hok
  obtain ⟨hd, hfl, hci, hj, hfk⟩ := hok
  rcases st with _ | ⟨v, st⟩
  · exact (am_no hG rfl).elim
  cases v <;> try exact (am_no hG rfl).elim
  rename_i k
  obtain ⟨x, hx, hG⟩ := am_bindE (o := am_gI σ k ci j) hG
  obtain ⟨hi, rfl⟩ := am_bif (o := none) hx
  intro H locs ls kc ks hl hI hS ec es
  have hk := hI.2.2.2.1.lt (am_is_sh hi) (by decide)
  have hw := am_ws_at (ac := ac) (B := B) hk
  rw [am_e0 (am_is_sh hi)] at hw
  have hv : ((List.range (am_N ci)).map (am_fv B σ ci k))[j]? = some (.int (am_I σ k j)) := by
    rw [List.getElem?_map, List.getElem?_range hj]
    show some (am_fv B σ ci k j) = _
    unfold am_fv
    rcases hfk with h | h
    · have := Nat.eq_of_beq_eq_true h; rw [if_neg (by omega), if_neg (by omega)]
    · have := Nat.eq_of_beq_eq_true h; rw [if_neg (by omega), if_neg (by omega)]
  exact va_get (T := am_T ci) (N := am_N ci) (ref := (am_T ci j).1) cx.1 cx.2.1 cx.2.2.2.2.1 (am_lay_in hci) cx.2.2.2.1 hI.1 hI.2.2.1 k hw (am_cl_at ci hci) j hj (cx.2.2.2.2.1 _ (am_fl_in hfl)) (fun _ h => h) hv (am_d_ok hd) (hrec _ _ _ _ hG H locs ls kc ks hl hI hS ec es)
theorem am_s_p1 {idx ci j : Nat} (cx : am_cx p R s m args meth c B c0 y) (hok : am_okP y pc (1, idx, ci, j) = true) (hG : am_G call rec pc σ (am_p am_nA am_cM am_ml (1, idx, ci, j) pc lv st σ) = some res) (hrec : ∀ q lv st τ, rec q lv st τ = some res → am_WW p l e R s m args below meth c Q D ac B b y c0 s0 q lv st τ) : am_WW p l e R s m args below meth c Q D ac B b y c0 s0 pc lv st σ := by
  simp only [am_okP, Bool.and_eq_true, Bool.or_eq_true, decide_eq_true_eq] at hok
  obtain ⟨hd, hfl, hci, hj, hfk⟩ := hok
  rcases st with _ | ⟨v, st⟩
  · exact (am_no hG rfl).elim
  cases v <;> try exact (am_no hG rfl).elim
  rename_i k
  obtain ⟨x, hx, hG⟩ := am_bindE (o := am_gJ σ k ci j) hG
  obtain ⟨hi, rfl⟩ := am_bif (o := none) hx
  intro H locs ls kc ks hl hI hS ec es
  have hk := hI.2.2.2.1.lt (am_is_sh hi) (by decide)
  have hw := am_ws_at (ac := ac) (B := B) hk
  rw [am_e0 (am_is_sh hi)] at hw
  have hv : ((List.range (am_N ci)).map (am_fv B σ ci k))[j]? = some (.long (am_J σ k j)) := by
    rw [List.getElem?_map, List.getElem?_range hj]
    show some (am_fv B σ ci k j) = _
    unfold am_fv
    rw [if_pos (Nat.eq_of_beq_eq_true hfk)]
  exact va_get (T := am_T ci) (N := am_N ci) (ref := (am_T ci j).1) cx.1 cx.2.1 cx.2.2.2.2.1 (am_lay_in hci) cx.2.2.2.1 hI.1 hI.2.2.1 k hw (am_cl_at ci hci) j hj (cx.2.2.2.2.1 _ (am_fl_in hfl)) (fun _ h => h) hv (am_d_ok hd) (hrec _ _ _ _ hG H locs ls kc ks hl hI hS ec es)
theorem am_s_p2 {idx ci j : Nat} (cx : am_cx p R s m args meth c B c0 y) (hok : am_okP y pc (2, idx, ci, j) = true) (hG : am_G call rec pc σ (am_p am_nA am_cM am_ml (2, idx, ci, j) pc lv st σ) = some res) (hrec : ∀ q lv st τ, rec q lv st τ = some res → am_WW p l e R s m args below meth c Q D ac B b y c0 s0 q lv st τ) : am_WW p l e R s m args below meth c Q D ac B b y c0 s0 pc lv st σ := by
  simp only [am_okP, Bool.and_eq_true, Bool.or_eq_true, decide_eq_true_eq] at hok
  obtain ⟨hd, hfl, hci, hj, hfk⟩ := hok
  rcases st with _ | ⟨v, st⟩
  · exact (am_no hG rfl).elim
  cases v <;> try exact (am_no hG rfl).elim
  rename_i k
  obtain ⟨x, hx, hG⟩ := am_bindE (o := am_gR σ k ci j) hG
  have hi : am_is σ k ci = true := by
    cases e1 : am_is σ k ci with
    | true => rfl
    | false => unfold am_gR at hx; rw [e1] at hx; cases hx
  have hR : am_R σ k j = some x := by unfold am_gR at hx; rw [hi] at hx; exact hx
  intro H locs ls kc ks hl hI hS ec es
  have hk := hI.2.2.2.1.lt (am_is_sh hi) (by decide)
  have hw := am_ws_at (ac := ac) (B := B) hk
  rw [am_e0 (am_is_sh hi)] at hw
  have hv : ((List.range (am_N ci)).map (am_fv B σ ci k))[j]? = some (.ref (B + x)) := by
    rw [List.getElem?_map, List.getElem?_range hj]
    show some (am_fv B σ ci k j) = _
    unfold am_fv
    have := Nat.eq_of_beq_eq_true hfk
    rw [if_neg (by omega), if_pos this, hR]
    rfl
  exact va_get (T := am_T ci) (N := am_N ci) (ref := (am_T ci j).1) cx.1 cx.2.1 cx.2.2.2.2.1 (am_lay_in hci) cx.2.2.2.1 hI.1 hI.2.2.1 k hw (am_cl_at ci hci) j hj (cx.2.2.2.2.1 _ (am_fl_in hfl)) (fun _ h => h) hv (am_d_ok hd) (hrec _ _ _ _ hG H locs ls kc ks hl hI hS ec es)
theorem am_putW {H : Heap} {locs : List Loc} {kc ks : Nat} {ls : Array Slot} {idx ci j k : Nat} {w : Value} {τ : am_H} {rest : List Value} (cx : am_cx p R s m args meth c B c0 y) (hd : decode (am_mc y) pc = .ok (.putfield idx, 3)) (hfl : am_has4 am_flx (am_cM y, idx, ci, j) = true) (hci : ci < 10) (hj : j < am_N ci) (hfin : am_fin y ci j = true) (hn : narrow (am_ty ci j) w = w) (hf : fits (am_ty ci j) w = true) (hI : am_inv D ac B b σ s s.heap H) (hS : va_S (fun q => B ≤ q) s.heap H locs) (hsh : am_sh σ k = (0, ci))
    (hτ : k < am_n σ → (am_ws ac B σ).set k (B + k, .inr (ci, ((List.range (am_N ci)).map (am_fv B σ ci k)).set j w)) = am_ws ac B τ)
    (kk : ∀ (H1 : Heap) (locs1 : List Loc), va_P D am_cl (am_ws ac B τ) H1 → va_S (fun q => B ≤ q) s.heap H1 locs1 → W p l e R s m args below meth c H1 locs1 kc ks Q (F0 m (pc + 3) ls rest)) : W p l e R s m args below meth c H locs kc ks Q (F0 m pc ls (w :: .ref (B + k) :: rest)) := by
  have hk := hI.2.2.2.1.lt hsh (by decide)
  have hw := am_ws_at (ac := ac) (B := B) hk
  rw [am_e0 hsh] at hw
  have hlen : j < ((List.range (am_N ci)).map (am_fv B σ ci k)).length := by simpa using hj
  cases hf2 : (am_T ci j).2.2.2 with
  | false =>
    refine va_put (T := am_T ci) (N := am_N ci) (ref := (am_T ci j).1) cx.1 cx.2.1 cx.2.2.2.2.1 (am_lay_in hci) (am_ty ci) (am_ty_ok ci hci) (am_nm_ok ci hci) cx.2.2.2.1 hI.1 hI.2.2.1 (am_ws_D ac B σ) hS k hw (am_cl_at ci hci) j hj (cx.2.2.2.2.1 _ (am_fl_in hfl)) (fun _ h => h) hf2 (am_ty_ok ci hci j hj) hn hf hlen hd (fun H1 locs1 hP1 _ hS1 => ?_)
    rw [hτ hk] at hP1
    exact kk H1 locs1 hP1 hS1
  | true =>
    simp only [am_fin, hf2, Bool.not_true, Bool.false_or, Bool.and_eq_true, decide_eq_true_eq] at hfin
    refine va_putF (T := am_T ci) (N := am_N ci) (ref := (am_T ci j).1) cx.1 cx.2.1 cx.2.2.2.2.1 (am_lay_in hci) (am_ty ci) (am_ty_ok ci hci) (am_nm_ok ci hci) cx.2.2.2.1 hI.1 hI.2.2.1 (am_ws_D ac B σ) hS k hw (am_cl_at ci hci) j hj (cx.2.2.2.2.1 _ (am_fl_in hfl)) (fun _ h => h) hf2 (cx.2.2.2.2.2.1 hfin.1) hfin.2 (am_ty_ok ci hci j hj) hn hf hlen hd (fun H1 locs1 hP1 _ hS1 => ?_)
    rw [hτ hk] at hP1
    exact kk H1 locs1 hP1 hS1
theorem am_s_p3 {idx ci j : Nat} (cx : am_cx p R s m args meth c B c0 y) (hok : am_okP y pc (3, idx, ci, j) = true) (hG : am_G call rec pc σ (am_p am_nA am_cM am_ml (3, idx, ci, j) pc lv st σ) = some res) (hrec : ∀ q lv st τ, rec q lv st τ = some res → am_WW p l e R s m args below meth c Q D ac B b y c0 s0 q lv st τ) : am_WW p l e R s m args below meth c Q D ac B b y c0 s0 pc lv st σ := by
  simp only [am_okP, Bool.and_eq_true, decide_eq_true_eq] at hok
  obtain ⟨hd, hfl, hci, hj, hty, hfin⟩ := hok
  rcases st with _ | ⟨v, _ | ⟨w, st⟩⟩
  · exact (am_no hG rfl).elim
  · cases v <;> exact (am_no hG rfl).elim
  cases v <;> cases w <;> try exact (am_no hG rfl).elim
  rename_i x k
  obtain ⟨τ, hx, hG⟩ := am_bindE (o := am_pI σ k ci j x) hG
  obtain ⟨hi, rfl⟩ := am_bif (o := none) hx
  intro H locs ls kc ks hl hI hS ec es
  refine am_putW (w := .int x) (τ := am_wI σ k j x) cx (am_d_ok hd) hfl hci hj hfin (by rw [hty]; exact rfl) (by rw [hty]; exact rfl) hI hS (am_is_sh hi) (fun hk => am_ws_f hk (am_is_sh hi) hj rfl rfl (fun q hq => ⟨am_u_ne _ _ hq, rfl, rfl⟩) ?_ (fun i hi2 => ?_)) (fun H1 locs1 hP1 hS1 => hrec _ _ _ _ hG H1 locs1 ls kc ks hl ⟨hI.1, hI.2.1, hP1, hI.2.2.2.1, hI.2.2.2.2⟩ hS1 ec es)
  · unfold am_fv
    rw [hty, if_neg (by decide), if_neg (by decide)]
    show Value.int (am_u (am_I σ) k j x k j) = _
    rw [am_u_self, if_pos rfl]
  · unfold am_fv
    show (if _ then _ else if _ then _ else Value.int (am_u (am_I σ) k j x k i)) = _
    rw [am_u_self, if_neg hi2]
    rfl
theorem am_s_p4 {idx ci j : Nat} (cx : am_cx p R s m args meth c B c0 y) (hok : am_okP y pc (4, idx, ci, j) = true) (hG : am_G call rec pc σ (am_p am_nA am_cM am_ml (4, idx, ci, j) pc lv st σ) = some res) (hrec : ∀ q lv st τ, rec q lv st τ = some res → am_WW p l e R s m args below meth c Q D ac B b y c0 s0 q lv st τ) : am_WW p l e R s m args below meth c Q D ac B b y c0 s0 pc lv st σ := by
  simp only [am_okP, Bool.and_eq_true, decide_eq_true_eq] at hok
  obtain ⟨hd, hfl, hci, hj, hty, hfin⟩ := hok
  rcases st with _ | ⟨v, _ | ⟨w, st⟩⟩
  · exact (am_no hG rfl).elim
  · cases v <;> exact (am_no hG rfl).elim
  cases v <;> cases w <;> try exact (am_no hG rfl).elim
  rename_i x k
  obtain ⟨τ, hx, hG⟩ := am_bindE (o := am_pZ σ k ci j x) hG
  obtain ⟨hi, rfl⟩ := am_bif (o := none) hx
  rw [Bool.and_eq_true] at hi
  obtain ⟨hi, hz⟩ := hi
  intro H locs ls kc ks hl hI hS ec es
  refine am_putW (w := .int x) (τ := am_wI σ k j x) cx (am_d_ok hd) hfl hci hj hfin (by rw [hty]; exact (am_zb_nar hz).1) (by rw [hty]; exact (am_zb_nar hz).2) hI hS (am_is_sh hi) (fun hk => am_ws_f hk (am_is_sh hi) hj rfl rfl (fun q hq => ⟨am_u_ne _ _ hq, rfl, rfl⟩) ?_ (fun i hi2 => ?_)) (fun H1 locs1 hP1 hS1 => hrec _ _ _ _ hG H1 locs1 ls kc ks hl ⟨hI.1, hI.2.1, hP1, hI.2.2.2.1, hI.2.2.2.2⟩ hS1 ec es)
  · unfold am_fv
    rw [hty, if_neg (by decide), if_neg (by decide)]
    show Value.int (am_u (am_I σ) k j x k j) = _
    rw [am_u_self, if_pos rfl]
  · unfold am_fv
    show (if _ then _ else if _ then _ else Value.int (am_u (am_I σ) k j x k i)) = _
    rw [am_u_self, if_neg hi2]
    rfl
theorem am_s_p5 {idx ci j : Nat} (cx : am_cx p R s m args meth c B c0 y) (hok : am_okP y pc (5, idx, ci, j) = true) (hG : am_G call rec pc σ (am_p am_nA am_cM am_ml (5, idx, ci, j) pc lv st σ) = some res) (hrec : ∀ q lv st τ, rec q lv st τ = some res → am_WW p l e R s m args below meth c Q D ac B b y c0 s0 q lv st τ) : am_WW p l e R s m args below meth c Q D ac B b y c0 s0 pc lv st σ := by
  simp only [am_okP, Bool.and_eq_true, decide_eq_true_eq] at hok
  obtain ⟨hd, hfl, hci, hj, hty, hfin⟩ := hok
  rcases st with _ | ⟨v, _ | ⟨w, st⟩⟩
  · exact (am_no hG rfl).elim
  · cases v <;> exact (am_no hG rfl).elim
  cases v <;> cases w <;> try exact (am_no hG rfl).elim
  rename_i x k
  obtain ⟨τ, hx, hG⟩ := am_bindE (o := am_pJ σ k ci j x) hG
  obtain ⟨hi, rfl⟩ := am_bif (o := none) hx
  intro H locs ls kc ks hl hI hS ec es
  refine am_putW (w := .long x) (τ := am_wJ σ k j x) cx (am_d_ok hd) hfl hci hj hfin (by rw [hty]; exact rfl) (by rw [hty]; exact rfl) hI hS (am_is_sh hi) (fun hk => am_ws_f hk (am_is_sh hi) hj rfl rfl (fun q hq => ⟨rfl, am_u_ne _ _ hq, rfl⟩) ?_ (fun i hi2 => ?_)) (fun H1 locs1 hP1 hS1 => hrec _ _ _ _ hG H1 locs1 ls kc ks hl ⟨hI.1, hI.2.1, hP1, hI.2.2.2.1, hI.2.2.2.2⟩ hS1 ec es)
  · unfold am_fv
    rw [hty, if_pos (by decide)]
    show Value.long (am_u (am_J σ) k j x k j) = _
    rw [am_u_self, if_pos rfl]
  · unfold am_fv
    show (if _ then Value.long (am_u (am_J σ) k j x k i) else _) = _
    rw [am_u_self, if_neg hi2]
    rfl
theorem am_s_p6 {idx ci j : Nat} (cx : am_cx p R s m args meth c B c0 y) (hok : am_okP y pc (6, idx, ci, j) = true) (hG : am_G call rec pc σ (am_p am_nA am_cM am_ml (6, idx, ci, j) pc lv st σ) = some res) (hrec : ∀ q lv st τ, rec q lv st τ = some res → am_WW p l e R s m args below meth c Q D ac B b y c0 s0 q lv st τ) : am_WW p l e R s m args below meth c Q D ac B b y c0 s0 pc lv st σ := by
  simp only [am_okP, Bool.and_eq_true, decide_eq_true_eq] at hok
  obtain ⟨hd, hfl, hci, hj, hty, hfin⟩ := hok
  rcases st with _ | ⟨v, _ | ⟨w, st⟩⟩
  · exact (am_no hG rfl).elim
  · cases v <;> exact (am_no hG rfl).elim
  cases v <;> cases w <;> try exact (am_no hG rfl).elim
  rename_i x k
  obtain ⟨τ, hx, hG⟩ := am_bindE (o := am_pR σ k ci j x) hG
  obtain ⟨hi, rfl⟩ := am_bif (o := none) hx
  intro H locs ls kc ks hl hI hS ec es
  have hfk : am_fk (am_ty ci j) = 2 := by
    revert hty
    cases am_ty ci j <;> intro h <;> first | rfl | cases h
  refine am_putW (w := .ref (B + x)) (τ := am_wR σ k j (some x)) cx (am_d_ok hd) hfl hci hj hfin (by revert hty; cases am_ty ci j <;> intro h <;> first | rfl | cases h) (by revert hty; cases am_ty ci j <;> intro h <;> first | rfl | cases h) hI hS (am_is_sh hi) (fun hk => am_ws_f hk (am_is_sh hi) hj rfl rfl (fun q hq => ⟨rfl, rfl, am_u_ne _ _ hq⟩) ?_ (fun i hi2 => ?_)) (fun H1 locs1 hP1 hS1 => hrec _ _ _ _ hG H1 locs1 ls kc ks hl ⟨hI.1, hI.2.1, hP1, hI.2.2.2.1, hI.2.2.2.2⟩ hS1 ec es)
  · unfold am_fv
    rw [if_neg (by omega), if_pos hfk]
    show va_rf (Option.map (B + ·) (am_u (am_R σ) k j (some x) k j)) = _
    rw [am_u_self, if_pos rfl]
    rfl
  · unfold am_fv
    show (if _ then _ else if _ then va_rf (Option.map (B + ·) (am_u (am_R σ) k j (some x) k i)) else _) = _
    rw [am_u_self, if_neg hi2]
    rfl
end AMH
