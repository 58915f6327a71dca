/-! CALLS AND RETURNS: a run of the abstract machine is followed by the machine's own, method by method, by contract -/
def am_rm (d mc ms : Nat) : Room := { frames := d + 1, cells := mc, slots := ms, locals := 40 * (d + 1) }
def am_wsM (y : Nat) : List Jvm.Cond := .code (am_my y) (am_mc y) (am_ml y) (am_mr y) :: am_W
/-- an answer as the machine has it -/
def am_rvv (B rt : Nat) (r : am_r) : Option Value :=
  bif Nat.beq rt 0 then none else bif Nat.beq rt 2 then some (.long r.2.1) else bif Nat.beq rt 3 then some (va_rf (r.2.2.map (B + ·))) else some (.int r.1)
def am_pre (D : va_G) (ac : Nat → ClassId) (B b : Nat) (σ : am_H) (U : State) : Prop := am_inv D ac B b σ U U.heap U.heap ∧ B ≤ U.heap.size ∧ U.heap.size ≤ B + am_c σ
def am_Qc (D : va_G) (ac : Nat → ClassId) (B : Nat) (rv : Option Value) (τ : am_H) : Array Value → State → Outcome → State → Prop := fun _ st o t => o = .returned rv ∧ va_P D am_cl (am_ws ac B τ) t.heap ∧ am_wf τ ∧ am_n τ ≤ am_c τ ∧ va_F (fun q => B ≤ q) st t
theorem am_nw.same {u U : State} (h : u.vm = U.vm) (hn : am_nw u) : am_nw U := ⟨fun q hq => va_Nw.same rfl h (hn.1 q hq), va_AO.moved (h ▸ Vm.Alike.refl u.vm) hn.2.1, va_AO.moved (h ▸ Vm.Alike.refl u.vm) hn.2.2.1, va_AO.moved (h ▸ Vm.Alike.refl u.vm) hn.2.2.2⟩
theorem am_blind {D : va_G} {ac : Nat → ClassId} {B b : Nat} {σ : am_H} {av : List Value} : FrameBlind (va_Pc av (am_pre D ac B b σ)) := by
  intro a U g mk ⟨h1, h2⟩
  refine ⟨h1, ⟨?_, h2.2⟩⟩
  obtain ⟨a1, a2, a3, a4, a5, a6, a7⟩ := h2.1
  exact ⟨va_K.moved (u := U) (U := U.calling g mk a) (Vm.Alike.refl U.vm) a1, am_nw.same (u := U) (U := U.calling g mk a) rfl a2, a3, a4, a5, va_X.moved (u := U) (U := U.calling g mk a) (Vm.Alike.refl U.vm) a6, a7⟩
theorem am_tkE : ∀ {n : Nat} {acc st xs st' : List Value}, am_tk n acc st = some (xs, st') → ∃ ys : List Value, ys.length = n ∧ xs = ys ++ acc ∧ st = ys.reverse ++ st'
  | 0, acc, st, xs, st', h => by
    have h : (acc, st) = (xs, st') := Option.some.inj h
    cases h
    exact ⟨[], rfl, rfl, rfl⟩
  | n + 1, acc, [], xs, st', h => by cases h
  | n + 1, acc, v :: st, xs, st', h => by
    obtain ⟨ys, h1, h2, h3⟩ := am_tkE (n := n) (acc := v :: acc) (st := st) h
    refine ⟨ys ++ [v], by rw [List.length_append, h1]; rfl, by rw [h2]; simp, by rw [h3]; simp⟩
theorem am_bkC {B b rt : Nat} {k : List Value → am_H → am_X} {st : List Value} {x r : am_r × am_H} (h : am_bk rt k st x = some r) : ∃ st', k st' x.2 = some r ∧ am_ts B b st' = (am_rvv B rt x.1).toList ++ am_ts B b st := by
  obtain ⟨⟨a, j, o⟩, τ⟩ := x
  unfold am_bk at h
  unfold am_rvv
  cases h0 : Nat.beq rt 0
  · rw [h0] at h
    cases h2 : Nat.beq rt 2
    · rw [h2] at h
      cases h3 : Nat.beq rt 3
      · rw [h3] at h
        exact ⟨_, h, rfl⟩
      · rw [h3] at h
        cases o
        · exact ⟨_, h, rfl⟩
        · exact ⟨_, h, rfl⟩
    · rw [h2] at h
      exact ⟨_, h, rfl⟩
  · rw [h0] at h
    exact ⟨_, h, rfl⟩
theorem am_good (y : Nat) (h : y < 180) : GoodIn am_W (am_wsM y) := by
  intro w hw
  rcases List.mem_cons.mp hw with rfl | hw
  · exact ⟨List.mem_filter.mpr ⟨am_cd y h, rfl⟩, Or.inl rfl⟩
  · exact ⟨hw, good_of_word (List.mem_filter.mp hw).2⟩
theorem am_goodC {w : Jvm.Cond} {ws : List Jvm.Cond} (hw : w ∈ am_W) (h : GoodIn am_W ws) : GoodIn am_W (w :: ws) := by
  intro x hx
  rcases List.mem_cons.mp hx with rfl | hx
  · exact ⟨hw, good_of_word (List.mem_filter.mp hw).2⟩
  · exact h x hx
theorem am_ml_in {o idx z k : Nat} (h : am_has4 am_mlx (o, idx, z, k) = true) : Cond.methodLink (am_own o) idx (am_my z) ∈ am_W := by
  obtain ⟨i, hi⟩ := am_has4_mem h
  exact am_W_of (am_mlx_ok _ hi) rfl
theorem am_ns_in {z : Nat} (h : am_has2 am_nsx z = true) : Cond.instanceMethod (am_my z) ∈ am_W := by
  obtain ⟨i, hi⟩ := am_has2_mem h
  exact am_W_of (am_nsx_ok _ hi) rfl
theorem am_st_in {z : Nat} (h : am_has2 am_stx z = true) : Cond.static (am_my z) ∈ am_W := by
  obtain ⟨i, hi⟩ := am_has2_mem h
  exact am_W_of (am_stx_ok _ hi) rfl
theorem am_sl_in {z : Nat} (h : am_has2 am_slx z = true) : Cond.selects (am_own (am_cM z)) (am_my z) (am_my z) ∈ am_W := by
  obtain ⟨i, hi⟩ := am_has2_mem h
  exact am_W_of (am_slx_ok _ hi) rfl
set_option maxRecDepth 100000 in
theorem am_cM_lt : ∀ z, z < 182 → am_cM z < 11 := by decide +kernel
set_option maxRecDepth 100000 in
theorem am_ml_le : ∀ z, z < 182 → am_ml z ≤ 21 := by decide +kernel
def am_rk (rt : Nat) (t : Option FieldType) : Bool := match rt with
  | 0 => decide (t = none)
  | 1 => decide (t = some .int)
  | 2 => decide (t = some .long)
  | 3 => (match t with | some (.object _) => true | _ => false)
  | 4 => decide (t = some .boolean)
  | _ => false
set_option maxRecDepth 100000 in
theorem am_rk_ok : ∀ z, z < 182 → am_rk (am_rt z) (am_mr z) = true := by decide +kernel
theorem am_ini {z : Nat} (h : z < 182) : Cond.initialized (am_my z).cls ∈ am_W := by
  rw [(am_nmA z h).1]
  exact am_init_in (am_cM_lt z h)
section AMC
variable {p : Program} {l : Launch} {e : Env} {R : Room} {s : State} {m : MethodId} {args : Array Value} {below : List Frame} {meth : Method} {c : Code} {Q : State → Prop} {D : va_G} {ac : Nat → ClassId} {B b y c0 s0 : Nat} {pc : Nat} {lv : am_lv} {st : List Value} {σ : am_H} {res : am_r × am_H} {call : Nat → List Value → am_H → am_X} {rec : Nat → am_lv → List Value → am_H → am_X}
theorem am_pre_of {H : Heap} {locs : List Loc} {kc : Nat} (cx : am_cx p R s m args meth c B c0 y) (hI : am_inv D ac B b σ s s.heap H) (hS : va_S (fun q => B ≤ q) s.heap H locs) (ec : kc + c0 = am_c σ) (z1 : s.heap.size ≤ H.size) (z2 : H.size ≤ s.heap.size + kc) : ∀ U : State, U.heap = H → s.WarmedH U.vm → am_pre D ac B b σ U := by
  intro U hU hW
  have hc := cx.2.2.2.2.2.2.2.2
  obtain ⟨a1, a2, a3, a4, a5, a6, a7⟩ := hI
  have hx : va_X b (am_sl σ) (am_sx σ) s H := a6.kept (hS.2.1 b (by omega) (Nat.not_le.mpr a7))
  refine ⟨⟨va_K.moved hW.alike a1, a2.moved hW, by rw [hU]; exact a3, a4, a5, by rw [hU]; exact hx.moved hW.alike, a7⟩, by rw [hU]; omega, by rw [hU]; omega⟩
theorem am_callW {H : Heap} {locs : List Loc} {kc ks mc ms : Nat} {ls : Array Slot} {stk rest : List Value} {rv : Option Value} {τ : am_H} {avs : Array Value} (hr : va_Run p l e R s m args below meth c H locs kc ks mc ms (F0 m pc ls stk) rest (am_Qc D ac B rv τ avs) (fun q => B ≤ q)) (hS : va_S (fun q => B ≤ q) s.heap H locs)
    (kk : ∀ (H1 : Heap) (locs1 : List Loc), va_P D am_cl (am_ws ac B τ) H1 → am_wf τ → am_n τ ≤ am_c τ → va_S (fun q => B ≤ q) s.heap H1 locs1 → W p l e R s m args below meth c H1 locs1 (kc + mc) (ks + ms) Q (F0 m (pc + 3) ls (rv.toList ++ rest))) : W p l e R s m args below meth c H locs kc ks Q (F0 m pc ls stk) := by
  intro T hT X
  obtain ⟨v, st₀, t, T', L, h0, X', hL, e1, e2, ⟨hv, hP, hw, hn, hz, hk⟩, st⟩ := hr T hT X
  cases hv
  rw [h0] at hz hk
  obtain ⟨t2, a1, b1⟩ := kk T'.heap (locs ++ L) (by rw [e1]; exact hP) hw hn
    ⟨Nat.le_trans hS.1 (by rw [e1]; exact hz), fun q h1 h2 => by rw [e1, hk q (Nat.lt_of_lt_of_le h1 hS.1) h2]; exact hS.2.1 q h1 h2, fun q hq => by
      rcases List.mem_append.mp hq with h | h
      · exact hS.2.2 q h
      · exact hL q h⟩ T' rfl X'
  exact ⟨t2, st t2 a1, b1⟩
/-- what is known of a method's contract, from its run -/
def am_MT (l : Launch) (R : Room) (D : va_G) (ac : Nat → ClassId) (B b : Nat) (call : Nat → List Value → am_H → am_X) : Prop :=
  ∀ (z : Nat) (as : List Value) (τ : am_H) (r : am_r × am_H), z < 180 → z ≠ 98 → am_cats as ≤ am_ml z → call z as τ = some r → am_mo τ r.2 ∧ ∃ d', d' + 2 ≤ R.frames ∧ 40 * (d' + 2) ≤ R.locals ∧
    Met l (am_my z) (am_wsM z) (am_rm d' (am_c r.2 - am_c τ) (am_s r.2 - am_s τ)) (va_Pc (am_ts B b as) (am_pre D ac B b τ)) (am_Qc D ac B (am_rvv B (am_rt z) r.1) r.2) (am_c r.2 - am_c τ) (am_s r.2 - am_s τ) (fun q => B ≤ q)
theorem am_after {z : Nat} {r : am_r × am_H} {st' : List Value} (cx : am_cx p R s m args meth c B c0 y) (hmo : am_mo σ r.2) (h : am_bk (am_rt z) (fun st τ => rec (pc + 3) lv st τ) st' r = some res) (hrec : ∀ q lv st τ, rec q lv st τ = some res → am_WW p l e R s m args below meth c Q D ac B b y c0 s0 q lv st τ)
    {H : Heap} {kc ks : Nat} {ls : Array Slot} (hl : lv_has ls (am_ml y) (am_tl B b lv)) (hI : am_inv D ac B b σ s s.heap H) (ec : kc + c0 = am_c σ) (es : ks + s0 = am_s σ) :
    ∀ (H1 : Heap) (locs1 : List Loc), va_P D am_cl (am_ws ac B r.2) H1 → am_wf r.2 → am_n r.2 ≤ am_c r.2 → va_S (fun q => B ≤ q) s.heap H1 locs1 → W p l e R s m args below meth c H1 locs1 (kc + (am_c r.2 - am_c σ)) (ks + (am_s r.2 - am_s σ)) Q (F0 m (pc + 3) ls ((am_rvv B (am_rt z) r.1).toList ++ am_ts B b st')) := by
  intro H1 locs1 hP1 hw1 hn1 hS1
  obtain ⟨st2, h2, e2⟩ := am_bkC (B := B) (b := b) h
  rw [← e2]
  obtain ⟨m1, m2, m3, m4⟩ := hmo
  exact hrec _ _ _ _ h2 H1 locs1 ls _ _ hl ⟨hI.1, hI.2.1, hP1, hw1, hn1, by rw [m3, m4]; exact hI.2.2.2.2.2.1, hI.2.2.2.2.2.2⟩ hS1 (by omega) (by omega)
theorem am_hm {z : Nat} {r : am_r × am_H} {st' : List Value} (h : am_bk (am_rt z) (fun st τ => rec (pc + 3) lv st τ) st' r = some res) (hm : ∀ q lv st τ, rec q lv st τ = some res → am_c τ ≤ am_c res.2 ∧ am_s τ ≤ am_s res.2) : am_c r.2 ≤ am_c res.2 ∧ am_s r.2 ≤ am_s res.2 := by
  obtain ⟨st2, h2, -⟩ := am_bkE h
  exact hm _ _ _ _ h2
theorem am_s_p9 {idx z z2 : Nat} (cx : am_cx p R s m args meth c B c0 y) (hok : am_okP y pc (9, idx, z, z2) = true) (hG : am_G call rec pc σ (am_p am_nA am_cM am_ml (9, idx, z, z2) pc lv st σ) = some res) (hrec : ∀ q lv st τ, rec q lv st τ = some res → am_WW p l e R s m args below meth c Q D ac B b y c0 s0 q lv st τ) (hm : ∀ q lv st τ, rec q lv st τ = some res → am_c τ ≤ am_c res.2 ∧ am_s τ ≤ am_s res.2) (hbc : am_c res.2 ≤ c0 + R.cells) (hbs : am_s res.2 ≤ s0 + R.slots) (hMT : am_MT l R D ac B b call) : am_WW p l e R s m args below meth c Q D ac B b y c0 s0 pc lv st σ := by
  simp only [am_okP, Bool.and_eq_true, decide_eq_true_eq] at hok
  obtain ⟨hd, hml, ⟨hz, hz98⟩, hcz, hns, hsl⟩ := hok
  have hG : am_G call rec pc σ (match am_tk (am_nA z + 1) [] st with | some (.ref k :: as, st) => (bif Nat.ble (am_cats st) 8 && Nat.ble (am_cats (.ref k :: as)) (am_ml z) then am_call (am_is σ k (am_cM z)) z (.ref k :: as) lv st else none) | _ => none) = some res := hG
  split at hG
  · rename_i k as st' htk
    obtain ⟨hr8, hG⟩ := am_bifN hG
    rw [Bool.and_eq_true] at hr8
    have hG : (bif am_is σ k (am_cM z) then (call z (.ref k :: as) σ).bind (fun r => am_bk (am_rt z) (fun st τ => rec (pc + 3) lv st τ) st' r) else none) = some res := hG
    cases his : am_is σ k (am_cM z) with
    | false => rw [his] at hG; cases hG
    | true =>
      rw [his] at hG
      obtain ⟨r, hr, hG⟩ := am_bindE (o := call z (.ref k :: as) σ) hG
      obtain ⟨ys, y1, y2, y3⟩ := am_tkE htk
      rw [List.append_nil] at y2
      subst y2
      obtain ⟨hmo, d', hf1, hl1, hM⟩ := hMT z _ σ r hz hz98 (Nat.le_of_ble_eq_true hr8.2) hr
      have hmm := am_hm hG hm
      have m1 := hmo.1
      have m2 := hmo.2.1
      intro H locs ls kc ks hl hI hS ec es
      refine am_Wsz (fun z1 z2 => ?_)
      obtain ⟨n1, n2, n3, n4, n5⟩ := am_nmA z (by omega)
      have hk := hI.2.2.2.1.lt (am_is_sh his) (by decide)
      have hw := am_ws_at (ac := ac) (B := B) hk
      rw [am_e0 (am_is_sh his)] at hw
      have hpre := am_pre_of cx hI hS ec z1 z2
      have hst : am_ts B b st = (am_ts B b as).reverse ++ .ref (B + k) :: am_ts B b st' := by rw [y3]; simp [am_ts, am_tr]
      have h8 := am_room (B := B) (b := b) hr8.1
      have hmlz := am_ml_le z (by omega)
      refine am_callW (va_runV (C := am_own (am_cM z)) (b := B + k) (As := am_ts B b as) (rest := am_ts B b st') ⟨cx.1, cx.2.1, cx.2.2.1, cx.2.2.2.1, cx.2.2.2.2.1⟩ hM
        (cwV (am_nA z) cx.2.2.2.2.1 (am_goodC (am_ml_in hml) (am_goodC (am_ns_in hns) (am_goodC (am_sl_in hsl) (am_goodC (am_init_in (am_cM_lt z (by omega))) (am_good z hz))))) rfl rfl rfl ⟨n1, n3, n4, n5⟩ ⟨by show d' + 1 + 1 ≤ _; omega, by show 8 + (am_ml z + 11) + 40 * (d' + 1) ≤ _; omega⟩)
        ⟨am_blind, ?_, fun U hU hW => ⟨rfl, hpre U hU hW⟩⟩ rfl (by simp at y1; simpa using y1) hl.1 hst (by show 2 * 0 + ((am_ts B b st').map fun v => v.category).sum ≤ 8; show 2 * 0 + ((st'.map (am_tr B b)).map fun v => v.category).sum ≤ 8; omega) (am_d_ok hd) ⟨by omega, by omega⟩) hS (am_after cx hmo hG hrec hl hI ec es)
      rw [am_own_Rn _ hcz]
      exact va_recv hI.1 hI.2.2.1 (am_cl_at _ hcz) hw
  · exact (am_no hG rfl).elim
theorem am_wsM_none {z : Nat} (h : am_mr z = none) : am_wsM z = .code (am_my z) (am_mc z) (am_ml z) none :: am_W := by unfold am_wsM; rw [h]
theorem am_s_p10 {idx z z2 : Nat} (cx : am_cx p R s m args meth c B c0 y) (hok : am_okP y pc (10, idx, z, z2) = true) (hG : am_G call rec pc σ (am_p am_nA am_cM am_ml (10, idx, z, z2) pc lv st σ) = some res) (hrec : ∀ q lv st τ, rec q lv st τ = some res → am_WW p l e R s m args below meth c Q D ac B b y c0 s0 q lv st τ) (hm : ∀ q lv st τ, rec q lv st τ = some res → am_c τ ≤ am_c res.2 ∧ am_s τ ≤ am_s res.2) (hbc : am_c res.2 ≤ c0 + R.cells) (hbs : am_s res.2 ≤ s0 + R.slots) (hMT : am_MT l R D ac B b call) : am_WW p l e R s m args below meth c Q D ac B b y c0 s0 pc lv st σ := by
  simp only [am_okP, Bool.and_eq_true, Bool.or_eq_true, decide_eq_true_eq] at hok
  obtain ⟨hd, hml, ⟨hz, hz98⟩, hnm, hmr, hns⟩ := hok
  have hG : am_G call rec pc σ (match am_tk (am_nA z + 1) [] st with | some (.ref k :: as, st) => (bif Nat.ble (am_cats st) 8 && Nat.ble (am_cats (.ref k :: as)) (am_ml z) then am_call true z (.ref k :: as) lv st else none) | _ => none) = some res := hG
  split at hG
  · rename_i k as st' htk
    obtain ⟨hr8, hG⟩ := am_bifN hG
    rw [Bool.and_eq_true] at hr8
    have hG : (call z (.ref k :: as) σ).bind (fun r => am_bk (am_rt z) (fun st τ => rec (pc + 3) lv st τ) st' r) = some res := hG
    obtain ⟨r, hr, hG⟩ := am_bindE (o := call z (.ref k :: as) σ) hG
    obtain ⟨ys, y1, y2, y3⟩ := am_tkE htk
    rw [List.append_nil] at y2
    subst y2
    obtain ⟨hmo, d', hf1, hl1, hM⟩ := hMT z _ σ r hz hz98 (Nat.le_of_ble_eq_true hr8.2) hr
    have hmm := am_hm hG hm
    have m1 := hmo.1
    have m2 := hmo.2.1
    intro H locs ls kc ks hl hI hS ec es
    refine am_Wsz (fun z1 z2 => ?_)
    obtain ⟨n1, n2, n3, n4, n5⟩ := am_nmA z (by omega)
    have hpre := am_pre_of cx hI hS ec z1 z2
    have hst : am_ts B b st = (am_ts B b as).reverse ++ .ref (B + k) :: am_ts B b st' := by rw [y3]; simp [am_ts, am_tr]
    have h8 := am_room (B := B) (b := b) hr8.1
    have hmlz := am_ml_le z (by omega)
    have hln : (am_ts B b as).length = am_nA z := by simp at y1; simpa using y1
    rcases hml with hml | hml
    · exact am_callW (va_runI (b := B + k) (As := am_ts B b as) (rest := am_ts B b st') ⟨cx.1, cx.2.1, cx.2.2.1, cx.2.2.2.1, cx.2.2.2.2.1⟩ hM
        (cwI (am_nA z) cx.2.2.2.2.1 (am_good z hz) (am_wsM_none hmr) rfl rfl (cx.2.2.2.2.1 _ (am_ini (by omega))) (cx.2.2.2.2.1 _ (am_ml_in hml)) (cx.2.2.2.2.1 _ (am_ns_in hns)) hnm ⟨n3, n4, n5⟩ ⟨by show d' + 1 + 1 ≤ _; omega, by show 8 + (am_ml z + 11) + 40 * (d' + 1) ≤ _; omega⟩)
        ⟨am_blind, fun U hU hW => ⟨rfl, hpre U hU hW⟩⟩ rfl hln hl.1 hst (by show 2 * 0 + ((st'.map (am_tr B b)).map fun v => v.category).sum ≤ 8; omega) (am_d_ok hd) ⟨by omega, by omega⟩) hS (am_after cx hmo hG hrec hl hI ec es)
    · obtain ⟨i, hi⟩ := am_has4_mem hml
      have hnl : va_Nw (.methodLinkNest (am_own (am_cM y)) idx (am_my z) RX8) s := hI.2.1.1 ((am_cM y, idx, z, 10), i) hi
      have hcn := va_cnB (R := R) (own := am_own (am_cM y)) (host := RX8) (index := idx) (maxL := am_ml z) (y := am_my z) (bytes := am_mc z) (ret := none) (Ts := am_W) (ws := am_wsM z) (ws' := am_W) (rm := am_rm d' (am_c r.2 - am_c σ) (am_s r.2 - am_s σ)) (mc := am_c r.2 - am_c σ) (ms := am_s r.2 - am_s σ) (am_nA z) cx.2.2.2.2.1 (am_good z hz) (am_wsM_none hmr) rfl rfl hnl (cx.2.2.2.2.1 _ (am_ini (by omega))) ⟨n3, n4, n5⟩ ⟨by show d' + 1 + 1 ≤ _; omega, by show 8 + (am_ml z + 11) + 40 * (d' + 1) ≤ _; omega⟩
      exact am_callW (va_runIN (own := am_own (am_cM y)) (host := RX8) (b := B + k) (As := am_ts B b as) (rest := am_ts B b st') ⟨cx.1, cx.2.1, cx.2.2.1, cx.2.2.2.1, cx.2.2.2.2.1⟩ hM
        ⟨hcn, hnm, cx.2.2.2.2.1 _ (am_ns_in hns)⟩
        ⟨am_blind, fun U hU hW => ⟨rfl, hpre U hU hW⟩⟩ rfl hln hl.1 hst (by show 2 * 0 + ((st'.map (am_tr B b)).map fun v => v.category).sum ≤ 8; omega) (am_d_ok hd) ⟨by omega, by omega⟩) hS (am_after cx hmo hG hrec hl hI ec es)
  · exact (am_no hG rfl).elim
theorem am_s_p11 {idx z z2 : Nat} (cx : am_cx p R s m args meth c B c0 y) (hok : am_okP y pc (11, idx, z, z2) = true) (hG : am_G call rec pc σ (am_p am_nA am_cM am_ml (11, idx, z, z2) pc lv st σ) = some res) (hrec : ∀ q lv st τ, rec q lv st τ = some res → am_WW p l e R s m args below meth c Q D ac B b y c0 s0 q lv st τ) (hm : ∀ q lv st τ, rec q lv st τ = some res → am_c τ ≤ am_c res.2 ∧ am_s τ ≤ am_s res.2) (hbc : am_c res.2 ≤ c0 + R.cells) (hbs : am_s res.2 ≤ s0 + R.slots) (hMT : am_MT l R D ac B b call) : am_WW p l e R s m args below meth c Q D ac B b y c0 s0 pc lv st σ := by
  simp only [am_okP, Bool.and_eq_true, Bool.or_eq_true, decide_eq_true_eq] at hok
  obtain ⟨hd, hml, ⟨hz, hz98⟩, hst0⟩ := hok
  have hG : am_G call rec pc σ (match am_tk (am_nA z) [] st with | some (as, st) => (bif Nat.ble (am_cats st) 8 && Nat.ble (am_cats as) (am_ml z) then am_call true z as lv st else none) | _ => none) = some res := hG
  split at hG
  · rename_i as st' htk
    obtain ⟨hr8, hG⟩ := am_bifN hG
    rw [Bool.and_eq_true] at hr8
    have hG : (call z as σ).bind (fun r => am_bk (am_rt z) (fun st τ => rec (pc + 3) lv st τ) st' r) = some res := hG
    obtain ⟨r, hr, hG⟩ := am_bindE (o := call z as σ) hG
    obtain ⟨ys, y1, y2, y3⟩ := am_tkE htk
    rw [List.append_nil] at y2
    subst y2
    obtain ⟨hmo, d', hf1, hl1, hM⟩ := hMT z _ σ r hz hz98 (Nat.le_of_ble_eq_true hr8.2) hr
    have hmm := am_hm hG hm
    have m1 := hmo.1
    have m2 := hmo.2.1
    intro H locs ls kc ks hl hI hS ec es
    refine am_Wsz (fun z1 z2 => ?_)
    obtain ⟨n1, n2, n3, n4, n5⟩ := am_nmA z (by omega)
    have hpre := am_pre_of cx hI hS ec z1 z2
    have hst : am_ts B b st = (am_ts B b as).reverse ++ am_ts B b st' := by rw [y3]; simp [am_ts]
    have h8 := am_room (B := B) (b := b) hr8.1
    have hmlz := am_ml_le z (by omega)
    have hln : (am_ts B b as).length = am_nA z := by simpa using y1
    rcases hml with ⟨hml, hown⟩ | hml
    · have hown := Nat.eq_of_beq_eq_true hown
      exact am_callW (va_runS (As := am_ts B b as) (rest := am_ts B b st') ⟨cx.1, cx.2.1, cx.2.2.1, cx.2.2.2.1, cx.2.2.2.2.1⟩ hM
        (cwS (am_nA z) cx.2.2.2.2.1 (am_goodC (am_ml_in hml) (am_goodC (am_st_in hst0) (am_goodC (by rw [← hown]; exact am_init_in (am_cM_lt z (by omega))) (am_good z hz)))) rfl rfl rfl ⟨by rw [n1, hown], n3, n4, n5⟩ ⟨by show d' + 1 + 1 ≤ _; omega, by show 8 + (am_ml z + 11) + 40 * (d' + 1) ≤ _; omega⟩)
        ⟨am_blind, fun U hU hW => ⟨rfl, hpre U hU hW⟩⟩ rfl hln hl.1 hst (by show 2 * 0 + ((st'.map (am_tr B b)).map fun v => v.category).sum ≤ 8; omega) (am_d_ok hd) ⟨by omega, by omega⟩) hS (am_after cx hmo hG hrec hl hI ec es)
    · obtain ⟨i, hi⟩ := am_has4_mem hml
      have hnl : va_Nw (.methodLinkNest (am_own (am_cM y)) idx (am_my z) RX8) s := hI.2.1.1 ((am_cM y, idx, z, 11), i) hi
      have hcn := va_cnB (R := R) (own := am_own (am_cM y)) (host := RX8) (index := idx) (maxL := am_ml z) (y := am_my z) (bytes := am_mc z) (ret := am_mr z) (Ts := am_W) (ws := am_wsM z) (ws' := am_W) (rm := am_rm d' (am_c r.2 - am_c σ) (am_s r.2 - am_s σ)) (mc := am_c r.2 - am_c σ) (ms := am_s r.2 - am_s σ) (am_nA z) cx.2.2.2.2.1 (am_good z hz) rfl rfl rfl hnl (cx.2.2.2.2.1 _ (am_ini (by omega))) ⟨n3, n4, n5⟩ ⟨by show d' + 1 + 1 ≤ _; omega, by show 8 + (am_ml z + 11) + 40 * (d' + 1) ≤ _; omega⟩
      exact am_callW (va_runSN (own := am_own (am_cM y)) (host := RX8) (As := am_ts B b as) (rest := am_ts B b st') ⟨cx.1, cx.2.1, cx.2.2.1, cx.2.2.2.1, cx.2.2.2.2.1⟩ hM
        ⟨hcn, cx.2.2.2.2.1 _ (am_st_in hst0), trivial⟩
        ⟨am_blind, fun U hU hW => ⟨rfl, hpre U hU hW⟩⟩ rfl hln hl.1 hst (by show 2 * 0 + ((st'.map (am_tr B b)).map fun v => v.category).sum ≤ 8; omega) (am_d_ok hd) ⟨by omega, by omega⟩) hS (am_after cx hmo hG hrec hl hI ec es)
  · exact (am_no hG rfl).elim
end AMC
