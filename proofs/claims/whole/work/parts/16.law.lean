/-! THE CLAIM OUT OF ONE WALK OF THE LAW'S BODY. Your part is whole_start (and what it stands on); all else here is the same for every law, but numbers. -/
def R_law : String := "FarCacheLineLaw"
def lw_P (b : Addr) (xs : List Int32) (args : Array Value) (s : State) : Prop := args = #[.ref b] ∧ s.IntsAt b xs ∧ xs.length ≤ 2561 ∧ (Jvm.Cond.and given_1 narrow_1).before args s = true
def lw_Q (_ : Array Value) (s : State) (o : Outcome) (t : State) : Prop := o = .returned (some (.int 1)) ∧ Framed s o t [] 601024 7293000
def lw_Z (below : List Frame) (a : Array Value) (s : State) : State → Prop := fun t => ∃ o, t.status = .running ∧ Ended t below o ∧ lw_Q a s o t
/-- the law's own end, with 1 on the stack, nothing written that was there before, its room as the claim has it -/
theorem lw_ret {p : Program} {l : Launch} {e : Env} {s : State} {m : MethodId} {below : List Frame} {meth : Method} {c : Code} {b : Nat} (hx : p.tables.exec = Jvm.exec) (hb : c.code = code) (hr : meth.sig.returnType = ret) (hlocks : meth.locks = false) {pc : Nat} {H : Heap} {ls : Array Slot} (hdg : decode code pc = .ok (.ireturn, 1)) : W p l e room_1 s m #[Value.ref b] below meth c H [] 601024 7293000 (lw_Z below #[Value.ref b] s) (F0 m pc ls [.int 1]) := by
  intro T hT X
  obtain ⟨fs, hret, hrun, hended, hW, hframe⟩ := X.leave (v := some (.int 1)) (hlocks := hlocks) (fun h => by rw [hr] at h; cases h)
  have hmeth' : T.vm.method? m = some meth := X.method'
  refine ⟨T.setFrames fs, ?_, .returned (some (.int 1)), hrun, hended, rfl, ⟨_, rfl⟩, hW, hframe⟩
  jvm_step X.here [X.here.top, hx, hb, hdg, hmeth', hr, ret, narrow_b1]
  (try refine ⟨rfl, ?_⟩); (try refine ⟨rfl, ?_⟩)
  first | (intro acts; rw [hret _ acts rfl rfl rfl]) | rw [hret _ _ rfl rfl rfl]
  exact Steps.refl _
/-- what holds at the law's entry: the machine, the code, the tables' words (any of lw_tbl by 'hts w (by decide +kernel)'), the script of L ints xs at the cell b, what the Statement gives of the start (any of its parts by flat_of_before) -/
def lw_At (p : Program) (s : State) (m : MethodId) (meth : Method) (c : Code) (b L : Nat) (xs : Nat → Int32) : Prop :=
  p.tables.exec = Jvm.exec ∧ c.code = code ∧ meth.sig.returnType = ret ∧ c.maxLocals = 7 ∧ s.vm.findClass R_law = some m.cls ∧ (∀ w ∈ lw_tbl, w.before #[Value.ref b] s = true) ∧ va_X b L xs s s.heap ∧ b < s.heap.size ∧ meth.locks = false ∧ (Jvm.Cond.and given_1 narrow_1).before #[Value.ref b] s = true

/-! THE LAW'S BODY: a run of the abstract machine through the law is followed by the machine's own -/
def am_s0 (L : Nat) (xs : Nat → Int32) : am_H := ((0, 0, 0, fun _ => (99, 0), fun _ _ => none, L, xs), fun _ _ => 0, fun _ _ => 0)
theorem am_MT_ok (f d : Nat) {l : Launch} {R : Room} {D : va_G} {ac : Nat → ClassId} {B b : Nat} (hf : d + 1 ≤ R.frames) (hl1 : 40 * (d + 1) ≤ R.locals) : am_MT l R D ac B b (am_exC f d) := by
  intro z as τ r hz hz98 hcat hc
  cases d with
  | zero => cases hc
  | succ d' =>
    have hc : am_ex f d' z 0 (am_args 0 as) [] τ = some r := hc
    have hmo := am_ex_mo hc
    obtain ⟨n1, n2, n3, n4, n5⟩ := am_nmA z (by omega)
    refine ⟨hmo, d', by omega, by omega, ?_⟩
    refine Met.ofW (cc := am_mc z) (maxL := am_ml z) (ret := am_mr z) n2 rfl ?_
    intro p e s m args below meth c s₁ Bd hml hv
    obtain ⟨rfl, hpre⟩ := hv
    have hts := atoms_spec (ws := am_wsM z) Bd.pre
    have hown : s.vm.findClass (am_my z).cls = some m.cls := findClass_of_methodNamed Bd.named
    have m1 := hmo.1
    have m2 := hmo.2.1
    have hcx : am_cx p (headSpec (am_wsM z) (am_rm d' (am_c r.2 - am_c τ) (am_s r.2 - am_s τ))).room s m (am_ts B b as).toArray meth c B (am_c τ) z :=
      ⟨Bd.exec, Bd.bytes, hml, by rw [← n1]; exact hown, fun w hw => hts w (List.mem_cons_of_mem _ hw), fun hn => (name_of_methodNamed Bd.named Bd.method).1.trans hn, by show 1 ≤ d' + 1; omega, by show 40 ≤ 40 * (d' + 1); omega, hpre.2⟩
    have hent := lv_entry (am_ts B b as) (n := am_ml z) (by rw [am_lg]; exact hcat)
    rw [lg_entry_eq]
    rw [← am_args_tl] at hent
    exact am_snd f d' z 0 (am_args 0 as) [] τ r hc hz hz98 _ _ _ _ _ _ _ _ _ _ _ _ _ _ _ (am_s τ) hcx Bd.returns Bd.notSynchronized (by show d' + 1 ≤ d' + 1; omega) (by show 40 * (d' + 1) ≤ 40 * (d' + 1); omega) (by show am_c r.2 ≤ am_c τ + (am_c r.2 - am_c τ); omega) (by show am_s r.2 ≤ am_s τ + (am_s r.2 - am_s τ); omega) s.heap [] _ 0 0 hent hpre.1 va_S.rf (by omega) (by omega)
/-- the law's call of its own method 'got' (which holds a handler) is followed -/
def am_GT (p : Program) (l : Launch) (e : Env) (s : State) (m : MethodId) (args : Array Value) (below : List Frame) (meth : Method) (c : Code) (Q : State → Prop) (D : va_G) (ac : Nat → ClassId) (B b : Nat) (res : am_r × am_H) : Prop :=
  ∀ (f pc idx z z2 : Nat) (lv : am_lv) (st : List Value) (σ : am_H), am_cx p room_1 s m args meth c B 0 181 → am_okP 181 pc (25, idx, z, z2) = true → am_G (am_exC f 11) (fun q lv st τ => am_ex f 11 181 q lv st τ) pc σ (am_p am_nA am_cM am_ml (25, idx, z, z2) pc lv st σ) = some res → (∀ q lv st τ, am_ex f 11 181 q lv st τ = some res → am_WW p l e room_1 s m args below meth c Q D ac B b 181 0 0 q lv st τ) → am_c res.2 ≤ 601024 → am_s res.2 ≤ 7293000 → am_WW p l e room_1 s m args below meth c Q D ac B b 181 0 0 pc lv st σ
set_option maxRecDepth 10000 in
theorem am_mc181 : am_mc 181 = code := rfl
theorem am_sndL {p : Program} {l : Launch} {e : Env} {s : State} {m : MethodId} {below : List Frame} {meth : Method} {c : Code} {D : va_G} {ac : Nat → ClassId} {b : Nat} {res : am_r × am_H} (cx : am_cx p room_1 s m #[Value.ref b] meth c s.heap.size 0 181) (hr : meth.sig.returnType = ret) (hlocks : meth.locks = false) (h1 : res.1.1 = 1) (hbc : am_c res.2 ≤ 601024) (hbs : am_s res.2 ≤ 7293000) (hgt : am_GT p l e s m #[Value.ref b] below meth c (lw_Z below #[Value.ref b] s) D ac s.heap.size b res) :
    ∀ (f pc : Nat) (lv : am_lv) (st : List Value) (σ : am_H), am_ex f 11 181 pc lv st σ = some res → am_WW p l e room_1 s m #[Value.ref b] below meth c (lw_Z below #[Value.ref b] s) D ac s.heap.size b 181 0 0 pc lv st σ
  | 0, pc, lv, st, σ, h => by cases h
  | f + 1, pc, lv, st, σ, h => by
    rw [am_ex_succ] at h
    unfold am_F at h
    cases hp : am_prog 181 pc with
    | none => rw [hp] at h; cases h
    | some q =>
      obtain ⟨i, t⟩ := q
      rw [hp] at h
      obtain ⟨-, hok⟩ := am_prog_ok hp
      suffices hw : am_WW p l e room_1 s m #[Value.ref b] below meth c (lw_Z below #[Value.ref b] s) D ac s.heap.size b 181 0 0 pc (am_trim t lv) st σ by
        intro H locs ls kc ks hl hI hS ec es
        exact hw H locs ls kc ks (am_trim_has hl) hI hS ec es
      have hMT : am_MT l room_1 D ac s.heap.size b (am_exC f 11) := am_MT_ok f 11 (by decide) (by decide)
      have hrec : ∀ q lv st τ, am_ex f 11 181 q lv st τ = some res → am_WW p l e room_1 s m #[Value.ref b] below meth c (lw_Z below #[Value.ref b] s) D ac s.heap.size b 181 0 0 q lv st τ := fun q lv st τ hq => am_sndL cx hr hlocks h1 hbc hbs hgt f q lv st τ hq
      have hm : ∀ q lv st τ, am_ex f 11 181 q lv st τ = some res → am_c τ ≤ am_c res.2 ∧ am_s τ ≤ am_s res.2 := fun q lv st τ hq => ⟨(am_ex_mo hq).1, (am_ex_mo hq).2.1⟩
      have hbc' : am_c res.2 ≤ 0 + room_1.cells := by show am_c res.2 ≤ 0 + 601024; omega
      have hbs' : am_s res.2 ≤ 0 + room_1.slots := by show am_s res.2 ≤ 0 + 7293000; omega
      cases i with
      | inl i =>
        refine am_stepI (rec := fun q lv st τ => am_ex f 11 181 q lv st τ) cx hok h hrec hm hbc' hbs' ?_
        intro i hi hoki hGi
        have hrt : am_rt 181 = 4 := by decide +kernel
        rcases hi with rfl | rfl | rfl | rfl
        · rcases st with _ | ⟨v, _ | ⟨w, st⟩⟩
          · exact (am_no hGi rfl).elim
          rotate_left
          · cases v <;> exact (am_no hGi rfl).elim
          cases v <;> try exact (am_no hGi rfl).elim
          rename_i x
          have hGi : (bif am_zb x then some ((x, 0, none), σ) else none) = some res := hGi
          obtain ⟨hz, rfl⟩ := am_bif (o := none) hGi
          have h1 : x = 1 := h1
          subst h1
          intro H locs ls kc ks hl hI hS ec es
          refine va_forget (fun q hq => hS.2.2 q hq) ?_
          have hb1 : am_c σ ≤ 601024 := hbc
          have hb2 : am_s σ ≤ 7293000 := hbs
          refine W.widen (k := 601024) (n := 7293000) (by omega) (by omega) ?_
          exact lw_ret cx.1 (cx.2.1.trans am_mc181) hr hlocks (by rw [← am_mc181]; exact am_d_ok hoki)
        · rcases st with _ | ⟨v, _ | ⟨w, st⟩⟩
          · exact (am_no hGi rfl).elim
          rotate_left
          · cases v <;> exact (am_no hGi rfl).elim
          cases v <;> exact (am_no hGi rfl).elim
        · rcases st with _ | ⟨v, _ | ⟨w, st⟩⟩
          · exact (am_no hGi rfl).elim
          rotate_left
          · cases v <;> exact (am_no hGi rfl).elim
          cases v <;> exact (am_no hGi rfl).elim
        · rcases st with _ | ⟨v, st⟩
          · exact (am_no hGi rfl).elim
          · exact (am_no hGi rfl).elim
      | inr x =>
        obtain ⟨w, idx, u, v⟩ := x
        refine am_stepP (rec := fun q lv st τ => am_ex f 11 181 q lv st τ) cx hok h hrec hm hbc' hbs' hMT ?_
        intro hw
        have hok : am_okP 181 pc (w, idx, u, v) = true := hok
        rcases hw with rfl | rfl | rfl
        · simp only [am_okP, Bool.and_eq_true] at hok
          exact absurd (Nat.eq_of_beq_eq_true hok.2.2.1) (by decide)
        · simp only [am_okP, Bool.and_eq_true] at hok
          exact absurd (Nat.eq_of_beq_eq_true hok.2.1) (by decide)
        · exact hgt f pc idx u v _ st σ cx hok h hrec hbc hbs
/-- the tables' words at the law's start give what the worlds rest on -/
theorem am_start {p : Program} {s : State} {m : MethodId} {meth : Method} {c : Code} {b L : Nat} {xs : Nat → Int32} (C0 : lw_At p s m meth c b L xs) : ∃ (D : va_G) (ac : Nat → ClassId), am_cx p room_1 s m #[Value.ref b] meth c s.heap.size 0 181 ∧ am_inv D ac s.heap.size b (am_s0 L xs) s s.heap s.heap := by
  obtain ⟨hx, hb, hr, hml, hown, hts, hX, hbl, hlocks, hgv⟩ := C0
  have htw : ∀ w ∈ am_W, w.before #[Value.ref b] s = true := fun w hw => hts w (List.mem_filter.mp hw).1
  have hk : ∀ ci : Nat, ∃ (cC : ClassId) (iS : Nat → Nat), ci < 10 → u_Kn s (am_Rn ci) (am_T ci) (am_N ci) cC iS := by
    intro ci
    by_cases hci : ci < 10
    · obtain ⟨cC, iS, h⟩ := u_known (C := am_Rn ci) (T := am_T ci) (N := am_N ci) (n := am_N ci) htw (am_lay_in hci) (htw _ (am_inst_in hci))
      exact ⟨cC, iS, fun _ => h⟩
    · exact ⟨0, fun _ => 0, fun h => absurd h hci⟩
  have harr : ∀ t : FieldType, (Cond.arrayClass t).before #[Value.ref b] s = true → ∃ cA : ClassId, ArrOfT s cA t ∧ s.vm.findClass ("[" ++ t.toString) = some cA := by
    intro t h
    obtain ⟨cA, kA, comp, h1, h2, h3⟩ := Cond.arrayClass_spec h
    exact ⟨cA, fun n z => ⟨fun k h => (by cases h), kA, h2, comp, h3⟩, h1⟩
  have hovr : ∀ C : String, (Cond.arrayOver (.object C)).before #[Value.ref b] s = true → ∃ cA : ClassId, ArrOfT s cA (.object C) ∧ va_RA s cA (.object C) := by
    intro C h
    obtain ⟨comp, cA, kA, h1, h2, h3, h4, h5⟩ := Cond.arrayOver_spec h
    exact ⟨cA, fun n z => ⟨fun k h => (by cases h), kA, h3, comp, h4⟩, kA, comp, h3, h4, h1, h5⟩
  obtain ⟨c1, a1, f1⟩ := harr .int (htw _ (am_W_of am_wa1 rfl))
  obtain ⟨c2, a2, f2⟩ := harr .long (htw _ (am_W_of am_wa2 rfl))
  obtain ⟨c3, a3, f3⟩ := harr .boolean (htw _ (am_W_of am_wa3 rfl))
  have o0 := hts _ (List.mem_of_getElem? am_wv0)
  have o1 := hts _ (List.mem_of_getElem? am_wv1)
  have o2 := hts _ (List.mem_of_getElem? am_wv2)
  obtain ⟨c4, a4, f4⟩ := hovr RX0 o0
  obtain ⟨c6, a6, f6⟩ := hovr RX2 o1
  obtain ⟨c8, a8, f8⟩ := hovr RX4 o2
  refine ⟨(fun ci => Classical.choose (hk ci), fun ci => Classical.choose (Classical.choose_spec (hk ci))), fun t => if t = 1 then c1 else if t = 2 then c2 else if t = 3 then c3 else if t = 4 then c4 else if t = 6 then c6 else c8, ?_, ?_⟩
  · exact ⟨hx, hb.trans am_mc181.symm, hml, hown, htw, fun h => absurd h (by decide +kernel), by decide, by decide, Nat.le_refl _, Nat.le_refl _⟩
  · refine ⟨⟨fun ci q hq => ?_, fun k q hq => ?_⟩, ⟨fun q hq => va_Nw.of rfl (hts _ (List.mem_of_getElem? (am_nlx_ok q hq))), va_AO.of o0, va_AO.of o1, va_AO.of o2⟩, fun k q hq => absurd (am_ws_to hq).1 (Nat.not_lt_zero k), fun k _ => rfl, Nat.le_refl _, hX, hbl⟩
    · have hci : ci < 10 := by
        have : ci < am_cl.length := (List.getElem?_eq_some_iff.mp hq).1
        exact this
      have e := am_cl_at ci hci
      rw [hq] at e
      cases Option.some.inj e
      exact Classical.choose_spec (Classical.choose_spec (hk ci)) hci
    · match k, hq with
      | 0, hq => cases hq; exact ⟨a1, f1⟩
      | 1, hq => cases hq; exact ⟨a2, f2⟩
      | 2, hq => cases hq; exact ⟨a3, f3⟩
      | 3, hq => cases hq; exact ⟨a4, f4⟩
      | 4, hq => cases hq; exact ⟨a6, f6⟩
      | 5, hq => cases hq; exact ⟨a8, f8⟩
