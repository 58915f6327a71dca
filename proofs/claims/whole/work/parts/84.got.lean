/-! THE CALL THAT MAY THROW: the table's words behind a throw at any later start; a handler's class, cold or warm; a callee walked in place -/
/-- a later state: its tables are the first one's, warmed; the first one's cells are as they were -/
def th_at (s U : State) : Prop := s.WarmedH U.vm ∧ ∀ q : Nat, q < s.heap.size → U.heap[q]? = s.heap[q]?
theorem th_at.heap {s U : State} (h : th_at s U) {o : Option Addr} {cell : Cell} (hc : o.bind (s.heap[·]?) = some cell) : o.bind (U.heap[·]?) = some cell := by
  cases o with
  | none => cases hc
  | some q =>
    have hc : s.heap[q]? = some cell := hc
    show U.heap[q]? = some cell
    rw [h.2 q (Array.getElem?_eq_some_iff.mp hc).1]
    exact hc
theorem th_face {args a' : Array Value} {s U : State} (h : th_at s U) {x : MethodName} (hc : (Cond.declares x).before args s = true) : (Cond.declares x).before a' U = true := by
  have h1 := Cond.faceAtom_setVm (args := args) h.1.alike (.declares x) rfl hc
  exact h1
theorem th_cast {args a' : Array Value} {s U : State} (h : th_at s U) {x y : String} (hc : (Cond.castable x y).before args s = true) : (Cond.castable x y).before a' U = true := by
  have h1 := Cond.faceAtom_setVm (args := args) h.1.alike (.castable x y) rfl hc
  exact h1
theorem th_static {args a' : Array Value} {s U : State} (h : th_at s U) {o n d : String} (hc : (Cond.laysStatic o n d).before args s = true) : (Cond.laysStatic o n d).before a' U = true := by
  have h1 : (Cond.laysStatic o n d).value args (s.setVm U.vm) none (s.setVm U.vm) [] = (Cond.laysStatic o n d).value args s none s [] := Cond.value_setVm h.1.alike (.laysStatic o n d) [] rfl
  have h2 : ((Cond.laysStatic o n d).value args (s.setVm U.vm) none (s.setVm U.vm) [] == some true) = true := by rw [h1]; exact hc
  have h3 : (s.setVm U.vm).fieldFound? o n d = U.fieldFound? o n d := rfl
  have h4 : (s.setVm U.vm).vm.findClass o = U.vm.findClass o := rfl
  show ((Cond.laysStatic o n d).value a' U none U [] == some true) = true
  simp only [Cond.value, h3, h4] at h2 ⊢
  split at h2
  · rename_i c c' k i f e1 e2
    cases e3 : k.statics.bind ((s.setVm U.vm).heap[·]?) with
    | none => rw [e3] at h2; cases h2
    | some cell =>
      rw [e3] at h2
      rw [h.heap (o := k.statics) e3]
      exact h2
  · cases h2
theorem th_isRef {args a' : Array Value} {s U : State} (h : th_at s U) {o n d : String} (hc : (Cond.isRef (.static o n d)).before args s = true) : (Cond.isRef (.static o n d)).before a' U = true := by
  have h1 : (Cond.isRef (.static o n d)).value args (s.setVm U.vm) none (s.setVm U.vm) [] = (Cond.isRef (.static o n d)).value args s none s [] := Cond.value_setVm h.1.alike (.isRef (.static o n d)) [] rfl
  have h2 : ((Cond.isRef (.static o n d)).value args (s.setVm U.vm) none (s.setVm U.vm) [] == some true) = true := by rw [h1]; exact hc
  have h3 : (s.setVm U.vm).fieldNamed? o n d true = U.fieldNamed? o n d true := rfl
  show ((Cond.isRef (.static o n d)).value a' U none U [] == some true) = true
  simp only [Cond.value, Term.eval, h3] at h2 ⊢
  cases e1 : U.fieldNamed? o n d true with
  | none => rw [e1] at h2; cases h2
  | some q =>
    rw [e1] at h2
    obtain ⟨c, k, slot⟩ := q
    simp only [Option.bind_eq_bind, Option.bind_some] at h2 ⊢
    cases e2 : k.statics with
    | none => rw [e2] at h2; cases h2
    | some z =>
      rw [e2] at h2
      simp only [Option.bind_some] at h2 ⊢
      cases e3 : (s.setVm U.vm).heap[z]? with
      | none => rw [e3] at h2; cases h2
      | some cell =>
        rw [e3] at h2
        have e4 : U.heap[z]? = some cell := h.heap (o := some z) e3
        rw [e4]
        exact h2
theorem th_str {args a' : Array Value} {s U : State} (h : th_at s U) {o t : String} {i : Nat} (hc : (Cond.stringRef o i t).before args s = true) : (Cond.stringRef o i t).before a' U = true := by
  have h1 := Cond.stringRef_warmed h.1 hc
  exact h1
theorem th_good {args a' : Array Value} {s U : State} (h : th_at s U) {w : Cond} (hg : goodWord w = true) (hc : w.before args s = true) : w.before a' U = true := word_at h.1 (good_of_word hg) hc
def th_X : String := "java/lang/ArrayIndexOutOfBoundsException"
def th_up : List String := ["java/lang/IndexOutOfBoundsException", "java/lang/RuntimeException", "java/lang/Exception"]
def th_own : List Cond := Bundle.ownAtoms "FarCacheLine" 171 th_X th_up
def th_ix : List Nat := [92, 838, 847, 849, 852, 854, 839, 840, 103, 104, 841, 846, 850, 873, 828, 874, 830, 875, 832, 842, 843, 844, 845, 834, 869, 870, 872, 834, 857, 858, 859, 860, 818, 860, 861, 862, 863, 820, 863, 864, 865, 866, 822, 866, 867, 868, 869, 824, 856, 815, 816, 825, 826, 827, 829, 831, 833, 9999, 9999, 837, 836, 835]
def th_r1 : Cond := .isRef (.static "java/lang/Throwable" "UNASSIGNED_STACK" "[Ljava/lang/StackTraceElement;")
def th_r2 : Cond := .isRef (.static "java/lang/Throwable" "SUPPRESSED_SENTINEL" "Ljava/util/List;")
def th_fit (a : Cond) : Bool := match a with
  | .declares _ => true
  | .castable _ _ => true
  | .laysStatic _ _ _ => true
  | a => goodWord a
def th_ok (k : Nat) : Bool := match th_own[k]?, th_ix[k]? with
  | some a, some i => decide (a = th_r1) || decide (a = th_r2) || (th_fit a && decide (lw_tbl[i]? = some a))
  | _, _ => false
set_option maxRecDepth 100000 in
theorem th_all : ∀ k, k < 62 → th_ok k = true := by decide +kernel
set_option maxRecDepth 100000 in
theorem th_len : th_own.length = 62 := by decide +kernel
theorem th_move {args a' : Array Value} {s U : State} (h : th_at s U) {a : Cond} (hf : th_fit a = true) (hc : a.before args s = true) : a.before a' U = true := by
  unfold th_fit at hf
  split at hf
  · exact th_face h hc
  · exact th_cast h hc
  · exact th_static h hc
  · exact th_good h hf hc
theorem th_owns {args a' : Array Value} {s U : State} (h : th_at s U) (hts : ∀ w ∈ lw_tbl, w.before args s = true) (r1 : th_r1.before args s = true) (r2 : th_r2.before args s = true) : ∀ a ∈ th_own, a.before a' U = true := by
  intro a ha
  obtain ⟨k, hk⟩ := List.getElem?_of_mem ha
  have hlt : k < 62 := by
    have := (List.getElem?_eq_some_iff.mp hk).1
    rw [th_len] at this
    exact this
  have hok := th_all k hlt
  unfold th_ok at hok
  rw [hk] at hok
  cases hi : th_ix[k]? with
  | none => rw [hi] at hok; cases hok
  | some i =>
    rw [hi] at hok
    simp only [Bool.or_eq_true, Bool.and_eq_true, decide_eq_true_eq] at hok
    rcases hok with (rfl | rfl) | ⟨h1, h2⟩
    · exact th_isRef h r1
    · exact th_isRef h r2
    · exact th_move h h1 (hts _ (List.mem_of_getElem? h2))
set_option maxRecDepth 100000 in
theorem th_w855 : lw_tbl[855]? = some (.stringRef "FarCacheLine" 169 "no such byte has come") := by decide +kernel
set_option maxRecDepth 100000 in
theorem th_w814 : lw_tbl[814]? = some (.classLink "FarCacheLine" 167 th_X) := by decide +kernel
set_option maxRecDepth 100000 in
theorem th_w809 : lw_tbl[809]? = some (.classLink "FarCacheLineLaw" 13 th_X) := by decide +kernel
set_option maxRecDepth 100000 in
theorem th_w96 : lw_tbl[96]? = some (.initialized th_X) := by decide +kernel
set_option maxRecDepth 100000 in
theorem th_w808 : lw_tbl[808]? = some (.codeWith (am_my 180) (am_mc 180) (am_ml 180) (am_mr 180) [(0, 10, 13, 13)]) := by decide +kernel
set_option maxRecDepth 100000 in
theorem th_w811 : lw_tbl[811]? = some (.instanceMethod (am_my 98)) := by decide +kernel
set_option maxRecDepth 100000 in
theorem th_w812 : lw_tbl[812]? = some (.selects (am_own (am_cM 98)) (am_my 98) (am_my 98)) := by decide +kernel
set_option maxRecDepth 100000 in
theorem th_w807 : lw_tbl[807]? = some (.static (am_my 180)) := by decide +kernel
set_option maxRecDepth 100000 in
theorem th_w79 : lw_tbl[79]? = some (.initialized (am_my 180).cls) := by decide +kernel
/-! a handler's class, cold or warm, in a table of one entry -/
theorem th_find {e : Env} {s : State} {f : JFrame} {a : Addr} {meth : Method} {code : Code} {x : ExceptionTableEntry} {c : ClassId} {cell : Cell} (hm : s.vm.method? f.method = some meth) (hc : meth.code = some code) (ht : code.exceptionTable.toList = [x])
    (hx : covers x f.pc = true) (h0 : x.catchType ≠ 0) (hl : s.vm.ClassLinks e.platform f.method.cls x.catchType c) (hcell : s.heap[a]? = some cell) (hobj : ∀ k, cell.vm ≠ .statics k)
    (hk : ∃ k, s.vm.classes[cell.cls]? = some k) (hcl : ∃ k, s.vm.classes[c]? = some k) (hfit : s.vm.assignable cell.cls c = true) (Q : Handler → Pre) (E : CtlPost) (d : Bool) (acts : List Action) :
    Sem.wp (findHandler f a) Q E e d acts s ↔ Q (.found x.handlerPc) d acts (s.setVm (s.vm.noted f.method.cls x.catchType (.cls c))) := by
  rw [W.findHandler_eq hm hc, ht]
  have hal : s.vm.Alike (s.vm.noted f.method.cls x.catchType (.cls c)) := (Vm.Alike.refl s.vm).noted _ _ _
  obtain ⟨r1, r2⟩ := (resolveClass_links e.toSetting hl).op (op := VmOp.resolveClass f.method.cls x.catchType) rfl
  obtain ⟨k1, q1⟩ := hk
  obtain ⟨k2, q2⟩ := hcl
  obtain ⟨k3, q3, -⟩ := hal.2.2 _ _ q1
  obtain ⟨k4, q4, -⟩ := hal.2.2 _ _ q2
  have q5 := hal.assignable cell.cls c
  rw [hfit] at q5
  unfold covers at hx
  simp [findHandler.go, hx, h0, r1, r2, hcell, hobj, q3, q4, q5, VmOp.dirties, VmOp.acts]
theorem th_caught {tb : Tables} {e : Env} {s target : State} {g : JFrame} {c : Code} {below : List Frame} {a : Addr} (h : At s g.method c below) {pc : Nat} {vm' : Vm}
    (hfind : ∀ (Q : Handler → Pre) (E : CtlPost) (d : Bool) (acts : List Action), Sem.wp (findHandler g a) Q E e d acts ((s.setTop g).pushFrame (.throwing a)) ↔ Q (.found pc) d acts (((s.setTop g).pushFrame (.throwing a)).setVm vm'))
    (hrest : Steps tb e below ((s.setVm vm').setTop { g with pc := pc, stack := [.ref a] }) target) :
    Steps tb e below ((s.setTop g).pushFrame (.throwing a)) target := by
  obtain ⟨h1, h2⟩ := h.throwing a
  obtain ⟨g0, hg0⟩ := Option.isSome_iff_exists.mp h.top
  obtain ⟨r, hr⟩ := State.topJava?_eq_some.mp hg0
  refine Steps.head h1 h2 ?_
  rw [stepThread_throwing (frames_entered h.top _)]
  have key : (stepThrowing e ((s.setTop g).pushFrame (.throwing a)) a (.java g :: s.frames.tail)).1 = (s.setVm vm').setTop { g with pc := pc, stack := [.ref a] } := by
    simp only [stepThrowing, searchFrame, vmDo]
    generalize hgo : Sem.go _ e false [] ((s.setTop g).pushFrame (.throwing a)) = y
    obtain ⟨as, rfl, -⟩ := Sem.eq_ok_of hgo (a := Handler.found pc) (s' := ((s.setTop g).pushFrame (.throwing a)).setVm vm') (acts' := []) (by simp [hfind _ _ _ _])
    rw [State.setTop_of_frames _ (show (s.setVm vm').frames = .java g0 :: r from hr), hr]
    rw [State.pushFrame, State.setTop_of_frames _ hr]
    simp only [List.tail_cons]
    have e1 : ∀ (F G : List Frame), ((s.setFrames F).setVm vm').setFrames G = (s.setVm vm').setFrames G := fun F G => State.setFrames_setFrames (s.setVm vm') F G
    rw [State.setFrames_setFrames]
    exact e1 _ _
  rw [key]
  exact hrest
/-- a callee walked in place: from the call's own step to what its walk comes to -/
theorem th_into {p : Program} {l : Launch} {e : Env} {R : Room} {s : State} {m : MethodId} {args : Array Value} {below : List Frame} {meth : Method} {c : Code} {T : State} {locs : List Loc} {cells slots : Nat} (X : Stand p l e R s m args below meth c T locs cells slots) {g : JFrame} (hg : g.method = m) (hsize : g.locals.size = c.maxLocals) {ig : Instr} {len : Nat} (hdg : decode c.code g.pc = .ok (ig, len))
    {mk : MethodId} {methk : Method} {ck : Code} (a : Array Value) {R' : Room} (hmk : T.vm.method? mk = some methk) (hck : methk.code = some ck) (hlk : methk.locks = false) (hpk : T.plainMethod mk)
    (hframes : R'.frames + 1 ≤ R.frames) (hlocals : 2 * g.monitorRoom + (g.stack.map fun v => v.category).sum + (ck.maxLocals + 11) + R'.locals ≤ R.locals) (hcells : cells + R'.cells ≤ R.cells) (hslots : slots + R'.slots ≤ R.slots)
    {Q : State → Prop} (hw : W p l e R' (T.calling g mk a) mk a (.java g :: below) methk ck T.heap [] 0 0 Q (entryFrame mk a ck.maxLocals)) :
    ∃ t, (∀ acts, Steps p.tables e below (doInvoke e (T.setTop g) acts mk a).1 t) ∧ Q t := by
  obtain ⟨Y, hin⟩ := X.into hg hsize hdg a hmk hck hlk hpk hframes hlocals hcells hslots
  obtain ⟨t, hst, hQ⟩ := hw ((T.setTop g).pushFrame (.java (entryFrame mk a ck.maxLocals))) (by simp [State.pushFrame, State.setFrames, State.setTop, State.modifyTopJava]) Y
  exact ⟨t, fun acts => by rw [hin acts]; exact Steps.weaken (mid := [.java g]) hst, hQ⟩
theorem W.mono {p : Program} {l : Launch} {e : Env} {R : Room} {s : State} {m : MethodId} {args : Array Value} {below : List Frame} {meth : Method} {c : Code} {H : Heap} {locs : List Loc} {cells slots : Nat} {Q Q' : State → Prop} {g : JFrame} (h : ∀ t, Q t → Q' t) (w : W p l e R s m args below meth c H locs cells slots Q g) : W p l e R s m args below meth c H locs cells slots Q' g := by
  intro T hT X
  obtain ⟨t, a, b⟩ := w T hT X
  exact ⟨t, a, h t b⟩
/-! WALKS THAT ONLY READ: what holds of the heap, of what was written and of the memory stays (Z) -/
def am_WZ (Z : Heap → List Loc → am_H → Prop) (p : Program) (l : Launch) (e : Env) (R : Room) (s : State) (m : MethodId) (args : Array Value) (below : List Frame) (meth : Method) (c : Code) (Q : State → Prop) (D : va_G) (ac : Nat → ClassId) (B b y c0 s0 : Nat) (pc : Nat) (lv : am_lv) (st : List Value) (σ : am_H) : Prop :=
  ∀ (H : Heap) (locs : List Loc) (ls : Array Slot) (kc ks : Nat), Z H locs σ → lv_has ls (am_ml y) (am_tl B b lv) → am_inv D ac B b σ s s.heap H → va_S (fun q => B ≤ q) s.heap H locs → kc + c0 = am_c σ → ks + s0 = am_s σ → W p l e R s m args below meth c H locs kc ks Q (F0 m pc ls (am_ts B b st))
section AMZ
variable {Z : Heap → List Loc → am_H → Prop} {p : Program} {l : Launch} {e : Env} {R : Room} {s : State} {m : MethodId} {args : Array Value} {below : List Frame} {meth : Method} {c : Code} {Q : State → Prop} {D : va_G} {ac : Nat → ClassId} {B b y c0 s0 : Nat} {pc : Nat} {lv : am_lv} {st : List Value} {σ : am_H} {res : am_r × am_H} {call : Nat → List Value → am_H → am_X} {rec : Nat → am_lv → List Value → am_H → am_X}
theorem am_z_iload_n {k : Fin 4} (cx : am_cx p R s m args meth c B c0 y) (hok : am_okI y pc (.iload_n k) = true) (hG : am_G call rec pc σ (am_i (.iload_n k) (am_rt y) pc lv st σ) = some res) (hrec : ∀ q lv st τ, rec q lv st τ = some res → am_WZ Z p l e R s m args below meth c Q D ac B b y c0 s0 q lv st τ) : am_WZ Z p l e R s m args below meth c Q D ac B b y c0 s0 pc lv st σ := by
  dsimp only [am_i] at hG
  split at hG
  · rename_i x hg
    intro H locs ls kc ks hZ hl hI hS ec es
    exact lv_iload_n cx.1 cx.2.1 (am_d_ok hok) rfl (am_lget hl hg) (hrec _ _ _ _ hG H locs ls kc ks hZ hl hI hS ec es)
  · exact (am_no hG rfl).elim
theorem am_z_aload_n {k : Fin 4} (cx : am_cx p R s m args meth c B c0 y) (hok : am_okI y pc (.aload_n k) = true) (hG : am_G call rec pc σ (am_i (.aload_n k) (am_rt y) pc lv st σ) = some res) (hrec : ∀ q lv st τ, rec q lv st τ = some res → am_WZ Z p l e R s m args below meth c Q D ac B b y c0 s0 q lv st τ) : am_WZ Z p l e R s m args below meth c Q D ac B b y c0 s0 pc lv st σ := by
  dsimp only [am_i] at hG
  split at hG
  · rename_i x hg
    intro H locs ls kc ks hZ hl hI hS ec es
    exact lv_aload_n cx.1 cx.2.1 (am_d_ok hok) rfl (am_lget hl hg) (hrec _ _ _ _ hG H locs ls kc ks hZ hl hI hS ec es)
  · rename_i hg
    intro H locs ls kc ks hZ hl hI hS ec es
    exact lv_aload_nN cx.1 cx.2.1 (am_d_ok hok) rfl (am_lget hl hg) (hrec _ _ _ _ hG H locs ls kc ks hZ hl hI hS ec es)
  · rename_i x hg
    intro H locs ls kc ks hZ hl hI hS ec es
    exact lv_aload_n cx.1 cx.2.1 (am_d_ok hok) rfl (am_lget hl hg) (hrec _ _ _ _ hG H locs ls kc ks hZ hl hI hS ec es)
  · exact (am_no hG rfl).elim
theorem am_z_astore_n {k : Fin 4} (cx : am_cx p R s m args meth c B c0 y) (hok : am_okI y pc (.astore_n k) = true) (hG : am_G call rec pc σ (am_i (.astore_n k) (am_rt y) pc lv st σ) = some res) (hrec : ∀ q lv st τ, rec q lv st τ = some res → am_WZ Z p l e R s m args below meth c Q D ac B b y c0 s0 q lv st τ) : am_WZ Z p l e R s m args below meth c Q D ac B b y c0 s0 pc lv st σ := by
  have hok := Bool.and_eq_true _ _ ▸ hok
  rcases st with _ | ⟨v, st⟩
  · exact (am_no hG rfl).elim
  cases v <;> try exact (am_no hG rfl).elim
  · intro H locs ls kc ks hZ hl hI hS ec es
    exact lv_astore_nN cx.1 cx.2.1 (am_d_ok hok.1) rfl hl (of_decide_eq_true hok.2) rfl (fun ls hl => hrec _ _ _ _ hG H locs ls kc ks hZ (am_set1 (v := .null) rfl hl) hI hS ec es)
  · rename_i x
    intro H locs ls kc ks hZ hl hI hS ec es
    exact lv_astore_n cx.1 cx.2.1 (am_d_ok hok.1) rfl hl (of_decide_eq_true hok.2) rfl (fun ls hl => hrec _ _ _ _ hG H locs ls kc ks hZ (am_set1 (v := .ref x) rfl hl) hI hS ec es)
theorem am_z_aconst_null (cx : am_cx p R s m args meth c B c0 y) (hok : am_okI y pc (.aconst_null) = true) (hG : am_G call rec pc σ (am_i (.aconst_null) (am_rt y) pc lv st σ) = some res) (hrec : ∀ q lv st τ, rec q lv st τ = some res → am_WZ Z p l e R s m args below meth c Q D ac B b y c0 s0 q lv st τ) : am_WZ Z p l e R s m args below meth c Q D ac B b y c0 s0 pc lv st σ := by
  intro H locs ls kc ks hZ hl hI hS ec es
  exact lv_null cx.1 cx.2.1 (am_d_ok hok) (hrec _ _ _ _ hG H locs ls kc ks hZ hl hI hS ec es)
theorem am_z_dup (cx : am_cx p R s m args meth c B c0 y) (hok : am_okI y pc (.dup) = true) (hG : am_G call rec pc σ (am_i (.dup) (am_rt y) pc lv st σ) = some res) (hrec : ∀ q lv st τ, rec q lv st τ = some res → am_WZ Z p l e R s m args below meth c Q D ac B b y c0 s0 q lv st τ) : am_WZ Z p l e R s m args below meth c Q D ac B b y c0 s0 pc lv st σ := by
  rcases st with _ | ⟨v, st⟩
  · exact (am_no hG rfl).elim
  cases v <;> try exact (am_no hG rfl).elim
  · intro H locs ls kc ks hZ hl hI hS ec es
    exact lv_dup cx.1 cx.2.1 (am_d_ok hok) rfl (hrec _ _ _ _ hG H locs ls kc ks hZ hl hI hS ec es)
  · intro H locs ls kc ks hZ hl hI hS ec es
    exact lv_dup cx.1 cx.2.1 (am_d_ok hok) rfl (hrec _ _ _ _ hG H locs ls kc ks hZ hl hI hS ec es)
theorem am_z_goto {o : Int} (cx : am_cx p R s m args meth c B c0 y) (hok : am_okI y pc (.goto o) = true) (hG : am_G call rec pc σ (am_i (.goto o) (am_rt y) pc lv st σ) = some res) (hrec : ∀ q lv st τ, rec q lv st τ = some res → am_WZ Z p l e R s m args below meth c Q D ac B b y c0 s0 q lv st τ) : am_WZ Z p l e R s m args below meth c Q D ac B b y c0 s0 pc lv st σ := by
  have hok := Bool.and_eq_true _ _ ▸ hok
  intro H locs ls kc ks hZ hl hI hS ec es
  exact lv_goto cx.1 cx.2.1 (am_d_ok hok.1) (am_tgt_ok hok.2) (hrec _ _ _ _ hG H locs ls kc ks hZ hl hI hS ec es)
theorem am_z_if_lt {o : Int} (cx : am_cx p R s m args meth c B c0 y) (hok : am_okI y pc (.ifCond .lt o) = true) (hG : am_G call rec pc σ (am_i (.ifCond .lt o) (am_rt y) pc lv st σ) = some res) (hrec : ∀ q lv st τ, rec q lv st τ = some res → am_WZ Z p l e R s m args below meth c Q D ac B b y c0 s0 q lv st τ) : am_WZ Z p l e R s m args below meth c Q D ac B b y c0 s0 pc lv st σ := by
  have hok := Bool.and_eq_true _ _ ▸ hok
  rcases st with _ | ⟨v, st⟩
  · exact (am_no hG rfl).elim
  cases v <;> try exact (am_no hG rfl).elim
  rename_i x
  have hb := am_br (res := res) (show am_sw (fun q => rec q lv st σ) [(decide (x < 0), am_tgt pc o)] (pc + 3) = some res from hG)
  intro H locs ls kc ks hZ hl hI hS ec es
  refine lv_if_lt cx.1 cx.2.1 (am_d_ok hok.1) (am_tgt_ok hok.2) (fun hc => ?_) (fun hc => ?_)
  · exact hrec _ _ _ _ (hb.1 hc) H locs ls kc ks hZ hl hI hS ec es
  · exact hrec _ _ _ _ (hb.2 hc) H locs ls kc ks hZ hl hI hS ec es
theorem am_z_icmp_ge {o : Int} (cx : am_cx p R s m args meth c B c0 y) (hok : am_okI y pc (.if_icmp .ge o) = true) (hG : am_G call rec pc σ (am_i (.if_icmp .ge o) (am_rt y) pc lv st σ) = some res) (hrec : ∀ q lv st τ, rec q lv st τ = some res → am_WZ Z p l e R s m args below meth c Q D ac B b y c0 s0 q lv st τ) : am_WZ Z p l e R s m args below meth c Q D ac B b y c0 s0 pc lv st σ := by
  have hok := Bool.and_eq_true _ _ ▸ hok
  rcases st with _ | ⟨v, _ | ⟨w, st⟩⟩
  · exact (am_no hG rfl).elim
  · cases v <;> exact (am_no hG rfl).elim
  cases v <;> cases w <;> try exact (am_no hG rfl).elim
  rename_i yv x
  have hb := am_br (res := res) (show am_sw (fun q => rec q lv st σ) [(decide (yv ≤ x), am_tgt pc o)] (pc + 3) = some res from hG)
  intro H locs ls kc ks hZ hl hI hS ec es
  refine lv_icmp_ge cx.1 cx.2.1 (am_d_ok hok.1) (am_tgt_ok hok.2) (fun hc => ?_) (fun hc => ?_)
  · exact hrec _ _ _ _ (hb.1 hc) H locs ls kc ks hZ hl hI hS ec es
  · exact hrec _ _ _ _ (hb.2 hc) H locs ls kc ks hZ hl hI hS ec es
theorem am_z_icmp_ne {o : Int} (cx : am_cx p R s m args meth c B c0 y) (hok : am_okI y pc (.if_icmp .ne o) = true) (hG : am_G call rec pc σ (am_i (.if_icmp .ne o) (am_rt y) pc lv st σ) = some res) (hrec : ∀ q lv st τ, rec q lv st τ = some res → am_WZ Z p l e R s m args below meth c Q D ac B b y c0 s0 q lv st τ) : am_WZ Z p l e R s m args below meth c Q D ac B b y c0 s0 pc lv st σ := by
  have hok := Bool.and_eq_true _ _ ▸ hok
  rcases st with _ | ⟨v, _ | ⟨w, st⟩⟩
  · exact (am_no hG rfl).elim
  · cases v <;> exact (am_no hG rfl).elim
  cases v <;> cases w <;> try exact (am_no hG rfl).elim
  rename_i yv x
  have hb := am_br (res := res) (show am_sw (fun q => rec q lv st σ) [(decide (¬ x = yv), am_tgt pc o)] (pc + 3) = some res from hG)
  intro H locs ls kc ks hZ hl hI hS ec es
  refine lv_icmp_ne cx.1 cx.2.1 (am_d_ok hok.1) (am_tgt_ok hok.2) (fun hc => ?_) (fun hc => ?_)
  · exact hrec _ _ _ _ (hb.1 hc) H locs ls kc ks hZ hl hI hS ec es
  · exact hrec _ _ _ _ (hb.2 (fun h => h hc)) H locs ls kc ks hZ hl hI hS ec es
theorem am_z_icmp_lt {o : Int} (cx : am_cx p R s m args meth c B c0 y) (hok : am_okI y pc (.if_icmp .lt o) = true) (hG : am_G call rec pc σ (am_i (.if_icmp .lt o) (am_rt y) pc lv st σ) = some res) (hrec : ∀ q lv st τ, rec q lv st τ = some res → am_WZ Z p l e R s m args below meth c Q D ac B b y c0 s0 q lv st τ) : am_WZ Z p l e R s m args below meth c Q D ac B b y c0 s0 pc lv st σ := by
  have hok := Bool.and_eq_true _ _ ▸ hok
  rcases st with _ | ⟨v, _ | ⟨w, st⟩⟩
  · exact (am_no hG rfl).elim
  · cases v <;> exact (am_no hG rfl).elim
  cases v <;> cases w <;> try exact (am_no hG rfl).elim
  rename_i yv x
  have hb := am_br (res := res) (show am_sw (fun q => rec q lv st σ) [(decide (x < yv), am_tgt pc o)] (pc + 3) = some res from hG)
  intro H locs ls kc ks hZ hl hI hS ec es
  refine lv_icmp_lt cx.1 cx.2.1 (am_d_ok hok.1) (am_tgt_ok hok.2) (fun hc => ?_) (fun hc => ?_)
  · exact hrec _ _ _ _ (hb.1 hc) H locs ls kc ks hZ hl hI hS ec es
  · exact hrec _ _ _ _ (hb.2 hc) H locs ls kc ks hZ hl hI hS ec es
theorem am_z_ifnull {o : Int} (cx : am_cx p R s m args meth c B c0 y) (hok : am_okI y pc (.ifnull o) = true) (hG : am_G call rec pc σ (am_i (.ifnull o) (am_rt y) pc lv st σ) = some res) (hrec : ∀ q lv st τ, rec q lv st τ = some res → am_WZ Z p l e R s m args below meth c Q D ac B b y c0 s0 q lv st τ) : am_WZ Z p l e R s m args below meth c Q D ac B b y c0 s0 pc lv st σ := by
  have hok := Bool.and_eq_true _ _ ▸ hok
  rcases st with _ | ⟨v, st⟩
  · exact (am_no hG rfl).elim
  cases v <;> try exact (am_no hG rfl).elim
  · intro H locs ls kc ks hZ hl hI hS ec es
    exact lv_ifnullN cx.1 cx.2.1 (am_d_ok hok.1) (am_tgt_ok hok.2) (hrec _ _ _ _ hG H locs ls kc ks hZ hl hI hS ec es)
  · intro H locs ls kc ks hZ hl hI hS ec es
    exact lv_ifnull cx.1 cx.2.1 (am_d_ok hok.1) (hrec _ _ _ _ hG H locs ls kc ks hZ hl hI hS ec es)
theorem am_z_iaload (cx : am_cx p R s m args meth c B c0 y) (hok : am_okI y pc (.iaload) = true) (hG : am_G call rec pc σ (am_i (.iaload) (am_rt y) pc lv st σ) = some res) (hrec : ∀ q lv st τ, rec q lv st τ = some res → am_WZ Z p l e R s m args below meth c Q D ac B b y c0 s0 q lv st τ) : am_WZ Z p l e R s m args below meth c Q D ac B b y c0 s0 pc lv st σ := by
  rcases st with _ | ⟨v, _ | ⟨w, st⟩⟩
  · exact (am_no hG rfl).elim
  · cases v <;> exact (am_no hG rfl).elim
  cases v <;> cases w <;> try exact (am_no hG rfl).elim
  · rename_i j k
    obtain ⟨x, hx, hG⟩ := am_bindE (o := am_ldI σ k 1 j) hG
    obtain ⟨hsh, hin, rfl⟩ := am_ldI_some hx
    intro H locs ls kc ks hZ hl hI hS ec es
    have hk := hI.2.2.2.1.lt hsh (by decide)
    have hw := am_ws_at (ac := ac) (B := B) hk
    rw [am_e1 hsh] at hw
    exact va_iald cx.1 cx.2.1 hI.1 hI.2.2.1 k 0 hw rfl hin (am_d_ok hok) (hrec _ _ _ _ hG H locs ls kc ks hZ hl hI hS ec es)
  · rename_i j k
    obtain ⟨x, hx, hG⟩ := am_bindE (o := am_ldS σ j) hG
    obtain ⟨hin, rfl⟩ := am_ldS_some hx
    intro H locs ls kc ks hZ hl hI hS ec es
    exact va_sld (A := fun q => B ≤ q) cx.1 cx.2.1 hI.2.2.2.2.2.1 (by have := cx.2.2.2.2.2.2.2.2; have := hI.2.2.2.2.2.2; omega) (Nat.not_le.mpr hI.2.2.2.2.2.2) hS hin (am_d_ok hok) (hrec _ _ _ _ hG H locs ls kc ks hZ hl hI hS ec es)
theorem am_z_p0 {idx ci j : Nat} (cx : am_cx p R s m args meth c B c0 y) (hok : am_okP y pc (0, idx, ci, j) = true) (hG : am_G call rec pc σ (am_p am_nA am_cM am_ml (0, idx, ci, j) pc lv st σ) = some res) (hrec : ∀ q lv st τ, rec q lv st τ = some res → am_WZ Z p l e R s m args below meth c Q D ac B b y c0 s0 q lv st τ) : am_WZ Z p l e R s m args below meth c Q D ac B b y c0 s0 pc lv st σ := by
  simp only [am_okP, Bool.and_eq_true, Bool.or_eq_true, decide_eq_true_eq] at hok
  obtain ⟨hd, hfl, hci, hj, hfk⟩ := hok
  rcases st with _ | ⟨v, st⟩
  · exact (am_no hG rfl).elim
  cases v <;> try exact (am_no hG rfl).elim
  rename_i k
  obtain ⟨x, hx, hG⟩ := am_bindE (o := am_gI σ k ci j) hG
  obtain ⟨hi, rfl⟩ := am_bif (o := none) hx
  intro H locs ls kc ks hZ hl hI hS ec es
  have hk := hI.2.2.2.1.lt (am_is_sh hi) (by decide)
  have hw := am_ws_at (ac := ac) (B := B) hk
  rw [am_e0 (am_is_sh hi)] at hw
  have hv : ((List.range (am_N ci)).map (am_fv B σ ci k))[j]? = some (.int (am_I σ k j)) := by
    rw [List.getElem?_map, List.getElem?_range hj]
    show some (am_fv B σ ci k j) = _
    unfold am_fv
    rcases hfk with h | h
    · have := Nat.eq_of_beq_eq_true h; rw [if_neg (by omega), if_neg (by omega)]
    · have := Nat.eq_of_beq_eq_true h; rw [if_neg (by omega), if_neg (by omega)]
  exact va_get (T := am_T ci) (N := am_N ci) (ref := (am_T ci j).1) cx.1 cx.2.1 cx.2.2.2.2.1 (am_lay_in hci) cx.2.2.2.1 hI.1 hI.2.2.1 k hw (am_cl_at ci hci) j hj (cx.2.2.2.2.1 _ (am_fl_in hfl)) (fun _ h => h) hv (am_d_ok hd) (hrec _ _ _ _ hG H locs ls kc ks hZ hl hI hS ec es)
theorem am_z_p2 {idx ci j : Nat} (cx : am_cx p R s m args meth c B c0 y) (hok : am_okP y pc (2, idx, ci, j) = true) (hG : am_G call rec pc σ (am_p am_nA am_cM am_ml (2, idx, ci, j) pc lv st σ) = some res) (hrec : ∀ q lv st τ, rec q lv st τ = some res → am_WZ Z p l e R s m args below meth c Q D ac B b y c0 s0 q lv st τ) : am_WZ Z p l e R s m args below meth c Q D ac B b y c0 s0 pc lv st σ := by
  simp only [am_okP, Bool.and_eq_true, Bool.or_eq_true, decide_eq_true_eq] at hok
  obtain ⟨hd, hfl, hci, hj, hfk⟩ := hok
  rcases st with _ | ⟨v, st⟩
  · exact (am_no hG rfl).elim
  cases v <;> try exact (am_no hG rfl).elim
  rename_i k
  obtain ⟨x, hx, hG⟩ := am_bindE (o := am_gR σ k ci j) hG
  have hi : am_is σ k ci = true := by
    cases e1 : am_is σ k ci with
    | true => rfl
    | false => unfold am_gR at hx; rw [e1] at hx; cases hx
  have hR : am_R σ k j = some x := by unfold am_gR at hx; rw [hi] at hx; exact hx
  intro H locs ls kc ks hZ hl hI hS ec es
  have hk := hI.2.2.2.1.lt (am_is_sh hi) (by decide)
  have hw := am_ws_at (ac := ac) (B := B) hk
  rw [am_e0 (am_is_sh hi)] at hw
  have hv : ((List.range (am_N ci)).map (am_fv B σ ci k))[j]? = some (.ref (B + x)) := by
    rw [List.getElem?_map, List.getElem?_range hj]
    show some (am_fv B σ ci k j) = _
    unfold am_fv
    have := Nat.eq_of_beq_eq_true hfk
    rw [if_neg (by omega), if_pos this, hR]
    rfl
  exact va_get (T := am_T ci) (N := am_N ci) (ref := (am_T ci j).1) cx.1 cx.2.1 cx.2.2.2.2.1 (am_lay_in hci) cx.2.2.2.1 hI.1 hI.2.2.1 k hw (am_cl_at ci hci) j hj (cx.2.2.2.2.1 _ (am_fl_in hfl)) (fun _ h => h) hv (am_d_ok hd) (hrec _ _ _ _ hG H locs ls kc ks hZ hl hI hS ec es)
theorem am_z_p16 {idx v len : Nat} (cx : am_cx p R s m args meth c B c0 y) (hok : am_okP y pc (16, idx, v, len) = true) (hG : am_G call rec pc σ (am_p am_nA am_cM am_ml (16, idx, v, len) pc lv st σ) = some res) (hrec : ∀ q lv st τ, rec q lv st τ = some res → am_WZ Z p l e R s m args below meth c Q D ac B b y c0 s0 q lv st τ) : am_WZ Z p l e R s m args below meth c Q D ac B b y c0 s0 pc lv st σ := by
  have hG : rec (pc + len) lv (.int (nI v) :: st) σ = some res := hG
  intro H locs ls kc ks hZ hl hI hS ec es
  rcases idx with _ | idx
  · rcases len with _ | _ | _ | _ | len
    · cases hok
    · have hok := Bool.and_eq_true _ _ ▸ hok
      exact lv_iconst cx.1 cx.2.1 (am_d_ok hok.1) am_ic (hrec _ _ _ _ hG H locs ls kc ks hZ hl hI hS ec es)
    · have hok := Bool.and_eq_true _ _ ▸ hok
      exact lv_bipush cx.1 cx.2.1 (am_d_ok hok.1) (am_bp (of_decide_eq_true hok.2)) (hrec _ _ _ _ hG H locs ls kc ks hZ hl hI hS ec es)
    · have hok := Bool.and_eq_true _ _ ▸ hok
      exact lv_sipush cx.1 cx.2.1 (am_d_ok hok.1) (am_sp (of_decide_eq_true hok.2)) (hrec _ _ _ _ hG H locs ls kc ks hZ hl hI hS ec es)
    · cases hok
  · rcases len with _ | _ | _ | _ | len
    · cases hok
    · cases hok
    · have hok := Bool.and_eq_true _ _ ▸ hok
      exact lv_ldc cx.1 cx.2.1 cx.2.2.2.1 (cx.2.2.2.2.1 _ (am_kc_in hok.2)) (am_d_ok hok.1) (hrec _ _ _ _ hG H locs ls kc ks hZ hl hI hS ec es)
    · have hok := Bool.and_eq_true _ _ ▸ hok
      exact lv_ldcw cx.1 cx.2.1 cx.2.2.2.1 (cx.2.2.2.2.1 _ (am_kc_in hok.2)) (am_d_ok hok.1) (hrec _ _ _ _ hG H locs ls kc ks hZ hl hI hS ec es)
    · cases hok
theorem am_z_p21 {z ci z2 : Nat} (cx : am_cx p R s m args meth c B c0 y) (hok : am_okP y pc (21, z, ci, z2) = true) (hG : am_G call rec pc σ (am_p am_nA am_cM am_ml (21, z, ci, z2) pc lv st σ) = some res) (hrec : ∀ q lv st τ, rec q lv st τ = some res → am_WZ Z p l e R s m args below meth c Q D ac B b y c0 s0 q lv st τ) : am_WZ Z p l e R s m args below meth c Q D ac B b y c0 s0 pc lv st σ := by
  have hok := Bool.and_eq_true _ _ ▸ hok
  rcases st with _ | ⟨v, _ | ⟨w, st⟩⟩
  · exact (am_no hG rfl).elim
  · cases v <;> exact (am_no hG rfl).elim
  cases v <;> cases w <;> try exact (am_no hG rfl).elim
  rename_i j k
  obtain ⟨x, hx, hG⟩ := am_bindE (o := am_ldR σ k ci j) hG
  obtain ⟨hsh, hin, hR⟩ := am_ldR_some hx
  intro H locs ls kc ks hZ hl hI hS ec es
  have hk := hI.2.2.2.1.lt hsh (by have := am_cz_lt hok.2; omega)
  have hw := am_ws_at (ac := ac) (B := B) hk
  rw [am_e4 hsh] at hw
  obtain ⟨t0, ht⟩ := am_cz_ti (ac := ac) hok.2
  refine va_aldq cx.1 cx.2.1 hI.1 hI.2.2.1 k t0 hw ht hin (am_d_ok hok.1) ?_
  show W p l e R s m args below meth c H locs kc ks Q (F0 m (pc + 1) ls (va_rf (Option.map (B + ·) (am_R σ k j.toNatClampNeg)) :: _))
  rw [hR]
  exact hrec _ _ _ _ hG H locs ls kc ks hZ hl hI hS ec es
end AMZ
/-! WHAT THE TWO READERS ARE MADE OF: Client.callAt (11), FarCacheLine.got (98) -/
def th_kd (o : am_O) : Nat := match o with
  | .inl (.iload_n _) => 0
  | .inl (.aload_n _) => 0
  | .inl (.astore_n _) => 0
  | .inl .aconst_null => 0
  | .inl .dup => 0
  | .inl (.goto _) => 0
  | .inl (.ifCond .lt _) => 0
  | .inl (.if_icmp .ge _) => 0
  | .inl (.if_icmp .ne _) => 0
  | .inl (.if_icmp .lt _) => 0
  | .inl (.ifnull _) => 0
  | .inl .iaload => 0
  | .inl .ireturn => 1
  | .inl .areturn => 2
  | .inl (.ldc _) => 5
  | .inl (.invokespecial _) => 5
  | .inl .athrow => 5
  | .inr (0, _, _, _) => 0
  | .inr (2, _, _, _) => 0
  | .inr (16, _, _, _) => 0
  | .inr (21, _, _, _) => 0
  | .inr (9, _, u, _) => bif Nat.beq u 11 then 3 else 9
  | .inr (24, _, _, _) => 4
  | _ => 9
def th_kp (y pc : Nat) : Nat := match am_prog y pc with
  | some (o, _) => th_kd o
  | none => 0
set_option maxRecDepth 100000 in
theorem th_k98 : ∀ pc, pc < am_sz 98 → th_kp 98 pc = 0 ∨ th_kp 98 pc = 1 ∨ th_kp 98 pc = 3 ∨ th_kp 98 pc = 4 ∨ th_kp 98 pc = 5 := by decide +kernel
set_option maxRecDepth 100000 in
theorem th_k11 : ∀ pc, pc < am_sz 11 → th_kp 11 pc = 0 ∨ th_kp 11 pc = 2 := by decide +kernel
theorem th_inr : ∀ q : am_Q4, th_kd (.inr q) = 0 ∨ th_kd (.inr q) = 3 ∨ th_kd (.inr q) = 4 ∨ th_kd (.inr q) = 9 := fun ⟨w, i, u, v⟩ => match w with
  | 0 => Or.inl rfl
  | 1 => Or.inr (Or.inr (Or.inr rfl))
  | 2 => Or.inl rfl
  | 3 => Or.inr (Or.inr (Or.inr rfl))
  | 4 => Or.inr (Or.inr (Or.inr rfl))
  | 5 => Or.inr (Or.inr (Or.inr rfl))
  | 6 => Or.inr (Or.inr (Or.inr rfl))
  | 7 => Or.inr (Or.inr (Or.inr rfl))
  | 8 => Or.inr (Or.inr (Or.inr rfl))
  | 9 => by
    show (bif Nat.beq u 11 then 3 else 9) = 0 ∨ (bif Nat.beq u 11 then 3 else 9) = 3 ∨ (bif Nat.beq u 11 then 3 else 9) = 4 ∨ (bif Nat.beq u 11 then 3 else 9) = 9
    cases Nat.beq u 11 <;> simp
  | 10 => Or.inr (Or.inr (Or.inr rfl))
  | 11 => Or.inr (Or.inr (Or.inr rfl))
  | 12 => Or.inr (Or.inr (Or.inr rfl))
  | 13 => Or.inr (Or.inr (Or.inr rfl))
  | 14 => Or.inr (Or.inr (Or.inr rfl))
  | 15 => Or.inr (Or.inr (Or.inr rfl))
  | 16 => Or.inl rfl
  | 17 => Or.inr (Or.inr (Or.inr rfl))
  | 18 => Or.inr (Or.inr (Or.inr rfl))
  | 19 => Or.inr (Or.inr (Or.inr rfl))
  | 20 => Or.inr (Or.inr (Or.inr rfl))
  | 21 => Or.inl rfl
  | 22 => Or.inr (Or.inr (Or.inr rfl))
  | 23 => Or.inr (Or.inr (Or.inr rfl))
  | 24 => Or.inr (Or.inr (Or.inl rfl))
  | w + 25 => Or.inr (Or.inr (Or.inr rfl))
section THR
variable {Z : Heap → List Loc → am_H → Prop} {p : Program} {l : Launch} {e : Env} {R : Room} {s : State} {m : MethodId} {args : Array Value} {below : List Frame} {meth : Method} {c : Code} {Q : State → Prop} {D : va_G} {ac : Nat → ClassId} {B b y c0 s0 : Nat} {pc : Nat} {lv : am_lv} {st : List Value} {σ σ0 : am_H} {res : am_r × am_H} {call : Nat → List Value → am_H → am_X} {rec : Nat → am_lv → List Value → am_H → am_X}
theorem th_n {a b : Nat} {P : Prop} (h : a = b) (hn : Nat.beq a b = false) : P := by subst h; rw [Nat.beq_refl] at hn; cases hn
theorem th_read {o : am_O} (hk : th_kd o = 0) (cx : am_cx p R s m args meth c B c0 y) (hok : am_okO y pc o = true) (hG : am_G call rec pc σ (am_act o (am_rt y) pc lv st σ) = some res) (hrec : ∀ q lv st τ, rec q lv st τ = some res → am_WZ Z p l e R s m args below meth c Q D ac B b y c0 s0 q lv st τ) : am_WZ Z p l e R s m args below meth c Q D ac B b y c0 s0 pc lv st σ := by
  cases o with
  | inl i =>
    cases i
    case iload_n => exact am_z_iload_n cx hok hG hrec
    case aload_n => exact am_z_aload_n cx hok hG hrec
    case astore_n => exact am_z_astore_n cx hok hG hrec
    case aconst_null => exact am_z_aconst_null cx hok hG hrec
    case dup => exact am_z_dup cx hok hG hrec
    case goto => exact am_z_goto cx hok hG hrec
    case ifnull => exact am_z_ifnull cx hok hG hrec
    case iaload => exact am_z_iaload cx hok hG hrec
    case ifCond cc o =>
      cases cc
      case lt => exact am_z_if_lt cx hok hG hrec
      all_goals exact th_n hk rfl
    case if_icmp cc o =>
      cases cc
      case ge => exact am_z_icmp_ge cx hok hG hrec
      case ne => exact am_z_icmp_ne cx hok hG hrec
      case lt => exact am_z_icmp_lt cx hok hG hrec
      all_goals exact th_n hk rfl
    all_goals exact th_n hk rfl
  | inr q =>
    obtain ⟨w, i, u, v⟩ := q
    match w, hk, hok, hG with
    | 0, _, hok, hG => exact am_z_p0 cx hok hG hrec
    | 2, _, hok, hG => exact am_z_p2 cx hok hG hrec
    | 16, _, hok, hG => exact am_z_p16 cx hok hG hrec
    | 21, _, hok, hG => exact am_z_p21 (z := i) (z2 := v) cx hok hG hrec
    | 1, hk, _, _ => exact th_n hk rfl
    | 3, hk, _, _ => exact th_n hk rfl
    | 4, hk, _, _ => exact th_n hk rfl
    | 5, hk, _, _ => exact th_n hk rfl
    | 6, hk, _, _ => exact th_n hk rfl
    | 7, hk, _, _ => exact th_n hk rfl
    | 8, hk, _, _ => exact th_n hk rfl
    | 9, hk, _, _ =>
      have hk : (bif Nat.beq u 11 then 3 else 9) = 0 := hk
      cases h : Nat.beq u 11 <;> rw [h] at hk <;> cases hk
    | 10, hk, _, _ => exact th_n hk rfl
    | 11, hk, _, _ => exact th_n hk rfl
    | 12, hk, _, _ => exact th_n hk rfl
    | 13, hk, _, _ => exact th_n hk rfl
    | 14, hk, _, _ => exact th_n hk rfl
    | 15, hk, _, _ => exact th_n hk rfl
    | 17, hk, _, _ => exact th_n hk rfl
    | 18, hk, _, _ => exact th_n hk rfl
    | 19, hk, _, _ => exact th_n hk rfl
    | 20, hk, _, _ => exact th_n hk rfl
    | 22, hk, _, _ => exact th_n hk rfl
    | 23, hk, _, _ => exact th_n hk rfl
    | 24, hk, _, _ => exact th_n hk rfl
    | w + 25, hk, _, _ => exact th_n hk rfl
/-- nothing written, nothing made -/
def th_Z (s : State) (σ0 : am_H) : Heap → List Loc → am_H → Prop := fun H locs σ => H = s.heap ∧ locs = [] ∧ σ = σ0
def th_Qr (P : Prop) (rv : Option Value) : Array Value → State → Outcome → State → Prop := fun _ st o t => o = .returned rv ∧ t.heap = st.heap ∧ P
theorem th_r11 (cx : am_cx p R s m args meth c B (am_c σ0) 11) (hr : meth.sig.returnType = am_mr 11) (hlocks : meth.locks = false) (hok : am_okI 11 pc (.areturn) = true) (hG : am_G call rec pc σ (am_i (.areturn) (am_rt 11) pc lv st σ) = some res) : am_WZ (th_Z s σ0) p l e R s m args below meth c (MQ below (th_Qr (res.2 = σ0) (am_rvv B (am_rt 11) res.1)) args s 0 0 (fun _ => False)) D ac B b 11 (am_c σ0) (am_s σ0) pc lv st σ := by
  have hrt : am_rt 11 = 3 := by decide +kernel
  obtain ⟨nm, hmr⟩ : ∃ nm, am_mr 11 = some (.object nm) := ⟨_, rfl⟩
  rcases st with _ | ⟨v, _ | ⟨w, st⟩⟩
  · exact (am_no hG rfl).elim
  rotate_left
  · cases v <;> exact (am_no hG rfl).elim
  cases v <;> try exact (am_no hG rfl).elim
  · have hG : some ((0, 0, none), σ) = some res := hG
    obtain rfl := Option.some.inj hG
    intro H locs ls kc ks hZ hl hI hS ec es
    obtain ⟨rfl, rfl, rfl⟩ := hZ
    obtain rfl : kc = 0 := by omega
    obtain rfl : ks = 0 := by omega
    exact W.aret (v := .null) cx.1 cx.2.1 (by rw [hr]; exact hmr) (Or.inl ⟨nm, rfl⟩) (Or.inl rfl) (fun t ht hW => ⟨by rw [hrt]; rfl, ht, rfl⟩) (fun q hq => by cases hq) (am_d_ok hok) hlocks
  · rename_i x
    have hG : some ((0, 0, some x), σ) = some res := hG
    obtain rfl := Option.some.inj hG
    intro H locs ls kc ks hZ hl hI hS ec es
    obtain ⟨rfl, rfl, rfl⟩ := hZ
    obtain rfl : kc = 0 := by omega
    obtain rfl : ks = 0 := by omega
    exact W.aret (v := .ref (B + x)) cx.1 cx.2.1 (by rw [hr]; exact hmr) (Or.inl ⟨nm, rfl⟩) (Or.inr ⟨_, rfl⟩) (fun t ht hW => ⟨by rw [hrt]; rfl, ht, rfl⟩) (fun q hq => by cases hq) (am_d_ok hok) hlocks
end THR
theorem th_snd11 : ∀ (f d pc : Nat) (lv : am_lv) (st : List Value) (σ : am_H) (res : am_r × am_H), am_ex f d 11 pc lv st σ = some res →
    ∀ (p : Program) (l : Launch) (e : Env) (R : Room) (s : State) (m : MethodId) (args : Array Value) (below : List Frame) (meth : Method) (c : Code) (D : va_G) (ac : Nat → ClassId) (B b : Nat) (σ0 : am_H),
      am_cx p R s m args meth c B (am_c σ0) 11 → meth.sig.returnType = am_mr 11 → meth.locks = false →
      am_WZ (th_Z s σ0) p l e R s m args below meth c (MQ below (th_Qr (res.2 = σ0) (am_rvv B (am_rt 11) res.1)) args s 0 0 (fun _ => False)) D ac B b 11 (am_c σ0) (am_s σ0) pc lv st σ
  | 0, d, pc, lv, st, σ, res, h => by cases h
  | f + 1, d, pc, lv, st, σ, res, h => by
    intro p l e R s m args below meth c D ac B b σ0 cx hr hlocks
    rw [am_ex_succ] at h
    unfold am_F at h
    cases hp : am_prog 11 pc with
    | none => rw [hp] at h; cases h
    | some q =>
      obtain ⟨i, t⟩ := q
      rw [hp] at h
      obtain ⟨-, hok⟩ := am_prog_ok hp
      have hkd : th_kp 11 pc = th_kd i := by unfold th_kp; rw [hp]
      have hk := th_k11 pc (am_prog_lt hp).2
      rw [hkd] at hk
      suffices hw : am_WZ (th_Z s σ0) p l e R s m args below meth c (MQ below (th_Qr (res.2 = σ0) (am_rvv B (am_rt 11) res.1)) args s 0 0 (fun _ => False)) D ac B b 11 (am_c σ0) (am_s σ0) pc (am_trim t lv) st σ by
        intro H locs ls kc ks hZ hl hI hS ec es
        exact hw H locs ls kc ks hZ (am_trim_has hl) hI hS ec es
      rcases hk with hk | hk
      · exact th_read hk cx hok h (fun q lv st τ hq => th_snd11 f d q lv st τ res hq _ _ _ _ _ _ _ _ _ _ _ _ _ _ _ cx hr hlocks)
      · cases i with
        | inl i =>
          cases i
          case areturn => exact th_r11 cx hr hlocks hok h
          case ifCond cc o => cases cc <;> exact th_n hk rfl
          case if_icmp cc o => cases cc <;> exact th_n hk rfl
          all_goals exact th_n hk rfl
        | inr q =>
          rcases th_inr q with h | h | h | h <;> rw [h] at hk <;> cases hk
/-! FarCacheLine.got: it answers a byte, or throws -/
theorem th_M11 {l : Launch} {D : va_G} {ac : Nat → ClassId} {B b f d' : Nat} {as : List Value} {σ : am_H} {r : am_r × am_H} (hcat : am_cats as ≤ am_ml 11) (hc : am_ex f d' 11 0 (am_args 0 as) [] σ = some r) :
    Met l (am_my 11) (am_wsM 11) (am_rm d' 0 0) (va_Pc (am_ts B b as) (am_pre D ac B b σ)) (th_Qr (r.2 = σ) (am_rvv B (am_rt 11) r.1)) 0 0 (fun _ => False) := by
  obtain ⟨n1, n2, n3, n4, n5⟩ := am_nmA 11 (by omega)
  refine Met.ofW (cc := am_mc 11) (maxL := am_ml 11) (ret := am_mr 11) n2 rfl ?_
  intro p e s m args below meth c s₁ Bd hml hv
  obtain ⟨rfl, hpre⟩ := hv
  have hts := atoms_spec (ws := am_wsM 11) Bd.pre
  have hown : s.vm.findClass (am_my 11).cls = some m.cls := findClass_of_methodNamed Bd.named
  have hcx : am_cx p (headSpec (am_wsM 11) (am_rm d' 0 0)).room s m (am_ts B b as).toArray meth c B (am_c σ) 11 :=
    ⟨Bd.exec, Bd.bytes, hml, by rw [← n1]; exact hown, fun w hw => hts w (List.mem_cons_of_mem _ hw), fun hn => (name_of_methodNamed Bd.named Bd.method).1.trans hn, by show 1 ≤ d' + 1; omega, by show 40 ≤ 40 * (d' + 1); omega, hpre.2⟩
  have hent := lv_entry (am_ts B b as) (n := am_ml 11) (by rw [am_lg]; exact hcat)
  rw [lg_entry_eq]
  rw [← am_args_tl] at hent
  exact th_snd11 f d' 0 (am_args 0 as) [] σ r hc _ _ _ _ _ _ _ _ _ _ _ _ _ _ σ hcx Bd.returns Bd.notSynchronized s.heap [] _ 0 0 ⟨rfl, rfl, rfl⟩ hent hpre.1 va_S.rf (by omega) (by omega)
/-- what comes of it -/
def th_Q98 (below : List Frame) (args : Array Value) (s : State) (σ0 : am_H) (res : am_r × am_H) (t : State) : Prop :=
  res.2 = σ0 ∧ ((res.1.2.1 = 0 ∧ MQ below (th_Qr True (some (.int res.1.1))) args s 0 0 (fun _ => False) t) ∨
    (res.1.2.1 = 1 ∧ t.status = .running ∧ ∃ a, Ended t below (.threw a) ∧ s.WarmedH t.vm ∧ s.sameButNew ({ t with vm := s.vm } : State) [] 1 6 ∧ ∃ ce, t.heap[a]? = some ce ∧ ce.vm.isStatics = false ∧ s.vm.findClass th_X = some ce.cls ∧ s.vm.assignable ce.cls ce.cls = true))
set_option maxRecDepth 100000 in
theorem th_d36 : decode (am_mc 98) 36 = .ok (.new 167, 3) := by decide +kernel
set_option maxRecDepth 100000 in
theorem th_d39 : decode (am_mc 98) 39 = .ok (.dup, 1) := by decide +kernel
set_option maxRecDepth 100000 in
theorem th_d40 : decode (am_mc 98) 40 = .ok (.ldc 169, 2) := by decide +kernel
set_option maxRecDepth 100000 in
theorem th_d42 : decode (am_mc 98) 42 = .ok (.invokespecial 171, 3) := by decide +kernel
set_option maxRecDepth 100000 in
theorem th_d45 : decode (am_mc 98) 45 = .ok (.athrow, 1) := by decide +kernel
section THS
variable {p : Program} {l : Launch} {e : Env} {R : Room} {s : State} {m : MethodId} {args : Array Value} {below : List Frame} {meth : Method} {c : Code} {Q : State → Prop} {D : va_G} {ac : Nat → ClassId} {B b c0 s0 : Nat} {pc : Nat} {lv : am_lv} {st : List Value} {σ σ0 : am_H} {res : am_r × am_H} {call : Nat → List Value → am_H → am_X} {rec : Nat → am_lv → List Value → am_H → am_X}
theorem th_r98 (cx : am_cx p R s m args meth c B (am_c σ0) 98) (hr : meth.sig.returnType = am_mr 98) (hlocks : meth.locks = false) (hok : am_okI 98 pc (.ireturn) = true) (hG : am_G call rec pc σ (am_i (.ireturn) (am_rt 98) pc lv st σ) = some res) : am_WZ (th_Z s σ0) p l e R s m args below meth c (th_Q98 below args s σ0 res) D ac B b 98 (am_c σ0) (am_s σ0) pc lv st σ := by
  have hmr : am_mr 98 = some .int := rfl
  rcases st with _ | ⟨v, _ | ⟨w, st⟩⟩
  · exact (am_no hG rfl).elim
  rotate_left
  · cases v <;> exact (am_no hG rfl).elim
  cases v <;> try exact (am_no hG rfl).elim
  rename_i x
  have hG : some ((x, 0, none), σ) = some res := hG
  obtain rfl := Option.some.inj hG
  intro H locs ls kc ks hZ hl hI hS ec es
  obtain ⟨rfl, rfl, rfl⟩ := hZ
  obtain rfl : kc = 0 := by omega
  obtain rfl : ks = 0 := by omega
  refine W.mono (Q := MQ below (th_Qr True (some (.int x))) args s 0 0 (fun _ => False)) (fun t ht => ⟨rfl, Or.inl ⟨rfl, ht⟩⟩) ?_
  exact W.iret cx.1 cx.2.1 (by rw [hr]; exact hmr) (fun t ht hW => ⟨rfl, ht, trivial⟩) (fun q hq => by cases hq) (am_d_ok hok) hlocks
theorem th_throw {idx u v : Nat} (htr : l.stackTraces = false) (hno : c.exceptionTable.isEmpty = true) (hat : ∀ a ∈ th_own, a.before args s = true) (hsr : (Cond.stringRef "FarCacheLine" 169 "no such byte has come").before args s = true) (hRc : res.1.2.1 ≠ 0 → 1 ≤ R.cells ∧ 6 ≤ R.slots) (hRf : 7 ≤ R.frames) (hRl : 100 ≤ R.locals)
    (cx : am_cx p R s m args meth c B (am_c σ0) 98) (hlocks : meth.locks = false) (hok : am_okP 98 pc (24, idx, u, v) = true) (hG : am_G call rec pc σ (am_p am_nA am_cM am_ml (24, idx, u, v) pc lv st σ) = some res) : am_WZ (th_Z s σ0) p l e R s m args below meth c (th_Q98 below args s σ0 res) D ac B b 98 (am_c σ0) (am_s σ0) pc lv st σ := by
  simp only [am_okP, Bool.and_eq_true] at hok
  obtain rfl := Nat.eq_of_beq_eq_true hok.2.2
  rcases st with _ | ⟨w, st⟩
  rotate_left
  · exact (am_no hG rfl).elim
  have hG : some ((0, 1, none), σ) = some res := hG
  obtain rfl := Option.some.inj hG
  intro H locs ls kc ks hZ hl hI hS ec es
  obtain ⟨rfl, rfl, rfl⟩ := hZ
  obtain rfl : kc = 0 := by omega
  obtain rfl : ks = 0 := by omega
  obtain ⟨hR1, hR2⟩ := hRc (show ¬ (1 : Int64) = 0 by decide)
  have hown : s.vm.findClass "FarCacheLine" = some m.cls := cx.2.2.2.1
  have hb : c.code = am_mc 98 := cx.2.1
  have hsz : ls.size = c.maxLocals := hl.1.trans cx.2.2.1.symm
  intro T hT X
  have htr' : e.platform.stackTraces = false := by rw [Example.NoTraceControls.admits_follows X.admits]; exact htr
  obtain ⟨vm₁, cX, kX, hfX, hkX, -, -, X₁, st1⟩ := X.newCold cx.1 (own := "FarCacheLine") (C := th_X) (index := 167) (n := 6) hown (cx.2.2.2.2.1 _ (am_W_of th_w814 rfl)) (hat _ (by simp [th_own, Bundle.ownAtoms])) (cx.2.2.2.2.1 _ (am_W_of th_w96 rfl)) (g := F0 m 36 ls []) rfl (by rw [hb]; exact th_d36) (by omega) (by omega)
  generalize hV : (T.setVm vm₁).pushCell { cls := cX, slots := kX.instanceTypes.map defaultValue, vm := .none } = V at X₁ st1
  have hcellA : V.heap[T.heap.size]? = some (freshCell cX kX) := by rw [← hV]; exact State.heap_pushCell_size _ _
  obtain ⟨-, -, -, sa, -, -, -, -, -, hev⟩ := Cond.stringRef_spec hown hsr
  obtain ⟨U, hsteps, hrun, hend, hW, hsame, ce, hce, K⟩ := X₁.ctorThrowS cx.1 htr' (own := "FarCacheLine") (cls := th_X) (names := th_up) (ic := 171) hown (by decide +kernel) (by decide +kernel)
    hat (fun y hy => by cases hy) hfX hkX hcellA (by rw [hT]; exact Nat.le_refl _) (msg := .ref sa) rfl
    (g := F0 m 42 ls [.ref sa, .ref T.heap.size, .ref T.heap.size]) rfl hsz rfl rfl (rest := []) rfl (by rw [hb]; exact th_d42) (by rw [hb]; exact th_d45) (covers_of_empty hno _) (by show 3 + 3 < R.frames; omega) (by show 2 * 0 + 1 + (13 * (3 + 1) + 42) ≤ R.locals; omega) hlocks
  refine ⟨U, ?_, rfl, Or.inr ⟨rfl, hrun, T.heap.size, hend, hW, hsame, ce, hce, by rw [K.vm]; rfl, K.cls, K.self⟩⟩
  refine st1 _ ?_
  show Steps p.tables e below (V.setTop (F0 m 39 ls [.ref T.heap.size])) _
  jvm_step X₁.here [X₁.here.top, cx.1, hb, th_d39, Value.category]
  exact X₁.ldcString cx.1 (own := "FarCacheLine") (text := "no such byte has come") (index := 169) (a := sa) hown hsr hev (g := F0 m 40 ls [.ref T.heap.size, .ref T.heap.size]) rfl (by rw [hb]; exact th_d40) _ hsteps
theorem th_p9 {f d idx z2 : Nat} (hf : d + 1 ≤ R.frames) (hl1 : 40 * (d + 1) ≤ R.locals) (cx : am_cx p R s m args meth c B (am_c σ0) 98) (hok : am_okP 98 pc (9, idx, 11, z2) = true) (hG : am_G (am_exC f d) rec pc σ (am_p am_nA am_cM am_ml (9, idx, 11, z2) pc lv st σ) = some res) (hrec : ∀ q lv st τ, rec q lv st τ = some res → am_WZ (th_Z s σ0) p l e R s m args below meth c Q D ac B b 98 (am_c σ0) (am_s σ0) q lv st τ) : am_WZ (th_Z s σ0) p l e R s m args below meth c Q D ac B b 98 (am_c σ0) (am_s σ0) pc lv st σ := by
  simp only [am_okP, Bool.and_eq_true, decide_eq_true_eq] at hok
  obtain ⟨hd, hml, ⟨hz, hz98⟩, hcz, hns, hsl⟩ := hok
  have hG : am_G (am_exC f d) rec pc σ (match am_tk (am_nA 11 + 1) [] st with | some (.ref k :: as, st) => (bif Nat.ble (am_cats st) 8 && Nat.ble (am_cats (.ref k :: as)) (am_ml 11) then am_call (am_is σ k (am_cM 11)) 11 (.ref k :: as) lv st else none) | _ => none) = some res := hG
  split at hG
  · rename_i k as st' htk
    obtain ⟨hr8, hG⟩ := am_bifN hG
    rw [Bool.and_eq_true] at hr8
    have hG : (bif am_is σ k (am_cM 11) then (am_exC f d 11 (.ref k :: as) σ).bind (fun r => am_bk (am_rt 11) (fun st τ => rec (pc + 3) lv st τ) st' r) else none) = some res := hG
    cases his : am_is σ k (am_cM 11) with
    | false => rw [his] at hG; cases hG
    | true =>
      rw [his] at hG
      obtain ⟨r, hr, hG2⟩ := am_bindE (o := am_exC f d 11 (.ref k :: as) σ) hG
      obtain ⟨ys, y1, y2, y3⟩ := am_tkE htk
      rw [List.append_nil] at y2
      subst y2
      cases d with
      | zero => cases hr
      | succ d' =>
        have hM := th_M11 (l := l) (D := D) (ac := ac) (B := B) (b := b) (Nat.le_of_ble_eq_true hr8.2) (show am_ex f d' 11 0 (am_args 0 (.ref k :: as)) [] σ = some r from hr)
        intro H locs ls kc ks hZ hl hI hS ec es
        refine am_Wsz (fun z1 z2 => ?_)
        obtain ⟨n1, n2, n3, n4, n5⟩ := am_nmA 11 (by omega)
        have hk := hI.2.2.2.1.lt (am_is_sh his) (by decide)
        have hw := am_ws_at (ac := ac) (B := B) hk
        rw [am_e0 (am_is_sh his)] at hw
        have hpre := am_pre_of cx hI hS ec z1 z2
        have hst : am_ts B b st = (am_ts B b as).reverse ++ .ref (B + k) :: am_ts B b st' := by rw [y3]; simp [am_ts, am_tr]
        have h8 := am_room (B := B) (b := b) hr8.1
        have hmlz := am_ml_le 11 (by omega)
        have hlt : R.cells ≥ 0 := Nat.zero_le _
        intro T hT X
        have hcap : kc ≤ R.cells ∧ ks ≤ R.slots := by
          obtain ⟨h1, h2, h3⟩ := hZ
          subst h3
          omega
        have hrun := va_runV (p := p) (l := l) (e := e) (R := R) (s := s) (m := m) (args := args) (below := below) (meth := meth) (c := c) (H := H) (locs := locs) (cells := kc) (slots := ks) (C := am_own (am_cM 11)) (b := B + k) (As := am_ts B b as) (rest := am_ts B b st') (g := F0 m pc ls (am_ts B b st)) ⟨cx.1, cx.2.1, cx.2.2.1, cx.2.2.2.1, cx.2.2.2.2.1⟩ hM
          (cwV (am_nA 11) cx.2.2.2.2.1 (am_goodC (am_ml_in hml) (am_goodC (am_ns_in hns) (am_goodC (am_sl_in hsl) (am_goodC (am_init_in (am_cM_lt 11 (by omega))) (am_good 11 hz))))) rfl rfl rfl ⟨n1, n3, n4, n5⟩ ⟨by show d' + 1 + 1 ≤ _; omega, by show 8 + (am_ml 11 + 11) + 40 * (d' + 1) ≤ _; omega⟩)
          ⟨am_blind, (by rw [am_own_Rn _ hcz]; exact va_recv hI.1 hI.2.2.1 (am_cl_at _ hcz) hw), fun U hU hW => ⟨rfl, hpre U hU hW⟩⟩ rfl (by simp at y1; simpa using y1) hl.1 hst (by show 2 * 0 + ((st'.map (am_tr B b)).map fun v => v.category).sum ≤ 8; omega) (am_d_ok hd) ⟨by omega, by omega⟩
        obtain ⟨v, st₀, t, T', L, h0, X', hL, e1, e2, ⟨hv, hh, hr2⟩, go⟩ := hrun T hT X
        cases hv
        obtain rfl : L = [] := by
          cases L with
          | nil => rfl
          | cons q L => exact (hL q List.mem_cons_self).elim
        rw [List.append_nil] at X'
        obtain ⟨st2, h2, e3⟩ := am_bkC (B := B) (b := b) hG2
        rw [hr2] at h2
        obtain ⟨t2, a1, b1⟩ := hrec _ _ _ _ h2 H locs ls kc ks hZ hl hI hS ec es T' (by rw [e1, hh, h0]) X'
        rw [e3] at a1
        exact ⟨t2, go t2 a1, b1⟩
  · exact (am_no hG rfl).elim
end THS
theorem th_snd98 : ∀ (f d pc : Nat) (lv : am_lv) (st : List Value) (σ : am_H) (res : am_r × am_H), am_ex f d 98 pc lv st σ = some res →
    ∀ (p : Program) (l : Launch) (e : Env) (R : Room) (s : State) (m : MethodId) (args : Array Value) (below : List Frame) (meth : Method) (c : Code) (D : va_G) (ac : Nat → ClassId) (B b : Nat) (σ0 : am_H),
      l.stackTraces = false → c.exceptionTable.isEmpty = true → (∀ a ∈ th_own, a.before args s = true) → (Cond.stringRef "FarCacheLine" 169 "no such byte has come").before args s = true → (res.1.2.1 ≠ 0 → 1 ≤ R.cells ∧ 6 ≤ R.slots) → 7 ≤ R.frames → 100 ≤ R.locals → d + 1 ≤ R.frames → 40 * (d + 1) ≤ R.locals →
      am_cx p R s m args meth c B (am_c σ0) 98 → meth.sig.returnType = am_mr 98 → meth.locks = false →
      am_WZ (th_Z s σ0) p l e R s m args below meth c (th_Q98 below args s σ0 res) D ac B b 98 (am_c σ0) (am_s σ0) pc lv st σ
  | 0, d, pc, lv, st, σ, res, h => by cases h
  | f + 1, d, pc, lv, st, σ, res, h => by
    intro p l e R s m args below meth c D ac B b σ0 htr hno hat hsr hRc hRf hRl hf hl1 cx hr hlocks
    rw [am_ex_succ] at h
    unfold am_F at h
    cases hp : am_prog 98 pc with
    | none => rw [hp] at h; cases h
    | some q =>
      obtain ⟨i, t⟩ := q
      rw [hp] at h
      obtain ⟨-, hok⟩ := am_prog_ok hp
      have hkd : th_kp 98 pc = th_kd i := by unfold th_kp; rw [hp]
      have hk := th_k98 pc (am_prog_lt hp).2
      rw [hkd] at hk
      suffices hw : am_WZ (th_Z s σ0) p l e R s m args below meth c (th_Q98 below args s σ0 res) D ac B b 98 (am_c σ0) (am_s σ0) pc (am_trim t lv) st σ by
        intro H locs ls kc ks hZ hl hI hS ec es
        exact hw H locs ls kc ks hZ (am_trim_has hl) hI hS ec es
      have hrec : ∀ q lv st τ, am_ex f d 98 q lv st τ = some res → am_WZ (th_Z s σ0) p l e R s m args below meth c (th_Q98 below args s σ0 res) D ac B b 98 (am_c σ0) (am_s σ0) q lv st τ := fun q lv st τ hq => th_snd98 f d q lv st τ res hq _ _ _ _ _ _ _ _ _ _ _ _ _ _ _ htr hno hat hsr hRc hRf hRl hf hl1 cx hr hlocks
      rcases hk with hk | hk | hk | hk | hk
      · exact th_read hk cx hok h hrec
      · cases i with
        | inl i =>
          cases i
          case ireturn => exact th_r98 cx hr hlocks hok h
          case ifCond cc o => cases cc <;> exact th_n hk rfl
          case if_icmp cc o => cases cc <;> exact th_n hk rfl
          all_goals exact th_n hk rfl
        | inr q =>
          rcases th_inr q with h | h | h | h <;> rw [h] at hk <;> cases hk
      · cases i with
        | inl i =>
          cases i
          case ifCond cc o => cases cc <;> exact th_n hk rfl
          case if_icmp cc o => cases cc <;> exact th_n hk rfl
          all_goals exact th_n hk rfl
        | inr q =>
          obtain ⟨w, idx, u, v⟩ := q
          match w, hk, hok, h with
          | 9, hk, hok, h =>
            have hk : (bif Nat.beq u 11 then 3 else 9) = 3 := hk
            cases hu : Nat.beq u 11 with
            | false => rw [hu] at hk; cases hk
            | true =>
              obtain rfl := Nat.eq_of_beq_eq_true hu
              exact th_p9 (z2 := v) hf hl1 cx hok h hrec
          | 0, hk, _, _ => exact th_n hk rfl
          | 1, hk, _, _ => exact th_n hk rfl
          | 2, hk, _, _ => exact th_n hk rfl
          | 3, hk, _, _ => exact th_n hk rfl
          | 4, hk, _, _ => exact th_n hk rfl
          | 5, hk, _, _ => exact th_n hk rfl
          | 6, hk, _, _ => exact th_n hk rfl
          | 7, hk, _, _ => exact th_n hk rfl
          | 8, hk, _, _ => exact th_n hk rfl
          | 10, hk, _, _ => exact th_n hk rfl
          | 11, hk, _, _ => exact th_n hk rfl
          | 12, hk, _, _ => exact th_n hk rfl
          | 13, hk, _, _ => exact th_n hk rfl
          | 14, hk, _, _ => exact th_n hk rfl
          | 15, hk, _, _ => exact th_n hk rfl
          | 16, hk, _, _ => exact th_n hk rfl
          | 17, hk, _, _ => exact th_n hk rfl
          | 18, hk, _, _ => exact th_n hk rfl
          | 19, hk, _, _ => exact th_n hk rfl
          | 20, hk, _, _ => exact th_n hk rfl
          | 21, hk, _, _ => exact th_n hk rfl
          | 22, hk, _, _ => exact th_n hk rfl
          | 23, hk, _, _ => exact th_n hk rfl
          | 24, hk, _, _ => exact th_n hk rfl
          | w + 25, hk, _, _ => exact th_n hk rfl
      · cases i with
        | inl i =>
          cases i
          case ifCond cc o => cases cc <;> exact th_n hk rfl
          case if_icmp cc o => cases cc <;> exact th_n hk rfl
          all_goals exact th_n hk rfl
        | inr q =>
          obtain ⟨w, idx, u, v⟩ := q
          match w, hk, hok, h with
          | 24, hk, hok, h => exact th_throw (idx := idx) (u := u) (v := v) htr hno hat hsr hRc hRf hRl cx hlocks hok h
          | 9, hk, _, _ =>
            have hk : (bif Nat.beq u 11 then 3 else 9) = 4 := hk
            cases hu : Nat.beq u 11 <;> rw [hu] at hk <;> cases hk
          | 0, hk, _, _ => exact th_n hk rfl
          | 1, hk, _, _ => exact th_n hk rfl
          | 2, hk, _, _ => exact th_n hk rfl
          | 3, hk, _, _ => exact th_n hk rfl
          | 4, hk, _, _ => exact th_n hk rfl
          | 5, hk, _, _ => exact th_n hk rfl
          | 6, hk, _, _ => exact th_n hk rfl
          | 7, hk, _, _ => exact th_n hk rfl
          | 8, hk, _, _ => exact th_n hk rfl
          | 10, hk, _, _ => exact th_n hk rfl
          | 11, hk, _, _ => exact th_n hk rfl
          | 12, hk, _, _ => exact th_n hk rfl
          | 13, hk, _, _ => exact th_n hk rfl
          | 14, hk, _, _ => exact th_n hk rfl
          | 15, hk, _, _ => exact th_n hk rfl
          | 16, hk, _, _ => exact th_n hk rfl
          | 17, hk, _, _ => exact th_n hk rfl
          | 18, hk, _, _ => exact th_n hk rfl
          | 19, hk, _, _ => exact th_n hk rfl
          | 20, hk, _, _ => exact th_n hk rfl
          | 21, hk, _, _ => exact th_n hk rfl
          | 22, hk, _, _ => exact th_n hk rfl
          | 23, hk, _, _ => exact th_n hk rfl
          | w + 25, hk, _, _ => exact th_n hk rfl
      · cases i with
        | inl i =>
          cases i
          case ldc => exact (am_no h rfl).elim
          case invokespecial => exact (am_no h rfl).elim
          case athrow => exact (am_no h rfl).elim
          case ifCond cc o => cases cc <;> exact th_n hk rfl
          case if_icmp cc o => cases cc <;> exact th_n hk rfl
          all_goals exact th_n hk rfl
        | inr q =>
          rcases th_inr q with h | h | h | h <;> rw [h] at hk <;> cases hk
theorem am_c_le_of {f pc : Nat} {lv : am_lv} {st' : List Value} {σ : am_H} {r res : am_r × am_H} (h : (bif decide (r.1.2.1 = 0) then am_ex f 10 180 (pc + 3) lv (.int r.1.1 :: st') r.2 else am_ex f 10 180 13 lv [.ref (am_c r.2)] (am_thr r.2)) = some res) (hmo : am_mo σ r.2) : am_c σ ≤ am_c res.2 := by
  have h1 := hmo.1
  cases hd : decide (r.1.2.1 = 0) with
  | true => rw [hd] at h; have := (am_ex_mo (show am_ex f 10 180 (pc + 3) lv (.int r.1.1 :: st') r.2 = some res from h)).1; omega
  | false =>
    rw [hd] at h
    have : am_c r.2 + 1 ≤ am_c res.2 := (am_ex_mo (show am_ex f 10 180 13 lv [.ref (am_c r.2)] (am_thr r.2) = some res from h)).1
    omega
theorem am_s_le_of {f pc : Nat} {lv : am_lv} {st' : List Value} {σ : am_H} {r res : am_r × am_H} (h : (bif decide (r.1.2.1 = 0) then am_ex f 10 180 (pc + 3) lv (.int r.1.1 :: st') r.2 else am_ex f 10 180 13 lv [.ref (am_c r.2)] (am_thr r.2)) = some res) (hmo : am_mo σ r.2) : am_s σ ≤ am_s res.2 := by
  have h1 := hmo.2.1
  cases hd : decide (r.1.2.1 = 0) with
  | true => rw [hd] at h; have := (am_ex_mo (show am_ex f 10 180 (pc + 3) lv (.int r.1.1 :: st') r.2 = some res from h)).2.1; omega
  | false =>
    rw [hd] at h
    have : am_s r.2 + 6 ≤ am_s res.2 := (am_ex_mo (show am_ex f 10 180 13 lv [.ref (am_c r.2)] (am_thr r.2) = some res from h)).2.1
    omega
/-! FarCacheLineLaw.got: what was thrown is caught -/
theorem th_h13 {f : Nat} {lv : am_lv} {q : Nat} {τ : am_H} {res : am_r × am_H} (h : am_ex f 10 180 13 lv [.ref q] τ = some res) : res = ((nI 1, 0, none), τ) := by
  match f, h with
  | 0, h => cases h
  | 1, h => cases h
  | 2, h => cases h
  | f + 3, h => exact (Option.some.inj (show some ((nI 1, 0, none), τ) = some res from h)).symm
set_option maxRecDepth 100000 in
theorem th_e13 : decode (am_mc 180) 13 = .ok (.astore 4, 2) := by decide +kernel
set_option maxRecDepth 100000 in
theorem th_e15 : decode (am_mc 180) 15 = .ok (.iconst 1, 1) := by decide +kernel
set_option maxRecDepth 100000 in
theorem th_e16 : decode (am_mc 180) 16 = .ok (.ireturn, 1) := by decide +kernel
/-- what the start of the law gives to every later throw -/
def th_cx (S0 : State) (A0 : Array Value) (B : Nat) (l : Launch) : Prop := S0.heap.size = B ∧ l.stackTraces = false ∧ (∀ w ∈ lw_tbl, w.before A0 S0 = true) ∧ th_r1.before A0 S0 = true ∧ th_r2.before A0 S0 = true
section THT
variable {p : Program} {l : Launch} {e : Env} {R : Room} {s : State} {m : MethodId} {args : Array Value} {below : List Frame} {meth : Method} {c : Code} {D : va_G} {ac : Nat → ClassId} {B b c0 s0 : Nat} {pc : Nat} {lv : am_lv} {st : List Value} {σ : am_H} {res : am_r × am_H} {S0 : State} {A0 : Array Value}
theorem th_p23 {f idx z hp : Nat} {x : ExceptionTableEntry} (hS0 : th_cx S0 A0 B l) (hth : th_at S0 s) (hx1 : c.exceptionTable.toList = [x]) (hx2 : (x.startPc, x.endPc, x.handlerPc, x.catchType) = (0, 10, 13, 13)) (hf : 11 ≤ R.frames) (hl1 : 440 ≤ R.locals) (hpc : pc = 5) (hr : meth.sig.returnType = am_mr 180) (hlocks : meth.locks = false)
    (cx : am_cx p R s m args meth c B c0 180) (hok : am_okP 180 pc (23, idx, z, hp) = true) (hG : am_G (am_exC f 10) (fun q lv st τ => am_ex f 10 180 q lv st τ) pc σ (am_p am_nA am_cM am_ml (23, idx, z, hp) pc lv st σ) = some res) (hbc : am_c res.2 ≤ c0 + R.cells) (hbs : am_s res.2 ≤ s0 + R.slots)
    (hrec : ∀ q lv st τ, am_ex f 10 180 q lv st τ = some res → am_WW p l e R s m args below meth c (MQ below (am_Qc D ac B (am_rvv B (am_rt 180) res.1) res.2) args s (am_c res.2 - c0) (am_s res.2 - s0) (fun q => B ≤ q)) D ac B b 180 c0 s0 q lv st τ) :
    am_WW p l e R s m args below meth c (MQ below (am_Qc D ac B (am_rvv B (am_rt 180) res.1) res.2) args s (am_c res.2 - c0) (am_s res.2 - s0) (fun q => B ≤ q)) D ac B b 180 c0 s0 pc lv st σ := by
  simp only [am_okP, Bool.and_eq_true] at hok
  obtain ⟨hd, hml, -, hz, hh⟩ := hok
  obtain rfl := Nat.eq_of_beq_eq_true hz
  obtain rfl := Nat.eq_of_beq_eq_true hh
  obtain ⟨hSB, htr, hts, r1, r2⟩ := hS0
  have hG : am_G (am_exC f 10) (fun q lv st τ => am_ex f 10 180 q lv st τ) pc σ (match am_tk (am_nA 98 + 1) [] st with | some (.ref k :: as, st) => (bif Nat.ble (am_cats st) 8 && Nat.ble (am_cats (.ref k :: as)) (am_ml 98) then am_ck (am_is σ k (am_cM 98)) 98 (.ref k :: as) lv st 13 else none) | _ => none) = some res := hG
  split at hG
  rotate_left
  · exact (am_no hG rfl).elim
  rename_i k as st' htk
  obtain ⟨hr8, hG⟩ := am_bifN hG
  rw [Bool.and_eq_true] at hr8
  have hG : (bif am_is σ k (am_cM 98) then (am_ex f 9 98 0 (am_args 0 (.ref k :: as)) [] σ).bind (fun r => bif decide (r.1.2.1 = 0) then am_ex f 10 180 (pc + 3) lv (.int r.1.1 :: st') r.2 else am_ex f 10 180 13 lv [.ref (am_c r.2)] (am_thr r.2)) else none) = some res := hG
  cases his : am_is σ k (am_cM 98) with
  | false => rw [his] at hG; cases hG
  | true =>
    rw [his] at hG
    obtain ⟨r, hrr, hG2⟩ := am_bindE (o := am_ex f 9 98 0 (am_args 0 (.ref k :: as)) [] σ) hG
    clear hG
    obtain ⟨ys, y1, y2, y3⟩ := am_tkE htk
    rw [List.append_nil] at y2
    subst y2
    have hmo := am_ex_mo hrr
    obtain ⟨n1, n2, n3, n4, n5⟩ := am_nmA 98 (by omega)
    intro H locs ls kc ks hl hI hS ec es
    refine am_Wsz (fun z1 z2 => ?_)
    have hpre := am_pre_of cx hI hS ec z1 z2
    have hst : am_ts B b st = (am_ts B b as).reverse ++ .ref (B + k) :: am_ts B b st' := by rw [y3]; simp [am_ts, am_tr]
    have h8 := am_room (B := B) (b := b) hr8.1
    have hk := hI.2.2.2.1.lt (am_is_sh his) (by decide)
    have hw := am_ws_at (ac := ac) (B := B) hk
    rw [am_e0 (am_is_sh his)] at hw
    obtain ⟨cell, hcell, hobj, hcc⟩ := va_recv hI.1 hI.2.2.1 (am_cl_at 8 (by decide)) hw
    have hW98 : Cond.code (am_my 98) (am_mc 98) (am_ml 98) (am_mr 98) ∈ am_W := List.mem_filter.mpr ⟨am_cd 98 (by decide), rfl⟩
    obtain ⟨m8, meth8, q1, q2, q3, q4⟩ := Cond.instanceMethod_spec (cx.2.2.2.2.1 _ (am_W_of th_w811 rfl))
    obtain ⟨meth8', c8, w1, w2, w3, w4, w5, w6, w7, w8⟩ := Cond.code_spec q1 (cx.2.2.2.2.1 _ hW98)
    cases q2.symm.trans w1
    obtain ⟨cc8, mr8, ms8, v1, v2, v3, v4, mk8, v5, v6⟩ := Cond.selects_spec (cx.2.2.2.2.1 _ (am_W_of th_w812 rfl))
    cases Option.some.inj (v3.symm.trans q1)
    cases Option.some.inj (v2.symm.trans (State.methodFound?_of_named q1 ⟨n3, n4⟩))
    have hcc' : s.vm.findClass (am_own (am_cM 98)) = some cell.cls := hcc
    cases Option.some.inj (v1.symm.trans hcc')
    intro T hT X
    have hown : s.vm.findClass (am_own 10) = some m.cls := cx.2.2.2.1
    obtain ⟨vm1, X1, go1⟩ := X.invokevirtual cx.1 (own := am_own 10) (index := idx) (x := am_my 98) hown (cx.2.2.2.2.1 _ (am_ml_in hml)) q1 q2 q3 v5 v6 ⟨n3, n4⟩ (a := B + k) (cell := cell) (by rw [hT]; exact hcell) (VmData.ne_statics_of hobj) (m' := m8) (meth' := meth8) (mk := mk8) (by rw [Launch.admits_selectMethod X.admits]; exact v4) q2 q4 v5 v6
      (g := F0 m pc ls (am_ts B b st)) rfl (argsL := am_ts B b as) (rest := am_ts B b st') (by
        have : (Option.map (fun d => d.parameters.length) (some meth8.sig)) = some (am_nA 98) := by rw [← w8]; exact n5
        have h9 : meth8.sig.parameters.length = am_nA 98 := Option.some.inj this
        rw [h9]; simp at y1; simpa using y1) hst (by rw [cx.2.1]; exact am_d_ok hd)
    have hav : (Value.ref (B + k) :: am_ts B b as).toArray = (am_ts B b (.ref k :: as)).toArray := rfl
    have hT1 : (T.setVm vm1).heap = H := hT
    have hal : s.vm.Alike vm1 := X1.warmed.alike
    have hpre1 := hpre (T.setVm vm1) hT1 X1.warmed
    have hbl := am_blind (D := D) (ac := ac) (B := B) (b := b) (σ := σ) (av := am_ts B b (.ref k :: as)) (am_ts B b (.ref k :: as)).toArray (T.setVm vm1) (F0 m pc ls (am_ts B b st')) m8 ⟨rfl, hpre1⟩
    have hth8 : th_at S0 ((T.setVm vm1).calling (F0 m pc ls (am_ts B b st')) m8 (am_ts B b (.ref k :: as)).toArray) := by
      refine ⟨hth.1.trans (show s.WarmedH _ from X1.warmed), fun q hq => ?_⟩
      show (T.setVm vm1).heap[q]? = _
      rw [hT1, ← hth.2 q hq]
      have hsz : S0.heap.size ≤ s.heap.size := by rw [hSB]; exact cx.2.2.2.2.2.2.2.2.1
      exact hS.2.1 q (by omega) (by omega)
    have hthr : ¬ r.1.2.1 = 0 → kc + 1 ≤ R.cells ∧ ks + 6 ≤ R.slots := by
      intro hne
      rw [show decide (r.1.2.1 = 0) = false from decide_eq_false hne] at hG2
      have hG3 : am_ex f 10 180 13 lv [.ref (am_c r.2)] (am_thr r.2) = some res := hG2
      have hm3 := am_ex_mo hG3
      have a1 : am_c r.2 + 1 ≤ am_c res.2 := hm3.1
      have a2 : am_s r.2 + 6 ≤ am_s res.2 := hm3.2.1
      have a3 := hmo.1
      have a4 := hmo.2.1
      omega
    have hent := lv_entry (am_ts B b (.ref k :: as)) (n := am_ml 98) (by rw [am_lg]; exact Nat.le_of_ble_eq_true hr8.2)
    rw [← am_args_tl] at hent
    have hwalk := th_snd98 f 9 0 (am_args 0 (.ref k :: as)) [] σ r hrr p l e (am_rm 9 (if r.1.2.1 = 0 then 0 else 1) (if r.1.2.1 = 0 then 0 else 6)) ((T.setVm vm1).calling (F0 m pc ls (am_ts B b st')) m8 (am_ts B b (.ref k :: as)).toArray) m8 (am_ts B b (.ref k :: as)).toArray (.java (F0 m pc ls (am_ts B b st')) :: below) meth8 c8 D ac B b σ htr w7 (th_owns hth8 hts r1 r2) (th_str hth8 (hts _ (List.mem_of_getElem? th_w855)))
      (fun hne => by show 1 ≤ (if r.1.2.1 = 0 then 0 else 1) ∧ 6 ≤ (if r.1.2.1 = 0 then 0 else 6); rw [if_neg hne, if_neg hne]; omega) (by show 7 ≤ 9 + 1; omega) (by show 100 ≤ 40 * (9 + 1); omega) (by show 9 + 1 ≤ 9 + 1; omega) (by show 40 * (9 + 1) ≤ 40 * (9 + 1); omega)
      ⟨cx.1, w3, w4, by
        show vm1.findClass (am_own (am_cM 98)) = some m8.cls
        have := findClass_of_methodNamed q1
        rw [n1] at this
        rw [hal.findClass]; exact this, fun w hw => word_at (U := (T.setVm vm1).calling (F0 m pc ls (am_ts B b st')) m8 (am_ts B b (.ref k :: as)).toArray) X1.warmed (good_of_word (List.mem_filter.mp hw).2) (cx.2.2.2.2.1 w hw), fun h => absurd h (by decide +kernel), by show 1 ≤ 9 + 1; omega, by show 40 ≤ 40 * (9 + 1); omega, hbl.2.2⟩ w5 w6
      _ [] _ 0 0 ⟨rfl, rfl, rfl⟩ hent hbl.2.1 va_S.rf (by omega) (by omega)
    have hwalk2 : W p l e (am_rm 9 (if r.1.2.1 = 0 then 0 else 1) (if r.1.2.1 = 0 then 0 else 6)) ((T.setVm vm1).calling (F0 m pc ls (am_ts B b st')) m8 (am_ts B b (.ref k :: as)).toArray) m8 (am_ts B b (.ref k :: as)).toArray (.java (F0 m pc ls (am_ts B b st')) :: below) meth8 c8 (T.setVm vm1).heap [] 0 0 (th_Q98 (.java (F0 m pc ls (am_ts B b st')) :: below) (am_ts B b (.ref k :: as)).toArray ((T.setVm vm1).calling (F0 m pc ls (am_ts B b st')) m8 (am_ts B b (.ref k :: as)).toArray) σ r) (entryFrame m8 (am_ts B b (.ref k :: as)).toArray c8.maxLocals) := by
      rw [lg_entry_eq, w4]
      exact hwalk
    obtain ⟨t, hsteps, hr2, hQ⟩ := th_into X1 (g := F0 m pc ls (am_ts B b st')) rfl (hl.1.trans cx.2.2.1.symm) (by rw [cx.2.1]; exact am_d_ok hd) (mk := m8) (am_ts B b (.ref k :: as)).toArray (R' := am_rm 9 (if r.1.2.1 = 0 then 0 else 1) (if r.1.2.1 = 0 then 0 else 6)) (by show vm1.method? m8 = some meth8; rw [hal.method?]; exact q2) w2 w6
      (State.WarmedH.plainAt X1.warmed (fun k hk => by
        obtain ⟨k', hk', hn'⟩ := className_of_methodNamed q1
        cases Option.some.inj (hk'.symm.trans hk)
        rw [hn']; exact n2))
      (by show 9 + 1 + 1 ≤ R.frames; omega) (by
        have hm8 : am_ml 98 = 4 := by decide +kernel
        show 2 * 0 + ((st'.map (am_tr B b)).map fun v => v.category).sum + (c8.maxLocals + 11) + 40 * (9 + 1) ≤ R.locals
        rw [w4, hm8]; omega) (by
        show kc + (if r.1.2.1 = 0 then 0 else 1) ≤ R.cells
        split
        · have a1 := am_c_le_of (f := f) hG2 hmo; omega
        · rename_i hne; exact (hthr hne).1) (by
        show ks + (if r.1.2.1 = 0 then 0 else 6) ≤ R.slots
        split
        · have a1 := am_s_le_of (f := f) hG2 hmo; omega
        · rename_i hne; exact (hthr hne).2) hwalk2
    have hgo : Steps p.tables e below (T.setTop (F0 m pc ls (am_ts B b st))) t := go1 t (fun acts => hsteps acts)
    rcases hQ with ⟨hz0, o, hrun, hend, ⟨ho, hh, -⟩, L, ⟨-, hWt, hsame⟩, hL⟩ | ⟨hz1, hrun, a, hend, hWt, hsame, ce, hce, hobj2, hcls2, hasg⟩
    · subst ho
      obtain rfl : L = [] := by
        cases L with
        | nil => rfl
        | cons q L => exact (hL q List.mem_cons_self).elim
      obtain ⟨T', X', -, -, ht⟩ := X1.outOf rfl (by rw [cx.2.1]; exact am_d_ok hd) hend hWt hsame
      rw [List.append_nil] at X'
      rw [show decide (r.1.2.1 = 0) = true from decide_eq_true hz0] at hG2
      have hG3 : am_ex f 10 180 (pc + 3) lv (.int r.1.1 :: st') r.2 = some res := hG2
      rw [hr2] at hG3
      have hT' : T'.heap = H := by
        have e1 : t.heap = T'.heap := by rw [ht]; simp [State.setTop, State.modifyTopJava, State.setFrames]
        rw [← e1, hh]; exact hT1
      obtain ⟨t2, a1, b1⟩ := hrec _ _ _ _ hG3 H locs ls kc ks hl hI hS ec es T' hT' X'
      refine ⟨t2, hgo.trans ?_, b1⟩
      rw [ht]
      exact a1
    · obtain ⟨T', X', hW1, hsame1, ht⟩ := X1.outOfThrown rfl hend hWt hsame
      rw [List.append_nil] at X'
      have hne : ¬ r.1.2.1 = 0 := by rw [hz1]; decide
      rw [show decide (r.1.2.1 = 0) = false from decide_eq_false hne] at hG2
      have hG3 : am_ex f 10 180 13 lv [.ref (am_c r.2)] (am_thr r.2) = some res := hG2
      obtain rfl := th_h13 hG3
      rw [hr2] at hbc hbs ⊢
      have hpl : e.platform.magicAccessors = ({} : Platform).magicAccessors := by rw [X.admits.platform]
      obtain ⟨x1, x2, x3, x4⟩ : x.startPc = 0 ∧ x.endPc = 10 ∧ x.handlerPc = 13 ∧ x.catchType = 13 := by
        simp only [Prod.mk.injEq] at hx2; exact hx2
      have hlink : (Cond.classLink "FarCacheLineLaw" x.catchType th_X).before args s = true := by rw [x4]; exact cx.2.2.2.2.1 _ (am_W_of th_w809 rfl)
      obtain ⟨cT, hcT, hcl⟩ := Cond.classLink_spec (show s.vm.findClass "FarCacheLineLaw" = some m.cls from hown) hlink e.platform hpl
      obtain ⟨dk, _, _, kt, hdk, _, _, _, _, hkt, _, hopen⟩ := hcl.here
      have hW2 : s.WarmedH (T'.vm.noted m.cls x.catchType (.cls cT)) := X'.warmed.noted hdk hopen (State.rightAt_cls hcl)
      have hcls3 : s.vm.findClass th_X = some ce.cls := by
        have : vm1.findClass th_X = some ce.cls := hcls2
        rw [hal.findClass] at this; exact this
      cases Option.some.inj (hcT.symm.trans hcls3)
      obtain ⟨kt', hkt', -⟩ := X'.warmed.alike.2.2 _ _ hkt
      have hasg' : T'.vm.assignable ce.cls ce.cls = true := by
        rw [X'.warmed.alike.assignable]
        have : vm1.assignable ce.cls ce.cls = true := hasg
        rw [hal.assignable] at this; exact this
      have hheap : t.heap = T'.heap := by rw [ht]; exact throwing_heap _ _ _
      have hold : ∀ q, q < H.size → T'.heap[q]? = H[q]? := by
        intro q hq
        have h1 : (T.setVm vm1).heap[q]? = some H[q] := by rw [hT1]; exact Array.getElem?_eq_getElem hq
        have h2 := hsame1.old_cell h1
        have h3 : T'.heap[q]? = some H[q] := h2
        rw [h3, Array.getElem?_eq_getElem hq]
      have hszT : H.size ≤ T'.heap.size := by
        have := hsame1.2.1
        rw [hT1] at this; exact this
      have X2 := X'.noted hW2
      have hS2 : va_S (fun q => B ≤ q) s.heap T'.heap locs := ⟨Nat.le_trans z1 hszT, fun q h1 h2 => by rw [hold q (by omega)]; exact hS.2.1 q h1 h2, hS.2.2⟩
      have hP2 : va_P D am_cl (am_ws ac B (am_thr σ)) T'.heap := by
        refine va_P.kept (ws := am_ws ac B σ) hI.2.2.1 (fun k q hk => hold _ ?_)
        exact (hI.2.2.1 k q hk).lt
      have hfinal : W p l e R s m args below meth c T'.heap locs (kc + 1) (ks + 6) (MQ below (am_Qc D ac B (am_rvv B (am_rt 180) (nI 1, 0, none)) (am_thr σ)) args s (am_c (am_thr σ) - c0) (am_s (am_thr σ) - s0) (fun q => B ≤ q)) (F0 m 13 ls [.ref a]) := by
        refine lv_astore (lv := am_tl B b lv) cx.1 cx.2.1 th_e13 hl (by decide +kernel) rfl (fun ls' hl' => ?_)
        refine lv_iconst cx.1 cx.2.1 th_e15 (v := nI 1) rfl ?_
        have e1 : am_c (am_thr σ) = am_c σ + 1 := rfl
        have e2 : am_s (am_thr σ) = am_s σ + 6 := rfl
        rw [show am_c (am_thr σ) - c0 = kc + 1 by omega, show am_s (am_thr σ) - s0 = ks + 6 by omega]
        exact W.iret cx.1 cx.2.1 (by rw [hr]; rfl) (fun t ht hW => ⟨rfl, by rw [ht]; exact hP2, hI.2.2.2.1, (show am_n σ ≤ am_c σ + 1 from Nat.le_succ_of_le hI.2.2.2.2.1), hS2.F ht⟩) hS2.2.2 th_e16 hlocks
      obtain ⟨t2, a1, b1⟩ := hfinal (T'.setVm (T'.vm.noted m.cls x.catchType (.cls ce.cls))) rfl X2
      refine ⟨t2, hgo.trans ?_, b1⟩
      rw [ht]
      have hat : At T' (F0 m pc ls (am_ts B b st')).method c below := X'.here
      refine th_caught hat (pc := 13) (vm' := T'.vm.noted m.cls x.catchType (.cls ce.cls)) ?_ a1
      rw [← x3]
      intro Q E d acts
      have hvm : ((T'.setTop (F0 m pc ls (am_ts B b st'))).pushFrame (.throwing a)).vm = T'.vm := throwing_vm _ _ _
      have := th_find (e := e) (s := (T'.setTop (F0 m pc ls (am_ts B b st'))).pushFrame (.throwing a)) (f := F0 m pc ls (am_ts B b st')) (a := a) (meth := meth) (code := c) (x := x) (c := ce.cls) (cell := ce) (by rw [hvm]; exact X'.method') X.code hx1 (by simp [covers, x1, x2, hpc]) (by rw [x4]; decide) (by rw [hvm]; exact X'.warmed.classLinks hcl) (by rw [throwing_heap, ← hheap]; exact hce) (VmData.ne_statics_of hobj2) ⟨kt', by rw [hvm]; exact hkt'⟩ ⟨kt', by rw [hvm]; exact hkt'⟩ (by rw [hvm]; exact hasg') Q E d acts
      rw [hvm] at this
      exact this
end THT
def th_k5 (pc : Nat) : Bool := match am_prog 180 pc with
  | some (.inr (23, _, _, _), _) => Nat.beq pc 5
  | _ => true
set_option maxRecDepth 100000 in
theorem th_k5ok : ∀ pc, pc < am_sz 180 → th_k5 pc = true := by decide +kernel
theorem th_snd180 : ∀ (f pc : Nat) (lv : am_lv) (st : List Value) (σ : am_H) (res : am_r × am_H), am_ex f 10 180 pc lv st σ = some res →
    ∀ (p : Program) (l : Launch) (e : Env) (R : Room) (s : State) (m : MethodId) (args : Array Value) (below : List Frame) (meth : Method) (c : Code) (D : va_G) (ac : Nat → ClassId) (B b c0 s0 : Nat) (S0 : State) (A0 : Array Value) (x : ExceptionTableEntry),
      th_cx S0 A0 B l → th_at S0 s → c.exceptionTable.toList = [x] → (x.startPc, x.endPc, x.handlerPc, x.catchType) = (0, 10, 13, 13) → 11 ≤ R.frames → 440 ≤ R.locals → am_c res.2 ≤ c0 + R.cells → am_s res.2 ≤ s0 + R.slots →
      am_cx p R s m args meth c B c0 180 → meth.sig.returnType = am_mr 180 → meth.locks = false →
      am_WW p l e R s m args below meth c (MQ below (am_Qc D ac B (am_rvv B (am_rt 180) res.1) res.2) args s (am_c res.2 - c0) (am_s res.2 - s0) (fun q => B ≤ q)) D ac B b 180 c0 s0 pc lv st σ
  | 0, pc, lv, st, σ, res, h => by cases h
  | f + 1, pc, lv, st, σ, res, h => by
    intro p l e R s m args below meth c D ac B b c0 s0 S0 A0 x hS0 hth hx1 hx2 hf hl1 hbc hbs cx hr hlocks
    rw [am_ex_succ] at h
    unfold am_F at h
    cases hp : am_prog 180 pc with
    | none => rw [hp] at h; cases h
    | some q =>
      obtain ⟨i, t⟩ := q
      rw [hp] at h
      obtain ⟨-, hok⟩ := am_prog_ok hp
      suffices hw : am_WW p l e R s m args below meth c (MQ below (am_Qc D ac B (am_rvv B (am_rt 180) res.1) res.2) args s (am_c res.2 - c0) (am_s res.2 - s0) (fun q => B ≤ q)) D ac B b 180 c0 s0 pc (am_trim t lv) st σ by
        intro H locs ls kc ks hl hI hS ec es
        exact hw H locs ls kc ks (am_trim_has hl) hI hS ec es
      have hMT : am_MT l R D ac B b (am_exC f 10) := am_MT_ok f 10 hf hl1
      have hrec : ∀ q lv st τ, am_ex f 10 180 q lv st τ = some res → am_WW p l e R s m args below meth c (MQ below (am_Qc D ac B (am_rvv B (am_rt 180) res.1) res.2) args s (am_c res.2 - c0) (am_s res.2 - s0) (fun q => B ≤ q)) D ac B b 180 c0 s0 q lv st τ := fun q lv st τ hq => th_snd180 f q lv st τ res hq _ _ _ _ _ _ _ _ _ _ _ _ _ _ _ _ _ _ _ hS0 hth hx1 hx2 hf hl1 hbc hbs cx hr hlocks
      have hm : ∀ q lv st τ, am_ex f 10 180 q lv st τ = some res → am_c τ ≤ am_c res.2 ∧ am_s τ ≤ am_s res.2 := fun q lv st τ hq => ⟨(am_ex_mo hq).1, (am_ex_mo hq).2.1⟩
      cases i with
      | inl i =>
        refine am_stepI (rec := fun q lv st τ => am_ex f 10 180 q lv st τ) cx hok h hrec hm hbc hbs ?_
        intro i hi hoki hGi
        rcases hi with rfl | rfl | rfl | rfl
        · exact am_r_ireturn (by omega) cx hr hlocks hoki hGi
        · exact am_r_lreturn (by omega) cx hr hlocks hoki hGi
        · exact am_r_areturn (by omega) cx hr hlocks hoki hGi
        · exact am_r_return_ (by omega) cx hr hlocks hoki hGi
      | inr y =>
        obtain ⟨w, idx, u, v⟩ := y
        refine am_stepP (rec := fun q lv st τ => am_ex f 10 180 q lv st τ) cx hok h hrec hm hbc hbs hMT ?_
        intro hw
        have hok : am_okP 180 pc (w, idx, u, v) = true := hok
        rcases hw with rfl | rfl | rfl
        · have hpc := th_k5ok pc (am_prog_lt hp).2
          unfold th_k5 at hpc
          rw [hp] at hpc
          exact th_p23 hS0 hth hx1 hx2 hf hl1 (Nat.eq_of_beq_eq_true hpc) hr hlocks cx hok h hbc hbs hrec
        · simp only [am_okP, Bool.and_eq_true] at hok
          exact absurd (Nat.eq_of_beq_eq_true hok.2.1) (by decide)
        · simp only [am_okP, Bool.and_eq_true] at hok
          exact absurd (Nat.eq_of_beq_eq_true hok.2.2.1) (by decide)
/-- the law's call of its own 'got' is followed -/
theorem th_GT {p : Program} {l : Launch} {e : Env} {s : State} {m : MethodId} {args : Array Value} {below : List Frame} {meth : Method} {c : Code} {Q : State → Prop} {D : va_G} {ac : Nat → ClassId} {B b : Nat} {res : am_r × am_H} (hS0 : th_cx s args B l) : am_GT p l e s m args below meth c Q D ac B b res := by
  intro f pc idx z z2 lv st σ cx hok hG hrec hbc hbs
  simp only [am_okP, Bool.and_eq_true] at hok
  obtain ⟨hd, hml, -, hz⟩ := hok
  obtain rfl := Nat.eq_of_beq_eq_true hz
  have hG : am_G (am_exC f 11) (fun q lv st τ => am_ex f 11 181 q lv st τ) pc σ (match am_tk (am_nA 180) [] st with | some (as, st) => (bif Nat.ble (am_cats st) 8 && Nat.ble (am_cats as) (am_ml 180) then am_call true 180 as lv st else none) | _ => none) = some res := hG
  split at hG
  rotate_left
  · exact (am_no hG rfl).elim
  rename_i as st' htk
  obtain ⟨hr8, hG⟩ := am_bifN hG
  rw [Bool.and_eq_true] at hr8
  have hG : (am_ex f 10 180 0 (am_args 0 as) [] σ).bind (fun r => am_bk (am_rt 180) (fun st τ => am_ex f 11 181 (pc + 3) lv st τ) st' r) = some res := hG
  obtain ⟨r, hrr, hG2⟩ := am_bindE (o := am_ex f 10 180 0 (am_args 0 as) [] σ) hG
  clear hG
  obtain ⟨ys, y1, y2, y3⟩ := am_tkE htk
  rw [List.append_nil] at y2
  subst y2
  have hmo := am_ex_mo hrr
  obtain ⟨n1, n2, n3, n4, n5⟩ := am_nmA 180 (by omega)
  have hm : ∀ q lv st τ, am_ex f 11 181 q lv st τ = some res → am_c τ ≤ am_c res.2 ∧ am_s τ ≤ am_s res.2 := fun q lv st τ hq => ⟨(am_ex_mo hq).1, (am_ex_mo hq).2.1⟩
  have hmm := am_hm (rec := fun q lv st τ => am_ex f 11 181 q lv st τ) hG2 hm
  intro H locs ls kc ks hl hI hS ec es
  refine am_Wsz (fun z1 z2 => ?_)
  have hpre := am_pre_of cx hI hS ec z1 z2
  have hst : am_ts B b st = (am_ts B b as).reverse ++ am_ts B b st' := by rw [y3]; simp [am_ts]
  have h8 := am_room (B := B) (b := b) hr8.1
  obtain ⟨m8, meth8, c8, q1, q2, w2, w3, w4, w5, w6, w7, w8⟩ := Cond.codeWith_spec (cx.2.2.2.2.1 _ (am_W_of th_w808 rfl))
  have hstat := Cond.static_spec q1 q2 (cx.2.2.2.2.1 _ (am_W_of th_w807 rfl))
  obtain ⟨k8, hk8, hn8⟩ := className_of_methodNamed q1
  have hini := Cond.initialized_spec (findClass_of_methodNamed q1) hk8 (cx.2.2.2.2.1 _ (am_W_of th_w79 rfl))
  obtain ⟨x, hx1, hx2⟩ : ∃ x, c8.exceptionTable.toList = [x] ∧ (x.startPc, x.endPc, x.handlerPc, x.catchType) = (0, 10, 13, 13) := by
    cases hx : c8.exceptionTable.toList with
    | nil => rw [hx] at w5; cases w5
    | cons x xs =>
      rw [hx] at w5
      cases xs with
      | nil => exact ⟨x, rfl, (List.cons.inj w5).1⟩
      | cons y ys => cases (List.cons.inj w5).2
  have hown : s.vm.findClass (am_own 10) = some m.cls := cx.2.2.2.1
  intro T hT X
  obtain ⟨vm1, X1, go1⟩ := X.invokestatic cx.1 (own := am_own 10) (index := idx) (x := am_my 180) hown (cx.2.2.2.2.1 _ (am_ml_in hml)) q1 q2 hstat hk8 hini ⟨n3, n4⟩ (g := F0 m pc ls (am_ts B b st)) rfl (argsL := am_ts B b as) (rest := am_ts B b st') (by
      have : (Option.map (fun d => d.parameters.length) (some meth8.sig)) = some (am_nA 180) := by rw [← w8]; exact n5
      have h9 : meth8.sig.parameters.length = am_nA 180 := Option.some.inj this
      rw [h9]; simpa using y1) hst (by rw [cx.2.1]; exact am_d_ok hd)
  have hT1 : (T.setVm vm1).heap = H := hT
  have hal : s.vm.Alike vm1 := X1.warmed.alike
  have hpre1 := hpre (T.setVm vm1) hT1 X1.warmed
  have hbl := am_blind (D := D) (ac := ac) (B := B) (b := b) (σ := σ) (av := am_ts B b as) (am_ts B b as).toArray (T.setVm vm1) (F0 m pc ls (am_ts B b st')) m8 ⟨rfl, hpre1⟩
  have hth8 : th_at s ((T.setVm vm1).calling (F0 m pc ls (am_ts B b st')) m8 (am_ts B b as).toArray) := by
    refine ⟨X1.warmed, fun q hq => ?_⟩
    show (T.setVm vm1).heap[q]? = _
    rw [hT1]
    have := hS0.1
    exact hS.2.1 q hq (by omega)
  have hent := lv_entry (am_ts B b as) (n := am_ml 180) (by rw [am_lg]; exact Nat.le_of_ble_eq_true hr8.2)
  rw [← am_args_tl] at hent
  have m1 := hmo.1
  have m2 := hmo.2.1
  have hwalk := th_snd180 f 0 (am_args 0 as) [] σ r hrr p l e (am_rm 10 (am_c r.2 - am_c σ) (am_s r.2 - am_s σ)) ((T.setVm vm1).calling (F0 m pc ls (am_ts B b st')) m8 (am_ts B b as).toArray) m8 (am_ts B b as).toArray (.java (F0 m pc ls (am_ts B b st')) :: below) meth8 c8 D ac B b (am_c σ) (am_s σ) s args x hS0 hth8 hx1 hx2 (by show 11 ≤ 10 + 1; omega) (by show 440 ≤ 40 * (10 + 1); omega) (by show am_c r.2 ≤ am_c σ + (am_c r.2 - am_c σ); omega) (by show am_s r.2 ≤ am_s σ + (am_s r.2 - am_s σ); omega)
    ⟨cx.1, w3, w4, by
      show vm1.findClass (am_own (am_cM 180)) = some m8.cls
      have := findClass_of_methodNamed q1
      rw [n1] at this
      rw [hal.findClass]; exact this, fun w hw => word_at (U := (T.setVm vm1).calling (F0 m pc ls (am_ts B b st')) m8 (am_ts B b as).toArray) X1.warmed (good_of_word (List.mem_filter.mp hw).2) (cx.2.2.2.2.1 w hw), fun h => absurd h (by decide +kernel), by show 1 ≤ 10 + 1; omega, by show 40 ≤ 40 * (10 + 1); omega, hbl.2.2⟩ w6 w7
    _ [] _ 0 0 hent hbl.2.1 va_S.rf (by omega) (by omega)
  have hwalk2 : W p l e (am_rm 10 (am_c r.2 - am_c σ) (am_s r.2 - am_s σ)) ((T.setVm vm1).calling (F0 m pc ls (am_ts B b st')) m8 (am_ts B b as).toArray) m8 (am_ts B b as).toArray (.java (F0 m pc ls (am_ts B b st')) :: below) meth8 c8 (T.setVm vm1).heap [] 0 0 (MQ (.java (F0 m pc ls (am_ts B b st')) :: below) (am_Qc D ac B (am_rvv B (am_rt 180) r.1) r.2) (am_ts B b as).toArray ((T.setVm vm1).calling (F0 m pc ls (am_ts B b st')) m8 (am_ts B b as).toArray) (am_c r.2 - am_c σ) (am_s r.2 - am_s σ) (fun q => B ≤ q)) (entryFrame m8 (am_ts B b as).toArray c8.maxLocals) := by
    rw [lg_entry_eq, w4]
    exact hwalk
  obtain ⟨t, hsteps, o, hrun, hend, ⟨ho, hP, hwf, hnc, hz1, hz2⟩, L, ⟨-, hWt, hsame⟩, hL⟩ := th_into X1 (g := F0 m pc ls (am_ts B b st')) rfl (hl.1.trans cx.2.2.1.symm) (by rw [cx.2.1]; exact am_d_ok hd) (mk := m8) (am_ts B b as).toArray (R' := am_rm 10 (am_c r.2 - am_c σ) (am_s r.2 - am_s σ)) (by show vm1.method? m8 = some meth8; rw [hal.method?]; exact q2) w2 w7
    (State.WarmedH.plainAt X1.warmed (fun k hk => by
      cases Option.some.inj (hk8.symm.trans hk)
      rw [hn8]; exact n2))
    (by show 10 + 1 + 1 ≤ 12; omega) (by
      have hm8 : am_ml 180 = 5 := by decide +kernel
      show 2 * 0 + ((st'.map (am_tr B b)).map fun v => v.category).sum + (c8.maxLocals + 11) + 40 * (10 + 1) ≤ 488
      rw [w4, hm8]; omega) (by show kc + (am_c r.2 - am_c σ) ≤ 601024; omega) (by show ks + (am_s r.2 - am_s σ) ≤ 7293000; omega) hwalk2
  subst ho
  have hgo : Steps p.tables e below (T.setTop (F0 m pc ls (am_ts B b st))) t := go1 t (fun acts => hsteps acts)
  obtain ⟨T', X', -, -, ht⟩ := X1.outOf rfl (by rw [cx.2.1]; exact am_d_ok hd) hend hWt hsame
  have e1 : t.heap = T'.heap := by rw [ht]; simp [State.setTop, State.modifyTopJava, State.setFrames]
  have hz1' : H.size ≤ T'.heap.size := by rw [← e1, ← hT1]; exact hz1
  have hz2' : ∀ q, q < H.size → ¬ B ≤ q → T'.heap[q]? = H[q]? := by
    intro q h1 h2
    rw [← e1, ← hT1]
    exact hz2 q (by show q < (T.setVm vm1).heap.size; rw [hT1]; exact h1) h2
  obtain ⟨t2, a1, b1⟩ := am_after (rec := fun q lv st τ => am_ex f 11 181 q lv st τ) cx hmo hG2 hrec hl hI ec es T'.heap (locs ++ L) (by rw [← e1]; exact hP) hwf hnc
    ⟨Nat.le_trans hS.1 hz1', fun q h1 h2 => by rw [hz2' q (Nat.lt_of_lt_of_le h1 hS.1) h2]; exact hS.2.1 q h1 h2, fun q hq => by
      rcases List.mem_append.mp hq with h | h
      · exact hS.2.2 q h
      · exact hL q h⟩ T' rfl X'
  refine ⟨t2, hgo.trans ?_, b1⟩
  rw [ht]
  exact a1
