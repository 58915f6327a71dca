/-! EACH INSTRUCTION of the abstract machine is followed by the machine's own (by program, a row a kind) -/
def am_W : List Jvm.Cond := lw_tbl.filter goodWord
theorem am_W_of {w : Jvm.Cond} {i : Nat} (h : lw_tbl[i]? = some w) (g : goodWord w = true) : w ∈ am_W := List.mem_filter.mpr ⟨List.mem_of_getElem? h, g⟩
/-- words that don't stay by themselves: the nest's links, the arrays over classes -/
def am_nw (U : State) : Prop := (∀ q ∈ am_nlx, va_Nw (.methodLinkNest (am_own q.1.1) q.1.2.1 (am_my q.1.2.2.1) RX8) U) ∧ va_AO RX0 U ∧ va_AO RX2 U ∧ va_AO RX4 U
theorem am_nw.moved {s U : State} (hW : s.WarmedH U.vm) (h : am_nw s) : am_nw U := ⟨fun q hq => va_Nw.warmM hW (h.1 q hq), va_AO.moved hW.alike h.2.1, va_AO.moved hW.alike h.2.2.1, va_AO.moved hW.alike h.2.2.2⟩
def am_tys (ac : Nat → ClassId) : List (ClassId × FieldType) := [(ac 1, .int), (ac 2, .long), (ac 3, .boolean), (ac 4, .object RX0), (ac 6, .object RX2), (ac 8, .object RX4)]
def am_inv (D : va_G) (ac : Nat → ClassId) (B b : Nat) (σ : am_H) (U : State) (H0 H : Heap) : Prop := va_K D am_cl (am_tys ac) U ∧ am_nw U ∧ va_P D am_cl (am_ws ac B σ) H ∧ am_wf σ ∧ am_n σ ≤ am_c σ ∧ va_X b (am_sl σ) (am_sx σ) U H0 ∧ b < B
/-- what a frame of method y rests on -/
def am_cx (p : Program) (R : Room) (s : State) (m : MethodId) (args : Array Value) (meth : Method) (c : Code) (B c0 y : Nat) : Prop :=
  p.tables.exec = Jvm.exec ∧ c.code = am_mc y ∧ c.maxLocals = am_ml y ∧ s.vm.findClass (am_own (am_cM y)) = some m.cls ∧ (∀ w ∈ am_W, w.before args s = true) ∧ ((am_my y).name = "<init>" → meth.name = "<init>") ∧ 1 ≤ R.frames ∧ 40 ≤ R.locals ∧ B ≤ s.heap.size ∧ s.heap.size ≤ B + c0
/-- from every heap that is as the memory says, the machine comes to Q -/
def am_WW (p : Program) (l : Launch) (e : Env) (R : Room) (s : State) (m : MethodId) (args : Array Value) (below : List Frame) (meth : Method) (c : Code) (Q : State → Prop) (D : va_G) (ac : Nat → ClassId) (B b y c0 s0 : Nat) (pc : Nat) (lv : am_lv) (st : List Value) (σ : am_H) : Prop :=
  ∀ (H : Heap) (locs : List Loc) (ls : Array Slot) (kc ks : Nat), lv_has ls (am_ml y) (am_tl B b lv) → am_inv D ac B b σ s s.heap H → va_S (fun q => B ≤ q) s.heap H locs → kc + c0 = am_c σ → ks + s0 = am_s σ → W p l e R s m args below meth c H locs kc ks Q (F0 m pc ls (am_ts B b st))
theorem am_no {x : am_X} {r : am_r × am_H} (h : x = some r) (hx : x = none) : False := by rw [hx] at h; cases h
theorem am_get_mem : ∀ {lv : am_lv} {i : Nat} {v : Value}, am_get lv i = some v → (i, v) ∈ lv
  | q :: l, i, v, h => by
    unfold am_get at h
    cases e : Nat.beq q.1 i with
    | true =>
      rw [e] at h
      have h1 := Nat.eq_of_beq_eq_true e
      have h2 : some q.2 = some v := h
      rw [← h1, ← Option.some.inj h2]
      exact List.mem_cons_self
    | false =>
      rw [e] at h
      exact List.mem_cons_of_mem _ (am_get_mem h)
theorem am_lget {ls : Array Slot} {n B b : Nat} {lv : am_lv} (hl : lv_has ls n (am_tl B b lv)) {i : Nat} {v : Value} (h : am_get lv i = some v) : ls[i]? = some (.val (am_tr B b v)) :=
  hl.2.2 (i, am_tr B b v) (List.mem_map.mpr ⟨(i, v), am_get_mem h, rfl⟩)
theorem am_clr_mem {q : Nat × Value} {i : Nat} {w : Bool} : ∀ {lv : am_lv}, q ∈ am_clr lv i w → q ∈ lv ∧ ¬ q.1 = i ∧ ¬ (q.1 + 1 = i ∧ am_two q.2 = true) ∧ ¬ (w = true ∧ q.1 = i + 1)
  | x :: l, h => by
    unfold am_clr at h
    cases e : (Nat.beq x.1 i || (Nat.beq (x.1 + 1) i && am_two x.2) || (w && Nat.beq x.1 (i + 1))) with
    | true =>
      rw [e] at h
      have := am_clr_mem (lv := l) h
      exact ⟨List.mem_cons_of_mem _ this.1, this.2⟩
    | false =>
      rw [e] at h
      rcases List.mem_cons.mp h with rfl | h
      · simp only [Bool.or_eq_false_iff, Bool.and_eq_false_iff] at e
        obtain ⟨⟨e1, e2⟩, e3⟩ := e
        refine ⟨List.mem_cons_self, fun h => ?_, fun h => ?_, fun h => ?_⟩
        · rw [h, Nat.beq_refl] at e1; cases e1
        · rcases e2 with e2 | e2
          · rw [h.1, Nat.beq_refl] at e2; cases e2
          · rw [h.2] at e2; cases e2
        · rcases e3 with e3 | e3
          · rw [h.1] at e3; cases e3
          · rw [h.2, Nat.beq_refl] at e3; cases e3
      · have := am_clr_mem (lv := l) h
        exact ⟨List.mem_cons_of_mem _ this.1, this.2⟩
theorem am_ins_mem {q : Nat × Value} {i : Nat} {v : Value} : ∀ {lv : am_lv}, q ∈ am_ins lv i v → q = (i, v) ∨ q ∈ lv
  | [], h => Or.inl (List.mem_singleton.mp h)
  | x :: l, h => by
    unfold am_ins at h
    cases e : Nat.ble x.1 i with
    | true =>
      rw [e] at h
      rcases List.mem_cons.mp h with rfl | h
      · exact Or.inr List.mem_cons_self
      · rcases am_ins_mem h with h | h
        · exact Or.inl h
        · exact Or.inr (List.mem_cons_of_mem _ h)
    | false =>
      rw [e] at h
      rcases List.mem_cons.mp h with rfl | h
      · exact Or.inl rfl
      · exact Or.inr h
theorem am_set1 {ls : Array Slot} {n B b i : Nat} {v : Value} {lv : am_lv} (h2 : am_two v = false) (hl : lv_has ls n ((i, am_tr B b v) :: (am_tl B b lv).filter (fun q => !(q.1 == i) && !(q.1 + 1 == i && q.2.category == 2)))) : lv_has ls n (am_tl B b (am_set lv i v)) := by
  refine ⟨hl.1, hl.2.1, fun q hq => hl.2.2 q ?_⟩
  obtain ⟨x, hx, rfl⟩ := List.mem_map.mp hq
  rcases am_ins_mem hx with rfl | hx
  · exact List.mem_cons_self
  · obtain ⟨h3, h4, h5, -⟩ := am_clr_mem hx
    refine List.mem_cons_of_mem _ (List.mem_filter.mpr ⟨List.mem_map.mpr ⟨x, h3, rfl⟩, ?_⟩)
    have e : (am_tr B b x.2).category = 2 ↔ am_two x.2 = true := by rw [am_tr_cat, am_two_cat, decide_eq_true_eq]
    simp only [Bool.and_eq_true, Bool.not_eq_true', beq_eq_false_iff_ne, ne_eq, Bool.and_eq_false_iff]
    refine ⟨h4, ?_⟩
    by_cases h6 : x.1 + 1 = i
    · exact Or.inr (fun h => h5 ⟨h6, e.mp h⟩)
    · exact Or.inl h6
theorem am_set2 {ls : Array Slot} {n B b i : Nat} {v : Value} {lv : am_lv} (h2 : am_two v = true) (hl : lv_has ls n ((i, am_tr B b v) :: (am_tl B b lv).filter (fun q => !(q.1 == i) && (!(q.1 == i + 1) && !(q.1 + 1 == i && q.2.category == 2))))) : lv_has ls n (am_tl B b (am_set lv i v)) := by
  refine ⟨hl.1, hl.2.1, fun q hq => hl.2.2 q ?_⟩
  obtain ⟨x, hx, rfl⟩ := List.mem_map.mp hq
  unfold am_set at hx
  rw [h2] at hx
  rcases am_ins_mem hx with rfl | hx
  · exact List.mem_cons_self
  · obtain ⟨h3, h4, h5, h7⟩ := am_clr_mem hx
    refine List.mem_cons_of_mem _ (List.mem_filter.mpr ⟨List.mem_map.mpr ⟨x, h3, rfl⟩, ?_⟩)
    have e : (am_tr B b x.2).category = 2 ↔ am_two x.2 = true := by rw [am_tr_cat, am_two_cat, decide_eq_true_eq]
    simp only [Bool.and_eq_true, Bool.not_eq_true', beq_eq_false_iff_ne, ne_eq, Bool.and_eq_false_iff]
    refine ⟨h4, fun h => h7 ⟨rfl, h⟩, ?_⟩
    by_cases h6 : x.1 + 1 = i
    · exact Or.inr (fun h => h5 ⟨h6, e.mp h⟩)
    · exact Or.inl h6
theorem am_trimL_mem {l : List Nat} {q : Nat × Value} : ∀ {lv : am_lv}, q ∈ am_trimL l lv → q ∈ lv
  | x :: lv, h => by
    unfold am_trimL at h
    cases e : am_has l x.1 with
    | true =>
      rw [e] at h
      rcases List.mem_cons.mp h with rfl | h
      · exact List.mem_cons_self
      · exact List.mem_cons_of_mem _ (am_trimL_mem h)
    | false => rw [e] at h; exact List.mem_cons_of_mem _ (am_trimL_mem h)
theorem am_trim_has {ls : Array Slot} {n B b : Nat} {t : Option (List Nat)} {lv : am_lv} (hl : lv_has ls n (am_tl B b lv)) : lv_has ls n (am_tl B b (am_trim t lv)) := by
  refine ⟨hl.1, hl.2.1, fun q hq => hl.2.2 q ?_⟩
  cases t with
  | none => exact hq
  | some l =>
    obtain ⟨x, hx, rfl⟩ := List.mem_map.mp hq
    exact List.mem_map.mpr ⟨x, am_trimL_mem hx, rfl⟩
theorem am_args_tl (B b : Nat) : ∀ (i : Nat) (as : List Value), am_tl B b (am_args i as) = lv_args i (am_ts B b as)
  | _, [] => rfl
  | i, v :: as => by
    show (i, am_tr B b v) :: am_tl B b (am_args (bif am_two v then i + 2 else i + 1) as) = (i, am_tr B b v) :: lv_args (if (am_tr B b v).category = 2 then i + 2 else i + 1) (am_ts B b as)
    rw [am_args_tl B b _ as]
    congr 2
    rw [am_tr_cat]
    cases v <;> rfl
section AMS
variable {p : Program} {l : Launch} {e : Env} {R : Room} {s : State} {m : MethodId} {args : Array Value} {below : List Frame} {meth : Method} {c : Code} {Q : State → Prop} {D : va_G} {ac : Nat → ClassId} {B b y c0 s0 : Nat} {pc : Nat} {lv : am_lv} {st : List Value} {σ : am_H} {res : am_r × am_H} {call : Nat → List Value → am_H → am_X} {rec : Nat → am_lv → List Value → am_H → am_X}

theorem am_s_iload_n {k : Fin 4} (cx : am_cx p R s m args meth c B c0 y) (hok : am_okI y pc (.iload_n k) = true) (hG : am_G call rec pc σ (am_i (.iload_n k) (am_rt y) pc lv st σ) = some res) (hrec : ∀ q lv st τ, rec q lv st τ = some res → am_WW p l e R s m args below meth c Q D ac B b y c0 s0 q lv st τ) : am_WW p l e R s m args below meth c Q D ac B b y c0 s0 pc lv st σ := by
  dsimp only [am_i] at hG
  split at hG
  · rename_i x hg
    intro H locs ls kc ks hl hI hS ec es
    exact lv_iload_n cx.1 cx.2.1 (am_d_ok hok) rfl (am_lget hl hg) (hrec _ _ _ _ hG H locs ls kc ks hl hI hS ec es)
  · exact (am_no hG rfl).elim
theorem am_s_lload_n {k : Fin 4} (cx : am_cx p R s m args meth c B c0 y) (hok : am_okI y pc (.lload_n k) = true) (hG : am_G call rec pc σ (am_i (.lload_n k) (am_rt y) pc lv st σ) = some res) (hrec : ∀ q lv st τ, rec q lv st τ = some res → am_WW p l e R s m args below meth c Q D ac B b y c0 s0 q lv st τ) : am_WW p l e R s m args below meth c Q D ac B b y c0 s0 pc lv st σ := by
  dsimp only [am_i] at hG
  split at hG
  · rename_i x hg
    intro H locs ls kc ks hl hI hS ec es
    exact lv_lload_n cx.1 cx.2.1 (am_d_ok hok) rfl (am_lget hl hg) (hrec _ _ _ _ hG H locs ls kc ks hl hI hS ec es)
  · exact (am_no hG rfl).elim
theorem am_s_iload {k : Nat} (cx : am_cx p R s m args meth c B c0 y) (hok : am_okI y pc (.iload k) = true) (hG : am_G call rec pc σ (am_i (.iload k) (am_rt y) pc lv st σ) = some res) (hrec : ∀ q lv st τ, rec q lv st τ = some res → am_WW p l e R s m args below meth c Q D ac B b y c0 s0 q lv st τ) : am_WW p l e R s m args below meth c Q D ac B b y c0 s0 pc lv st σ := by
  dsimp only [am_i] at hG
  split at hG
  · rename_i x hg
    intro H locs ls kc ks hl hI hS ec es
    exact lv_iload cx.1 cx.2.1 (am_d_ok hok) (am_lget hl hg) (hrec _ _ _ _ hG H locs ls kc ks hl hI hS ec es)
  · exact (am_no hG rfl).elim
theorem am_s_lload {k : Nat} (cx : am_cx p R s m args meth c B c0 y) (hok : am_okI y pc (.lload k) = true) (hG : am_G call rec pc σ (am_i (.lload k) (am_rt y) pc lv st σ) = some res) (hrec : ∀ q lv st τ, rec q lv st τ = some res → am_WW p l e R s m args below meth c Q D ac B b y c0 s0 q lv st τ) : am_WW p l e R s m args below meth c Q D ac B b y c0 s0 pc lv st σ := by
  dsimp only [am_i] at hG
  split at hG
  · rename_i x hg
    intro H locs ls kc ks hl hI hS ec es
    exact lv_lload cx.1 cx.2.1 (am_d_ok hok) (am_lget hl hg) (hrec _ _ _ _ hG H locs ls kc ks hl hI hS ec es)
  · exact (am_no hG rfl).elim
theorem am_s_aload_n {k : Fin 4} (cx : am_cx p R s m args meth c B c0 y) (hok : am_okI y pc (.aload_n k) = true) (hG : am_G call rec pc σ (am_i (.aload_n k) (am_rt y) pc lv st σ) = some res) (hrec : ∀ q lv st τ, rec q lv st τ = some res → am_WW p l e R s m args below meth c Q D ac B b y c0 s0 q lv st τ) : am_WW p l e R s m args below meth c Q D ac B b y c0 s0 pc lv st σ := by
  dsimp only [am_i] at hG
  split at hG
  · rename_i x hg
    intro H locs ls kc ks hl hI hS ec es
    exact lv_aload_n cx.1 cx.2.1 (am_d_ok hok) rfl (am_lget hl hg) (hrec _ _ _ _ hG H locs ls kc ks hl hI hS ec es)
  · rename_i hg
    intro H locs ls kc ks hl hI hS ec es
    exact lv_aload_nN cx.1 cx.2.1 (am_d_ok hok) rfl (am_lget hl hg) (hrec _ _ _ _ hG H locs ls kc ks hl hI hS ec es)
  · rename_i x hg
    intro H locs ls kc ks hl hI hS ec es
    exact lv_aload_n cx.1 cx.2.1 (am_d_ok hok) rfl (am_lget hl hg) (hrec _ _ _ _ hG H locs ls kc ks hl hI hS ec es)
  · exact (am_no hG rfl).elim
theorem am_s_aload {k : Nat} (cx : am_cx p R s m args meth c B c0 y) (hok : am_okI y pc (.aload k) = true) (hG : am_G call rec pc σ (am_i (.aload k) (am_rt y) pc lv st σ) = some res) (hrec : ∀ q lv st τ, rec q lv st τ = some res → am_WW p l e R s m args below meth c Q D ac B b y c0 s0 q lv st τ) : am_WW p l e R s m args below meth c Q D ac B b y c0 s0 pc lv st σ := by
  dsimp only [am_i] at hG
  split at hG
  · rename_i x hg
    intro H locs ls kc ks hl hI hS ec es
    exact lv_aload cx.1 cx.2.1 (am_d_ok hok) (am_lget hl hg) (hrec _ _ _ _ hG H locs ls kc ks hl hI hS ec es)
  · rename_i hg
    intro H locs ls kc ks hl hI hS ec es
    exact lv_aloadN cx.1 cx.2.1 (am_d_ok hok) (am_lget hl hg) (hrec _ _ _ _ hG H locs ls kc ks hl hI hS ec es)
  · rename_i x hg
    intro H locs ls kc ks hl hI hS ec es
    exact lv_aload cx.1 cx.2.1 (am_d_ok hok) (am_lget hl hg) (hrec _ _ _ _ hG H locs ls kc ks hl hI hS ec es)
  · exact (am_no hG rfl).elim
theorem am_s_istore_n {k : Fin 4} (cx : am_cx p R s m args meth c B c0 y) (hok : am_okI y pc (.istore_n k) = true) (hG : am_G call rec pc σ (am_i (.istore_n k) (am_rt y) pc lv st σ) = some res) (hrec : ∀ q lv st τ, rec q lv st τ = some res → am_WW p l e R s m args below meth c Q D ac B b y c0 s0 q lv st τ) : am_WW p l e R s m args below meth c Q D ac B b y c0 s0 pc lv st σ := by
  have hok := Bool.and_eq_true _ _ ▸ hok
  rcases st with _ | ⟨v, st⟩
  · exact (am_no hG rfl).elim
  cases v <;> try exact (am_no hG rfl).elim
  rename_i x
  intro H locs ls kc ks hl hI hS ec es
  exact lv_istore_n cx.1 cx.2.1 (am_d_ok hok.1) rfl hl (of_decide_eq_true hok.2) rfl (fun ls hl => hrec _ _ _ _ hG H locs ls kc ks (am_set1 rfl hl) hI hS ec es)
theorem am_s_istore {k : Nat} (cx : am_cx p R s m args meth c B c0 y) (hok : am_okI y pc (.istore k) = true) (hG : am_G call rec pc σ (am_i (.istore k) (am_rt y) pc lv st σ) = some res) (hrec : ∀ q lv st τ, rec q lv st τ = some res → am_WW p l e R s m args below meth c Q D ac B b y c0 s0 q lv st τ) : am_WW p l e R s m args below meth c Q D ac B b y c0 s0 pc lv st σ := by
  have hok := Bool.and_eq_true _ _ ▸ hok
  rcases st with _ | ⟨v, st⟩
  · exact (am_no hG rfl).elim
  cases v <;> try exact (am_no hG rfl).elim
  rename_i x
  intro H locs ls kc ks hl hI hS ec es
  exact lv_istore cx.1 cx.2.1 (am_d_ok hok.1) hl (of_decide_eq_true hok.2) rfl (fun ls hl => hrec _ _ _ _ hG H locs ls kc ks (am_set1 rfl hl) hI hS ec es)
theorem am_s_lstore_n {k : Fin 4} (cx : am_cx p R s m args meth c B c0 y) (hok : am_okI y pc (.lstore_n k) = true) (hG : am_G call rec pc σ (am_i (.lstore_n k) (am_rt y) pc lv st σ) = some res) (hrec : ∀ q lv st τ, rec q lv st τ = some res → am_WW p l e R s m args below meth c Q D ac B b y c0 s0 q lv st τ) : am_WW p l e R s m args below meth c Q D ac B b y c0 s0 pc lv st σ := by
  have hok := Bool.and_eq_true _ _ ▸ hok
  rcases st with _ | ⟨v, st⟩
  · exact (am_no hG rfl).elim
  cases v <;> try exact (am_no hG rfl).elim
  rename_i x
  intro H locs ls kc ks hl hI hS ec es
  exact lv_lstore_n cx.1 cx.2.1 (am_d_ok hok.1) rfl hl (of_decide_eq_true hok.2) rfl (fun ls hl => hrec _ _ _ _ hG H locs ls kc ks (am_set2 rfl hl) hI hS ec es)
theorem am_s_lstore {k : Nat} (cx : am_cx p R s m args meth c B c0 y) (hok : am_okI y pc (.lstore k) = true) (hG : am_G call rec pc σ (am_i (.lstore k) (am_rt y) pc lv st σ) = some res) (hrec : ∀ q lv st τ, rec q lv st τ = some res → am_WW p l e R s m args below meth c Q D ac B b y c0 s0 q lv st τ) : am_WW p l e R s m args below meth c Q D ac B b y c0 s0 pc lv st σ := by
  have hok := Bool.and_eq_true _ _ ▸ hok
  rcases st with _ | ⟨v, st⟩
  · exact (am_no hG rfl).elim
  cases v <;> try exact (am_no hG rfl).elim
  rename_i x
  intro H locs ls kc ks hl hI hS ec es
  exact lv_lstore cx.1 cx.2.1 (am_d_ok hok.1) hl (of_decide_eq_true hok.2) rfl (fun ls hl => hrec _ _ _ _ hG H locs ls kc ks (am_set2 rfl hl) hI hS ec es)
theorem am_s_astore_n {k : Fin 4} (cx : am_cx p R s m args meth c B c0 y) (hok : am_okI y pc (.astore_n k) = true) (hG : am_G call rec pc σ (am_i (.astore_n k) (am_rt y) pc lv st σ) = some res) (hrec : ∀ q lv st τ, rec q lv st τ = some res → am_WW p l e R s m args below meth c Q D ac B b y c0 s0 q lv st τ) : am_WW p l e R s m args below meth c Q D ac B b y c0 s0 pc lv st σ := by
  have hok := Bool.and_eq_true _ _ ▸ hok
  rcases st with _ | ⟨v, st⟩
  · exact (am_no hG rfl).elim
  cases v <;> try exact (am_no hG rfl).elim
  · intro H locs ls kc ks hl hI hS ec es
    exact lv_astore_nN cx.1 cx.2.1 (am_d_ok hok.1) rfl hl (of_decide_eq_true hok.2) rfl (fun ls hl => hrec _ _ _ _ hG H locs ls kc ks (am_set1 (v := .null) rfl hl) hI hS ec es)
  · rename_i x
    intro H locs ls kc ks hl hI hS ec es
    exact lv_astore_n cx.1 cx.2.1 (am_d_ok hok.1) rfl hl (of_decide_eq_true hok.2) rfl (fun ls hl => hrec _ _ _ _ hG H locs ls kc ks (am_set1 (v := .ref x) rfl hl) hI hS ec es)
theorem am_s_astore {k : Nat} (cx : am_cx p R s m args meth c B c0 y) (hok : am_okI y pc (.astore k) = true) (hG : am_G call rec pc σ (am_i (.astore k) (am_rt y) pc lv st σ) = some res) (hrec : ∀ q lv st τ, rec q lv st τ = some res → am_WW p l e R s m args below meth c Q D ac B b y c0 s0 q lv st τ) : am_WW p l e R s m args below meth c Q D ac B b y c0 s0 pc lv st σ := by
  have hok := Bool.and_eq_true _ _ ▸ hok
  rcases st with _ | ⟨v, st⟩
  · exact (am_no hG rfl).elim
  cases v <;> try exact (am_no hG rfl).elim
  · intro H locs ls kc ks hl hI hS ec es
    exact lv_astoreN cx.1 cx.2.1 (am_d_ok hok.1) hl (of_decide_eq_true hok.2) rfl (fun ls hl => hrec _ _ _ _ hG H locs ls kc ks (am_set1 (v := .null) rfl hl) hI hS ec es)
  · rename_i x
    intro H locs ls kc ks hl hI hS ec es
    exact lv_astore cx.1 cx.2.1 (am_d_ok hok.1) hl (of_decide_eq_true hok.2) rfl (fun ls hl => hrec _ _ _ _ hG H locs ls kc ks (am_set1 (v := .ref x) rfl hl) hI hS ec es)
theorem am_s_iadd (cx : am_cx p R s m args meth c B c0 y) (hok : am_okI y pc (.iadd) = true) (hG : am_G call rec pc σ (am_i (.iadd) (am_rt y) pc lv st σ) = some res) (hrec : ∀ q lv st τ, rec q lv st τ = some res → am_WW p l e R s m args below meth c Q D ac B b y c0 s0 q lv st τ) : am_WW p l e R s m args below meth c Q D ac B b y c0 s0 pc lv st σ := by
  rcases st with _ | ⟨v, _ | ⟨w, st⟩⟩
  · exact (am_no hG rfl).elim
  · cases v <;> exact (am_no hG rfl).elim
  cases v <;> cases w <;> try exact (am_no hG rfl).elim
  rename_i yv xv
  intro H locs ls kc ks hl hI hS ec es
  exact lv_iadd cx.1 cx.2.1 (am_d_ok hok) (hrec _ _ _ _ hG H locs ls kc ks hl hI hS ec es)
theorem am_s_isub (cx : am_cx p R s m args meth c B c0 y) (hok : am_okI y pc (.isub) = true) (hG : am_G call rec pc σ (am_i (.isub) (am_rt y) pc lv st σ) = some res) (hrec : ∀ q lv st τ, rec q lv st τ = some res → am_WW p l e R s m args below meth c Q D ac B b y c0 s0 q lv st τ) : am_WW p l e R s m args below meth c Q D ac B b y c0 s0 pc lv st σ := by
  rcases st with _ | ⟨v, _ | ⟨w, st⟩⟩
  · exact (am_no hG rfl).elim
  · cases v <;> exact (am_no hG rfl).elim
  cases v <;> cases w <;> try exact (am_no hG rfl).elim
  rename_i yv xv
  intro H locs ls kc ks hl hI hS ec es
  exact lv_isub cx.1 cx.2.1 (am_d_ok hok) (hrec _ _ _ _ hG H locs ls kc ks hl hI hS ec es)
theorem am_s_imul (cx : am_cx p R s m args meth c B c0 y) (hok : am_okI y pc (.imul) = true) (hG : am_G call rec pc σ (am_i (.imul) (am_rt y) pc lv st σ) = some res) (hrec : ∀ q lv st τ, rec q lv st τ = some res → am_WW p l e R s m args below meth c Q D ac B b y c0 s0 q lv st τ) : am_WW p l e R s m args below meth c Q D ac B b y c0 s0 pc lv st σ := by
  rcases st with _ | ⟨v, _ | ⟨w, st⟩⟩
  · exact (am_no hG rfl).elim
  · cases v <;> exact (am_no hG rfl).elim
  cases v <;> cases w <;> try exact (am_no hG rfl).elim
  rename_i yv xv
  intro H locs ls kc ks hl hI hS ec es
  exact lv_imul cx.1 cx.2.1 (am_d_ok hok) (hrec _ _ _ _ hG H locs ls kc ks hl hI hS ec es)
theorem am_s_iand (cx : am_cx p R s m args meth c B c0 y) (hok : am_okI y pc (.iand) = true) (hG : am_G call rec pc σ (am_i (.iand) (am_rt y) pc lv st σ) = some res) (hrec : ∀ q lv st τ, rec q lv st τ = some res → am_WW p l e R s m args below meth c Q D ac B b y c0 s0 q lv st τ) : am_WW p l e R s m args below meth c Q D ac B b y c0 s0 pc lv st σ := by
  rcases st with _ | ⟨v, _ | ⟨w, st⟩⟩
  · exact (am_no hG rfl).elim
  · cases v <;> exact (am_no hG rfl).elim
  cases v <;> cases w <;> try exact (am_no hG rfl).elim
  rename_i yv xv
  intro H locs ls kc ks hl hI hS ec es
  exact lv_iand cx.1 cx.2.1 (am_d_ok hok) (hrec _ _ _ _ hG H locs ls kc ks hl hI hS ec es)
theorem am_s_ixor (cx : am_cx p R s m args meth c B c0 y) (hok : am_okI y pc (.ixor) = true) (hG : am_G call rec pc σ (am_i (.ixor) (am_rt y) pc lv st σ) = some res) (hrec : ∀ q lv st τ, rec q lv st τ = some res → am_WW p l e R s m args below meth c Q D ac B b y c0 s0 q lv st τ) : am_WW p l e R s m args below meth c Q D ac B b y c0 s0 pc lv st σ := by
  rcases st with _ | ⟨v, _ | ⟨w, st⟩⟩
  · exact (am_no hG rfl).elim
  · cases v <;> exact (am_no hG rfl).elim
  cases v <;> cases w <;> try exact (am_no hG rfl).elim
  rename_i yv xv
  intro H locs ls kc ks hl hI hS ec es
  exact lv_ixor cx.1 cx.2.1 (am_d_ok hok) (hrec _ _ _ _ hG H locs ls kc ks hl hI hS ec es)
theorem am_s_ishl (cx : am_cx p R s m args meth c B c0 y) (hok : am_okI y pc (.ishl) = true) (hG : am_G call rec pc σ (am_i (.ishl) (am_rt y) pc lv st σ) = some res) (hrec : ∀ q lv st τ, rec q lv st τ = some res → am_WW p l e R s m args below meth c Q D ac B b y c0 s0 q lv st τ) : am_WW p l e R s m args below meth c Q D ac B b y c0 s0 pc lv st σ := by
  rcases st with _ | ⟨v, _ | ⟨w, st⟩⟩
  · exact (am_no hG rfl).elim
  · cases v <;> exact (am_no hG rfl).elim
  cases v <;> cases w <;> try exact (am_no hG rfl).elim
  rename_i yv xv
  intro H locs ls kc ks hl hI hS ec es
  exact lv_ishl cx.1 cx.2.1 (am_d_ok hok) (hrec _ _ _ _ hG H locs ls kc ks hl hI hS ec es)
theorem am_s_lmul (cx : am_cx p R s m args meth c B c0 y) (hok : am_okI y pc (.lmul) = true) (hG : am_G call rec pc σ (am_i (.lmul) (am_rt y) pc lv st σ) = some res) (hrec : ∀ q lv st τ, rec q lv st τ = some res → am_WW p l e R s m args below meth c Q D ac B b y c0 s0 q lv st τ) : am_WW p l e R s m args below meth c Q D ac B b y c0 s0 pc lv st σ := by
  rcases st with _ | ⟨v, _ | ⟨w, st⟩⟩
  · exact (am_no hG rfl).elim
  · cases v <;> exact (am_no hG rfl).elim
  cases v <;> cases w <;> try exact (am_no hG rfl).elim
  rename_i yv xv
  intro H locs ls kc ks hl hI hS ec es
  exact lv_lmul cx.1 cx.2.1 (am_d_ok hok) (hrec _ _ _ _ hG H locs ls kc ks hl hI hS ec es)
theorem am_s_lxor (cx : am_cx p R s m args meth c B c0 y) (hok : am_okI y pc (.lxor) = true) (hG : am_G call rec pc σ (am_i (.lxor) (am_rt y) pc lv st σ) = some res) (hrec : ∀ q lv st τ, rec q lv st τ = some res → am_WW p l e R s m args below meth c Q D ac B b y c0 s0 q lv st τ) : am_WW p l e R s m args below meth c Q D ac B b y c0 s0 pc lv st σ := by
  rcases st with _ | ⟨v, _ | ⟨w, st⟩⟩
  · exact (am_no hG rfl).elim
  · cases v <;> exact (am_no hG rfl).elim
  cases v <;> cases w <;> try exact (am_no hG rfl).elim
  rename_i yv xv
  intro H locs ls kc ks hl hI hS ec es
  exact lv_lxor cx.1 cx.2.1 (am_d_ok hok) (hrec _ _ _ _ hG H locs ls kc ks hl hI hS ec es)
theorem am_s_lor (cx : am_cx p R s m args meth c B c0 y) (hok : am_okI y pc (.lor) = true) (hG : am_G call rec pc σ (am_i (.lor) (am_rt y) pc lv st σ) = some res) (hrec : ∀ q lv st τ, rec q lv st τ = some res → am_WW p l e R s m args below meth c Q D ac B b y c0 s0 q lv st τ) : am_WW p l e R s m args below meth c Q D ac B b y c0 s0 pc lv st σ := by
  rcases st with _ | ⟨v, _ | ⟨w, st⟩⟩
  · exact (am_no hG rfl).elim
  · cases v <;> exact (am_no hG rfl).elim
  cases v <;> cases w <;> try exact (am_no hG rfl).elim
  rename_i yv xv
  intro H locs ls kc ks hl hI hS ec es
  exact lv_lor cx.1 cx.2.1 (am_d_ok hok) (hrec _ _ _ _ hG H locs ls kc ks hl hI hS ec es)
theorem am_s_land (cx : am_cx p R s m args meth c B c0 y) (hok : am_okI y pc (.land) = true) (hG : am_G call rec pc σ (am_i (.land) (am_rt y) pc lv st σ) = some res) (hrec : ∀ q lv st τ, rec q lv st τ = some res → am_WW p l e R s m args below meth c Q D ac B b y c0 s0 q lv st τ) : am_WW p l e R s m args below meth c Q D ac B b y c0 s0 pc lv st σ := by
  rcases st with _ | ⟨v, _ | ⟨w, st⟩⟩
  · exact (am_no hG rfl).elim
  · cases v <;> exact (am_no hG rfl).elim
  cases v <;> cases w <;> try exact (am_no hG rfl).elim
  rename_i yv xv
  intro H locs ls kc ks hl hI hS ec es
  exact lv_land cx.1 cx.2.1 (am_d_ok hok) (hrec _ _ _ _ hG H locs ls kc ks hl hI hS ec es)
theorem am_s_lshl (cx : am_cx p R s m args meth c B c0 y) (hok : am_okI y pc (.lshl) = true) (hG : am_G call rec pc σ (am_i (.lshl) (am_rt y) pc lv st σ) = some res) (hrec : ∀ q lv st τ, rec q lv st τ = some res → am_WW p l e R s m args below meth c Q D ac B b y c0 s0 q lv st τ) : am_WW p l e R s m args below meth c Q D ac B b y c0 s0 pc lv st σ := by
  rcases st with _ | ⟨v, _ | ⟨w, st⟩⟩
  · exact (am_no hG rfl).elim
  · cases v <;> exact (am_no hG rfl).elim
  cases v <;> cases w <;> try exact (am_no hG rfl).elim
  rename_i yv xv
  intro H locs ls kc ks hl hI hS ec es
  exact lv_lshl cx.1 cx.2.1 (am_d_ok hok) rfl (hrec _ _ _ _ hG H locs ls kc ks hl hI hS ec es)
theorem am_s_lshr (cx : am_cx p R s m args meth c B c0 y) (hok : am_okI y pc (.lshr) = true) (hG : am_G call rec pc σ (am_i (.lshr) (am_rt y) pc lv st σ) = some res) (hrec : ∀ q lv st τ, rec q lv st τ = some res → am_WW p l e R s m args below meth c Q D ac B b y c0 s0 q lv st τ) : am_WW p l e R s m args below meth c Q D ac B b y c0 s0 pc lv st σ := by
  rcases st with _ | ⟨v, _ | ⟨w, st⟩⟩
  · exact (am_no hG rfl).elim
  · cases v <;> exact (am_no hG rfl).elim
  cases v <;> cases w <;> try exact (am_no hG rfl).elim
  rename_i yv xv
  intro H locs ls kc ks hl hI hS ec es
  exact lv_lshr cx.1 cx.2.1 (am_d_ok hok) rfl (hrec _ _ _ _ hG H locs ls kc ks hl hI hS ec es)
theorem am_s_lushr (cx : am_cx p R s m args meth c B c0 y) (hok : am_okI y pc (.lushr) = true) (hG : am_G call rec pc σ (am_i (.lushr) (am_rt y) pc lv st σ) = some res) (hrec : ∀ q lv st τ, rec q lv st τ = some res → am_WW p l e R s m args below meth c Q D ac B b y c0 s0 q lv st τ) : am_WW p l e R s m args below meth c Q D ac B b y c0 s0 pc lv st σ := by
  rcases st with _ | ⟨v, _ | ⟨w, st⟩⟩
  · exact (am_no hG rfl).elim
  · cases v <;> exact (am_no hG rfl).elim
  cases v <;> cases w <;> try exact (am_no hG rfl).elim
  rename_i yv xv
  intro H locs ls kc ks hl hI hS ec es
  exact lv_lushr cx.1 cx.2.1 (am_d_ok hok) rfl (hrec _ _ _ _ hG H locs ls kc ks hl hI hS ec es)
theorem am_s_ineg (cx : am_cx p R s m args meth c B c0 y) (hok : am_okI y pc (.ineg) = true) (hG : am_G call rec pc σ (am_i (.ineg) (am_rt y) pc lv st σ) = some res) (hrec : ∀ q lv st τ, rec q lv st τ = some res → am_WW p l e R s m args below meth c Q D ac B b y c0 s0 q lv st τ) : am_WW p l e R s m args below meth c Q D ac B b y c0 s0 pc lv st σ := by
  rcases st with _ | ⟨v, st⟩
  · exact (am_no hG rfl).elim
  cases v <;> try exact (am_no hG rfl).elim
  intro H locs ls kc ks hl hI hS ec es
  exact lv_ineg cx.1 cx.2.1 (am_d_ok hok) (hrec _ _ _ _ hG H locs ls kc ks hl hI hS ec es)
theorem am_s_i2l (cx : am_cx p R s m args meth c B c0 y) (hok : am_okI y pc (.i2l) = true) (hG : am_G call rec pc σ (am_i (.i2l) (am_rt y) pc lv st σ) = some res) (hrec : ∀ q lv st τ, rec q lv st τ = some res → am_WW p l e R s m args below meth c Q D ac B b y c0 s0 q lv st τ) : am_WW p l e R s m args below meth c Q D ac B b y c0 s0 pc lv st σ := by
  rcases st with _ | ⟨v, st⟩
  · exact (am_no hG rfl).elim
  cases v <;> try exact (am_no hG rfl).elim
  intro H locs ls kc ks hl hI hS ec es
  exact lv_i2l cx.1 cx.2.1 (am_d_ok hok) rfl (hrec _ _ _ _ hG H locs ls kc ks hl hI hS ec es)
theorem am_s_l2i (cx : am_cx p R s m args meth c B c0 y) (hok : am_okI y pc (.l2i) = true) (hG : am_G call rec pc σ (am_i (.l2i) (am_rt y) pc lv st σ) = some res) (hrec : ∀ q lv st τ, rec q lv st τ = some res → am_WW p l e R s m args below meth c Q D ac B b y c0 s0 q lv st τ) : am_WW p l e R s m args below meth c Q D ac B b y c0 s0 pc lv st σ := by
  rcases st with _ | ⟨v, st⟩
  · exact (am_no hG rfl).elim
  cases v <;> try exact (am_no hG rfl).elim
  intro H locs ls kc ks hl hI hS ec es
  exact lv_l2i cx.1 cx.2.1 (am_d_ok hok) rfl (hrec _ _ _ _ hG H locs ls kc ks hl hI hS ec es)
theorem am_s_lcmp (cx : am_cx p R s m args meth c B c0 y) (hok : am_okI y pc (.lcmp) = true) (hG : am_G call rec pc σ (am_i (.lcmp) (am_rt y) pc lv st σ) = some res) (hrec : ∀ q lv st τ, rec q lv st τ = some res → am_WW p l e R s m args below meth c Q D ac B b y c0 s0 q lv st τ) : am_WW p l e R s m args below meth c Q D ac B b y c0 s0 pc lv st σ := by
  rcases st with _ | ⟨v, _ | ⟨w, st⟩⟩
  · exact (am_no hG rfl).elim
  · cases v <;> exact (am_no hG rfl).elim
  cases v <;> cases w <;> try exact (am_no hG rfl).elim
  intro H locs ls kc ks hl hI hS ec es
  exact W.lcmp cx.1 cx.2.1 (am_d_ok hok) (hrec _ _ _ _ hG H locs ls kc ks hl hI hS ec es)
theorem am_s_aconst_null (cx : am_cx p R s m args meth c B c0 y) (hok : am_okI y pc (.aconst_null) = true) (hG : am_G call rec pc σ (am_i (.aconst_null) (am_rt y) pc lv st σ) = some res) (hrec : ∀ q lv st τ, rec q lv st τ = some res → am_WW p l e R s m args below meth c Q D ac B b y c0 s0 q lv st τ) : am_WW p l e R s m args below meth c Q D ac B b y c0 s0 pc lv st σ := by
  intro H locs ls kc ks hl hI hS ec es
  exact lv_null cx.1 cx.2.1 (am_d_ok hok) (hrec _ _ _ _ hG H locs ls kc ks hl hI hS ec es)
theorem am_s_dup (cx : am_cx p R s m args meth c B c0 y) (hok : am_okI y pc (.dup) = true) (hG : am_G call rec pc σ (am_i (.dup) (am_rt y) pc lv st σ) = some res) (hrec : ∀ q lv st τ, rec q lv st τ = some res → am_WW p l e R s m args below meth c Q D ac B b y c0 s0 q lv st τ) : am_WW p l e R s m args below meth c Q D ac B b y c0 s0 pc lv st σ := by
  rcases st with _ | ⟨v, st⟩
  · exact (am_no hG rfl).elim
  cases v <;> try exact (am_no hG rfl).elim
  · intro H locs ls kc ks hl hI hS ec es
    exact lv_dup cx.1 cx.2.1 (am_d_ok hok) rfl (hrec _ _ _ _ hG H locs ls kc ks hl hI hS ec es)
  · intro H locs ls kc ks hl hI hS ec es
    exact lv_dup cx.1 cx.2.1 (am_d_ok hok) rfl (hrec _ _ _ _ hG H locs ls kc ks hl hI hS ec es)
theorem am_s_pop (cx : am_cx p R s m args meth c B c0 y) (hok : am_okI y pc (.pop) = true) (hG : am_G call rec pc σ (am_i (.pop) (am_rt y) pc lv st σ) = some res) (hrec : ∀ q lv st τ, rec q lv st τ = some res → am_WW p l e R s m args below meth c Q D ac B b y c0 s0 q lv st τ) : am_WW p l e R s m args below meth c Q D ac B b y c0 s0 pc lv st σ := by
  rcases st with _ | ⟨v, st⟩
  · exact (am_no hG rfl).elim
  cases v <;> try exact (am_no hG rfl).elim
  · intro H locs ls kc ks hl hI hS ec es
    exact lv_pop cx.1 cx.2.1 (am_d_ok hok) rfl (hrec _ _ _ _ hG H locs ls kc ks hl hI hS ec es)
  · intro H locs ls kc ks hl hI hS ec es
    exact lv_pop cx.1 cx.2.1 (am_d_ok hok) rfl (hrec _ _ _ _ hG H locs ls kc ks hl hI hS ec es)
theorem am_s_dup2 (cx : am_cx p R s m args meth c B c0 y) (hok : am_okI y pc (.dup2) = true) (hG : am_G call rec pc σ (am_i (.dup2) (am_rt y) pc lv st σ) = some res) (hrec : ∀ q lv st τ, rec q lv st τ = some res → am_WW p l e R s m args below meth c Q D ac B b y c0 s0 q lv st τ) : am_WW p l e R s m args below meth c Q D ac B b y c0 s0 pc lv st σ := by
  rcases st with _ | ⟨v, _ | ⟨w, st⟩⟩
  · exact (am_no hG rfl).elim
  · cases v <;> exact (am_no hG rfl).elim
  cases v <;> cases w <;> try exact (am_no hG rfl).elim
  intro H locs ls kc ks hl hI hS ec es
  exact lv_dup2_11 cx.1 cx.2.1 (am_d_ok hok) rfl rfl (hrec _ _ _ _ hG H locs ls kc ks hl hI hS ec es)
theorem am_br {cond : Prop} [Decidable cond] {t q : Nat} {k : Nat → am_X} (h : am_sw k [(decide cond, t)] q = some res) : (cond → k t = some res) ∧ (¬ cond → k q = some res) := by
  by_cases hc : cond
  · refine ⟨fun _ => ?_, fun h => absurd hc h⟩
    rw [decide_eq_true hc] at h
    exact h
  · refine ⟨fun h => absurd h hc, fun _ => ?_⟩
    rw [decide_eq_false hc] at h
    exact h
theorem am_s_if_eq {o : Int} (cx : am_cx p R s m args meth c B c0 y) (hok : am_okI y pc (.ifCond .eq o) = true) (hG : am_G call rec pc σ (am_i (.ifCond .eq o) (am_rt y) pc lv st σ) = some res) (hrec : ∀ q lv st τ, rec q lv st τ = some res → am_WW p l e R s m args below meth c Q D ac B b y c0 s0 q lv st τ) : am_WW p l e R s m args below meth c Q D ac B b y c0 s0 pc lv st σ := by
  have hok := Bool.and_eq_true _ _ ▸ hok
  rcases st with _ | ⟨v, st⟩
  · exact (am_no hG rfl).elim
  cases v <;> try exact (am_no hG rfl).elim
  rename_i x
  have hb := am_br (res := res) (show am_sw (fun q => rec q lv st σ) [(decide (x = 0), am_tgt pc o)] (pc + 3) = some res from hG)
  intro H locs ls kc ks hl hI hS ec es
  refine lv_if_eq cx.1 cx.2.1 (am_d_ok hok.1) (am_tgt_ok hok.2) (fun hc => ?_) (fun hc => ?_)
  · exact hrec _ _ _ _ (hb.1 hc) H locs ls kc ks hl hI hS ec es
  · exact hrec _ _ _ _ (hb.2 hc) H locs ls kc ks hl hI hS ec es
theorem am_s_icmp_eq {o : Int} (cx : am_cx p R s m args meth c B c0 y) (hok : am_okI y pc (.if_icmp .eq o) = true) (hG : am_G call rec pc σ (am_i (.if_icmp .eq o) (am_rt y) pc lv st σ) = some res) (hrec : ∀ q lv st τ, rec q lv st τ = some res → am_WW p l e R s m args below meth c Q D ac B b y c0 s0 q lv st τ) : am_WW p l e R s m args below meth c Q D ac B b y c0 s0 pc lv st σ := by
  have hok := Bool.and_eq_true _ _ ▸ hok
  rcases st with _ | ⟨v, _ | ⟨w, st⟩⟩
  · exact (am_no hG rfl).elim
  · cases v <;> exact (am_no hG rfl).elim
  cases v <;> cases w <;> try exact (am_no hG rfl).elim
  rename_i yv x
  have hb := am_br (res := res) (show am_sw (fun q => rec q lv st σ) [(decide (x = yv), am_tgt pc o)] (pc + 3) = some res from hG)
  intro H locs ls kc ks hl hI hS ec es
  refine lv_icmp_eq cx.1 cx.2.1 (am_d_ok hok.1) (am_tgt_ok hok.2) (fun hc => ?_) (fun hc => ?_)
  · exact hrec _ _ _ _ (hb.1 hc) H locs ls kc ks hl hI hS ec es
  · exact hrec _ _ _ _ (hb.2 hc) H locs ls kc ks hl hI hS ec es
theorem am_s_if_ne {o : Int} (cx : am_cx p R s m args meth c B c0 y) (hok : am_okI y pc (.ifCond .ne o) = true) (hG : am_G call rec pc σ (am_i (.ifCond .ne o) (am_rt y) pc lv st σ) = some res) (hrec : ∀ q lv st τ, rec q lv st τ = some res → am_WW p l e R s m args below meth c Q D ac B b y c0 s0 q lv st τ) : am_WW p l e R s m args below meth c Q D ac B b y c0 s0 pc lv st σ := by
  have hok := Bool.and_eq_true _ _ ▸ hok
  rcases st with _ | ⟨v, st⟩
  · exact (am_no hG rfl).elim
  cases v <;> try exact (am_no hG rfl).elim
  rename_i x
  have hb := am_br (res := res) (show am_sw (fun q => rec q lv st σ) [(decide (¬ x = 0), am_tgt pc o)] (pc + 3) = some res from hG)
  intro H locs ls kc ks hl hI hS ec es
  refine lv_if_ne cx.1 cx.2.1 (am_d_ok hok.1) (am_tgt_ok hok.2) (fun hc => ?_) (fun hc => ?_)
  · exact hrec _ _ _ _ (hb.1 hc) H locs ls kc ks hl hI hS ec es
  · exact hrec _ _ _ _ (hb.2 (fun h => h hc)) H locs ls kc ks hl hI hS ec es
theorem am_s_icmp_ne {o : Int} (cx : am_cx p R s m args meth c B c0 y) (hok : am_okI y pc (.if_icmp .ne o) = true) (hG : am_G call rec pc σ (am_i (.if_icmp .ne o) (am_rt y) pc lv st σ) = some res) (hrec : ∀ q lv st τ, rec q lv st τ = some res → am_WW p l e R s m args below meth c Q D ac B b y c0 s0 q lv st τ) : am_WW p l e R s m args below meth c Q D ac B b y c0 s0 pc lv st σ := by
  have hok := Bool.and_eq_true _ _ ▸ hok
  rcases st with _ | ⟨v, _ | ⟨w, st⟩⟩
  · exact (am_no hG rfl).elim
  · cases v <;> exact (am_no hG rfl).elim
  cases v <;> cases w <;> try exact (am_no hG rfl).elim
  rename_i yv x
  have hb := am_br (res := res) (show am_sw (fun q => rec q lv st σ) [(decide (¬ x = yv), am_tgt pc o)] (pc + 3) = some res from hG)
  intro H locs ls kc ks hl hI hS ec es
  refine lv_icmp_ne cx.1 cx.2.1 (am_d_ok hok.1) (am_tgt_ok hok.2) (fun hc => ?_) (fun hc => ?_)
  · exact hrec _ _ _ _ (hb.1 hc) H locs ls kc ks hl hI hS ec es
  · exact hrec _ _ _ _ (hb.2 (fun h => h hc)) H locs ls kc ks hl hI hS ec es
theorem am_s_if_lt {o : Int} (cx : am_cx p R s m args meth c B c0 y) (hok : am_okI y pc (.ifCond .lt o) = true) (hG : am_G call rec pc σ (am_i (.ifCond .lt o) (am_rt y) pc lv st σ) = some res) (hrec : ∀ q lv st τ, rec q lv st τ = some res → am_WW p l e R s m args below meth c Q D ac B b y c0 s0 q lv st τ) : am_WW p l e R s m args below meth c Q D ac B b y c0 s0 pc lv st σ := by
  have hok := Bool.and_eq_true _ _ ▸ hok
  rcases st with _ | ⟨v, st⟩
  · exact (am_no hG rfl).elim
  cases v <;> try exact (am_no hG rfl).elim
  rename_i x
  have hb := am_br (res := res) (show am_sw (fun q => rec q lv st σ) [(decide (x < 0), am_tgt pc o)] (pc + 3) = some res from hG)
  intro H locs ls kc ks hl hI hS ec es
  refine lv_if_lt cx.1 cx.2.1 (am_d_ok hok.1) (am_tgt_ok hok.2) (fun hc => ?_) (fun hc => ?_)
  · exact hrec _ _ _ _ (hb.1 hc) H locs ls kc ks hl hI hS ec es
  · exact hrec _ _ _ _ (hb.2 hc) H locs ls kc ks hl hI hS ec es
theorem am_s_icmp_lt {o : Int} (cx : am_cx p R s m args meth c B c0 y) (hok : am_okI y pc (.if_icmp .lt o) = true) (hG : am_G call rec pc σ (am_i (.if_icmp .lt o) (am_rt y) pc lv st σ) = some res) (hrec : ∀ q lv st τ, rec q lv st τ = some res → am_WW p l e R s m args below meth c Q D ac B b y c0 s0 q lv st τ) : am_WW p l e R s m args below meth c Q D ac B b y c0 s0 pc lv st σ := by
  have hok := Bool.and_eq_true _ _ ▸ hok
  rcases st with _ | ⟨v, _ | ⟨w, st⟩⟩
  · exact (am_no hG rfl).elim
  · cases v <;> exact (am_no hG rfl).elim
  cases v <;> cases w <;> try exact (am_no hG rfl).elim
  rename_i yv x
  have hb := am_br (res := res) (show am_sw (fun q => rec q lv st σ) [(decide (x < yv), am_tgt pc o)] (pc + 3) = some res from hG)
  intro H locs ls kc ks hl hI hS ec es
  refine lv_icmp_lt cx.1 cx.2.1 (am_d_ok hok.1) (am_tgt_ok hok.2) (fun hc => ?_) (fun hc => ?_)
  · exact hrec _ _ _ _ (hb.1 hc) H locs ls kc ks hl hI hS ec es
  · exact hrec _ _ _ _ (hb.2 hc) H locs ls kc ks hl hI hS ec es
theorem am_s_if_ge {o : Int} (cx : am_cx p R s m args meth c B c0 y) (hok : am_okI y pc (.ifCond .ge o) = true) (hG : am_G call rec pc σ (am_i (.ifCond .ge o) (am_rt y) pc lv st σ) = some res) (hrec : ∀ q lv st τ, rec q lv st τ = some res → am_WW p l e R s m args below meth c Q D ac B b y c0 s0 q lv st τ) : am_WW p l e R s m args below meth c Q D ac B b y c0 s0 pc lv st σ := by
  have hok := Bool.and_eq_true _ _ ▸ hok
  rcases st with _ | ⟨v, st⟩
  · exact (am_no hG rfl).elim
  cases v <;> try exact (am_no hG rfl).elim
  rename_i x
  have hb := am_br (res := res) (show am_sw (fun q => rec q lv st σ) [(decide (0 ≤ x), am_tgt pc o)] (pc + 3) = some res from hG)
  intro H locs ls kc ks hl hI hS ec es
  refine lv_if_ge cx.1 cx.2.1 (am_d_ok hok.1) (am_tgt_ok hok.2) (fun hc => ?_) (fun hc => ?_)
  · exact hrec _ _ _ _ (hb.1 hc) H locs ls kc ks hl hI hS ec es
  · exact hrec _ _ _ _ (hb.2 hc) H locs ls kc ks hl hI hS ec es
theorem am_s_icmp_ge {o : Int} (cx : am_cx p R s m args meth c B c0 y) (hok : am_okI y pc (.if_icmp .ge o) = true) (hG : am_G call rec pc σ (am_i (.if_icmp .ge o) (am_rt y) pc lv st σ) = some res) (hrec : ∀ q lv st τ, rec q lv st τ = some res → am_WW p l e R s m args below meth c Q D ac B b y c0 s0 q lv st τ) : am_WW p l e R s m args below meth c Q D ac B b y c0 s0 pc lv st σ := by
  have hok := Bool.and_eq_true _ _ ▸ hok
  rcases st with _ | ⟨v, _ | ⟨w, st⟩⟩
  · exact (am_no hG rfl).elim
  · cases v <;> exact (am_no hG rfl).elim
  cases v <;> cases w <;> try exact (am_no hG rfl).elim
  rename_i yv x
  have hb := am_br (res := res) (show am_sw (fun q => rec q lv st σ) [(decide (yv ≤ x), am_tgt pc o)] (pc + 3) = some res from hG)
  intro H locs ls kc ks hl hI hS ec es
  refine lv_icmp_ge cx.1 cx.2.1 (am_d_ok hok.1) (am_tgt_ok hok.2) (fun hc => ?_) (fun hc => ?_)
  · exact hrec _ _ _ _ (hb.1 hc) H locs ls kc ks hl hI hS ec es
  · exact hrec _ _ _ _ (hb.2 hc) H locs ls kc ks hl hI hS ec es
theorem am_s_if_gt {o : Int} (cx : am_cx p R s m args meth c B c0 y) (hok : am_okI y pc (.ifCond .gt o) = true) (hG : am_G call rec pc σ (am_i (.ifCond .gt o) (am_rt y) pc lv st σ) = some res) (hrec : ∀ q lv st τ, rec q lv st τ = some res → am_WW p l e R s m args below meth c Q D ac B b y c0 s0 q lv st τ) : am_WW p l e R s m args below meth c Q D ac B b y c0 s0 pc lv st σ := by
  have hok := Bool.and_eq_true _ _ ▸ hok
  rcases st with _ | ⟨v, st⟩
  · exact (am_no hG rfl).elim
  cases v <;> try exact (am_no hG rfl).elim
  rename_i x
  have hb := am_br (res := res) (show am_sw (fun q => rec q lv st σ) [(decide (0 < x), am_tgt pc o)] (pc + 3) = some res from hG)
  intro H locs ls kc ks hl hI hS ec es
  refine lv_if_gt cx.1 cx.2.1 (am_d_ok hok.1) (am_tgt_ok hok.2) (fun hc => ?_) (fun hc => ?_)
  · exact hrec _ _ _ _ (hb.1 hc) H locs ls kc ks hl hI hS ec es
  · exact hrec _ _ _ _ (hb.2 hc) H locs ls kc ks hl hI hS ec es
theorem am_s_icmp_gt {o : Int} (cx : am_cx p R s m args meth c B c0 y) (hok : am_okI y pc (.if_icmp .gt o) = true) (hG : am_G call rec pc σ (am_i (.if_icmp .gt o) (am_rt y) pc lv st σ) = some res) (hrec : ∀ q lv st τ, rec q lv st τ = some res → am_WW p l e R s m args below meth c Q D ac B b y c0 s0 q lv st τ) : am_WW p l e R s m args below meth c Q D ac B b y c0 s0 pc lv st σ := by
  have hok := Bool.and_eq_true _ _ ▸ hok
  rcases st with _ | ⟨v, _ | ⟨w, st⟩⟩
  · exact (am_no hG rfl).elim
  · cases v <;> exact (am_no hG rfl).elim
  cases v <;> cases w <;> try exact (am_no hG rfl).elim
  rename_i yv x
  have hb := am_br (res := res) (show am_sw (fun q => rec q lv st σ) [(decide (yv < x), am_tgt pc o)] (pc + 3) = some res from hG)
  intro H locs ls kc ks hl hI hS ec es
  refine lv_icmp_gt cx.1 cx.2.1 (am_d_ok hok.1) (am_tgt_ok hok.2) (fun hc => ?_) (fun hc => ?_)
  · exact hrec _ _ _ _ (hb.1 hc) H locs ls kc ks hl hI hS ec es
  · exact hrec _ _ _ _ (hb.2 hc) H locs ls kc ks hl hI hS ec es
theorem am_s_if_le {o : Int} (cx : am_cx p R s m args meth c B c0 y) (hok : am_okI y pc (.ifCond .le o) = true) (hG : am_G call rec pc σ (am_i (.ifCond .le o) (am_rt y) pc lv st σ) = some res) (hrec : ∀ q lv st τ, rec q lv st τ = some res → am_WW p l e R s m args below meth c Q D ac B b y c0 s0 q lv st τ) : am_WW p l e R s m args below meth c Q D ac B b y c0 s0 pc lv st σ := by
  have hok := Bool.and_eq_true _ _ ▸ hok
  rcases st with _ | ⟨v, st⟩
  · exact (am_no hG rfl).elim
  cases v <;> try exact (am_no hG rfl).elim
  rename_i x
  have hb := am_br (res := res) (show am_sw (fun q => rec q lv st σ) [(decide (x ≤ 0), am_tgt pc o)] (pc + 3) = some res from hG)
  intro H locs ls kc ks hl hI hS ec es
  refine lv_if_le cx.1 cx.2.1 (am_d_ok hok.1) (am_tgt_ok hok.2) (fun hc => ?_) (fun hc => ?_)
  · exact hrec _ _ _ _ (hb.1 hc) H locs ls kc ks hl hI hS ec es
  · exact hrec _ _ _ _ (hb.2 hc) H locs ls kc ks hl hI hS ec es
theorem am_s_icmp_le {o : Int} (cx : am_cx p R s m args meth c B c0 y) (hok : am_okI y pc (.if_icmp .le o) = true) (hG : am_G call rec pc σ (am_i (.if_icmp .le o) (am_rt y) pc lv st σ) = some res) (hrec : ∀ q lv st τ, rec q lv st τ = some res → am_WW p l e R s m args below meth c Q D ac B b y c0 s0 q lv st τ) : am_WW p l e R s m args below meth c Q D ac B b y c0 s0 pc lv st σ := by
  have hok := Bool.and_eq_true _ _ ▸ hok
  rcases st with _ | ⟨v, _ | ⟨w, st⟩⟩
  · exact (am_no hG rfl).elim
  · cases v <;> exact (am_no hG rfl).elim
  cases v <;> cases w <;> try exact (am_no hG rfl).elim
  rename_i yv x
  have hb := am_br (res := res) (show am_sw (fun q => rec q lv st σ) [(decide (x ≤ yv), am_tgt pc o)] (pc + 3) = some res from hG)
  intro H locs ls kc ks hl hI hS ec es
  refine lv_icmp_le cx.1 cx.2.1 (am_d_ok hok.1) (am_tgt_ok hok.2) (fun hc => ?_) (fun hc => ?_)
  · exact hrec _ _ _ _ (hb.1 hc) H locs ls kc ks hl hI hS ec es
  · exact hrec _ _ _ _ (hb.2 hc) H locs ls kc ks hl hI hS ec es
theorem am_s_goto {o : Int} (cx : am_cx p R s m args meth c B c0 y) (hok : am_okI y pc (.goto o) = true) (hG : am_G call rec pc σ (am_i (.goto o) (am_rt y) pc lv st σ) = some res) (hrec : ∀ q lv st τ, rec q lv st τ = some res → am_WW p l e R s m args below meth c Q D ac B b y c0 s0 q lv st τ) : am_WW p l e R s m args below meth c Q D ac B b y c0 s0 pc lv st σ := by
  have hok := Bool.and_eq_true _ _ ▸ hok
  intro H locs ls kc ks hl hI hS ec es
  exact lv_goto cx.1 cx.2.1 (am_d_ok hok.1) (am_tgt_ok hok.2) (hrec _ _ _ _ hG H locs ls kc ks hl hI hS ec es)
theorem am_s_ifnull {o : Int} (cx : am_cx p R s m args meth c B c0 y) (hok : am_okI y pc (.ifnull o) = true) (hG : am_G call rec pc σ (am_i (.ifnull o) (am_rt y) pc lv st σ) = some res) (hrec : ∀ q lv st τ, rec q lv st τ = some res → am_WW p l e R s m args below meth c Q D ac B b y c0 s0 q lv st τ) : am_WW p l e R s m args below meth c Q D ac B b y c0 s0 pc lv st σ := by
  have hok := Bool.and_eq_true _ _ ▸ hok
  rcases st with _ | ⟨v, st⟩
  · exact (am_no hG rfl).elim
  cases v <;> try exact (am_no hG rfl).elim
  · intro H locs ls kc ks hl hI hS ec es
    exact lv_ifnullN cx.1 cx.2.1 (am_d_ok hok.1) (am_tgt_ok hok.2) (hrec _ _ _ _ hG H locs ls kc ks hl hI hS ec es)
  · intro H locs ls kc ks hl hI hS ec es
    exact lv_ifnull cx.1 cx.2.1 (am_d_ok hok.1) (hrec _ _ _ _ hG H locs ls kc ks hl hI hS ec es)
theorem am_s_ifnonnull {o : Int} (cx : am_cx p R s m args meth c B c0 y) (hok : am_okI y pc (.ifnonnull o) = true) (hG : am_G call rec pc σ (am_i (.ifnonnull o) (am_rt y) pc lv st σ) = some res) (hrec : ∀ q lv st τ, rec q lv st τ = some res → am_WW p l e R s m args below meth c Q D ac B b y c0 s0 q lv st τ) : am_WW p l e R s m args below meth c Q D ac B b y c0 s0 pc lv st σ := by
  have hok := Bool.and_eq_true _ _ ▸ hok
  rcases st with _ | ⟨v, st⟩
  · exact (am_no hG rfl).elim
  cases v <;> try exact (am_no hG rfl).elim
  · intro H locs ls kc ks hl hI hS ec es
    exact lv_ifnonnullN cx.1 cx.2.1 (am_d_ok hok.1) (hrec _ _ _ _ hG H locs ls kc ks hl hI hS ec es)
  · intro H locs ls kc ks hl hI hS ec es
    exact lv_ifnonnull cx.1 cx.2.1 (am_d_ok hok.1) (am_tgt_ok hok.2) (hrec _ _ _ _ hG H locs ls kc ks hl hI hS ec es)
end AMS
