/-! CONSTANTS, NEW CELLS, NATIVES AND SWITCHES of the abstract machine are followed by the machine's own -/
theorem am_ic {v : Nat} : Int32.ofInt (v : Int) = nI v := Int32.ofInt_eq_ofNat
theorem am_bp {v : Nat} (h : v < 128) : (Int8.ofInt (v : Int)).toInt32 = nI v := by
  apply Int32.toInt_inj.mp
  rw [Int8.toInt_toInt32, Int8.toInt_ofInt_of_le (by omega) (by omega), nI_toInt (by omega)]
theorem am_sp {v : Nat} (h : v < 32768) : (Int16.ofInt (v : Int)).toInt32 = nI v := by
  apply Int32.toInt_inj.mp
  rw [Int16.toInt_toInt32, Int16.toInt_ofInt_of_le (by omega) (by omega), nI_toInt (by omega)]
theorem am_bn : ∀ v : Nat, v < 128 → (Int8.ofInt (-(v : Int))).toInt32 = -nI v := by decide +kernel
theorem am_in : ∀ v : Nat, v < 128 → Int32.ofInt (-(v : Int)) = -nI v := by decide +kernel
theorem am_four {P : am_Q4 → Prop} : ∀ q : am_Q4, (∀ a b c d, P (a, b, c, d)) → P q := fun q h => h q.1 q.2.1 q.2.2.1 q.2.2.2
theorem am_kc_in {o idx v : Nat} (h : am_has4 am_kcx (o, idx, v, 0) = true) : Cond.constant (am_own o) idx (nI v) ∈ am_W := by
  obtain ⟨i, hi⟩ := am_has4_mem h
  exact am_W_of (am_kcx_ok _ hi) rfl
theorem am_kl_in {o idx v : Nat} (h : am_has4 am_klx (o, idx, v, 0) = true) : Cond.constantLong (am_own o) idx (lN v) ∈ am_W := by
  obtain ⟨i, hi⟩ := am_has4_mem h
  exact am_W_of (am_klx_ok _ hi) rfl
theorem am_cl_in {o idx ci : Nat} (h : am_has4 am_clx (o, idx, ci, 0) = true) : Cond.classLink (am_own o) idx (am_Rn ci) ∈ am_W := by
  obtain ⟨i, hi⟩ := am_has4_mem h
  exact am_W_of (am_clx_ok _ hi) rfl
theorem am_ob_in {o idx : Nat} (h : am_has4 am_obx (o, idx, 0, 0) = true) : Cond.methodLink (am_own o) idx objectInit ∈ am_W := by
  obtain ⟨i, hi⟩ := am_has4_mem h
  exact am_W_of (am_obx_ok _ hi) rfl
theorem am_jd_in {o idx w : Nat} (h : am_has4 am_jdx (o, idx, w, 0) = true) : Cond.methodLink (am_own o) idx (am_jn w) ∈ am_W := by
  obtain ⟨i, hi⟩ := am_has4_mem h
  exact am_W_of (am_jdx_ok _ hi) rfl
set_option maxRecDepth 100000 in
theorem am_inx_all : ∀ ci, ci < 11 → ∃ q ∈ am_inx, q.1 = ci := by decide +kernel
set_option maxRecDepth 100000 in
theorem am_itx_all : ∀ ci, ci < 10 → ∃ q ∈ am_itx, q.1 = ci := by decide +kernel
theorem am_init_in {ci : Nat} (h : ci < 11) : Cond.initialized (am_own ci) ∈ am_W := by
  obtain ⟨q, hq, rfl⟩ := am_inx_all ci h
  exact am_W_of (am_inx_ok q hq) rfl
theorem am_inst_in {ci : Nat} (h : ci < 10) : Cond.instantiable (am_Rn ci) (am_N ci) ∈ am_W := by
  obtain ⟨q, hq, rfl⟩ := am_itx_all ci h
  exact am_W_of (am_itx_ok q hq) rfl
theorem am_own_Rn : ∀ ci, ci < 10 → am_own ci = am_Rn ci := by
  intro ci h
  match ci, h with
  | 0, _ => rfl
  | 1, _ => rfl
  | 2, _ => rfl
  | 3, _ => rfl
  | 4, _ => rfl
  | 5, _ => rfl
  | 6, _ => rfl
  | 7, _ => rfl
  | 8, _ => rfl
  | 9, _ => rfl
section AMN
variable {p : Program} {l : Launch} {e : Env} {R : Room} {s : State} {m : MethodId} {args : Array Value} {below : List Frame} {meth : Method} {c : Code} {Q : State → Prop} {D : va_G} {ac : Nat → ClassId} {B b y c0 s0 : Nat} {pc : Nat} {lv : am_lv} {st : List Value} {σ : am_H} {res : am_r × am_H} {call : Nat → List Value → am_H → am_X} {rec : Nat → am_lv → List Value → am_H → am_X}
theorem am_s_p16 {idx v len : Nat} (cx : am_cx p R s m args meth c B c0 y) (hok : am_okP y pc (16, idx, v, len) = true) (hG : am_G call rec pc σ (am_p am_nA am_cM am_ml (16, idx, v, len) pc lv st σ) = some res) (hrec : ∀ q lv st τ, rec q lv st τ = some res → am_WW p l e R s m args below meth c Q D ac B b y c0 s0 q lv st τ) : am_WW p l e R s m args below meth c Q D ac B b y c0 s0 pc lv st σ := by
  have hG : rec (pc + len) lv (.int (nI v) :: st) σ = some res := hG
  intro H locs ls kc ks hl hI hS ec es
  rcases idx with _ | idx
  · rcases len with _ | _ | _ | _ | len
    · cases hok
    · have hok := Bool.and_eq_true _ _ ▸ hok
      exact lv_iconst cx.1 cx.2.1 (am_d_ok hok.1) am_ic (hrec _ _ _ _ hG H locs ls kc ks hl hI hS ec es)
    · have hok := Bool.and_eq_true _ _ ▸ hok
      exact lv_bipush cx.1 cx.2.1 (am_d_ok hok.1) (am_bp (of_decide_eq_true hok.2)) (hrec _ _ _ _ hG H locs ls kc ks hl hI hS ec es)
    · have hok := Bool.and_eq_true _ _ ▸ hok
      exact lv_sipush cx.1 cx.2.1 (am_d_ok hok.1) (am_sp (of_decide_eq_true hok.2)) (hrec _ _ _ _ hG H locs ls kc ks hl hI hS ec es)
    · cases hok
  · rcases len with _ | _ | _ | _ | len
    · cases hok
    · cases hok
    · have hok := Bool.and_eq_true _ _ ▸ hok
      exact lv_ldc cx.1 cx.2.1 cx.2.2.2.1 (cx.2.2.2.2.1 _ (am_kc_in hok.2)) (am_d_ok hok.1) (hrec _ _ _ _ hG H locs ls kc ks hl hI hS ec es)
    · have hok := Bool.and_eq_true _ _ ▸ hok
      exact lv_ldcw cx.1 cx.2.1 cx.2.2.2.1 (cx.2.2.2.2.1 _ (am_kc_in hok.2)) (am_d_ok hok.1) (hrec _ _ _ _ hG H locs ls kc ks hl hI hS ec es)
    · cases hok
theorem am_s_p17 {idx v len : Nat} (cx : am_cx p R s m args meth c B c0 y) (hok : am_okP y pc (17, idx, v, len) = true) (hG : am_G call rec pc σ (am_p am_nA am_cM am_ml (17, idx, v, len) pc lv st σ) = some res) (hrec : ∀ q lv st τ, rec q lv st τ = some res → am_WW p l e R s m args below meth c Q D ac B b y c0 s0 q lv st τ) : am_WW p l e R s m args below meth c Q D ac B b y c0 s0 pc lv st σ := by
  have hG : rec (pc + len) lv (.long (lN v) :: st) σ = some res := hG
  intro H locs ls kc ks hl hI hS ec es
  rcases idx with _ | idx
  · rcases len with _ | _ | _ | _ | len
    · cases hok
    · have hok : (am_d y pc (.lconst 0) 1 && Nat.beq v 0 || am_d y pc (.lconst 1) 1 && Nat.beq v 1) = true := hok
      simp only [Bool.or_eq_true, Bool.and_eq_true] at hok
      rcases hok with ⟨h1, h2⟩ | ⟨h1, h2⟩
      · obtain rfl := Nat.eq_of_beq_eq_true h2
        exact lv_lconst cx.1 cx.2.1 (am_d_ok h1) rfl (hrec _ _ _ _ hG H locs ls kc ks hl hI hS ec es)
      · obtain rfl := Nat.eq_of_beq_eq_true h2
        exact lv_lconst cx.1 cx.2.1 (am_d_ok h1) rfl (hrec _ _ _ _ hG H locs ls kc ks hl hI hS ec es)
    · cases hok
    · have hok := Bool.and_eq_true _ _ ▸ hok
      exact lv_ldc2 cx.1 cx.2.1 cx.2.2.2.1 (cx.2.2.2.2.1 _ (am_kl_in hok.2)) (am_d_ok hok.1) (hrec _ _ _ _ hG H locs ls kc ks hl hI hS ec es)
    · cases hok
  · rcases len with _ | _ | _ | _ | len
    · cases hok
    · cases hok
    · cases hok
    · have hok := Bool.and_eq_true _ _ ▸ hok
      exact lv_ldc2 cx.1 cx.2.1 cx.2.2.2.1 (cx.2.2.2.2.1 _ (am_kl_in hok.2)) (am_d_ok hok.1) (hrec _ _ _ _ hG H locs ls kc ks hl hI hS ec es)
    · cases hok
theorem am_s_p18 {z v len : Nat} (cx : am_cx p R s m args meth c B c0 y) (hok : am_okP y pc (18, z, v, len) = true) (hG : am_G call rec pc σ (am_p am_nA am_cM am_ml (18, z, v, len) pc lv st σ) = some res) (hrec : ∀ q lv st τ, rec q lv st τ = some res → am_WW p l e R s m args below meth c Q D ac B b y c0 s0 q lv st τ) : am_WW p l e R s m args below meth c Q D ac B b y c0 s0 pc lv st σ := by
  have hG : rec (pc + len) lv (.int (-nI v) :: st) σ = some res := hG
  intro H locs ls kc ks hl hI hS ec es
  rcases len with _ | _ | _ | len
  · rcases v with _ | _ | v <;> cases hok
  · rcases v with _ | _ | v
    · cases hok
    · exact lv_iconst cx.1 cx.2.1 (am_d_ok hok) (by decide +kernel) (hrec _ _ _ _ hG H locs ls kc ks hl hI hS ec es)
    · cases hok
  · have hok : (am_d y pc (.bipush (-(v : Int))) 2 && decide (v < 128)) = true := by rcases v with _ | _ | v <;> exact hok
    have hok := Bool.and_eq_true _ _ ▸ hok
    exact lv_bipush cx.1 cx.2.1 (am_d_ok hok.1) (am_bn v (of_decide_eq_true hok.2)) (hrec _ _ _ _ hG H locs ls kc ks hl hI hS ec es)
  · rcases v with _ | _ | v <;> cases hok
theorem am_lmem {ls : Array Slot} {n : Nat} {lw : am_lv} {i : Nat} {v : Value} (h : am_get lw i = some v) : ∃ k : Nat, (am_tl B b lw)[k]? = some (i, am_tr B b v) := by
  obtain ⟨k, hk⟩ := List.getElem?_of_mem (am_get_mem h)
  exact ⟨k, by rw [List.getElem?_map, hk]; rfl⟩
theorem am_s_p19 {z i v : Nat} (cx : am_cx p R s m args meth c B c0 y) (hok : am_okP y pc (19, z, i, v) = true) (hG : am_G call rec pc σ (am_p am_nA am_cM am_ml (19, z, i, v) pc lv st σ) = some res) (hrec : ∀ q lv st τ, rec q lv st τ = some res → am_WW p l e R s m args below meth c Q D ac B b y c0 s0 q lv st τ) : am_WW p l e R s m args below meth c Q D ac B b y c0 s0 pc lv st σ := by
  simp only [am_okP, Bool.and_eq_true, decide_eq_true_eq] at hok
  have hG : am_G call rec pc σ (match am_get lv i with | some (.int x) => am_go [] (pc + 3) (am_set lv i (.int (x + nI v))) st | _ => none) = some res := hG
  split at hG
  · rename_i x hg
    intro H locs ls kc ks hl hI hS ec es
    obtain ⟨k, hk⟩ := am_lmem (ls := ls) (n := 0) (B := B) (b := b) hg
    exact lv_iinc (v := x + nI v) cx.1 cx.2.1 (am_d_ok hok.1) hl hk (by rw [am_ic]) hok.2.2 rfl (fun ls hl => hrec _ _ _ _ hG H locs ls kc ks (am_set1 (v := .int (x + nI v)) rfl hl) hI hS ec es)
  · exact (am_no hG rfl).elim
theorem am_s_p20 {z i v : Nat} (cx : am_cx p R s m args meth c B c0 y) (hok : am_okP y pc (20, z, i, v) = true) (hG : am_G call rec pc σ (am_p am_nA am_cM am_ml (20, z, i, v) pc lv st σ) = some res) (hrec : ∀ q lv st τ, rec q lv st τ = some res → am_WW p l e R s m args below meth c Q D ac B b y c0 s0 q lv st τ) : am_WW p l e R s m args below meth c Q D ac B b y c0 s0 pc lv st σ := by
  simp only [am_okP, Bool.and_eq_true, decide_eq_true_eq] at hok
  have hG : am_G call rec pc σ (match am_get lv i with | some (.int x) => am_go [] (pc + 3) (am_set lv i (.int (x - nI v))) st | _ => none) = some res := hG
  split at hG
  · rename_i x hg
    intro H locs ls kc ks hl hI hS ec es
    obtain ⟨k, hk⟩ := am_lmem (ls := ls) (n := 0) (B := B) (b := b) hg
    exact lv_iinc (v := x - nI v) cx.1 cx.2.1 (am_d_ok hok.1) hl hk (by rw [am_in v hok.2.1, Int32.sub_eq_add_neg]) hok.2.2 rfl (fun ls hl => hrec _ _ _ _ hG H locs ls kc ks (am_set1 (v := .int (x - nI v)) rfl hl) hI hS ec es)
  · exact (am_no hG rfl).elim
theorem am_room {st : List Value} (h : Nat.ble (am_cats st) 8 = true) : ((st.map (am_tr B b)).map fun v => v.category).sum ≤ 8 := by
  have := am_cats_ok B b st
  rw [this]; exact Nat.le_of_ble_eq_true h
theorem am_bifN {g : Bool} {a : Option am_A} (h : am_G call rec pc σ (bif g then a else none) = some res) : g = true ∧ am_G call rec pc σ a = some res := by
  cases g with
  | false => exact (am_no h rfl).elim
  | true => exact ⟨rfl, h⟩
theorem am_s_p12 {idx z z2 : Nat} (cx : am_cx p R s m args meth c B c0 y) (hok : am_okP y pc (12, idx, z, z2) = true) (hG : am_G call rec pc σ (am_p am_nA am_cM am_ml (12, idx, z, z2) pc lv st σ) = some res) (hrec : ∀ q lv st τ, rec q lv st τ = some res → am_WW p l e R s m args below meth c Q D ac B b y c0 s0 q lv st τ) : am_WW p l e R s m args below meth c Q D ac B b y c0 s0 pc lv st σ := by
  have hok := Bool.and_eq_true _ _ ▸ hok
  rcases st with _ | ⟨v, st⟩
  · exact (am_no hG rfl).elim
  cases v <;> try exact (am_no hG rfl).elim
  rename_i k
  obtain ⟨hr, hG⟩ := am_bifN hG
  intro H locs ls kc ks hl hI hS ec es
  have h8 := am_room (B := B) (b := b) hr
  have hlo := cx.2.2.2.2.2.2.2.1
  refine W.objInit cx.1 cx.2.1 cx.2.2.2.1 (cx.2.2.2.2.1 _ (am_ob_in hok.2)) (cx.2.2.2.2.1 _ (am_W_of am_wo1 rfl)) (cx.2.2.2.2.1 _ (am_W_of am_wo2 rfl)) rfl (by rw [cx.2.2.1]; exact hl.1) rfl (am_d_ok hok.1) cx.2.2.2.2.2.2.1 (by show 2 * 0 + ((st.map (am_tr B b)).map fun v => v.category).sum + 12 ≤ R.locals; omega) ?_
  exact hrec _ _ _ _ hG H locs ls kc ks hl hI hS ec es
theorem am_s_p13 {idx z z2 : Nat} (cx : am_cx p R s m args meth c B c0 y) (hok : am_okP y pc (13, idx, z, z2) = true) (hG : am_G call rec pc σ (am_p am_nA am_cM am_ml (13, idx, z, z2) pc lv st σ) = some res) (hrec : ∀ q lv st τ, rec q lv st τ = some res → am_WW p l e R s m args below meth c Q D ac B b y c0 s0 q lv st τ) (hm : ∀ q lv st τ, rec q lv st τ = some res → am_c τ ≤ am_c res.2 ∧ am_s τ ≤ am_s res.2) (hbc : am_c res.2 ≤ c0 + R.cells) (hbs : am_s res.2 ≤ s0 + R.slots) : am_WW p l e R s m args below meth c Q D ac B b y c0 s0 pc lv st σ := by
  have hok := Bool.and_eq_true _ _ ▸ hok
  rcases st with _ | ⟨v, _ | ⟨w, st⟩⟩
  · exact (am_no hG rfl).elim
  · cases v <;> exact (am_no hG rfl).elim
  cases v <;> cases w <;> try exact (am_no hG rfl).elim
  rename_i yv xv
  obtain ⟨hr, hG⟩ := am_bifN hG
  intro H locs ls kc ks hl hI hS ec es
  have h8 := am_room (B := B) (b := b) hr
  have hlo := cx.2.2.2.2.2.2.2.1
  have hmm := hm _ _ _ _ hG
  exact va_mmin cx.1 cx.2.1 (by rw [cx.2.2.1]; exact hl.1.symm) cx.2.2.2.1 (cx.2.2.2.2.1 _ (am_jd_in hok.2)) (cx.2.2.2.2.1 _ (am_W_of am_wm1 rfl)) (cx.2.2.2.2.1 _ (am_W_of am_wm3 rfl)) (cx.2.2.2.2.1 _ (am_W_of am_wm4 rfl)) cx.2.2.2.2.2.2.1 (by omega) (by omega) (by omega) (am_d_ok hok.1) (hrec _ _ _ _ hG H locs ls kc ks hl hI hS ec es)
theorem am_s_p14 {idx z z2 : Nat} (cx : am_cx p R s m args meth c B c0 y) (hok : am_okP y pc (14, idx, z, z2) = true) (hG : am_G call rec pc σ (am_p am_nA am_cM am_ml (14, idx, z, z2) pc lv st σ) = some res) (hrec : ∀ q lv st τ, rec q lv st τ = some res → am_WW p l e R s m args below meth c Q D ac B b y c0 s0 q lv st τ) (hm : ∀ q lv st τ, rec q lv st τ = some res → am_c τ ≤ am_c res.2 ∧ am_s τ ≤ am_s res.2) (hbc : am_c res.2 ≤ c0 + R.cells) (hbs : am_s res.2 ≤ s0 + R.slots) : am_WW p l e R s m args below meth c Q D ac B b y c0 s0 pc lv st σ := by
  have hok := Bool.and_eq_true _ _ ▸ hok
  rcases st with _ | ⟨v, _ | ⟨w, st⟩⟩
  · exact (am_no hG rfl).elim
  · cases v <;> exact (am_no hG rfl).elim
  cases v <;> cases w <;> try exact (am_no hG rfl).elim
  rename_i yv xv
  obtain ⟨hr, hG⟩ := am_bifN hG
  intro H locs ls kc ks hl hI hS ec es
  have h8 := am_room (B := B) (b := b) hr
  have hlo := cx.2.2.2.2.2.2.2.1
  have hmm := hm _ _ _ _ hG
  exact va_mmax cx.1 cx.2.1 (by rw [cx.2.2.1]; exact hl.1.symm) cx.2.2.2.1 (cx.2.2.2.2.1 _ (am_jd_in hok.2)) (cx.2.2.2.2.1 _ (am_W_of am_wm2 rfl)) (cx.2.2.2.2.1 _ (am_W_of am_wm3 rfl)) (cx.2.2.2.2.1 _ (am_W_of am_wm5 rfl)) cx.2.2.2.2.2.2.1 (by omega) (by omega) (by omega) (am_d_ok hok.1) (hrec _ _ _ _ hG H locs ls kc ks hl hI hS ec es)
theorem am_cpy_some {τ : am_H} {k q : Nat} {sp dp n : Int32} (h : am_cpy σ k sp q dp n = some τ) : (¬ sp < 0 ∧ ¬ dp < 0 ∧ ¬ n < 0 ∧ sp.toNatClampNeg + n.toNatClampNeg ≤ (am_sh σ k).2 ∧ dp.toNatClampNeg + n.toNatClampNeg ≤ (am_sh σ q).2) ∧
    ((am_sh σ k = (1, (am_sh σ k).2) ∧ am_sh σ q = (1, (am_sh σ q).2) ∧ τ = (σ.1, am_ur σ.2.1 q (va_cpy (am_I σ k) (am_I σ q) sp.toNatClampNeg dp.toNatClampNeg n.toNatClampNeg), σ.2.2)) ∨
     (am_sh σ k = (2, (am_sh σ k).2) ∧ am_sh σ q = (2, (am_sh σ q).2) ∧ τ = (σ.1, σ.2.1, am_ur σ.2.2 q (va_cpy (am_J σ k) (am_J σ q) sp.toNatClampNeg dp.toNatClampNeg n.toNatClampNeg)))) := by
  unfold am_cpy at h
  cases e : decide (sp < 0) || decide (dp < 0) || decide (n < 0) || decide ((am_sh σ k).2 < sp.toNatClampNeg + n.toNatClampNeg) || decide ((am_sh σ q).2 < dp.toNatClampNeg + n.toNatClampNeg) with
  | true => rw [e] at h; cases h
  | false =>
    rw [e] at h
    simp only [Bool.or_eq_false_iff, decide_eq_false_iff_not] at e
    obtain ⟨⟨⟨⟨e1, e2⟩, e3⟩, e4⟩, e5⟩ := e
    refine ⟨⟨e1, e2, e3, by omega, by omega⟩, ?_⟩
    cases e6 : am_ar σ k 1 && am_ar σ q 1 with
    | true =>
      rw [e6] at h
      rw [Bool.and_eq_true] at e6
      exact Or.inl ⟨am_ar_sh e6.1, am_ar_sh e6.2, (Option.some.inj h).symm⟩
    | false =>
      rw [e6] at h
      cases e7 : am_ar σ k 2 && am_ar σ q 2 with
      | true =>
        rw [e7] at h
        rw [Bool.and_eq_true] at e7
        exact Or.inr ⟨am_ar_sh e7.1, am_ar_sh e7.2, (Option.some.inj h).symm⟩
      | false => rw [e7] at h; cases h
theorem am_ws_cI {k n : Nat} {f : Nat → Int32} (hk : k < am_n σ) (h : am_sh σ k = (1, n)) : (am_ws ac B σ).set k (B + k, .inl (ac 1, n, .inl f)) = am_ws ac B (σ.1, am_ur σ.2.1 k f, σ.2.2) :=
  am_ws_set rfl hk (by rw [am_e1 (σ := (σ.1, am_ur σ.2.1 k f, σ.2.2)) h]; show Sum.inl (ac 1, n, Sum.inl (am_ur σ.2.1 k f k)) = _; rw [am_ur_self]) (fun q hq => am_e_congr rfl (am_ur_ne _ _ hq) rfl rfl)
theorem am_ws_cJ {k n : Nat} {f : Nat → Int64} (hk : k < am_n σ) (h : am_sh σ k = (2, n)) : (am_ws ac B σ).set k (B + k, .inl (ac 2, n, .inr (.inl f))) = am_ws ac B (σ.1, σ.2.1, am_ur σ.2.2 k f) :=
  am_ws_set rfl hk (by rw [am_e2 (σ := (σ.1, σ.2.1, am_ur σ.2.2 k f)) h]; show Sum.inl (ac 2, n, Sum.inr (Sum.inl (am_ur σ.2.2 k f k))) = _; rw [am_ur_self]) (fun q hq => am_e_congr rfl rfl (am_ur_ne _ _ hq) rfl)
theorem am_s_p15 {idx z z2 : Nat} (cx : am_cx p R s m args meth c B c0 y) (hok : am_okP y pc (15, idx, z, z2) = true) (hG : am_G call rec pc σ (am_p am_nA am_cM am_ml (15, idx, z, z2) pc lv st σ) = some res) (hrec : ∀ q lv st τ, rec q lv st τ = some res → am_WW p l e R s m args below meth c Q D ac B b y c0 s0 q lv st τ) : am_WW p l e R s m args below meth c Q D ac B b y c0 s0 pc lv st σ := by
  have hok := Bool.and_eq_true _ _ ▸ hok
  rcases st with _ | ⟨v1, _ | ⟨v2, _ | ⟨v3, _ | ⟨v4, _ | ⟨v5, st⟩⟩⟩⟩⟩
  · exact (am_no hG rfl).elim
  · cases v1 <;> exact (am_no hG rfl).elim
  · cases v1 <;> cases v2 <;> exact (am_no hG rfl).elim
  · cases v1 <;> try exact (am_no hG rfl).elim
    cases v2 <;> try exact (am_no hG rfl).elim
    cases v3 <;> exact (am_no hG rfl).elim
  · cases v1 <;> try exact (am_no hG rfl).elim
    cases v2 <;> try exact (am_no hG rfl).elim
    cases v3 <;> try exact (am_no hG rfl).elim
    cases v4 <;> exact (am_no hG rfl).elim
  cases v1 <;> try exact (am_no hG rfl).elim
  cases v2 <;> try exact (am_no hG rfl).elim
  cases v3 <;> try exact (am_no hG rfl).elim
  cases v4 <;> try exact (am_no hG rfl).elim
  cases v5 <;> try exact (am_no hG rfl).elim
  rename_i n dp q sp k
  obtain ⟨hr, hG⟩ := am_bifN hG
  obtain ⟨τ, hx, hG⟩ := am_bindE (o := am_cpy σ k sp q dp n) hG
  obtain ⟨⟨h1, h2, h3, h4, h5⟩, hx⟩ := am_cpy_some hx
  intro H locs ls kc ks hl hI hS ec es
  have h8 := am_room (B := B) (b := b) hr
  have hlo := cx.2.2.2.2.2.2.2.1
  have hnw : nativeFrameWords "java/lang/System" "arraycopy" 5 = 7 := by decide +kernel
  rcases hx with ⟨hs1, hs2, rfl⟩ | ⟨hs1, hs2, rfl⟩
  · have hk1 := hI.2.2.2.1.lt hs1 (by decide)
    have hk2 := hI.2.2.2.1.lt hs2 (by decide)
    have hw1 := am_ws_at (ac := ac) (B := B) hk1
    rw [am_e1 hs1] at hw1
    have hw2 := am_ws_at (ac := ac) (B := B) hk2
    rw [am_e1 hs2] at hw2
    refine va_copyi cx.1 cx.2.1 (by rw [cx.2.2.1]; exact hl.1.symm) cx.2.2.2.1 (cx.2.2.2.2.1 _ (am_jd_in hok.2)) (cx.2.2.2.2.1 _ (am_W_of am_ws3 rfl)) (cx.2.2.2.2.1 _ (am_W_of am_ws2 rfl)) (cx.2.2.2.2.1 _ (am_W_of am_ws1 rfl)) hI.1 hI.2.2.1 (am_ws_D ac B σ) hS k q 0 0 hw1 hw2 rfl rfl rfl h1 h2 h3 h4 h5 (fun _ _ => rfl) cx.2.2.2.2.2.2.1 (by omega) (am_d_ok hok.1) (fun H1 locs1 hP1 _ hS1 => ?_)
    rw [am_ws_cI hk2 hs2] at hP1
    exact hrec _ _ _ _ hG H1 locs1 ls kc ks hl ⟨hI.1, hI.2.1, hP1, hI.2.2.2.1, hI.2.2.2.2⟩ hS1 ec es
  · have hk1 := hI.2.2.2.1.lt hs1 (by decide)
    have hk2 := hI.2.2.2.1.lt hs2 (by decide)
    have hw1 := am_ws_at (ac := ac) (B := B) hk1
    rw [am_e2 hs1] at hw1
    have hw2 := am_ws_at (ac := ac) (B := B) hk2
    rw [am_e2 hs2] at hw2
    refine va_copyl cx.1 cx.2.1 (by rw [cx.2.2.1]; exact hl.1.symm) cx.2.2.2.1 (cx.2.2.2.2.1 _ (am_jd_in hok.2)) (cx.2.2.2.2.1 _ (am_W_of am_ws3 rfl)) (cx.2.2.2.2.1 _ (am_W_of am_ws2 rfl)) (cx.2.2.2.2.1 _ (am_W_of am_ws1 rfl)) hI.1 hI.2.2.1 (am_ws_D ac B σ) hS k q 1 1 hw1 hw2 rfl rfl rfl h1 h2 h3 h4 h5 (fun _ _ => rfl) cx.2.2.2.2.2.2.1 (by omega) (am_d_ok hok.1) (fun H1 locs1 hP1 _ hS1 => ?_)
    rw [am_ws_cJ hk2 hs2] at hP1
    exact hrec _ _ _ _ hG H1 locs1 ls kc ks hl ⟨hI.1, hI.2.1, hP1, hI.2.2.2.1, hI.2.2.2.2⟩ hS1 ec es
theorem am_size {H : Heap} {kc : Nat} (cx : am_cx p R s m args meth c B c0 y) (hI : am_inv D ac B b σ s s.heap H) (hc : am_c σ = am_n σ) (ec : kc + c0 = am_c σ) (z1 : s.heap.size ≤ H.size) (z2 : H.size ≤ s.heap.size + kc) : H.size = B + am_n σ := by
  have h0 := cx.2.2.2.2.2.2.2.2
  rcases Nat.eq_zero_or_pos (am_n σ) with h | h
  · omega
  · have h1 := (hI.2.2.1 (am_n σ - 1) _ (am_ws_at (ac := ac) (B := B) (by omega))).lt
    have h1 : B + (am_n σ - 1) < H.size := h1
    omega
theorem am_inv_mk {H H1 : Heap} {locs : List Loc} {t x N : Nat} (hI : am_inv D ac B b σ s s.heap H) (hS : va_S (fun q => B ≤ q) s.heap H locs) (hc : am_c σ = am_n σ) (hsz : H.size = B + am_n σ) (o1 : ∀ q, q < B + am_n σ → H1[q]? = H[q]?) (z : H1.size = B + am_n σ + 1) (he : va_at D am_cl (B + am_n σ, am_e ac B (am_mk σ t x N) (am_n σ)) H1) :
    am_inv D ac B b (am_mk σ t x N) s s.heap H1 ∧ va_S (fun q => B ≤ q) s.heap H1 locs := by
  refine ⟨⟨hI.1, hI.2.1, ?_, ?_, ?_, hI.2.2.2.2.2⟩, ⟨Nat.le_trans hS.1 (by omega), fun q h1 h2 => (o1 q (by have := hS.1; omega)).trans (hS.2.1 q h1 h2), hS.2.2⟩⟩
  · rw [am_ws_mk]
    refine va_P.app (hI.2.2.1.kept (fun k q hq => o1 q.1 (by obtain ⟨hk, rfl⟩ := am_ws_to hq; show B + k < _; omega))) (fun k q hq => ?_)
    have hz : k < 1 := (List.getElem?_eq_some_iff.mp hq).1
    rw [show k = 0 by omega] at hq
    cases hq
    exact he
  · intro k hk
    have hk : am_n σ + 1 ≤ k := hk
    show (am_ur (am_sh σ) (am_n σ) (t, x) k).1 = 99
    rw [am_ur_ne _ _ (by omega)]
    exact hI.2.2.2.1 k (by omega)
  · show am_n σ + 1 ≤ am_c σ + 1
    omega
theorem am_nwa_some {τ : am_H} {t : Nat} {i : Int32} (h : am_nwa σ t i = some τ) : am_c σ = am_n σ ∧ vp_in i 100000 ∧ τ = am_mk σ t i.toNatClampNeg i.toNatClampNeg := by
  unfold am_nwa at h
  cases e : Nat.beq (am_c σ) (am_n σ) with
  | false => rw [e] at h; cases h
  | true =>
    rw [e] at h
    exact ⟨Nat.eq_of_beq_eq_true e, am_stM (f := fun N => am_mk σ t N N) rfl h⟩
theorem am_s_newarray_int (cx : am_cx p R s m args meth c B c0 y) (hok : am_okI y pc (.newarray .int) = true) (hG : am_G call rec pc σ (am_i (.newarray .int) (am_rt y) pc lv st σ) = some res) (hrec : ∀ q lv st τ, rec q lv st τ = some res → am_WW p l e R s m args below meth c Q D ac B b y c0 s0 q lv st τ) (hm : ∀ q lv st τ, rec q lv st τ = some res → am_c τ ≤ am_c res.2 ∧ am_s τ ≤ am_s res.2) (hbc : am_c res.2 ≤ c0 + R.cells) (hbs : am_s res.2 ≤ s0 + R.slots) : am_WW p l e R s m args below meth c Q D ac B b y c0 s0 pc lv st σ := by
  rcases st with _ | ⟨v, st⟩
  · exact (am_no hG rfl).elim
  cases v <;> try exact (am_no hG rfl).elim
  rename_i x
  obtain ⟨τ, hx, hG⟩ := am_bindE (o := am_nwa σ 1 x) hG
  obtain ⟨hc, hin, rfl⟩ := am_nwa_some hx
  have hmm := hm _ _ _ _ hG
  have hm1 : am_c σ + 1 ≤ am_c res.2 := hmm.1
  have hm2 : am_s σ + x.toNatClampNeg ≤ am_s res.2 := hmm.2
  intro H locs ls kc ks hl hI hS ec es
  refine am_Wsz (fun z1 z2 => ?_)
  have hsz := am_size cx hI hc ec z1 z2
  have hlt : x.toNatClampNeg < 100000 := Nat.not_le.mp (fun q => hin (Or.inr q))
  refine va_newaK (N := x.toNatClampNeg) cx.1 cx.2.1 (cx.2.2.2.2.1 _ (am_W_of am_wa1 rfl)) rfl (am_d_ok hok) rfl (fun q => hin (Or.inl q)) rfl (by show _ * componentBytes FieldType.int ≤ _; have : componentBytes FieldType.int ≤ 8 := (by decide +kernel); exact Nat.le_trans (Nat.mul_le_mul (Nat.le_of_lt hlt) this) (by decide)) (by omega) (by omega) hsz (fun H1 cA e1 z3 o1 hAr hNm => ?_)
  have hcA : cA = ac 1 := Option.some.inj (hNm.symm.trans (hI.1.2 0 _ rfl).2)
  subst hcA
  obtain ⟨hI1, hS1⟩ := am_inv_mk (t := 1) (x := x.toNatClampNeg) (N := x.toNatClampNeg) hI hS hc hsz o1 z3 (by
    rw [am_e1 (show am_sh (am_mk σ 1 x.toNatClampNeg x.toNatClampNeg) (am_n σ) = (1, x.toNatClampNeg) from am_ur_self _ _ _)]
    show H1[B + am_n σ]? = some (vp_cell (ac 1) _)
    rw [e1, vp_cell_i]
    have : am_I (am_mk σ 1 x.toNatClampNeg x.toNatClampNeg) (am_n σ) = fun _ => 0 := am_ur_self _ _ _
    rw [this]
    rfl)
  exact hrec _ _ _ _ hG H1 locs ls (kc + 1) (ks + x.toNatClampNeg) hl hI1 hS1 (by show kc + 1 + c0 = am_c σ + 1; omega) (by show ks + x.toNatClampNeg + s0 = am_s σ + x.toNatClampNeg; omega)
theorem am_s_newarray_long (cx : am_cx p R s m args meth c B c0 y) (hok : am_okI y pc (.newarray .long) = true) (hG : am_G call rec pc σ (am_i (.newarray .long) (am_rt y) pc lv st σ) = some res) (hrec : ∀ q lv st τ, rec q lv st τ = some res → am_WW p l e R s m args below meth c Q D ac B b y c0 s0 q lv st τ) (hm : ∀ q lv st τ, rec q lv st τ = some res → am_c τ ≤ am_c res.2 ∧ am_s τ ≤ am_s res.2) (hbc : am_c res.2 ≤ c0 + R.cells) (hbs : am_s res.2 ≤ s0 + R.slots) : am_WW p l e R s m args below meth c Q D ac B b y c0 s0 pc lv st σ := by
  rcases st with _ | ⟨v, st⟩
  · exact (am_no hG rfl).elim
  cases v <;> try exact (am_no hG rfl).elim
  rename_i x
  obtain ⟨τ, hx, hG⟩ := am_bindE (o := am_nwa σ 2 x) hG
  obtain ⟨hc, hin, rfl⟩ := am_nwa_some hx
  have hmm := hm _ _ _ _ hG
  have hm1 : am_c σ + 1 ≤ am_c res.2 := hmm.1
  have hm2 : am_s σ + x.toNatClampNeg ≤ am_s res.2 := hmm.2
  intro H locs ls kc ks hl hI hS ec es
  refine am_Wsz (fun z1 z2 => ?_)
  have hsz := am_size cx hI hc ec z1 z2
  have hlt : x.toNatClampNeg < 100000 := Nat.not_le.mp (fun q => hin (Or.inr q))
  refine va_newaK (N := x.toNatClampNeg) cx.1 cx.2.1 (cx.2.2.2.2.1 _ (am_W_of am_wa2 rfl)) rfl (am_d_ok hok) rfl (fun q => hin (Or.inl q)) rfl (by show _ * componentBytes FieldType.long ≤ _; have : componentBytes FieldType.long ≤ 8 := (by decide +kernel); exact Nat.le_trans (Nat.mul_le_mul (Nat.le_of_lt hlt) this) (by decide)) (by omega) (by omega) hsz (fun H1 cA e1 z3 o1 hAr hNm => ?_)
  have hcA : cA = ac 2 := Option.some.inj (hNm.symm.trans (hI.1.2 1 _ rfl).2)
  subst hcA
  obtain ⟨hI1, hS1⟩ := am_inv_mk (t := 2) (x := x.toNatClampNeg) (N := x.toNatClampNeg) hI hS hc hsz o1 z3 (by
    rw [am_e2 (show am_sh (am_mk σ 2 x.toNatClampNeg x.toNatClampNeg) (am_n σ) = (2, x.toNatClampNeg) from am_ur_self _ _ _)]
    show H1[B + am_n σ]? = some (vp_cell (ac 2) _)
    rw [e1, vp_cell_l]
    have : am_J (am_mk σ 2 x.toNatClampNeg x.toNatClampNeg) (am_n σ) = fun _ => 0 := am_ur_self _ _ _
    rw [this]
    rfl)
  exact hrec _ _ _ _ hG H1 locs ls (kc + 1) (ks + x.toNatClampNeg) hl hI1 hS1 (by show kc + 1 + c0 = am_c σ + 1; omega) (by show ks + x.toNatClampNeg + s0 = am_s σ + x.toNatClampNeg; omega)
theorem am_s_newarray_boolean (cx : am_cx p R s m args meth c B c0 y) (hok : am_okI y pc (.newarray .boolean) = true) (hG : am_G call rec pc σ (am_i (.newarray .boolean) (am_rt y) pc lv st σ) = some res) (hrec : ∀ q lv st τ, rec q lv st τ = some res → am_WW p l e R s m args below meth c Q D ac B b y c0 s0 q lv st τ) (hm : ∀ q lv st τ, rec q lv st τ = some res → am_c τ ≤ am_c res.2 ∧ am_s τ ≤ am_s res.2) (hbc : am_c res.2 ≤ c0 + R.cells) (hbs : am_s res.2 ≤ s0 + R.slots) : am_WW p l e R s m args below meth c Q D ac B b y c0 s0 pc lv st σ := by
  rcases st with _ | ⟨v, st⟩
  · exact (am_no hG rfl).elim
  cases v <;> try exact (am_no hG rfl).elim
  rename_i x
  obtain ⟨τ, hx, hG⟩ := am_bindE (o := am_nwa σ 3 x) hG
  obtain ⟨hc, hin, rfl⟩ := am_nwa_some hx
  have hmm := hm _ _ _ _ hG
  have hm1 : am_c σ + 1 ≤ am_c res.2 := hmm.1
  have hm2 : am_s σ + x.toNatClampNeg ≤ am_s res.2 := hmm.2
  intro H locs ls kc ks hl hI hS ec es
  refine am_Wsz (fun z1 z2 => ?_)
  have hsz := am_size cx hI hc ec z1 z2
  have hlt : x.toNatClampNeg < 100000 := Nat.not_le.mp (fun q => hin (Or.inr q))
  refine va_newaK (N := x.toNatClampNeg) cx.1 cx.2.1 (cx.2.2.2.2.1 _ (am_W_of am_wa3 rfl)) rfl (am_d_ok hok) rfl (fun q => hin (Or.inl q)) rfl (by show _ * componentBytes FieldType.boolean ≤ _; have : componentBytes FieldType.boolean ≤ 8 := (by decide +kernel); exact Nat.le_trans (Nat.mul_le_mul (Nat.le_of_lt hlt) this) (by decide)) (by omega) (by omega) hsz (fun H1 cA e1 z3 o1 hAr hNm => ?_)
  have hcA : cA = ac 3 := Option.some.inj (hNm.symm.trans (hI.1.2 2 _ rfl).2)
  subst hcA
  obtain ⟨hI1, hS1⟩ := am_inv_mk (t := 3) (x := x.toNatClampNeg) (N := x.toNatClampNeg) hI hS hc hsz o1 z3 (by
    rw [am_e3 (show am_sh (am_mk σ 3 x.toNatClampNeg x.toNatClampNeg) (am_n σ) = (3, x.toNatClampNeg) from am_ur_self _ _ _)]
    show H1[B + am_n σ]? = some (vp_cell (ac 3) _)
    rw [e1, vp_cell_i]
    have : am_I (am_mk σ 3 x.toNatClampNeg x.toNatClampNeg) (am_n σ) = fun _ => 0 := am_ur_self _ _ _
    rw [this]
    rfl)
  exact hrec _ _ _ _ hG H1 locs ls (kc + 1) (ks + x.toNatClampNeg) hl hI1 hS1 (by show kc + 1 + c0 = am_c σ + 1; omega) (by show ks + x.toNatClampNeg + s0 = am_s σ + x.toNatClampNeg; omega)
theorem am_s_p8 {idx ci z : Nat} (cx : am_cx p R s m args meth c B c0 y) (hok : am_okP y pc (8, idx, ci, z) = true) (hG : am_G call rec pc σ (am_p am_nA am_cM am_ml (8, idx, ci, z) pc lv st σ) = some res) (hrec : ∀ q lv st τ, rec q lv st τ = some res → am_WW p l e R s m args below meth c Q D ac B b y c0 s0 q lv st τ) (hm : ∀ q lv st τ, rec q lv st τ = some res → am_c τ ≤ am_c res.2 ∧ am_s τ ≤ am_s res.2) (hbc : am_c res.2 ≤ c0 + R.cells) (hbs : am_s res.2 ≤ s0 + R.slots) : am_WW p l e R s m args below meth c Q D ac B b y c0 s0 pc lv st σ := by
  simp only [am_okP, Bool.and_eq_true] at hok
  obtain ⟨hd, hcl, hcz⟩ := hok
  rcases st with _ | ⟨v, st⟩
  · exact (am_no hG rfl).elim
  cases v <;> try exact (am_no hG rfl).elim
  rename_i x
  obtain ⟨τ, hx, hG⟩ := am_bindE (o := am_nwa σ (4 + ci) x) hG
  obtain ⟨hc, hin, rfl⟩ := am_nwa_some hx
  have hmm := hm _ _ _ _ hG
  have hm1 : am_c σ + 1 ≤ am_c res.2 := hmm.1
  have hm2 : am_s σ + x.toNatClampNeg ≤ am_s res.2 := hmm.2
  intro H locs ls kc ks hl hI hS ec es
  refine am_Wsz (fun z1 z2 => ?_)
  have hsz := am_size cx hI hc ec z1 z2
  have hlt : x.toNatClampNeg < 100000 := Nat.not_le.mp (fun q => hin (Or.inr q))
  have hAO : (Cond.arrayOver (.object (am_Rn ci))).before args s = true := by
    rcases am_czE hcz with rfl | rfl | rfl
    · exact va_AO.use hI.2.1.2.1
    · exact va_AO.use hI.2.1.2.2.1
    · exact va_AO.use hI.2.1.2.2.2
  obtain ⟨t0, ht⟩ := am_cz_ti (ac := ac) hcz
  refine W.anew cx.1 cx.2.1 cx.2.2.2.1 (cx.2.2.2.2.1 _ (am_cl_in hcl)) hAO rfl (am_d_ok hd) rfl (fun q => hin (Or.inl q)) (by omega) (by omega) (by omega) (fun cA kA comp f1 f2 f3 f4 => ?_)
  obtain ⟨kA2, comp2, -, -, -, k4⟩ := (hI.1.2 t0 _ ht).2
  have hcA : cA = ac (4 + ci) := Option.some.inj (f1.symm.trans k4)
  subst hcA
  rw [hsz]
  generalize hH1 : H.push _ = H1
  obtain ⟨hI1, hS1⟩ := am_inv_mk (H1 := H1) (t := 4 + ci) (x := x.toNatClampNeg) (N := x.toNatClampNeg) hI hS hc hsz (fun q hq => by rw [← hH1, Array.getElem?_push, if_neg (by omega)]) (by rw [← hH1, Array.size_push, hsz]) (by
    rw [am_e4 (show am_sh (am_mk σ (4 + ci) x.toNatClampNeg x.toNatClampNeg) (am_n σ) = (4 + ci, x.toNatClampNeg) from am_ur_self _ _ _)]
    show H1[B + am_n σ]? = some (vp_cell (ac (4 + ci)) _)
    rw [← hH1, ← hsz, Array.getElem?_push_size, vp_cell_q, arrV_new]
    have : am_R (am_mk σ (4 + ci) x.toNatClampNeg x.toNatClampNeg) (am_n σ) = fun _ => none := am_ur_self _ _ _
    rw [this]
    rfl)
  exact hrec _ _ _ _ hG H1 locs ls (kc + 1) (ks + x.toNatClampNeg) hl hI1 hS1 (by show kc + 1 + c0 = am_c σ + 1; omega) (by show ks + x.toNatClampNeg + s0 = am_s σ + x.toNatClampNeg; omega)
theorem am_s_p7 {idx ci N : Nat} (cx : am_cx p R s m args meth c B c0 y) (hok : am_okP y pc (7, idx, ci, N) = true) (hG : am_G call rec pc σ (am_p am_nA am_cM am_ml (7, idx, ci, N) pc lv st σ) = some res) (hrec : ∀ q lv st τ, rec q lv st τ = some res → am_WW p l e R s m args below meth c Q D ac B b y c0 s0 q lv st τ) (hm : ∀ q lv st τ, rec q lv st τ = some res → am_c τ ≤ am_c res.2 ∧ am_s τ ≤ am_s res.2) (hbc : am_c res.2 ≤ c0 + R.cells) (hbs : am_s res.2 ≤ s0 + R.slots) : am_WW p l e R s m args below meth c Q D ac B b y c0 s0 pc lv st σ := by
  simp only [am_okP, Bool.and_eq_true, decide_eq_true_eq] at hok
  obtain ⟨hd, hcl, hci, hN⟩ := hok
  have hN := Nat.eq_of_beq_eq_true hN
  subst hN
  obtain ⟨τ, hx, hG⟩ := am_bindE (o := am_new σ ci (am_N ci)) hG
  obtain ⟨hc, rfl⟩ := am_bif (o := none) hx
  have hc := Nat.eq_of_beq_eq_true hc
  have hmm := hm _ _ _ _ hG
  have hm1 : am_c σ + 1 ≤ am_c res.2 := hmm.1
  have hm2 : am_s σ + am_N ci ≤ am_s res.2 := hmm.2
  intro H locs ls kc ks hl hI hS ec es
  refine am_Wsz (fun z1 z2 => ?_)
  have hsz := am_size cx hI hc ec z1 z2
  have hKn := hI.1.1 ci _ (am_cl_at ci hci)
  refine W.newcK cx.1 cx.2.1 cx.2.2.2.1 (cx.2.2.2.2.1 _ (am_cl_in hcl)) (cx.2.2.2.2.1 _ (am_inst_in hci)) (am_own_Rn ci hci ▸ cx.2.2.2.2.1 _ (am_init_in (Nat.lt_succ_of_lt hci))) rfl (am_d_ok hd) (by omega) (by omega) hKn.2.1 hsz (fun H1 kC hkC e1 z3 o1 => ?_)
  obtain ⟨hI1, hS1⟩ := am_inv_mk (H1 := H1) (t := 0) (x := ci) (N := am_N ci) hI hS hc hsz o1 z3 (by
    rw [am_e0 (show am_sh (am_mk σ 0 ci (am_N ci)) (am_n σ) = (0, ci) from am_ur_self _ _ _)]
    refine ⟨_, am_cl_at ci hci, (u_born (am_ty ci) cx.2.2.2.2.1 (am_lay_in hci) hKn hkC e1 (am_ty_ok ci hci)).to (fun j hj => ?_)⟩
    have hv : vp_V ((List.range (am_N ci)).map (am_fv B (am_mk σ 0 ci (am_N ci)) ci (am_n σ))) j = am_fv B (am_mk σ 0 ci (am_N ci)) ci (am_n σ) j := by
      unfold vp_V
      rw [List.getD_eq_getElem?_getD, List.getElem?_map, List.getElem?_range hj]
      rfl
    rw [hv]
    unfold am_fv
    have i1 : am_I (am_mk σ 0 ci (am_N ci)) (am_n σ) = fun _ => 0 := am_ur_self _ _ _
    have i2 : am_J (am_mk σ 0 ci (am_N ci)) (am_n σ) = fun _ => 0 := am_ur_self _ _ _
    have i3 : am_R (am_mk σ 0 ci (am_N ci)) (am_n σ) = fun _ => none := am_ur_self _ _ _
    rw [i1, i2, i3]
    rcases am_tyk ci hci j hj with h | h | h | h
    · rw [h]; rfl
    · rw [h]; rfl
    · rw [h]; rfl
    · revert h
      cases am_ty ci j <;> intro h <;> first | rfl | cases h)
  exact hrec _ _ _ _ hG H1 locs ls (kc + 1) (ks + am_N ci) hl hI1 hS1 (by show kc + 1 + c0 = am_c σ + 1; omega) (by show ks + am_N ci + s0 = am_s σ + am_N ci; omega)
theorem am_tswE {k : Nat → am_X} {x : Int32} {pc q : Nat} : ∀ {l : List Int} {lo : Nat}, am_sw k (am_tsw x pc lo l) q = some res → (∃ j o, l[j]? = some o ∧ x = nI (lo + j) ∧ k (am_tgt pc o) = some res) ∨ ((∀ j, j < l.length → x ≠ nI (lo + j)) ∧ k q = some res)
  | [], lo, h => Or.inr ⟨fun j hj => absurd hj (Nat.not_lt_zero j), h⟩
  | o :: l, lo, h => by
    have h : (bif decide (x = nI lo) then k (am_tgt pc o) else am_sw k (am_tsw x pc (lo + 1) l) q) = some res := h
    by_cases hx : x = nI lo
    · rw [decide_eq_true hx] at h
      exact Or.inl ⟨0, o, rfl, hx, h⟩
    · rw [decide_eq_false hx] at h
      rcases am_tswE (l := l) (lo := lo + 1) h with ⟨j, o', h1, h2, h3⟩ | ⟨h1, h2⟩
      · exact Or.inl ⟨j + 1, o', h1, by rw [h2]; congr 1; omega, h3⟩
      · refine Or.inr ⟨fun j hj => ?_, h2⟩
        cases j with
        | zero => exact hx
        | succ j => rw [show lo + (j + 1) = lo + 1 + j by omega]; exact h1 j (by simpa using hj)
theorem am_s_tableswitch {d lo hi : Int} {offs : Array Int} (cx : am_cx p R s m args meth c B c0 y) (hok : am_okI y pc (.tableswitch d lo hi offs) = true) (hG : am_G call rec pc σ (am_i (.tableswitch d lo hi offs) (am_rt y) pc lv st σ) = some res) (hrec : ∀ q lv st τ, rec q lv st τ = some res → am_WW p l e R s m args below meth c Q D ac B b y c0 s0 q lv st τ) : am_WW p l e R s m args below meth c Q D ac B b y c0 s0 pc lv st σ := by
  simp only [am_okI, Bool.and_eq_true, decide_eq_true_eq] at hok
  obtain ⟨hd, h1, h2, h3, h4, h5, h6⟩ := hok
  obtain ⟨n, hd⟩ := am_d0_ok hd
  rcases st with _ | ⟨v, st⟩
  · exact (am_no hG rfl).elim
  cases v <;> try exact (am_no hG rfl).elim
  rename_i x
  intro H locs ls kc ks hl hI hS ec es
  have hlo : (lo.toNat : Int) = lo := Int.toNat_of_nonneg h1
  rcases am_tswE (k := fun q => rec q lv st σ) (x := x) hG with ⟨j, o, g1, g2, g3⟩ | ⟨g1, g2⟩
  · have hj : j < offs.toList.length := (List.getElem?_eq_some_iff.mp g1).1
    have hj2 : j < offs.size := by simpa using hj
    have hxi : x.toInt = lo + j := by rw [g2, nI_toInt (by omega)]; omega
    refine lv_tableIn cx.1 cx.2.1 hd (by omega) (by omega) (off := o) (by rw [show (x.toInt - lo).toNat = j by omega, ← Array.getElem?_toList]; exact g1) (am_tgt_ok (List.all_eq_true.mp h6 o (List.mem_of_getElem? g1))) (hrec _ _ _ _ g3 H locs ls kc ks hl hI hS ec es)
  · refine lv_tableOut cx.1 cx.2.1 hd ?_ (am_tgt_ok h5) (hrec _ _ _ _ g2 H locs ls kc ks hl hI hS ec es)
    by_cases hc : x.toInt < lo
    · exact Or.inl hc
    · refine Or.inr (Int.not_le.mp (fun hc2 => ?_))
      refine g1 (x.toInt - lo).toNat (by simp; omega) (Int32.toInt_inj.mp ?_)
      rw [nI_toInt (by omega)]
      omega
end AMN
