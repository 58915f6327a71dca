/-! THE WHOLE: a run of the abstract machine is a contract of the machine's own -/
section AMR
variable {p : Program} {l : Launch} {e : Env} {R : Room} {s : State} {m : MethodId} {args : Array Value} {below : List Frame} {meth : Method} {c : Code} {Q : State → Prop} {D : va_G} {ac : Nat → ClassId} {B b y c0 s0 : Nat} {pc : Nat} {lv : am_lv} {st : List Value} {σ : am_H} {res : am_r × am_H} {call : Nat → List Value → am_H → am_X} {rec : Nat → am_lv → List Value → am_H → am_X}
theorem am_r_ireturn (hy : y < 182) (cx : am_cx p R s m args meth c B c0 y) (hr : meth.sig.returnType = am_mr y) (hlocks : meth.locks = false) (hok : am_okI y pc (.ireturn) = true) (hG : am_G call rec pc σ (am_i (.ireturn) (am_rt y) pc lv st σ) = some res) : am_WW p l e R s m args below meth c (MQ below (am_Qc D ac B (am_rvv B (am_rt y) res.1) res.2) args s (am_c res.2 - c0) (am_s res.2 - s0) (fun q => B ≤ q)) D ac B b y c0 s0 pc lv st σ := by
  rcases st with _ | ⟨v, _ | ⟨w, st⟩⟩
  · exact (am_no hG rfl).elim
  rotate_left
  · cases v <;> exact (am_no hG rfl).elim
  cases v <;> try exact (am_no hG rfl).elim
  rename_i x
  have hG : am_G call rec pc σ (bif Nat.beq (am_rt y) 1 then am_ret true (x, 0, none) else bif Nat.beq (am_rt y) 4 then am_ret (am_zb x) (x, 0, none) else none) = some res := hG
  cases h1 : Nat.beq (am_rt y) 1 with
  | true =>
    rw [h1] at hG
    have hG : some ((x, 0, none), σ) = some res := hG
    obtain rfl := Option.some.inj hG
    have hrt := Nat.eq_of_beq_eq_true h1
    have hmr : am_mr y = some .int := by
      have := am_rk_ok y hy
      rw [hrt] at this
      exact of_decide_eq_true this
    intro H locs ls kc ks hl hI hS ec es
    obtain rfl : kc = am_c σ - c0 := by omega
    obtain rfl : ks = am_s σ - s0 := by omega
    exact W.iret cx.1 cx.2.1 (by rw [hr]; exact hmr) (fun t ht hW => ⟨by rw [hrt]; rfl, by rw [ht]; exact hI.2.2.1, hI.2.2.2.1, hI.2.2.2.2.1, hS.F ht⟩) hS.2.2 (am_d_ok hok) hlocks
  | false =>
    rw [h1] at hG
    cases h4 : Nat.beq (am_rt y) 4 with
    | true =>
      rw [h4] at hG
      have hG : (bif am_zb x then some ((x, 0, none), σ) else none) = some res := hG
      obtain ⟨hz, rfl⟩ := am_bif (o := none) hG
      have hrt := Nat.eq_of_beq_eq_true h4
      have hmr : am_mr y = some .boolean := by
        have := am_rk_ok y hy
        rw [hrt] at this
        exact of_decide_eq_true this
      intro H locs ls kc ks hl hI hS ec es
      obtain rfl : kc = am_c σ - c0 := by omega
      obtain rfl : ks = am_s σ - s0 := by omega
      exact W.zret cx.1 cx.2.1 (by rw [hr]; exact hmr) (am_zb_nar hz).1 (fun t ht hW => ⟨by rw [hrt]; rfl, by rw [ht]; exact hI.2.2.1, hI.2.2.2.1, hI.2.2.2.2.1, hS.F ht⟩) hS.2.2 (am_d_ok hok) hlocks
    | false => rw [h4] at hG; exact (am_no hG rfl).elim
theorem am_r_lreturn (hy : y < 182) (cx : am_cx p R s m args meth c B c0 y) (hr : meth.sig.returnType = am_mr y) (hlocks : meth.locks = false) (hok : am_okI y pc (.lreturn) = true) (hG : am_G call rec pc σ (am_i (.lreturn) (am_rt y) pc lv st σ) = some res) : am_WW p l e R s m args below meth c (MQ below (am_Qc D ac B (am_rvv B (am_rt y) res.1) res.2) args s (am_c res.2 - c0) (am_s res.2 - s0) (fun q => B ≤ q)) D ac B b y c0 s0 pc lv st σ := by
  rcases st with _ | ⟨v, _ | ⟨w, st⟩⟩
  · exact (am_no hG rfl).elim
  rotate_left
  · cases v <;> exact (am_no hG rfl).elim
  cases v <;> try exact (am_no hG rfl).elim
  rename_i x
  have hG : am_G call rec pc σ (bif Nat.beq (am_rt y) 2 then am_ret true (0, x, none) else none) = some res := hG
  obtain ⟨h2, hG⟩ := am_bifN hG
  have hG : some ((0, x, none), σ) = some res := hG
  obtain rfl := Option.some.inj hG
  have hrt := Nat.eq_of_beq_eq_true h2
  have hmr : am_mr y = some .long := by
    have := am_rk_ok y hy
    rw [hrt] at this
    exact of_decide_eq_true this
  intro H locs ls kc ks hl hI hS ec es
  obtain rfl : kc = am_c σ - c0 := by omega
  obtain rfl : ks = am_s σ - s0 := by omega
  exact W.lret cx.1 cx.2.1 (by rw [hr]; exact hmr) (fun t ht hW => ⟨by rw [hrt]; rfl, by rw [ht]; exact hI.2.2.1, hI.2.2.2.1, hI.2.2.2.2.1, hS.F ht⟩) hS.2.2 (am_d_ok hok) hlocks
theorem am_r_areturn (hy : y < 182) (cx : am_cx p R s m args meth c B c0 y) (hr : meth.sig.returnType = am_mr y) (hlocks : meth.locks = false) (hok : am_okI y pc (.areturn) = true) (hG : am_G call rec pc σ (am_i (.areturn) (am_rt y) pc lv st σ) = some res) : am_WW p l e R s m args below meth c (MQ below (am_Qc D ac B (am_rvv B (am_rt y) res.1) res.2) args s (am_c res.2 - c0) (am_s res.2 - s0) (fun q => B ≤ q)) D ac B b y c0 s0 pc lv st σ := by
  rcases st with _ | ⟨v, _ | ⟨w, st⟩⟩
  · exact (am_no hG rfl).elim
  rotate_left
  · cases v <;> exact (am_no hG rfl).elim
  cases v <;> try exact (am_no hG rfl).elim
  · have hG : am_G call rec pc σ (bif Nat.beq (am_rt y) 3 then am_ret true (0, 0, none) else none) = some res := hG
    obtain ⟨h3, hG⟩ := am_bifN hG
    have hG : some ((0, 0, none), σ) = some res := hG
    obtain rfl := Option.some.inj hG
    have hrt := Nat.eq_of_beq_eq_true h3
    obtain ⟨nm, hmr⟩ : ∃ nm, am_mr y = some (.object nm) := by
      have := am_rk_ok y hy
      rw [hrt] at this
      revert this
      cases am_mr y with
      | none => intro h; cases h
      | some t => cases t <;> intro h <;> first | exact ⟨_, rfl⟩ | cases h
    intro H locs ls kc ks hl hI hS ec es
    obtain rfl : kc = am_c σ - c0 := by omega
    obtain rfl : ks = am_s σ - s0 := by omega
    exact W.aret (v := .null) cx.1 cx.2.1 (by rw [hr]; exact hmr) (Or.inl ⟨nm, rfl⟩) (Or.inl rfl) (fun t ht hW => ⟨by rw [hrt]; rfl, by rw [ht]; exact hI.2.2.1, hI.2.2.2.1, hI.2.2.2.2.1, hS.F ht⟩) hS.2.2 (am_d_ok hok) hlocks
  · rename_i x
    have hG : am_G call rec pc σ (bif Nat.beq (am_rt y) 3 then am_ret true (0, 0, some x) else none) = some res := hG
    obtain ⟨h3, hG⟩ := am_bifN hG
    have hG : some ((0, 0, some x), σ) = some res := hG
    obtain rfl := Option.some.inj hG
    have hrt := Nat.eq_of_beq_eq_true h3
    obtain ⟨nm, hmr⟩ : ∃ nm, am_mr y = some (.object nm) := by
      have := am_rk_ok y hy
      rw [hrt] at this
      revert this
      cases am_mr y with
      | none => intro h; cases h
      | some t => cases t <;> intro h <;> first | exact ⟨_, rfl⟩ | cases h
    intro H locs ls kc ks hl hI hS ec es
    obtain rfl : kc = am_c σ - c0 := by omega
    obtain rfl : ks = am_s σ - s0 := by omega
    exact W.aret (v := .ref (B + x)) cx.1 cx.2.1 (by rw [hr]; exact hmr) (Or.inl ⟨nm, rfl⟩) (Or.inr ⟨_, rfl⟩) (fun t ht hW => ⟨by rw [hrt]; rfl, by rw [ht]; exact hI.2.2.1, hI.2.2.2.1, hI.2.2.2.2.1, hS.F ht⟩) hS.2.2 (am_d_ok hok) hlocks
theorem am_r_return_ (hy : y < 182) (cx : am_cx p R s m args meth c B c0 y) (hr : meth.sig.returnType = am_mr y) (hlocks : meth.locks = false) (hok : am_okI y pc (.return_) = true) (hG : am_G call rec pc σ (am_i (.return_) (am_rt y) pc lv st σ) = some res) : am_WW p l e R s m args below meth c (MQ below (am_Qc D ac B (am_rvv B (am_rt y) res.1) res.2) args s (am_c res.2 - c0) (am_s res.2 - s0) (fun q => B ≤ q)) D ac B b y c0 s0 pc lv st σ := by
  rcases st with _ | ⟨v, st⟩
  rotate_left
  · exact (am_no hG rfl).elim
  have hG : am_G call rec pc σ (bif Nat.beq (am_rt y) 0 then am_ret true (0, 0, none) else none) = some res := hG
  obtain ⟨h0, hG⟩ := am_bifN hG
  have hG : some ((0, 0, none), σ) = some res := hG
  obtain rfl := Option.some.inj hG
  have hrt := Nat.eq_of_beq_eq_true h0
  have hmr : am_mr y = none := by
    have := am_rk_ok y hy
    rw [hrt] at this
    exact of_decide_eq_true this
  intro H locs ls kc ks hl hI hS ec es
  obtain rfl : kc = am_c σ - c0 := by omega
  obtain rfl : ks = am_s σ - s0 := by omega
  exact W.vret cx.1 cx.2.1 (by rw [hr]; exact hmr) (fun t ht hW => ⟨by rw [hrt]; rfl, by rw [ht]; exact hI.2.2.1, hI.2.2.2.1, hI.2.2.2.2.1, hS.F ht⟩) hS.2.2 (am_d_ok hok) hlocks
theorem am_stepI {i : Instr} (cx : am_cx p R s m args meth c B c0 y) (hok : am_okI y pc i = true) (hG : am_G call rec pc σ (am_i i (am_rt y) pc lv st σ) = some res) (hrec : ∀ q lv st τ, rec q lv st τ = some res → am_WW p l e R s m args below meth c Q D ac B b y c0 s0 q lv st τ) (hm : ∀ q lv st τ, rec q lv st τ = some res → am_c τ ≤ am_c res.2 ∧ am_s τ ≤ am_s res.2) (hbc : am_c res.2 ≤ c0 + R.cells) (hbs : am_s res.2 ≤ s0 + R.slots) (hret : ∀ i : Instr, (i = .ireturn ∨ i = .lreturn ∨ i = .areturn ∨ i = .return_) → am_okI y pc i = true → am_G call rec pc σ (am_i i (am_rt y) pc lv st σ) = some res → am_WW p l e R s m args below meth c Q D ac B b y c0 s0 pc lv st σ) : am_WW p l e R s m args below meth c Q D ac B b y c0 s0 pc lv st σ := by
  cases i
  case iload_n => exact am_s_iload_n cx hok hG hrec
  case lload_n => exact am_s_lload_n cx hok hG hrec
  case iload => exact am_s_iload cx hok hG hrec
  case lload => exact am_s_lload cx hok hG hrec
  case aload_n => exact am_s_aload_n cx hok hG hrec
  case aload => exact am_s_aload cx hok hG hrec
  case istore_n => exact am_s_istore_n cx hok hG hrec
  case istore => exact am_s_istore cx hok hG hrec
  case lstore_n => exact am_s_lstore_n cx hok hG hrec
  case lstore => exact am_s_lstore cx hok hG hrec
  case astore_n => exact am_s_astore_n cx hok hG hrec
  case astore => exact am_s_astore cx hok hG hrec
  case iadd => exact am_s_iadd cx hok hG hrec
  case isub => exact am_s_isub cx hok hG hrec
  case imul => exact am_s_imul cx hok hG hrec
  case iand => exact am_s_iand cx hok hG hrec
  case ixor => exact am_s_ixor cx hok hG hrec
  case ishl => exact am_s_ishl cx hok hG hrec
  case lmul => exact am_s_lmul cx hok hG hrec
  case lxor => exact am_s_lxor cx hok hG hrec
  case lor => exact am_s_lor cx hok hG hrec
  case land => exact am_s_land cx hok hG hrec
  case lshl => exact am_s_lshl cx hok hG hrec
  case lshr => exact am_s_lshr cx hok hG hrec
  case lushr => exact am_s_lushr cx hok hG hrec
  case ineg => exact am_s_ineg cx hok hG hrec
  case i2l => exact am_s_i2l cx hok hG hrec
  case l2i => exact am_s_l2i cx hok hG hrec
  case lcmp => exact am_s_lcmp cx hok hG hrec
  case aconst_null => exact am_s_aconst_null cx hok hG hrec
  case dup => exact am_s_dup cx hok hG hrec
  case pop => exact am_s_pop cx hok hG hrec
  case dup2 => exact am_s_dup2 cx hok hG hrec
  case goto => exact am_s_goto cx hok hG hrec
  case ifnull => exact am_s_ifnull cx hok hG hrec
  case ifnonnull => exact am_s_ifnonnull cx hok hG hrec
  case iaload => exact am_s_iaload cx hok hG hrec
  case baload => exact am_s_baload cx hok hG hrec
  case laload => exact am_s_laload cx hok hG hrec
  case arraylength => exact am_s_arraylength cx hok hG hrec
  case iastore => exact am_s_iastore cx hok hG hrec
  case lastore => exact am_s_lastore cx hok hG hrec
  case bastore => exact am_s_bastore cx hok hG hrec
  case tableswitch => exact am_s_tableswitch cx hok hG hrec
  case ifCond cc o => cases cc
                      case eq => exact am_s_if_eq cx hok hG hrec
                      case ne => exact am_s_if_ne cx hok hG hrec
                      case lt => exact am_s_if_lt cx hok hG hrec
                      case ge => exact am_s_if_ge cx hok hG hrec
                      case gt => exact am_s_if_gt cx hok hG hrec
                      case le => exact am_s_if_le cx hok hG hrec
  case if_icmp cc o => cases cc
                       case eq => exact am_s_icmp_eq cx hok hG hrec
                       case ne => exact am_s_icmp_ne cx hok hG hrec
                       case lt => exact am_s_icmp_lt cx hok hG hrec
                       case ge => exact am_s_icmp_ge cx hok hG hrec
                       case gt => exact am_s_icmp_gt cx hok hG hrec
                       case le => exact am_s_icmp_le cx hok hG hrec
  case newarray t =>
    cases t
    case int => exact am_s_newarray_int cx hok hG hrec hm hbc hbs
    case long => exact am_s_newarray_long cx hok hG hrec hm hbc hbs
    case boolean => exact am_s_newarray_boolean cx hok hG hrec hm hbc hbs
    all_goals
      rcases st with _ | ⟨v, st⟩
      · exact (am_no hG rfl).elim
      · cases v <;> exact (am_no hG rfl).elim
  case ireturn => exact hret _ (Or.inl rfl) hok hG
  case lreturn => exact hret _ (Or.inr (Or.inl rfl)) hok hG
  case areturn => exact hret _ (Or.inr (Or.inr (Or.inl rfl))) hok hG
  case return_ => exact hret _ (Or.inr (Or.inr (Or.inr rfl))) hok hG
  all_goals exact (am_no hG rfl).elim
theorem am_stepP {w idx u v : Nat} (cx : am_cx p R s m args meth c B c0 y) (hok : am_okP y pc (w, idx, u, v) = true) (hG : am_G call rec pc σ (am_p am_nA am_cM am_ml (w, idx, u, v) pc lv st σ) = some res) (hrec : ∀ q lv st τ, rec q lv st τ = some res → am_WW p l e R s m args below meth c Q D ac B b y c0 s0 q lv st τ) (hm : ∀ q lv st τ, rec q lv st τ = some res → am_c τ ≤ am_c res.2 ∧ am_s τ ≤ am_s res.2) (hbc : am_c res.2 ≤ c0 + R.cells) (hbs : am_s res.2 ≤ s0 + R.slots) (hMT : am_MT l R D ac B b call) (hsp : (w = 23 ∨ w = 24 ∨ w = 25) → am_WW p l e R s m args below meth c Q D ac B b y c0 s0 pc lv st σ) : am_WW p l e R s m args below meth c Q D ac B b y c0 s0 pc lv st σ := by
  match w, hok, hG, hsp with
  | 0, hok, hG, _ => exact am_s_p0 cx hok hG hrec
  | 1, hok, hG, _ => exact am_s_p1 cx hok hG hrec
  | 2, hok, hG, _ => exact am_s_p2 cx hok hG hrec
  | 3, hok, hG, _ => exact am_s_p3 cx hok hG hrec
  | 4, hok, hG, _ => exact am_s_p4 cx hok hG hrec
  | 5, hok, hG, _ => exact am_s_p5 cx hok hG hrec
  | 6, hok, hG, _ => exact am_s_p6 cx hok hG hrec
  | 7, hok, hG, _ => exact am_s_p7 cx hok hG hrec hm hbc hbs
  | 8, hok, hG, _ => exact am_s_p8 cx hok hG hrec hm hbc hbs
  | 9, hok, hG, _ => exact am_s_p9 cx hok hG hrec hm hbc hbs hMT
  | 10, hok, hG, _ => exact am_s_p10 cx hok hG hrec hm hbc hbs hMT
  | 11, hok, hG, _ => exact am_s_p11 cx hok hG hrec hm hbc hbs hMT
  | 12, hok, hG, _ => exact am_s_p12 cx hok hG hrec
  | 13, hok, hG, _ => exact am_s_p13 cx hok hG hrec hm hbc hbs
  | 14, hok, hG, _ => exact am_s_p14 cx hok hG hrec hm hbc hbs
  | 15, hok, hG, _ => exact am_s_p15 cx hok hG hrec
  | 16, hok, hG, _ => exact am_s_p16 cx hok hG hrec
  | 17, hok, hG, _ => exact am_s_p17 cx hok hG hrec
  | 18, hok, hG, _ => exact am_s_p18 cx hok hG hrec
  | 19, hok, hG, _ => exact am_s_p19 cx hok hG hrec
  | 20, hok, hG, _ => exact am_s_p20 cx hok hG hrec
  | 21, hok, hG, _ => exact am_s_p21 cx hok hG hrec
  | 22, hok, hG, _ => exact am_s_p22 cx hok hG hrec
  | 23, hok, hG, hsp => exact hsp (Or.inl rfl)
  | 24, hok, hG, hsp => exact hsp (Or.inr (Or.inl rfl))
  | 25, hok, hG, hsp => exact hsp (Or.inr (Or.inr rfl))
  | w + 26, hok, hG, _ => exact (am_no hG rfl).elim
theorem am_lg (B b : Nat) : ∀ as : List Value, (lg_sl (am_ts B b as)).length = am_cats as
  | [] => rfl
  | v :: as => by
    have h := am_lg B b as
    have e1 : lg_sl (am_ts B b (v :: as)) = (if (am_tr B b v).category = 2 then [Slot.val (am_tr B b v), Slot.second] else [Slot.val (am_tr B b v)]) ++ lg_sl (am_ts B b as) := rfl
    rw [e1, List.length_append, h]
    show _ = (bif am_two v then 2 else 1) + am_cats as
    congr 1
    cases v <;> rfl
end AMR
def am_exC (f d : Nat) (y : Nat) (as : List Value) (τ : am_H) : am_X := match d with
  | 0 => none
  | d' + 1 => am_ex f d' y 0 (am_args 0 as) [] τ
theorem am_ex_succ (f d y pc : Nat) (lv : am_lv) (st : List Value) (σ : am_H) : am_ex (f + 1) d y pc lv st σ = am_F (am_exC f d) (fun pc lv st τ => am_ex f d y pc lv st τ) y pc lv st σ := by
  cases d <;> rfl
theorem am_snd : ∀ (f d y pc : Nat) (lv : am_lv) (st : List Value) (σ : am_H) (res : am_r × am_H), am_ex f d y pc lv st σ = some res → y < 180 → y ≠ 98 →
    ∀ (p : Program) (l : Launch) (e : Env) (R : Room) (s : State) (m : MethodId) (args : Array Value) (below : List Frame) (meth : Method) (c : Code) (D : va_G) (ac : Nat → ClassId) (B b c0 s0 : Nat),
      am_cx p R s m args meth c B c0 y → meth.sig.returnType = am_mr y → meth.locks = false → d + 1 ≤ R.frames → 40 * (d + 1) ≤ R.locals → am_c res.2 ≤ c0 + R.cells → am_s res.2 ≤ s0 + R.slots →
      am_WW p l e R s m args below meth c (MQ below (am_Qc D ac B (am_rvv B (am_rt y) res.1) res.2) args s (am_c res.2 - c0) (am_s res.2 - s0) (fun q => B ≤ q)) D ac B b y c0 s0 pc lv st σ
  | 0, d, y, pc, lv, st, σ, res, h, _, _ => by cases h
  | f + 1, d, y, pc, lv, st, σ, res, h, hy, hy98 => by
    intro p l e R s m args below meth c D ac B b c0 s0 cx hr hlocks hf hl1 hbc hbs
    rw [am_ex_succ] at h
    unfold am_F at h
    cases hp : am_prog y pc with
    | none => rw [hp] at h; cases h
    | some q =>
      obtain ⟨i, t⟩ := q
      rw [hp] at h
      obtain ⟨-, hok⟩ := am_prog_ok hp
      suffices hw : am_WW p l e R s m args below meth c (MQ below (am_Qc D ac B (am_rvv B (am_rt y) res.1) res.2) args s (am_c res.2 - c0) (am_s res.2 - s0) (fun q => B ≤ q)) D ac B b y c0 s0 pc (am_trim t lv) st σ by
        intro H locs ls kc ks hl hI hS ec es
        exact hw H locs ls kc ks (am_trim_has hl) hI hS ec es
      have hMT : am_MT l R D ac B b (am_exC f d) := by
        intro z as τ r hz hz98 hcat hc
        cases d with
        | zero => cases hc
        | succ d' =>
          have hc : am_ex f d' z 0 (am_args 0 as) [] τ = some r := hc
          have hmo := am_ex_mo hc
          obtain ⟨n1, n2, n3, n4, n5⟩ := am_nmA z (by omega)
          refine ⟨hmo, d', by omega, by omega, ?_⟩
          refine Met.ofW (cc := am_mc z) (maxL := am_ml z) (ret := am_mr z) n2 rfl ?_
          intro p e s m args below meth c s₁ Bd hml hv
          obtain ⟨rfl, hpre⟩ := hv
          have hts := atoms_spec (ws := am_wsM z) Bd.pre
          have hown : s.vm.findClass (am_my z).cls = some m.cls := findClass_of_methodNamed Bd.named
          have m1 := hmo.1
          have m2 := hmo.2.1
          have hcx : am_cx p (headSpec (am_wsM z) (am_rm d' (am_c r.2 - am_c τ) (am_s r.2 - am_s τ))).room s m (am_ts B b as).toArray meth c B (am_c τ) z :=
            ⟨Bd.exec, Bd.bytes, hml, by rw [← n1]; exact hown, fun w hw => hts w (List.mem_cons_of_mem _ hw), fun hn => (name_of_methodNamed Bd.named Bd.method).1.trans hn, by show 1 ≤ d' + 1; omega, by show 40 ≤ 40 * (d' + 1); omega, hpre.2⟩
          have hent := lv_entry (am_ts B b as) (n := am_ml z) (by rw [am_lg]; exact hcat)
          rw [lg_entry_eq]
          rw [← am_args_tl] at hent
          exact am_snd f d' z 0 (am_args 0 as) [] τ r hc hz hz98 _ _ _ _ _ _ _ _ _ _ _ _ _ _ _ (am_s τ) hcx Bd.returns Bd.notSynchronized (by show d' + 1 ≤ d' + 1; omega) (by show 40 * (d' + 1) ≤ 40 * (d' + 1); omega) (by show am_c r.2 ≤ am_c τ + (am_c r.2 - am_c τ); omega) (by show am_s r.2 ≤ am_s τ + (am_s r.2 - am_s τ); omega) s.heap [] _ 0 0 hent hpre.1 va_S.rf (by omega) (by omega)
      have hrec : ∀ q lv st τ, am_ex f d y q lv st τ = some res → am_WW p l e R s m args below meth c (MQ below (am_Qc D ac B (am_rvv B (am_rt y) res.1) res.2) args s (am_c res.2 - c0) (am_s res.2 - s0) (fun q => B ≤ q)) D ac B b y c0 s0 q lv st τ := fun q lv st τ hq => am_snd f d y q lv st τ res hq hy hy98 _ _ _ _ _ _ _ _ _ _ _ _ _ _ _ _ cx hr hlocks hf hl1 hbc hbs
      have hm : ∀ q lv st τ, am_ex f d y q lv st τ = some res → am_c τ ≤ am_c res.2 ∧ am_s τ ≤ am_s res.2 := fun q lv st τ hq => ⟨(am_ex_mo hq).1, (am_ex_mo hq).2.1⟩
      cases i with
      | inl i =>
        refine am_stepI (rec := fun q lv st τ => am_ex f d y q lv st τ) cx hok h hrec hm hbc hbs ?_
        intro i hi hoki hGi
        rcases hi with rfl | rfl | rfl | rfl
        · exact am_r_ireturn (by omega) cx hr hlocks hoki hGi
        · exact am_r_lreturn (by omega) cx hr hlocks hoki hGi
        · exact am_r_areturn (by omega) cx hr hlocks hoki hGi
        · exact am_r_return_ (by omega) cx hr hlocks hoki hGi
      | inr x =>
        obtain ⟨w, idx, u, v⟩ := x
        refine am_stepP (rec := fun q lv st τ => am_ex f d y q lv st τ) cx hok h hrec hm hbc hbs hMT ?_
        intro hw
        have hok : am_okP y pc (w, idx, u, v) = true := hok
        rcases hw with rfl | rfl | rfl
        · simp only [am_okP, Bool.and_eq_true] at hok
          have := Nat.eq_of_beq_eq_true hok.2.2.1
          omega
        · simp only [am_okP, Bool.and_eq_true] at hok
          have := Nat.eq_of_beq_eq_true hok.2.1
          omega
        · simp only [am_okP, Bool.and_eq_true] at hok
          have := Nat.eq_of_beq_eq_true hok.2.2.1
          omega
