/-- what an instruction without a pool place does; rt: the method's kind of answer (0 none, 1 int, 2 long, 3 reference, 4 boolean) -/
def am_i (i : Instr) (rt pc : Nat) (lv : am_lv) (st : List Value) (σ : am_H) : Option am_A :=
  match i with
  | .aconst_null => am_go [] (pc + 1) lv (.null :: st)
  | .iload_n k => match am_get lv k.val with | some (.int x) => am_go [] (pc + 1) lv (.int x :: st) | _ => none
  | .iload k => match am_get lv k with | some (.int x) => am_go [] (pc + 2) lv (.int x :: st) | _ => none
  | .lload_n k => match am_get lv k.val with | some (.long x) => am_go [] (pc + 1) lv (.long x :: st) | _ => none
  | .lload k => match am_get lv k with | some (.long x) => am_go [] (pc + 2) lv (.long x :: st) | _ => none
  | .aload_n k => match am_get lv k.val with | some (.ref x) => am_go [] (pc + 1) lv (.ref x :: st) | some .null => am_go [] (pc + 1) lv (.null :: st) | some (.retAddr x) => am_go [] (pc + 1) lv (.retAddr x :: st) | _ => none
  | .aload k => match am_get lv k with | some (.ref x) => am_go [] (pc + 2) lv (.ref x :: st) | some .null => am_go [] (pc + 2) lv (.null :: st) | some (.retAddr x) => am_go [] (pc + 2) lv (.retAddr x :: st) | _ => none
  | .istore_n k => match st with | .int x :: st => am_go [] (pc + 1) (am_set lv k.val (.int x)) st | _ => none
  | .istore k => match st with | .int x :: st => am_go [] (pc + 2) (am_set lv k (.int x)) st | _ => none
  | .lstore_n k => match st with | .long x :: st => am_go [] (pc + 1) (am_set lv k.val (.long x)) st | _ => none
  | .lstore k => match st with | .long x :: st => am_go [] (pc + 2) (am_set lv k (.long x)) st | _ => none
  | .astore_n k => match st with | .ref x :: st => am_go [] (pc + 1) (am_set lv k.val (.ref x)) st | .null :: st => am_go [] (pc + 1) (am_set lv k.val .null) st | _ => none
  | .astore k => match st with | .ref x :: st => am_go [] (pc + 2) (am_set lv k (.ref x)) st | .null :: st => am_go [] (pc + 2) (am_set lv k .null) st | _ => none
  | .iadd => match st with | .int y :: .int x :: st => am_go [] (pc + 1) lv (.int (x + y) :: st) | _ => none
  | .isub => match st with | .int y :: .int x :: st => am_go [] (pc + 1) lv (.int (x - y) :: st) | _ => none
  | .imul => match st with | .int y :: .int x :: st => am_go [] (pc + 1) lv (.int (x * y) :: st) | _ => none
  | .iand => match st with | .int y :: .int x :: st => am_go [] (pc + 1) lv (.int (x &&& y) :: st) | _ => none
  | .ixor => match st with | .int y :: .int x :: st => am_go [] (pc + 1) lv (.int (x ^^^ y) :: st) | _ => none
  | .ishl => match st with | .int y :: .int x :: st => am_go [] (pc + 1) lv (.int (x <<< (y &&& 31)) :: st) | _ => none
  | .ineg => match st with | .int x :: st => am_go [] (pc + 1) lv (.int (-x) :: st) | _ => none
  | .lmul => match st with | .long y :: .long x :: st => am_go [] (pc + 1) lv (.long (x * y) :: st) | _ => none
  | .lxor => match st with | .long y :: .long x :: st => am_go [] (pc + 1) lv (.long (x ^^^ y) :: st) | _ => none
  | .lor => match st with | .long y :: .long x :: st => am_go [] (pc + 1) lv (.long (x ||| y) :: st) | _ => none
  | .land => match st with | .long y :: .long x :: st => am_go [] (pc + 1) lv (.long (x &&& y) :: st) | _ => none
  | .lshl => match st with | .int y :: .long x :: st => am_go [] (pc + 1) lv (.long (x <<< (y.toInt64 &&& 63)) :: st) | _ => none
  | .lshr => match st with | .int y :: .long x :: st => am_go [] (pc + 1) lv (.long (x >>> (y.toInt64 &&& 63)) :: st) | _ => none
  | .lushr => match st with | .int y :: .long x :: st => am_go [] (pc + 1) lv (.long (x.toUInt64 >>> (y.toInt64.toUInt64 &&& Int64.toUInt64 63)).toInt64 :: st) | _ => none
  | .i2l => match st with | .int x :: st => am_go [] (pc + 1) lv (.long x.toInt64 :: st) | _ => none
  | .l2i => match st with | .long x :: st => am_go [] (pc + 1) lv (.int x.toInt32 :: st) | _ => none
  | .lcmp => match st with | .long y :: .long x :: st => am_go [] (pc + 1) lv (.int (lg_cmp x y) :: st) | _ => none
  | .dup => match st with | .int x :: st => am_go [] (pc + 1) lv (.int x :: .int x :: st) | .ref x :: st => am_go [] (pc + 1) lv (.ref x :: .ref x :: st) | _ => none
  | .dup2 => match st with | .int x :: .ref y :: st => am_go [] (pc + 1) lv (.int x :: .ref y :: .int x :: .ref y :: st) | _ => none
  | .pop => match st with | .int _ :: st => am_go [] (pc + 1) lv st | .ref _ :: st => am_go [] (pc + 1) lv st | _ => none
  | .ifCond c o => match st with | .int x :: st => am_go [(am_cmpT c x (nI 0), am_tgt pc o)] (pc + 3) lv st | _ => none
  | .if_icmp c o => match st with | .int y :: .int x :: st => am_go [(am_cmpT c x y, am_tgt pc o)] (pc + 3) lv st | _ => none
  | .ifnull o => match st with | .ref _ :: st => am_go [] (pc + 3) lv st | .null :: st => am_go [] (am_tgt pc o) lv st | _ => none
  | .ifnonnull o => match st with | .ref _ :: st => am_go [] (am_tgt pc o) lv st | .null :: st => am_go [] (pc + 3) lv st | _ => none
  | .goto o => am_go [] (am_tgt pc o) lv st
  | .tableswitch d lo _ offs => match st with | .int x :: st => am_go (am_tsw x pc lo.toNat offs.toList) (am_tgt pc d) lv st | _ => none
  | .iaload => match st with | .int j :: .ref k :: st => am_rdI (am_ldI σ k 1 j) (pc + 1) lv st | .int j :: .retAddr _ :: st => am_rdI (am_ldS σ j) (pc + 1) lv st | _ => none
  | .baload => match st with | .int j :: .ref k :: st => am_rdI (am_ldI σ k 3 j) (pc + 1) lv st | _ => none
  | .laload => match st with | .int j :: .ref k :: st => am_rdJ (am_ldJ σ k j) (pc + 1) lv st | _ => none
  | .iastore => match st with | .int x :: .int j :: .ref k :: st => am_wr (am_stI σ k j x) (pc + 1) lv st | _ => none
  | .bastore => match st with | .int x :: .int j :: .ref k :: st => am_wr (am_stZ σ k j x) (pc + 1) lv st | _ => none
  | .lastore => match st with | .long x :: .int j :: .ref k :: st => am_wr (am_stJ σ k j x) (pc + 1) lv st | _ => none
  | .arraylength => match st with | .ref k :: st => am_rdI (am_len σ k) (pc + 1) lv st | .retAddr _ :: st => am_go [] (pc + 1) lv (.int (nI (am_sl σ)) :: st) | _ => none
  | .newarray t => match st with
    | .int x :: st => (match t with
      | .int => am_wr (am_nwa σ 1 x) (pc + 2) lv (.ref (am_n σ) :: st)
      | .long => am_wr (am_nwa σ 2 x) (pc + 2) lv (.ref (am_n σ) :: st)
      | .boolean => am_wr (am_nwa σ 3 x) (pc + 2) lv (.ref (am_n σ) :: st)
      | _ => none)
    | _ => none
  | .ireturn => match st with | [.int x] => (bif Nat.beq rt 1 then am_ret true (x, 0, none) else bif Nat.beq rt 4 then am_ret (am_zb x) (x, 0, none) else none) | _ => none
  | .lreturn => match st with | [.long x] => (bif Nat.beq rt 2 then am_ret true (0, x, none) else none) | _ => none
  | .areturn => match st with | [.ref x] => (bif Nat.beq rt 3 then am_ret true (0, 0, some x) else none) | [.null] => (bif Nat.beq rt 3 then am_ret true (0, 0, none) else none) | _ => none
  | .return_ => match st with | [] => (bif Nat.beq rt 0 then am_ret true (0, 0, none) else none) | _ => none
  | _ => none
/-- the kind of a field: 0 int, 1 long, 2 reference, 3 boolean -/
def am_fk (ty : FieldType) : Nat := match ty with
  | .int => 0
  | .long => 1
  | .boolean => 3
  | _ => 2
def am_ty (ci : Nat) : Nat → FieldType := match ci with
  | 0 => tyX0
  | 1 => tyX1
  | 2 => tyX2
  | 3 => tyX3
  | 4 => tyX4
  | 5 => tyX5
  | 6 => tyX6
  | 7 => tyX7
  | 8 => tyX8
  | _ => tyX9
def am_T (ci : Nat) : u_T := match ci with
  | 0 => TX0
  | 1 => TX1
  | 2 => TX2
  | 3 => TX3
  | 4 => TX4
  | 5 => TX5
  | 6 => TX6
  | 7 => TX7
  | 8 => TX8
  | _ => TX9
/-- how many fields a class has -/
def am_N (ci : Nat) : Nat := match ci with
  | 0 => 15
  | 1 => 4
  | 2 => 3
  | 3 => 3
  | 4 => 4
  | 5 => 2
  | 6 => 6
  | 7 => 10
  | 8 => 7
  | _ => 50
def am_Rn (ci : Nat) : String := match ci with
  | 0 => RX0
  | 1 => RX1
  | 2 => RX2
  | 3 => RX3
  | 4 => RX4
  | 5 => RX5
  | 6 => RX6
  | 7 => RX7
  | 8 => RX8
  | _ => RX9
def am_cl : List vw_C := [(RX0, TX0, 15), (RX1, TX1, 4), (RX2, TX2, 3), (RX3, TX3, 3), (RX4, TX4, 4), (RX5, TX5, 2), (RX6, TX6, 6), (RX7, TX7, 10), (RX8, TX8, 7), (RX9, TX9, 50)]
/-- what an instruction with a pool place does: (what, place, a, b); nA: how many arguments a method takes (its object apart), cM its class, mL its locals -/
def am_p (nA cM mL : Nat → Nat) (o : Nat × Nat × Nat × Nat) (pc : Nat) (lv : am_lv) (st : List Value) (σ : am_H) : Option am_A :=
  match o with
  | (0, _, ci, j) => match st with | .ref k :: st => am_rdI (am_gI σ k ci j) (pc + 3) lv st | _ => none
  | (1, _, ci, j) => match st with | .ref k :: st => am_rdJ (am_gJ σ k ci j) (pc + 3) lv st | _ => none
  | (2, _, ci, j) => match st with | .ref k :: st => am_rdR (am_gR σ k ci j) (pc + 3) lv st | _ => none
  | (3, _, ci, j) => match st with | .int x :: .ref k :: st => am_wr (am_pI σ k ci j x) (pc + 3) lv st | _ => none
  | (4, _, ci, j) => match st with | .int x :: .ref k :: st => am_wr (am_pZ σ k ci j x) (pc + 3) lv st | _ => none
  | (5, _, ci, j) => match st with | .long x :: .ref k :: st => am_wr (am_pJ σ k ci j x) (pc + 3) lv st | _ => none
  | (6, _, ci, j) => match st with | .ref x :: .ref k :: st => am_wr (am_pR σ k ci j x) (pc + 3) lv st | _ => none
  | (7, _, ci, N) => am_wr (am_new σ ci N) (pc + 3) lv (.ref (am_n σ) :: st)
  | (8, _, ci, _) => match st with | .int x :: st => am_wr (am_nwa σ (4 + ci) x) (pc + 3) lv (.ref (am_n σ) :: st) | _ => none
  | (9, _, y, _) => match am_tk (nA y + 1) [] st with | some (.ref k :: as, st) => (bif Nat.ble (am_cats st) 8 && Nat.ble (am_cats (.ref k :: as)) (mL y) then am_call (am_is σ k (cM y)) y (.ref k :: as) lv st else none) | _ => none
  | (10, _, y, _) => match am_tk (nA y + 1) [] st with | some (.ref k :: as, st) => (bif Nat.ble (am_cats st) 8 && Nat.ble (am_cats (.ref k :: as)) (mL y) then am_call true y (.ref k :: as) lv st else none) | _ => none
  | (11, _, y, _) => match am_tk (nA y) [] st with | some (as, st) => (bif Nat.ble (am_cats st) 8 && Nat.ble (am_cats as) (mL y) then am_call true y as lv st else none) | _ => none
  | (12, _, _, _) => match st with | .ref _ :: st => (bif Nat.ble (am_cats st) 8 then am_go [] (pc + 3) lv st else none) | _ => none
  | (13, _, _, _) => match st with | .int y :: .int x :: st => (bif Nat.ble (am_cats st) 8 then am_go [] (pc + 3) lv (.int (if y < x then y else x) :: st) else none) | _ => none
  | (14, _, _, _) => match st with | .int y :: .int x :: st => (bif Nat.ble (am_cats st) 8 then am_go [] (pc + 3) lv (.int (if x < y then y else x) :: st) else none) | _ => none
  | (15, _, _, _) => match st with | .int n :: .int dp :: .ref q :: .int sp :: .ref k :: st => (bif Nat.ble (am_cats st) 8 then am_wr (am_cpy σ k sp q dp n) (pc + 3) lv st else none) | _ => none
  | (16, _, v, len) => am_go [] (pc + len) lv (.int (nI v) :: st)
  | (17, _, v, len) => am_go [] (pc + len) lv (.long (lN v) :: st)
  | (18, _, v, len) => am_go [] (pc + len) lv (.int (-nI v) :: st)
  | (19, _, i, v) => match am_get lv i with | some (.int x) => am_go [] (pc + 3) (am_set lv i (.int (x + nI v))) st | _ => none
  | (20, _, i, v) => match am_get lv i with | some (.int x) => am_go [] (pc + 3) (am_set lv i (.int (x - nI v))) st | _ => none
  | (21, _, ci, _) => match st with | .int j :: .ref k :: st => am_rdR (am_ldR σ k ci j) (pc + 1) lv st | _ => none
  | (23, _, y, h) => match am_tk (nA y + 1) [] st with | some (.ref k :: as, st) => (bif Nat.ble (am_cats st) 8 && Nat.ble (am_cats (.ref k :: as)) (mL y) then am_ck (am_is σ k (cM y)) y (.ref k :: as) lv st h else none) | _ => none
  | (24, _, _, _) => match st with | [] => am_ret true (0, 1, none) | _ => none
  | (25, _, y, _) => match am_tk (nA y) [] st with | some (as, st) => (bif Nat.ble (am_cats st) 8 && Nat.ble (am_cats as) (mL y) then am_call true y as lv st else none) | _ => none
  | (22, _, ci, _) => match st with | .ref x :: .int j :: .ref k :: st => am_wr (am_stR σ k ci j x) (pc + 1) lv st | _ => none
  | _ => none
