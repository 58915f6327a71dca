/-! THE ABSTRACT MACHINE: a small machine over a flat memory, that the bytecode follows (part 05 proves it); all reasoning about the class and the reference is about this machine alone.
    A reference is an offset from the heap's size at the law's start; '.retAddr 0' stands for the script. -/
/-- the memory: ((cells made, slots made, cells known, kinds of cells, references, script's length, script), ints, longs) -/
abbrev am_K : Type := Nat × Nat × Nat × (Nat → Nat × Nat) × (Nat → Nat → Option Nat) × Nat × (Nat → Int32)
abbrev am_H : Type := am_K × (Nat → Nat → Int32) × (Nat → Nat → Int64)
abbrev am_c (σ : am_H) : Nat := σ.1.1
abbrev am_s (σ : am_H) : Nat := σ.1.2.1
abbrev am_n (σ : am_H) : Nat := σ.1.2.2.1
abbrev am_sh (σ : am_H) : Nat → Nat × Nat := σ.1.2.2.2.1
abbrev am_R (σ : am_H) : Nat → Nat → Option Nat := σ.1.2.2.2.2.1
abbrev am_sl (σ : am_H) : Nat := σ.1.2.2.2.2.2.1
abbrev am_sx (σ : am_H) : Nat → Int32 := σ.1.2.2.2.2.2.2
abbrev am_I (σ : am_H) : Nat → Nat → Int32 := σ.2.1
abbrev am_J (σ : am_H) : Nat → Nat → Int64 := σ.2.2
/-- a row of locals: places with values, in the order of the places -/
abbrev am_lv : Type := List (Nat × Value)
/-- an answer: int, long, reference (the method says which counts) -/
abbrev am_r : Type := Int32 × Int64 × Option Nat
def am_u {α : Type} (f : Nat → Nat → α) (k j : Nat) (v : α) : Nat → Nat → α := fun a b => if a = k then (if b = j then v else f a b) else f a b
def am_ur {α : Type} (f : Nat → α) (k : Nat) (g : α) : Nat → α := fun a => if a = k then g else f a
/-- kinds: (0, class), (1, n) int array, (2, n) long array, (3, n) boolean array, (4 + class, n) array of objects, (99, _) not known -/
def am_is (σ : am_H) (k ci : Nat) : Bool := Nat.beq (am_sh σ k).1 0 && Nat.beq (am_sh σ k).2 ci
def am_ar (σ : am_H) (k t : Nat) : Bool := Nat.beq (am_sh σ k).1 t
def am_zb (v : Int32) : Bool := decide (v = nI 0) || decide (v = nI 1)
/-- an index within a length -/
def am_ix (i : Int32) (n : Nat) : Option Nat := bif decide (i < 0) || decide (n ≤ i.toNatClampNeg) then none else some i.toNatClampNeg
-- fields
def am_gI (σ : am_H) (k ci j : Nat) : Option Int32 := bif am_is σ k ci then some (am_I σ k j) else none
def am_gJ (σ : am_H) (k ci j : Nat) : Option Int64 := bif am_is σ k ci then some (am_J σ k j) else none
def am_gR (σ : am_H) (k ci j : Nat) : Option Nat := bif am_is σ k ci then am_R σ k j else none
def am_wI (σ : am_H) (k j : Nat) (v : Int32) : am_H := (σ.1, am_u σ.2.1 k j v, σ.2.2)
def am_wJ (σ : am_H) (k j : Nat) (v : Int64) : am_H := (σ.1, σ.2.1, am_u σ.2.2 k j v)
def am_wR (σ : am_H) (k j : Nat) (v : Option Nat) : am_H := ((am_c σ, am_s σ, am_n σ, am_sh σ, am_u (am_R σ) k j v, am_sl σ, am_sx σ), σ.2.1, σ.2.2)
def am_pI (σ : am_H) (k ci j : Nat) (v : Int32) : Option am_H := bif am_is σ k ci then some (am_wI σ k j v) else none
def am_pZ (σ : am_H) (k ci j : Nat) (v : Int32) : Option am_H := bif am_is σ k ci && am_zb v then some (am_wI σ k j v) else none
def am_pJ (σ : am_H) (k ci j : Nat) (v : Int64) : Option am_H := bif am_is σ k ci then some (am_wJ σ k j v) else none
def am_pR (σ : am_H) (k ci j : Nat) (v : Nat) : Option am_H := bif am_is σ k ci then some (am_wR σ k j (some v)) else none
-- arrays
def am_ldI (σ : am_H) (k t : Nat) (i : Int32) : Option Int32 := bif am_ar σ k t then (am_ix i (am_sh σ k).2).map (fun j => am_I σ k j) else none
def am_ldJ (σ : am_H) (k : Nat) (i : Int32) : Option Int64 := bif am_ar σ k 2 then (am_ix i (am_sh σ k).2).map (fun j => am_J σ k j) else none
def am_ldR (σ : am_H) (k ci : Nat) (i : Int32) : Option Nat := bif am_ar σ k (4 + ci) then (am_ix i (am_sh σ k).2).bind (fun j => am_R σ k j) else none
def am_ldS (σ : am_H) (i : Int32) : Option Int32 := (am_ix i (am_sl σ)).map (fun j => am_sx σ j)
def am_stI (σ : am_H) (k : Nat) (i v : Int32) : Option am_H := bif am_ar σ k 1 then (am_ix i (am_sh σ k).2).map (fun j => am_wI σ k j v) else none
def am_stZ (σ : am_H) (k : Nat) (i v : Int32) : Option am_H := bif am_ar σ k 3 && am_zb v then (am_ix i (am_sh σ k).2).map (fun j => am_wI σ k j v) else none
def am_stJ (σ : am_H) (k : Nat) (i : Int32) (v : Int64) : Option am_H := bif am_ar σ k 2 then (am_ix i (am_sh σ k).2).map (fun j => am_wJ σ k j v) else none
def am_stR (σ : am_H) (k ci : Nat) (i : Int32) (v : Nat) : Option am_H := bif am_ar σ k (4 + ci) && am_is σ v ci then (am_ix i (am_sh σ k).2).map (fun j => am_wR σ k j (some v)) else none
/-- the length of an int array -/
def am_len (σ : am_H) (k : Nat) : Option Int32 := bif am_ar σ k 1 then some (nI (am_sh σ k).2) else none
/-- a new cell of kind (t, x), of N slots -/
def am_mk (σ : am_H) (t x N : Nat) : am_H := ((am_c σ + 1, am_s σ + N, am_n σ + 1, am_ur (am_sh σ) (am_n σ) (t, x), am_ur (am_R σ) (am_n σ) (fun _ => none), am_sl σ, am_sx σ), am_ur σ.2.1 (am_n σ) (fun _ => 0), am_ur σ.2.2 (am_n σ) (fun _ => 0))
def am_new (σ : am_H) (ci N : Nat) : Option am_H := bif Nat.beq (am_c σ) (am_n σ) then some (am_mk σ 0 ci N) else none
/-- a new array of kind t; of at most 100000 places -/
def am_nwa (σ : am_H) (t : Nat) (i : Int32) : Option am_H := bif Nat.beq (am_c σ) (am_n σ) then (am_ix i 100000).map (fun N => am_mk σ t N N) else none
/-- System.arraycopy between two int arrays, or two long arrays -/
def am_cpy (σ : am_H) (k : Nat) (sp : Int32) (q : Nat) (dp n : Int32) : Option am_H :=
  bif decide (sp < 0) || decide (dp < 0) || decide (n < 0) || decide ((am_sh σ k).2 < sp.toNatClampNeg + n.toNatClampNeg) || decide ((am_sh σ q).2 < dp.toNatClampNeg + n.toNatClampNeg) then none else
  bif am_ar σ k 1 && am_ar σ q 1 then some (σ.1, am_ur σ.2.1 q (va_cpy (am_I σ k) (am_I σ q) sp.toNatClampNeg dp.toNatClampNeg n.toNatClampNeg), σ.2.2) else
  bif am_ar σ k 2 && am_ar σ q 2 then some (σ.1, σ.2.1, am_ur σ.2.2 q (va_cpy (am_J σ k) (am_J σ q) sp.toNatClampNeg dp.toNatClampNeg n.toNatClampNeg)) else none
-- locals
def am_get : am_lv → Nat → Option Value
  | [], _ => none
  | q :: l, i => bif Nat.beq q.1 i then some q.2 else am_get l i
def am_two : Value → Bool
  | .long _ => true
  | .double _ => true
  | _ => false
def am_clr : am_lv → Nat → Bool → am_lv
  | [], _, _ => []
  | q :: l, i, w => bif Nat.beq q.1 i || (Nat.beq (q.1 + 1) i && am_two q.2) || (w && Nat.beq q.1 (i + 1)) then am_clr l i w else q :: am_clr l i w
def am_ins : am_lv → Nat → Value → am_lv
  | [], i, v => [(i, v)]
  | q :: l, i, v => bif Nat.ble q.1 i then q :: am_ins l i v else (i, v) :: q :: l
def am_set (lv : am_lv) (i : Nat) (v : Value) : am_lv := am_ins (am_clr lv i (am_two v)) i v
def am_has : List Nat → Nat → Bool
  | [], _ => false
  | a :: l, i => Nat.beq a i || am_has l i
def am_trimL (l : List Nat) : am_lv → am_lv
  | [] => []
  | q :: lv => bif am_has l q.1 then q :: am_trimL l lv else am_trimL l lv
def am_trim (t : Option (List Nat)) (lv : am_lv) : am_lv := match t with
  | none => lv
  | some l => am_trimL l lv
/-- the locals of a method at its start, from place i on -/
def am_args : Nat → List Value → am_lv
  | _, [] => []
  | i, v :: l => (i, v) :: am_args (bif am_two v then i + 2 else i + 1) l
/-- n values off the stack, the deepest first -/
def am_tk : Nat → List Value → List Value → Option (List Value × List Value)
  | 0, acc, st => some (acc, st)
  | n + 1, acc, v :: st => am_tk n (v :: acc) st
  | _ + 1, _, [] => none
/-- how many words a stack holds -/
def am_cats : List Value → Nat
  | [] => 0
  | v :: l => (bif am_two v then 2 else 1) + am_cats l
def am_rv : Option Nat → Value
  | none => .null
  | some k => .ref k
/-- what an instruction asks for: go on (a list of tests with targets, else the next place), answer, a call, a read (int, long, reference), a write, a call with a handler -/
abbrev am_A : Type := (List (Bool × Nat) × Nat × am_lv × List Value) ⊕ (Bool × am_r) ⊕ (Bool × Nat × List Value × am_lv × List Value) ⊕ (Option Int32 × Nat × am_lv × List Value) ⊕ (Option Int64 × Nat × am_lv × List Value) ⊕ (Option Nat × Nat × am_lv × List Value) ⊕ (Option am_H × Nat × am_lv × List Value) ⊕ (Bool × Nat × List Value × am_lv × List Value × Nat)
abbrev am_go (bs : List (Bool × Nat)) (pc : Nat) (lv : am_lv) (st : List Value) : Option am_A := some (.inl (bs, pc, lv, st))
abbrev am_ret (g : Bool) (r : am_r) : Option am_A := some (.inr (.inl (g, r)))
abbrev am_call (g : Bool) (y : Nat) (as : List Value) (lv : am_lv) (st : List Value) : Option am_A := some (.inr (.inr (.inl (g, y, as, lv, st))))
abbrev am_rdI (o : Option Int32) (pc : Nat) (lv : am_lv) (st : List Value) : Option am_A := some (.inr (.inr (.inr (.inl (o, pc, lv, st)))))
abbrev am_rdJ (o : Option Int64) (pc : Nat) (lv : am_lv) (st : List Value) : Option am_A := some (.inr (.inr (.inr (.inr (.inl (o, pc, lv, st))))))
abbrev am_rdR (o : Option Nat) (pc : Nat) (lv : am_lv) (st : List Value) : Option am_A := some (.inr (.inr (.inr (.inr (.inr (.inl (o, pc, lv, st)))))))
abbrev am_wr (o : Option am_H) (pc : Nat) (lv : am_lv) (st : List Value) : Option am_A := some (.inr (.inr (.inr (.inr (.inr (.inr (.inl (o, pc, lv, st))))))))
abbrev am_ck (g : Bool) (y : Nat) (as : List Value) (lv : am_lv) (st : List Value) (h : Nat) : Option am_A := some (.inr (.inr (.inr (.inr (.inr (.inr (.inr (g, y, as, lv, st, h))))))))
/-- an exception's cell has been made: one that isn't known -/
def am_thr (σ : am_H) : am_H := ((am_c σ + 1, am_s σ + 6, am_n σ, am_sh σ, am_R σ, am_sl σ, am_sx σ), σ.2.1, σ.2.2)
def am_sw {α : Type} (k : Nat → α) : List (Bool × Nat) → Nat → α
  | [], pc => k pc
  | q :: l, pc => bif q.1 then k q.2 else am_sw k l pc
/-- instructions: the machine's own, or (what, pool place, a, b) where the pool is looked up -/
abbrev am_O : Type := Instr ⊕ (Nat × Nat × Nat × Nat)
def am_cmpT (c : ClassFile.Cond) (x y : Int32) : Bool := match c with
  | .eq => decide (x = y)
  | .ne => decide (¬ x = y)
  | .lt => decide (x < y)
  | .ge => decide (y ≤ x)
  | .gt => decide (y < x)
  | .le => decide (x ≤ y)
def am_tgt (pc : Nat) (off : Int) : Nat := ((pc : Int) + off).toNat
def am_tsw (x : Int32) (pc : Nat) : Nat → List Int → List (Bool × Nat)
  | _, [] => []
  | lo, o :: l => (decide (x = nI lo), am_tgt pc o) :: am_tsw x pc (lo + 1) l
def am_lo : Value → Option Int32
  | .int x => some x
  | _ => none
