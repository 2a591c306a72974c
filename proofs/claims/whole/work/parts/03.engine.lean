/-! ===== the engine: one interpreter of the code that is here, over cells by number ===== -/
/-- a value: a number of a cell for its address -/
def pv_t (b : Nat) : Value → Value
  | .ref k => .ref (b + k)
  | v => v
theorem pv_cat (b : Nat) (v : Value) : (pv_t b v).category = v.category := by cases v <;> rfl
/-- a cell: an array (kind 0 int, 1 boolean, 2 of int arrays; length; contents) or an object (class among vwCl, fields); an array of arrays by its first -/
abbrev pv_C : Type := (Nat × Nat × ((Nat → Int32) ⊕ Nat)) ⊕ (Nat × List Value)
abbrev pv_H : Type := Nat × (Nat → pv_C)
abbrev pv_L : Type := List (Option Value)
def pv_up (f : Nat → pv_C) (k : Nat) (c : pv_C) : Nat → pv_C := fun j => if j = k then c else f j
/-- a store into a local: what stood across it is no more -/
def pv_nl : Option Value → Option Value
  | some (.long _) => none
  | some (.double _) => none
  | a => a
def pv_md : pv_L → Nat → pv_L
  | [], _ => []
  | a :: l, 0 => pv_nl a :: l
  | a :: l, j + 1 => a :: pv_md l j
def pv_k (loc : pv_L) (i : Nat) : pv_L := match i with
  | 0 => loc
  | j + 1 => pv_md loc j
def pv_st1 (loc : pv_L) (i : Nat) (v : Value) : pv_L := (pv_k loc i).set i (some v)
def pv_st2 (loc : pv_L) (i : Nat) (v : Value) : pv_L := ((pv_k loc i).set i (some v)).set (i + 1) none
def pv_sl : List Value → pv_L
  | [] => []
  | .long x :: vs => some (.long x) :: none :: pv_sl vs
  | .double x :: vs => some (.double x) :: none :: pv_sl vs
  | v :: vs => some v :: pv_sl vs
def pv_ent (vs : List Value) (n : Nat) : pv_L := pv_sl vs ++ List.replicate (n - (pv_sl vs).length) none
/-- the stack alone -/
def pv_s (i : Instr) (n : Nat) (st : List Value) : Option (List Value) :=
  match i, n, st with
  | .iconst v, 1, st => some (.int (Int32.ofInt v) :: st)
  | .bipush v, 2, st => some (.int (Int8.ofInt v).toInt32 :: st)
  | .sipush v, 3, st => some (.int (Int16.ofInt v).toInt32 :: st)
  | .lconst v, 1, st => some (.long (Int64.ofNat (v : Nat)) :: st)
  | .iadd, 1, .int y :: .int x :: st => some (.int (x + y) :: st)
  | .isub, 1, .int y :: .int x :: st => some (.int (x - y) :: st)
  | .imul, 1, .int y :: .int x :: st => some (.int (x * y) :: st)
  | .iand, 1, .int y :: .int x :: st => some (.int (x &&& y) :: st)
  | .ior, 1, .int y :: .int x :: st => some (.int (x ||| y) :: st)
  | .ixor, 1, .int y :: .int x :: st => some (.int (x ^^^ y) :: st)
  | .idiv, 1, .int y :: .int x :: st => if y = 0 then none else some (.int (x / y) :: st)
  | .irem, 1, .int y :: .int x :: st => if y = 0 then none else some (.int (x - x / y * y) :: st)
  | .ineg, 1, .int x :: st => some (.int (-x) :: st)
  | .ladd, 1, .long y :: .long x :: st => some (.long (x + y) :: st)
  | .lmul, 1, .long y :: .long x :: st => some (.long (x * y) :: st)
  | .ldiv, 1, .long y :: .long x :: st => if y = 0 then none else some (.long (x / y) :: st)
  | .lrem, 1, .long y :: .long x :: st => if y = 0 then none else some (.long (x - x / y * y) :: st)
  | .ishl, 1, .int y :: .int x :: st => some (.int (x <<< (y &&& 31)) :: st)
  | .ishr, 1, .int y :: .int x :: st => some (.int (x >>> (y &&& 31)) :: st)
  | .i2l, 1, .int x :: st => some (.long x.toInt64 :: st)
  | .l2i, 1, .long x :: st => some (.int x.toInt32 :: st)
  | .i2b, 1, .int x :: st => some (.int x.toInt8.toInt32 :: st)
  | .lcmp, 1, .long y :: .long x :: st => some (.int (lg_cmp x y) :: st)
  | .dup, 1, v :: st => if v.category = 1 then some (v :: v :: st) else none
  | .dup2, 1, v :: w :: st => if v.category = 1 ∧ w.category = 1 then some (v :: w :: v :: w :: st) else none
  | _, _, _ => none
/-- the locals and the stack -/
def pv_l (i : Instr) (n : Nat) (loc : pv_L) (st : List Value) : Option (pv_L × List Value) :=
  match i, n, st with
  | .iload_n k, 1, st => match loc[(k : Nat)]? with
    | some (some (.int x)) => some (loc, .int x :: st)
    | _ => none
  | .iload k, 2, st => match loc[k]? with
    | some (some (.int x)) => some (loc, .int x :: st)
    | _ => none
  | .lload_n k, 1, st => match loc[(k : Nat)]? with
    | some (some (.long x)) => some (loc, .long x :: st)
    | _ => none
  | .lload k, 2, st => match loc[k]? with
    | some (some (.long x)) => some (loc, .long x :: st)
    | _ => none
  | .aload_n k, 1, st => match loc[(k : Nat)]? with
    | some (some (.ref x)) => some (loc, .ref x :: st)
    | _ => none
  | .istore_n k, 1, .int x :: st => if (k : Nat) < loc.length then some (pv_st1 loc k (.int x), st) else none
  | .istore k, 2, .int x :: st => if k < loc.length then some (pv_st1 loc k (.int x), st) else none
  | .astore_n k, 1, .ref x :: st => if (k : Nat) < loc.length then some (pv_st1 loc k (.ref x), st) else none
  | .lstore_n k, 1, .long x :: st => if (k : Nat) + 1 < loc.length then some (pv_st2 loc k (.long x), st) else none
  | .lstore k, 2, .long x :: st => if k + 1 < loc.length then some (pv_st2 loc k (.long x), st) else none
  | .iinc k c, 3, st => match loc[k]? with
    | some (some (.int x)) => if k < loc.length then some (pv_st1 loc k (.int (x + Int32.ofInt c)), st) else none
    | _ => none
  | _, _, _ => none
/-- branches: how far, and whether -/
def pv_b (i : Instr) (n : Nat) (st : List Value) : Option (Int × Bool × List Value) :=
  match i, n, st with
  | .ifCond .eq o, 3, .int x :: st => some (o, decide (x = 0), st)
  | .ifCond .ne o, 3, .int x :: st => some (o, decide (¬ x = 0), st)
  | .ifCond .lt o, 3, .int x :: st => some (o, decide (x < 0), st)
  | .ifCond .ge o, 3, .int x :: st => some (o, decide (0 ≤ x), st)
  | .ifCond .gt o, 3, .int x :: st => some (o, decide (0 < x), st)
  | .ifCond .le o, 3, .int x :: st => some (o, decide (x ≤ 0), st)
  | .if_icmp .eq o, 3, .int y :: .int x :: st => some (o, decide (x = y), st)
  | .if_icmp .ne o, 3, .int y :: .int x :: st => some (o, decide (¬ x = y), st)
  | .if_icmp .lt o, 3, .int y :: .int x :: st => some (o, decide (x < y), st)
  | .if_icmp .ge o, 3, .int y :: .int x :: st => some (o, decide (y ≤ x), st)
  | .if_icmp .gt o, 3, .int y :: .int x :: st => some (o, decide (y < x), st)
  | .if_icmp .le o, 3, .int y :: .int x :: st => some (o, decide (x ≤ y), st)
  | .goto o, 3, st => some (o, true, st)
  | .tableswitch d lo hi os, _, .int x :: st => if x.toInt < lo ∨ hi < x.toInt then some (d, true, st) else (os[(x.toInt - lo).toNat]?).map (fun o => (o, true, st))
  | .lookupswitch d ps, _, .int x :: st => if (ps.toList.zip (ps.toList.drop 1)).all (fun (a, next) => a.1 < next.1) = true then some (Op.lookupswitch.offset ps.toList d x.toInt, true, st) else none
  | _, _, _ => none
def pv_pc (pc : Nat) (o : Int) (t : Bool) : Nat := if t then ((pc : Int) + o).toNat else pc + 3
