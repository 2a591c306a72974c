/-! ===== the engine's run ===== -/
/-- new int[n][k] -/
def pv_mu (A : pv_H) (N K : Nat) : Nat → pv_C := fun j => if j = A.1 then .inl (2, N, .inr (A.1 + 1)) else if A.1 < j ∧ j < A.1 + 1 + N then .inl (0, K, .inl (fun _ => 0)) else A.2 j
def pv_h3 (y : pv_Y) (i : Instr) (n : Nat) (st : List Value) (A : pv_H) (cu su : Nat) : Option (List Value × pv_H × Nat × Nat) :=
  match i, n, st with
  | .multianewarray x 2, 4, .int k :: .int j :: st => if ((pv_cn y = 3 ∧ x = 17) ∨ (pv_cn y = 5 ∧ x = 30)) ∧ ¬ j < 0 ∧ ¬ k < 0 ∧ j.toNatClampNeg * 4 ≤ 536870912 ∧ k.toNatClampNeg * 4 ≤ 536870912 ∧ cu + (1 + j.toNatClampNeg) ≤ pv_mc y ∧ su + (j.toNatClampNeg + j.toNatClampNeg * k.toNatClampNeg) ≤ pv_ms y then some (.ref A.1 :: st, (A.1 + 1 + j.toNatClampNeg, pv_mu A j.toNatClampNeg k.toNatClampNeg), cu + (1 + j.toNatClampNeg), su + (j.toNatClampNeg + j.toNatClampNeg * k.toNatClampNeg)) else none
  | _, _, _ => none
/-- Math.max, min, abs by (class, entry): which, the place of the link -/
def pv_LX : List (Nat × Nat × Nat × Nat) := [(0, 25, 0, 417), (0, 19, 1, 414), (1, 24, 0, 536), (1, 18, 1, 535), (6, 251, 0, 638), (6, 221, 2, 584)]
def pv_xn (k : Nat) : MethodName := if k = 0 then Lib.Math.max.name else if k = 1 then Lib.Math.min.name else Lib.Math.abs.name
set_option maxRecDepth 100000 in
theorem pv_LX_ok : ∀ e ∈ pv_LX, lw_tbl[e.2.2.2]? = some (.methodLink (pv_own e.1) e.2.1 (pv_xn e.2.2.1)) := by decide +kernel
set_option maxRecDepth 100000 in
theorem pv_xs : lw_tbl[418]? = some (.static Lib.Math.max.name) ∧ lw_tbl[415]? = some (.static Lib.Math.min.name) ∧ lw_tbl[585]? = some (.static Lib.Math.abs.name) ∧ lw_tbl[70]? = some (.initialized "java/lang/Math") := by decide +kernel
set_option maxRecDepth 100000 in
theorem pv_xc : lw_tbl[419]? = some (.code Lib.Math.max.name Lib.Math.max.code 2 (some .int)) ∧ lw_tbl[416]? = some (.code Lib.Math.min.name Lib.Math.min.code 2 (some .int)) ∧ lw_tbl[586]? = some (.code Lib.Math.abs.name Lib.Math.abs.code 1 (some .int)) := ⟨rfl, rfl, rfl⟩
def pv_mx (y : pv_Y) (i : Instr) (n : Nat) (st : List Value) : Option (List Value) :=
  match i, n, st with
  | .invokestatic x, 3, .int b :: st => match pv_LX.find? (fun e => e.1 == pv_cn y && e.2.1 == x) with
    | some e => if 1 ≤ pv_fr y ∧ pv_sum st + 13 ≤ pv_lc y then (match e.2.2.1, st with
      | 0, .int a :: st => some (.int (if a < b then b else a) :: st)
      | 1, .int a :: st => some (.int (if b < a then b else a) :: st)
      | 2, st => some (.int (if 0 ≤ b then b else 0 - b) :: st)
      | _, _ => none) else none
    | none => none
  | _, _, _ => none
/-- returns -/
def pv_r (y : pv_Y) (i : Instr) (n : Nat) (st : List Value) : Option (Option Value) :=
  match i, n, st with
  | .ireturn, 1, [.int v] => match pv_rt y with
    | some .int => some (some (.int v))
    | some .boolean => if vp_nar .boolean v = v then some (some (.int v)) else none
    | _ => none
  | .lreturn, 1, [.long v] => match pv_rt y with
    | some .long => some (some (.long v))
    | _ => none
  | .return_, 1, [] => match pv_rt y with
    | none => some none
    | _ => none
  | _, _, _ => none
/-- calls: the link -/
def pv_mf (own idx : Nat) : Option (Nat × pv_Y) :=
  match pv_LM.find? (fun e => e.1 == own && e.2.1 == idx) with
  | some e => (pv_tab[e.2.2.2.1]?).map (fun z => (e.2.2.1, z))
  | none => match pv_LMN.find? (fun e => e.1 == own && e.2.1 == idx) with
    | some e => (pv_tab[e.2.2.2.1]?).map (fun z => (e.2.2.1, z))
    | none => none
def pv_iv (i : Instr) (n : Nat) : Option (Nat × Nat) := match i, n with
  | .invokevirtual x, 3 => some (0, x)
  | .invokestatic x, 3 => some (1, x)
  | .invokespecial x, 3 => some (2, x)
  | _, _ => none
/-- the receiver of a virtual call is of the method's own class -/
def pv_rc (z : pv_Y) (A : pv_H) (As : List Value) : Bool := match As with
  | .ref a :: _ => decide (a < A.1) && match A.2 a with
    | .inr (ci, _) => ci + 1 == pv_cn z
    | _ => false
  | _ => false
def pv_cr (y z : pv_Y) (cu su : Nat) (As rest : List Value) : Bool := decide ((pv_sl As).length ≤ pv_ml z) && decide (pv_sum rest ≤ 8) && decide (pv_fr z + 1 ≤ pv_fr y) && decide (8 + (pv_ml z + 11) + pv_lc z ≤ pv_lc y) && decide (cu + pv_mc z ≤ pv_mc y) && decide (su + pv_ms z ≤ pv_ms y)
def pv_na (kk : Nat) (z : pv_Y) : Nat := if kk = 1 then pv_np z else pv_np z + 1
def pv_hd (As : List Value) : Bool := match As with
  | .ref _ :: _ => true
  | _ => false
def pv_ck (y z : pv_Y) (k kk cu su : Nat) (As rest : List Value) (A : pv_H) : Bool := (kk == k || (kk == 3 && k == 2)) && As.length == pv_na kk z && (kk != 0 || pv_rc z A As) && (kk == 1 || pv_hd As) && pv_cr y z cu su As rest
def pv_inv (y : pv_Y) (i : Instr) (n : Nat) (st : List Value) (A : pv_H) (cu su : Nat) : Option (pv_Y × List Value × List Value) :=
  match pv_iv i n with
  | some (k, x) => match pv_mf (pv_cn y) x with
    | some (kk, z) => if pv_ck y z k kk cu su (st.take (pv_na kk z)).reverse (st.drop (pv_na kk z)) A = true then some (z, (st.take (pv_na kk z)).reverse, st.drop (pv_na kk z)) else none
    | none => none
  | none => none
/-- one step that is no call and no return -/
def pv_stp (y : pv_Y) (i : Instr) (n pc : Nat) (loc : pv_L) (st : List Value) (A : pv_H) (cu su : Nat) : Option (Nat × pv_L × List Value × pv_H × Nat × Nat) :=
  match pv_s i n st with
  | some st' => some (pc + n, loc, st', A, cu, su)
  | none => match pv_l i n loc st with
    | some (loc', st') => some (pc + n, loc', st', A, cu, su)
    | none => match pv_b i n st with
      | some (o, t, st') => if 0 ≤ (pc : Int) + o then some (pv_pc pc o t, loc, st', A, cu, su) else none
      | none => match pv_h1 y i n st A with
        | some (st', A') => some (pc + n, loc, st', A', cu, su)
        | none => match pv_h2 y i n st A cu su with
          | some (st', A', cu', su') => some (pc + n, loc, st', A', cu', su')
          | none => match pv_h3 y i n st A cu su with
            | some (st', A', cu', su') => some (pc + n, loc, st', A', cu', su')
            | none => match pv_mx y i n st with
              | some st' => some (pc + n, loc, st', A, cu, su)
              | none => none
def pv_run : Nat → pv_Y → Nat → pv_L → List Value → pv_H → Nat → Nat → Option (Option Value × pv_H)
  | 0, _, _, _, _, _, _, _ => none
  | f + 1, y, pc, loc, st, A, cu, su =>
    match decode (pv_cd y) pc with
    | .ok (i, n) => match pv_r y i n st with
      | some r => some (r, A)
      | none => match pv_inv y i n st A cu su with
        | some (z, As, rest) => match pv_run f z 0 (pv_ent As (pv_ml z)) [] A 0 0 with
          | some (r, A') => pv_run f y (pc + 3) loc (r.toList ++ rest) A' (cu + pv_mc z) (su + pv_ms z)
          | none => none
        | none => match pv_stp y i n pc loc st A cu su with
          | some (pc', loc', st', A', cu', su') => pv_run f y pc' loc' st' A' cu' su'
          | none => none
    | .error _ => none
