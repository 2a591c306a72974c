/-! ===== tables of links, held against the Statement's words ===== -/
def pv_ty : Nat → Nat → FieldType := fun ci => match ci with
  | 0 => tyX1
  | 1 => tyX2
  | 2 => tyX3
  | 3 => tyX4
  | 4 => tyX5
  | 5 => tyX6
  | _ => tyX7
def pv_fw (e : Nat × Nat × Nat × Nat × Nat) : Option Cond := (vwCl[e.2.2.1]?).map fun q => .fieldLink (pv_own e.1) e.2.1 q.1 (q.2.1 e.2.2.2.1).2.1 (q.2.1 e.2.2.2.1).2.2.1
def pv_nw (e : Nat × Nat × Nat × Nat × Nat) : Option Cond := (vwCl[e.2.2.1]?).map fun q => .fieldLinkNest (pv_own e.1) e.2.1 q.1 (q.2.1 e.2.2.2.1).2.1 (q.2.1 e.2.2.2.1).2.2.1 "PoundCat"
set_option maxRecDepth 100000 in
theorem pv_LF_ok : ∀ e ∈ pv_LF, pv_fw e ≠ none ∧ lw_tbl[e.2.2.2.2]? = pv_fw e := by decide +kernel
set_option maxRecDepth 100000 in
theorem pv_LN_ok : ∀ e ∈ pv_LN, pv_nw e ≠ none ∧ lw_tbl[e.2.2.2.2]? = pv_nw e := by decide +kernel
def pv_lk (x : Option Cond) : Cond := x.getD .tt
set_option maxRecDepth 100000 in
theorem pv_LC_ok : ∀ e ∈ pv_LC, lw_tbl[e.2.2.2]? = some (.constant (pv_own e.1) e.2.1 e.2.2.1) := by decide +kernel
set_option maxRecDepth 100000 in
theorem pv_LJ_ok : ∀ e ∈ pv_LJ, lw_tbl[e.2.2.2]? = some (.constantLong (pv_own e.1) e.2.1 e.2.2.1) := by decide +kernel
abbrev pv_nm (y : pv_Y) : MethodName := y.1
abbrev pv_cd (y : pv_Y) : ByteArray := y.2.1
abbrev pv_ml (y : pv_Y) : Nat := y.2.2.1
abbrev pv_rt (y : pv_Y) : Option FieldType := y.2.2.2.1
abbrev pv_cn (y : pv_Y) : Nat := y.2.2.2.2.1
abbrev pv_is (y : pv_Y) : Bool := y.2.2.2.2.2.1
abbrev pv_np (y : pv_Y) : Nat := y.2.2.2.2.2.2.1
abbrev pv_fr (y : pv_Y) : Nat := y.2.2.2.2.2.2.2.1
abbrev pv_lc (y : pv_Y) : Nat := y.2.2.2.2.2.2.2.2.1
abbrev pv_mc (y : pv_Y) : Nat := y.2.2.2.2.2.2.2.2.2.1
abbrev pv_ms (y : pv_Y) : Nat := y.2.2.2.2.2.2.2.2.2.2
def pv_code (y : pv_Y) : Cond := .code (pv_nm y) (pv_cd y) (pv_ml y) (pv_rt y)
/-- a link of a call: its words stand at their places, its method is that of the table -/
def pv_mOk (e : Nat × Nat × Nat × Nat × Nat × Nat × Nat × Nat × Nat) : Bool :=
  match pv_tab[e.2.2.2.1]? with
  | none => false
  | some z =>
    decide (lw_tbl[e.2.2.2.2.1]? = some (if e.2.2.1 = 3 then .methodLinkNest (pv_own e.1) e.2.1 (pv_nm z) "PoundCat" else .methodLink (pv_own e.1) e.2.1 (pv_nm z))) &&
    decide (lw_tbl[e.2.2.2.2.2.1]? = some (if e.2.2.1 = 1 then .static (pv_nm z) else .instanceMethod (pv_nm z))) &&
    (e.2.2.1 != 0 || decide (lw_tbl[e.2.2.2.2.2.2.1]? = some (.selects (pv_nm z).cls (pv_nm z) (pv_nm z)))) &&
    decide (lw_tbl[e.2.2.2.2.2.2.2.1]? = some (.initialized (pv_nm z).cls)) &&
    (pv_is z == (e.2.2.1 == 1)) && ((e.2.2.1 == 0 || e.2.2.1 == 1) || decide ((pv_nm z).name = "<init>" ∧ pv_rt z = none))
