/-! ===== the store: what the cells hold, by number ===== -/
abbrev pv_S : Type := (Nat → Nat → Int32) × (Nat → Nat → Int64)
def pv_ce (k : Nat) (s : Nat → Int32) (t : Nat → Int64) : pv_C := match k with
  | 0 => .inr (5, [.ref 1, .ref 10, .ref 17, .ref 21, .ref 32, .ref 35])
  | 1 => .inr (2, [.int 40, .ref 2, .ref 3])
  | 2 => .inl (0, 6, .inl s)
  | 3 => .inl (2, 6, .inr 4)
  | 4 => .inl (0, 40, .inl s)
  | 5 => .inl (0, 40, .inl s)
  | 6 => .inl (0, 40, .inl s)
  | 7 => .inl (0, 40, .inl s)
  | 8 => .inl (0, 40, .inl s)
  | 9 => .inl (0, 40, .inl s)
  | 10 => .inr (2, [.int 60, .ref 11, .ref 12])
  | 11 => .inl (0, 4, .inl s)
  | 12 => .inl (2, 4, .inr 13)
  | 13 => .inl (0, 60, .inl s)
  | 14 => .inl (0, 60, .inl s)
  | 15 => .inl (0, 60, .inl s)
  | 16 => .inl (0, 60, .inl s)
  | 17 => .inr (1, [.ref 18, .ref 19, .ref 20, .int (s 3), .int (s 4), .int (s 5)])
  | 18 => .inl (0, 6, .inl s)
  | 19 => .inl (0, 6, .inl s)
  | 20 => .inl (0, 6, .inl s)
  | 21 => .inr (4, [.ref 22, .ref 23, .ref 24, .ref 25, .ref 26, .ref 27, .ref 28, .int (s 7), .int (s 8), .int (s 9), .int (s 10), .int (s 11), .int (s 12), .int (s 13)])
  | 22 => .inl (0, 6, .inl s)
  | 23 => .inl (0, 6, .inl s)
  | 24 => .inl (0, 6, .inl s)
  | 25 => .inl (0, 6, .inl s)
  | 26 => .inl (0, 40, .inl s)
  | 27 => .inl (0, 3, .inl s)
  | 28 => .inl (2, 3, .inr 29)
  | 29 => .inl (0, 40, .inl s)
  | 30 => .inl (0, 40, .inl s)
  | 31 => .inl (0, 40, .inl s)
  | 32 => .inr (0, [.ref 33, .ref 34, .int (s 2)])
  | 33 => .inl (0, 61, .inl s)
  | 34 => .inl (0, 6, .inl s)
  | 35 => .inr (3, [.ref 36, .int (s 1), .long (t 2), .long (t 3), .int (s 4)])
  | 36 => .inl (0, 6, .inl s)
  | 37 => .inr (6, [.ref 38, .ref 39, .ref 40, .ref 41, .int (s 4), .int (s 5), .ref 42, .ref 43, .ref 44, .int (s 9), .ref 45, .ref 46, .ref 47, .int (s 13), .long (t 14), .long (t 15), .int (s 16), .ref 48, .int (s 18), .int (s 19), .int (s 20), .ref 49, .int (s 22), .int (s 23), .ref 50, .ref 51, .ref 52, .ref 53, .ref 54])
  | 38 => .inl (0, 6, .inl s)
  | 39 => .inl (0, 240, .inl s)
  | 40 => .inl (0, 4, .inl s)
  | 41 => .inl (0, 240, .inl s)
  | 42 => .inl (0, 6, .inl s)
  | 43 => .inl (0, 6, .inl s)
  | 44 => .inl (0, 10, .inl s)
  | 45 => .inl (0, 400, .inl s)
  | 46 => .inl (0, 1233, .inl s)
  | 47 => .inl (1, 3, .inl s)
  | 48 => .inl (0, 6, .inl s)
  | 49 => .inl (0, 18, .inl s)
  | 50 => .inl (0, 3, .inl s)
  | 51 => .inl (0, 3, .inl s)
  | 52 => .inl (0, 30, .inl s)
  | 53 => .inl (0, 5, .inl s)
  | 54 => .inl (0, 5, .inl s)
  | _ => .inr (9, [])
def pv_em (S : pv_S) : pv_H := (55, fun k => pv_ce k (S.1 k) (S.2 k))
def pv_si (S : pv_S) (k j : Nat) (v : Int32) : pv_S := (va_up S.1 k (upd (S.1 k) j v), S.2)
def pv_sa (S : pv_S) (k : Nat) (f : Nat → Int32) : pv_S := (va_up S.1 k f, S.2)
def pv_sj (S : pv_S) (k j : Nat) (v : Int64) : pv_S := (S.1, va_up S.2 k (va_up (S.2 k) j v))
theorem pv_ce_0 (s : Nat → Int32) (t : Nat → Int64) : pv_ce 0 s t = .inr (5, [.ref 1, .ref 10, .ref 17, .ref 21, .ref 32, .ref 35]) := rfl
theorem pv_ce_1 (s : Nat → Int32) (t : Nat → Int64) : pv_ce 1 s t = .inr (2, [.int 40, .ref 2, .ref 3]) := rfl
theorem pv_ce_2 (s : Nat → Int32) (t : Nat → Int64) : pv_ce 2 s t = .inl (0, 6, .inl s) := rfl
theorem pv_ce_3 (s : Nat → Int32) (t : Nat → Int64) : pv_ce 3 s t = .inl (2, 6, .inr 4) := rfl
theorem pv_ce_4 (s : Nat → Int32) (t : Nat → Int64) : pv_ce 4 s t = .inl (0, 40, .inl s) := rfl
theorem pv_ce_5 (s : Nat → Int32) (t : Nat → Int64) : pv_ce 5 s t = .inl (0, 40, .inl s) := rfl
theorem pv_ce_6 (s : Nat → Int32) (t : Nat → Int64) : pv_ce 6 s t = .inl (0, 40, .inl s) := rfl
theorem pv_ce_7 (s : Nat → Int32) (t : Nat → Int64) : pv_ce 7 s t = .inl (0, 40, .inl s) := rfl
theorem pv_ce_8 (s : Nat → Int32) (t : Nat → Int64) : pv_ce 8 s t = .inl (0, 40, .inl s) := rfl
theorem pv_ce_9 (s : Nat → Int32) (t : Nat → Int64) : pv_ce 9 s t = .inl (0, 40, .inl s) := rfl
theorem pv_ce_10 (s : Nat → Int32) (t : Nat → Int64) : pv_ce 10 s t = .inr (2, [.int 60, .ref 11, .ref 12]) := rfl
theorem pv_ce_11 (s : Nat → Int32) (t : Nat → Int64) : pv_ce 11 s t = .inl (0, 4, .inl s) := rfl
theorem pv_ce_12 (s : Nat → Int32) (t : Nat → Int64) : pv_ce 12 s t = .inl (2, 4, .inr 13) := rfl
theorem pv_ce_13 (s : Nat → Int32) (t : Nat → Int64) : pv_ce 13 s t = .inl (0, 60, .inl s) := rfl
theorem pv_ce_14 (s : Nat → Int32) (t : Nat → Int64) : pv_ce 14 s t = .inl (0, 60, .inl s) := rfl
theorem pv_ce_15 (s : Nat → Int32) (t : Nat → Int64) : pv_ce 15 s t = .inl (0, 60, .inl s) := rfl
theorem pv_ce_16 (s : Nat → Int32) (t : Nat → Int64) : pv_ce 16 s t = .inl (0, 60, .inl s) := rfl
theorem pv_ce_17 (s : Nat → Int32) (t : Nat → Int64) : pv_ce 17 s t = .inr (1, [.ref 18, .ref 19, .ref 20, .int (s 3), .int (s 4), .int (s 5)]) := rfl
theorem pv_ce_18 (s : Nat → Int32) (t : Nat → Int64) : pv_ce 18 s t = .inl (0, 6, .inl s) := rfl
theorem pv_ce_19 (s : Nat → Int32) (t : Nat → Int64) : pv_ce 19 s t = .inl (0, 6, .inl s) := rfl
theorem pv_ce_20 (s : Nat → Int32) (t : Nat → Int64) : pv_ce 20 s t = .inl (0, 6, .inl s) := rfl
theorem pv_ce_21 (s : Nat → Int32) (t : Nat → Int64) : pv_ce 21 s t = .inr (4, [.ref 22, .ref 23, .ref 24, .ref 25, .ref 26, .ref 27, .ref 28, .int (s 7), .int (s 8), .int (s 9), .int (s 10), .int (s 11), .int (s 12), .int (s 13)]) := rfl
theorem pv_ce_22 (s : Nat → Int32) (t : Nat → Int64) : pv_ce 22 s t = .inl (0, 6, .inl s) := rfl
theorem pv_ce_23 (s : Nat → Int32) (t : Nat → Int64) : pv_ce 23 s t = .inl (0, 6, .inl s) := rfl
theorem pv_ce_24 (s : Nat → Int32) (t : Nat → Int64) : pv_ce 24 s t = .inl (0, 6, .inl s) := rfl
theorem pv_ce_25 (s : Nat → Int32) (t : Nat → Int64) : pv_ce 25 s t = .inl (0, 6, .inl s) := rfl
theorem pv_ce_26 (s : Nat → Int32) (t : Nat → Int64) : pv_ce 26 s t = .inl (0, 40, .inl s) := rfl
theorem pv_ce_27 (s : Nat → Int32) (t : Nat → Int64) : pv_ce 27 s t = .inl (0, 3, .inl s) := rfl
theorem pv_ce_28 (s : Nat → Int32) (t : Nat → Int64) : pv_ce 28 s t = .inl (2, 3, .inr 29) := rfl
theorem pv_ce_29 (s : Nat → Int32) (t : Nat → Int64) : pv_ce 29 s t = .inl (0, 40, .inl s) := rfl
theorem pv_ce_30 (s : Nat → Int32) (t : Nat → Int64) : pv_ce 30 s t = .inl (0, 40, .inl s) := rfl
theorem pv_ce_31 (s : Nat → Int32) (t : Nat → Int64) : pv_ce 31 s t = .inl (0, 40, .inl s) := rfl
theorem pv_ce_32 (s : Nat → Int32) (t : Nat → Int64) : pv_ce 32 s t = .inr (0, [.ref 33, .ref 34, .int (s 2)]) := rfl
theorem pv_ce_33 (s : Nat → Int32) (t : Nat → Int64) : pv_ce 33 s t = .inl (0, 61, .inl s) := rfl
theorem pv_ce_34 (s : Nat → Int32) (t : Nat → Int64) : pv_ce 34 s t = .inl (0, 6, .inl s) := rfl
theorem pv_ce_35 (s : Nat → Int32) (t : Nat → Int64) : pv_ce 35 s t = .inr (3, [.ref 36, .int (s 1), .long (t 2), .long (t 3), .int (s 4)]) := rfl
theorem pv_ce_36 (s : Nat → Int32) (t : Nat → Int64) : pv_ce 36 s t = .inl (0, 6, .inl s) := rfl
theorem pv_ce_37 (s : Nat → Int32) (t : Nat → Int64) : pv_ce 37 s t = .inr (6, [.ref 38, .ref 39, .ref 40, .ref 41, .int (s 4), .int (s 5), .ref 42, .ref 43, .ref 44, .int (s 9), .ref 45, .ref 46, .ref 47, .int (s 13), .long (t 14), .long (t 15), .int (s 16), .ref 48, .int (s 18), .int (s 19), .int (s 20), .ref 49, .int (s 22), .int (s 23), .ref 50, .ref 51, .ref 52, .ref 53, .ref 54]) := rfl
theorem pv_ce_38 (s : Nat → Int32) (t : Nat → Int64) : pv_ce 38 s t = .inl (0, 6, .inl s) := rfl
theorem pv_ce_39 (s : Nat → Int32) (t : Nat → Int64) : pv_ce 39 s t = .inl (0, 240, .inl s) := rfl
theorem pv_ce_40 (s : Nat → Int32) (t : Nat → Int64) : pv_ce 40 s t = .inl (0, 4, .inl s) := rfl
theorem pv_ce_41 (s : Nat → Int32) (t : Nat → Int64) : pv_ce 41 s t = .inl (0, 240, .inl s) := rfl
theorem pv_ce_42 (s : Nat → Int32) (t : Nat → Int64) : pv_ce 42 s t = .inl (0, 6, .inl s) := rfl
theorem pv_ce_43 (s : Nat → Int32) (t : Nat → Int64) : pv_ce 43 s t = .inl (0, 6, .inl s) := rfl
theorem pv_ce_44 (s : Nat → Int32) (t : Nat → Int64) : pv_ce 44 s t = .inl (0, 10, .inl s) := rfl
theorem pv_ce_45 (s : Nat → Int32) (t : Nat → Int64) : pv_ce 45 s t = .inl (0, 400, .inl s) := rfl
theorem pv_ce_46 (s : Nat → Int32) (t : Nat → Int64) : pv_ce 46 s t = .inl (0, 1233, .inl s) := rfl
theorem pv_ce_47 (s : Nat → Int32) (t : Nat → Int64) : pv_ce 47 s t = .inl (1, 3, .inl s) := rfl
theorem pv_ce_48 (s : Nat → Int32) (t : Nat → Int64) : pv_ce 48 s t = .inl (0, 6, .inl s) := rfl
theorem pv_ce_49 (s : Nat → Int32) (t : Nat → Int64) : pv_ce 49 s t = .inl (0, 18, .inl s) := rfl
theorem pv_ce_50 (s : Nat → Int32) (t : Nat → Int64) : pv_ce 50 s t = .inl (0, 3, .inl s) := rfl
theorem pv_ce_51 (s : Nat → Int32) (t : Nat → Int64) : pv_ce 51 s t = .inl (0, 3, .inl s) := rfl
theorem pv_ce_52 (s : Nat → Int32) (t : Nat → Int64) : pv_ce 52 s t = .inl (0, 30, .inl s) := rfl
theorem pv_ce_53 (s : Nat → Int32) (t : Nat → Int64) : pv_ce 53 s t = .inl (0, 5, .inl s) := rfl
theorem pv_ce_54 (s : Nat → Int32) (t : Nat → Int64) : pv_ce 54 s t = .inl (0, 5, .inl s) := rfl
theorem pv_em_upd {S : pv_S} {k : Nat} {c : pv_C} (s' : Nat → Int32) (t' : Nat → Int64) (h : pv_ce k s' t' = c) : ((pv_em S).1, pv_up (pv_em S).2 k c) = pv_em (va_up S.1 k s', va_up S.2 k t') := by
  unfold pv_em
  refine Prod.ext rfl (funext fun j => ?_)
  show pv_up (fun k => pv_ce k (S.1 k) (S.2 k)) k c j = pv_ce j (va_up S.1 k s' j) (va_up S.2 k t' j)
  unfold pv_up va_up
  by_cases e : j = k
  · subst e
    simp [h]
  · simp [e]
theorem pv_up_id {α : Type} (f : Nat → α) (k : Nat) : va_up f k (f k) = f := by
  funext j
  unfold va_up
  by_cases e : j = k
  · subst e; simp
  · simp [e]
theorem pv_em_si {S : pv_S} {k j : Nat} {v : Int32} {c : pv_C} (h : pv_ce k (upd (S.1 k) j v) (S.2 k) = c) : ((pv_em S).1, pv_up (pv_em S).2 k c) = pv_em (pv_si S k j v) := by
  rw [pv_em_upd (upd (S.1 k) j v) (S.2 k) h, pv_up_id]
  rfl
theorem pv_em_sa {S : pv_S} {k : Nat} {f : Nat → Int32} {c : pv_C} (h : pv_ce k f (S.2 k) = c) : ((pv_em S).1, pv_up (pv_em S).2 k c) = pv_em (pv_sa S k f) := by
  rw [pv_em_upd f (S.2 k) h, pv_up_id]
  rfl
theorem pv_em_sj {S : pv_S} {k j : Nat} {v : Int64} {c : pv_C} (h : pv_ce k (S.1 k) (va_up (S.2 k) j v) = c) : ((pv_em S).1, pv_up (pv_em S).2 k c) = pv_em (pv_sj S k j v) := by
  rw [pv_em_upd (S.1 k) (va_up (S.2 k) j v) h, pv_up_id]
  rfl
theorem pv_fam_4 {r : Nat} (h : r < 6) (s : Nat → Int32) (t : Nat → Int64) : pv_ce (4 + r) s t = .inl (0, 40, .inl s) := by
  match r, h with
  | 0, _ => rfl
  | 1, _ => rfl
  | 2, _ => rfl
  | 3, _ => rfl
  | 4, _ => rfl
  | 5, _ => rfl
theorem pv_fal_4 {r : Nat} (h : r < 6) : 4 + r < 55 := by omega
theorem pv_fam_13 {r : Nat} (h : r < 4) (s : Nat → Int32) (t : Nat → Int64) : pv_ce (13 + r) s t = .inl (0, 60, .inl s) := by
  match r, h with
  | 0, _ => rfl
  | 1, _ => rfl
  | 2, _ => rfl
  | 3, _ => rfl
theorem pv_fal_13 {r : Nat} (h : r < 4) : 13 + r < 55 := by omega
theorem pv_fam_29 {r : Nat} (h : r < 3) (s : Nat → Int32) (t : Nat → Int64) : pv_ce (29 + r) s t = .inl (0, 40, .inl s) := by
  match r, h with
  | 0, _ => rfl
  | 1, _ => rfl
  | 2, _ => rfl
theorem pv_fal_29 {r : Nat} (h : r < 3) : 29 + r < 55 := by omega
/-! ===== the engine's steps as equations ===== -/
section PV8
variable {y : pv_Y} {pc : Nat} {loc : pv_L} {st : List Value} {A : pv_H} {i : Instr} {n : Nat}
theorem pv_Rerr (hd : decode (pv_cd y) pc = .ok (i, n)) (hr : pv_r y i n st = none) (hi : pv_inv y i n st A 0 0 = none) (h : pv_stp y i n pc loc st A 0 0 = none) : pv_R y pc loc st A = none := by
  cases h2 : pv_R y pc loc st A with
  | none => rfl
  | some x =>
    obtain ⟨f, hf⟩ := pv_R_iff.mp h2
    match f, hf with
    | 0, hf => cases hf
    | f + 1, hf =>
      rw [pv_run, hd] at hf
      dsimp only at hf
      rw [hr, hi] at hf
      dsimp only at hf
      rw [h] at hf
      cases hf
theorem pv_iteN {α : Type} {c : Prop} {d : Decidable c} {x z : Option α} (h : ¬ c → x = z) : (if c then none else x) = if c then none else z := by
  by_cases q : c
  · rw [if_pos q, if_pos q]
  · rw [if_neg q, if_neg q]; exact h q
theorem pv_Rget {idx ci k a : Nat} {nb : Bool} {fs : List Value} {v : Value} {S : pv_S} (hd : decode (pv_cd y) pc = .ok (.getfield idx, 3)) (hf : pv_ff (pv_cn y) idx = some (ci, k, nb)) (ha : a < 55) (hA : pv_ce a (S.1 a) (S.2 a) = .inr (ci, fs)) (hv : fs[k]? = some v) : pv_R y pc loc (.ref a :: st) (pv_em S) = pv_R y (pc + 3) loc (v :: st) (pv_em S) := by
  refine pv_Rstp hd rfl rfl ?_
  have h1 : pv_get (pv_cn y) idx a (pv_em S) = some v := by
    unfold pv_get
    rw [hf]
    dsimp only
    rw [if_pos (show a < (pv_em S).1 from ha)]
    have h2 : (pv_em S).2 a = .inr (ci, fs) := hA
    rw [h2]
    dsimp only
    rw [if_pos rfl]
    exact hv
  unfold pv_stp
  have e1 : pv_s (.getfield idx) 3 (.ref a :: st) = none := rfl
  have e2 : pv_l (.getfield idx) 3 loc (.ref a :: st) = none := rfl
  have e3 : pv_b (.getfield idx) 3 (.ref a :: st) = none := rfl
  have e4 : pv_h1 y (.getfield idx) 3 (.ref a :: st) (pv_em S) = some (v :: st, pv_em S) := by
    show (match pv_get (pv_cn y) idx a (pv_em S) with
      | some v => some (v :: st, pv_em S)
      | none => none) = _
    rw [h1]
  rw [e1, e2, e3, e4]
theorem pv_Rput {idx ci k a : Nat} {nb : Bool} {fs : List Value} {v : Value} {S S' : pv_S} {q : vw_C} (hd : decode (pv_cd y) pc = .ok (.putfield idx, 3)) (hf : pv_ff (pv_cn y) idx = some (ci, k, nb)) (hq : vwCl[ci]? = some q) (hfin : (q.2.1 k).2.2.2 = false) (ht : pv_fit (pv_ty ci k) v = true) (ha : a < 55) (hA : pv_ce a (S.1 a) (S.2 a) = .inr (ci, fs)) (hl : k < fs.length) (hS : ((pv_em S).1, pv_up (pv_em S).2 a (.inr (ci, fs.set k v))) = pv_em S') : pv_R y pc loc (v :: .ref a :: st) (pv_em S) = pv_R y (pc + 3) loc st (pv_em S') := by
  refine pv_Rstp hd rfl rfl ?_
  have h1 : pv_put y idx v a (pv_em S) = some (pv_em S') := by
    unfold pv_put
    rw [hf]
    dsimp only
    rw [hq]
    dsimp only
    rw [if_pos ⟨show a < (pv_em S).1 from ha, ht⟩]
    have h2 : (pv_em S).2 a = .inr (ci, fs) := hA
    rw [h2]
    dsimp only
    rw [if_pos ⟨rfl, hl, Or.inl hfin⟩, hS]
  unfold pv_stp
  have e1 : pv_s (.putfield idx) 3 (v :: .ref a :: st) = none := rfl
  have e2 : pv_l (.putfield idx) 3 loc (v :: .ref a :: st) = none := rfl
  have e3 : pv_b (.putfield idx) 3 (v :: .ref a :: st) = none := rfl
  have e4 : pv_h1 y (.putfield idx) 3 (v :: .ref a :: st) (pv_em S) = some (st, pv_em S') := by
    show (match pv_put y idx v a (pv_em S) with
      | some A' => some (st, A')
      | none => none) = _
    rw [h1]
  rw [e1, e2, e3, e4]
theorem pv_Rald {j : Int32} {a N : Nat} {f : Nat → Int32} {S : pv_S} (hd : decode (pv_cd y) pc = .ok (.iaload, 1)) (ha : a < 55) (hA : pv_ce a (S.1 a) (S.2 a) = .inl (0, N, .inl f)) : pv_R y pc loc (.int j :: .ref a :: st) (pv_em S) = if j < 0 ∨ N ≤ j.toNatClampNeg then none else pv_R y (pc + 1) loc (.int (f j.toNatClampNeg) :: st) (pv_em S) := by
  have h2 : (pv_em S).2 a = .inl (0, N, .inl f) := hA
  have e1 : pv_s .iaload 1 (.int j :: .ref a :: st) = none := rfl
  have e2 : pv_l .iaload 1 loc (.int j :: .ref a :: st) = none := rfl
  have e3 : pv_b .iaload 1 (.int j :: .ref a :: st) = none := rfl
  have e4 : pv_h1 y .iaload 1 (.int j :: .ref a :: st) (pv_em S) = if j < 0 ∨ N ≤ j.toNatClampNeg then none else some (.int (f j.toNatClampNeg) :: st, pv_em S) := by
    simp only [pv_h1, if_pos (show a < (pv_em S).1 from ha), h2]
  by_cases q : j < 0 ∨ N ≤ j.toNatClampNeg
  · rw [if_pos q]
    rw [if_pos q] at e4
    refine pv_Rerr hd rfl rfl ?_
    unfold pv_stp
    rw [e1, e2, e3, e4]
    rfl
  · rw [if_neg q]
    rw [if_neg q] at e4
    refine pv_Rstp hd rfl rfl ?_
    unfold pv_stp
    rw [e1, e2, e3, e4]
theorem pv_Rzald {j : Int32} {a N : Nat} {f : Nat → Int32} {S : pv_S} (hd : decode (pv_cd y) pc = .ok (.baload, 1)) (ha : a < 55) (hA : pv_ce a (S.1 a) (S.2 a) = .inl (1, N, .inl f)) : pv_R y pc loc (.int j :: .ref a :: st) (pv_em S) = if j < 0 ∨ N ≤ j.toNatClampNeg then none else pv_R y (pc + 1) loc (.int (f j.toNatClampNeg) :: st) (pv_em S) := by
  have h2 : (pv_em S).2 a = .inl (1, N, .inl f) := hA
  have e1 : pv_s .baload 1 (.int j :: .ref a :: st) = none := rfl
  have e2 : pv_l .baload 1 loc (.int j :: .ref a :: st) = none := rfl
  have e3 : pv_b .baload 1 (.int j :: .ref a :: st) = none := rfl
  have e4 : pv_h1 y .baload 1 (.int j :: .ref a :: st) (pv_em S) = if j < 0 ∨ N ≤ j.toNatClampNeg then none else some (.int (f j.toNatClampNeg) :: st, pv_em S) := by
    simp only [pv_h1, if_pos (show a < (pv_em S).1 from ha), h2]
  by_cases q : j < 0 ∨ N ≤ j.toNatClampNeg
  · rw [if_pos q]
    rw [if_pos q] at e4
    refine pv_Rerr hd rfl rfl ?_
    unfold pv_stp
    rw [e1, e2, e3, e4]
    rfl
  · rw [if_neg q]
    rw [if_neg q] at e4
    refine pv_Rstp hd rfl rfl ?_
    unfold pv_stp
    rw [e1, e2, e3, e4]
theorem pv_Raald {j : Int32} {a N F : Nat} {S : pv_S} (hd : decode (pv_cd y) pc = .ok (.aaload, 1)) (ha : a < 55) (hA : pv_ce a (S.1 a) (S.2 a) = .inl (2, N, .inr F)) : pv_R y pc loc (.int j :: .ref a :: st) (pv_em S) = if j < 0 ∨ N ≤ j.toNatClampNeg then none else pv_R y (pc + 1) loc (.ref (F + j.toNatClampNeg) :: st) (pv_em S) := by
  have h2 : (pv_em S).2 a = .inl (2, N, .inr F) := hA
  have e1 : pv_s .aaload 1 (.int j :: .ref a :: st) = none := rfl
  have e2 : pv_l .aaload 1 loc (.int j :: .ref a :: st) = none := rfl
  have e3 : pv_b .aaload 1 (.int j :: .ref a :: st) = none := rfl
  by_cases q : j < 0 ∨ N ≤ j.toNatClampNeg
  · rw [if_pos q]
    refine pv_Rerr hd rfl rfl ?_
    have e4 : pv_h1 y .aaload 1 (.int j :: .ref a :: st) (pv_em S) = none := by
      simp only [pv_h1, if_pos (show a < (pv_em S).1 from ha), h2, if_pos q]
    unfold pv_stp
    rw [e1, e2, e3, e4]
    rfl
  · rw [if_neg q]
    refine pv_Rstp hd rfl rfl ?_
    have e4 : pv_h1 y .aaload 1 (.int j :: .ref a :: st) (pv_em S) = some (.ref (F + j.toNatClampNeg) :: st, pv_em S) := by
      simp only [pv_h1, if_pos (show a < (pv_em S).1 from ha), h2, if_neg q]
    unfold pv_stp
    rw [e1, e2, e3, e4]
theorem pv_Rast {j v : Int32} {a N : Nat} {f : Nat → Int32} {S S' : pv_S} (hd : decode (pv_cd y) pc = .ok (.iastore, 1)) (ha : a < 55) (hA : pv_ce a (S.1 a) (S.2 a) = .inl (0, N, .inl f)) (hS : ((pv_em S).1, pv_up (pv_em S).2 a (.inl (0, N, .inl (upd f j.toNatClampNeg v)))) = pv_em S') : pv_R y pc loc (.int v :: .int j :: .ref a :: st) (pv_em S) = if j < 0 ∨ N ≤ j.toNatClampNeg then none else pv_R y (pc + 1) loc st (pv_em S') := by
  have h2 : (pv_em S).2 a = .inl (0, N, .inl f) := hA
  have e1 : pv_s .iastore 1 (.int v :: .int j :: .ref a :: st) = none := rfl
  have e2 : pv_l .iastore 1 loc (.int v :: .int j :: .ref a :: st) = none := rfl
  have e3 : pv_b .iastore 1 (.int v :: .int j :: .ref a :: st) = none := rfl
  have e4 : pv_h1 y .iastore 1 (.int v :: .int j :: .ref a :: st) (pv_em S) = if j < 0 ∨ N ≤ j.toNatClampNeg then none else some (st, pv_em S') := by
    simp only [pv_h1, if_pos (show a < (pv_em S).1 from ha), h2, hS]
  by_cases q : j < 0 ∨ N ≤ j.toNatClampNeg
  · rw [if_pos q]
    rw [if_pos q] at e4
    refine pv_Rerr hd rfl rfl ?_
    unfold pv_stp
    rw [e1, e2, e3, e4]
    rfl
  · rw [if_neg q]
    rw [if_neg q] at e4
    refine pv_Rstp hd rfl rfl ?_
    unfold pv_stp
    rw [e1, e2, e3, e4]
theorem pv_Rzast {j v : Int32} {a N : Nat} {f : Nat → Int32} {S S' : pv_S} (hd : decode (pv_cd y) pc = .ok (.bastore, 1)) (ha : a < 55) (hA : pv_ce a (S.1 a) (S.2 a) = .inl (1, N, .inl f)) (hS : ((pv_em S).1, pv_up (pv_em S).2 a (.inl (1, N, .inl (upd f j.toNatClampNeg (vp_nar .boolean v))))) = pv_em S') : pv_R y pc loc (.int v :: .int j :: .ref a :: st) (pv_em S) = if j < 0 ∨ N ≤ j.toNatClampNeg then none else pv_R y (pc + 1) loc st (pv_em S') := by
  have h2 : (pv_em S).2 a = .inl (1, N, .inl f) := hA
  have e1 : pv_s .bastore 1 (.int v :: .int j :: .ref a :: st) = none := rfl
  have e2 : pv_l .bastore 1 loc (.int v :: .int j :: .ref a :: st) = none := rfl
  have e3 : pv_b .bastore 1 (.int v :: .int j :: .ref a :: st) = none := rfl
  have e4 : pv_h1 y .bastore 1 (.int v :: .int j :: .ref a :: st) (pv_em S) = if j < 0 ∨ N ≤ j.toNatClampNeg then none else some (st, pv_em S') := by
    simp only [pv_h1, if_pos (show a < (pv_em S).1 from ha), h2, hS]
  by_cases q : j < 0 ∨ N ≤ j.toNatClampNeg
  · rw [if_pos q]
    rw [if_pos q] at e4
    refine pv_Rerr hd rfl rfl ?_
    unfold pv_stp
    rw [e1, e2, e3, e4]
    rfl
  · rw [if_neg q]
    rw [if_neg q] at e4
    refine pv_Rstp hd rfl rfl ?_
    unfold pv_stp
    rw [e1, e2, e3, e4]
end PV8
