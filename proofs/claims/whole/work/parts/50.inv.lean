/-! ===== what holds between the calls: the class's store and the reference's ===== -/
theorem si_ne {S : pv_S} {k j : Nat} {v : Int32} {k' : Nat} (h : k' ≠ k) : (pv_si S k j v).1 k' = S.1 k' := va_up_ne _ _ h
theorem si_eq {S : pv_S} {k j : Nat} {v : Int32} : (pv_si S k j v).1 k = upd (S.1 k) j v := by simp [pv_si, va_up]
theorem si_2 {S : pv_S} {k j : Nat} {v : Int32} : (pv_si S k j v).2 = S.2 := rfl
theorem sj_1 {S : pv_S} {k j : Nat} {v : Int64} : (pv_sj S k j v).1 = S.1 := rfl
theorem sj_ne {S : pv_S} {k j : Nat} {v : Int64} {k' : Nat} (h : k' ≠ k) : (pv_sj S k j v).2 k' = S.2 k' := va_up_ne _ _ h
theorem sj_eq {S : pv_S} {k j : Nat} {v : Int64} : (pv_sj S k j v).2 k = va_up (S.2 k) j v := by simp [pv_sj, va_up]
theorem upd_eq (f : Nat → Int32) (k : Nat) (x : Int32) : upd f k x k = x := by simp [upd]
theorem upd_ne {f : Nat → Int32} {k j : Nat} {x : Int32} (h : j ≠ k) : upd f k x j = f j := by simp [upd, h]
/-- rows (shelf cells 2, 4 ..; the reference's 38, 39): sizes alike, what lies within them alike -/
def iv_shelf (S : pv_S) (cs cp ms mr n most : Nat) : Prop := ∀ r : Nat, r < n → S.1 ms r = S.1 cs r ∧ -1 ≤ (S.1 cs r).toInt ∧ (S.1 cs r).toInt ≤ (most : Int) ∧ ∀ i : Nat, (i : Int) < (S.1 cs r).toInt → S.1 mr (most * r + i) = S.1 (cp + r) i
abbrev iv_rows (S : pv_S) : Prop := iv_shelf S 2 4 38 39 6 40
abbrev iv_texts (S : pv_S) : Prop := iv_shelf S 11 13 40 41 4 60
/-- what was told beside the answers, and the findings -/
def iv_told (S : pv_S) : Prop := S.1 37 13 = S.1 35 1 ∧ S.2 37 14 = S.2 35 2 ∧ S.2 37 15 = S.2 35 3 ∧ S.1 37 16 = S.1 35 4 ∧ ∀ f : Nat, 1 ≤ f → f ≤ 5 → S.1 48 f = S.1 36 f
/-- a cat's kind: what an hour adds, what a meal adds; weights held within 1 and 200 -/
def tw_held (v : Int32) : Int32 := if v < 1 then 1 else if 200 < v then 200 else v
def tw_adds (kind hour : Int32) : Int32 := if kind = 1 ∨ kind = 4 then (if hour - hour / 2 * 2 = 0 then -1 else 2) else if kind = 2 then (if hour - hour / 4 * 4 = 0 then -2 else -1) else if kind = 3 then 2 else if kind = 5 then 0 else -1
def tw_meal (kind app : Int32) : Int32 := if kind = 3 then app / 2 else if kind = 4 then 2 * app else if kind = 5 then 0 else app
/-- a town's state by places: weights 0 .. 5, hour 6, pence 7, goods 8, the ruler 9; what a deed does to it -/
def tw_act (n : Nat) (kd ap : Nat → Int32) (deed : Int32) (N : Nat → Int32) : Nat → Int32 :=
  if deed < 10 then fun j => if j < n then tw_held (N j + tw_adds (kd j) (N 6)) else if j = 6 then N 6 + 1 else N j
  else if deed < 20 then fun j => if j = (deed - 10).toNatClampNeg then tw_held (N j + tw_meal (kd j) (ap j)) else N j
  else if deed < 30 then fun j => if j = 7 then N 7 - 10 * (deed - 20) else if j = 8 then N 8 + (deed - 20) * N (N 9).toNatClampNeg else N j
  else if deed < 40 then fun j => if j = 7 then N 7 + 10 * (deed - 30) else if j = 8 then N 8 - (deed - 30) * N (N 9).toNatClampNeg else N j
  else fun j => if j = 9 then deed - 40 else N j
def tw_rp (n : Nat) (kd ap fw dl : Nat → Int32) : Nat → Nat → Int32
  | 0 => fun j => if j < n then fw j else 0
  | d + 1 => tw_act n kd ap (dl d) (tw_rp n kd ap fw dl d)
/-- a deed that can stand in the row of deeds -/
def tw_ok (n : Nat) (deed : Int32) : Prop := deed = 0 ∨ (10 ≤ deed.toInt ∧ deed.toInt < 10 + n) ∨ (21 ≤ deed.toInt ∧ deed.toInt ≤ 29) ∨ (31 ≤ deed.toInt ∧ deed.toInt ≤ 39) ∨ (40 ≤ deed.toInt ∧ deed.toInt < 40 + n)
/-- the town: n cats; c deeds -/
def iv_town (S : pv_S) : Prop := ∃ n c : Nat, n ≤ 6 ∧ c ≤ 40 ∧ S.1 21 7 = nI n ∧ S.1 37 4 = nI n ∧ S.1 37 5 = S.1 21 8 ∧ S.1 21 13 = nI c ∧ S.1 37 9 = nI c ∧
  (∀ i : Nat, i < n → S.1 42 i = S.1 22 i ∧ 0 ≤ (S.1 22 i).toInt ∧ (S.1 22 i).toInt ≤ 5 ∧ S.1 43 i = S.1 23 i ∧ 0 ≤ (S.1 23 i).toInt ∧ (S.1 23 i).toInt ≤ 9 ∧ 1 ≤ (S.1 24 i).toInt ∧ (S.1 24 i).toInt ≤ 99) ∧
  (∀ j : Nat, j < 10 → S.1 44 j = tw_rp n (S.1 22) (S.1 23) (S.1 24) (S.1 26) c j) ∧ (∀ i : Nat, i < n → S.1 25 i = S.1 44 i) ∧ S.1 21 9 = S.1 44 6 ∧ S.1 21 11 = S.1 44 7 ∧ S.1 21 12 = S.1 44 8 ∧ S.1 21 10 = S.1 44 9 ∧
  (∀ d : Nat, d < c → tw_ok n (S.1 26 d) ∧ ∀ j : Nat, j < 10 → S.1 45 (10 * d + j) = tw_rp n (S.1 22) (S.1 23) (S.1 24) (S.1 26) d j) ∧
  ∀ k : Nat, k < 3 → (S.1 27 k = -1 ∧ S.1 47 k = 0) ∨ ∃ ck : Nat, ck ≤ 40 ∧ S.1 27 k = nI ck ∧ S.1 47 k = 1 ∧ S.1 46 (411 * k + 410) = nI ck ∧ (∀ j : Nat, j < 10 → S.1 46 (411 * k + j) = tw_rp n (S.1 22) (S.1 23) (S.1 24) (S.1 (29 + k)) ck j) ∧ ∀ d : Nat, d < ck → tw_ok n (S.1 (29 + k) d) ∧ ∀ j : Nat, j < 10 → S.1 46 (411 * k + 10 + (10 * d + j)) = tw_rp n (S.1 22) (S.1 23) (S.1 24) (S.1 (29 + k)) d j
def Inv (S : pv_S) : Prop := iv_rows S ∧ iv_texts S ∧ iv_told S ∧ iv_town S
-- the start is such
set_option maxRecDepth 100000 in
theorem S0_rows : ∀ r, r < 6 → pv_S0.1 2 r = -1 ∧ pv_S0.1 38 r = -1 := by decide +kernel
set_option maxRecDepth 100000 in
theorem S0_texts : ∀ r, r < 4 → pv_S0.1 11 r = -1 ∧ pv_S0.1 40 r = -1 := by decide +kernel
set_option maxRecDepth 100000 in
theorem S0_told : (pv_S0.1 37 13 = pv_S0.1 35 1 ∧ pv_S0.2 37 14 = pv_S0.2 35 2 ∧ pv_S0.2 37 15 = pv_S0.2 35 3 ∧ pv_S0.1 37 16 = pv_S0.1 35 4) ∧ ∀ f, f < 6 → pv_S0.1 48 f = pv_S0.1 36 f := by decide +kernel
set_option maxRecDepth 100000 in
theorem S0_town : (pv_S0.1 21 7 = 0 ∧ pv_S0.1 37 4 = 0 ∧ pv_S0.1 37 5 = pv_S0.1 21 8 ∧ pv_S0.1 21 13 = 0 ∧ pv_S0.1 37 9 = 0) ∧ (∀ j, j < 10 → pv_S0.1 44 j = 0) ∧ (pv_S0.1 21 9 = 0 ∧ pv_S0.1 21 11 = 0 ∧ pv_S0.1 21 12 = 0 ∧ pv_S0.1 21 10 = 0) ∧ ∀ k, k < 3 → pv_S0.1 27 k = -1 ∧ pv_S0.1 47 k = 0 := by decide +kernel
theorem Inv_0 : Inv pv_S0 := by
  have hr := S0_rows
  have ht := S0_texts
  have hd := S0_told
  have hw := S0_town
  generalize pv_S0 = S at hr ht hd hw
  have m1 : (-1 : Int32).toInt = -1 := by decide
  refine ⟨fun r h => ?_, fun r h => ?_, ⟨hd.1.1, hd.1.2.1, hd.1.2.2.1, hd.1.2.2.2, fun f h1 h2 => hd.2 f (by omega)⟩, ?_⟩
  · obtain ⟨h1, h2⟩ := hr r h
    rw [h1, h2, m1]
    exact ⟨rfl, by omega, by omega, fun i hi => by omega⟩
  · obtain ⟨h1, h2⟩ := ht r h
    rw [h1, h2, m1]
    exact ⟨rfl, by omega, by omega, fun i hi => by omega⟩
  · obtain ⟨⟨w1, w2, w3, w4, w5⟩, w6, ⟨w7, w8, w9, w10⟩, w11⟩ := hw
    refine ⟨0, 0, by omega, by omega, w1, w2, w3, w4, w5, fun i hi => by omega, fun j hj => ?_, fun i hi => by omega, by rw [w7, w6 6 (by omega)], by rw [w8, w6 7 (by omega)], by rw [w9, w6 8 (by omega)], by rw [w10, w6 9 (by omega)], fun d hd => by omega, fun k hk => Or.inl (w11 k hk)⟩
    rw [w6 j hj]
    simp [tw_rp]
