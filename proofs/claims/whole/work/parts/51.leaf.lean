/-! ===== small methods, summed up ===== -/
theorem vn0 : vp_nar .boolean 0 = 0 := by decide +kernel
theorem vn1 : vp_nar .boolean 1 = 1 := by decide +kernel
/-- a boolean as the machine has it -/
def bI (c : Prop) [Decidable c] : Int32 := if c then 1 else 0
theorem bI_t {c : Prop} {d : Decidable c} (h : c) : bI c = 1 := if_pos h
theorem bI_f {c : Prop} {d : Decidable c} (h : ¬ c) : bI c = 0 := if_neg h
theorem bI_0 {c : Prop} {d : Decidable c} : (bI c = 0) = ¬ c := by
  by_cases h : c
  · rw [bI_t h]; simp [h]
  · rw [bI_f h]; simp [h]
theorem vnb {c : Prop} {d : Decidable c} : vp_nar .boolean (bI c) = bI c := by
  by_cases h : c
  · rw [bI_t h]; exact vn1
  · rw [bI_f h]; exact vn0
theorem lg_lt0 (x y : Int64) : (lg_cmp x y < 0) = (x.toInt < y.toInt) := by
  unfold lg_cmp
  simp only [gt_iff_lt, Int64.lt_iff_toInt_lt, ← Int64.toInt_inj]
  by_cases h1 : y.toInt < x.toInt
  · rw [if_pos h1]; simp; omega
  · rw [if_neg h1]
    by_cases h2 : x.toInt = y.toInt
    · rw [if_pos h2]; simp; omega
    · rw [if_neg h2]; simp; omega
theorem lg_gt0 (x y : Int64) : (0 < lg_cmp x y) = (y.toInt < x.toInt) := by
  unfold lg_cmp
  simp only [gt_iff_lt, Int64.lt_iff_toInt_lt, ← Int64.toInt_inj]
  by_cases h1 : y.toInt < x.toInt
  · rw [if_pos h1]; simp; omega
  · rw [if_neg h1]
    by_cases h2 : x.toInt = y.toInt
    · rw [if_pos h2]; simp; omega
    · rw [if_neg h2]; simp; omega
section LF
variable {S : pv_S}
theorem c_in {x0 x2 x4 : Int64} {a1 a3 a5 : Option Value} : pv_R mX7_in 0 [some (.long x0), a1, some (.long x2), a3, some (.long x4), a5] [] (pv_em S) = some (some (.int (bI (x2.toInt ≤ x0.toInt ∧ x0.toInt ≤ x4.toInt))), pv_em S) := by
  simp only [bX7_in_0, bX7_in_6, bX7_in_13, bX7_in_17, bX7_in_18, lg_lt0, lg_gt0, vn0, vn1, if_true]
  by_cases h : x2.toInt ≤ x0.toInt ∧ x0.toInt ≤ x4.toInt
  · rw [bI_t h, if_neg (by omega), if_neg (by omega)]
  · rw [bI_f h]
    by_cases h1 : x0.toInt < x2.toInt
    · rw [if_pos h1]
    · rw [if_neg h1, if_pos (by omega)]
theorem c_isRow {r : Int32} : pv_R mX7_isRow 0 [some (.int r)] [] (pv_em S) = some (some (.int (bI (0 ≤ r.toInt ∧ r.toInt ≤ 5))), pv_em S) := by
  simp only [bX7_isRow_0, bX7_isRow_9, c_in, pv_cc_some, vnb, if_true, Int32.toInt_toInt64]
  rfl
theorem c_isText {r : Int32} : pv_R mX7_isText 0 [some (.int r)] [] (pv_em S) = some (some (.int (bI (0 ≤ r.toInt ∧ r.toInt ≤ 3))), pv_em S) := by
  simp only [bX7_isText_0, bX7_isText_9, c_in, pv_cc_some, vnb, if_true, Int32.toInt_toInt64]
  rfl
theorem x_within {a b c : Int32} : pv_R mX6_isWithin 0 [some (.int a), some (.int b), some (.int c)] [] (pv_em S) = some (some (.int (bI (b.toInt ≤ a.toInt ∧ a.toInt ≤ c.toInt))), pv_em S) := by
  simp only [bX6_isWithin_0, bX6_isWithin_5, bX6_isWithin_10, bX6_isWithin_14, bX6_isWithin_15, vn0, vn1, if_true, Int32.lt_iff_toInt_lt]
  by_cases h : b.toInt ≤ a.toInt ∧ a.toInt ≤ c.toInt
  · rw [bI_t h, if_neg (by omega), if_neg (by omega)]
  · rw [bI_f h]
    by_cases h1 : a.toInt < b.toInt
    · rw [if_pos h1]
    · rw [if_neg h1, if_pos (by omega)]
theorem tcn {r : Int32} (h : 0 ≤ r.toInt) : (r.toNatClampNeg : Int) = r.toInt := by
  show ((r.toInt.toNat : Nat) : Int) = r.toInt
  omega
/-- an index within its row -/
theorem ixn {r : Int32} {n : Nat} (h0 : 0 ≤ r.toInt) (h1 : r.toInt < n) : ¬ (r < 0 ∨ n ≤ r.toNatClampNeg) := by
  rw [Int32.lt_iff_toInt_lt, Int32.toInt_zero]
  have := tcn h0
  omega
theorem j0 : (0 : Int64).toInt = 0 := by decide
theorem j1 : (1 : Int64).toInt = 1 := by decide
theorem j3 : (3 : Int64).toInt = 3 := by decide
theorem j4 : (4 : Int64).toInt = 4 := by decide
theorem j5 : (5 : Int64).toInt = 5 := by decide
theorem i6 : (6 : Int32).toInt = 6 := by decide
theorem i4 : (4 : Int32).toInt = 4 := by decide
theorem i0 : (0 : Int32).toInt = 0 := by decide
theorem i1 : (1 : Int32).toInt = 1 := by decide
theorem i2 : (2 : Int32).toInt = 2 := by decide
theorem i5 : (5 : Int32).toInt = 5 := by decide
theorem x_hasNumber_r {r : Int32} : pv_R mX3_hasNumber 0 [some (.ref 1), some (.int r)] [] (pv_em S) = some (some (.int (bI (0 ≤ r.toInt ∧ r.toInt ≤ 5))), pv_em S) := by
  simp only [bX3_hasNumberr_0, bX3_hasNumberr_4, bX3_hasNumberr_13, bX3_hasNumberr_17, bX3_hasNumberr_18, vn0, vn1, if_true, Int32.lt_iff_toInt_lt, Int32.le_iff_toInt_le, i6, i0]
  by_cases h : 0 ≤ r.toInt ∧ r.toInt ≤ 5
  · rw [bI_t h, if_neg (by omega), if_neg (by omega)]
  · rw [bI_f h]
    by_cases h1 : r.toInt < 0
    · rw [if_pos h1]
    · rw [if_neg h1, if_pos (by omega)]
theorem x_hasNumber_t {r : Int32} : pv_R mX3_hasNumber 0 [some (.ref 10), some (.int r)] [] (pv_em S) = some (some (.int (bI (0 ≤ r.toInt ∧ r.toInt ≤ 3))), pv_em S) := by
  simp only [bX3_hasNumbert_0, bX3_hasNumbert_4, bX3_hasNumbert_13, bX3_hasNumbert_17, bX3_hasNumbert_18, vn0, vn1, if_true, Int32.lt_iff_toInt_lt, Int32.le_iff_toInt_le, i4, i0]
  by_cases h : 0 ≤ r.toInt ∧ r.toInt ≤ 3
  · rw [bI_t h, if_neg (by omega), if_neg (by omega)]
  · rw [bI_f h]
    by_cases h1 : r.toInt < 0
    · rw [if_pos h1]
    · rw [if_neg h1, if_pos (by omega)]
theorem x_isThere_r {r : Int32} (h0 : 0 ≤ r.toInt) (h1 : r.toInt ≤ 5) : pv_R mX3_isThere 0 [some (.ref 1), some (.int r)] [] (pv_em S) = some (some (.int (bI (0 ≤ (S.1 2 r.toNatClampNeg).toInt))), pv_em S) := by
  rw [bX3_isTherer_0, if_neg (ixn (n := 6) h0 (by omega))]
  simp only [bX3_isTherer_0, bX3_isTherer_9, bX3_isTherer_13, bX3_isTherer_14, vn0, vn1, if_true, Int32.lt_iff_toInt_lt, i0]
  by_cases h : 0 ≤ (S.1 2 r.toNatClampNeg).toInt
  · rw [bI_t h, if_neg (by omega)]
  · rw [bI_f h, if_pos (by omega)]
theorem x_isThere_t {r : Int32} (h0 : 0 ≤ r.toInt) (h1 : r.toInt ≤ 3) : pv_R mX3_isThere 0 [some (.ref 10), some (.int r)] [] (pv_em S) = some (some (.int (bI (0 ≤ (S.1 11 r.toNatClampNeg).toInt))), pv_em S) := by
  rw [bX3_isTheret_0, if_neg (ixn (n := 4) h0 (by omega))]
  simp only [bX3_isTheret_0, bX3_isTheret_9, bX3_isTheret_13, bX3_isTheret_14, vn0, vn1, if_true, Int32.lt_iff_toInt_lt, i0]
  by_cases h : 0 ≤ (S.1 11 r.toNatClampNeg).toInt
  · rw [bI_t h, if_neg (by omega)]
  · rw [bI_f h, if_pos (by omega)]
/-- a finding: of the class, of the reference -/
def xf (S : pv_S) (f : Nat) : pv_S := pv_si (pv_si S 35 4 (nI f)) 36 f (S.1 36 f + 1)
def mf (S : pv_S) (f : Nat) : pv_S := pv_si (pv_si S 37 16 (nI f)) 48 f (S.1 48 f + 1)
theorem x_find_1 : pv_R mX4_answerFinding 0 [some (.ref 35), some (.int 1)] [] (pv_em S) = some (some (.int (-3)), pv_em (xf S 1)) := by
  simp only [bX4_answerFinding_0, bX4_answerFinding_10, bX4_answerFinding_15, bX4_answerFinding_25]
  rfl
theorem x_find_2 : pv_R mX4_answerFinding 0 [some (.ref 35), some (.int 2)] [] (pv_em S) = some (some (.int (-3)), pv_em (xf S 2)) := by
  simp only [bX4_answerFinding_0, bX4_answerFinding_10, bX4_answerFinding_15, bX4_answerFinding_25]
  rfl
theorem x_find_3 : pv_R mX4_answerFinding 0 [some (.ref 35), some (.int 3)] [] (pv_em S) = some (some (.int (-3)), pv_em (xf S 3)) := by
  simp only [bX4_answerFinding_0, bX4_answerFinding_10, bX4_answerFinding_15, bX4_answerFinding_25]
  rfl
theorem x_find_4 : pv_R mX4_answerFinding 0 [some (.ref 35), some (.int 4)] [] (pv_em S) = some (some (.int (-3)), pv_em (xf S 4)) := by
  simp only [bX4_answerFinding_0, bX4_answerFinding_10, bX4_answerFinding_15, bX4_answerFinding_25]
  rfl
theorem x_find_5 : pv_R mX4_answerFinding 0 [some (.ref 35), some (.int 5)] [] (pv_em S) = some (some (.int (-3)), pv_em (xf S 5)) := by
  simp only [bX4_answerFinding_0, bX4_answerFinding_10, bX4_answerFinding_15, bX4_answerFinding_25]
  rfl
theorem m_find_1 : pv_R mX7_found 0 [some (.ref 37), some (.int 1)] [] (pv_em S) = some (some (.int (-3)), pv_em (mf S 1)) := by
  simp only [bX7_found_0]
  rfl
theorem m_find_2 : pv_R mX7_found 0 [some (.ref 37), some (.int 2)] [] (pv_em S) = some (some (.int (-3)), pv_em (mf S 2)) := by
  simp only [bX7_found_0]
  rfl
theorem m_find_3 : pv_R mX7_found 0 [some (.ref 37), some (.int 3)] [] (pv_em S) = some (some (.int (-3)), pv_em (mf S 3)) := by
  simp only [bX7_found_0]
  rfl
theorem m_find_4 : pv_R mX7_found 0 [some (.ref 37), some (.int 4)] [] (pv_em S) = some (some (.int (-3)), pv_em (mf S 4)) := by
  simp only [bX7_found_0]
  rfl
theorem m_find_5 : pv_R mX7_found 0 [some (.ref 37), some (.int 5)] [] (pv_em S) = some (some (.int (-3)), pv_em (mf S 5)) := by
  simp only [bX7_found_0]
  rfl
end LF
