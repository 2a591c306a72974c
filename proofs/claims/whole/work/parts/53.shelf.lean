/-! ===== rows and texts ===== -/
theorem sb_i {a b : Int32} (h : -2147483648 ≤ a.toInt - b.toInt) (h2 : a.toInt - b.toInt < 2147483648) : (a - b).toInt = a.toInt - b.toInt := by
  rw [Int32.toInt_sub]
  exact Int.bmod_eq_of_le (by omega) (by omega)
theorem ad_i {a b : Int32} (h : -2147483648 ≤ a.toInt + b.toInt) (h2 : a.toInt + b.toInt < 2147483648) : (a + b).toInt = a.toInt + b.toInt := by
  rw [Int32.toInt_add]
  exact Int.bmod_eq_of_le (by omega) (by omega)
theorem ml_i {a b : Int32} (h : -2147483648 ≤ a.toInt * b.toInt) (h2 : a.toInt * b.toInt < 2147483648) : (a * b).toInt = a.toInt * b.toInt := by
  rw [Int32.toInt_mul]
  exact Int.bmod_eq_of_le (by omega) (by omega)
theorem i40 : (40 : Int32).toInt = 40 := by decide
theorem i60 : (60 : Int32).toInt = 60 := by decide
theorem i3 : (3 : Int32).toInt = 3 := by decide
theorem si_comm {S : pv_S} {k j k' j' : Nat} {v v' : Int32} (h : k ≠ k') : pv_si (pv_si S k j v) k' j' v' = pv_si (pv_si S k' j' v') k j v := by
  unfold pv_si
  refine Prod.ext (funext fun q => ?_) rfl
  simp only [va_up]
  by_cases e1 : q = k'
  · have e2 : ¬ q = k := fun z => h (z.symm.trans e1)
    have e3 : ¬ k' = k := fun z => h z.symm
    simp [e1, e3]
  · by_cases e2 : q = k
    · have e3 : ¬ k = k' := h
      simp [e2, e3]
    · simp [e1, e2]
/-- place i of row r in the reference's one row -/
theorem rix {r i : Int32} {most : Nat} {m : Int32} (hm : m.toInt = (most : Int)) (hm2 : most ≤ 60) (h0 : 0 ≤ r.toInt) (h1 : r.toInt ≤ 5) (h2 : 0 ≤ i.toInt) (h3 : i.toInt < most) : (m * r + i).toInt = most * r.toInt + i.toInt ∧ (m * r + i).toNatClampNeg = most * r.toNatClampNeg + i.toNatClampNeg := by
  have b1 : (most : Int) * r.toInt ≤ most * 5 := Int.mul_le_mul_of_nonneg_left h1 (by omega)
  have b0 : 0 ≤ (most : Int) * r.toInt := Int.mul_nonneg (by omega) h0
  have e1 : (m * r).toInt = most * r.toInt := by
    rw [ml_i (by rw [hm]; omega) (by rw [hm]; omega), hm]
  have e2 : (m * r + i).toInt = most * r.toInt + i.toInt := by
    rw [ad_i (by rw [e1]; omega) (by rw [e1]; omega), e1]
  refine ⟨e2, ?_⟩
  have t1 := tcn (r := m * r + i) (by rw [e2]; omega)
  have t2 := tcn h0
  have t3 := tcn h2
  rw [e2, ← t2, ← t3] at t1
  have : ((m * r + i).toNatClampNeg : Int) = ((most * r.toNatClampNeg + i.toNatClampNeg : Nat) : Int) := by rw [t1]; simp
  exact Int.ofNat.inj this
section SH
variable {S : pv_S}
theorem shelf_set {cs cp ms mr n most r i : Nat} {v : Int32} (hd : cs < cp ∧ cp + n ≤ ms ∧ ms < mr) (I : iv_shelf S cs cp ms mr n most) (hr : r < n) (hi : (i : Int) < (S.1 cs r).toInt) : iv_shelf (pv_si (pv_si S (cp + r) i v) mr (most * r + i) v) cs cp ms mr n most := by
  intro q hq
  obtain ⟨g1, g2, g3, g4⟩ := I q hq
  have e1 : (pv_si (pv_si S (cp + r) i v) mr (most * r + i) v).1 cs = S.1 cs := by rw [si_ne (by omega), si_ne (by omega)]
  have e2 : (pv_si (pv_si S (cp + r) i v) mr (most * r + i) v).1 ms = S.1 ms := by rw [si_ne (by omega), si_ne (by omega)]
  rw [e1, e2]
  refine ⟨g1, g2, g3, fun j hj => ?_⟩
  rw [si_eq, si_ne (k := cp + r) (k' := mr) (by omega), si_ne (k := mr) (k' := cp + q) (by omega)]
  have hI := I r hr
  by_cases e : q = r
  · subst e
    rw [si_eq]
    by_cases e2 : j = i
    · subst e2
      rw [upd_eq, upd_eq]
    · rw [upd_ne (by omega), upd_ne e2]
      exact g4 j hj
  · rw [si_ne (by omega), upd_ne]
    · exact g4 j hj
    · intro z
      have hi' : i < most := by omega
      have hj' : j < most := by omega
      have z2 := congrArg (fun t => t / most) z
      have z2 : (most * q + j) / most = (most * r + i) / most := z2
      rw [Nat.mul_add_div (by omega), Nat.mul_add_div (by omega), Nat.div_eq_of_lt hi', Nat.div_eq_of_lt hj'] at z2
      omega
theorem Inv_lay {r i : Nat} {v : Int32} (I : Inv S) (hr : r < 6) (hi : (i : Int) < (S.1 2 r).toInt) : Inv (pv_si (pv_si S (4 + r) i v) 39 (40 * r + i) v) := by
  obtain ⟨I1, I2, I3, I4⟩ := I
  refine ⟨shelf_set (by omega) I1 hr hi, shelf_congr ?_ (fun q hq => ?_) ?_ ?_ I2, ?_, town_congr (fun k hk => ?_) ?_ ?_ ?_ I4⟩
  · rw [si_ne (by omega), si_ne (by omega)]
  · rw [si_ne (by omega), si_ne (by omega)]
  · rw [si_ne (by omega), si_ne (by omega)]
  · rw [si_ne (by omega), si_ne (by omega)]
  · obtain ⟨t1, t2, t3, t4, t5⟩ := I3
    refine ⟨?_, t2, t3, ?_, fun g g1 g2 => ?_⟩
    · rw [si_ne (k' := 37) (by omega), si_ne (k' := 37) (by omega), si_ne (k' := 35) (by omega), si_ne (k' := 35) (by omega)]; exact t1
    · rw [si_ne (k' := 37) (by omega), si_ne (k' := 37) (by omega), si_ne (k' := 35) (by omega), si_ne (k' := 35) (by omega)]; exact t4
    · rw [si_ne (k' := 48) (by omega), si_ne (k' := 48) (by omega), si_ne (k' := 36) (by omega), si_ne (k' := 36) (by omega)]; exact t5 g g1 g2
  · rw [si_ne (by omega), si_ne (by omega)]
  · rw [si_ne (by omega), si_ne (by omega)]
  · rw [si_ne (by omega), si_ne (by omega)]
  · rw [si_ne (by omega), si_ne (by omega)]
theorem Inv_put {r i : Nat} {v : Int32} (I : Inv S) (hr : r < 4) (hi : (i : Int) < (S.1 11 r).toInt) : Inv (pv_si (pv_si S (13 + r) i v) 41 (60 * r + i) v) := by
  obtain ⟨I1, I2, I3, I4⟩ := I
  refine ⟨shelf_congr ?_ (fun q hq => ?_) ?_ ?_ I1, shelf_set (by omega) I2 hr hi, ?_, town_congr (fun k hk => ?_) ?_ ?_ ?_ I4⟩
  · rw [si_ne (by omega), si_ne (by omega)]
  · rw [si_ne (by omega), si_ne (by omega)]
  · rw [si_ne (by omega), si_ne (by omega)]
  · rw [si_ne (by omega), si_ne (by omega)]
  · obtain ⟨t1, t2, t3, t4, t5⟩ := I3
    refine ⟨?_, t2, t3, ?_, fun g g1 g2 => ?_⟩
    · rw [si_ne (k' := 37) (by omega), si_ne (k' := 37) (by omega), si_ne (k' := 35) (by omega), si_ne (k' := 35) (by omega)]; exact t1
    · rw [si_ne (k' := 37) (by omega), si_ne (k' := 37) (by omega), si_ne (k' := 35) (by omega), si_ne (k' := 35) (by omega)]; exact t4
    · rw [si_ne (k' := 48) (by omega), si_ne (k' := 48) (by omega), si_ne (k' := 36) (by omega), si_ne (k' := 36) (by omega)]; exact t5 g g1 g2
  · rw [si_ne (by omega), si_ne (by omega)]
  · rw [si_ne (by omega), si_ne (by omega)]
  · rw [si_ne (by omega), si_ne (by omega)]
  · rw [si_ne (by omega), si_ne (by omega)]
/-- refusals of the class -/
theorem x_miss_r0 {r : Int32} (h : ¬ (0 ≤ r.toInt ∧ r.toInt ≤ 5)) : pv_R mX6_refuseMissing 0 [some (.ref 0), some (.ref 1), some (.int r)] [] (pv_em S) = some (some (.int (-1)), pv_em S) := by
  simp only [bX6_refuseMissingr_0, bX6_refuseMissingr_5, bX6_refuseMissingr_8, bX6_refuseMissingr_10, bX6_refuseMissingr_15, bX6_refuseMissingr_18, bX6_refuseMissingr_22, bX6_refuseMissingr_30, x_hasNumber_r, pv_cc_some, bI_0, h, not_true_eq_false, not_false_eq_true, if_true, if_false]
theorem x_miss_r1 {r : Int32} (h : 0 ≤ r.toInt ∧ r.toInt ≤ 5) (hs : ¬ 0 ≤ (S.1 2 r.toNatClampNeg).toInt) : pv_R mX6_refuseMissing 0 [some (.ref 0), some (.ref 1), some (.int r)] [] (pv_em S) = some (some (.int (-3)), pv_em (xf S 1)) := by
  simp only [bX6_refuseMissingr_0, bX6_refuseMissingr_5, bX6_refuseMissingr_8, bX6_refuseMissingr_10, bX6_refuseMissingr_15, bX6_refuseMissingr_18, bX6_refuseMissingr_22, bX6_refuseMissingr_30, x_hasNumber_r, x_isThere_r h.1 h.2, x_find_1, pv_cc_some, bI_0, h, hs, and_self, not_true_eq_false, not_false_eq_true, if_true, if_false]
theorem x_miss_r2 {r : Int32} (h : 0 ≤ r.toInt ∧ r.toInt ≤ 5) (hs : 0 ≤ (S.1 2 r.toNatClampNeg).toInt) : pv_R mX6_refuseMissing 0 [some (.ref 0), some (.ref 1), some (.int r)] [] (pv_em S) = some (some (.int 0), pv_em S) := by
  simp only [bX6_refuseMissingr_0, bX6_refuseMissingr_5, bX6_refuseMissingr_8, bX6_refuseMissingr_10, bX6_refuseMissingr_15, bX6_refuseMissingr_18, bX6_refuseMissingr_22, bX6_refuseMissingr_30, x_hasNumber_r, x_isThere_r h.1 h.2, pv_cc_some, bI_0, h, hs, and_self, not_true_eq_false, not_false_eq_true, if_true, if_false]
theorem x_miss_t0 {r : Int32} (h : ¬ (0 ≤ r.toInt ∧ r.toInt ≤ 3)) : pv_R mX6_refuseMissing 0 [some (.ref 0), some (.ref 10), some (.int r)] [] (pv_em S) = some (some (.int (-1)), pv_em S) := by
  simp only [bX6_refuseMissingt_0, bX6_refuseMissingt_5, bX6_refuseMissingt_8, bX6_refuseMissingt_10, bX6_refuseMissingt_15, bX6_refuseMissingt_18, bX6_refuseMissingt_22, bX6_refuseMissingt_30, x_hasNumber_t, pv_cc_some, bI_0, h, not_true_eq_false, not_false_eq_true, if_true, if_false]
theorem x_miss_t1 {r : Int32} (h : 0 ≤ r.toInt ∧ r.toInt ≤ 3) (hs : ¬ 0 ≤ (S.1 11 r.toNatClampNeg).toInt) : pv_R mX6_refuseMissing 0 [some (.ref 0), some (.ref 10), some (.int r)] [] (pv_em S) = some (some (.int (-3)), pv_em (xf S 1)) := by
  simp only [bX6_refuseMissingt_0, bX6_refuseMissingt_5, bX6_refuseMissingt_8, bX6_refuseMissingt_10, bX6_refuseMissingt_15, bX6_refuseMissingt_18, bX6_refuseMissingt_22, bX6_refuseMissingt_30, x_hasNumber_t, x_isThere_t h.1 h.2, x_find_1, pv_cc_some, bI_0, h, hs, and_self, not_true_eq_false, not_false_eq_true, if_true, if_false]
theorem x_miss_t2 {r : Int32} (h : 0 ≤ r.toInt ∧ r.toInt ≤ 3) (hs : 0 ≤ (S.1 11 r.toNatClampNeg).toInt) : pv_R mX6_refuseMissing 0 [some (.ref 0), some (.ref 10), some (.int r)] [] (pv_em S) = some (some (.int 0), pv_em S) := by
  simp only [bX6_refuseMissingt_0, bX6_refuseMissingt_5, bX6_refuseMissingt_8, bX6_refuseMissingt_10, bX6_refuseMissingt_15, bX6_refuseMissingt_18, bX6_refuseMissingt_22, bX6_refuseMissingt_30, x_hasNumber_t, x_isThere_t h.1 h.2, pv_cc_some, bI_0, h, hs, and_self, not_true_eq_false, not_false_eq_true, if_true, if_false]
theorem x_run_r {r i n : Int32} (h0 : 0 ≤ r.toInt) (h1 : r.toInt ≤ 5) (hs : 0 ≤ (S.1 2 r.toNatClampNeg).toInt) (hs2 : (S.1 2 r.toNatClampNeg).toInt ≤ 40) (hn : 0 ≤ n.toInt) : pv_R mX3_hasRun 0 [some (.ref 1), some (.int r), some (.int i), some (.int n)] [] (pv_em S) = some (some (.int (bI (0 ≤ i.toInt ∧ i.toInt + n.toInt ≤ (S.1 2 r.toNatClampNeg).toInt))), pv_em S) := by
  have hx := ixn (r := r) (n := 6) h0 (by omega)
  have h32 := n.toInt_lt
  have e1 : (S.1 2 r.toNatClampNeg - n).toInt = (S.1 2 r.toNatClampNeg).toInt - n.toInt := sb_i (by omega) (by omega)
  rw [bX3_hasRunr_0, bX3_hasRunr_4, if_neg hx, bX3_hasRunr_14, if_neg hx]
  simp only [bX3_hasRunr_26, bX3_hasRunr_30, bX3_hasRunr_31, vn0, vn1, if_true, Int32.lt_iff_toInt_lt, i0, e1]
  by_cases h : 0 ≤ i.toInt ∧ i.toInt + n.toInt ≤ (S.1 2 r.toNatClampNeg).toInt
  · rw [bI_t h, if_neg (by omega), if_neg (by omega), if_neg (by omega)]
  · rw [bI_f h]
    by_cases g1 : i.toInt < 0
    · rw [if_pos g1]
    · rw [if_neg g1]
      by_cases g2 : (S.1 2 r.toNatClampNeg).toInt < n.toInt
      · rw [if_pos g2]
      · rw [if_neg g2, if_pos (by omega)]
theorem x_run_t {r i n : Int32} (h0 : 0 ≤ r.toInt) (h1 : r.toInt ≤ 3) (hs : 0 ≤ (S.1 11 r.toNatClampNeg).toInt) (hs2 : (S.1 11 r.toNatClampNeg).toInt ≤ 60) (hn : 0 ≤ n.toInt) : pv_R mX3_hasRun 0 [some (.ref 10), some (.int r), some (.int i), some (.int n)] [] (pv_em S) = some (some (.int (bI (0 ≤ i.toInt ∧ i.toInt + n.toInt ≤ (S.1 11 r.toNatClampNeg).toInt))), pv_em S) := by
  have hx := ixn (r := r) (n := 4) h0 (by omega)
  have h32 := n.toInt_lt
  have e1 : (S.1 11 r.toNatClampNeg - n).toInt = (S.1 11 r.toNatClampNeg).toInt - n.toInt := sb_i (by omega) (by omega)
  rw [bX3_hasRunt_0, bX3_hasRunt_4, if_neg hx, bX3_hasRunt_14, if_neg hx]
  simp only [bX3_hasRunt_26, bX3_hasRunt_30, bX3_hasRunt_31, vn0, vn1, if_true, Int32.lt_iff_toInt_lt, i0, e1]
  by_cases h : 0 ≤ i.toInt ∧ i.toInt + n.toInt ≤ (S.1 11 r.toNatClampNeg).toInt
  · rw [bI_t h, if_neg (by omega), if_neg (by omega), if_neg (by omega)]
  · rw [bI_f h]
    by_cases g1 : i.toInt < 0
    · rw [if_pos g1]
    · rw [if_neg g1]
      by_cases g2 : (S.1 11 r.toNatClampNeg).toInt < n.toInt
      · rw [if_pos g2]
      · rw [if_neg g2, if_pos (by omega)]
end SH
