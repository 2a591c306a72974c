/-! ===== lay, at, tear, put ===== -/
theorem n0m1 : ((-1 : Int32) = 0) = False := by decide +kernel
theorem n0m3 : ((-3 : Int32) = 0) = False := by decide +kernel
theorem n0p1 : ((1 : Int32) = 0) = False := by decide +kernel
section LY
variable {S : pv_S}
theorem xf_ne {k f : Nat} (h1 : k ≠ 35) (h2 : k ≠ 36) : (xf S f).1 k = S.1 k := by unfold xf; rw [si_ne h2, si_ne h1]
theorem x_place_r0 {r i : Int32} {a : Option Value} (h : ¬ (0 ≤ r.toInt ∧ r.toInt ≤ 5)) : pv_R mX6_refusePlace 0 [some (.ref 0), some (.ref 1), some (.int r), some (.int i), a] [] (pv_em S) = some (some (.int (-1)), pv_em S) := by
  simp only [bX6_refusePlacer_0, bX6_refusePlacer_6, bX6_refusePlacer_13, bX6_refusePlacer_16, bX6_refusePlacer_23, bX6_refusePlacer_26, bX6_refusePlacer_30, bX6_refusePlacer_38, x_miss_r0 h, pv_cc_some, n0m1, if_false]
theorem x_place_r1 {r i : Int32} {a : Option Value} (h : 0 ≤ r.toInt ∧ r.toInt ≤ 5) (hs : ¬ 0 ≤ (S.1 2 r.toNatClampNeg).toInt) : pv_R mX6_refusePlace 0 [some (.ref 0), some (.ref 1), some (.int r), some (.int i), a] [] (pv_em S) = some (some (.int (-3)), pv_em (xf S 1)) := by
  simp only [bX6_refusePlacer_0, bX6_refusePlacer_6, bX6_refusePlacer_13, bX6_refusePlacer_16, bX6_refusePlacer_23, bX6_refusePlacer_26, bX6_refusePlacer_30, bX6_refusePlacer_38, x_miss_r1 h hs, pv_cc_some, n0m3, if_false]
theorem x_place_r2 {r i : Int32} {a : Option Value} (h : 0 ≤ r.toInt ∧ r.toInt ≤ 5) (hs : 0 ≤ (S.1 2 r.toNatClampNeg).toInt) (hs2 : (S.1 2 r.toNatClampNeg).toInt ≤ 40) (hi : ¬ (0 ≤ i.toInt ∧ i.toInt + 1 ≤ (S.1 2 r.toNatClampNeg).toInt)) : pv_R mX6_refusePlace 0 [some (.ref 0), some (.ref 1), some (.int r), some (.int i), a] [] (pv_em S) = some (some (.int (-3)), pv_em (xf S 2)) := by
  simp only [bX6_refusePlacer_0, bX6_refusePlacer_6, bX6_refusePlacer_13, bX6_refusePlacer_16, bX6_refusePlacer_23, bX6_refusePlacer_26, bX6_refusePlacer_30, bX6_refusePlacer_38, x_miss_r2 h hs, x_run_r h.1 h.2 hs hs2 (show 0 ≤ (1 : Int32).toInt by decide), x_find_2, pv_cc_some, bI_0, i1, hi, not_false_eq_true, if_true]
theorem x_place_r3 {r i : Int32} {a : Option Value} (h : 0 ≤ r.toInt ∧ r.toInt ≤ 5) (hs : 0 ≤ (S.1 2 r.toNatClampNeg).toInt) (hs2 : (S.1 2 r.toNatClampNeg).toInt ≤ 40) (hi : 0 ≤ i.toInt ∧ i.toInt + 1 ≤ (S.1 2 r.toNatClampNeg).toInt) : pv_R mX6_refusePlace 0 [some (.ref 0), some (.ref 1), some (.int r), some (.int i), a] [] (pv_em S) = some (some (.int 0), pv_em S) := by
  simp only [bX6_refusePlacer_0, bX6_refusePlacer_6, bX6_refusePlacer_13, bX6_refusePlacer_16, bX6_refusePlacer_23, bX6_refusePlacer_26, bX6_refusePlacer_30, bX6_refusePlacer_38, x_miss_r2 h hs, x_run_r h.1 h.2 hs hs2 (show 0 ≤ (1 : Int32).toInt by decide), pv_cc_some, bI_0, i1, hi, and_self, not_true_eq_false, if_true, if_false]
theorem x_place_t0 {r i : Int32} {a : Option Value} (h : ¬ (0 ≤ r.toInt ∧ r.toInt ≤ 3)) : pv_R mX6_refusePlace 0 [some (.ref 0), some (.ref 10), some (.int r), some (.int i), a] [] (pv_em S) = some (some (.int (-1)), pv_em S) := by
  simp only [bX6_refusePlacet_0, bX6_refusePlacet_6, bX6_refusePlacet_13, bX6_refusePlacet_16, bX6_refusePlacet_23, bX6_refusePlacet_26, bX6_refusePlacet_30, bX6_refusePlacet_38, x_miss_t0 h, pv_cc_some, n0m1, if_false]
theorem x_place_t1 {r i : Int32} {a : Option Value} (h : 0 ≤ r.toInt ∧ r.toInt ≤ 3) (hs : ¬ 0 ≤ (S.1 11 r.toNatClampNeg).toInt) : pv_R mX6_refusePlace 0 [some (.ref 0), some (.ref 10), some (.int r), some (.int i), a] [] (pv_em S) = some (some (.int (-3)), pv_em (xf S 1)) := by
  simp only [bX6_refusePlacet_0, bX6_refusePlacet_6, bX6_refusePlacet_13, bX6_refusePlacet_16, bX6_refusePlacet_23, bX6_refusePlacet_26, bX6_refusePlacet_30, bX6_refusePlacet_38, x_miss_t1 h hs, pv_cc_some, n0m3, if_false]
theorem x_place_t2 {r i : Int32} {a : Option Value} (h : 0 ≤ r.toInt ∧ r.toInt ≤ 3) (hs : 0 ≤ (S.1 11 r.toNatClampNeg).toInt) (hs2 : (S.1 11 r.toNatClampNeg).toInt ≤ 60) (hi : ¬ (0 ≤ i.toInt ∧ i.toInt + 1 ≤ (S.1 11 r.toNatClampNeg).toInt)) : pv_R mX6_refusePlace 0 [some (.ref 0), some (.ref 10), some (.int r), some (.int i), a] [] (pv_em S) = some (some (.int (-3)), pv_em (xf S 2)) := by
  simp only [bX6_refusePlacet_0, bX6_refusePlacet_6, bX6_refusePlacet_13, bX6_refusePlacet_16, bX6_refusePlacet_23, bX6_refusePlacet_26, bX6_refusePlacet_30, bX6_refusePlacet_38, x_miss_t2 h hs, x_run_t h.1 h.2 hs hs2 (show 0 ≤ (1 : Int32).toInt by decide), x_find_2, pv_cc_some, bI_0, i1, hi, not_false_eq_true, if_true]
theorem x_place_t3 {r i : Int32} {a : Option Value} (h : 0 ≤ r.toInt ∧ r.toInt ≤ 3) (hs : 0 ≤ (S.1 11 r.toNatClampNeg).toInt) (hs2 : (S.1 11 r.toNatClampNeg).toInt ≤ 60) (hi : 0 ≤ i.toInt ∧ i.toInt + 1 ≤ (S.1 11 r.toNatClampNeg).toInt) : pv_R mX6_refusePlace 0 [some (.ref 0), some (.ref 10), some (.int r), some (.int i), a] [] (pv_em S) = some (some (.int 0), pv_em S) := by
  simp only [bX6_refusePlacet_0, bX6_refusePlacet_6, bX6_refusePlacet_13, bX6_refusePlacet_16, bX6_refusePlacet_23, bX6_refusePlacet_26, bX6_refusePlacet_30, bX6_refusePlacet_38, x_miss_t2 h hs, x_run_t h.1 h.2 hs hs2 (show 0 ≤ (1 : Int32).toInt by decide), pv_cc_some, bI_0, i1, hi, and_self, not_true_eq_false, if_true, if_false]
theorem tq_at (I : Inv S) (r i : Int32) : pv_goI Inv S mX6_at mX7_at [.int r, .int i] := by
  by_cases hr : 0 ≤ r.toInt ∧ r.toInt ≤ 5
  · have hx := ixn (r := r) (n := 6) hr.1 (by omega)
    have tr := tcn hr.1
    obtain ⟨g1, g2, g3, g4⟩ := I.1 r.toNatClampNeg (by omega)
    by_cases hs : 0 ≤ (S.1 2 r.toNatClampNeg).toInt
    · have e1 : (S.1 2 r.toNatClampNeg - 1).toInt = (S.1 2 r.toNatClampNeg).toInt - 1 := by rw [sb_i (by rw [i1]; omega) (by rw [i1]; omega), i1]
      by_cases hi : 0 ≤ i.toInt ∧ i.toInt + 1 ≤ (S.1 2 r.toNatClampNeg).toInt
      · have ti := tcn hi.1
        have hj := ixn (r := i) (n := 40) hi.1 (by omega)
        obtain ⟨q1, q2⟩ := rix (r := r) (i := i) (most := 40) i40 (by omega) hr.1 hr.2 hi.1 (by omega)
        have hk := ixn (r := 40 * r + i) (n := 240) (by rw [q1]; omega) (by rw [q1]; omega)
        rw [q2] at hk
        have hi2 : 0 ≤ i.toInt ∧ i.toInt ≤ (S.1 2 r.toNatClampNeg).toInt - 1 := ⟨hi.1, by omega⟩
        refine ⟨1, pv_si S 35 1 (S.1 (4 + r.toNatClampNeg) i.toNatClampNeg), _, ?_, ?_, Inv_asked (v := S.1 (4 + r.toNatClampNeg) i.toNatClampNeg) I⟩
        · show pv_R mX6_at 0 [some (.ref 0), some (.int r), some (.int i), none] [] (pv_em S) = _
          simp only [bX6_at_0, bX6_at_10, bX6_at_15, bX6_at_17, bX6_at_30, bX3_getr_0, x_place_r3 hr hs g3 hi, pv_cc_some, hx, hj, if_true, if_false]
        · show pv_R mX7_at 0 [some (.ref 37), some (.int r), some (.int i)] [] (pv_em _) = _
          simp only [bX7_at_0, bX7_at_4, bX7_at_7, bX7_at_9, bX7_at_18, bX7_at_23, bX7_at_24, bX7_at_39, bX7_at_42, bX7_at_57, bX7_at_60, bX7_at_65, bX7_tell_0, c_isRow, c_in, pv_cc_some, bI_0, hr, hx, hk, q2, si_ne (S := S) (k := 35) (k' := 38) (by decide), si_ne (S := S) (k := 35) (k' := 39) (by decide), g1, hs, e1, hi2, Int32.le_iff_toInt_le, Int32.toInt_toInt64, i0, j0, and_self, not_true_eq_false, not_false_eq_true, if_true, if_false, g4 i.toNatClampNeg (by omega)]
      · have hi2 : ¬ (0 ≤ i.toInt ∧ i.toInt ≤ (S.1 2 r.toNatClampNeg).toInt - 1) := by omega
        refine ⟨-3, xf S 2, _, ?_, ?_, Inv_find (f := 2) I (by omega) (by omega)⟩
        · show pv_R mX6_at 0 [some (.ref 0), some (.int r), some (.int i), none] [] (pv_em S) = _
          simp only [bX6_at_0, bX6_at_10, bX6_at_15, bX6_at_17, bX6_at_30, x_place_r2 hr hs g3 hi, pv_cc_some, n0m3, if_true, if_false]
        · show pv_R mX7_at 0 [some (.ref 37), some (.int r), some (.int i)] [] (pv_em _) = _
          simp only [bX7_at_0, bX7_at_4, bX7_at_7, bX7_at_9, bX7_at_18, bX7_at_23, bX7_at_24, bX7_at_39, bX7_at_42, bX7_at_57, bX7_at_60, bX7_at_65, c_isRow, c_in, m_find_2, pv_cc_some, bI_0, hr, hx, xf_ne (S := S) (k := 38) (by decide) (by decide), g1, hs, e1, hi2, Int32.le_iff_toInt_le, Int32.toInt_toInt64, i0, j0, and_self, not_true_eq_false, not_false_eq_true, if_true, if_false]
    · refine ⟨-3, xf S 1, _, ?_, ?_, Inv_find (f := 1) I (by omega) (by omega)⟩
      · show pv_R mX6_at 0 [some (.ref 0), some (.int r), some (.int i), none] [] (pv_em S) = _
        simp only [bX6_at_0, bX6_at_10, bX6_at_15, bX6_at_17, bX6_at_30, x_place_r1 hr hs, pv_cc_some, n0m3, if_true, if_false]
      · show pv_R mX7_at 0 [some (.ref 37), some (.int r), some (.int i)] [] (pv_em _) = _
        simp only [bX7_at_0, bX7_at_4, bX7_at_7, bX7_at_9, bX7_at_18, bX7_at_23, bX7_at_24, bX7_at_39, bX7_at_42, bX7_at_57, bX7_at_60, bX7_at_65, c_isRow, m_find_1, pv_cc_some, bI_0, hr, hx, xf_ne (S := S) (k := 38) (by decide) (by decide), g1, hs, Int32.le_iff_toInt_le, i0, and_self, not_true_eq_false, not_false_eq_true, if_true, if_false]
  · refine ⟨-1, S, S, ?_, ?_, I⟩
    · show pv_R mX6_at 0 [some (.ref 0), some (.int r), some (.int i), none] [] (pv_em S) = _
      simp only [bX6_at_0, bX6_at_10, bX6_at_15, bX6_at_17, bX6_at_30, x_place_r0 hr, pv_cc_some, n0m1, if_true, if_false]
    · show pv_R mX7_at 0 [some (.ref 37), some (.int r), some (.int i)] [] (pv_em _) = _
      simp only [bX7_at_0, bX7_at_4, bX7_at_7, bX7_at_9, bX7_at_18, bX7_at_23, bX7_at_24, bX7_at_39, bX7_at_42, bX7_at_57, bX7_at_60, bX7_at_65, c_isRow, pv_cc_some, bI_0, hr, not_true_eq_false, not_false_eq_true, if_true, if_false]
theorem tq_lay (I : Inv S) (r i v : Int32) : pv_goI Inv S mX6_lay mX7_lay [.int r, .int i, .int v] := by
  by_cases hr : 0 ≤ r.toInt ∧ r.toInt ≤ 5
  · have hx := ixn (r := r) (n := 6) hr.1 (by omega)
    have tr := tcn hr.1
    obtain ⟨g1, g2, g3, g4⟩ := I.1 r.toNatClampNeg (by omega)
    by_cases hs : 0 ≤ (S.1 2 r.toNatClampNeg).toInt
    · have e1 : (S.1 2 r.toNatClampNeg - 1).toInt = (S.1 2 r.toNatClampNeg).toInt - 1 := by rw [sb_i (by rw [i1]; omega) (by rw [i1]; omega), i1]
      by_cases hi : 0 ≤ i.toInt ∧ i.toInt + 1 ≤ (S.1 2 r.toNatClampNeg).toInt
      · have ti := tcn hi.1
        have hj := ixn (r := i) (n := 40) hi.1 (by omega)
        obtain ⟨q1, q2⟩ := rix (r := r) (i := i) (most := 40) i40 (by omega) hr.1 hr.2 hi.1 (by omega)
        have hk := ixn (r := 40 * r + i) (n := 240) (by rw [q1]; omega) (by rw [q1]; omega)
        rw [q2] at hk
        have hi2 : 0 ≤ i.toInt ∧ i.toInt ≤ (S.1 2 r.toNatClampNeg).toInt - 1 := ⟨hi.1, by omega⟩
        have hI2 := Inv_asked (v := S.1 (4 + r.toNatClampNeg) i.toNatClampNeg) (Inv_lay (r := r.toNatClampNeg) (i := i.toNatClampNeg) (v := v) I (by omega) (by omega))
        rw [si_comm (k := 39) (k' := 35) (by decide), si_comm (k := 4 + r.toNatClampNeg) (k' := 35) (by omega)] at hI2
        refine ⟨1, pv_si (pv_si S 35 1 (S.1 (4 + r.toNatClampNeg) i.toNatClampNeg)) (4 + r.toNatClampNeg) i.toNatClampNeg v, _, ?_, ?_, hI2⟩
        · show pv_R mX6_lay 0 [some (.ref 0), some (.int r), some (.int i), some (.int v), none] [] (pv_em S) = _
          simp only [bX6_lay_0, bX6_lay_10, bX6_lay_17, bX6_lay_20, bX6_lay_33, bX6_lay_46, bX3_getr_0, bX3_setr_0, x_place_r3 hr hs g3 hi, pv_cc_some, pv_cc_void, hx, hj, if_true, if_false]
        · show pv_R mX7_lay 0 [some (.ref 37), some (.int r), some (.int i), some (.int v), none] [] (pv_em _) = _
          have e38 : (pv_si (pv_si S 35 1 (S.1 (4 + r.toNatClampNeg) i.toNatClampNeg)) (4 + r.toNatClampNeg) i.toNatClampNeg v).1 38 = S.1 38 := by rw [si_ne (by omega), si_ne (by omega)]
          have e39 : (pv_si (pv_si S 35 1 (S.1 (4 + r.toNatClampNeg) i.toNatClampNeg)) (4 + r.toNatClampNeg) i.toNatClampNeg v).1 39 = S.1 39 := by rw [si_ne (by omega), si_ne (by omega)]
          simp only [bX7_lay_0, bX7_lay_4, bX7_lay_7, bX7_lay_9, bX7_lay_18, bX7_lay_23, bX7_lay_24, bX7_lay_39, bX7_lay_42, bX7_lay_47, bX7_lay_48, bX7_lay_79, bX7_tell_0, c_isRow, c_in, pv_cc_some, bI_0, hr, hx, hk, q2, e38, e39, g1, hs, e1, hi2, Int32.le_iff_toInt_le, Int32.toInt_toInt64, i0, j0, and_self, not_true_eq_false, not_false_eq_true, if_true, if_false, g4 i.toNatClampNeg (by omega)]
      · have hi2 : ¬ (0 ≤ i.toInt ∧ i.toInt ≤ (S.1 2 r.toNatClampNeg).toInt - 1) := by omega
        refine ⟨-3, xf S 2, _, ?_, ?_, Inv_find (f := 2) I (by omega) (by omega)⟩
        · show pv_R mX6_lay 0 [some (.ref 0), some (.int r), some (.int i), some (.int v), none] [] (pv_em S) = _
          simp only [bX6_lay_0, bX6_lay_10, bX6_lay_17, bX6_lay_20, bX6_lay_33, bX6_lay_46, x_place_r2 hr hs g3 hi, pv_cc_some, n0m3, if_true, if_false]
        · show pv_R mX7_lay 0 [some (.ref 37), some (.int r), some (.int i), some (.int v), none] [] (pv_em _) = _
          simp only [bX7_lay_0, bX7_lay_4, bX7_lay_7, bX7_lay_9, bX7_lay_18, bX7_lay_23, bX7_lay_24, bX7_lay_39, bX7_lay_42, bX7_lay_47, bX7_lay_48, bX7_lay_79, c_isRow, c_in, m_find_2, pv_cc_some, bI_0, hr, hx, xf_ne (S := S) (k := 38) (by decide) (by decide), g1, hs, e1, hi2, Int32.le_iff_toInt_le, Int32.toInt_toInt64, i0, j0, and_self, not_true_eq_false, not_false_eq_true, if_true, if_false]
    · refine ⟨-3, xf S 1, _, ?_, ?_, Inv_find (f := 1) I (by omega) (by omega)⟩
      · show pv_R mX6_lay 0 [some (.ref 0), some (.int r), some (.int i), some (.int v), none] [] (pv_em S) = _
        simp only [bX6_lay_0, bX6_lay_10, bX6_lay_17, bX6_lay_20, bX6_lay_33, bX6_lay_46, x_place_r1 hr hs, pv_cc_some, n0m3, if_true, if_false]
      · show pv_R mX7_lay 0 [some (.ref 37), some (.int r), some (.int i), some (.int v), none] [] (pv_em _) = _
        simp only [bX7_lay_0, bX7_lay_4, bX7_lay_7, bX7_lay_9, bX7_lay_18, bX7_lay_23, bX7_lay_24, bX7_lay_39, bX7_lay_42, bX7_lay_47, bX7_lay_48, bX7_lay_79, c_isRow, m_find_1, pv_cc_some, bI_0, hr, hx, xf_ne (S := S) (k := 38) (by decide) (by decide), g1, hs, Int32.le_iff_toInt_le, i0, and_self, not_true_eq_false, not_false_eq_true, if_true, if_false]
  · refine ⟨-1, S, S, ?_, ?_, I⟩
    · show pv_R mX6_lay 0 [some (.ref 0), some (.int r), some (.int i), some (.int v), none] [] (pv_em S) = _
      simp only [bX6_lay_0, bX6_lay_10, bX6_lay_17, bX6_lay_20, bX6_lay_33, bX6_lay_46, x_place_r0 hr, pv_cc_some, n0m1, if_true, if_false]
    · show pv_R mX7_lay 0 [some (.ref 37), some (.int r), some (.int i), some (.int v), none] [] (pv_em _) = _
      simp only [bX7_lay_0, bX7_lay_4, bX7_lay_7, bX7_lay_9, bX7_lay_18, bX7_lay_23, bX7_lay_24, bX7_lay_39, bX7_lay_42, bX7_lay_47, bX7_lay_48, bX7_lay_79, c_isRow, pv_cc_some, bI_0, hr, not_true_eq_false, not_false_eq_true, if_true, if_false]
theorem tq_put (I : Inv S) (r i v : Int32) : pv_goI Inv S mX6_put mX7_put [.int r, .int i, .int v] := by
  by_cases hr : 0 ≤ r.toInt ∧ r.toInt ≤ 3
  · have hx := ixn (r := r) (n := 4) hr.1 (by omega)
    have tr := tcn hr.1
    obtain ⟨g1, g2, g3, g4⟩ := I.2.1 r.toNatClampNeg (by omega)
    by_cases hs : 0 ≤ (S.1 11 r.toNatClampNeg).toInt
    · have e1 : (S.1 11 r.toNatClampNeg - 1).toInt = (S.1 11 r.toNatClampNeg).toInt - 1 := by rw [sb_i (by rw [i1]; omega) (by rw [i1]; omega), i1]
      by_cases hi : 0 ≤ i.toInt ∧ i.toInt + 1 ≤ (S.1 11 r.toNatClampNeg).toInt
      · have ti := tcn hi.1
        have hj := ixn (r := i) (n := 60) hi.1 (by omega)
        obtain ⟨q1, q2⟩ := rix (r := r) (i := i) (most := 60) i60 (by omega) hr.1 (by omega) hi.1 (by omega)
        have hk := ixn (r := 60 * r + i) (n := 240) (by rw [q1]; omega) (by rw [q1]; omega)
        rw [q2] at hk
        have hi2 : 0 ≤ i.toInt ∧ i.toInt ≤ (S.1 11 r.toNatClampNeg).toInt - 1 := ⟨hi.1, by omega⟩
        have hI2 := Inv_put (r := r.toNatClampNeg) (i := i.toNatClampNeg) (v := Int8.toInt32 (Int32.toInt8 v)) I (by omega) (by omega)
        refine ⟨1000 + S.1 (13 + r.toNatClampNeg) i.toNatClampNeg, pv_si S (13 + r.toNatClampNeg) i.toNatClampNeg (Int8.toInt32 (Int32.toInt8 v)), _, ?_, ?_, hI2⟩
        · show pv_R mX6_put 0 [some (.ref 0), some (.int r), some (.int i), some (.int v), none, none] [] (pv_em S) = _
          simp only [bX6_put_0, bX6_put_10, bX6_put_17, bX6_put_20, bX6_put_29, bX6_put_42, bX3_gett_0, bX3_sett_0, x_place_t3 hr hs g3 hi, pv_cc_some, pv_cc_void, hx, hj, if_true, if_false]
        · show pv_R mX7_put 0 [some (.ref 37), some (.int r), some (.int i), some (.int v), none] [] (pv_em _) = _
          have e40 : (pv_si S (13 + r.toNatClampNeg) i.toNatClampNeg (Int8.toInt32 (Int32.toInt8 v))).1 40 = S.1 40 := by rw [si_ne (by omega)]
          have e41 : (pv_si S (13 + r.toNatClampNeg) i.toNatClampNeg (Int8.toInt32 (Int32.toInt8 v))).1 41 = S.1 41 := by rw [si_ne (by omega)]
          simp only [bX7_put_0, bX7_put_4, bX7_put_7, bX7_put_9, bX7_put_18, bX7_put_23, bX7_put_24, bX7_put_39, bX7_put_42, bX7_put_47, bX7_put_48, c_isText, c_in, pv_cc_some, bI_0, hr, hx, hk, q2, e40, e41, g1, hs, e1, hi2, Int32.le_iff_toInt_le, Int32.toInt_toInt64, i0, j0, and_self, not_true_eq_false, not_false_eq_true, if_true, if_false, g4 i.toNatClampNeg (by omega)]
          rw [Int32.add_comm]
      · have hi2 : ¬ (0 ≤ i.toInt ∧ i.toInt ≤ (S.1 11 r.toNatClampNeg).toInt - 1) := by omega
        refine ⟨-3, xf S 2, _, ?_, ?_, Inv_find (f := 2) I (by omega) (by omega)⟩
        · show pv_R mX6_put 0 [some (.ref 0), some (.int r), some (.int i), some (.int v), none, none] [] (pv_em S) = _
          simp only [bX6_put_0, bX6_put_10, bX6_put_17, bX6_put_20, bX6_put_29, bX6_put_42, x_place_t2 hr hs g3 hi, pv_cc_some, n0m3, if_true, if_false]
        · show pv_R mX7_put 0 [some (.ref 37), some (.int r), some (.int i), some (.int v), none] [] (pv_em _) = _
          simp only [bX7_put_0, bX7_put_4, bX7_put_7, bX7_put_9, bX7_put_18, bX7_put_23, bX7_put_24, bX7_put_39, bX7_put_42, bX7_put_47, bX7_put_48, c_isText, c_in, m_find_2, pv_cc_some, bI_0, hr, hx, xf_ne (S := S) (k := 40) (by decide) (by decide), g1, hs, e1, hi2, Int32.le_iff_toInt_le, Int32.toInt_toInt64, i0, j0, and_self, not_true_eq_false, not_false_eq_true, if_true, if_false]
    · refine ⟨-3, xf S 1, _, ?_, ?_, Inv_find (f := 1) I (by omega) (by omega)⟩
      · show pv_R mX6_put 0 [some (.ref 0), some (.int r), some (.int i), some (.int v), none, none] [] (pv_em S) = _
        simp only [bX6_put_0, bX6_put_10, bX6_put_17, bX6_put_20, bX6_put_29, bX6_put_42, x_place_t1 hr hs, pv_cc_some, n0m3, if_true, if_false]
      · show pv_R mX7_put 0 [some (.ref 37), some (.int r), some (.int i), some (.int v), none] [] (pv_em _) = _
        simp only [bX7_put_0, bX7_put_4, bX7_put_7, bX7_put_9, bX7_put_18, bX7_put_23, bX7_put_24, bX7_put_39, bX7_put_42, bX7_put_47, bX7_put_48, c_isText, m_find_1, pv_cc_some, bI_0, hr, hx, xf_ne (S := S) (k := 40) (by decide) (by decide), g1, hs, Int32.le_iff_toInt_le, i0, and_self, not_true_eq_false, not_false_eq_true, if_true, if_false]
  · refine ⟨-1, S, S, ?_, ?_, I⟩
    · show pv_R mX6_put 0 [some (.ref 0), some (.int r), some (.int i), some (.int v), none, none] [] (pv_em S) = _
      simp only [bX6_put_0, bX6_put_10, bX6_put_17, bX6_put_20, bX6_put_29, bX6_put_42, x_place_t0 hr, pv_cc_some, n0m1, if_true, if_false]
    · show pv_R mX7_put 0 [some (.ref 37), some (.int r), some (.int i), some (.int v), none] [] (pv_em _) = _
      simp only [bX7_put_0, bX7_put_4, bX7_put_7, bX7_put_9, bX7_put_18, bX7_put_23, bX7_put_24, bX7_put_39, bX7_put_42, bX7_put_47, bX7_put_48, c_isText, pv_cc_some, bI_0, hr, not_true_eq_false, not_false_eq_true, if_true, if_false]
end LY
