/-! ===== kinds: what hours and meals add ===== -/
theorem neI {x : Int32} {k : Int32} {z : Int} (hk : k.toInt = z) (h : ¬ x = k) : x.toInt ≠ z := fun q => h (Int32.toInt_inj.mp (q.trans hk.symm))
theorem i200 : (200 : Int32).toInt = 200 := by decide
theorem sw5 {x : Int32} (h1 : ¬ x = 1) (h2 : ¬ x = 2) (h3 : ¬ x = 3) (h4 : ¬ x = 4) (h5 : ¬ x = 5) (a b c d e dt : Nat) : pv_swt x.toInt 1 [a, b, c, d, e] dt = dt := by
  have g1 := neI i1 h1
  have g2 := neI i2 h2
  have g3 := neI i3 h3
  have g4 := neI i4 h4
  have g5 := neI i5 h5
  unfold pv_swt
  rw [if_pos]
  show x.toInt < 1 ∨ 1 + ((5 : Nat) : Int) ≤ x.toInt
  omega
theorem sw3 {x : Int32} (h3 : ¬ x = 3) (h4 : ¬ x = 4) (h5 : ¬ x = 5) (a b c dt : Nat) : pv_swt x.toInt 3 [a, b, c] dt = dt := by
  have g3 := neI i3 h3
  have g4 := neI i4 h4
  have g5 := neI i5 h5
  unfold pv_swt
  rw [if_pos]
  show x.toInt < 3 ∨ 3 + ((3 : Nat) : Int) ≤ x.toInt
  omega
theorem rm2 {h : Int32} (h0 : 0 ≤ h.toInt) : (h - h / 2 * 2).toInt = h.toInt % 2 := by
  rw [rem_toInt, i2, Int.tmod_eq_emod_of_nonneg h0]
theorem rm4 {h : Int32} (h0 : 0 ≤ h.toInt) : (h - h / 4 * 4).toInt = h.toInt % 4 := by
  rw [rem_toInt, i4, Int.tmod_eq_emod_of_nonneg h0]
theorem eqI {x k : Int32} {z : Int} (hk : k.toInt = z) : (x = k) = (x.toInt = z) := by
  refine propext ⟨fun h => by rw [h]; exact hk, fun h => Int32.toInt_inj.mp (h.trans hk.symm)⟩
section KD
variable {S : pv_S}
theorem held_in (v : Int32) : 1 ≤ (tw_held v).toInt ∧ (tw_held v).toInt ≤ 200 := by
  unfold tw_held
  by_cases h1 : v < 1
  · rw [if_pos h1, i1]; omega
  · rw [if_neg h1]
    by_cases h2 : 200 < v
    · rw [if_pos h2, i200]; omega
    · rw [if_neg h2]
      rw [Int32.lt_iff_toInt_lt, i1] at h1
      rw [Int32.lt_iff_toInt_lt, i200] at h2
      omega
theorem x_held {v : Int32} : pv_R mX0_held 0 [some (.int v)] [] (pv_em S) = some (some (.int (tw_held v)), pv_em S) := by
  rw [bX0_held_0]
  have e : (if 1 < (if v < 200 then v else 200) then (if v < 200 then v else 200) else (1 : Int32)) = tw_held v := by
    unfold tw_held
    by_cases h2 : v < 200
    · have h2' := h2
      rw [Int32.lt_iff_toInt_lt, i200] at h2'
      rw [if_pos h2, if_neg (c := 200 < v) (by rw [Int32.lt_iff_toInt_lt, i200]; omega)]
      by_cases h1 : v < 1
      · have h1' := h1
        rw [Int32.lt_iff_toInt_lt, i1] at h1'
        rw [if_pos h1, if_neg (by rw [Int32.lt_iff_toInt_lt, i1]; omega)]
      · rw [if_neg h1]
        by_cases h3 : 1 < v
        · rw [if_pos h3]
        · rw [if_neg h3]
          rw [Int32.lt_iff_toInt_lt, i1] at h1 h3
          exact (Int32.toInt_inj.mp (by rw [i1]; omega)).symm
    · have h2' := h2
      rw [Int32.lt_iff_toInt_lt, i200] at h2'
      rw [if_neg h2, if_pos (by decide), if_neg (by rw [Int32.lt_iff_toInt_lt, i1]; omega)]
      by_cases h3 : 200 < v
      · rw [if_pos h3]
      · rw [if_neg h3]
        rw [Int32.lt_iff_toInt_lt, i200] at h3
        exact (Int32.toInt_inj.mp (by rw [i200]; omega)).symm
  rw [e]
theorem m_bound {v : Int32} : pv_R mX7_bound 0 [some (.int v)] [] (pv_em S) = some (some (.int (tw_held v)), pv_em S) := by
  unfold tw_held
  by_cases h1 : v < 1
  · have h1' := h1
    rw [Int32.lt_iff_toInt_lt, i1] at h1'
    rw [if_pos h1, bX7_bound_0, if_neg (by rw [Int32.le_iff_toInt_le, i1]; omega), bX7_bound_5, bX7_bound_23]
  · have h1' := h1
    rw [Int32.lt_iff_toInt_lt, i1] at h1'
    rw [if_neg h1, bX7_bound_0, if_pos (by rw [Int32.le_iff_toInt_le, i1]; omega), bX7_bound_9]
    by_cases h2 : 200 < v
    · have h2' := h2
      rw [Int32.lt_iff_toInt_lt, i200] at h2'
      rw [if_pos h2, if_neg (by rw [Int32.le_iff_toInt_le, i200]; omega), bX7_bound_16, bX7_bound_23]
    · have h2' := h2
      rw [Int32.lt_iff_toInt_lt, i200] at h2'
      rw [if_neg h2, if_pos (by rw [Int32.le_iff_toInt_le, i200]; omega), bX7_bound_22, bX7_bound_23]
theorem x_mice {h : Int32} : pv_R mX0_hasMice 0 [some (.int h)] [] (pv_em S) = some (some (.int (bI (¬ h - h / 2 * 2 = 0))), pv_em S) := by
  simp only [bX0_hasMice_0, bX0_hasMice_6, bX0_hasMice_10, bX0_hasMice_11, vn0, vn1, if_true]
  by_cases q : h - h / 2 * 2 = 0
  · rw [if_pos q, bI_f (fun w => w q)]
  · rw [if_neg q, bI_t q]
theorem mlt {h : Int32} (h0 : 0 ≤ h.toInt) : ((4 - (h - h / 4 * 4)) - (4 - (h - h / 4 * 4)) / 4 * 4 = 0) = (h - h / 4 * 4 = 0) := by
  have e1 := rm4 h0
  have e2 : (4 - (h - h / 4 * 4)).toInt = 4 - h.toInt % 4 := by rw [sb_i (by rw [i4, e1]; omega) (by rw [i4, e1]; omega), i4, e1]
  have e3 := rm4 (h := 4 - (h - h / 4 * 4)) (by rw [e2]; omega)
  rw [eqI i0, eqI i0, e3, e2, e1]
  exact propext ⟨fun q => by omega, fun q => by omega⟩
theorem x_adds {k h : Int32} (h0 : 0 ≤ h.toInt) : pv_R mX0_hourAdds 0 [some (.int k), some (.int h)] [] (pv_em S) = some (some (.int (tw_adds k h)), pv_em S) := by
  rw [bX0_hourAdds_0]
  unfold tw_adds
  by_cases k1 : k = 1
  · subst k1
    rw [show pv_swt (Int32.toInt 1) 1 [36, 49, 63, 36, 65] 67 = 36 from by decide, if_pos (Or.inl rfl), bX0_hourAdds_36, x_mice, pv_cc_some, bX0_hourAdds_40]
    by_cases q : h - h / 2 * 2 = 0
    · rw [bI_f (fun w => w q), if_pos rfl, if_pos q, bX0_hourAdds_47, bX0_hourAdds_48]
    · rw [bI_t q, if_neg (by decide), if_neg q, bX0_hourAdds_43, bX0_hourAdds_48]
  by_cases k4 : k = 4
  · subst k4
    rw [show pv_swt (Int32.toInt 4) 1 [36, 49, 63, 36, 65] 67 = 36 from by decide, if_pos (Or.inr rfl), bX0_hourAdds_36, x_mice, pv_cc_some, bX0_hourAdds_40]
    by_cases q : h - h / 2 * 2 = 0
    · rw [bI_f (fun w => w q), if_pos rfl, if_pos q, bX0_hourAdds_47, bX0_hourAdds_48]
    · rw [bI_t q, if_neg (by decide), if_neg q, bX0_hourAdds_43, bX0_hourAdds_48]
  rw [if_neg (c := k = 1 ∨ k = 4) (fun w => w.elim k1 k4)]
  by_cases k2 : k = 2
  · subst k2
    rw [show pv_swt (Int32.toInt 2) 1 [36, 49, 63, 36, 65] 67 = 49 from by decide, if_pos rfl, bX0_hourAdds_49, bX0_hoursToMoult_0, pv_cc_some, bX0_hourAdds_53]
    by_cases q : h - h / 4 * 4 = 0
    · rw [if_pos q, if_neg (fun w => w (by rw [mlt h0]; exact q)), bX0_hourAdds_56, bX0_hourAdds_62]
    · rw [if_neg q, if_pos (by rw [mlt h0]; exact q), bX0_hourAdds_61, bX0_hourAdds_62]
  rw [if_neg (c := k = 2) k2]
  by_cases k3 : k = 3
  · subst k3
    rw [show pv_swt (Int32.toInt 3) 1 [36, 49, 63, 36, 65] 67 = 63 from by decide, if_pos rfl, bX0_hourAdds_63]
  rw [if_neg (c := k = 3) k3]
  by_cases k5 : k = 5
  · subst k5
    rw [show pv_swt (Int32.toInt 5) 1 [36, 49, 63, 36, 65] 67 = 65 from by decide, if_pos rfl, bX0_hourAdds_65]
  rw [if_neg (c := k = 5) k5, sw5 k1 k2 k3 k4 k5, bX0_hourAdds_67]
theorem m_changes {k h : Int32} (h0 : 0 ≤ h.toInt) : pv_R mX7_changes 0 [some (.int k), some (.int h), some (.int 1)] [] (pv_em S) = some (some (.int (tw_adds k h)), pv_em S) := by
  have e2 := rm2 h0
  have odd : (h - h / 2 * 2 = 1) = ¬ (h - h / 2 * 2 = 0) := by
    rw [eqI i1, eqI i0, e2]
    exact propext ⟨fun q => by omega, fun q => by omega⟩
  rw [bX7_changes_0]
  unfold tw_adds
  by_cases k1 : k = 1
  · subst k1
    rw [show pv_swt (Int32.toInt 1) 1 [36, 53, 66, 36, 68] 70 = 36 from by decide, if_pos (Or.inl rfl), bX7_changes_36]
    by_cases q : h - h / 2 * 2 = 0
    · rw [if_pos q, if_pos (by rw [odd]; exact fun w => w q), bX7_changes_51, bX7_changes_52]
    · rw [if_neg q, if_neg (by rw [odd]; exact fun w => w q), bX7_changes_43, if_neg (by decide), bX7_changes_47, bX7_changes_52]
  by_cases k4 : k = 4
  · subst k4
    rw [show pv_swt (Int32.toInt 4) 1 [36, 53, 66, 36, 68] 70 = 36 from by decide, if_pos (Or.inr rfl), bX7_changes_36]
    by_cases q : h - h / 2 * 2 = 0
    · rw [if_pos q, if_pos (by rw [odd]; exact fun w => w q), bX7_changes_51, bX7_changes_52]
    · rw [if_neg q, if_neg (by rw [odd]; exact fun w => w q), bX7_changes_43, if_neg (by decide), bX7_changes_47, bX7_changes_52]
  rw [if_neg (c := k = 1 ∨ k = 4) (fun w => w.elim k1 k4)]
  by_cases k2 : k = 2
  · subst k2
    rw [show pv_swt (Int32.toInt 2) 1 [36, 53, 66, 36, 68] 70 = 53 from by decide, if_pos rfl, bX7_changes_53]
    by_cases q : h - h / 4 * 4 = 0
    · rw [if_pos q, if_neg (fun w => w q), bX7_changes_59, bX7_changes_65]
    · rw [if_neg q, if_pos q, bX7_changes_64, bX7_changes_65]
  rw [if_neg (c := k = 2) k2]
  by_cases k3 : k = 3
  · subst k3
    rw [show pv_swt (Int32.toInt 3) 1 [36, 53, 66, 36, 68] 70 = 66 from by decide, if_pos rfl, bX7_changes_66]
  rw [if_neg (c := k = 3) k3]
  by_cases k5 : k = 5
  · subst k5
    rw [show pv_swt (Int32.toInt 5) 1 [36, 53, 66, 36, 68] 70 = 68 from by decide, if_pos rfl, bX7_changes_68]
  rw [if_neg (c := k = 5) k5, sw5 k1 k2 k3 k4 k5, bX7_changes_70]
theorem x_after {k w h : Int32} (h0 : 0 ≤ h.toInt) : pv_R mX0_afterHour 0 [some (.int k), some (.int w), some (.int h)] [] (pv_em S) = some (some (.int (tw_held (w + tw_adds k h))), pv_em S) := by
  rw [bX0_afterHour_0, x_adds h0, pv_cc_some, bX0_afterHour_6, x_held, pv_cc_some, bX0_afterHour_10]
theorem x_meal {k a : Int32} : pv_R mX0_mealAdds 0 [some (.int k), some (.int a)] [] (pv_em S) = some (some (.int (tw_meal k a)), pv_em S) := by
  rw [bX0_mealAdds_0]
  unfold tw_meal
  by_cases k3 : k = 3
  · subst k3
    rw [show pv_swt (Int32.toInt 3) 3 [28, 32, 36] 38 = 28 from by decide, if_pos rfl, bX0_mealAdds_28]
  by_cases k4 : k = 4
  · subst k4
    rw [show pv_swt (Int32.toInt 4) 3 [28, 32, 36] 38 = 32 from by decide, if_neg (by decide), if_pos rfl, bX0_mealAdds_32]
  by_cases k5 : k = 5
  · subst k5
    rw [show pv_swt (Int32.toInt 5) 3 [28, 32, 36] 38 = 36 from by decide, if_neg (by decide), if_neg (by decide), if_pos rfl, bX0_mealAdds_36]
  rw [if_neg k3, if_neg k4, if_neg k5, sw3 k3 k4 k5, bX0_mealAdds_38]
theorem m_meal {k a : Int32} : pv_R mX7_meal 0 [some (.int k), some (.int a)] [] (pv_em S) = some (some (.int (tw_meal k a)), pv_em S) := by
  rw [bX7_meal_0]
  unfold tw_meal
  by_cases k3 : k = 3
  · rw [if_neg (fun w => w k3), if_pos k3, bX7_meal_5, bX7_meal_32]
  rw [if_pos k3, if_neg k3, bX7_meal_11]
  by_cases k4 : k = 4
  · rw [if_neg (fun w => w k4), if_pos k4, bX7_meal_16, bX7_meal_32]
  rw [if_pos k4, if_neg k4, bX7_meal_22]
  by_cases k5 : k = 5
  · rw [if_neg (fun w => w k5), if_pos k5, bX7_meal_27, bX7_meal_32]
  rw [if_pos k5, if_neg k5, bX7_meal_31, bX7_meal_32]
/-- what one weighs when k hours have passed from hour h on -/
def tw_aft (kind h w : Int32) : Nat → Int32
  | 0 => w
  | k + 1 => tw_held (tw_aft kind h w k + tw_adds kind (h + nI k))
theorem lp_after {kind w : Int32} {N : Nat} (hN : N ≤ 1000) (h0 : 0 ≤ (S.1 44 6).toInt) (h1 : (S.1 44 6).toInt ≤ 1000) : ∀ (m k : Nat), k + m = N → pv_R mX7_after 6 [some (.ref 37), some (.int kind), some (.int w), some (.int (nI N)), some (.int (tw_aft kind (S.1 44 6) w k)), some (.int (nI k))] [] (pv_em S) = some (some (.int (tw_aft kind (S.1 44 6) w N)), pv_em S)
  | 0, k, h => by
    have e : k = N := by omega
    subst e
    rw [bX7_after_6, if_pos (by rw [nIle (by omega) (by omega)]; omega), bX7_after_41]
  | m + 1, k, h => by
    have ih := lp_after (kind := kind) (w := w) hN h0 h1 m (k + 1) (by omega)
    rw [bX7_after_6, if_neg (by rw [nIle (by omega) (by omega)]; omega), bX7_after_12]
    have eh : (S.1 44 (6 : Int32).toNatClampNeg + nI k).toInt = (S.1 44 6).toInt + k := by
      rw [show (6 : Int32).toNatClampNeg = 6 from by decide, ad_i (by rw [nIt (by omega)]; omega) (by rw [nIt (by omega)]; omega), nIt (by omega)]
    rw [m_changes (by rw [eh]; omega), pv_cc_some, bX7_after_29, m_bound, pv_cc_some, bX7_after_33, nIs]
    exact ih
theorem m_after {kind w : Int32} {N : Nat} (hN : N ≤ 1000) (h0 : 0 ≤ (S.1 44 6).toInt) (h1 : (S.1 44 6).toInt ≤ 1000) {a b : Option Value} : pv_R mX7_after 0 [some (.ref 37), some (.int kind), some (.int w), some (.int (nI N)), a, b] [] (pv_em S) = some (some (.int (tw_aft kind (S.1 44 6) w N)), pv_em S) := by
  rw [bX7_after_0]
  exact lp_after (kind := kind) (w := w) hN h0 h1 N 0 (by omega)
theorem m_afterOf {i : Int32} {N : Nat} (hi0 : 0 ≤ i.toInt) (hi : i.toInt < 6) (hN : N ≤ 1000) (h0 : 0 ≤ (S.1 44 6).toInt) (h1 : (S.1 44 6).toInt ≤ 1000) : pv_R mX7_afterOf 0 [some (.ref 37), some (.int i), some (.int (nI N))] [] (pv_em S) = some (some (.int (tw_aft (S.1 42 i.toNatClampNeg) (S.1 44 6) (S.1 44 i.toNatClampNeg) N)), pv_em S) := by
  rw [bX7_afterOf_0, if_neg (ixn (n := 6) hi0 (by omega)), Int32.zero_add, if_neg (ixn (n := 10) hi0 (by omega)), m_after hN h0 h1, pv_cc_some, bX7_afterOf_19]
end KD
