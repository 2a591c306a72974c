/-! ===== kinds, weights, test ===== -/
theorem i16 : (16 : Int32).toInt = 16 := by decide
section LC
variable {S : pv_S} {n c p q m : Nat}
theorem x_led0 (T : Tw S n c) {i r : Int32} (h : ¬ ((0 ≤ i.toInt ∧ i.toInt < (n : Int)) ∧ (0 ≤ r.toInt ∧ r.toInt ≤ 5))) {a b : Option Value} : pv_R mX6_refuseLedger 0 [some (.ref 0), some (.int i), some (.int r), a, b] [] (pv_em S) = some (some (.int (-1)), pv_em S) := by
  by_cases hi : 0 ≤ i.toInt ∧ i.toInt < (n : Int)
  · have hr : ¬ (0 ≤ r.toInt ∧ r.toInt ≤ 5) := fun z => h ⟨hi, z⟩
    simp only [bX6_refuseLedger_0, bX6_refuseLedger_8, bX6_refuseLedger_11, bX6_refuseLedger_13, bX6_refuseLedger_22, bX6_refuseLedger_27, bX6_refuseLedger_29, bX6_refuseLedger_37, bX6_refuseLedger_46, bX6_refuseLedger_53, bX6_refuseLedger_61, bX6_refuseLedger_62, bX6_refuseLedger_67, bX6_refuseLedger_70, bX6_refuseLedger_74, bX6_refuseLedger_82, x_isCat T, hi, x_miss_r0 hr, n0m1, pv_cc_some, bI_0, and_self, not_true_eq_false, not_false_eq_true, if_true, if_false]
  · simp only [bX6_refuseLedger_0, bX6_refuseLedger_8, bX6_refuseLedger_11, bX6_refuseLedger_13, bX6_refuseLedger_22, bX6_refuseLedger_27, bX6_refuseLedger_29, bX6_refuseLedger_37, bX6_refuseLedger_46, bX6_refuseLedger_53, bX6_refuseLedger_61, bX6_refuseLedger_62, bX6_refuseLedger_67, bX6_refuseLedger_70, bX6_refuseLedger_74, bX6_refuseLedger_82, x_isCat T, hi, pv_cc_some, bI_0, not_true_eq_false, not_false_eq_true, if_true, if_false]
theorem cat_in (hp : p < n) (hn : n ≤ 6) : 0 ≤ (nI p).toInt ∧ (nI p).toInt < (n : Int) := by rw [nIt (by omega)]; omega
theorem row_in (hq : q < 6) : 0 ≤ (nI q).toInt ∧ (nI q).toInt ≤ 5 := by rw [nIt (by omega)]; omega
theorem x_led1 (T : Tw S n c) (hp : p < n) (hq : q < 6) (hs : ¬ 0 ≤ (S.1 2 q).toInt) {a b : Option Value} : pv_R mX6_refuseLedger 0 [some (.ref 0), some (.int (nI p)), some (.int (nI q)), a, b] [] (pv_em S) = some (some (.int (-3)), pv_em (xf S 1)) := by
  have hi := cat_in hp (tw_n T)
  have e := x_miss_r1 (S := S) (r := nI q) (row_in hq) (by rw [nIc (by omega)]; exact hs)
  simp only [bX6_refuseLedger_0, bX6_refuseLedger_8, bX6_refuseLedger_11, bX6_refuseLedger_13, bX6_refuseLedger_22, bX6_refuseLedger_27, bX6_refuseLedger_29, bX6_refuseLedger_37, bX6_refuseLedger_46, bX6_refuseLedger_53, bX6_refuseLedger_61, bX6_refuseLedger_62, bX6_refuseLedger_67, bX6_refuseLedger_70, bX6_refuseLedger_74, bX6_refuseLedger_82, x_isCat T, hi, e, n0m3, pv_cc_some, bI_0, and_self, not_true_eq_false, not_false_eq_true, if_true, if_false]
theorem x_led29 (T : Tw S n c) (hp : p < n) (hq : q < 6) (hs : 0 ≤ (S.1 2 q).toInt) {a b : Option Value} : pv_R mX6_refuseLedger 0 [some (.ref 0), some (.int (nI p)), some (.int (nI q)), a, b] [] (pv_em S) = (if ¬ (S.1 2 q - S.1 2 q / 2 * 2) = 0 then pv_R mX6_refuseLedger 53 [some (.ref 0), some (.int (nI p)), some (.int (nI q)), some (.int 0), some (.int (S.1 2 q))] [] (pv_em S) else pv_R mX6_refuseLedger 46 [some (.ref 0), some (.int (nI p)), some (.int (nI q)), some (.int 0), some (.int (S.1 2 q))] [] (pv_em S)) := by
  have hi := cat_in hp (tw_n T)
  have e := x_miss_r2 (S := S) (r := nI q) (row_in hq) (by rw [nIc (by omega)]; exact hs)
  rw [bX6_refuseLedger_0, x_isCat T, pv_cc_some, bX6_refuseLedger_8, bI_t hi, if_pos (by decide), bX6_refuseLedger_13, e, pv_cc_some, bX6_refuseLedger_22, if_pos rfl, bX6_refuseLedger_29, x_size hq, pv_cc_some, bX6_refuseLedger_37]
theorem x_led5 (T : Tw S n c) (hp : p < n) (hq : q < 6) (hs : 0 ≤ (S.1 2 q).toInt) (h : ¬ ((S.1 2 q).toInt % 2 = 0 ∧ (S.1 2 q).toInt ≤ 16)) {a b : Option Value} : pv_R mX6_refuseLedger 0 [some (.ref 0), some (.int (nI p)), some (.int (nI q)), a, b] [] (pv_em S) = some (some (.int (-3)), pv_em (xf S 5)) := by
  rw [x_led29 T hp hq hs]
  have e2 := rm2 hs
  by_cases z : S.1 2 q - S.1 2 q / 2 * 2 = 0
  · rw [if_neg (fun y => y z), bX6_refuseLedger_46, if_neg (by rw [Int32.le_iff_toInt_le, i16]; rw [z, i0] at e2; omega), bX6_refuseLedger_53, x_find_5, pv_cc_some, bX6_refuseLedger_61]
  · rw [if_pos z, bX6_refuseLedger_53, x_find_5, pv_cc_some, bX6_refuseLedger_61]
theorem x_led62 (T : Tw S n c) (hp : p < n) (R : LR S q m) {a b : Option Value} : pv_R mX6_refuseLedger 0 [some (.ref 0), some (.int (nI p)), some (.int (nI q)), a, b] [] (pv_em S) = (if A1 (lg_ok (S.1 (4 + q))) m 0 = 0 then some (some (.int (-3)), pv_em (xf S 3)) else some (some (.int 0), pv_em S)) := by
  obtain ⟨r1, r2, r3, r4, r5⟩ := id R
  have hs : 0 ≤ (S.1 2 q).toInt := by rw [r3, nIt (by omega)]; omega
  have e2 := rm2 hs
  have z : S.1 2 q - S.1 2 q / 2 * 2 = 0 := Int32.toInt_inj.mp (by rw [e2, i0, r3, nIt (by omega)]; omega)
  rw [x_led29 T hp r1 hs, if_neg (fun y => y z), bX6_refuseLedger_46, if_pos (by rw [Int32.le_iff_toInt_le, i16, r3, nIt (by omega)]; omega), bX6_refuseLedger_62, x_holds R, pv_cc_some, bX6_refuseLedger_67]
  by_cases w : A1 (lg_ok (S.1 (4 + q))) m 0 = 0
  · rw [if_pos w, if_pos w, bX6_refuseLedger_74, x_find_3, pv_cc_some, bX6_refuseLedger_82]
  · rw [if_neg w, if_neg w, bX6_refuseLedger_70, bX6_refuseLedger_82]
theorem m_wr1 (hq : q < 6) (hs : ¬ 0 ≤ (S.1 38 q).toInt) {a b : Option Value} : pv_R mX7_wrongPairs 0 [some (.ref 37), some (.int (nI q)), a, b] [] (pv_em S) = some (some (.int 1), pv_em S) := by
  rw [bX7_wrongPairs_0, if_neg (gx (by omega) (by omega)), nIc (by omega), if_neg (by rw [Int32.le_iff_toInt_le, i0]; exact hs), bX7_wrongPairs_9]
theorem m_wr5 (hq : q < 6) (hs : 0 ≤ (S.1 38 q).toInt) (h : ¬ ((S.1 38 q).toInt % 2 = 0 ∧ (S.1 38 q).toInt ≤ 16)) {a b : Option Value} : pv_R mX7_wrongPairs 0 [some (.ref 37), some (.int (nI q)), a, b] [] (pv_em S) = some (some (.int 5), pv_em S) := by
  have e2 := rm2 hs
  rw [bX7_wrongPairs_0, if_neg (gx (by omega) (by omega)), nIc (by omega), if_pos (by rw [Int32.le_iff_toInt_le, i0]; exact hs), bX7_wrongPairs_11, if_neg (gx (by omega) (by omega)), nIc (by omega)]
  by_cases z : S.1 38 q - S.1 38 q / 2 * 2 = 1
  · rw [if_pos z, bX7_wrongPairs_34]
  · have z2 := neI i1 z
    rw [if_neg z, bX7_wrongPairs_23, if_neg (gx (by omega) (by omega)), nIc (by omega), if_neg (by rw [Int32.le_iff_toInt_le, i16]; omega), bX7_wrongPairs_34]
theorem m_wrk (R : LR S q m) {a b : Option Value} : pv_R mX7_wrongPairs 0 [some (.ref 37), some (.int (nI q)), a, b] [] (pv_em S) = some (some (.int (if A1 (lg_ok (S.1 (4 + q))) m 0 = 0 then 3 else 0)), pv_em S) := by
  obtain ⟨r1, r2, r3, r4, r5⟩ := id R
  have hs : 0 ≤ (S.1 38 q).toInt := by rw [r4, nIt (by omega)]; omega
  have e2 := rm2 hs
  have z : ¬ S.1 38 q - S.1 38 q / 2 * 2 = 1 := fun w => by
    rw [w, i1, r4, nIt (by omega)] at e2
    omega
  rw [bX7_wrongPairs_0, if_neg (gx (by omega) (by omega)), nIc (by omega), if_pos (by rw [Int32.le_iff_toInt_le, i0]; exact hs), bX7_wrongPairs_11, if_neg (gx (by omega) (by omega)), nIc (by omega), if_neg z, bX7_wrongPairs_23, if_neg (gx (by omega) (by omega)), nIc (by omega), if_pos (by rw [Int32.le_iff_toInt_le, i16, r4, nIt (by omega)]; omega), bX7_wrongPairs_36, m_wrongL R]
theorem xf_Tw {f : Nat} (T : Tw S n c) : Tw (xf S f) n c := Tw_congr (fun k hk => xf_ne (by omega) (by omega)) (by rw [xf_ne (by decide) (by decide)]) (by rw [xf_ne (by decide) (by decide)]) (by rw [xf_ne (by decide) (by decide)]) T
theorem led_kinds (I : Inv S) (T : Tw S n c) (i r : Int32) (h : ∀ p q m, p < n → i = nI p → r = nI q → LR S q m → (∀ k, k < m → lg_ok (S.1 (4 + q)) k) → pv_goI Inv S mX6_kinds mX7_kinds [.int i, .int r]) : pv_goI Inv S mX6_kinds mX7_kinds [.int i, .int r] := by
  have hn := tw_n T
  by_cases hir : (0 ≤ i.toInt ∧ i.toInt < (n : Int)) ∧ (0 ≤ r.toInt ∧ r.toInt ≤ 5)
  · obtain ⟨hi, hr⟩ := hir
    obtain ⟨p, rfl, hp'⟩ := nIex hi.1
    obtain ⟨q, rfl, hq'⟩ := nIex hr.1
    have hp : p < n := by omega
    have hq : q < 6 := by omega
    obtain ⟨g1, g2, g3, g4⟩ := I.1 q hq
    have x38 : ∀ f, (xf S f).1 38 = S.1 38 := fun f => xf_ne (by decide) (by decide)
    by_cases hs : 0 ≤ (S.1 2 q).toInt
    · by_cases hz : (S.1 2 q).toInt % 2 = 0 ∧ (S.1 2 q).toInt ≤ 16
      · obtain ⟨s, es, hs2⟩ := nIex hs
        have R : LR S q (s / 2) := ⟨hq, by omega, by rw [es, show 2 * (s / 2) = s from by omega], by rw [g1, es, show 2 * (s / 2) = s from by omega], fun j hj => g4 j (by omega)⟩
        by_cases w : A1 (lg_ok (S.1 (4 + q))) (s / 2) 0 = 0
        · refine ⟨-3, xf S 3, _, ?_, ?_, Inv_find (f := 3) I (by omega) (by omega)⟩
          · show pv_R mX6_kinds 0 [some (.ref 0), some (.int (nI p)), some (.int (nI q)), none] [] (pv_em S) = _
            rw [bX6_kinds_0, x_led62 T hp R, if_pos w, pv_cc_some, bX6_kinds_6, if_neg (by decide), bX6_kinds_11]
          · show pv_R mX7_kinds 0 [some (.ref 37), some (.int (nI p)), some (.int (nI q)), none] [] (pv_em (xf S 3)) = _
            rw [bX7_kinds_0, m_isCat (xf_Tw T), pv_cc_some, bX7_kinds_5, bI_t (cat_in hp hn), if_neg (by decide), bX7_kinds_8, c_isRow, pv_cc_some, bX7_kinds_12, bI_t (row_in hq), if_pos (by decide), bX7_kinds_17, m_wrk (LR_congr (xf_ne (by decide) (by decide)) (xf_ne (by decide) (by decide)) (xf_ne (by decide) (by decide)) (xf_ne (by omega) (by omega)) R), show (xf S 3).1 (4 + q) = S.1 (4 + q) from xf_ne (by omega) (by omega), if_pos w, pv_cc_some, bX7_kinds_22, if_neg (by decide), bX7_kinds_27, m_find_3, pv_cc_some, bX7_kinds_32, bX7_kinds_41]
        · exact h p q (s / 2) hp rfl rfl R (fun k hk => A1_all (s / 2) 0 w k (by omega) (by omega))
      · refine ⟨-3, xf S 5, _, ?_, ?_, Inv_find (f := 5) I (by omega) (by omega)⟩
        · show pv_R mX6_kinds 0 [some (.ref 0), some (.int (nI p)), some (.int (nI q)), none] [] (pv_em S) = _
          rw [bX6_kinds_0, x_led5 T hp hq hs hz, pv_cc_some, bX6_kinds_6, if_neg (by decide), bX6_kinds_11]
        · show pv_R mX7_kinds 0 [some (.ref 37), some (.int (nI p)), some (.int (nI q)), none] [] (pv_em (xf S 5)) = _
          rw [bX7_kinds_0, m_isCat (xf_Tw T), pv_cc_some, bX7_kinds_5, bI_t (cat_in hp hn), if_neg (by decide), bX7_kinds_8, c_isRow, pv_cc_some, bX7_kinds_12, bI_t (row_in hq), if_pos (by decide), bX7_kinds_17, m_wr5 hq (by rw [x38, g1]; exact hs) (by rw [x38, g1]; exact hz), pv_cc_some, bX7_kinds_22, if_neg (by decide), bX7_kinds_27, m_find_5, pv_cc_some, bX7_kinds_32, bX7_kinds_41]
    · refine ⟨-3, xf S 1, _, ?_, ?_, Inv_find (f := 1) I (by omega) (by omega)⟩
      · show pv_R mX6_kinds 0 [some (.ref 0), some (.int (nI p)), some (.int (nI q)), none] [] (pv_em S) = _
        rw [bX6_kinds_0, x_led1 T hp hq hs, pv_cc_some, bX6_kinds_6, if_neg (by decide), bX6_kinds_11]
      · show pv_R mX7_kinds 0 [some (.ref 37), some (.int (nI p)), some (.int (nI q)), none] [] (pv_em (xf S 1)) = _
        rw [bX7_kinds_0, m_isCat (xf_Tw T), pv_cc_some, bX7_kinds_5, bI_t (cat_in hp hn), if_neg (by decide), bX7_kinds_8, c_isRow, pv_cc_some, bX7_kinds_12, bI_t (row_in hq), if_pos (by decide), bX7_kinds_17, m_wr1 hq (by rw [x38, g1]; exact hs), pv_cc_some, bX7_kinds_22, if_neg (by decide), bX7_kinds_27, m_find_1, pv_cc_some, bX7_kinds_32, bX7_kinds_41]
  · refine ⟨-1, S, S, ?_, ?_, I⟩
    · show pv_R mX6_kinds 0 [some (.ref 0), some (.int i), some (.int r), none] [] (pv_em S) = _
      rw [bX6_kinds_0, x_led0 T hir, pv_cc_some, bX6_kinds_6, if_neg (by decide), bX6_kinds_11]
    · show pv_R mX7_kinds 0 [some (.ref 37), some (.int i), some (.int r), none] [] (pv_em S) = _
      rw [bX7_kinds_0, m_isCat T, pv_cc_some, bX7_kinds_5]
      by_cases hi : 0 ≤ i.toInt ∧ i.toInt < (n : Int)
      · have hr : ¬ (0 ≤ r.toInt ∧ r.toInt ≤ 5) := fun z => hir ⟨hi, z⟩
        rw [bI_t hi, if_neg (by decide), bX7_kinds_8, c_isRow, pv_cc_some, bX7_kinds_12, bI_f hr, if_neg (fun z => z rfl), bX7_kinds_15]
      · rw [bI_f hi, if_pos rfl, bX7_kinds_15]
theorem xs_kinds (T : Tw S n c) (hp : p < n) (R : LR S q m) (w : ¬ A1 (lg_ok (S.1 (4 + q))) m 0 = 0) : pv_R mX6_kinds 0 [some (.ref 0), some (.int (nI p)), some (.int (nI q)), none] [] (pv_em S) = pv_R mX6_kinds 13 [some (.ref 0), some (.int (nI p)), some (.int (nI q)), some (.int 0)] [] (pv_em S) := by
  rw [bX6_kinds_0, x_led62 T hp R, if_neg w, pv_cc_some, bX6_kinds_6, if_pos rfl]
theorem ms_kinds (T : Tw S n c) (hp : p < n) (R : LR S q m) (w : ¬ A1 (lg_ok (S.1 (4 + q))) m 0 = 0) : pv_R mX7_kinds 0 [some (.ref 37), some (.int (nI p)), some (.int (nI q)), none] [] (pv_em S) = pv_R mX7_kinds 35 [some (.ref 37), some (.int (nI p)), some (.int (nI q)), some (.int 0)] [] (pv_em S) := by
  have hn := tw_n T
  rw [bX7_kinds_0, m_isCat T, pv_cc_some, bX7_kinds_5, bI_t (cat_in hp hn), if_neg (by decide), bX7_kinds_8, c_isRow, pv_cc_some, bX7_kinds_12, bI_t (row_in R.1), if_pos (by decide), bX7_kinds_17, m_wrk R, if_neg w, pv_cc_some, bX7_kinds_22, if_pos rfl]
theorem led_weights (I : Inv S) (T : Tw S n c) (i r : Int32) (h : ∀ p q m, p < n → i = nI p → r = nI q → LR S q m → (∀ k, k < m → lg_ok (S.1 (4 + q)) k) → pv_goI Inv S mX6_weights mX7_weights [.int i, .int r]) : pv_goI Inv S mX6_weights mX7_weights [.int i, .int r] := by
  have hn := tw_n T
  by_cases hir : (0 ≤ i.toInt ∧ i.toInt < (n : Int)) ∧ (0 ≤ r.toInt ∧ r.toInt ≤ 5)
  · obtain ⟨hi, hr⟩ := hir
    obtain ⟨p, rfl, hp'⟩ := nIex hi.1
    obtain ⟨q, rfl, hq'⟩ := nIex hr.1
    have hp : p < n := by omega
    have hq : q < 6 := by omega
    obtain ⟨g1, g2, g3, g4⟩ := I.1 q hq
    have x38 : ∀ f, (xf S f).1 38 = S.1 38 := fun f => xf_ne (by decide) (by decide)
    by_cases hs : 0 ≤ (S.1 2 q).toInt
    · by_cases hz : (S.1 2 q).toInt % 2 = 0 ∧ (S.1 2 q).toInt ≤ 16
      · obtain ⟨s, es, hs2⟩ := nIex hs
        have R : LR S q (s / 2) := ⟨hq, by omega, by rw [es, show 2 * (s / 2) = s from by omega], by rw [g1, es, show 2 * (s / 2) = s from by omega], fun j hj => g4 j (by omega)⟩
        by_cases w : A1 (lg_ok (S.1 (4 + q))) (s / 2) 0 = 0
        · refine ⟨-3, xf S 3, _, ?_, ?_, Inv_find (f := 3) I (by omega) (by omega)⟩
          · show pv_R mX6_weights 0 [some (.ref 0), some (.int (nI p)), some (.int (nI q)), none, none, none, none] [] (pv_em S) = _
            rw [bX6_weights_0, x_led62 T hp R, if_pos w, pv_cc_some, bX6_weights_6, if_neg (by decide), bX6_weights_11]
          · show pv_R mX7_weights 0 [some (.ref 37), some (.int (nI p)), some (.int (nI q)), none, none, none, none] [] (pv_em (xf S 3)) = _
            rw [bX7_weights_0, m_isCat (xf_Tw T), pv_cc_some, bX7_weights_5, bI_t (cat_in hp hn), if_neg (by decide), bX7_weights_8, c_isRow, pv_cc_some, bX7_weights_12, bI_t (row_in hq), if_pos (by decide), bX7_weights_17, m_wrk (LR_congr (xf_ne (by decide) (by decide)) (xf_ne (by decide) (by decide)) (xf_ne (by decide) (by decide)) (xf_ne (by omega) (by omega)) R), show (xf S 3).1 (4 + q) = S.1 (4 + q) from xf_ne (by omega) (by omega), if_pos w, pv_cc_some, bX7_weights_22, if_neg (by decide), bX7_weights_27, m_find_3, pv_cc_some, bX7_weights_32]
        · exact h p q (s / 2) hp rfl rfl R (fun k hk => A1_all (s / 2) 0 w k (by omega) (by omega))
      · refine ⟨-3, xf S 5, _, ?_, ?_, Inv_find (f := 5) I (by omega) (by omega)⟩
        · show pv_R mX6_weights 0 [some (.ref 0), some (.int (nI p)), some (.int (nI q)), none, none, none, none] [] (pv_em S) = _
          rw [bX6_weights_0, x_led5 T hp hq hs hz, pv_cc_some, bX6_weights_6, if_neg (by decide), bX6_weights_11]
        · show pv_R mX7_weights 0 [some (.ref 37), some (.int (nI p)), some (.int (nI q)), none, none, none, none] [] (pv_em (xf S 5)) = _
          rw [bX7_weights_0, m_isCat (xf_Tw T), pv_cc_some, bX7_weights_5, bI_t (cat_in hp hn), if_neg (by decide), bX7_weights_8, c_isRow, pv_cc_some, bX7_weights_12, bI_t (row_in hq), if_pos (by decide), bX7_weights_17, m_wr5 hq (by rw [x38, g1]; exact hs) (by rw [x38, g1]; exact hz), pv_cc_some, bX7_weights_22, if_neg (by decide), bX7_weights_27, m_find_5, pv_cc_some, bX7_weights_32]
    · refine ⟨-3, xf S 1, _, ?_, ?_, Inv_find (f := 1) I (by omega) (by omega)⟩
      · show pv_R mX6_weights 0 [some (.ref 0), some (.int (nI p)), some (.int (nI q)), none, none, none, none] [] (pv_em S) = _
        rw [bX6_weights_0, x_led1 T hp hq hs, pv_cc_some, bX6_weights_6, if_neg (by decide), bX6_weights_11]
      · show pv_R mX7_weights 0 [some (.ref 37), some (.int (nI p)), some (.int (nI q)), none, none, none, none] [] (pv_em (xf S 1)) = _
        rw [bX7_weights_0, m_isCat (xf_Tw T), pv_cc_some, bX7_weights_5, bI_t (cat_in hp hn), if_neg (by decide), bX7_weights_8, c_isRow, pv_cc_some, bX7_weights_12, bI_t (row_in hq), if_pos (by decide), bX7_weights_17, m_wr1 hq (by rw [x38, g1]; exact hs), pv_cc_some, bX7_weights_22, if_neg (by decide), bX7_weights_27, m_find_1, pv_cc_some, bX7_weights_32]
  · refine ⟨-1, S, S, ?_, ?_, I⟩
    · show pv_R mX6_weights 0 [some (.ref 0), some (.int i), some (.int r), none, none, none, none] [] (pv_em S) = _
      rw [bX6_weights_0, x_led0 T hir, pv_cc_some, bX6_weights_6, if_neg (by decide), bX6_weights_11]
    · show pv_R mX7_weights 0 [some (.ref 37), some (.int i), some (.int r), none, none, none, none] [] (pv_em S) = _
      rw [bX7_weights_0, m_isCat T, pv_cc_some, bX7_weights_5]
      by_cases hi : 0 ≤ i.toInt ∧ i.toInt < (n : Int)
      · have hr : ¬ (0 ≤ r.toInt ∧ r.toInt ≤ 5) := fun z => hir ⟨hi, z⟩
        rw [bI_t hi, if_neg (by decide), bX7_weights_8, c_isRow, pv_cc_some, bX7_weights_12, bI_f hr, if_neg (fun z => z rfl), bX7_weights_15]
      · rw [bI_f hi, if_pos rfl, bX7_weights_15]
theorem xs_weights (T : Tw S n c) (hp : p < n) (R : LR S q m) (w : ¬ A1 (lg_ok (S.1 (4 + q))) m 0 = 0) : pv_R mX6_weights 0 [some (.ref 0), some (.int (nI p)), some (.int (nI q)), none, none, none, none] [] (pv_em S) = pv_R mX6_weights 13 [some (.ref 0), some (.int (nI p)), some (.int (nI q)), some (.int 0), none, none, none] [] (pv_em S) := by
  rw [bX6_weights_0, x_led62 T hp R, if_neg w, pv_cc_some, bX6_weights_6, if_pos rfl]
theorem ms_weights (T : Tw S n c) (hp : p < n) (R : LR S q m) (w : ¬ A1 (lg_ok (S.1 (4 + q))) m 0 = 0) : pv_R mX7_weights 0 [some (.ref 37), some (.int (nI p)), some (.int (nI q)), none, none, none, none] [] (pv_em S) = pv_R mX7_weights 33 [some (.ref 37), some (.int (nI p)), some (.int (nI q)), some (.int 0), none, none, none] [] (pv_em S) := by
  have hn := tw_n T
  rw [bX7_weights_0, m_isCat T, pv_cc_some, bX7_weights_5, bI_t (cat_in hp hn), if_neg (by decide), bX7_weights_8, c_isRow, pv_cc_some, bX7_weights_12, bI_t (row_in R.1), if_pos (by decide), bX7_weights_17, m_wrk R, if_neg w, pv_cc_some, bX7_weights_22, if_pos rfl]
theorem led_test (I : Inv S) (T : Tw S n c) (i r : Int32) (h : ∀ p q m, p < n → i = nI p → r = nI q → LR S q m → (∀ k, k < m → lg_ok (S.1 (4 + q)) k) → pv_goI Inv S mX6_test mX7_test [.int i, .int r]) : pv_goI Inv S mX6_test mX7_test [.int i, .int r] := by
  have hn := tw_n T
  by_cases hir : (0 ≤ i.toInt ∧ i.toInt < (n : Int)) ∧ (0 ≤ r.toInt ∧ r.toInt ≤ 5)
  · obtain ⟨hi, hr⟩ := hir
    obtain ⟨p, rfl, hp'⟩ := nIex hi.1
    obtain ⟨q, rfl, hq'⟩ := nIex hr.1
    have hp : p < n := by omega
    have hq : q < 6 := by omega
    obtain ⟨g1, g2, g3, g4⟩ := I.1 q hq
    have x38 : ∀ f, (xf S f).1 38 = S.1 38 := fun f => xf_ne (by decide) (by decide)
    by_cases hs : 0 ≤ (S.1 2 q).toInt
    · by_cases hz : (S.1 2 q).toInt % 2 = 0 ∧ (S.1 2 q).toInt ≤ 16
      · obtain ⟨s, es, hs2⟩ := nIex hs
        have R : LR S q (s / 2) := ⟨hq, by omega, by rw [es, show 2 * (s / 2) = s from by omega], by rw [g1, es, show 2 * (s / 2) = s from by omega], fun j hj => g4 j (by omega)⟩
        by_cases w : A1 (lg_ok (S.1 (4 + q))) (s / 2) 0 = 0
        · refine ⟨-3, xf S 3, _, ?_, ?_, Inv_find (f := 3) I (by omega) (by omega)⟩
          · show pv_R mX6_test 0 [some (.ref 0), some (.int (nI p)), some (.int (nI q)), none, none, none, none, none, none] [] (pv_em S) = _
            rw [bX6_test_0, x_led62 T hp R, if_pos w, pv_cc_some, bX6_test_6, if_neg (by decide), bX6_test_11]
          · show pv_R mX7_test 0 [some (.ref 37), some (.int (nI p)), some (.int (nI q)), none, none, none, none, none, none] [] (pv_em (xf S 3)) = _
            rw [bX7_test_0, m_isCat (xf_Tw T), pv_cc_some, bX7_test_5, bI_t (cat_in hp hn), if_neg (by decide), bX7_test_8, c_isRow, pv_cc_some, bX7_test_12, bI_t (row_in hq), if_pos (by decide), bX7_test_17, m_wrk (LR_congr (xf_ne (by decide) (by decide)) (xf_ne (by decide) (by decide)) (xf_ne (by decide) (by decide)) (xf_ne (by omega) (by omega)) R), show (xf S 3).1 (4 + q) = S.1 (4 + q) from xf_ne (by omega) (by omega), if_pos w, pv_cc_some, bX7_test_22, if_neg (by decide), bX7_test_27, m_find_3, pv_cc_some, bX7_test_32]
        · exact h p q (s / 2) hp rfl rfl R (fun k hk => A1_all (s / 2) 0 w k (by omega) (by omega))
      · refine ⟨-3, xf S 5, _, ?_, ?_, Inv_find (f := 5) I (by omega) (by omega)⟩
        · show pv_R mX6_test 0 [some (.ref 0), some (.int (nI p)), some (.int (nI q)), none, none, none, none, none, none] [] (pv_em S) = _
          rw [bX6_test_0, x_led5 T hp hq hs hz, pv_cc_some, bX6_test_6, if_neg (by decide), bX6_test_11]
        · show pv_R mX7_test 0 [some (.ref 37), some (.int (nI p)), some (.int (nI q)), none, none, none, none, none, none] [] (pv_em (xf S 5)) = _
          rw [bX7_test_0, m_isCat (xf_Tw T), pv_cc_some, bX7_test_5, bI_t (cat_in hp hn), if_neg (by decide), bX7_test_8, c_isRow, pv_cc_some, bX7_test_12, bI_t (row_in hq), if_pos (by decide), bX7_test_17, m_wr5 hq (by rw [x38, g1]; exact hs) (by rw [x38, g1]; exact hz), pv_cc_some, bX7_test_22, if_neg (by decide), bX7_test_27, m_find_5, pv_cc_some, bX7_test_32]
    · refine ⟨-3, xf S 1, _, ?_, ?_, Inv_find (f := 1) I (by omega) (by omega)⟩
      · show pv_R mX6_test 0 [some (.ref 0), some (.int (nI p)), some (.int (nI q)), none, none, none, none, none, none] [] (pv_em S) = _
        rw [bX6_test_0, x_led1 T hp hq hs, pv_cc_some, bX6_test_6, if_neg (by decide), bX6_test_11]
      · show pv_R mX7_test 0 [some (.ref 37), some (.int (nI p)), some (.int (nI q)), none, none, none, none, none, none] [] (pv_em (xf S 1)) = _
        rw [bX7_test_0, m_isCat (xf_Tw T), pv_cc_some, bX7_test_5, bI_t (cat_in hp hn), if_neg (by decide), bX7_test_8, c_isRow, pv_cc_some, bX7_test_12, bI_t (row_in hq), if_pos (by decide), bX7_test_17, m_wr1 hq (by rw [x38, g1]; exact hs), pv_cc_some, bX7_test_22, if_neg (by decide), bX7_test_27, m_find_1, pv_cc_some, bX7_test_32]
  · refine ⟨-1, S, S, ?_, ?_, I⟩
    · show pv_R mX6_test 0 [some (.ref 0), some (.int i), some (.int r), none, none, none, none, none, none] [] (pv_em S) = _
      rw [bX6_test_0, x_led0 T hir, pv_cc_some, bX6_test_6, if_neg (by decide), bX6_test_11]
    · show pv_R mX7_test 0 [some (.ref 37), some (.int i), some (.int r), none, none, none, none, none, none] [] (pv_em S) = _
      rw [bX7_test_0, m_isCat T, pv_cc_some, bX7_test_5]
      by_cases hi : 0 ≤ i.toInt ∧ i.toInt < (n : Int)
      · have hr : ¬ (0 ≤ r.toInt ∧ r.toInt ≤ 5) := fun z => hir ⟨hi, z⟩
        rw [bI_t hi, if_neg (by decide), bX7_test_8, c_isRow, pv_cc_some, bX7_test_12, bI_f hr, if_neg (fun z => z rfl), bX7_test_15]
      · rw [bI_f hi, if_pos rfl, bX7_test_15]
theorem xs_test (T : Tw S n c) (hp : p < n) (R : LR S q m) (w : ¬ A1 (lg_ok (S.1 (4 + q))) m 0 = 0) : pv_R mX6_test 0 [some (.ref 0), some (.int (nI p)), some (.int (nI q)), none, none, none, none, none, none] [] (pv_em S) = pv_R mX6_test 13 [some (.ref 0), some (.int (nI p)), some (.int (nI q)), some (.int 0), none, none, none, none, none] [] (pv_em S) := by
  rw [bX6_test_0, x_led62 T hp R, if_neg w, pv_cc_some, bX6_test_6, if_pos rfl]
theorem ms_test (T : Tw S n c) (hp : p < n) (R : LR S q m) (w : ¬ A1 (lg_ok (S.1 (4 + q))) m 0 = 0) : pv_R mX7_test 0 [some (.ref 37), some (.int (nI p)), some (.int (nI q)), none, none, none, none, none, none] [] (pv_em S) = pv_R mX7_test 33 [some (.ref 37), some (.int (nI p)), some (.int (nI q)), some (.int 0), none, none, none, none, none] [] (pv_em S) := by
  have hn := tw_n T
  rw [bX7_test_0, m_isCat T, pv_cc_some, bX7_test_5, bI_t (cat_in hp hn), if_neg (by decide), bX7_test_8, c_isRow, pv_cc_some, bX7_test_12, bI_t (row_in R.1), if_pos (by decide), bX7_test_17, m_wrk R, if_neg w, pv_cc_some, bX7_test_22, if_pos rfl]
theorem A1_ok {p : Nat → Prop} [DecidablePred p] : ∀ m k, (∀ j, k ≤ j → j < k + m → p j) → ¬ A1 p m k = 0
  | 0, _, _ => by show ¬ (1 : Int32) = 0; decide
  | m + 1, k, h => by
    show ¬ (if ¬ p k then (0 : Int32) else A1 p m (k + 1)) = 0
    rw [if_neg (fun z => z (h k (by omega) (by omega)))]
    exact A1_ok m (k + 1) fun j h1 h2 => h j (by omega) (by omega)
theorem tq_kinds (I : Inv S) (i r : Int32) : pv_goI Inv S mX6_kinds mX7_kinds [.int i, .int r] := by
  obtain ⟨n, c, T⟩ := tw_of I
  refine led_kinds I T i r fun p q m hp ei er R ok => ?_
  subst ei; subst er
  have hq := R.1
  have w : ¬ A1 (lg_ok (S.1 (4 + q))) m 0 = 0 := A1_ok m 0 fun j _ h => ok j (by omega)
  obtain ⟨S', e, g1, g2⟩ := x_kf T R ok hp (a := none) (b := none)
  have T' : Tw S' n c := Tw_congr (fun k hk => g1 k (by omega) (by omega)) (by rw [g1 37 (by decide) (by decide)]) (by rw [g1 37 (by decide) (by decide)]) (by rw [g1 37 (by decide) (by decide)]) T
  have s4 : S'.1 (4 + q) = S.1 (4 + q) := g1 (4 + q) (by omega) (by omega)
  have R' : LR S' q m := LR_congr (g1 2 (by decide) (by decide)) (g1 38 (by decide) (by decide)) (g1 39 (by decide) (by decide)) s4 R
  refine ⟨nI (kfN (S.1 (4 + q)) (S.1 44 6) (S.1 44 p) m), S', S', ?_, ?_, Inv_scr (fun k _ h1 h2 _ _ _ => g1 k h1 h2) (fun j _ => by rw [g1 37 (by decide) (by decide)]) g2 I⟩
  · refine Eq.trans (xs_kinds T hp R w) ?_
    rw [bX6_kinds_13, e, pv_cc_some, bX6_kinds_19]
  · refine Eq.trans (ms_kinds T' hp R' (by rw [s4]; exact w)) ?_
    rw [bX7_kinds_35, m_kf T' R' (by rw [s4]; exact ok) hp, pv_cc_some, bX7_kinds_41, s4, g1 44 (by decide) (by decide)]
end LC
