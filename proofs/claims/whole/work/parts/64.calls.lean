/-! ===== hour, feed, buy, sell, rule, undo ===== -/
section CL
variable {S S1 S2 Z : pv_S} {n c c' : Nat} {dl : Nat → Int32}
theorem ok_upd {deed : Int32} (ok : ∀ d, d < c' → tw_ok n (dl d)) (h : tw_ok n deed) : ∀ d, d < c' + 1 → tw_ok n (upd dl c' deed d) := fun d hd => by
  by_cases q : d = c'
  · rw [q, upd_eq]; exact h
  · rw [upd_ne q]; exact ok d (by omega)
theorem full_c (hc : c ≤ 40) : (nI c = 40) = (c = 40) := by rw [show (40 : Int32) = nI 40 from rfl, nIeq (by omega) (by omega)]
theorem full_x (hc : c ≤ 40) : ((c : Int) + 1 ≤ 40) = ¬ c = 40 := propext ⟨fun q => by omega, fun q => by omega⟩
/-- the class's pound behind deeds -/
theorem x_poundC (B : Bs S n) (C : Cst S n c' dl Z) (hc : c' ≤ 40) (ok : ∀ d, d < c' → tw_ok n (dl d)) : pv_R mX5_pound 0 [some (.ref 21)] [] (pv_em Z) = some (some (.int (tw_rp n (S.1 22) (S.1 23) (S.1 24) dl c' (tw_rp n (S.1 22) (S.1 23) (S.1 24) dl c' 9).toNatClampNeg)), pv_em Z) :=
  xb_pound B.1 (C.2.2.1.trans B.2.1) C.2.2.2.2.2.2 (Bs_b B (by omega) ok)
theorem m_poundM (B : Bs S n) (M : Mst S n c' dl Z) (hc : c' ≤ 40) (ok : ∀ d, d < c' → tw_ok n (dl d)) : pv_R mX7_pound 0 [some (.ref 37)] [] (pv_em Z) = some (some (.int (tw_rp n (S.1 22) (S.1 23) (S.1 24) dl c' (tw_rp n (S.1 22) (S.1 23) (S.1 24) dl c' 9).toNatClampNeg)), pv_em Z) :=
  mb_pound B.1 ((M.2.2.1 4 (by decide)).trans B.2.2.1) M.2.2.2.2.1 (Bs_b B (by omega) ok)
theorem C_rp (C : Cst S n c' dl Z) : tw_rp n (Z.1 22) (Z.1 23) (Z.1 24) = tw_rp n (S.1 22) (S.1 23) (S.1 24) := by
  rw [C.1 22 (by decide) (by decide) (by decide), C.1 23 (by decide) (by decide) (by decide), C.1 24 (by decide) (by decide) (by decide)]
theorem tq_hour (I : Inv S) : pv_goI Inv S mX6_hour mX7_hour [] := by
  obtain ⟨n, c, T⟩ := tw_of I
  have hn := tw_n T
  have hc := tw_c T
  by_cases h : n = 0
  · subst h
    refine ⟨-4, S, S, ?_, ?_, I⟩
    · show pv_R mX6_hour 0 [some (.ref 0)] [] (pv_em S) = _
      rw [bX6_hour_0, tw_x7 T, if_neg (fun q => q rfl), bX6_hour_10]
    · show pv_R mX7_hour 0 [some (.ref 37)] [] (pv_em S) = _
      rw [bX7_hour_0, tw_m4 T, if_neg (fun q => q rfl), bX7_hour_7]
  · have z := nI0 hn h
    by_cases f : c = 40
    · have fx : ((c : Int) + 1 ≤ 40) = False := eq_false (by omega)
      have fm : (nI c = 40) = True := eq_true (by rw [full_c hc]; exact f)
      refine ⟨-2, S, S, ?_, ?_, I⟩
      · show pv_R mX6_hour 0 [some (.ref 0)] [] (pv_em S) = _
        simp only [bX6_hour_0, bX6_hour_10, bX6_hour_13, bX6_hour_21, bX6_hour_24, bX6_hour_27, bX6_hour_35, bX6_hour_42, tw_x7 T, z, x_room (tw_x13 T) hc (x := 1) (by decide) (by decide), i1, pv_cc_some, bI_0, fx, not_true_eq_false, not_false_eq_true, if_true, if_false]
      · show pv_R mX7_hour 0 [some (.ref 37)] [] (pv_em S) = _
        simp only [bX7_hour_0, bX7_hour_7, bX7_hour_10, bX7_hour_19, bX7_hour_22, bX7_hour_26, bX7_hour_30, tw_m4 T, z, tw_m9 T, fm, not_true_eq_false, not_false_eq_true, if_true, if_false]
    · have fx : ((c : Int) + 1 ≤ 40) = True := eq_true (by omega)
      have fm : (nI c = 40) = False := eq_false (by rw [full_c hc]; exact f)
      have B := Bs_Tw T
      have ok : ∀ d, d < c → tw_ok n (S.1 26 d) := fun d hd => tw_dd T hd
      have okd : tw_ok n 0 := Or.inl rfl
      obtain ⟨S1, e1, C⟩ := x_doDeed B (Cst_0 T) (by omega) ok okd
      have B1 := Bs_C B C
      obtain ⟨S2, e2, M⟩ := m_hourGoes B1 (Mst_0 T C) (by omega) ok (a := none)
      have ok2 := ok_upd ok okd
      refine ⟨tw_rp n (S.1 22) (S.1 23) (S.1 24) (upd (S.1 26) c 0) (c + 1) (tw_rp n (S.1 22) (S.1 23) (S.1 24) (upd (S.1 26) c 0) (c + 1) 9).toNatClampNeg, S1, S2, ?_, ?_, (Inv_st I T C M (by omega) ok2).1⟩
      · show pv_R mX6_hour 0 [some (.ref 0)] [] (pv_em S) = _
        simp only [bX6_hour_0, bX6_hour_10, bX6_hour_13, bX6_hour_21, bX6_hour_24, bX6_hour_27, bX6_hour_35, bX6_hour_42, tw_x7 T, z, x_room (tw_x13 T) hc (x := 1) (by decide) (by decide), i1, pv_cc_some, pv_cc_void, bI_0, fx, e1, x_poundC B C (by omega) ok2, not_true_eq_false, not_false_eq_true, if_true, if_false]
      · show pv_R mX7_hour 0 [some (.ref 37)] [] (pv_em S1) = _
        simp only [bX7_hour_0, bX7_hour_7, bX7_hour_10, bX7_hour_19, bX7_hour_22, bX7_hour_26, bX7_hour_30, B1.2.2.1, z, show S1.1 37 9 = nI c from by rw [C.1 37 (by decide) (by decide) (by decide)]; exact tw_m9 T, fm, e2, pv_cc_some, pv_cc_void, m_poundM B1 M (by omega) ok2, C_rp C, not_true_eq_false, not_false_eq_true, if_true, if_false]
theorem tq_feed (I : Inv S) (i : Int32) : pv_goI Inv S mX6_feed mX7_feed [.int i] := by
  obtain ⟨n, c, T⟩ := tw_of I
  have hn := tw_n T
  have hc := tw_c T
  by_cases hi : 0 ≤ i.toInt ∧ i.toInt < (n : Int)
  · obtain ⟨p, e2, hp⟩ := nIex hi.1
    subst e2
    by_cases f : c = 40
    · have fx : ((c : Int) + 1 ≤ 40) = False := eq_false (by omega)
      have fm : (nI c = 40) = True := eq_true (by rw [full_c hc]; exact f)
      refine ⟨-2, S, S, ?_, ?_, I⟩
      · show pv_R mX6_feed 0 [some (.ref 0), some (.int (nI p))] [] (pv_em S) = _
        simp only [bX6_feed_0, bX6_feed_8, bX6_feed_11, bX6_feed_13, bX6_feed_21, bX6_feed_24, bX6_feed_27, bX6_feed_38, x_isCat T, hi, x_room (tw_x13 T) hc (x := 1) (by decide) (by decide), i1, pv_cc_some, bI_0, fx, and_self, not_true_eq_false, not_false_eq_true, if_true, if_false]
      · show pv_R mX7_feed 0 [some (.ref 37), some (.int (nI p))] [] (pv_em S) = _
        simp only [bX7_feed_0, bX7_feed_5, bX7_feed_8, bX7_feed_10, bX7_feed_19, bX7_feed_22, bX7_feed_27, m_isCat T, hi, tw_m9 T, fm, pv_cc_some, bI_0, and_self, not_true_eq_false, not_false_eq_true, if_true, if_false]
    · have fx : ((c : Int) + 1 ≤ 40) = True := eq_true (by omega)
      have fm : (nI c = 40) = False := eq_false (by rw [full_c hc]; exact f)
      have B := Bs_Tw T
      have ok : ∀ d, d < c → tw_ok n (S.1 26 d) := fun d hd => tw_dd T hd
      have okd : tw_ok n (nI (10 + p)) := Or.inr (Or.inl (by rw [nIt (by omega)]; omega))
      obtain ⟨S1, e1, C⟩ := x_doDeed B (Cst_0 T) (by omega) ok okd
      have B1 := Bs_C B C
      obtain ⟨S2, e2, M⟩ := m_eats B1 (Mst_0 T C) (by omega) (i := p) (by omega)
      have ok2 := ok_upd ok okd
      refine ⟨tw_rp n (S.1 22) (S.1 23) (S.1 24) (upd (S.1 26) c (nI (10 + p))) (c + 1) p, S1, S2, ?_, ?_, (Inv_st I T C M (by omega) ok2).1⟩
      · show pv_R mX6_feed 0 [some (.ref 0), some (.int (nI p))] [] (pv_em S) = _
        simp only [bX6_feed_0, bX6_feed_8, bX6_feed_11, bX6_feed_13, bX6_feed_21, bX6_feed_24, bX6_feed_27, bX6_feed_38, x_isCat T, hi, x_room (tw_x13 T) hc (x := 1) (by decide) (by decide), i1, pv_cc_some, pv_cc_void, bI_0, fx, show (10 : Int32) + nI p = nI (10 + p) from nIadd, e1, kx (k := p) (N := 6) (by omega) (by omega), nIc (i := p) (by omega), C.2.2.2.2.2.2.1 p (by omega), and_self, not_true_eq_false, not_false_eq_true, if_true, if_false]
      · show pv_R mX7_feed 0 [some (.ref 37), some (.int (nI p))] [] (pv_em S1) = _
        have T1 : pv_R mX7_isCat 0 [some (.ref 37), some (.int (nI p))] [] (pv_em S1) = some (some (.int (bI (0 ≤ (nI p).toInt ∧ (nI p).toInt < (n : Int)))), pv_em S1) := by
          have e : (nI n - 1).toInt = n - 1 := by rw [sb_i (by rw [nIt (by omega), i1]; omega) (by rw [nIt (by omega), i1]; omega), nIt (by omega), i1]
          simp only [bX7_isCat_0, bX7_isCat_13, c_in, pv_cc_some, vnb, if_true, Int32.toInt_toInt64, B1.2.2.1, e, j0]
          have e2 : (0 ≤ (nI p).toInt ∧ (nI p).toInt ≤ (n : Int) - 1) = (0 ≤ (nI p).toInt ∧ (nI p).toInt < (n : Int)) := propext ⟨fun q => by omega, fun q => by omega⟩
          simp only [e2]
        simp only [bX7_feed_0, bX7_feed_5, bX7_feed_8, bX7_feed_10, bX7_feed_19, bX7_feed_22, bX7_feed_27, T1, hi, show S1.1 37 9 = nI c from by rw [C.1 37 (by decide) (by decide) (by decide)]; exact tw_m9 T, fm, e2, pv_cc_some, pv_cc_void, bI_0, Int32.zero_add, kx (k := p) (N := 10) (by omega) (by omega), nIc (i := p) (by omega), M.2.2.2.2.1 p (by omega), C_rp C, and_self, not_true_eq_false, not_false_eq_true, if_true, if_false]
  · refine ⟨-1, S, S, ?_, ?_, I⟩
    · show pv_R mX6_feed 0 [some (.ref 0), some (.int i)] [] (pv_em S) = _
      simp only [bX6_feed_0, bX6_feed_8, bX6_feed_11, bX6_feed_13, bX6_feed_21, bX6_feed_24, bX6_feed_27, bX6_feed_38, x_isCat T, pv_cc_some, bI_0, hi, not_true_eq_false, not_false_eq_true, if_true, if_false]
    · show pv_R mX7_feed 0 [some (.ref 37), some (.int i)] [] (pv_em S) = _
      simp only [bX7_feed_0, bX7_feed_5, bX7_feed_8, bX7_feed_10, bX7_feed_19, bX7_feed_22, bX7_feed_27, m_isCat T, pv_cc_some, bI_0, hi, not_true_eq_false, not_false_eq_true, if_true, if_false]
theorem mb_isCat (hn : n ≤ 6) (h4 : Z.1 37 4 = nI n) {i : Int32} : pv_R mX7_isCat 0 [some (.ref 37), some (.int i)] [] (pv_em Z) = some (some (.int (bI (0 ≤ i.toInt ∧ i.toInt < (n : Int)))), pv_em Z) := by
  have e : (nI n - 1).toInt = n - 1 := by rw [sb_i (by rw [nIt (by omega), i1]; omega) (by rw [nIt (by omega), i1]; omega), nIt (by omega), i1]
  simp only [bX7_isCat_0, bX7_isCat_13, c_in, pv_cc_some, vnb, if_true, Int32.toInt_toInt64, h4, e, j0]
  have e2 : (0 ≤ i.toInt ∧ i.toInt ≤ (n : Int) - 1) = (0 ≤ i.toInt ∧ i.toInt < (n : Int)) := propext ⟨fun q => by omega, fun q => by omega⟩
  simp only [e2]
theorem tq_buy (I : Inv S) (i : Int32) : pv_goI Inv S mX6_buy mX7_buy [.int i] := by
  obtain ⟨n, c, T⟩ := tw_of I
  have hn := tw_n T
  have hc := tw_c T
  by_cases hi : 1 ≤ i.toInt ∧ i.toInt ≤ 9
  · by_cases h : n = 0
    · subst h
      refine ⟨-4, S, S, ?_, ?_, I⟩
      · show pv_R mX6_buy 0 [some (.ref 0), some (.int i)] [] (pv_em S) = _
        simp only [bX6_buy_0, bX6_buy_7, bX6_buy_10, bX6_buy_12, bX6_buy_22, bX6_buy_25, bX6_buy_33, bX6_buy_36, bX6_buy_39, bX6_buy_50, x_within, hi, i1, i9, tw_x7 T, show nI 0 = 0 from rfl, pv_cc_some, bI_0, and_self, not_true_eq_false, not_false_eq_true, if_true, if_false]
      · show pv_R mX7_buy 0 [some (.ref 37), some (.int i)] [] (pv_em S) = _
        simp only [bX7_buy_0, bX7_buy_9, bX7_buy_12, bX7_buy_14, bX7_buy_21, bX7_buy_24, bX7_buy_33, bX7_buy_36, bX7_buy_41, c_in, hi, j1, j9, Int32.toInt_toInt64, tw_m4 T, show nI 0 = 0 from rfl, pv_cc_some, bI_0, and_self, not_true_eq_false, not_false_eq_true, if_true, if_false]
    · have z := nI0 hn h
      obtain ⟨p, e2, hp⟩ := nIex (x := i) (by omega)
      subst e2
      by_cases f : c = 40
      · have fx : ((c : Int) + 1 ≤ 40) = False := eq_false (by omega)
        have fm : (nI c = 40) = True := eq_true (by rw [full_c hc]; exact f)
        refine ⟨-2, S, S, ?_, ?_, I⟩
        · show pv_R mX6_buy 0 [some (.ref 0), some (.int (nI p))] [] (pv_em S) = _
          simp only [bX6_buy_0, bX6_buy_7, bX6_buy_10, bX6_buy_12, bX6_buy_22, bX6_buy_25, bX6_buy_33, bX6_buy_36, bX6_buy_39, bX6_buy_50, x_within, hi, i1, i9, tw_x7 T, z, x_room (tw_x13 T) hc (x := 1) (by decide) (by decide), pv_cc_some, bI_0, fx, and_self, not_true_eq_false, not_false_eq_true, if_true, if_false]
        · show pv_R mX7_buy 0 [some (.ref 37), some (.int (nI p))] [] (pv_em S) = _
          simp only [bX7_buy_0, bX7_buy_9, bX7_buy_12, bX7_buy_14, bX7_buy_21, bX7_buy_24, bX7_buy_33, bX7_buy_36, bX7_buy_41, c_in, hi, j1, j9, Int32.toInt_toInt64, tw_m4 T, z, tw_m9 T, fm, pv_cc_some, bI_0, and_self, not_true_eq_false, not_false_eq_true, if_true, if_false]
      · have fx : ((c : Int) + 1 ≤ 40) = True := eq_true (by omega)
        have fm : (nI c = 40) = False := eq_false (by rw [full_c hc]; exact f)
        have B := Bs_Tw T
        have ok : ∀ d, d < c → tw_ok n (S.1 26 d) := fun d hd => tw_dd T hd
        have okd : tw_ok n (nI (20 + p)) := Or.inr (Or.inr (Or.inl (by rw [nIt (by omega)]; omega)))
        obtain ⟨S1, e1, C⟩ := x_doDeed B (Cst_0 T) (by omega) ok okd
        have B1 := Bs_C B C
        obtain ⟨S2, e2, M⟩ := m_buys B1 (Mst_0 T C) (by omega) ok (x := nI p) (deed := nI (20 + p)) ⟨⟨by rw [show (10 : Int32) = nI 10 from rfl, nIlt (by omega) (by omega)]; omega, by rw [show (20 : Int32) = nI 20 from rfl, nIlt (by omega) (by omega)]; omega⟩, Or.inl ⟨by rw [show (30 : Int32) = nI 30 from rfl, nIlt (by omega) (by omega)]; omega, by rw [show (20 : Int32) = nI 20 from rfl, nIsub (by omega) (by omega), show 20 + p - 20 = p from by omega]⟩⟩
        have ok2 := ok_upd ok okd
        refine ⟨tw_rp n (S.1 22) (S.1 23) (S.1 24) (upd (S.1 26) c (nI (20 + p))) (c + 1) 8, S1, S2, ?_, ?_, (Inv_st I T C M (by omega) ok2).1⟩
        · show pv_R mX6_buy 0 [some (.ref 0), some (.int (nI p))] [] (pv_em S) = _
          simp only [bX6_buy_0, bX6_buy_7, bX6_buy_10, bX6_buy_12, bX6_buy_22, bX6_buy_25, bX6_buy_33, bX6_buy_36, bX6_buy_39, bX6_buy_50, x_within, hi, i1, i9, tw_x7 T, z, x_room (tw_x13 T) hc (x := 1) (by decide) (by decide), pv_cc_some, pv_cc_void, bI_0, fx, show (20 : Int32) + nI p = nI (20 + p) from nIadd, e1, C.2.2.2.2.2.2.2.2.2.1, and_self, not_true_eq_false, not_false_eq_true, if_true, if_false]
        · show pv_R mX7_buy 0 [some (.ref 37), some (.int (nI p))] [] (pv_em S1) = _
          simp only [bX7_buy_0, bX7_buy_9, bX7_buy_12, bX7_buy_14, bX7_buy_21, bX7_buy_24, bX7_buy_33, bX7_buy_36, bX7_buy_41, c_in, hi, j1, j9, Int32.toInt_toInt64, B1.2.2.1, z, show S1.1 37 9 = nI c from by rw [C.1 37 (by decide) (by decide) (by decide)]; exact tw_m9 T, fm, e2, pv_cc_some, pv_cc_void, bI_0, show (8 : Int32).toNatClampNeg = 8 from by decide, M.2.2.2.2.1 8 (by omega), C_rp C, and_self, not_true_eq_false, not_false_eq_true, if_true, if_false]
  · refine ⟨-1, S, S, ?_, ?_, I⟩
    · show pv_R mX6_buy 0 [some (.ref 0), some (.int i)] [] (pv_em S) = _
      simp only [bX6_buy_0, bX6_buy_7, bX6_buy_10, bX6_buy_12, bX6_buy_22, bX6_buy_25, bX6_buy_33, bX6_buy_36, bX6_buy_39, bX6_buy_50, x_within, hi, i1, i9, pv_cc_some, bI_0, not_true_eq_false, not_false_eq_true, if_true, if_false]
    · show pv_R mX7_buy 0 [some (.ref 37), some (.int i)] [] (pv_em S) = _
      simp only [bX7_buy_0, bX7_buy_9, bX7_buy_12, bX7_buy_14, bX7_buy_21, bX7_buy_24, bX7_buy_33, bX7_buy_36, bX7_buy_41, c_in, hi, j1, j9, Int32.toInt_toInt64, pv_cc_some, bI_0, not_true_eq_false, not_false_eq_true, if_true, if_false]
theorem x_goods {x : Int32} (T : Tw S n c) : pv_R mX5_hasGoodsFor 0 [some (.ref 21), some (.int x)] [] (pv_em S) = some (some (.int (bI (x * tw_pd S n ≤ S.1 44 8))), pv_em S) := by
  simp only [bX5_hasGoodsFor_0, bX5_hasGoodsFor_9, bX5_hasGoodsFor_13, bX5_hasGoodsFor_17, bX5_hasGoodsFor_18, x_pound T, pv_cc_some, vn0, vn1, if_true, tw_g T]
  by_cases q : x * tw_pd S n ≤ S.1 44 8
  · rw [bI_t q, if_neg (Int32.not_lt.mpr q)]
  · rw [bI_f q, if_pos (Int32.not_le.mp q)]
theorem tq_sell (I : Inv S) (i : Int32) : pv_goI Inv S mX6_sell mX7_sell [.int i] := by
  obtain ⟨n, c, T⟩ := tw_of I
  have hn := tw_n T
  have hc := tw_c T
  have e8 : (8 : Int32).toNatClampNeg = 8 := by decide
  by_cases hi : 1 ≤ i.toInt ∧ i.toInt ≤ 9
  · by_cases h : n = 0
    · subst h
      refine ⟨-4, S, S, ?_, ?_, I⟩
      · show pv_R mX6_sell 0 [some (.ref 0), some (.int i)] [] (pv_em S) = _
        simp only [bX6_sell_0, bX6_sell_7, bX6_sell_10, bX6_sell_12, bX6_sell_22, bX6_sell_25, bX6_sell_33, bX6_sell_36, bX6_sell_39, bX6_sell_47, bX6_sell_50, bX6_sell_53, bX6_sell_64, x_within, hi, i1, i9, tw_x7 T, show nI 0 = 0 from rfl, pv_cc_some, bI_0, and_self, not_true_eq_false, not_false_eq_true, if_true, if_false]
      · show pv_R mX7_sell 0 [some (.ref 37), some (.int i)] [] (pv_em S) = _
        simp only [bX7_sell_0, bX7_sell_9, bX7_sell_12, bX7_sell_14, bX7_sell_21, bX7_sell_24, bX7_sell_36, bX7_sell_40, bX7_sell_43, bX7_sell_52, bX7_sell_55, bX7_sell_61, c_in, hi, j1, j9, Int32.toInt_toInt64, tw_m4 T, show nI 0 = 0 from rfl, pv_cc_some, bI_0, and_self, not_true_eq_false, not_false_eq_true, if_true, if_false]
    · have z := nI0 hn h
      obtain ⟨p, e2, hp⟩ := nIex (x := i) (by omega)
      subst e2
      by_cases g : nI p * tw_pd S n ≤ S.1 44 8
      · by_cases f : c = 40
        · have fx : ((c : Int) + 1 ≤ 40) = False := eq_false (by omega)
          have fm : (nI c = 40) = True := eq_true (by rw [full_c hc]; exact f)
          refine ⟨-2, S, S, ?_, ?_, I⟩
          · show pv_R mX6_sell 0 [some (.ref 0), some (.int (nI p))] [] (pv_em S) = _
            simp only [bX6_sell_0, bX6_sell_7, bX6_sell_10, bX6_sell_12, bX6_sell_22, bX6_sell_25, bX6_sell_33, bX6_sell_36, bX6_sell_39, bX6_sell_47, bX6_sell_50, bX6_sell_53, bX6_sell_64, x_within, hi, i1, i9, tw_x7 T, z, x_goods T, g, x_room (tw_x13 T) hc (x := 1) (by decide) (by decide), pv_cc_some, bI_0, fx, and_self, not_true_eq_false, not_false_eq_true, if_true, if_false]
          · show pv_R mX7_sell 0 [some (.ref 37), some (.int (nI p))] [] (pv_em S) = _
            simp only [bX7_sell_0, bX7_sell_9, bX7_sell_12, bX7_sell_14, bX7_sell_21, bX7_sell_24, bX7_sell_36, bX7_sell_40, bX7_sell_43, bX7_sell_52, bX7_sell_55, bX7_sell_61, c_in, hi, j1, j9, Int32.toInt_toInt64, tw_m4 T, z, m_pound T, e8, g, tw_m9 T, fm, pv_cc_some, bI_0, and_self, not_true_eq_false, not_false_eq_true, if_true, if_false]
        · have fx : ((c : Int) + 1 ≤ 40) = True := eq_true (by omega)
          have fm : (nI c = 40) = False := eq_false (by rw [full_c hc]; exact f)
          have B := Bs_Tw T
          have ok : ∀ d, d < c → tw_ok n (S.1 26 d) := fun d hd => tw_dd T hd
          have okd : tw_ok n (nI (30 + p)) := Or.inr (Or.inr (Or.inr (Or.inl (by rw [nIt (by omega)]; omega))))
          obtain ⟨S1, e1, C⟩ := x_doDeed B (Cst_0 T) (by omega) ok okd
          have B1 := Bs_C B C
          have M0 := Mst_0 T C
          obtain ⟨S2, e2, M⟩ := m_buys B1 M0 (by omega) ok (x := - nI p) (deed := nI (30 + p)) ⟨⟨by rw [show (10 : Int32) = nI 10 from rfl, nIlt (by omega) (by omega)]; omega, by rw [show (20 : Int32) = nI 20 from rfl, nIlt (by omega) (by omega)]; omega⟩, Or.inr ⟨by rw [show (30 : Int32) = nI 30 from rfl, nIlt (by omega) (by omega)]; omega, by rw [show (40 : Int32) = nI 40 from rfl, nIlt (by omega) (by omega)]; omega, by rw [show (30 : Int32) = nI 30 from rfl, nIsub (by omega) (by omega), show 30 + p - 30 = p from by omega]⟩⟩
          have ok2 := ok_upd ok okd
          have ep : tw_rp n (S.1 22) (S.1 23) (S.1 24) (S.1 26) c (tw_rp n (S.1 22) (S.1 23) (S.1 24) (S.1 26) c 9).toNatClampNeg = tw_pd S n := by
            obtain ⟨r, hr, er⟩ := tw_rb T h
            unfold tw_pd
            have w9 := tw_now T (j := 9) (by omega)
            rw [if_neg h, ← w9, er, nIc (by omega), tw_now T (j := r) (by omega)]
          have e44 : S1.1 44 8 = S.1 44 8 := by rw [C.1 44 (by decide) (by decide) (by decide)]
          refine ⟨tw_rp n (S.1 22) (S.1 23) (S.1 24) (upd (S.1 26) c (nI (30 + p))) (c + 1) 8, S1, S2, ?_, ?_, (Inv_st I T C M (by omega) ok2).1⟩
          · show pv_R mX6_sell 0 [some (.ref 0), some (.int (nI p))] [] (pv_em S) = _
            simp only [bX6_sell_0, bX6_sell_7, bX6_sell_10, bX6_sell_12, bX6_sell_22, bX6_sell_25, bX6_sell_33, bX6_sell_36, bX6_sell_39, bX6_sell_47, bX6_sell_50, bX6_sell_53, bX6_sell_64, x_within, hi, i1, i9, tw_x7 T, z, x_goods T, g, x_room (tw_x13 T) hc (x := 1) (by decide) (by decide), pv_cc_some, pv_cc_void, bI_0, fx, show (30 : Int32) + nI p = nI (30 + p) from nIadd, e1, C.2.2.2.2.2.2.2.2.2.1, and_self, not_true_eq_false, not_false_eq_true, if_true, if_false]
          · show pv_R mX7_sell 0 [some (.ref 37), some (.int (nI p))] [] (pv_em S1) = _
            simp only [bX7_sell_0, bX7_sell_9, bX7_sell_12, bX7_sell_14, bX7_sell_21, bX7_sell_24, bX7_sell_36, bX7_sell_40, bX7_sell_43, bX7_sell_52, bX7_sell_55, bX7_sell_61, c_in, hi, j1, j9, Int32.toInt_toInt64, B1.2.2.1, z, m_poundM B1 M0 hc ok, C_rp C, ep, e8, e44, g, show S1.1 37 9 = nI c from by rw [C.1 37 (by decide) (by decide) (by decide)]; exact tw_m9 T, fm, e2, pv_cc_some, pv_cc_void, bI_0, M.2.2.2.2.1 8 (by omega), and_self, not_true_eq_false, not_false_eq_true, if_true, if_false]
      · refine ⟨-6, S, S, ?_, ?_, I⟩
        · show pv_R mX6_sell 0 [some (.ref 0), some (.int (nI p))] [] (pv_em S) = _
          simp only [bX6_sell_0, bX6_sell_7, bX6_sell_10, bX6_sell_12, bX6_sell_22, bX6_sell_25, bX6_sell_33, bX6_sell_36, bX6_sell_39, bX6_sell_47, bX6_sell_50, bX6_sell_53, bX6_sell_64, x_within, hi, i1, i9, tw_x7 T, z, x_goods T, g, pv_cc_some, bI_0, and_self, not_true_eq_false, not_false_eq_true, if_true, if_false]
        · show pv_R mX7_sell 0 [some (.ref 37), some (.int (nI p))] [] (pv_em S) = _
          simp only [bX7_sell_0, bX7_sell_9, bX7_sell_12, bX7_sell_14, bX7_sell_21, bX7_sell_24, bX7_sell_36, bX7_sell_40, bX7_sell_43, bX7_sell_52, bX7_sell_55, bX7_sell_61, c_in, hi, j1, j9, Int32.toInt_toInt64, tw_m4 T, z, m_pound T, e8, g, pv_cc_some, bI_0, and_self, not_true_eq_false, not_false_eq_true, if_true, if_false]
  · refine ⟨-1, S, S, ?_, ?_, I⟩
    · show pv_R mX6_sell 0 [some (.ref 0), some (.int i)] [] (pv_em S) = _
      simp only [bX6_sell_0, bX6_sell_7, bX6_sell_10, bX6_sell_12, bX6_sell_22, bX6_sell_25, bX6_sell_33, bX6_sell_36, bX6_sell_39, bX6_sell_47, bX6_sell_50, bX6_sell_53, bX6_sell_64, x_within, hi, i1, i9, pv_cc_some, bI_0, not_true_eq_false, not_false_eq_true, if_true, if_false]
    · show pv_R mX7_sell 0 [some (.ref 37), some (.int i)] [] (pv_em S) = _
      simp only [bX7_sell_0, bX7_sell_9, bX7_sell_12, bX7_sell_14, bX7_sell_21, bX7_sell_24, bX7_sell_36, bX7_sell_40, bX7_sell_43, bX7_sell_52, bX7_sell_55, bX7_sell_61, c_in, hi, j1, j9, Int32.toInt_toInt64, pv_cc_some, bI_0, not_true_eq_false, not_false_eq_true, if_true, if_false]
theorem tq_rule (I : Inv S) (i : Int32) : pv_goI Inv S mX6_rule mX7_rule [.int i] := by
  obtain ⟨n, c, T⟩ := tw_of I
  have hn := tw_n T
  have hc := tw_c T
  have e9 : (9 : Int32).toNatClampNeg = 9 := by decide
  by_cases hi : 0 ≤ i.toInt ∧ i.toInt < (n : Int)
  · obtain ⟨p, e2, hp⟩ := nIex hi.1
    subst e2
    by_cases g : S.1 44 9 = nI p
    · refine ⟨-4, S, S, ?_, ?_, I⟩
      · show pv_R mX6_rule 0 [some (.ref 0), some (.int (nI p))] [] (pv_em S) = _
        simp only [bX6_rule_0, bX6_rule_8, bX6_rule_11, bX6_rule_13, bX6_rule_24, bX6_rule_27, bX6_rule_35, bX6_rule_38, bX6_rule_41, bX6_rule_52, bX6_rule_59, x_isCat T, hi, tw_r T, g, pv_cc_some, bI_0, and_self, not_true_eq_false, not_false_eq_true, if_true, if_false]
      · show pv_R mX7_rule 0 [some (.ref 37), some (.int (nI p))] [] (pv_em S) = _
        simp only [bX7_rule_0, bX7_rule_5, bX7_rule_8, bX7_rule_10, bX7_rule_21, bX7_rule_24, bX7_rule_33, bX7_rule_36, bX7_rule_40, bX7_rule_52, m_isCat T, hi, e9, g, pv_cc_some, bI_0, and_self, not_true_eq_false, not_false_eq_true, if_true, if_false]
    · by_cases f : c = 40
      · have fx : ((c : Int) + 1 ≤ 40) = False := eq_false (by omega)
        have fm : (nI c = 40) = True := eq_true (by rw [full_c hc]; exact f)
        refine ⟨-2, S, S, ?_, ?_, I⟩
        · show pv_R mX6_rule 0 [some (.ref 0), some (.int (nI p))] [] (pv_em S) = _
          simp only [bX6_rule_0, bX6_rule_8, bX6_rule_11, bX6_rule_13, bX6_rule_24, bX6_rule_27, bX6_rule_35, bX6_rule_38, bX6_rule_41, bX6_rule_52, bX6_rule_59, x_isCat T, hi, tw_r T, g, x_room (tw_x13 T) hc (x := 1) (by decide) (by decide), i1, pv_cc_some, bI_0, fx, and_self, not_true_eq_false, not_false_eq_true, if_true, if_false]
        · show pv_R mX7_rule 0 [some (.ref 37), some (.int (nI p))] [] (pv_em S) = _
          simp only [bX7_rule_0, bX7_rule_5, bX7_rule_8, bX7_rule_10, bX7_rule_21, bX7_rule_24, bX7_rule_33, bX7_rule_36, bX7_rule_40, bX7_rule_52, m_isCat T, hi, e9, g, tw_m9 T, fm, pv_cc_some, bI_0, and_self, not_true_eq_false, not_false_eq_true, if_true, if_false]
      · have fx : ((c : Int) + 1 ≤ 40) = True := eq_true (by omega)
        have fm : (nI c = 40) = False := eq_false (by rw [full_c hc]; exact f)
        have B := Bs_Tw T
        have ok : ∀ d, d < c → tw_ok n (S.1 26 d) := fun d hd => tw_dd T hd
        have okd : tw_ok n (nI (40 + p)) := Or.inr (Or.inr (Or.inr (Or.inr (by rw [nIt (by omega)]; omega))))
        obtain ⟨S1, e1, C⟩ := x_doDeed B (Cst_0 T) (by omega) ok okd
        have B1 := Bs_C B C
        have M0 := Mst_0 T C
        obtain ⟨Y, e2, MY⟩ := m_remember M0 (by omega)
        have M : Mst S1 n (c + 1) (upd (S.1 26) c (nI (40 + p))) (pv_si Y 44 9 (nI p)) := Mst_act MY (fun k hk => si_ne hk) rfl (fun j hj => by
          unfold tw_act
          rw [if_neg (by rw [show (10 : Int32) = nI 10 from rfl, nIlt (by omega) (by omega)]; omega), if_neg (by rw [show (20 : Int32) = nI 20 from rfl, nIlt (by omega) (by omega)]; omega), if_neg (by rw [show (30 : Int32) = nI 30 from rfl, nIlt (by omega) (by omega)]; omega), if_neg (by rw [show (40 : Int32) = nI 40 from rfl, nIlt (by omega) (by omega)]; omega), show (40 : Int32) = nI 40 from rfl, nIsub (by omega) (by omega), show 40 + p - 40 = p from by omega, si_eq]
          by_cases q : j = 9
          · rw [q, upd_eq, if_pos rfl]
          · rw [upd_ne q, if_neg q, MY.2.2.2.2.1 j hj])
        have ok2 := ok_upd ok okd
        refine ⟨tw_rp n (S.1 22) (S.1 23) (S.1 24) (upd (S.1 26) c (nI (40 + p))) (c + 1) (tw_rp n (S.1 22) (S.1 23) (S.1 24) (upd (S.1 26) c (nI (40 + p))) (c + 1) 9).toNatClampNeg, S1, pv_si Y 44 9 (nI p), ?_, ?_, (Inv_st I T C M (by omega) ok2).1⟩
        · show pv_R mX6_rule 0 [some (.ref 0), some (.int (nI p))] [] (pv_em S) = _
          simp only [bX6_rule_0, bX6_rule_8, bX6_rule_11, bX6_rule_13, bX6_rule_24, bX6_rule_27, bX6_rule_35, bX6_rule_38, bX6_rule_41, bX6_rule_52, bX6_rule_59, x_isCat T, hi, tw_r T, g, x_room (tw_x13 T) hc (x := 1) (by decide) (by decide), i1, pv_cc_some, pv_cc_void, bI_0, fx, show (40 : Int32) + nI p = nI (40 + p) from nIadd, e1, x_poundC B C (by omega) ok2, and_self, not_true_eq_false, not_false_eq_true, if_true, if_false]
        · show pv_R mX7_rule 0 [some (.ref 37), some (.int (nI p))] [] (pv_em S1) = _
          have e44 : S1.1 44 9 = S.1 44 9 := by rw [C.1 44 (by decide) (by decide) (by decide)]
          simp only [bX7_rule_0, bX7_rule_5, bX7_rule_8, bX7_rule_10, bX7_rule_21, bX7_rule_24, bX7_rule_33, bX7_rule_36, bX7_rule_40, bX7_rule_52, mb_isCat hn B1.2.2.1, hi, e9, e44, g, show S1.1 37 9 = nI c from by rw [C.1 37 (by decide) (by decide) (by decide)]; exact tw_m9 T, fm, e2, pv_cc_some, pv_cc_void, bI_0, m_poundM B1 M (by omega) ok2, C_rp C, and_self, not_true_eq_false, not_false_eq_true, if_true, if_false]
  · refine ⟨-1, S, S, ?_, ?_, I⟩
    · show pv_R mX6_rule 0 [some (.ref 0), some (.int i)] [] (pv_em S) = _
      simp only [bX6_rule_0, bX6_rule_8, bX6_rule_11, bX6_rule_13, bX6_rule_24, bX6_rule_27, bX6_rule_35, bX6_rule_38, bX6_rule_41, bX6_rule_52, bX6_rule_59, x_isCat T, pv_cc_some, bI_0, hi, not_true_eq_false, not_false_eq_true, if_true, if_false]
    · show pv_R mX7_rule 0 [some (.ref 37), some (.int i)] [] (pv_em S) = _
      simp only [bX7_rule_0, bX7_rule_5, bX7_rule_8, bX7_rule_10, bX7_rule_21, bX7_rule_24, bX7_rule_33, bX7_rule_36, bX7_rule_40, bX7_rule_52, m_isCat T, pv_cc_some, bI_0, hi, not_true_eq_false, not_false_eq_true, if_true, if_false]
end CL
