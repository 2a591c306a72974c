/-! ===== tear, row, text ===== -/
/-- a stretch of a cell filled with v, all else as it was -/
def Fl (S S' : pv_S) (c lo hi : Nat) (v : Int32) : Prop := (∀ k, k ≠ c → S'.1 k = S.1 k) ∧ S'.2 = S.2 ∧ ∀ j, S'.1 c j = if lo ≤ j ∧ j < hi then v else S.1 c j
theorem Fl_none {S : pv_S} {c lo hi : Nat} {v : Int32} (h : hi ≤ lo) : Fl S S c lo hi v := ⟨fun _ _ => rfl, rfl, fun j => by rw [if_neg (by omega)]⟩
theorem Fl_step {S S' : pv_S} {c lo hi : Nat} {v : Int32} (hl : lo < hi) (h : Fl (pv_si S c lo v) S' c (lo + 1) hi v) : Fl S S' c lo hi v := by
  obtain ⟨h1, h2, h3⟩ := h
  refine ⟨fun k hk => by rw [h1 k hk, si_ne hk], h2, fun j => ?_⟩
  rw [h3 j, si_eq]
  by_cases e : j = lo
  · subst e
    rw [if_neg (by omega), if_pos (by omega), upd_eq]
  · rw [upd_ne e]
    by_cases q : lo + 1 ≤ j ∧ j < hi
    · rw [if_pos q, if_pos (by omega)]
    · rw [if_neg q, if_neg (by omega)]
theorem nIs {i : Nat} : nI i + 1 = nI (i + 1) := nI_1 i
theorem nIt {i : Nat} (h : i < 100000) : (nI i).toInt = (i : Int) := toInt_of rfl (by omega)
theorem nIc {i : Nat} (h : i < 100000) : (nI i).toNatClampNeg = i := clamp_of rfl (by omega)
theorem nIle {a b : Nat} (ha : a < 100000) (hb : b < 100000) : (nI a ≤ nI b) = (a ≤ b) := by
  rw [Int32.le_iff_toInt_le, nIt ha, nIt hb]
  exact propext ⟨fun h => by omega, fun h => by omega⟩
theorem nIof {n : Int32} (h : 0 ≤ n.toInt) : n = nI n.toInt.toNat := by
  apply Int32.toInt_inj.mp
  have h2 := n.toInt_lt
  rw [show (nI n.toInt.toNat).toInt = ((n.toInt.toNat : Nat) : Int) from toInt_of rfl (by omega)]
  omega
section RW
variable {S : pv_S}
theorem lp_make_r {r v : Int32} (h0 : 0 ≤ r.toInt) (h1 : r.toInt ≤ 5) {N : Nat} (hN : N ≤ 40) : ∀ (k i : Nat) (S : pv_S), i + k = N → ∃ S', pv_R mX3_make 10 [some (.ref 1), some (.int r), some (.int (nI N)), some (.int v), some (.int (nI i))] [] (pv_em S) = some (none, pv_em S') ∧ Fl S S' (4 + r.toNatClampNeg) i N v
  | 0, i, S, h => ⟨S, by rw [bX3_maker_10, if_pos (by rw [nIle (by omega) (by omega)]; omega), bX3_maker_32], Fl_none (by omega)⟩
  | k + 1, i, S, h => by
    obtain ⟨S', g1, g2⟩ := lp_make_r h0 h1 hN k (i + 1) (pv_si S (4 + r.toNatClampNeg) i v) (by omega)
    refine ⟨S', ?_, Fl_step (by omega) g2⟩
    rw [bX3_maker_10, if_neg (by rw [nIle (by omega) (by omega)]; omega), bX3_maker_16, if_neg (ixn (n := 6) h0 (by omega)), if_neg (ixn (r := nI i) (n := 40) (by rw [nIt (by omega)]; omega) (by rw [nIt (by omega)]; omega)), nIs, nIc (by omega)]
    exact g1
theorem lp_make_t {r v : Int32} (h0 : 0 ≤ r.toInt) (h1 : r.toInt ≤ 3) {N : Nat} (hN : N ≤ 60) : ∀ (k i : Nat) (S : pv_S), i + k = N → ∃ S', pv_R mX3_make 10 [some (.ref 10), some (.int r), some (.int (nI N)), some (.int v), some (.int (nI i))] [] (pv_em S) = some (none, pv_em S') ∧ Fl S S' (13 + r.toNatClampNeg) i N v
  | 0, i, S, h => ⟨S, by rw [bX3_maket_10, if_pos (by rw [nIle (by omega) (by omega)]; omega), bX3_maket_32], Fl_none (by omega)⟩
  | k + 1, i, S, h => by
    obtain ⟨S', g1, g2⟩ := lp_make_t h0 h1 hN k (i + 1) (pv_si S (13 + r.toNatClampNeg) i v) (by omega)
    refine ⟨S', ?_, Fl_step (by omega) g2⟩
    rw [bX3_maket_10, if_neg (by rw [nIle (by omega) (by omega)]; omega), bX3_maket_16, if_neg (ixn (n := 4) h0 (by omega)), if_neg (ixn (r := nI i) (n := 60) (by rw [nIt (by omega)]; omega) (by rw [nIt (by omega)]; omega)), nIs, nIc (by omega)]
    exact g1
theorem lp_row_m {r n : Int32} (h0 : 0 ≤ r.toInt) (h1 : r.toInt ≤ 5) : ∀ (k i : Nat) (S : pv_S), i + k = 40 → ∃ S', pv_R mX7_row 34 [some (.ref 37), some (.int r), some (.int n), some (.int (nI i))] [] (pv_em S) = some (some (.int n), pv_em S') ∧ Fl S S' 39 (40 * r.toNatClampNeg + i) (40 * r.toNatClampNeg + 40) 0
  | 0, i, S, h => ⟨S, by rw [bX7_row_34, if_pos (by rw [show (40 : Int32) = nI 40 from rfl, nIle (by omega) (by omega)]; omega), bX7_row_58], Fl_none (by omega)⟩
  | k + 1, i, S, h => by
    have hi0 : (nI i).toInt = (i : Int) := nIt (by omega)
    obtain ⟨q1, q2⟩ := rix (r := r) (i := nI i) (most := 40) i40 (by omega) h0 h1 (by rw [hi0]; omega) (by rw [hi0]; omega)
    rw [nIc (by omega)] at q2
    obtain ⟨S', g1, g2⟩ := lp_row_m h0 h1 k (i + 1) (pv_si S 39 (40 * r.toNatClampNeg + i) 0) (by omega)
    refine ⟨S', ?_, Fl_step (by omega) g2⟩
    rw [bX7_row_34, if_neg (by rw [show (40 : Int32) = nI 40 from rfl, nIle (by omega) (by omega)]; omega), bX7_row_40, if_neg (ixn (n := 240) (by rw [q1, hi0]; omega) (by rw [q1, hi0]; omega)), nIs, q2]
    exact g1
theorem lp_text_m {r n : Int32} (h0 : 0 ≤ r.toInt) (h1 : r.toInt ≤ 3) : ∀ (k i : Nat) (S : pv_S), i + k = 60 → ∃ S', pv_R mX7_text 34 [some (.ref 37), some (.int r), some (.int n), some (.int (nI i))] [] (pv_em S) = some (some (.int n), pv_em S') ∧ Fl S S' 41 (60 * r.toNatClampNeg + i) (60 * r.toNatClampNeg + 60) 32
  | 0, i, S, h => ⟨S, by rw [bX7_text_34, if_pos (by rw [show (60 : Int32) = nI 60 from rfl, nIle (by omega) (by omega)]; omega), bX7_text_59], Fl_none (by omega)⟩
  | k + 1, i, S, h => by
    have hi0 : (nI i).toInt = (i : Int) := nIt (by omega)
    obtain ⟨q1, q2⟩ := rix (r := r) (i := nI i) (most := 60) i60 (by omega) h0 (by omega) (by rw [hi0]; omega) (by rw [hi0]; omega)
    rw [nIc (by omega)] at q2
    obtain ⟨S', g1, g2⟩ := lp_text_m h0 h1 k (i + 1) (pv_si S 41 (60 * r.toNatClampNeg + i) 32) (by omega)
    refine ⟨S', ?_, Fl_step (by omega) g2⟩
    rw [bX7_text_34, if_neg (by rw [show (60 : Int32) = nI 60 from rfl, nIle (by omega) (by omega)]; omega), bX7_text_40, if_neg (ixn (n := 240) (by rw [q1, hi0]; omega) (by rw [q1, hi0]; omega)), nIs, q2]
    exact g1
/-- a row's size and beginning set anew, on both sides -/
theorem shelf_new {S S' : pv_S} {cs cp ms mr n most r N : Nat} {v z : Int32} (hd : cs < cp ∧ cp + n ≤ ms ∧ ms < mr) (hz : z.toInt = (N : Int) ∨ (z.toInt = -1 ∧ N = 0)) (hN : N ≤ most) (I : iv_shelf S cs cp ms mr n most) (hr : r < n)
    (c1 : ∀ k, k ≠ cs → k ≠ ms → k ≠ cp + r → k ≠ mr → S'.1 k = S.1 k) (c2 : S'.1 cs = upd (S.1 cs) r z) (c3 : S'.1 ms = upd (S.1 ms) r z) (c4 : ∀ i, i < N → S'.1 (cp + r) i = v ∧ S'.1 mr (most * r + i) = v) (c5 : ∀ q i, q ≠ r → i < most → S'.1 mr (most * q + i) = S.1 mr (most * q + i)) : iv_shelf S' cs cp ms mr n most := by
  intro q hq
  rw [c2, c3]
  by_cases e : q = r
  · subst e
    rw [upd_eq, upd_eq]
    refine ⟨rfl, by omega, by omega, fun i hi => ?_⟩
    obtain ⟨g1, g2⟩ := c4 i (by omega)
    rw [g1, g2]
  · rw [upd_ne e, upd_ne e]
    obtain ⟨g1, g2, g3, g4⟩ := I q hq
    refine ⟨g1, g2, g3, fun i hi => ?_⟩
    rw [c5 q i e (by omega), c1 (cp + q) (by omega) (by omega) (by omega) (by omega)]
    exact g4 i hi
/-- all but the rows -/
theorem Inv_rows {S S' : pv_S} (I : Inv S) (hr : iv_rows S') (hc : ∀ k, k ≠ 2 → k ≠ 38 → k ≠ 39 → ¬ (4 ≤ k ∧ k ≤ 9) → S'.1 k = S.1 k) (h2 : S'.2 = S.2) : Inv S' := by
  obtain ⟨I1, I2, I3, I4⟩ := I
  refine ⟨hr, shelf_congr ?_ (fun q hq => ?_) ?_ ?_ I2, ?_, town_congr (fun k hk => ?_) ?_ ?_ ?_ I4⟩
  · exact hc 11 (by omega) (by omega) (by omega) (by omega)
  · exact hc _ (by omega) (by omega) (by omega) (by omega)
  · exact hc 40 (by omega) (by omega) (by omega) (by omega)
  · exact hc 41 (by omega) (by omega) (by omega) (by omega)
  · unfold iv_told
    rw [h2, hc 37 (by omega) (by omega) (by omega) (by omega), hc 35 (by omega) (by omega) (by omega) (by omega), hc 48 (by omega) (by omega) (by omega) (by omega), hc 36 (by omega) (by omega) (by omega) (by omega)]
    exact I3
  · exact hc k (by omega) (by omega) (by omega) (by omega)
  · rw [hc 37 (by omega) (by omega) (by omega) (by omega)]
  · rw [hc 37 (by omega) (by omega) (by omega) (by omega)]
  · rw [hc 37 (by omega) (by omega) (by omega) (by omega)]
theorem Inv_texts {S S' : pv_S} (I : Inv S) (hr : iv_texts S') (hc : ∀ k, k ≠ 11 → k ≠ 40 → k ≠ 41 → ¬ (13 ≤ k ∧ k ≤ 16) → S'.1 k = S.1 k) (h2 : S'.2 = S.2) : Inv S' := by
  obtain ⟨I1, I2, I3, I4⟩ := I
  refine ⟨shelf_congr ?_ (fun q hq => ?_) ?_ ?_ I1, hr, ?_, town_congr (fun k hk => ?_) ?_ ?_ ?_ I4⟩
  · exact hc 2 (by omega) (by omega) (by omega) (by omega)
  · exact hc _ (by omega) (by omega) (by omega) (by omega)
  · exact hc 38 (by omega) (by omega) (by omega) (by omega)
  · exact hc 39 (by omega) (by omega) (by omega) (by omega)
  · unfold iv_told
    rw [h2, hc 37 (by omega) (by omega) (by omega) (by omega), hc 35 (by omega) (by omega) (by omega) (by omega), hc 48 (by omega) (by omega) (by omega) (by omega), hc 36 (by omega) (by omega) (by omega) (by omega)]
    exact I3
  · exact hc k (by omega) (by omega) (by omega) (by omega)
  · rw [hc 37 (by omega) (by omega) (by omega) (by omega)]
  · rw [hc 37 (by omega) (by omega) (by omega) (by omega)]
  · rw [hc 37 (by omega) (by omega) (by omega) (by omega)]
theorem tq_tear (I : Inv S) (r : Int32) : pv_goI Inv S mX6_tear mX7_tear [.int r] := by
  by_cases hr : 0 ≤ r.toInt ∧ r.toInt ≤ 5
  · have hx := ixn (r := r) (n := 6) hr.1 (by omega)
    have tr := tcn hr.1
    obtain ⟨g1, g2, g3, g4⟩ := I.1 r.toNatClampNeg (by omega)
    by_cases hs : 0 ≤ (S.1 2 r.toNatClampNeg).toInt
    · refine ⟨1, pv_si S 2 r.toNatClampNeg (-1), pv_si (pv_si S 2 r.toNatClampNeg (-1)) 38 r.toNatClampNeg (-1), ?_, ?_, ?_⟩
      · show pv_R mX6_tear 0 [some (.ref 0), some (.int r), none] [] (pv_em S) = _
        simp only [bX6_tear_0, bX6_tear_9, bX6_tear_14, bX6_tear_16, bX6_tear_24, bX3_remover_0, x_miss_r2 hr hs, pv_cc_some, pv_cc_void, hx, if_true, if_false]
      · show pv_R mX7_tear 0 [some (.ref 37), some (.int r)] [] (pv_em _) = _
        simp only [bX7_tear_0, bX7_tear_4, bX7_tear_7, bX7_tear_9, bX7_tear_18, bX7_tear_23, bX7_tear_24, c_isRow, pv_cc_some, bI_0, hr, hx, si_ne (S := S) (k := 2) (k' := 38) (by decide), g1, hs, Int32.le_iff_toInt_le, i0, and_self, not_true_eq_false, not_false_eq_true, if_true, if_false]
      · refine Inv_rows I (shelf_new (N := 0) (v := 0) (z := -1) (by omega) (Or.inr ⟨by decide, rfl⟩) (by omega) I.1 (r := r.toNatClampNeg) (by omega) (fun k k1 k2 k3 k4 => ?_) ?_ ?_ (fun i hi => by omega) (fun q i hq hi => ?_)) (fun k k1 k2 k3 k4 => ?_) rfl
        · rw [si_ne k2, si_ne k1]
        · rw [si_ne (by decide), si_eq]
        · rw [si_eq, si_ne (by decide)]
        · rw [si_ne (by decide), si_ne (by decide)]
        · rw [si_ne k2, si_ne k1]
    · refine ⟨-3, xf S 1, _, ?_, ?_, Inv_find (f := 1) I (by omega) (by omega)⟩
      · show pv_R mX6_tear 0 [some (.ref 0), some (.int r), none] [] (pv_em S) = _
        simp only [bX6_tear_0, bX6_tear_9, bX6_tear_14, bX6_tear_16, bX6_tear_24, x_miss_r1 hr hs, pv_cc_some, n0m3, if_true, if_false]
      · show pv_R mX7_tear 0 [some (.ref 37), some (.int r)] [] (pv_em _) = _
        simp only [bX7_tear_0, bX7_tear_4, bX7_tear_7, bX7_tear_9, bX7_tear_18, bX7_tear_23, bX7_tear_24, c_isRow, m_find_1, pv_cc_some, bI_0, hr, hx, xf_ne (S := S) (k := 38) (by decide) (by decide), g1, hs, Int32.le_iff_toInt_le, i0, and_self, not_true_eq_false, not_false_eq_true, if_true, if_false]
  · refine ⟨-1, S, S, ?_, ?_, I⟩
    · show pv_R mX6_tear 0 [some (.ref 0), some (.int r), none] [] (pv_em S) = _
      simp only [bX6_tear_0, bX6_tear_9, bX6_tear_14, bX6_tear_16, bX6_tear_24, x_miss_r0 hr, pv_cc_some, n0m1, if_true, if_false]
    · show pv_R mX7_tear 0 [some (.ref 37), some (.int r)] [] (pv_em _) = _
      simp only [bX7_tear_0, bX7_tear_4, bX7_tear_7, bX7_tear_9, bX7_tear_18, bX7_tear_23, bX7_tear_24, c_isRow, pv_cc_some, bI_0, hr, not_true_eq_false, not_false_eq_true, if_true, if_false]
theorem tq_row (I : Inv S) (r n : Int32) : pv_goI Inv S mX6_row mX7_row [.int r, .int n] := by
  by_cases hr : 0 ≤ r.toInt ∧ r.toInt ≤ 5
  · have hx := ixn (r := r) (n := 6) hr.1 (by omega)
    have tr := tcn hr.1
    by_cases hn : n.toInt ≤ 40
    · by_cases hn0 : 0 ≤ n.toInt
      · have en := nIof hn0
        generalize hN : n.toInt.toNat = N at en
        have hN40 : N ≤ 40 := by omega
        obtain ⟨S1, a1, f1, f2, f3⟩ := lp_make_r (v := 0) hr.1 hr.2 hN40 N 0 (pv_si S 2 r.toNatClampNeg n) (by omega)
        obtain ⟨S2, b1, m1, m2, m3⟩ := lp_row_m (n := n) hr.1 hr.2 40 0 (pv_si S1 38 r.toNatClampNeg n) (by omega)
        refine ⟨n, S1, S2, ?_, ?_, ?_⟩
        · show pv_R mX6_row 0 [some (.ref 0), some (.int r), some (.int n)] [] (pv_em S) = _
          have e2 : pv_R mX3_make 0 [some (.ref 1), some (.int r), some (.int n), some (.int 0), none] [] (pv_em S) = some (none, pv_em S1) := by
            rw [bX3_maker_0, if_neg hx, ← a1, en]
            rfl
          simp only [bX6_row_0, bX6_row_11, bX6_makeAnewr_0, bX6_makeAnewr_5, bX6_makeAnewr_8, bX6_makeAnewr_16, bX6_makeAnewr_18, bX6_makeAnewr_22, bX6_makeAnewr_30, bX6_makeAnewr_31, bX6_makeAnewr_39, x_hasNumber_r, e2, pv_cc_some, pv_cc_void, bI_0, hr, hn, hn0, i40, i0, Int32.le_iff_toInt_le, and_self, not_true_eq_false, not_false_eq_true, if_true, if_false]
        · show pv_R mX7_row 0 [some (.ref 37), some (.int r), some (.int n), none] [] (pv_em _) = _
          have e3 : pv_R mX7_row 25 [some (.ref 37), some (.int r), some (.int n), none] [] (pv_em S1) = some (some (.int n), pv_em S2) := by
            rw [bX7_row_25, if_neg hx]
            exact b1
          simp only [bX7_row_0, bX7_row_4, bX7_row_7, bX7_row_13, bX7_row_15, bX7_row_19, bX7_row_24, e3, c_isRow, pv_cc_some, bI_0, hr, hn, hn0, i40, i0, Int32.le_iff_toInt_le, and_self, not_true_eq_false, not_false_eq_true, if_true, if_false]
        · refine Inv_rows I (shelf_new (N := N) (v := 0) (z := n) (by omega) (Or.inl (by omega)) hN40 I.1 (r := r.toNatClampNeg) (by omega) (fun k k1 k2 k3 k4 => ?_) ?_ ?_ (fun i hi => ⟨?_, ?_⟩) (fun q i hq hi => ?_)) (fun k k1 k2 k3 k4 => ?_) (by rw [m2]; exact f2)
          · rw [m1 k k4, si_ne k2, f1 k k3, si_ne k1]
          · rw [m1 2 (by decide), si_ne (by decide), f1 2 (by omega), si_eq]
          · rw [m1 38 (by decide), si_eq, f1 38 (by omega), si_ne (by decide)]
          · rw [m1 _ (by omega), si_ne (by omega), f3, if_pos (by omega)]
          · rw [m3, if_pos (by omega)]
          · rw [m3, if_neg (by omega), si_ne (by decide), f1 39 (by omega), si_ne (by decide)]
          · rw [m1 k k3, si_ne k2, f1 k (by omega), si_ne k1]
      · refine ⟨-3, xf S 5, _, ?_, ?_, Inv_find (f := 5) I (by omega) (by omega)⟩
        · show pv_R mX6_row 0 [some (.ref 0), some (.int r), some (.int n)] [] (pv_em S) = _
          simp only [bX6_row_0, bX6_row_11, bX6_makeAnewr_0, bX6_makeAnewr_5, bX6_makeAnewr_8, bX6_makeAnewr_16, bX6_makeAnewr_18, bX6_makeAnewr_22, bX6_makeAnewr_30, bX6_makeAnewr_31, bX6_makeAnewr_39, x_hasNumber_r, x_find_5, pv_cc_some, pv_cc_void, bI_0, hr, hn, hn0, i40, i0, Int32.le_iff_toInt_le, and_self, not_true_eq_false, not_false_eq_true, if_true, if_false]
        · show pv_R mX7_row 0 [some (.ref 37), some (.int r), some (.int n), none] [] (pv_em _) = _
          simp only [bX7_row_0, bX7_row_4, bX7_row_7, bX7_row_13, bX7_row_15, bX7_row_19, bX7_row_24, m_find_5, c_isRow, pv_cc_some, bI_0, hr, hn, hn0, i40, i0, Int32.le_iff_toInt_le, and_self, not_true_eq_false, not_false_eq_true, if_true, if_false]
    · refine ⟨-1, S, S, ?_, ?_, I⟩
      · show pv_R mX6_row 0 [some (.ref 0), some (.int r), some (.int n)] [] (pv_em S) = _
        simp only [bX6_row_0, bX6_row_11, bX6_makeAnewr_0, bX6_makeAnewr_5, bX6_makeAnewr_8, bX6_makeAnewr_16, bX6_makeAnewr_18, bX6_makeAnewr_22, bX6_makeAnewr_30, bX6_makeAnewr_31, bX6_makeAnewr_39, x_hasNumber_r, pv_cc_some, bI_0, hr, hn, i40, i0, Int32.le_iff_toInt_le, and_self, not_true_eq_false, not_false_eq_true, if_true, if_false]
      · show pv_R mX7_row 0 [some (.ref 37), some (.int r), some (.int n), none] [] (pv_em _) = _
        simp only [bX7_row_0, bX7_row_4, bX7_row_7, bX7_row_13, bX7_row_15, bX7_row_19, bX7_row_24, c_isRow, pv_cc_some, bI_0, hr, hn, i40, i0, Int32.le_iff_toInt_le, and_self, not_true_eq_false, not_false_eq_true, if_true, if_false]
  · refine ⟨-1, S, S, ?_, ?_, I⟩
    · show pv_R mX6_row 0 [some (.ref 0), some (.int r), some (.int n)] [] (pv_em S) = _
      simp only [bX6_row_0, bX6_row_11, bX6_makeAnewr_0, bX6_makeAnewr_5, bX6_makeAnewr_8, bX6_makeAnewr_16, bX6_makeAnewr_18, bX6_makeAnewr_22, bX6_makeAnewr_30, bX6_makeAnewr_31, bX6_makeAnewr_39, x_hasNumber_r, pv_cc_some, bI_0, hr, not_true_eq_false, not_false_eq_true, if_true, if_false]
    · show pv_R mX7_row 0 [some (.ref 37), some (.int r), some (.int n), none] [] (pv_em _) = _
      simp only [bX7_row_0, bX7_row_4, bX7_row_7, bX7_row_13, bX7_row_15, bX7_row_19, bX7_row_24, c_isRow, pv_cc_some, bI_0, hr, not_true_eq_false, not_false_eq_true, if_true, if_false]
theorem tq_text (I : Inv S) (r n : Int32) : pv_goI Inv S mX6_text mX7_text [.int r, .int n] := by
  by_cases hr : 0 ≤ r.toInt ∧ r.toInt ≤ 3
  · have hx := ixn (r := r) (n := 4) hr.1 (by omega)
    have tr := tcn hr.1
    by_cases hn : n.toInt ≤ 60
    · by_cases hn0 : 0 ≤ n.toInt
      · have en := nIof hn0
        generalize hN : n.toInt.toNat = N at en
        have hN40 : N ≤ 60 := by omega
        obtain ⟨S1, a1, f1, f2, f3⟩ := lp_make_t (v := 32) hr.1 hr.2 hN40 N 0 (pv_si S 11 r.toNatClampNeg n) (by omega)
        obtain ⟨S2, b1, m1, m2, m3⟩ := lp_text_m (n := n) hr.1 hr.2 60 0 (pv_si S1 40 r.toNatClampNeg n) (by omega)
        refine ⟨n, S1, S2, ?_, ?_, ?_⟩
        · show pv_R mX6_text 0 [some (.ref 0), some (.int r), some (.int n)] [] (pv_em S) = _
          have e2 : pv_R mX3_make 0 [some (.ref 10), some (.int r), some (.int n), some (.int 32), none] [] (pv_em S) = some (none, pv_em S1) := by
            rw [bX3_maket_0, if_neg hx, ← a1, en]
            rfl
          simp only [bX6_text_0, bX6_text_12, bX6_makeAnewt_0, bX6_makeAnewt_5, bX6_makeAnewt_8, bX6_makeAnewt_16, bX6_makeAnewt_18, bX6_makeAnewt_22, bX6_makeAnewt_30, bX6_makeAnewt_31, bX6_makeAnewt_39, x_hasNumber_t, e2, pv_cc_some, pv_cc_void, bI_0, hr, hn, hn0, i60, i0, Int32.le_iff_toInt_le, and_self, not_true_eq_false, not_false_eq_true, if_true, if_false]
        · show pv_R mX7_text 0 [some (.ref 37), some (.int r), some (.int n), none] [] (pv_em _) = _
          have e3 : pv_R mX7_text 25 [some (.ref 37), some (.int r), some (.int n), none] [] (pv_em S1) = some (some (.int n), pv_em S2) := by
            rw [bX7_text_25, if_neg hx]
            exact b1
          simp only [bX7_text_0, bX7_text_4, bX7_text_7, bX7_text_13, bX7_text_15, bX7_text_19, bX7_text_24, e3, c_isText, pv_cc_some, bI_0, hr, hn, hn0, i60, i0, Int32.le_iff_toInt_le, and_self, not_true_eq_false, not_false_eq_true, if_true, if_false]
        · refine Inv_texts I (shelf_new (N := N) (v := 32) (z := n) (by omega) (Or.inl (by omega)) hN40 I.2.1 (r := r.toNatClampNeg) (by omega) (fun k k1 k2 k3 k4 => ?_) ?_ ?_ (fun i hi => ⟨?_, ?_⟩) (fun q i hq hi => ?_)) (fun k k1 k2 k3 k4 => ?_) (by rw [m2]; exact f2)
          · rw [m1 k k4, si_ne k2, f1 k k3, si_ne k1]
          · rw [m1 11 (by decide), si_ne (by decide), f1 11 (by omega), si_eq]
          · rw [m1 40 (by decide), si_eq, f1 40 (by omega), si_ne (by decide)]
          · rw [m1 _ (by omega), si_ne (by omega), f3, if_pos (by omega)]
          · rw [m3, if_pos (by omega)]
          · rw [m3, if_neg (by omega), si_ne (by decide), f1 41 (by omega), si_ne (by decide)]
          · rw [m1 k k3, si_ne k2, f1 k (by omega), si_ne k1]
      · refine ⟨-3, xf S 5, _, ?_, ?_, Inv_find (f := 5) I (by omega) (by omega)⟩
        · show pv_R mX6_text 0 [some (.ref 0), some (.int r), some (.int n)] [] (pv_em S) = _
          simp only [bX6_text_0, bX6_text_12, bX6_makeAnewt_0, bX6_makeAnewt_5, bX6_makeAnewt_8, bX6_makeAnewt_16, bX6_makeAnewt_18, bX6_makeAnewt_22, bX6_makeAnewt_30, bX6_makeAnewt_31, bX6_makeAnewt_39, x_hasNumber_t, x_find_5, pv_cc_some, pv_cc_void, bI_0, hr, hn, hn0, i60, i0, Int32.le_iff_toInt_le, and_self, not_true_eq_false, not_false_eq_true, if_true, if_false]
        · show pv_R mX7_text 0 [some (.ref 37), some (.int r), some (.int n), none] [] (pv_em _) = _
          simp only [bX7_text_0, bX7_text_4, bX7_text_7, bX7_text_13, bX7_text_15, bX7_text_19, bX7_text_24, m_find_5, c_isText, pv_cc_some, bI_0, hr, hn, hn0, i60, i0, Int32.le_iff_toInt_le, and_self, not_true_eq_false, not_false_eq_true, if_true, if_false]
    · refine ⟨-1, S, S, ?_, ?_, I⟩
      · show pv_R mX6_text 0 [some (.ref 0), some (.int r), some (.int n)] [] (pv_em S) = _
        simp only [bX6_text_0, bX6_text_12, bX6_makeAnewt_0, bX6_makeAnewt_5, bX6_makeAnewt_8, bX6_makeAnewt_16, bX6_makeAnewt_18, bX6_makeAnewt_22, bX6_makeAnewt_30, bX6_makeAnewt_31, bX6_makeAnewt_39, x_hasNumber_t, pv_cc_some, bI_0, hr, hn, i60, i0, Int32.le_iff_toInt_le, and_self, not_true_eq_false, not_false_eq_true, if_true, if_false]
      · show pv_R mX7_text 0 [some (.ref 37), some (.int r), some (.int n), none] [] (pv_em _) = _
        simp only [bX7_text_0, bX7_text_4, bX7_text_7, bX7_text_13, bX7_text_15, bX7_text_19, bX7_text_24, c_isText, pv_cc_some, bI_0, hr, hn, i60, i0, Int32.le_iff_toInt_le, and_self, not_true_eq_false, not_false_eq_true, if_true, if_false]
  · refine ⟨-1, S, S, ?_, ?_, I⟩
    · show pv_R mX6_text 0 [some (.ref 0), some (.int r), some (.int n)] [] (pv_em S) = _
      simp only [bX6_text_0, bX6_text_12, bX6_makeAnewt_0, bX6_makeAnewt_5, bX6_makeAnewt_8, bX6_makeAnewt_16, bX6_makeAnewt_18, bX6_makeAnewt_22, bX6_makeAnewt_30, bX6_makeAnewt_31, bX6_makeAnewt_39, x_hasNumber_t, pv_cc_some, bI_0, hr, not_true_eq_false, not_false_eq_true, if_true, if_false]
    · show pv_R mX7_text 0 [some (.ref 37), some (.int r), some (.int n), none] [] (pv_em _) = _
      simp only [bX7_text_0, bX7_text_4, bX7_text_7, bX7_text_13, bX7_text_15, bX7_text_19, bX7_text_24, c_isText, pv_cc_some, bI_0, hr, not_true_eq_false, not_false_eq_true, if_true, if_false]
end RW
