/-! ===== undo, keep, on ===== -/
section UN
variable {S S1 S2 Y Z : pv_S} {n c c' m : Nat} {dl : Nat → Int32}
theorem x_replay (hn : n ≤ 6) (h7 : Y.1 21 7 = nI n) (hf : ∀ i, i < n → 1 ≤ (Y.1 24 i).toInt ∧ (Y.1 24 i).toInt ≤ 99) (hm : m ≤ 40) (ok : ∀ d, d < m → tw_ok n (Y.1 26 d)) {a : Option Value} : ∃ Z, pv_R mX5_replay 0 [some (.ref 21), some (.int (nI m)), a] [] (pv_em Y) = some (none, pv_em Z) ∧ Cst Y n m (Y.1 26) Z ∧ Z.1 26 = Y.1 26 := by
  rw [bX5_replay_0]
  generalize hY0 : pv_si (pv_si (pv_si (pv_si Y 21 9 0) 21 10 0) 21 11 0) 21 12 0 = Y0
  have y1 : ∀ k, k ≠ 21 → Y0.1 k = Y.1 k := fun k hk => by rw [← hY0, si_ne hk, si_ne hk, si_ne hk, si_ne hk]
  have y2 : Y0.2 = Y.2 := by rw [← hY0]; rfl
  have y3 : ∀ j, j < 9 ∨ 12 < j → Y0.1 21 j = Y.1 21 j := fun j hj => by rw [← hY0, si_eq, upd_ne (by omega), si_eq, upd_ne (by omega), si_eq, upd_ne (by omega), si_eq, upd_ne (by omega)]
  have y9 : Y0.1 21 9 = 0 := by rw [← hY0, si_eq, upd_ne (by decide), si_eq, upd_ne (by decide), si_eq, upd_ne (by decide), si_eq, upd_eq]
  have y10 : Y0.1 21 10 = 0 := by rw [← hY0, si_eq, upd_ne (by decide), si_eq, upd_ne (by decide), si_eq, upd_eq]
  have y11 : Y0.1 21 11 = 0 := by rw [← hY0, si_eq, upd_ne (by decide), si_eq, upd_eq]
  have y12 : Y0.1 21 12 = 0 := by rw [← hY0, si_eq, upd_eq]
  clear hY0
  obtain ⟨Z1, e1, z1, z2, z3⟩ := lpE (R := fun k (Z : pv_S) => pv_R mX5_replay 22 [some (.ref 21), some (.int (nI m)), some (.int (nI k))] [] (pv_em Z)) (N := n) (fun k Z => (∀ k', k' ≠ 25 → Z.1 k' = Y0.1 k') ∧ Z.2 = Y0.2 ∧ ∀ q, q < k → Z.1 25 q = Y.1 24 q) (fun k Z hk hP => by
    obtain ⟨h1, h2, h3⟩ := hP
    refine ⟨pv_si Z 25 k (Y.1 24 k), ?_, fun k' z => by rw [si_ne z]; exact h1 k' z, h2, fun q hq => ?_⟩
    · refine Eq.trans bX5_replay_22 ?_
      rw [h1 21 (by decide), y3 7 (by omega), h7, if_neg (by rw [nIle (by omega) (by omega)]; omega), bX5_replay_30, if_neg (gx (by omega) (by omega)), if_neg (gx (by omega) (by omega)), nIc (by omega), nIs, h1 24 (by decide), y1 24 (by decide)]
    · rw [si_eq]
      by_cases e : q = k
      · rw [e, upd_eq]
      · rw [upd_ne e]; exact h3 q (by omega)) n 0 Y0 (by omega) ⟨fun _ _ => rfl, rfl, fun q hq => absurd hq (by omega)⟩
  have V0 : cv Z1 n (tw_rp n (Y.1 22) (Y.1 23) (Y.1 24) (Y.1 26) 0) := by
    refine ⟨fun i hi => ?_, ?_, ?_, ?_, ?_⟩
    · show _ = if i < n then Y.1 24 i else 0
      rw [if_pos hi]; exact z3 i hi
    · show _ = if 6 < n then Y.1 24 6 else 0
      rw [if_neg (by omega), z1 21 (by decide)]; exact y9
    · show _ = if 7 < n then Y.1 24 7 else 0
      rw [if_neg (by omega), z1 21 (by decide)]; exact y11
    · show _ = if 8 < n then Y.1 24 8 else 0
      rw [if_neg (by omega), z1 21 (by decide)]; exact y12
    · show _ = if 9 < n then Y.1 24 9 else 0
      rw [if_neg (by omega), z1 21 (by decide)]; exact y10
  obtain ⟨Z2, e2, w1, w2, w3, w4⟩ := lpE (R := fun k (Z : pv_S) => pv_R mX5_replay 50 [some (.ref 21), some (.int (nI m)), some (.int (nI k))] [] (pv_em Z)) (N := m) (fun k Z => (∀ k', k' ≠ 21 → k' ≠ 25 → Z.1 k' = Y.1 k') ∧ Z.2 = Y.2 ∧ (∀ j, j = 7 ∨ j = 8 ∨ j = 13 → Z.1 21 j = Y.1 21 j) ∧ cv Z n (tw_rp n (Y.1 22) (Y.1 23) (Y.1 24) (Y.1 26) k)) (fun k Z hk hP => by
    obtain ⟨h1, h2, h3, h4⟩ := hP
    have Bd := tw_b_rp (n := n) (kd := Y.1 22) (ap := Y.1 23) (fw := Y.1 24) (dl := Y.1 26) hn hf k (by omega) (fun d hd => ok d (by omega))
    obtain ⟨X, e, ⟨a1, a2, a3⟩, V⟩ := x_act (S := Z) (deed := Y.1 26 k) hn (by rw [h3 7 (by omega)]; exact h7) h4 Bd (ok k hk) (a := none)
    have a3 : ∀ j, j = 7 ∨ j = 8 ∨ j = 13 → X.1 21 j = Z.1 21 j := a3
    refine ⟨X, ?_, fun k' q1 q2 => by rw [a1 k' q1 q2]; exact h1 k' q1 q2, a2.trans h2, fun j hj => by rw [a3 j hj]; exact h3 j hj, ?_⟩
    · refine Eq.trans bX5_replay_50 ?_
      rw [if_neg (by rw [nIle (by omega) (by omega)]; omega), bX5_replay_55, show (40 : Int32) = nI 40 from rfl, if_neg (by rw [nIle (by omega) (by omega)]; omega), bX5_replay_61, if_neg (gx (by omega) (by omega)), nIc (by omega), h1 26 (by decide) (by decide), e, pv_cc_void, bX5_replay_71, nIs]
    · rw [h1 22 (by decide) (by decide), h1 23 (by decide) (by decide)] at V
      exact V) m 0 Z1 (by omega) ⟨fun k' q1 q2 => by rw [z1 k' q2]; exact y1 k' q1, z2.trans y2, fun j hj => by rw [z1 21 (by decide)]; exact y3 j (by omega), V0⟩
  have w3 : ∀ j, j = 7 ∨ j = 8 ∨ j = 13 → Z2.1 21 j = Y.1 21 j := w3
  refine ⟨pv_si Z2 21 13 (nI m), Eq.trans e1 ?_, ⟨fun k k1 k2 k3 => by rw [si_ne k1]; exact w1 k k1 k2, w2, ?_, ?_, ?_, fun d hd => by rw [si_ne (by decide), w1 26 (by decide) (by decide)], ?_⟩, by rw [si_ne (by decide), w1 26 (by decide) (by decide)]⟩
  · show pv_R mX5_replay 22 _ _ _ = _
    rw [bX5_replay_22, z1 21 (by decide), y3 7 (by omega), h7, if_pos (Int32.le_refl _), bX5_replay_48]
    refine Eq.trans e2 ?_
    show pv_R mX5_replay 50 _ _ _ = _
    rw [bX5_replay_50, if_pos (Int32.le_refl _), bX5_replay_77]
  · rw [si_eq, upd_ne (by decide)]; exact w3 7 (by omega)
  · rw [si_eq, upd_ne (by decide)]; exact w3 8 (by omega)
  · rw [si_eq, upd_eq]
  · obtain ⟨v1, v2, v3, v4, v5⟩ := w4
    exact ⟨fun i hi => by rw [si_ne (by decide)]; exact v1 i hi, by rw [si_eq, upd_ne (by decide)]; exact v2, by rw [si_eq, upd_ne (by decide)]; exact v3, by rw [si_eq, upd_ne (by decide)]; exact v4, by rw [si_eq, upd_ne (by decide)]; exact v5⟩
theorem e10m (h : m ≤ 1000) : (10 : Int32) * nI m = nI (10 * m) := by
  refine Int32.toInt_inj.mp ?_
  rw [ml_i (by rw [i10, nIt (by omega)]; omega) (by rw [i10, nIt (by omega)]; omega), i10, nIt (by omega), nIt (by omega)]
  omega
theorem i411 : (411 : Int32).toInt = 411 := by decide
theorem e411 (h : m ≤ 3) : (411 : Int32) * nI m = nI (411 * m) := by
  refine Int32.toInt_inj.mp ?_
  rw [ml_i (by rw [i411, nIt (by omega)]; omega) (by rw [i411, nIt (by omega)]; omega), i411, nIt (by omega), nIt (by omega)]
  omega
theorem tq_undo (I : Inv S) (x : Int32) : pv_goI Inv S mX6_undo mX7_undo [.int x] := by
  obtain ⟨n, c, T⟩ := tw_of I
  have hn := tw_n T
  have hc := tw_c T
  by_cases hx : 0 ≤ x.toInt ∧ x.toInt ≤ (c : Int)
  · obtain ⟨m, e, hm⟩ := nIex hx.1
    subst e
    have B := Bs_Tw T
    have ok : ∀ d, d < m → tw_ok n (S.1 26 d) := fun d hd => tw_dd T (by omega)
    obtain ⟨S1, e1, C, _⟩ := x_replay (Y := S) hn (tw_x7 T) (fun i hi => tw_fb T hi) (m := m) (by omega) ok (a := none)
    have M0 := Mst_0 T C
    have h9 : S1.1 37 9 = nI c := by rw [C.1 37 (by decide) (by decide) (by decide)]; exact tw_m9 T
    have ex : pv_R mX6_undo 0 [some (.ref 0), some (.int (nI m)), none] [] (pv_em S) = some (some (.int (nI (c - m))), pv_em S1) := by
      simp only [bX6_undo_0, bX6_undo_12, bX6_undo_15, bX6_undo_17, bX6_undo_35, x_within, tw_x13 T, nIt (i := c) (by omega), i0, hx, pv_cc_some, pv_cc_void, bI_0, e1, nIsub (a := c) (b := m) (by omega) (by omega), and_self, not_true_eq_false, not_false_eq_true, if_true, if_false]
    by_cases q : m = c
    · subst q
      have M : Mst S1 n m (S.1 26) (pv_si S1 37 9 (nI m)) := by
        obtain ⟨m1, m2, m3, m4, m5, m6⟩ := M0
        exact ⟨fun k k1 k2 k3 => si_ne k1, rfl, fun j hj => by rw [si_eq, upd_ne hj], by rw [si_eq, upd_eq]; rfl, fun j hj => by rw [si_ne (by decide)]; exact m5 j hj, fun d hd j hj => by rw [si_ne (by decide)]; exact m6 d hd j hj⟩
      refine ⟨nI (m - m), S1, pv_si S1 37 9 (nI m), ex, ?_, (Inv_st I T C M (by omega) ok).1⟩
      show pv_R mX7_undo 0 [some (.ref 37), some (.int (nI m)), none] [] (pv_em S1) = _
      have hx2 : 0 ≤ (m : Int) ∧ (m : Int) ≤ m := by omega
      have z : (nI (m - m) ≤ 0) = True := eq_true (by rw [show m - m = 0 from by omega]; decide)
      simp only [bX7_undo_0, bX7_undo_11, bX7_undo_14, bX7_undo_16, bX7_undo_27, bX7_undo_45, c_in, h9, j0, Int32.toInt_toInt64, nIt (i := m) (by omega), hx2, pv_cc_some, bI_0, nIsub (a := m) (b := m) (by omega) (by omega), z, and_self, not_true_eq_false, not_false_eq_true, if_true, if_false]
    · obtain ⟨Y, e2, y1, y2, y3⟩ := cp_45_44 (S := S1) (i := 10 * m) (j := 0) (N := 10) (by omega) (by omega) (a := none)
      have M : Mst S1 n m (S.1 26) (pv_si Y 37 9 (nI m)) := by
        obtain ⟨m1, m2, m3, m4, m5, m6⟩ := M0
        refine ⟨fun k k1 k2 k3 => by rw [si_ne k1]; exact y1 k k2, y2, fun j hj => by rw [si_eq, upd_ne hj, y1 37 (by decide)], by rw [si_eq, upd_eq]; rfl, fun j hj => ?_, fun d hd j hj => ?_⟩
        · rw [si_ne (by decide), y3, if_pos (by omega), show 10 * m + (j - 0) = 10 * m + j from by omega]
          exact m6 m (by omega) j hj
        · rw [si_ne (by decide), y1 45 (by decide)]
          exact m6 d (by omega) j hj
      refine ⟨nI (c - m), S1, pv_si Y 37 9 (nI m), ex, ?_, (Inv_st I T C M (by omega) ok).1⟩
      show pv_R mX7_undo 0 [some (.ref 37), some (.int (nI m)), none] [] (pv_em S1) = _
      have z : (nI (c - m) ≤ 0) = False := eq_false (by rw [show (0 : Int32) = nI 0 from rfl, nIle (by omega) (by omega)]; omega)
      rw [show nI 0 = 0 from rfl, show nI 10 = 10 from rfl] at e2
      simp only [bX7_undo_0, bX7_undo_11, bX7_undo_14, bX7_undo_16, bX7_undo_27, bX7_undo_45, c_in, h9, j0, Int32.toInt_toInt64, nIt (i := c) (by omega), hx, pv_cc_some, pv_cc_void, bI_0, nIsub (a := c) (b := m) (by omega) (by omega), z, e10m (m := m) (by omega), e2, and_self, not_true_eq_false, not_false_eq_true, if_true, if_false]
  · refine ⟨-1, S, S, ?_, ?_, I⟩
    · show pv_R mX6_undo 0 [some (.ref 0), some (.int x), none] [] (pv_em S) = _
      simp only [bX6_undo_0, bX6_undo_12, bX6_undo_15, bX6_undo_17, bX6_undo_35, x_within, tw_x13 T, nIt (i := c) (by omega), i0, hx, pv_cc_some, bI_0, not_true_eq_false, not_false_eq_true, if_true, if_false]
    · show pv_R mX7_undo 0 [some (.ref 37), some (.int x), none] [] (pv_em S) = _
      simp only [bX7_undo_0, bX7_undo_11, bX7_undo_14, bX7_undo_16, bX7_undo_27, bX7_undo_45, c_in, tw_m9 T, j0, Int32.toInt_toInt64, nIt (i := c) (by omega), hx, pv_cc_some, bI_0, not_true_eq_false, not_false_eq_true, if_true, if_false]
theorem x_keptN {k : Int32} : pv_R mX5_hasKeptNumber 0 [some (.ref 21), some (.int k)] [] (pv_em S) = some (some (.int (bI (0 ≤ k.toInt ∧ k.toInt ≤ 2))), pv_em S) := by
  simp only [bX5_hasKeptNumber_0, bX5_hasKeptNumber_4, bX5_hasKeptNumber_9, bX5_hasKeptNumber_13, bX5_hasKeptNumber_14, vn0, vn1, if_true, Int32.lt_iff_toInt_lt, Int32.le_iff_toInt_le, i0, i3]
  by_cases h : 0 ≤ k.toInt ∧ k.toInt ≤ 2
  · rw [bI_t h, if_neg (by omega), if_neg (by omega)]
  · rw [bI_f h]
    by_cases h1 : k.toInt < 0
    · rw [if_pos h1]
    · rw [if_neg h1, if_pos (by omega)]
theorem j2 : (2 : Int64).toInt = 2 := by decide
theorem tq_on (I : Inv S) (x : Int32) : pv_goI Inv S mX6_on mX7_on [.int x] := by
  obtain ⟨n, c, T⟩ := tw_of I
  have hn := tw_n T
  have hc := tw_c T
  by_cases hx : 0 ≤ x.toInt ∧ x.toInt ≤ 2
  · obtain ⟨k, e, hk⟩ := nIex hx.1
    subst e
    have k3 := kx (k := k) (N := 3) (by omega) (by omega)
    have kc := nIc (i := k) (by omega)
    rcases T.2.2.2.2.2.2.2.2.2.2.2.2.2.2.2 k (by omega) with ⟨g1, g2⟩ | ⟨m, h1, h2, h3, h4, h5, h6⟩
    · refine ⟨-3, xf S 1, _, ?_, ?_, Inv_find (f := 1) I (by omega) (by omega)⟩
      · show pv_R mX6_on 0 [some (.ref 0), some (.int (nI k))] [] (pv_em S) = _
        have z : ((0 : Int32) ≤ -1) = False := by decide
        simp only [bX6_on_0, bX6_on_8, bX6_on_11, bX6_on_13, bX6_on_25, bX6_on_33, bX6_on_34, bX6_on_42, x_keptN, hx, k3, kc, g1, z, x_find_1, pv_cc_some, bI_0, and_self, not_true_eq_false, not_false_eq_true, if_true, if_false]
      · show pv_R mX7_on 0 [some (.ref 37), some (.int (nI k))] [] (pv_em (xf S 1)) = _
        simp only [bX7_on_0, bX7_on_9, bX7_on_12, bX7_on_14, bX7_on_23, bX7_on_28, bX7_on_29, bX7_on_48, bX7_on_71, c_in, j0, j2, Int32.toInt_toInt64, hx, k3, kc, xf_ne (S := S) (k := 47) (f := 1) (by decide) (by decide), g2, m_find_1, pv_cc_some, bI_0, and_self, not_true_eq_false, not_false_eq_true, if_true, if_false]
    · have hcell : 29 + k ≠ 21 ∧ 29 + k ≠ 25 ∧ 29 + k ≠ 26 := by omega
      obtain ⟨Y, eY, y1, y2, y3⟩ := lpE (R := fun d (Z : pv_S) => pv_R mX5_restore 9 [some (.ref 21), some (.int (nI k)), some (.int (nI m)), some (.int (nI d))] [] (pv_em Z)) (N := m) (fun d Z => (∀ k', k' ≠ 26 → Z.1 k' = S.1 k') ∧ Z.2 = S.2 ∧ ∀ q, q < d → Z.1 26 q = S.1 (29 + k) q) (fun d Z hd hP => by
        obtain ⟨p1, p2, p3⟩ := hP
        refine ⟨pv_si Z 26 d (S.1 (29 + k) d), ?_, fun k' z => by rw [si_ne z]; exact p1 k' z, p2, fun q hq => ?_⟩
        · refine Eq.trans bX5_restore_9 ?_
          rw [if_neg (by rw [nIle (by omega) (by omega)]; omega), bX5_restore_14, if_neg (gx (by omega) (by omega)), if_neg (gx (by omega) (by omega)), if_neg (gx (by omega) (by omega)), nIc (by omega), nIc (by omega), nIs, p1 (29 + k) (by omega)]
        · rw [si_eq]
          by_cases e : q = d
          · rw [e, upd_eq]
          · rw [upd_ne e]; exact p3 q (by omega)) m 0 S (by omega) ⟨fun _ _ => rfl, rfl, fun q hq => absurd hq (by omega)⟩
      have okY : ∀ d, d < m → tw_ok n (Y.1 26 d) := fun d hd => by rw [y3 d hd]; exact (h6 d hd).1
      have ok : ∀ d, d < m → tw_ok n (S.1 (29 + k) d) := fun d hd => (h6 d hd).1
      obtain ⟨S1, e1, C0, _⟩ := x_replay (Y := Y) (n := n) hn (by rw [y1 21 (by decide)]; exact tw_x7 T) (fun i hi => by rw [y1 24 (by decide)]; exact tw_fb T hi) (m := m) (by omega) okY (a := none)
      have C : Cst S n m (S.1 (29 + k)) S1 := by
        obtain ⟨c1, c2, c3, c4, c5, c6, c7⟩ := C0
        rw [y1 22 (by decide), y1 23 (by decide), y1 24 (by decide), tw_rp_congr (dl' := S.1 (29 + k)) m fun d hd => y3 d hd] at c7
        exact ⟨fun k' q1 q2 q3 => by rw [c1 k' q1 q2 q3]; exact y1 k' q3, c2.trans y2, by rw [c3, y1 21 (by decide)], by rw [c4, y1 21 (by decide)], c5, fun d hd => by rw [c6 d hd]; exact y3 d hd, c7⟩
      have c46 : S1.1 46 = S.1 46 := C.1 46 (by decide) (by decide) (by decide)
      obtain ⟨A, eA, a1, a2, a3⟩ := cp_46_44 (S := S1) (i := 411 * k) (j := 0) (N := 10) (by omega) (by omega) (a := none)
      obtain ⟨D, eD, d1, d2, d3⟩ := cp_46_45 (S := A) (i := 411 * k + 10) (j := 0) (N := 400) (by omega) (by omega) (a := none)
      have rp := C_rp C
      have M : Mst S1 n m (S.1 (29 + k)) (pv_si D 37 9 (nI m)) := by
        refine ⟨fun k' k1 k2 k3 => by rw [si_ne k1, d1 k' k3]; exact a1 k' k2, d2.trans a2, fun j hj => by rw [si_eq, upd_ne hj, d1 37 (by decide), a1 37 (by decide)], by rw [si_eq, upd_eq]; rfl, fun j hj => ?_, fun d hd j hj => ?_⟩
        · rw [si_ne (by decide), d1 44 (by decide), a3, if_pos (by omega), c46, rp, show 411 * k + (j - 0) = 411 * k + j from by omega]
          exact h5 j hj
        · rw [si_ne (by decide), d3, if_pos (by omega), a1 46 (by decide), c46, rp, show 411 * k + 10 + (10 * d + j - 0) = 411 * k + 10 + (10 * d + j) from by omega]
          exact (h6 d (by omega)).2 j hj
      refine ⟨nI m, S1, pv_si D 37 9 (nI m), ?_, ?_, (Inv_st I T C M (by omega) ok).1⟩
      · show pv_R mX6_on 0 [some (.ref 0), some (.int (nI k))] [] (pv_em S) = _
        have z : (0 ≤ nI m) = True := eq_true (by rw [show (0 : Int32) = nI 0 from rfl, nIle (by omega) (by omega)]; omega)
        have er : pv_R mX5_restore 0 [some (.ref 21), some (.int (nI k)), none, none] [] (pv_em S) = some (none, pv_em S1) := by
          rw [bX5_restore_0, if_neg (gx (by omega) (by omega)), kc, h2]
          refine Eq.trans eY ?_
          show pv_R mX5_restore 9 _ _ _ = _
          rw [bX5_restore_9, if_pos (Int32.le_refl _), bX5_restore_34, e1, pv_cc_void, bX5_restore_39]
        simp only [bX6_on_0, bX6_on_8, bX6_on_11, bX6_on_13, bX6_on_25, bX6_on_33, bX6_on_34, bX6_on_42, x_keptN, hx, k3, kc, h2, z, er, C.2.2.2.2.1, pv_cc_some, pv_cc_void, bI_0, and_self, not_true_eq_false, not_false_eq_true, if_true, if_false]
      · show pv_R mX7_on 0 [some (.ref 37), some (.int (nI k))] [] (pv_em S1) = _
        rw [show nI 0 = 0 from rfl, show nI 10 = 10 from rfl] at eA
        rw [show nI 0 = 0 from rfl, show nI 400 = 400 from rfl] at eD
        have e47 : S1.1 47 k = 1 := by rw [C.1 47 (by decide) (by decide) (by decide)]; exact h3
        have z1 : ((1 : Int32) = 0) = False := by decide
        have e410 : D.1 46 (411 * k + 410) = nI m := by rw [d1 46 (by decide), a1 46 (by decide), c46]; exact h4
        simp only [bX7_on_0, bX7_on_9, bX7_on_12, bX7_on_14, bX7_on_23, bX7_on_28, bX7_on_29, bX7_on_48, bX7_on_71, c_in, j0, j2, Int32.toInt_toInt64, hx, k3, kc, e47, z1, e411 (m := k) (by omega), show nI (411 * k) + 10 = nI (411 * k + 10) from nIadd, show nI (411 * k) + 410 = nI (411 * k + 410) from nIadd, kx (k := 411 * k + 410) (N := 1233) (by omega) (by omega), nIc (i := 411 * k + 410) (by omega), eA, eD, e410, si_eq, upd_eq, pv_cc_some, pv_cc_void, bI_0, and_self, not_true_eq_false, not_false_eq_true, if_true, if_false]
  · refine ⟨-1, S, S, ?_, ?_, I⟩
    · show pv_R mX6_on 0 [some (.ref 0), some (.int x)] [] (pv_em S) = _
      simp only [bX6_on_0, bX6_on_8, bX6_on_11, bX6_on_13, bX6_on_25, bX6_on_33, bX6_on_34, bX6_on_42, x_keptN, hx, pv_cc_some, bI_0, not_true_eq_false, not_false_eq_true, if_true, if_false]
    · show pv_R mX7_on 0 [some (.ref 37), some (.int x)] [] (pv_em S) = _
      simp only [bX7_on_0, bX7_on_9, bX7_on_12, bX7_on_14, bX7_on_23, bX7_on_28, bX7_on_29, bX7_on_48, bX7_on_71, c_in, j0, j2, Int32.toInt_toInt64, hx, pv_cc_some, bI_0, not_true_eq_false, not_false_eq_true, if_true, if_false]
theorem tq_keep (I : Inv S) (x : Int32) : pv_goI Inv S mX6_keep mX7_keep [.int x] := by
  obtain ⟨n, c, T⟩ := tw_of I
  have hn := tw_n T
  have hc := tw_c T
  by_cases hx : 0 ≤ x.toInt ∧ x.toInt ≤ 2
  · by_cases h : n = 0
    · subst h
      refine ⟨-4, S, S, ?_, ?_, I⟩
      · show pv_R mX6_keep 0 [some (.ref 0), some (.int x)] [] (pv_em S) = _
        simp only [bX6_keep_0, bX6_keep_8, bX6_keep_11, bX6_keep_13, bX6_keep_23, bX6_keep_26, bX6_keep_34, x_keptN, hx, tw_x7 T, show nI 0 = 0 from rfl, pv_cc_some, bI_0, and_self, not_true_eq_false, not_false_eq_true, if_true, if_false]
      · show pv_R mX7_keep 0 [some (.ref 37), some (.int x)] [] (pv_em S) = _
        simp only [bX7_keep_0, bX7_keep_9, bX7_keep_12, bX7_keep_14, bX7_keep_21, bX7_keep_24, bX7_keep_43, bX7_keep_66, c_in, j0, j2, Int32.toInt_toInt64, hx, tw_m4 T, show nI 0 = 0 from rfl, pv_cc_some, bI_0, and_self, not_true_eq_false, not_false_eq_true, if_true, if_false]
    · obtain ⟨k, e, hk⟩ := nIex hx.1
      subst e
      have z := nI0 hn h
      have k3 := kx (k := k) (N := 3) (by omega) (by omega)
      have kc := nIc (i := k) (by omega)
      obtain ⟨Y, eY, y1, y2, y3⟩ := lpE (R := fun d (Z : pv_S) => pv_R mX5_store 12 [some (.ref 21), some (.int (nI k)), some (.int (nI d))] [] (pv_em Z)) (N := c) (fun d Z => (∀ k', k' ≠ 29 + k → Z.1 k' = (pv_si S 27 k (nI c)).1 k') ∧ Z.2 = S.2 ∧ ∀ q, q < d → Z.1 (29 + k) q = S.1 26 q) (fun d Z hd hP => by
        obtain ⟨p1, p2, p3⟩ := hP
        refine ⟨pv_si Z (29 + k) d (S.1 26 d), ?_, fun k' z => by rw [si_ne z]; exact p1 k' z, p2, fun q hq => ?_⟩
        · refine Eq.trans bX5_store_12 ?_
          rw [p1 21 (by omega), si_ne (by decide), tw_x13 T, if_neg (by rw [nIle (by omega) (by omega)]; omega), bX5_store_20, if_neg (gx (by omega) (by omega)), if_neg (gx (by omega) (by omega)), if_neg (gx (by omega) (by omega)), nIc (by omega), nIc (by omega), nIs, p1 26 (by omega), si_ne (by decide)]
        · rw [si_eq]
          by_cases e : q = d
          · rw [e, upd_eq]
          · rw [upd_ne e]; exact p3 q (by omega)) c 0 (pv_si S 27 k (nI c)) (by omega) ⟨fun _ _ => rfl, rfl, fun q hq => absurd hq (by omega)⟩
      have e0 : ∀ k', k' ≠ 27 → k' ≠ 29 + k → Y.1 k' = S.1 k' := fun k' q1 q2 => by rw [y1 k' q2, si_ne q1]
      obtain ⟨A, eA, a1, a2, a3⟩ := cp_44_46 (S := Y) (i := 0) (j := 411 * k) (N := 10) (by omega) (by omega) (a := none)
      obtain ⟨D, eD, d1, d2, d3⟩ := cp_45_46 (S := A) (i := 0) (j := 411 * k + 10) (N := 400) (by omega) (by omega) (a := none)
      have e1 : ∀ k', k' ≠ 46 → k' ≠ 27 → k' ≠ 29 + k → D.1 k' = S.1 k' := fun k' q1 q2 q3 => by rw [d1 k' q1, a1 k' q1]; exact e0 k' q2 q3
      have e9 : D.1 37 9 = nI c := by rw [e1 37 (by decide) (by decide) (by omega)]; exact tw_m9 T
      refine ⟨nI c, Y, pv_si (pv_si D 46 (411 * k + 410) (nI c)) 47 k 1, ?_, ?_, ?_⟩
      · show pv_R mX6_keep 0 [some (.ref 0), some (.int (nI k))] [] (pv_em S) = _
        have es : pv_R mX5_store 0 [some (.ref 21), some (.int (nI k)), none] [] (pv_em S) = some (none, pv_em Y) := by
          rw [bX5_store_0, if_neg (gx (by omega) (by omega)), kc, tw_x13 T]
          refine Eq.trans eY ?_
          show pv_R mX5_store 12 _ _ _ = _
          rw [bX5_store_12, e0 21 (by decide) (by omega), tw_x13 T, if_pos (Int32.le_refl _), bX5_store_40]
        simp only [bX6_keep_0, bX6_keep_8, bX6_keep_11, bX6_keep_13, bX6_keep_23, bX6_keep_26, bX6_keep_34, x_keptN, hx, tw_x7 T, z, es, show Y.1 21 13 = nI c from by rw [e0 21 (by decide) (by omega)]; exact tw_x13 T, pv_cc_some, pv_cc_void, bI_0, and_self, not_true_eq_false, not_false_eq_true, if_true, if_false]
      · show pv_R mX7_keep 0 [some (.ref 37), some (.int (nI k))] [] (pv_em Y) = _
        rw [show nI 0 = 0 from rfl, show nI 10 = 10 from rfl] at eA
        rw [show nI 0 = 0 from rfl, show nI 400 = 400 from rfl] at eD
        have e4 : Y.1 37 4 = nI n := by rw [e0 37 (by decide) (by omega)]; exact tw_m4 T
        have e99 : (pv_si (pv_si D 46 (411 * k + 410) (nI c)) 47 k 1).1 37 9 = nI c := by rw [si_ne (by decide), si_ne (by decide)]; exact e9
        simp only [bX7_keep_0, bX7_keep_9, bX7_keep_12, bX7_keep_14, bX7_keep_21, bX7_keep_24, bX7_keep_43, bX7_keep_66, c_in, j0, j2, Int32.toInt_toInt64, hx, e4, z, k3, kc, e411 (m := k) (by omega), show nI (411 * k) + 10 = nI (411 * k + 10) from nIadd, show nI (411 * k) + 410 = nI (411 * k + 410) from nIadd, kx (k := 411 * k + 410) (N := 1233) (by omega) (by omega), nIc (i := 411 * k + 410) (by omega), eA, eD, e9, vn1, e99, pv_cc_some, pv_cc_void, bI_0, and_self, not_true_eq_false, not_false_eq_true, if_true, if_false]
      · generalize hS2 : pv_si (pv_si D 46 (411 * k + 410) (nI c)) 47 k 1 = S2
        have e2 : ∀ k', k' ≠ 46 → k' ≠ 47 → k' ≠ 27 → k' ≠ 29 + k → S2.1 k' = S.1 k' := fun k' q1 q2 q3 q4 => by rw [← hS2, si_ne q2, si_ne q1]; exact e1 k' q1 q3 q4
        have f47 : ∀ q, S2.1 47 q = if q = k then 1 else S.1 47 q := fun q => by
          rw [← hS2, si_eq, si_ne (by decide), e1 47 (by decide) (by decide) (by omega)]
          by_cases w : q = k
          · rw [w, upd_eq, if_pos rfl]
          · rw [upd_ne w, if_neg w]
        have f27 : ∀ q, S2.1 27 q = if q = k then nI c else S.1 27 q := fun q => by
          rw [← hS2, si_ne (by decide), si_ne (by decide), d1 27 (by decide), a1 27 (by decide), y1 27 (by omega), si_eq]
          by_cases w : q = k
          · rw [w, upd_eq, if_pos rfl]
          · rw [upd_ne w, if_neg w]
        have f46 : ∀ q, S2.1 46 q = if q = 411 * k + 410 then nI c else if 411 * k + 10 ≤ q ∧ q < 411 * k + 10 + 400 then S.1 45 (q - (411 * k + 10)) else if 411 * k ≤ q ∧ q < 411 * k + 10 then S.1 44 (q - 411 * k) else S.1 46 q := fun q => by
          rw [← hS2, si_ne (by decide), si_eq]
          by_cases w : q = 411 * k + 410
          · rw [w, upd_eq, if_pos rfl]
          · rw [upd_ne w, if_neg w, d3, a1 45 (by decide), e0 45 (by decide) (by omega), Nat.zero_add, a3, e0 44 (by decide) (by omega), e0 46 (by decide) (by omega), Nat.zero_add]
        have f29 : ∀ k', k' < 3 → k' ≠ k → S2.1 (29 + k') = S.1 (29 + k') := fun k' q1 q2 => e2 _ (by omega) (by omega) (by omega) (by omega)
        have g29 : ∀ q, q < c → S2.1 (29 + k) q = S.1 26 q := fun q hq => by rw [← hS2, si_ne (by omega), si_ne (by omega), d1 _ (by omega), a1 _ (by omega)]; exact y3 q hq
        have hS22 : S2.2 = S.2 := by rw [← hS2]; exact d2.trans (a2.trans y2)
        clear hS2
        have T2 : Tw S2 n c := by
          obtain ⟨g1, g2, g3, g4, g5, g6, g7, g8, g9, g10, g11, g12, g13, g14, g15, g16⟩ := id T
          have e := fun k' (q : k' ≠ 46 ∧ k' ≠ 47 ∧ k' ≠ 27 ∧ k' ≠ 29 + k) => e2 k' q.1 q.2.1 q.2.2.1 q.2.2.2
          unfold Tw
          rw [e 21 (by omega), e 22 (by omega), e 23 (by omega), e 24 (by omega), e 25 (by omega), e 26 (by omega), e 42 (by omega), e 43 (by omega), e 44 (by omega), e 45 (by omega), e 37 (by omega)]
          refine ⟨g1, g2, g3, g4, g5, g6, g7, g8, g9, g10, g11, g12, g13, g14, g15, fun k' hk' => ?_⟩
          by_cases w : k' = k
          · subst w
            refine Or.inr ⟨c, hc, by rw [f27, if_pos rfl], by rw [f47, if_pos rfl], by rw [f46, if_pos rfl], fun j hj => ?_, fun d hd => ⟨by rw [g29 d hd]; exact (g15 d hd).1, fun j hj => ?_⟩⟩
            · rw [f46, if_neg (by omega), if_neg (by omega), if_pos (by omega), show 411 * k' + j - 411 * k' = j from by omega, g9 j hj, tw_rp_congr (dl' := S.1 26) (dl := S2.1 (29 + k')) c fun d hd => g29 d hd]
            · rw [f46, if_neg (by omega), if_pos (by omega), show 411 * k' + 10 + (10 * d + j) - (411 * k' + 10) = 10 * d + j from by omega, (g15 d hd).2 j hj, tw_rp_congr (dl' := S.1 26) (dl := S2.1 (29 + k')) d fun q hq => g29 q (by omega)]
          · rw [f27, if_neg w, f47, if_neg w, f29 k' hk' w]
            rcases g16 k' hk' with q | ⟨m, h1, h2, h3, h4, h5, h6⟩
            · exact Or.inl q
            · have nq : ∀ t, t ≤ 410 → S2.1 46 (411 * k' + t) = S.1 46 (411 * k' + t) := fun t ht => by
                rw [f46, if_neg (by omega), if_neg (by omega), if_neg (by omega)]
              refine Or.inr ⟨m, h1, h2, h3, by rw [nq 410 (by omega)]; exact h4, fun j hj => by rw [nq j (by omega)]; exact h5 j hj, fun d hd => ⟨(h6 d hd).1, fun j hj => ?_⟩⟩
              rw [show 411 * k' + 10 + (10 * d + j) = 411 * k' + (10 + (10 * d + j)) from by omega, nq (10 + (10 * d + j)) (by omega), show 411 * k' + (10 + (10 * d + j)) = 411 * k' + 10 + (10 * d + j) from by omega]
              exact (h6 d hd).2 j hj
        have e := fun k' (q : k' ≠ 46 ∧ k' ≠ 47 ∧ k' ≠ 27 ∧ k' ≠ 29 + k) => e2 k' q.1 q.2.1 q.2.2.1 q.2.2.2
        refine ⟨shelf_congr (e 2 (by omega)) (fun q hq => e _ (by omega)) (e 38 (by omega)) (e 39 (by omega)) I.1, shelf_congr (e 11 (by omega)) (fun q hq => e _ (by omega)) (e 40 (by omega)) (e 41 (by omega)) I.2.1, ?_, n, c, T2⟩
        obtain ⟨t1, t2, t3, t4, t5⟩ := I.2.2.1
        unfold iv_told
        rw [e 35 (by omega), e 36 (by omega), e 48 (by omega), e 37 (by omega), hS22]
        exact ⟨t1, t2, t3, t4, t5⟩
  · refine ⟨-1, S, S, ?_, ?_, I⟩
    · show pv_R mX6_keep 0 [some (.ref 0), some (.int x)] [] (pv_em S) = _
      simp only [bX6_keep_0, bX6_keep_8, bX6_keep_11, bX6_keep_13, bX6_keep_23, bX6_keep_26, bX6_keep_34, x_keptN, hx, pv_cc_some, bI_0, not_true_eq_false, not_false_eq_true, if_true, if_false]
    · show pv_R mX7_keep 0 [some (.ref 37), some (.int x)] [] (pv_em S) = _
      simp only [bX7_keep_0, bX7_keep_9, bX7_keep_12, bX7_keep_14, bX7_keep_21, bX7_keep_24, bX7_keep_43, bX7_keep_66, c_in, j0, j2, Int32.toInt_toInt64, hx, pv_cc_some, bI_0, not_true_eq_false, not_false_eq_true, if_true, if_false]
end UN
