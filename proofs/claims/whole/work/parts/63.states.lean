/-! ===== the states behind deeds: class, reference ===== -/
def Cst (S : pv_S) (n c' : Nat) (dl : Nat → Int32) (Z : pv_S) : Prop := (∀ k, k ≠ 21 → k ≠ 25 → k ≠ 26 → Z.1 k = S.1 k) ∧ Z.2 = S.2 ∧ Z.1 21 7 = S.1 21 7 ∧ Z.1 21 8 = S.1 21 8 ∧ Z.1 21 13 = nI c' ∧ (∀ d, d < c' → Z.1 26 d = dl d) ∧ cv Z n (tw_rp n (S.1 22) (S.1 23) (S.1 24) dl c')
def Mrm (S : pv_S) (n c' e : Nat) (dl : Nat → Int32) (Z : pv_S) : Prop := (∀ k, k ≠ 37 → k ≠ 44 → k ≠ 45 → Z.1 k = S.1 k) ∧ Z.2 = S.2 ∧ (∀ j, j ≠ 9 → Z.1 37 j = S.1 37 j) ∧ Z.1 37 9 = nI (c' + e) ∧ (∀ j, j < 10 → Z.1 44 j = tw_rp n (S.1 22) (S.1 23) (S.1 24) dl c' j) ∧ ∀ d, d < c' + e → ∀ j, j < 10 → Z.1 45 (10 * d + j) = tw_rp n (S.1 22) (S.1 23) (S.1 24) dl d j
abbrev Mst (S : pv_S) (n c' : Nat) (dl : Nat → Int32) (Z : pv_S) : Prop := Mrm S n c' 0 dl Z
/-- what is fixed of a town -/
def Bs (S : pv_S) (n : Nat) : Prop := n ≤ 6 ∧ S.1 21 7 = nI n ∧ S.1 37 4 = nI n ∧ ∀ i, i < n → S.1 42 i = S.1 22 i ∧ S.1 43 i = S.1 23 i ∧ 1 ≤ (S.1 24 i).toInt ∧ (S.1 24 i).toInt ≤ 99
section ST
variable {S S1 S2 Z : pv_S} {n c c' : Nat} {dl : Nat → Int32}
theorem Bs_Tw (T : Tw S n c) : Bs S n := ⟨tw_n T, tw_x7 T, tw_m4 T, fun i hi => ⟨tw_kd T hi, tw_ap T hi, tw_fb T hi⟩⟩
theorem Bs_C (B : Bs S n) (C : Cst S n c' dl S1) : Bs S1 n := by
  obtain ⟨b1, b2, b3, b4⟩ := B
  obtain ⟨c1, c2, c3, c4, c5, c6, c7⟩ := C
  refine ⟨b1, by rw [c3]; exact b2, by rw [c1 37 (by decide) (by decide) (by decide)]; exact b3, fun i hi => ?_⟩
  rw [c1 42 (by decide) (by decide) (by decide), c1 43 (by decide) (by decide) (by decide), c1 22 (by decide) (by decide) (by decide), c1 23 (by decide) (by decide) (by decide), c1 24 (by decide) (by decide) (by decide)]
  exact b4 i hi
theorem Bs_b (B : Bs S n) (hc : c' ≤ 1000) (ok : ∀ d, d < c' → tw_ok n (dl d)) : tw_b n c' (tw_rp n (S.1 22) (S.1 23) (S.1 24) dl c') := tw_b_rp B.1 (fun i hi => (B.2.2.2 i hi).2.2) c' hc ok
theorem Cst_0 (T : Tw S n c) : Cst S n c (S.1 26) S := by
  have hn := tw_n T
  refine ⟨fun _ _ _ _ => rfl, rfl, rfl, rfl, tw_x13 T, fun _ _ => rfl, fun i hi => ?_, ?_, ?_, ?_, ?_⟩
  · rw [tw_w T hi, tw_now T (by omega)]
  · rw [tw_h T, tw_now T (by omega)]
  · rw [tw_p T, tw_now T (by omega)]
  · rw [tw_g T, tw_now T (by omega)]
  · rw [tw_r T, tw_now T (by omega)]
theorem Mst_0 (T : Tw S n c) (C : Cst S n c' dl S1) : Mst S1 n c (S.1 26) S1 := by
  obtain ⟨c1, c2, c3, c4, c5, c6, c7⟩ := C
  refine ⟨fun _ _ _ _ => rfl, rfl, fun _ _ => rfl, ?_, fun j hj => ?_, fun d hd j hj => ?_⟩
  · rw [c1 37 (by decide) (by decide) (by decide)]; exact tw_m9 T
  · rw [c1 44 (by decide) (by decide) (by decide), c1 22 (by decide) (by decide) (by decide), c1 23 (by decide) (by decide) (by decide), c1 24 (by decide) (by decide) (by decide)]
    exact tw_now T hj
  · rw [c1 45 (by decide) (by decide) (by decide), c1 22 (by decide) (by decide) (by decide), c1 23 (by decide) (by decide) (by decide), c1 24 (by decide) (by decide) (by decide)]
    exact (T.2.2.2.2.2.2.2.2.2.2.2.2.2.2.1 d (by omega)).2 j hj
theorem Inv_st (I : Inv S) (T : Tw S n c) (C : Cst S n c' dl S1) (M : Mst S1 n c' dl S2) (hc : c' ≤ 40) (ok : ∀ d, d < c' → tw_ok n (dl d)) : Inv S2 ∧ Tw S2 n c' := by
  obtain ⟨c1, c2, c3, c4, c5, c6, v1, v2, v3, v4, v5⟩ := C
  obtain ⟨m1, m2, m3, m4, m5, m6⟩ := M
  have e := fun k (q : k ≠ 21 ∧ k ≠ 25 ∧ k ≠ 26 ∧ k ≠ 37 ∧ k ≠ 44 ∧ k ≠ 45) => (m1 k q.2.2.2.1 q.2.2.2.2.1 q.2.2.2.2.2).trans (c1 k q.1 q.2.1 q.2.2.1)
  have e37 : ∀ j, j ≠ 9 → S2.1 37 j = S.1 37 j := fun j hj => by rw [m3 j hj, c1 37 (by decide) (by decide) (by decide)]
  have E21 : S2.1 21 = S1.1 21 := m1 21 (by decide) (by decide) (by decide)
  have E25 : S2.1 25 = S1.1 25 := m1 25 (by decide) (by decide) (by decide)
  have E26 : S2.1 26 = S1.1 26 := m1 26 (by decide) (by decide) (by decide)
  have T2 : Tw S2 n c' := by
    obtain ⟨g1, g2, g3, g4, g5, g6, g7, g8, g9, g10, g11, g12, g13, g14, g15, g16⟩ := T
    have er : ∀ d, d ≤ c' → tw_rp n (S.1 22) (S.1 23) (S.1 24) (S1.1 26) d = tw_rp n (S.1 22) (S.1 23) (S.1 24) dl d := fun d hd => tw_rp_congr d fun k hk => c6 k (by omega)
    rw [c1 22 (by decide) (by decide) (by decide), c1 23 (by decide) (by decide) (by decide), c1 24 (by decide) (by decide) (by decide)] at m5 m6
    unfold Tw
    rw [E21, E25, E26, e 22 (by omega), e 23 (by omega), e 24 (by omega), e 27 (by omega), e 42 (by omega), e 43 (by omega), e 46 (by omega), e 47 (by omega), e37 4 (by decide), e37 5 (by decide), c3, c4]
    refine ⟨g1, hc, g3, g4, g5, c5, m4, g8, fun j hj => by rw [er c' (Nat.le_refl _)]; exact m5 j hj, fun i hi => by rw [v1 i hi, m5 i (by omega)], by rw [v2, m5 6 (by omega)], by rw [v3, m5 7 (by omega)], by rw [v4, m5 8 (by omega)], by rw [v5, m5 9 (by omega)], fun d hd => ⟨by rw [c6 d hd]; exact ok d hd, fun j hj => by rw [er d (by omega)]; exact m6 d (by omega) j hj⟩, fun k hk => ?_⟩
    rw [e (29 + k) (by omega)]
    exact g16 k hk
  refine ⟨⟨shelf_congr (e 2 (by omega)) (fun q hq => e _ (by omega)) (e 38 (by omega)) (e 39 (by omega)) I.1, shelf_congr (e 11 (by omega)) (fun q hq => e _ (by omega)) (e 40 (by omega)) (e 41 (by omega)) I.2.1, ?_, n, c', T2⟩, T2⟩
  obtain ⟨t1, t2, t3, t4, t5⟩ := I.2.2.1
  unfold iv_told
  rw [e 35 (by omega), e 36 (by omega), e 48 (by omega), e37 13 (by decide), e37 16 (by decide), m2, c2]
  exact ⟨t1, t2, t3, t4, t5⟩
theorem x_room {x : Int32} (h : S.1 21 13 = nI c) (hc : c ≤ 40) (hx : 0 ≤ x.toInt) (hx2 : x.toInt ≤ 1000) : pv_R mX5_hasRoomFor 0 [some (.ref 21), some (.int x)] [] (pv_em S) = some (some (.int (bI ((c : Int) + x.toInt ≤ 40))), pv_em S) := by
  have e : (nI c + x).toInt = c + x.toInt := by rw [ad_i (by rw [nIt (by omega)]; omega) (by rw [nIt (by omega)]; omega), nIt (by omega)]
  simp only [bX5_hasRoomFor_0, bX5_hasRoomFor_11, bX5_hasRoomFor_15, bX5_hasRoomFor_16, vn0, vn1, if_true, h]
  by_cases q : (c : Int) + x.toInt ≤ 40
  · rw [bI_t q, if_neg (by rw [Int32.lt_iff_toInt_lt, i40, e]; omega)]
  · rw [bI_f q, if_pos (by rw [Int32.lt_iff_toInt_lt, i40, e]; omega)]
theorem x_doDeed {deed : Int32} (B : Bs S n) (C : Cst S n c' dl Z) (hc : c' < 40) (ok : ∀ d, d < c' → tw_ok n (dl d)) (okd : tw_ok n deed) : ∃ Z', pv_R mX5_doDeed 0 [some (.ref 21), some (.int deed)] [] (pv_em Z) = some (none, pv_em Z') ∧ Cst S n (c' + 1) (upd dl c' deed) Z' := by
  have Bd := Bs_b B (by omega) ok
  obtain ⟨b1, b2, b3, b4⟩ := B
  obtain ⟨c1, c2, c3, c4, c5, c6, c7⟩ := C
  have V : cv (pv_si (pv_si Z 26 c' deed) 21 13 (nI (c' + 1))) n (tw_rp n (S.1 22) (S.1 23) (S.1 24) dl c') := by
    obtain ⟨v1, v2, v3, v4, v5⟩ := c7
    refine ⟨fun i hi => ?_, ?_, ?_, ?_, ?_⟩
    · rw [si_ne (by decide), si_ne (by decide)]; exact v1 i hi
    · rw [si_eq, upd_ne (by decide), si_ne (by decide)]; exact v2
    · rw [si_eq, upd_ne (by decide), si_ne (by decide)]; exact v3
    · rw [si_eq, upd_ne (by decide), si_ne (by decide)]; exact v4
    · rw [si_eq, upd_ne (by decide), si_ne (by decide)]; exact v5
  obtain ⟨Z', e, ⟨a1, a2, a3⟩, V'⟩ := x_act (S := pv_si (pv_si Z 26 c' deed) 21 13 (nI (c' + 1))) b1 (by rw [si_eq, upd_ne (by decide), si_ne (by decide), c3]; exact b2) V Bd okd (a := none)
  have a3 : ∀ j, j = 7 ∨ j = 8 ∨ j = 13 → Z'.1 21 j = (pv_si (pv_si Z 26 c' deed) 21 13 (nI (c' + 1))).1 21 j := a3
  refine ⟨Z', ?_, fun k k1 k2 k3 => ?_, a2.trans c2, ?_, ?_, ?_, fun d hd => ?_, ?_⟩
  · rw [bX5_doDeed_0, x_room c5 (by omega) (by decide) (by decide), pv_cc_some, bX5_doDeed_5, if_pos (by rw [bI_0, i1]; omega), bX5_doDeed_9, c5, if_neg (gx (by omega) (by omega)), nIc (by omega), show (pv_si Z 26 c' deed).1 21 13 + 1 = nI (c' + 1) from by rw [si_ne (by decide), c5, nIs], e, pv_cc_void, bX5_doDeed_34]
  · rw [a1 k k1 k2, si_ne k1, si_ne k3]; exact c1 k k1 k2 k3
  · rw [a3 7 (by omega), si_eq, upd_ne (by decide), si_ne (by decide)]; exact c3
  · rw [a3 8 (by omega), si_eq, upd_ne (by decide), si_ne (by decide)]; exact c4
  · rw [a3 13 (by omega), si_eq, upd_eq]
  · rw [a1 26 (by decide) (by decide), si_ne (by decide), si_eq]
    by_cases q : d = c'
    · rw [q, upd_eq, upd_eq]
    · rw [upd_ne q, upd_ne q]; exact c6 d (by omega)
  · have e22 : (pv_si (pv_si Z 26 c' deed) 21 13 (nI (c' + 1))).1 22 = S.1 22 := by rw [si_ne (by decide), si_ne (by decide)]; exact c1 22 (by decide) (by decide) (by decide)
    have e23 : (pv_si (pv_si Z 26 c' deed) 21 13 (nI (c' + 1))).1 23 = S.1 23 := by rw [si_ne (by decide), si_ne (by decide)]; exact c1 23 (by decide) (by decide) (by decide)
    rw [e22, e23] at V'
    show cv Z' n (tw_act n (S.1 22) (S.1 23) (upd dl c' deed c') (tw_rp n (S.1 22) (S.1 23) (S.1 24) (upd dl c' deed) c'))
    rw [upd_eq, tw_rp_congr (dl' := dl) c' fun k hk => upd_ne (by omega)]
    exact V'
theorem m_remember (M : Mst S n c' dl Z) (hc : c' < 40) : ∃ Z', pv_R mX7_remember 0 [some (.ref 37)] [] (pv_em Z) = some (none, pv_em Z') ∧ Mrm S n c' 1 dl Z' := by
  obtain ⟨m1, m2, m3, m4, m5, m6⟩ := M
  obtain ⟨Y, e, y1, y2, y3⟩ := cp_44_45 (S := Z) (i := 0) (j := 10 * c') (N := 10) (by omega) (by omega) (a := none)
  have e10 : (10 : Int32) * nI c' = nI (10 * c') := by
    refine Int32.toInt_inj.mp ?_
    rw [ml_i (by rw [i10, nIt (by omega)]; omega) (by rw [i10, nIt (by omega)]; omega), i10, nIt (by omega), nIt (by omega)]
    omega
  refine ⟨pv_si Y 37 9 (nI (c' + 1)), ?_, fun k k1 k2 k3 => by rw [si_ne k1, y1 k k3]; exact m1 k k1 k2 k3, y2.trans m2, fun j hj => by rw [si_eq, upd_ne hj, y1 37 (by decide)]; exact m3 j hj, by rw [si_eq, upd_eq], fun j hj => by rw [si_ne (by decide), y1 44 (by decide)]; exact m5 j hj, fun d hd j hj => ?_⟩
  · rw [bX7_remember_0, m4, show nI (c' + 0) = nI c' from rfl, e10, show (0 : Int32) = nI 0 from rfl, show (10 : Int32) = nI 10 from rfl, e, pv_cc_void, bX7_remember_21, y1 37 (by decide), m4, show nI (c' + 0) = nI c' from rfl, nIs]
  · rw [si_ne (by decide), y3]
    by_cases q : d = c'
    · subst q
      rw [if_pos (by omega), show 0 + (10 * d + j - 10 * d) = j from by omega]
      exact m5 j hj
    · rw [if_neg (by omega)]
      exact m6 d (by omega) j hj
/-- a state behind one deed more -/
theorem Mst_act {Y : pv_S} {deed : Int32} (M : Mrm S n c' 1 dl Z) (h1 : ∀ k, k ≠ 44 → Y.1 k = Z.1 k) (h2 : Y.2 = Z.2) (h3 : ∀ j, j < 10 → Y.1 44 j = tw_act n (S.1 22) (S.1 23) deed (tw_rp n (S.1 22) (S.1 23) (S.1 24) dl c') j) : Mst S n (c' + 1) (upd dl c' deed) Y := by
  obtain ⟨m1, m2, m3, m4, m5, m6⟩ := M
  refine ⟨fun k k1 k2 k3 => by rw [h1 k k2]; exact m1 k k1 k2 k3, h2.trans m2, fun j hj => by rw [h1 37 (by decide)]; exact m3 j hj, by rw [h1 37 (by decide)]; exact m4, fun j hj => ?_, fun d hd j hj => ?_⟩
  · rw [h3 j hj]
    show _ = tw_act n (S.1 22) (S.1 23) (upd dl c' deed c') (tw_rp n (S.1 22) (S.1 23) (S.1 24) (upd dl c' deed) c') j
    rw [upd_eq, tw_rp_congr (dl' := dl) (dl := upd dl c' deed) c' fun k hk => upd_ne (by omega)]
  · rw [h1 45 (by decide), tw_rp_congr (dl' := dl) (dl := upd dl c' deed) d fun k hk => upd_ne (by omega)]
    exact m6 d (by omega) j hj
theorem mb_pound {N : Nat → Int32} {d : Nat} (hn : n ≤ 6) (h4 : Z.1 37 4 = nI n) (V : ∀ j, j < 10 → Z.1 44 j = N j) (B : tw_b n d N) : pv_R mX7_pound 0 [some (.ref 37)] [] (pv_em Z) = some (some (.int (N (N 9).toNatClampNeg)), pv_em Z) := by
  obtain ⟨b1, b2, b3, b4⟩ := B
  by_cases h : n = 0
  · subst h
    have h9 : N 9 = 0 := by
      rcases b3 with q | ⟨r, q, _⟩
      · exact q
      · exact absurd q (by omega)
    simp only [bX7_pound_0, bX7_pound_7, bX7_pound_11, bX7_pound_25, h4]
    rw [if_neg (fun q => q rfl), h9, show (0 : Int32).toNatClampNeg = 0 from by decide, b4 0 (by omega) (by omega)]
  · have hr : ∃ r, r < n ∧ N 9 = nI r := by
      rcases b3 with q | q
      · exact ⟨0, by omega, q⟩
      · exact q
    obtain ⟨r, hr, e⟩ := hr
    rw [bX7_pound_0, if_pos (by rw [h4]; exact nI0 hn h), bX7_pound_11]
    rw [show (9 : Int32).toNatClampNeg = 9 from by decide, Int32.zero_add, V 9 (by omega), e, if_neg (gx (k := r) (N := 10) (by omega) (by omega)), nIc (by omega), bX7_pound_25, V r (by omega)]
theorem m_hourGoes (B : Bs S n) (M : Mst S n c' dl Z) (hc : c' < 40) (ok : ∀ d, d < c' → tw_ok n (dl d)) {a : Option Value} : ∃ Z', pv_R mX7_hourGoes 0 [some (.ref 37), a] [] (pv_em Z) = some (none, pv_em Z') ∧ Mst S n (c' + 1) (upd dl c' 0) Z' := by
  have Bd := Bs_b B (by omega) ok
  obtain ⟨b1, b2, b3, b4⟩ := B
  obtain ⟨Y, e, MY⟩ := m_remember M hc
  obtain ⟨m1, m2, m3, m4, m5, m6⟩ := id MY
  obtain ⟨X, eX, x1, x2, x3⟩ := lpE (R := fun k (X : pv_S) => pv_R mX7_hourGoes 6 [some (.ref 37), some (.int (nI k))] [] (pv_em X)) (N := n) (fun k X => (∀ k', k' ≠ 44 → X.1 k' = Y.1 k') ∧ X.2 = Y.2 ∧ ∀ q, q < 10 → X.1 44 q = if q < k then tw_held (Y.1 44 q + tw_adds (S.1 22 q) (Y.1 44 6)) else Y.1 44 q) (fun k X hk hP => by
    obtain ⟨h1, h2, h3⟩ := hP
    refine ⟨pv_si X 44 k (tw_held (Y.1 44 k + tw_adds (S.1 22 k) (Y.1 44 6))), ?_, fun k' z => by rw [si_ne z]; exact h1 k' z, h2, fun q hq => ?_⟩
    · refine Eq.trans bX7_hourGoes_6 ?_
      have h6 : X.1 44 6 = Y.1 44 6 := by rw [h3 6 (by omega), if_neg (by omega)]
      have hb : 0 ≤ (Y.1 44 6).toInt ∧ (Y.1 44 6).toInt ≤ c' := by rw [m5 6 (by omega)]; exact Bd.2.1
      rw [h1 37 (by decide), m3 4 (by decide), b3, if_neg (by rw [nIle (by omega) (by omega)]; omega), bX7_hourGoes_14, show (1 : Int32) = nI 1 from rfl, m_afterOf (by rw [nIt (by omega)]; omega) (by rw [nIt (by omega)]; omega) (by omega) (by rw [h6]; omega) (by rw [h6]; omega), pv_cc_some, Int32.zero_add, bX7_hourGoes_27, if_neg (gx (by omega) (by omega)), nIc (by omega), show nI k + 1 = nI (k + 1) from nIs]
      rw [show tw_aft (X.1 42 k) (X.1 44 6) (X.1 44 k) 1 = tw_held (X.1 44 k + tw_adds (X.1 42 k) (X.1 44 6 + nI 0)) from rfl, show X.1 44 6 + nI 0 = X.1 44 6 from Int32.add_zero _, h6, h3 k (by omega), if_neg (by omega), h1 42 (by decide), m1 42 (by decide) (by decide) (by decide), (b4 k hk).1]
    · rw [si_eq]
      by_cases e : q = k
      · rw [e, upd_eq, if_pos (by omega)]
      · rw [upd_ne e, h3 q hq]
        by_cases e2 : q < k
        · rw [if_pos e2, if_pos (by omega)]
        · rw [if_neg e2, if_neg (by omega)]) n 0 Y (by omega) ⟨fun _ _ => rfl, rfl, fun q hq => (if_neg (by omega)).symm⟩
  refine ⟨pv_si X 44 6 (Y.1 44 6 + 1), ?_, Mst_act MY (fun k hk => by rw [si_ne hk]; exact x1 k hk) x2 (fun j hj => ?_)⟩
  · rw [bX7_hourGoes_0, e, pv_cc_void, bX7_hourGoes_4]
    refine Eq.trans eX ?_
    show pv_R mX7_hourGoes 6 _ _ _ = _
    rw [bX7_hourGoes_6, x1 37 (by decide), m3 4 (by decide), b3, if_pos (Int32.le_refl _), bX7_hourGoes_34, show (6 : Int32).toNatClampNeg = 6 from by decide, x3 6 (by omega), if_neg (by omega)]
  · unfold tw_act
    rw [if_pos (by decide), si_eq]
    by_cases q : j = 6
    · subst q
      rw [upd_eq, if_neg (by omega), if_pos rfl, m5 6 (by omega)]
    · rw [upd_ne q, x3 j hj]
      by_cases q2 : j < n
      · rw [if_pos q2, if_pos q2, m5 j hj, m5 6 (by omega)]
      · rw [if_neg q2, if_neg q2, if_neg q, m5 j hj]
theorem m_eats (B : Bs S n) (M : Mst S n c' dl Z) (hc : c' < 40) {i : Nat} (hi : i < n) : ∃ Z', pv_R mX7_eats 0 [some (.ref 37), some (.int (nI i))] [] (pv_em Z) = some (none, pv_em Z') ∧ Mst S n (c' + 1) (upd dl c' (nI (10 + i))) Z' := by
  obtain ⟨b1, b2, b3, b4⟩ := B
  obtain ⟨Y, e, MY⟩ := m_remember M hc
  obtain ⟨m1, m2, m3, m4, m5, m6⟩ := id MY
  refine ⟨pv_si Y 44 i (tw_held (Y.1 44 i + tw_meal (S.1 22 i) (S.1 23 i))), ?_, Mst_act MY (fun k hk => si_ne hk) rfl (fun j hj => ?_)⟩
  · rw [bX7_eats_0, e, pv_cc_void, bX7_eats_4, Int32.zero_add, if_neg (gx (by omega) (by omega)), if_neg (gx (by omega) (by omega)), if_neg (gx (by omega) (by omega)), m_meal, pv_cc_some, bX7_eats_34, m_bound, pv_cc_some, bX7_eats_38, if_neg (gx (by omega) (by omega)), nIc (by omega), m1 42 (by decide) (by decide) (by decide), m1 43 (by decide) (by decide) (by decide), (b4 i hi).1, (b4 i hi).2.1]
  · unfold tw_act
    rw [if_neg (by rw [show (10 : Int32) = nI 10 from rfl, nIlt (by omega) (by omega)]; omega), if_pos (by rw [show (20 : Int32) = nI 20 from rfl, nIlt (by omega) (by omega)]; omega), show (10 : Int32) = nI 10 from rfl, nIsub (by omega) (by omega), nIc (by omega), show 10 + i - 10 = i from by omega, si_eq]
    by_cases q : j = i
    · rw [q, upd_eq, if_pos rfl, m5 i (by omega)]
    · rw [upd_ne q, if_neg q, m5 j hj]
theorem m_buys (B : Bs S n) (M : Mst S n c' dl Z) (hc : c' < 40) (ok : ∀ d, d < c' → tw_ok n (dl d)) {x deed : Int32} (hd : (¬ deed < 10 ∧ ¬ deed < 20) ∧ ((deed < 30 ∧ deed - 20 = x) ∨ (¬ deed < 30 ∧ deed < 40 ∧ -(deed - 30) = x))) : ∃ Z', pv_R mX7_buys 0 [some (.ref 37), some (.int x)] [] (pv_em Z) = some (none, pv_em Z') ∧ Mst S n (c' + 1) (upd dl c' deed) Z' := by
  have Bd := Bs_b B (by omega) ok
  obtain ⟨b1, b2, b3, b4⟩ := B
  obtain ⟨Y, e, MY⟩ := m_remember M hc
  obtain ⟨m1, m2, m3, m4, m5, m6⟩ := id MY
  refine ⟨pv_si (pv_si Y 44 8 (Y.1 44 8 + x * tw_rp n (S.1 22) (S.1 23) (S.1 24) dl c' (tw_rp n (S.1 22) (S.1 23) (S.1 24) dl c' 9).toNatClampNeg)) 44 7 (Y.1 44 7 - 10 * x), ?_, Mst_act MY (fun k hk => by rw [si_ne hk, si_ne hk]) rfl (fun j hj => ?_)⟩
  · rw [bX7_buys_0, e, pv_cc_void, bX7_buys_4, mb_pound b1 (by rw [m3 4 (by decide)]; exact b3) m5 Bd, pv_cc_some, bX7_buys_17, if_neg (by decide), show (8 : Int32).toNatClampNeg = 8 from by decide, show (7 : Int32).toNatClampNeg = 7 from by decide, show (pv_si Y 44 8 (Y.1 44 8 + x * tw_rp n (S.1 22) (S.1 23) (S.1 24) dl c' (tw_rp n (S.1 22) (S.1 23) (S.1 24) dl c' 9).toNatClampNeg)).1 44 7 = Y.1 44 7 from by rw [si_eq, upd_ne (by decide)]]
  · obtain ⟨⟨d1, d2⟩, d3⟩ := hd
    unfold tw_act
    rw [if_neg d1, if_neg d2, si_eq, si_eq]
    rcases d3 with ⟨d3, d4⟩ | ⟨d3, d4, d5⟩
    · rw [if_pos d3]
      rw [d4]
      by_cases q : j = 7
      · rw [q, upd_eq, if_pos rfl, m5 7 (by omega)]
      · rw [upd_ne q, if_neg q]
        by_cases q2 : j = 8
        · rw [q2, upd_eq, if_pos rfl, m5 8 (by omega)]
        · rw [upd_ne q2, if_neg q2, m5 j hj]
    · rw [if_neg d3, if_pos d4]
      rw [← d5]
      by_cases q : j = 7
      · rw [q, upd_eq, if_pos rfl, m5 7 (by omega), Int32.mul_neg, Int32.sub_neg]
      · rw [upd_ne q, if_neg q]
        by_cases q2 : j = 8
        · rw [q2, upd_eq, if_pos rfl, m5 8 (by omega), Int32.neg_mul, ← Int32.sub_eq_add_neg]
        · rw [upd_ne q2, if_neg q2, m5 j hj]
end ST
