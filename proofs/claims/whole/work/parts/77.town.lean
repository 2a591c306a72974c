/-! ===== fault, town ===== -/
section TN
variable {S : pv_S} {q N n : Nat} {L : Nat → Int32} {r : Nat → Rc}
/-- the class begins a town -/
theorem x_begin {dog : Int32} (hn : n ≤ 6) (C : XC S n r) (h3 : S.1 17 3 = dog) (ok : ∀ i, i < n → rok (r i)) {a : Option Value} : ∃ Z, pv_R mX5_begin 0 [some (.ref 21), some (.ref 17), a] [] (pv_em S) = some (none, pv_em Z) ∧ (∀ k, k ≠ 21 → k ≠ 22 → k ≠ 23 → k ≠ 24 → k ≠ 25 → k ≠ 27 → Z.1 k = S.1 k) ∧ Z.2 = S.2 ∧ Z.1 21 7 = nI n ∧ Z.1 21 8 = dog ∧ Z.1 21 13 = nI 0 ∧ (∀ i, i < n → Z.1 22 i = (r i).1 ∧ Z.1 23 i = (r i).2.2 ∧ Z.1 24 i = (r i).2.1) ∧ (∀ k, k < 3 → Z.1 27 k = -1) ∧ cv Z n (tw_rp n (Z.1 22) (Z.1 23) (Z.1 24) (Z.1 26) 0) := by
  rw [bX5_begin_0]
  have e3 : (pv_si S 21 7 (S.1 17 4)).1 17 3 = dog := by rw [si_ne (by decide)]; exact h3
  rw [e3, C.1]
  generalize hY0 : pv_si (pv_si S 21 7 (nI n)) 21 8 dog = Y0
  have y1 : ∀ k, k ≠ 21 → Y0.1 k = S.1 k := fun k hk => by rw [← hY0, si_ne hk, si_ne hk]
  have y2 : Y0.2 = S.2 := by rw [← hY0]; rfl
  have y7 : Y0.1 21 7 = nI n := by rw [← hY0, si_j (by decide), si_jj]
  have y8 : Y0.1 21 8 = dog := by rw [← hY0, si_jj]
  clear hY0
  obtain ⟨Z1, e1, z1, z2, z3⟩ := lpE (R := fun k (Z : pv_S) => pv_R mX5_begin 18 [some (.ref 21), some (.ref 17), some (.int (nI k))] [] (pv_em Z)) (N := n) (fun k Z => (∀ k', k' ≠ 22 → k' ≠ 23 → k' ≠ 24 → Z.1 k' = Y0.1 k') ∧ Z.2 = Y0.2 ∧ ∀ i, i < k → Z.1 22 i = (r i).1 ∧ Z.1 23 i = (r i).2.2 ∧ Z.1 24 i = (r i).2.1) (fun k Z hk hP => by
    obtain ⟨h1, h2, h3⟩ := hP
    have e18 : Z.1 18 = S.1 18 := by rw [h1 18 (by decide) (by decide) (by decide), y1 18 (by decide)]
    have e19 : Z.1 19 = S.1 19 := by rw [h1 19 (by decide) (by decide) (by decide), y1 19 (by decide)]
    have e20 : Z.1 20 = S.1 20 := by rw [h1 20 (by decide) (by decide) (by decide), y1 20 (by decide)]
    obtain ⟨c1, c2, c3⟩ := C.2 k hk
    refine ⟨pv_si (pv_si (pv_si Z 22 k (r k).1) 23 k (r k).2.2) 24 k (r k).2.1, ?_, fun k' q1 q2 q3 => by rw [si_ne q3, si_ne q2, si_ne q1]; exact h1 k' q1 q2 q3, h2, fun i hi => ?_⟩
    · refine Eq.trans bX5_begin_18 ?_
      have gk := gx (k := k) (N := 6) (by omega) (by omega)
      rw [h1 21 (by decide) (by decide) (by decide), y7, if_neg (by rw [nIle (by omega) (by omega)]; omega), bX5_begin_26, if_neg gk, if_neg gk, if_neg gk, if_neg gk, if_neg gk, if_neg gk, nIc (by omega), si_ne (k := 22) (k' := 20) (by decide), si_ne (k := 23) (k' := 19) (by decide), si_ne (k := 22) (k' := 19) (by decide), e18, e19, e20, c1, c2, c3, nIs]
    · have w22 : (pv_si (pv_si (pv_si Z 22 k (r k).1) 23 k (r k).2.2) 24 k (r k).2.1).1 22 = upd (Z.1 22) k (r k).1 := by rw [si_ne (by decide), si_ne (by decide), si_eq]
      have w23 : (pv_si (pv_si (pv_si Z 22 k (r k).1) 23 k (r k).2.2) 24 k (r k).2.1).1 23 = upd (Z.1 23) k (r k).2.2 := by rw [si_ne (by decide), si_eq, si_ne (by decide)]
      have w24 : (pv_si (pv_si (pv_si Z 22 k (r k).1) 23 k (r k).2.2) 24 k (r k).2.1).1 24 = upd (Z.1 24) k (r k).2.1 := by rw [si_eq, si_ne (by decide), si_ne (by decide)]
      rw [w22, w23, w24]
      by_cases e : i = k
      · subst e
        rw [upd_eq, upd_eq, upd_eq]
        exact ⟨rfl, rfl, rfl⟩
      · rw [upd_ne e, upd_ne e, upd_ne e]
        exact h3 i (by omega)) n 0 Y0 (by omega) ⟨fun _ _ _ _ => rfl, rfl, fun i hi => absurd hi (by omega)⟩
  obtain ⟨Z2, e2, w1, w2, w3⟩ := lpE (R := fun k (Z : pv_S) => pv_R mX5_begin 70 [some (.ref 21), some (.ref 17), some (.int (nI k))] [] (pv_em Z)) (N := 3) (fun k Z => (∀ k', k' ≠ 27 → Z.1 k' = Z1.1 k') ∧ Z.2 = Z1.2 ∧ ∀ i, i < k → Z.1 27 i = -1) (fun k Z hk hP => by
    obtain ⟨h1, h2, h3⟩ := hP
    refine ⟨pv_si Z 27 k (-1), ?_, fun k' q1 => by rw [si_ne q1]; exact h1 k' q1, h2, fun i hi => ?_⟩
    · refine Eq.trans bX5_begin_70 ?_
      rw [show (3 : Int32) = nI 3 from rfl, if_neg (by rw [nIle (by omega) (by omega)]; omega), bX5_begin_75, if_neg (gx (by omega) (by omega)), nIc (by omega), nIs]
    · rw [si_eq]
      by_cases e : i = k
      · rw [e, upd_eq]
      · rw [upd_ne e]; exact h3 i (by omega)) 3 0 Z1 (by omega) ⟨fun _ _ => rfl, rfl, fun i hi => absurd hi (by omega)⟩
  have w7 : Z2.1 21 7 = nI n := by rw [w1 21 (by decide), z1 21 (by decide) (by decide) (by decide)]; exact y7
  have w24 : ∀ i, i < n → Z2.1 22 i = (r i).1 ∧ Z2.1 23 i = (r i).2.2 ∧ Z2.1 24 i = (r i).2.1 := fun i hi => by
    rw [w1 22 (by decide), w1 23 (by decide), w1 24 (by decide)]
    exact z3 i hi
  obtain ⟨Z, e, ⟨c1, c2, c3, c4, c5, c6, c7⟩, c8⟩ := x_replay (Y := Z2) (n := n) (m := 0) hn w7 (fun i hi => by rw [(w24 i hi).2.2]; exact (ok i hi).2.1) (by omega) (fun d hd => absurd hd (by omega)) (a := none)
  refine ⟨Z, Eq.trans e1 ?_, fun k k1 k2 k3 k4 k5 k6 => ?_, ?_, ?_, ?_, c5, fun i hi => ?_, fun k hk => ?_, ?_⟩
  · show pv_R mX5_begin 18 _ _ _ = _
    rw [bX5_begin_18, z1 21 (by decide) (by decide) (by decide), y7, if_pos (Int32.le_refl _), bX5_begin_68]
    refine Eq.trans e2 ?_
    show pv_R mX5_begin 70 _ _ _ = _
    rw [bX5_begin_70, if_pos (show (3 : Int32) ≤ nI 3 from by decide), bX5_begin_88, show (0 : Int32) = nI 0 from rfl, e, pv_cc_void, bX5_begin_93]
  · by_cases k7 : k = 26
    · rw [k7, c8, w1 26 (by decide), z1 26 (by decide) (by decide) (by decide), y1 26 (by decide)]
    · rw [c1 k k1 k5 k7, w1 k k6, z1 k k2 k3 k4, y1 k k1]
  · rw [c2, w2, z2, y2]
  · rw [c3]; exact w7
  · rw [c4, w1 21 (by decide), z1 21 (by decide) (by decide) (by decide)]; exact y8
  · rw [c1 22 (by decide) (by decide) (by decide), c1 23 (by decide) (by decide) (by decide), c1 24 (by decide) (by decide) (by decide)]
    exact w24 i hi
  · rw [c1 27 (by decide) (by decide) (by decide)]
    exact w3 k hk
  · rw [c1 22 (by decide) (by decide) (by decide), c1 23 (by decide) (by decide) (by decide), c1 24 (by decide) (by decide) (by decide), c8]
    exact c7
/-- the reference begins a town -/
theorem m_begin {dog : Int32} (hn : n ≤ 6) (C : MC S n r) (h3 : S.1 37 19 = dog) {a : Option Value} {x1 : Int32} : ∃ Z, pv_R mX7_town 37 [some (.ref 37), some (.int x1), a] [] (pv_em S) = some (some (.int (nI n)), pv_em Z) ∧ (∀ k, k ≠ 37 → k ≠ 42 → k ≠ 43 → k ≠ 44 → k ≠ 47 → Z.1 k = S.1 k) ∧ Z.2 = S.2 ∧ (∀ j, j ≠ 4 → j ≠ 5 → j ≠ 9 → Z.1 37 j = S.1 37 j) ∧ Z.1 37 4 = nI n ∧ Z.1 37 5 = dog ∧ Z.1 37 9 = nI 0 ∧ (∀ i, i < n → Z.1 42 i = (r i).1 ∧ Z.1 43 i = (r i).2.2) ∧ (∀ j, j < 10 → Z.1 44 j = if j < n then (r j).2.1 else 0) ∧ ∀ k, k < 3 → Z.1 47 k = 0 := by
  rw [bX7_town_37]
  have e3 : (pv_si S 37 4 (S.1 37 20)).1 37 19 = dog := by rw [si_j (by decide)]; exact h3
  rw [e3, C.1]
  generalize hY0 : pv_si (pv_si S 37 4 (nI n)) 37 5 dog = Y0
  have y1 : ∀ k, k ≠ 37 → Y0.1 k = S.1 k := fun k hk => by rw [← hY0, si_ne hk, si_ne hk]
  have y2 : Y0.2 = S.2 := by rw [← hY0]; rfl
  have y4 : Y0.1 37 4 = nI n := by rw [← hY0, si_j (by decide), si_jj]
  have y5 : Y0.1 37 5 = dog := by rw [← hY0, si_jj]
  have y37 : ∀ j, j ≠ 4 → j ≠ 5 → Y0.1 37 j = S.1 37 j := fun j a1 a2 => by rw [← hY0, si_j a2, si_j a1]
  clear hY0
  obtain ⟨Z0, e0, u1, u2, u3⟩ := lpE (R := fun k (Z : pv_S) => pv_R mX7_town 55 [some (.ref 37), some (.int x1), some (.int (nI k))] [] (pv_em Z)) (N := 10) (fun k Z => (∀ k', k' ≠ 44 → Z.1 k' = Y0.1 k') ∧ Z.2 = Y0.2 ∧ ∀ i, i < k → Z.1 44 i = 0) (fun k Z hk hP => by
    obtain ⟨h1, h2, h3⟩ := hP
    refine ⟨pv_si Z 44 k 0, ?_, fun k' q1 => by rw [si_ne q1]; exact h1 k' q1, h2, fun i hi => ?_⟩
    · refine Eq.trans bX7_town_55 ?_
      rw [show (10 : Int32) = nI 10 from rfl, if_neg (by rw [nIle (by omega) (by omega)]; omega), bX7_town_61, if_neg (gx (by omega) (by omega)), nIc (by omega), nIs]
    · rw [si_eq]
      by_cases e : i = k
      · rw [e, upd_eq]
      · rw [upd_ne e]; exact h3 i (by omega)) 10 0 Y0 (by omega) ⟨fun _ _ => rfl, rfl, fun i hi => absurd hi (by omega)⟩
  obtain ⟨Z1, e1, z1, z2, z3, z4⟩ := lpE (R := fun k (Z : pv_S) => pv_R mX7_town 76 [some (.ref 37), some (.int x1), some (.int (nI k))] [] (pv_em Z)) (N := n) (fun k Z => (∀ k', k' ≠ 42 → k' ≠ 43 → k' ≠ 44 → Z.1 k' = Y0.1 k') ∧ Z.2 = Y0.2 ∧ (∀ i, i < k → Z.1 42 i = (r i).1 ∧ Z.1 43 i = (r i).2.2) ∧ ∀ j, j < 10 → Z.1 44 j = if j < k then (r j).2.1 else 0) (fun k Z hk hP => by
    obtain ⟨h1, h2, h3, h4⟩ := hP
    have e49 : Z.1 49 = S.1 49 := by rw [h1 49 (by decide) (by decide) (by decide), y1 49 (by decide)]
    obtain ⟨c1, c2, c3⟩ := C.2 k hk
    refine ⟨pv_si (pv_si (pv_si Z 42 k (r k).1) 44 k (r k).2.1) 43 k (r k).2.2, ?_, fun k' q1 q2 q3 => by rw [si_ne q2, si_ne q3, si_ne q1]; exact h1 k' q1 q2 q3, h2, fun i hi => ?_, fun j hj => ?_⟩
    · refine Eq.trans bX7_town_76 ?_
      have gk := gx (k := k) (N := 6) (by omega) (by omega)
      rw [h1 37 (by decide) (by decide) (by decide), y4, if_neg (by rw [nIle (by omega) (by omega)]; omega), bX7_town_84, Int32.zero_add, e3m (by omega), nIs, show nI (3 * k) + 2 = nI (3 * k + 2) from nIadd (b := 2), if_neg (gx (by omega) (by omega)), if_neg gk, if_neg (gx (by omega) (by omega)), if_neg (gx (by omega) (by omega)), if_neg (gx (by omega) (by omega)), if_neg gk, nIc (by omega), nIc (by omega), nIc (by omega), nIc (by omega), si_ne (k := 44) (k' := 49) (by decide), si_ne (k := 42) (k' := 49) (by decide), e49, c1, c2, c3, nIs]
    · have w42 : (pv_si (pv_si (pv_si Z 42 k (r k).1) 44 k (r k).2.1) 43 k (r k).2.2).1 42 = upd (Z.1 42) k (r k).1 := by rw [si_ne (by decide), si_ne (by decide), si_eq]
      have w43 : (pv_si (pv_si (pv_si Z 42 k (r k).1) 44 k (r k).2.1) 43 k (r k).2.2).1 43 = upd (Z.1 43) k (r k).2.2 := by rw [si_eq, si_ne (by decide), si_ne (by decide)]
      rw [w42, w43]
      by_cases e : i = k
      · subst e
        rw [upd_eq, upd_eq]
        exact ⟨rfl, rfl⟩
      · rw [upd_ne e, upd_ne e]
        exact h3 i (by omega)
    · rw [si_ne (k := 43) (k' := 44) (by decide), si_eq, si_ne (k := 42) (k' := 44) (by decide)]
      by_cases e : j = k
      · subst e
        rw [upd_eq, if_pos (by omega)]
      · rw [upd_ne e, h4 j hj]
        by_cases e2 : j < k
        · rw [if_pos e2, if_pos (by omega)]
        · rw [if_neg e2, if_neg (by omega)]) n 0 Z0 (by omega) ⟨fun k' _ _ q3 => u1 k' q3, u2, fun i hi => absurd hi (by omega), fun j hj => by rw [if_neg (by omega)]; exact u3 j hj⟩
  obtain ⟨Z2, e2, w1, w2, w3⟩ := lpE (R := fun k (Z : pv_S) => pv_R mX7_town 145 [some (.ref 37), some (.int x1), some (.int (nI k))] [] (pv_em Z)) (N := 3) (fun k Z => (∀ k', k' ≠ 47 → Z.1 k' = (pv_si Z1 37 9 0).1 k') ∧ Z.2 = Z1.2 ∧ ∀ i, i < k → Z.1 47 i = 0) (fun k Z hk hP => by
    obtain ⟨h1, h2, h3⟩ := hP
    refine ⟨pv_si Z 47 k 0, ?_, fun k' q1 => by rw [si_ne q1]; exact h1 k' q1, h2, fun i hi => ?_⟩
    · refine Eq.trans bX7_town_145 ?_
      rw [show (3 : Int32) = nI 3 from rfl, if_neg (by rw [nIle (by omega) (by omega)]; omega), bX7_town_150, if_neg (gx (by omega) (by omega)), nIc (by omega), vn0, nIs]
    · rw [si_eq]
      by_cases e : i = k
      · rw [e, upd_eq]
      · rw [upd_ne e]; exact h3 i (by omega)) 3 0 (pv_si Z1 37 9 0) (by omega) ⟨fun _ _ => rfl, rfl, fun i hi => absurd hi (by omega)⟩
  have w37 : Z2.1 37 = (pv_si Z1 37 9 0).1 37 := w1 37 (by decide)
  have z37 : Z1.1 37 = Y0.1 37 := z1 37 (by decide) (by decide) (by decide)
  refine ⟨Z2, Eq.trans e0 ?_, fun k k1 k2 k3 k4 k5 => ?_, ?_, fun j a1 a2 a3 => ?_, ?_, ?_, ?_, fun i hi => ?_, fun j hj => ?_, w3⟩
  · show pv_R mX7_town 55 _ _ _ = _
    rw [bX7_town_55, if_pos (show (10 : Int32) ≤ nI 10 from by decide), bX7_town_74]
    refine Eq.trans e1 ?_
    show pv_R mX7_town 76 _ _ _ = _
    rw [bX7_town_76, z37, y4, if_pos (Int32.le_refl _), bX7_town_138]
    refine Eq.trans e2 ?_
    show pv_R mX7_town 145 _ _ _ = _
    rw [bX7_town_145, if_pos (show (3 : Int32) ≤ nI 3 from by decide), bX7_town_163, w37, si_j (by decide), z37, y4]
  · rw [w1 k k5, si_ne k1, z1 k k2 k3 k4, y1 k k1]
  · rw [w2, z2, y2]
  · rw [w37, si_j a3, z37, y37 j a1 a2]
  · rw [w37, si_j (by decide), z37, y4]
  · rw [w37, si_j (by decide), z37, y5]
  · rw [w37, si_jj]; rfl
  · rw [w1 42 (by decide), w1 43 (by decide), si_ne (by decide), si_ne (by decide)]
    exact z3 i hi
  · rw [w1 44 (by decide), si_ne (by decide)]
    exact z4 j hj
theorem tx_of (I : Inv S) (hq : q < 4) (hs : S.1 11 q = nI N) (hN : N ≤ 60) : TX S q N (S.1 (13 + q)) := ⟨hq, hN, hs, fun _ _ => rfl⟩
theorem mx_of {S' : pv_S} (I : Inv S) (F : FX S S') (hq : q < 4) (hs : S.1 11 q = nI N) (hN : N ≤ 60) : MX S' q N (S.1 (13 + q)) := by
  obtain ⟨g1, g2, g3, g4⟩ := I.2.1 q hq
  refine ⟨hq, hN, by rw [F.1 40 (by decide) (by decide) (by decide) (by decide), g1, hs], fun j hj => ?_⟩
  rw [F.1 41 (by decide) (by decide) (by decide) (by decide)]
  exact g4 j (by rw [hs, nIt (by omega)]; omega)
theorem Inv_FF {S' S'' : pv_S} (F : FX S S') (M : FM S' S'') (I : Inv S) : Inv S'' := by
  refine Inv_scr (fun k k1 _ _ _ k5 k6 => ?_) (fun j hj => ?_) (M.2.1.trans F.2) I
  · rw [M.1 k k5 (by omega), F.1 k (by omega) (by omega) (by omega) (by omega)]
  · rw [M.2.2 j (by omega) (by omega) (by omega) (by omega) (by omega), F.1 37 (by decide) (by decide) (by decide) (by decide)]
theorem tq_fault (I : Inv S) (t : Int32) : pv_goI Inv S mX6_fault mX7_fault [.int t] := by
  by_cases ht : 0 ≤ t.toInt ∧ t.toInt ≤ 3
  · obtain ⟨q, rfl, hq'⟩ := nIex ht.1
    have hq : q < 4 := by omega
    have hc : (nI q).toNatClampNeg = q := nIc (by omega)
    have hx := gx (k := q) (N := 4) hq (by omega)
    obtain ⟨g1, g2, g3, g4⟩ := I.2.1 q hq
    by_cases hs : 0 ≤ (S.1 11 q).toInt
    · have hs' : 0 ≤ (S.1 11 (nI q).toNatClampNeg).toInt := by rw [hc]; exact hs
      obtain ⟨N, eN, hN⟩ := nIex hs
      have hN60 : N ≤ 60 := by omega
      obtain ⟨S1, e1, f1, _⟩ := x_faultOf (tx_of I hq eN hN60) (a := none) (b := none)
      obtain ⟨S2, e2, f2, _⟩ := m_faultOf (mx_of I f1 hq eN hN60) (a := none)
      refine ⟨(ftF (S.1 (13 + q)) N).1, S1, S2, ?_, ?_, Inv_FF f1 f2 I⟩
      · show pv_R mX6_fault 0 [some (.ref 0), some (.int (nI q)), none] [] (pv_em S) = _
        rw [bX6_fault_0, x_miss_t2 ht hs', pv_cc_some, bX6_fault_9, if_pos rfl, bX6_fault_16, e1, pv_cc_some, bX6_fault_28]
      · show pv_R mX7_fault 0 [some (.ref 37), some (.int (nI q))] [] (pv_em S1) = _
        rw [bX7_fault_0, c_isText, pv_cc_some, bX7_fault_4, bI_t ht, if_pos (by decide), bX7_fault_9, if_neg hx, hc, f1.1 40 (by decide) (by decide) (by decide) (by decide), g1, if_pos (by rw [Int32.le_iff_toInt_le, i0]; exact hs), bX7_fault_26, e2, pv_cc_some, bX7_fault_31]
    · have hs' : ¬ 0 ≤ (S.1 11 (nI q).toNatClampNeg).toInt := by rw [hc]; exact hs
      refine ⟨-3, xf S 1, _, ?_, ?_, Inv_find (f := 1) I (by omega) (by omega)⟩
      · show pv_R mX6_fault 0 [some (.ref 0), some (.int (nI q)), none] [] (pv_em S) = _
        rw [bX6_fault_0, x_miss_t1 ht hs', pv_cc_some, bX6_fault_9, if_neg (by decide), bX6_fault_14]
      · show pv_R mX7_fault 0 [some (.ref 37), some (.int (nI q))] [] (pv_em _) = _
        rw [bX7_fault_0, c_isText, pv_cc_some, bX7_fault_4, bI_t ht, if_pos (by decide), bX7_fault_9, if_neg hx, hc, xf_ne (by decide) (by decide), g1, if_neg (by rw [Int32.le_iff_toInt_le, i0]; exact hs), bX7_fault_18, m_find_1, pv_cc_some, bX7_fault_23, bX7_fault_31]
  · refine ⟨-1, S, S, ?_, ?_, I⟩
    · show pv_R mX6_fault 0 [some (.ref 0), some (.int t), none] [] (pv_em S) = _
      rw [bX6_fault_0, x_miss_t0 ht, pv_cc_some, bX6_fault_9, if_neg (by decide), bX6_fault_14]
    · show pv_R mX7_fault 0 [some (.ref 37), some (.int t)] [] (pv_em _) = _
      rw [bX7_fault_0, c_isText, pv_cc_some, bX7_fault_4, bI_f ht, if_neg (fun z => z rfl), bX7_fault_7]
theorem tq_town (I : Inv S) (t : Int32) : pv_goI Inv S mX6_town mX7_town [.int t] := by
  by_cases ht : 0 ≤ t.toInt ∧ t.toInt ≤ 3
  · obtain ⟨q, rfl, hq'⟩ := nIex ht.1
    have hq : q < 4 := by omega
    have hc : (nI q).toNatClampNeg = q := nIc (by omega)
    have hx := gx (k := q) (N := 4) hq (by omega)
    obtain ⟨g1, g2, g3, g4⟩ := I.2.1 q hq
    by_cases hs : 0 ≤ (S.1 11 q).toInt
    · have hs' : 0 ≤ (S.1 11 (nI q).toNatClampNeg).toInt := by rw [hc]; exact hs
      obtain ⟨N, eN, hN⟩ := nIex hs
      have hN60 : N ≤ 60 := by omega
      obtain ⟨S1, e1, f1, c1⟩ := x_faultOf (tx_of I hq eN hN60) (a := none) (b := none)
      by_cases z : (ftF (S.1 (13 + q)) N).1 = -9
      · obtain ⟨d1, C1⟩ := c1 z
        have ok := ft_ok (L := S.1 (13 + q)) (N := N)
        obtain ⟨S2, b1, b2, b3, b4, b5, b6, b7, b8, b9⟩ := x_begin ok.1 C1 d1 ok.2 (a := none)
        have X2 : MX S2 q N (S.1 (13 + q)) := by
          obtain ⟨x1, x2, x3, x4⟩ := mx_of I f1 hq eN hN60
          refine ⟨x1, x2, by rw [b2 40 (by decide) (by decide) (by decide) (by decide) (by decide) (by decide)]; exact x3, fun j hj => ?_⟩
          rw [b2 41 (by decide) (by decide) (by decide) (by decide) (by decide) (by decide)]
          exact x4 j hj
        obtain ⟨S3, e3, f3, c3⟩ := m_faultOf X2 (a := none)
        obtain ⟨d3, C3⟩ := c3 z
        obtain ⟨S4, h1, h2, h3, h4, h5, h6, h7, h8, h9, h10⟩ := m_begin ok.1 C3 d3 (a := none) (x1 := nI q)
        refine ⟨nI (ftF (S.1 (13 + q)) N).2.2.1, S2, S4, ?_, ?_, ?_⟩
        · show pv_R mX6_town 0 [some (.ref 0), some (.int (nI q)), none] [] (pv_em S) = _
          rw [bX6_town_0, x_miss_t2 ht hs', pv_cc_some, bX6_town_9, if_pos rfl, bX6_town_16, e1, pv_cc_some, bX6_town_28, if_pos z, bX6_town_36, b1, pv_cc_void, bX6_town_47, b4]
        · show pv_R mX7_town 0 [some (.ref 37), some (.int (nI q)), none] [] (pv_em S2) = _
          rw [bX7_town_0, c_isText, pv_cc_some, bX7_town_4, bI_t ht, if_pos (by decide), bX7_town_9, if_neg hx, hc, X2.2.2.1, if_pos (by rw [Int32.le_iff_toInt_le, i0, nIt (by omega)]; omega), bX7_town_24, e3, pv_cc_some, bX7_town_29, if_pos z, h1]
        · generalize hF : (ftF (S.1 (13 + q)) N).2.2.1 = n at *
          generalize hR : (ftF (S.1 (13 + q)) N).2.2.2 = r at *
          -- what stays
          have s4 : ∀ k, k < 17 ∨ k = 26 ∨ (27 < k ∧ k < 37) ∨ k = 38 ∨ k = 39 ∨ k = 40 ∨ k = 41 ∨ k = 48 → S4.1 k = S.1 k := fun k hk => by
            rw [h2 k (by omega) (by omega) (by omega) (by omega) (by omega), f3.1 k (by omega) (by omega), b2 k (by omega) (by omega) (by omega) (by omega) (by omega) (by omega), f1.1 k (by omega) (by omega) (by omega) (by omega)]
          have t4 : ∀ k, 21 ≤ k → k ≤ 36 → S4.1 k = S2.1 k := fun k k1 k2 => by
            rw [h2 k (by omega) (by omega) (by omega) (by omega) (by omega), f3.1 k (by omega) (by omega)]
          have e37 : ∀ j, j = 13 ∨ j = 16 → S4.1 37 j = S.1 37 j := fun j hj => by
            rw [h4 j (by omega) (by omega) (by omega), f3.2.2 j (by omega) (by omega) (by omega) (by omega) (by omega), b2 37 (by decide) (by decide) (by decide) (by decide) (by decide) (by decide), f1.1 37 (by decide) (by decide) (by decide) (by decide)]
          have e2 : S4.2 = S.2 := by rw [h3, f3.2.1, b3, f1.2]
          have er : ∀ j, j < 10 → S4.1 44 j = tw_rp n (S4.1 22) (S4.1 23) (S4.1 24) (S4.1 26) 0 j := fun j hj => by
            rw [h9 j hj, t4 24 (by decide) (by decide)]
            show _ = if j < n then S2.1 24 j else 0
            by_cases e : j < n
            · rw [if_pos e, if_pos e, (b7 j e).2.2]
            · rw [if_neg e, if_neg e]
          have V : cv S4 n (S4.1 44) := by
            obtain ⟨v1, v2, v3, v4, v5⟩ := b9
            rw [← t4 22 (by decide) (by decide), ← t4 23 (by decide) (by decide), ← t4 24 (by decide) (by decide), ← t4 26 (by decide) (by decide)] at v1 v2 v3 v4 v5
            have hn := ok.1
            refine ⟨fun i hi => ?_, ?_, ?_, ?_, ?_⟩
            · rw [t4 25 (by decide) (by decide), v1 i hi, er i (by omega)]
            · rw [t4 21 (by decide) (by decide), v2, er 6 (by omega)]
            · rw [t4 21 (by decide) (by decide), v3, er 7 (by omega)]
            · rw [t4 21 (by decide) (by decide), v4, er 8 (by omega)]
            · rw [t4 21 (by decide) (by decide), v5, er 9 (by omega)]
          obtain ⟨v1, v2, v3, v4, v5⟩ := V
          refine ⟨shelf_congr (s4 2 (by omega)) (fun q hq => s4 _ (by omega)) (s4 38 (by omega)) (s4 39 (by omega)) I.1, shelf_congr (s4 11 (by omega)) (fun q hq => s4 _ (by omega)) (s4 40 (by omega)) (s4 41 (by omega)) I.2.1, ?_, n, 0, ok.1, by omega, ?_, h5, ?_, ?_, h7, fun i hi => ?_, er, v1, v2, v3, v4, v5, fun d hd => absurd hd (by omega), fun k hk => Or.inl ⟨?_, h10 k hk⟩⟩
          · obtain ⟨t1, t2, t3, t5, t6⟩ := I.2.2.1
            unfold iv_told
            rw [s4 35 (by omega), s4 36 (by omega), s4 48 (by omega), e37 13 (by omega), e37 16 (by omega), e2]
            exact ⟨t1, t2, t3, t5, t6⟩
          · rw [t4 21 (by decide) (by decide)]; exact b4
          · rw [h6, t4 21 (by decide) (by decide), b5]
          · rw [t4 21 (by decide) (by decide)]; exact b6
          · obtain ⟨k1, k2, k3⟩ := b7 i hi
            obtain ⟨l1, l2⟩ := h8 i hi
            obtain ⟨o1, o2, o3⟩ := ok.2 i hi
            rw [t4 22 (by decide) (by decide), t4 23 (by decide) (by decide), t4 24 (by decide) (by decide), k1, k2, k3, l1, l2]
            exact ⟨rfl, o1.1, o1.2, rfl, o3.1, o3.2, o2.1, o2.2⟩
          · rw [t4 27 (by decide) (by decide)]; exact b8 k hk
      · obtain ⟨S2, e2, f2, _⟩ := m_faultOf (mx_of I f1 hq eN hN60) (a := none)
        refine ⟨-4, S1, S2, ?_, ?_, Inv_FF f1 f2 I⟩
        · show pv_R mX6_town 0 [some (.ref 0), some (.int (nI q)), none] [] (pv_em S) = _
          rw [bX6_town_0, x_miss_t2 ht hs', pv_cc_some, bX6_town_9, if_pos rfl, bX6_town_16, e1, pv_cc_some, bX6_town_28, if_neg z, bX6_town_33]
        · show pv_R mX7_town 0 [some (.ref 37), some (.int (nI q)), none] [] (pv_em S1) = _
          rw [bX7_town_0, c_isText, pv_cc_some, bX7_town_4, bI_t ht, if_pos (by decide), bX7_town_9, if_neg hx, hc, f1.1 40 (by decide) (by decide) (by decide) (by decide), g1, if_pos (by rw [Int32.le_iff_toInt_le, i0]; exact hs), bX7_town_24, e2, pv_cc_some, bX7_town_29, if_neg z, bX7_town_34]
    · have hs' : ¬ 0 ≤ (S.1 11 (nI q).toNatClampNeg).toInt := by rw [hc]; exact hs
      refine ⟨-3, xf S 1, _, ?_, ?_, Inv_find (f := 1) I (by omega) (by omega)⟩
      · show pv_R mX6_town 0 [some (.ref 0), some (.int (nI q)), none] [] (pv_em S) = _
        rw [bX6_town_0, x_miss_t1 ht hs', pv_cc_some, bX6_town_9, if_neg (by decide), bX6_town_14]
      · show pv_R mX7_town 0 [some (.ref 37), some (.int (nI q)), none] [] (pv_em _) = _
        rw [bX7_town_0, c_isText, pv_cc_some, bX7_town_4, bI_t ht, if_pos (by decide), bX7_town_9, if_neg hx, hc, xf_ne (by decide) (by decide), g1, if_neg (by rw [Int32.le_iff_toInt_le, i0]; exact hs), bX7_town_18, m_find_1, pv_cc_some, bX7_town_23]
  · refine ⟨-1, S, S, ?_, ?_, I⟩
    · show pv_R mX6_town 0 [some (.ref 0), some (.int t), none] [] (pv_em S) = _
      rw [bX6_town_0, x_miss_t0 ht, pv_cc_some, bX6_town_9, if_neg (by decide), bX6_town_14]
    · show pv_R mX7_town 0 [some (.ref 37), some (.int t), none] [] (pv_em _) = _
      rw [bX7_town_0, c_isText, pv_cc_some, bX7_town_4, bI_f ht, if_neg (fun z => z rfl), bX7_town_7]
end TN
