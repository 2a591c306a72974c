/-! ===== plan ===== -/
theorem shl3 : ∀ N, N < 4 → (1 : Int32) <<< (nI N &&& 31) = nI (2 ^ N) := by decide +kernel
theorem p2_in {N : Nat} (h : N ≤ 3) : 1 ≤ 2 ^ N ∧ 2 ^ N ≤ 8 := by
  have : N = 0 ∨ N = 1 ∨ N = 2 ∨ N = 3 := by omega
  rcases this with rfl | rfl | rfl | rfl <;> decide
theorem pb_in {n N : Nat} (hn : n ≤ 6) (h : N ≤ 3) : 1 ≤ (n + 1) ^ N ∧ (n + 1) ^ N ≤ 343 :=
  ⟨Nat.succ_le_of_lt (Nat.pow_pos (by omega)), Nat.le_trans (Nat.pow_le_pow_left (by omega) N) (Nat.pow_le_pow_right (n := 7) (by omega) h)⟩
theorem im6 : (-1000000 : Int32).toInt = -1000000 := by decide
/-- a row anew, on both sides -/
theorem shelf_anew {S S' : pv_S} {cs cp ms mr n most r N : Nat} {z : Int32} (hz : z.toInt = (N : Int)) (hN : N ≤ most) (I : iv_shelf S cs cp ms mr n most) (c1 : ∀ q, q < n → q ≠ r → S'.1 (cp + q) = S.1 (cp + q)) (c2 : S'.1 cs = upd (S.1 cs) r z) (c3 : S'.1 ms = upd (S.1 ms) r z) (c4 : ∀ i, i < N → S'.1 mr (most * r + i) = S'.1 (cp + r) i) (c5 : ∀ q i, q ≠ r → i < most → S'.1 mr (most * q + i) = S.1 mr (most * q + i)) : iv_shelf S' cs cp ms mr n most := by
  intro q hq
  rw [c2, c3]
  by_cases e : q = r
  · subst e
    rw [upd_eq, upd_eq]
    exact ⟨rfl, by omega, by omega, fun i hi => c4 i (by omega)⟩
  · rw [upd_ne e, upd_ne e]
    obtain ⟨g1, g2, g3, g4⟩ := I q hq
    refine ⟨g1, g2, g3, fun i hi => ?_⟩
    rw [c5 q i e (by omega), c1 q hq e]
    exact g4 i hi
theorem Inv_rows2 {S S' : pv_S} (I : Inv S) (hr : iv_rows S') (hc : ∀ k, k ≠ 2 → k ≠ 38 → k ≠ 39 → ¬ (4 ≤ k ∧ k ≤ 9) → k < 49 → S'.1 k = S.1 k) (h2 : S'.2 = S.2) : Inv S' := by
  obtain ⟨I1, I2, I3, I4⟩ := I
  refine ⟨hr, shelf_congr ?_ (fun q hq => ?_) ?_ ?_ I2, ?_, town_congr (fun k hk => ?_) ?_ ?_ ?_ I4⟩
  · exact hc 11 (by omega) (by omega) (by omega) (by omega) (by omega)
  · exact hc _ (by omega) (by omega) (by omega) (by omega) (by omega)
  · exact hc 40 (by omega) (by omega) (by omega) (by omega) (by omega)
  · exact hc 41 (by omega) (by omega) (by omega) (by omega) (by omega)
  · unfold iv_told
    rw [h2, hc 37 (by omega) (by omega) (by omega) (by omega) (by omega), hc 35 (by omega) (by omega) (by omega) (by omega) (by omega), hc 48 (by omega) (by omega) (by omega) (by omega) (by omega), hc 36 (by omega) (by omega) (by omega) (by omega) (by omega)]
    exact I3
  · exact hc k (by omega) (by omega) (by omega) (by omega) (by omega)
  · rw [hc 37 (by omega) (by omega) (by omega) (by omega) (by omega)]
  · rw [hc 37 (by omega) (by omega) (by omega) (by omega) (by omega)]
  · rw [hc 37 (by omega) (by omega) (by omega) (by omega) (by omega)]
section PL
variable {S : pv_S} {n c r N : Nat}
theorem x_plan1 (T : Tw S n c) (hr : r < n) (e : S.1 44 9 = nI r) (hN : N ≤ 3) {rr : Int32} {a3 a4 a5 a6 : Option Value} : ∃ (M : Int32) (b : Nat) (x5 : Int32) (a6' : Option Value), pv_R mX6_plan 35 [some (.ref 0), some (.int (nI N)), some (.int rr), a3, a4, a5, a6] [] (pv_em S) = pv_R mX6_plan 85 [some (.ref 0), some (.int (nI N)), some (.int rr), some (.int (nI b)), some (.int M), some (.int x5), a6'] [] (pv_em S) ∧ AM (fun f => PV (S.1 42 r) (S.1 44 6) (tw_meal (S.1 42 r) (S.1 43 r)) (S.1 44 r) r (dxF r N f) N) (2 ^ N) M b := by
  obtain ⟨h1, h8⟩ := p2_in hN
  have sh := shl3 N (by omega)
  have wo : ∀ f, f < 8 → pv_R mX6_planWorth 0 [some (.ref 0), some (.int (nI f)), some (.int (nI N)), none, none, none] [] (pv_em S) = some (some (.int (PV (S.1 42 r) (S.1 44 6) (tw_meal (S.1 42 r) (S.1 43 r)) (S.1 44 r) r (dxF r N f) N)), pv_em S) := fun f hf => x_worth T hr e (by omega) hN
  obtain ⟨⟨M, b, a⟩, e1, A⟩ := lpE (R := fun j (q : Int32 × Nat × Option Value) => pv_R mX6_plan 48 [some (.ref 0), some (.int (nI N)), some (.int rr), some (.int (nI q.2.1)), some (.int q.1), some (.int (nI j)), q.2.2] [] (pv_em S)) (N := 2 ^ N) (fun j q => AM (fun f => PV (S.1 42 r) (S.1 44 6) (tw_meal (S.1 42 r) (S.1 43 r)) (S.1 44 r) r (dxF r N f) N) j q.1 q.2.1) (fun j q hj A => by
    obtain ⟨M, b, a⟩ := q
    have hj8 : j < 8 := Nat.lt_of_lt_of_le hj h8
    have go : pv_R mX6_plan 48 [some (.ref 0), some (.int (nI N)), some (.int rr), some (.int (nI b)), some (.int M), some (.int (nI j)), a] [] (pv_em S) = if PV (S.1 42 r) (S.1 44 6) (tw_meal (S.1 42 r) (S.1 43 r)) (S.1 44 r) r (dxF r N j) N ≤ M then pv_R mX6_plan 79 [some (.ref 0), some (.int (nI N)), some (.int rr), some (.int (nI b)), some (.int M), some (.int (nI j)), some (.int (PV (S.1 42 r) (S.1 44 6) (tw_meal (S.1 42 r) (S.1 43 r)) (S.1 44 r) r (dxF r N j) N))] [] (pv_em S) else pv_R mX6_plan 72 [some (.ref 0), some (.int (nI N)), some (.int rr), some (.int (nI b)), some (.int M), some (.int (nI j)), some (.int (PV (S.1 42 r) (S.1 44 6) (tw_meal (S.1 42 r) (S.1 43 r)) (S.1 44 r) r (dxF r N j) N))] [] (pv_em S) := by
      rw [bX6_plan_48, sh, if_neg (by rw [nIle (by omega) (by omega)]; omega), bX6_plan_56, wo j hj8, pv_cc_some, bX6_plan_63]
    by_cases h : PV (S.1 42 r) (S.1 44 6) (tw_meal (S.1 42 r) (S.1 43 r)) (S.1 44 r) r (dxF r N j) N ≤ M
    · refine ⟨(M, b, some (.int (PV (S.1 42 r) (S.1 44 6) (tw_meal (S.1 42 r) (S.1 43 r)) (S.1 44 r) r (dxF r N j) N))), ?_, AM_le A h⟩
      refine Eq.trans go ?_
      rw [if_pos h, bX6_plan_79, nIs]
    · refine ⟨(PV (S.1 42 r) (S.1 44 6) (tw_meal (S.1 42 r) (S.1 43 r)) (S.1 44 r) r (dxF r N j) N, j, some (.int (PV (S.1 42 r) (S.1 44 6) (tw_meal (S.1 42 r) (S.1 43 r)) (S.1 44 r) r (dxF r N j) N))), ?_, AM_gt A h⟩
      refine Eq.trans go ?_
      rw [if_neg h, bX6_plan_72, bX6_plan_79, nIs]) (2 ^ N - 1) 1 (PV (S.1 42 r) (S.1 44 6) (tw_meal (S.1 42 r) (S.1 43 r)) (S.1 44 r) r (dxF r N 0) N, 0, a6) (Nat.add_sub_cancel' h1) AM_0
  refine ⟨M, b, nI (2 ^ N), a, ?_, A⟩
  have w0 := wo 0 (by omega)
  rw [bX6_plan_35]
  refine Eq.trans (congrArg (fun z => pv_cc z mX6_plan 43 [some (.ref 0), some (.int (nI N)), some (.int rr), some (.int 0), a4, a5, a6] []) w0) ?_
  show pv_cc _ _ _ _ _ = _
  rw [pv_cc_some, bX6_plan_43]
  refine Eq.trans e1 ?_
  show pv_R mX6_plan 48 [some (.ref 0), some (.int (nI N)), some (.int rr), some (.int (nI b)), some (.int M), some (.int (nI (2 ^ N))), a] [] (pv_em S) = _
  rw [bX6_plan_48, sh, if_pos (Int32.le_refl _)]
theorem x_plan2 (T : Tw S n c) (hr : r < n) (e : S.1 44 9 = nI r) (hN : N ≤ 3) {q b : Nat} (hq : q < 6) (hb : b < 8) {M x5 : Int32} {a6 : Option Value} : ∃ S', pv_R mX6_plan 85 [some (.ref 0), some (.int (nI N)), some (.int (nI q)), some (.int (nI b)), some (.int M), some (.int x5), a6] [] (pv_em S) = some (some (.int M), pv_em S') ∧ (∀ k, k ≠ 2 → k ≠ 4 + q → S'.1 k = S.1 k) ∧ S'.2 = S.2 ∧ S'.1 2 = upd (S.1 2) q (nI N) ∧ ∀ t, t < N → S'.1 (4 + q) t = gvF (dxF r N b t) := by
  have hn := tw_n T
  obtain ⟨S1, a1, f1, f2, f3⟩ := lp_make_r (r := nI q) (v := -9) (by rw [nIt (by omega)]; omega) (by rw [nIt (by omega)]; omega) (N := N) (by omega) N 0 (pv_si S 2 q (nI N)) (by omega)
  rw [nIc (by omega)] at f1 f3
  have e2 : pv_R mX3_make 0 [some (.ref 1), some (.int (nI q)), some (.int (nI N)), some (.int (-9)), none] [] (pv_em S) = some (none, pv_em S1) := by
    rw [bX3_maker_0, if_neg (gx (by omega) (by omega)), nIc (by omega)]
    exact a1
  obtain ⟨S2, e3, p1, p2, p3, p4⟩ := lpE (R := fun t (Z : pv_S) => pv_R mX6_plan 99 [some (.ref 0), some (.int (nI N)), some (.int (nI q)), some (.int (nI b)), some (.int M), some (.int (nI t)), a6] [] (pv_em Z)) (N := N) (fun t Z => (∀ k, k ≠ 4 + q → Z.1 k = S1.1 k) ∧ Z.2 = S1.2 ∧ (∀ i, i < t → Z.1 (4 + q) i = gvF (dxF r N b i)) ∧ ∀ i, t ≤ i → i < N → Z.1 (4 + q) i = -9) (fun t Z ht hP => by
    obtain ⟨h1, h2, h3, h4⟩ := hP
    have z21 : Z.1 21 10 = nI r := by rw [h1 21 (by omega), f1 21 (by omega), si_ne (by decide), tw_r T, e]
    by_cases bt : b.testBit (N - 1 - t) = true
    · have dx : dxF r N b t = r + 1 := if_pos bt
      refine ⟨pv_si Z (4 + q) t (nI r), ?_, fun k hk => by rw [si_ne hk]; exact h1 k hk, h2, fun i hi => ?_, fun i i1 i2 => ?_⟩
      · refine Eq.trans bX6_plan_99 ?_
        rw [if_neg (by rw [nIle (by omega) (by omega)]; omega), bX6_plan_105, x_fed (by omega) hN ht, pv_cc_some, bX6_plan_112, bI_t bt, if_neg (by decide), bX6_plan_115, z21, bX3_setr_0, if_neg (gx (by omega) (by omega)), if_neg (gx (by omega) (by omega)), nIc (i := q) (by omega), nIc (i := t) (by omega), pv_cc_void, bX6_plan_132, nIs]
      · by_cases ei : i = t
        · rw [ei, si_jj, dx]
          unfold gvF
          rw [if_neg (by omega), show r + 1 - 1 = r from by omega]
        · rw [si_j ei]; exact h3 i (by omega)
      · rw [si_j (by omega)]; exact h4 i (by omega) i2
    · have dx : dxF r N b t = 0 := if_neg bt
      refine ⟨Z, ?_, h1, h2, fun i hi => ?_, fun i i1 i2 => h4 i (by omega) i2⟩
      · refine Eq.trans bX6_plan_99 ?_
        rw [if_neg (by rw [nIle (by omega) (by omega)]; omega), bX6_plan_105, x_fed (by omega) hN ht, pv_cc_some, bX6_plan_112, bI_f bt, if_pos rfl, bX6_plan_132, nIs]
      · by_cases ei : i = t
        · rw [ei, h4 t (Nat.le_refl _) ht, dx]
          rfl
        · exact h3 i (by omega)) N 0 S1 (by omega) ⟨fun _ _ => rfl, rfl, fun i hi => absurd hi (by omega), fun i _ i2 => by rw [f3, if_pos (by omega)]⟩
  refine ⟨S2, ?_, fun k k1 k2 => by rw [p1 k k2, f1 k k2, si_ne k1], p2.trans f2, by rw [p1 2 (by omega), f1 2 (by omega), si_eq], p3⟩
  rw [bX6_plan_85, e2, pv_cc_void, bX6_plan_96]
  refine Eq.trans e3 ?_
  show pv_R mX6_plan 99 _ _ _ = _
  rw [bX6_plan_99, if_pos (Int32.le_refl _), bX6_plan_138]
theorem m_plan1 (T : Tw S n c) (hr : r < n) (e : S.1 44 9 = nI r) (hN : N ≤ 3) {rr : Int32} {a3 a4 a5 a6 : Option Value} : ∃ (Z : pv_S) (M : Int32) (b : Nat) (x3 x5 : Int32) (a6' : Option Value), pv_R mX7_plan 31 [some (.ref 37), some (.int (nI N)), some (.int rr), a3, a4, a5, a6] [] (pv_em S) = pv_R mX7_plan 110 [some (.ref 37), some (.int (nI N)), some (.int rr), some (.int x3), some (.int M), some (.int x5), a6'] [] (pv_em Z) ∧ FP S Z ∧ AM (fun x => PV (S.1 42 r) (S.1 44 6) (tw_meal (S.1 42 r) (S.1 43 r)) (S.1 44 r) r (dgF (n + 1) N x) N) ((n + 1) ^ N) M b ∧ ∀ t, t < N → Z.1 51 t = gvF (dgF (n + 1) N b t) := by
  have hn := tw_n T
  obtain ⟨h1, h8⟩ := pb_in hn hN
  have m4 : S.1 37 4 + 1 = nI (n + 1) := by rw [tw_m4 T, nIs]
  obtain ⟨x, e1, ex⟩ := lpE (R := fun k (x : Nat) => pv_R mX7_plan 36 [some (.ref 37), some (.int (nI N)), some (.int rr), some (.int (nI x)), some (.int (nI k)), a5, a6] [] (pv_em S)) (N := N) (fun k x => x = (n + 1) ^ k) (fun k x hk hP => by
    refine ⟨(n + 1) ^ (k + 1), ?_, rfl⟩
    refine Eq.trans bX7_plan_36 ?_
    rw [if_neg (by rw [nIle (by omega) (by omega)]; omega), bX7_plan_42, m4, nImul, nIs, hP, ← Nat.pow_succ]) N 0 1 (by omega) rfl
  obtain ⟨⟨Z, M, b, a⟩, e2, F, A⟩ := lpE (R := fun j (q : pv_S × Int32 × Nat × Option Value) => pv_R mX7_plan 64 [some (.ref 37), some (.int (nI N)), some (.int rr), some (.int (nI ((n + 1) ^ N))), some (.int q.2.1), some (.int (nI j)), q.2.2.2] [] (pv_em q.1)) (N := (n + 1) ^ N) (fun j q => FP S q.1 ∧ ((j = 0 ∧ q.2.1 = -1000000) ∨ (AM (fun x => PV (S.1 42 r) (S.1 44 6) (tw_meal (S.1 42 r) (S.1 43 r)) (S.1 44 r) r (dgF (n + 1) N x) N) j q.2.1 q.2.2.1 ∧ ∀ t, t < N → q.1.1 51 t = gvF (dgF (n + 1) N q.2.2.1 t)))) (fun j q hj hP => by
    obtain ⟨Z, M, b, a⟩ := q
    obtain ⟨F, A⟩ := hP
    have F : FP S Z := F
    have A : (j = 0 ∧ M = -1000000) ∨ (AM (fun x => PV (S.1 42 r) (S.1 44 6) (tw_meal (S.1 42 r) (S.1 43 r)) (S.1 44 r) r (dgF (n + 1) N x) N) j M b ∧ ∀ t, t < N → Z.1 51 t = gvF (dgF (n + 1) N b t)) := A
    obtain ⟨Z', p, F', k51, k50⟩ := m_planned T hr e (x := j) (by omega) hN F (a3 := none) (a4 := none) (a5 := none) (a6 := none) (a7 := none)
    have ge := PV_ge (kd := S.1 42 r) (h := S.1 44 6) (ml := tw_meal (S.1 42 r) (S.1 43 r)) (w := S.1 44 r) (r := r) (δ := dgF (n + 1) N j) hN
    have go : pv_R mX7_plan 64 [some (.ref 37), some (.int (nI N)), some (.int rr), some (.int (nI ((n + 1) ^ N))), some (.int M), some (.int (nI j)), a] [] (pv_em Z) = if PV (S.1 42 r) (S.1 44 6) (tw_meal (S.1 42 r) (S.1 43 r)) (S.1 44 r) r (dgF (n + 1) N j) N ≤ M then pv_R mX7_plan 104 [some (.ref 37), some (.int (nI N)), some (.int rr), some (.int (nI ((n + 1) ^ N))), some (.int M), some (.int (nI j)), some (.int (PV (S.1 42 r) (S.1 44 6) (tw_meal (S.1 42 r) (S.1 43 r)) (S.1 44 r) r (dgF (n + 1) N j) N))] [] (pv_em Z') else pv_R mX7_plan 86 [some (.ref 37), some (.int (nI N)), some (.int rr), some (.int (nI ((n + 1) ^ N))), some (.int M), some (.int (nI j)), some (.int (PV (S.1 42 r) (S.1 44 6) (tw_meal (S.1 42 r) (S.1 43 r)) (S.1 44 r) r (dgF (n + 1) N j) N))] [] (pv_em Z') := by
      rw [bX7_plan_64, if_neg (by rw [nIle (by omega) (by omega)]; omega), bX7_plan_70, p, pv_cc_some, bX7_plan_77]
    by_cases h : PV (S.1 42 r) (S.1 44 6) (tw_meal (S.1 42 r) (S.1 43 r)) (S.1 44 r) r (dgF (n + 1) N j) N ≤ M
    · refine ⟨(Z', M, b, some (.int (PV (S.1 42 r) (S.1 44 6) (tw_meal (S.1 42 r) (S.1 43 r)) (S.1 44 r) r (dgF (n + 1) N j) N))), ?_, F', Or.inr ?_⟩
      · refine Eq.trans go ?_
        rw [if_pos h, bX7_plan_104, nIs]
      · rcases A with ⟨_, A2⟩ | ⟨A1, A2⟩
        · rw [A2, leI, im6] at h
          omega
        · exact ⟨AM_le A1 h, fun t ht => by
            show Z'.1 51 t = _
            rw [k51]; exact A2 t ht⟩
    · obtain ⟨Z2, c1, d1, d2, d3⟩ := cp_50_51 (S := Z') (i := 0) (j := 0) (N := 3) (by omega) (by omega) (a := none)
      have c1' : pv_R mX7_copies 0 [some (.ref 50), some (.int 0), some (.ref 51), some (.int 0), some (.int 3), none] [] (pv_em Z') = some (none, pv_em Z2) := c1
      refine ⟨(Z2, PV (S.1 42 r) (S.1 44 6) (tw_meal (S.1 42 r) (S.1 43 r)) (S.1 44 r) r (dgF (n + 1) N j) N, j, some (.int (PV (S.1 42 r) (S.1 44 6) (tw_meal (S.1 42 r) (S.1 43 r)) (S.1 44 r) r (dgF (n + 1) N j) N))), ?_, ⟨fun k k1 k2 => ?_, d2.trans F'.2⟩, Or.inr ⟨?_, fun t ht => ?_⟩⟩
      · refine Eq.trans go ?_
        rw [if_neg h, bX7_plan_86, c1', pv_cc_void, bX7_plan_104, nIs]
      · show Z2.1 k = _
        rw [d1 k k2]; exact F'.1 k k1 k2
      · rcases A with ⟨A1, _⟩ | ⟨A1, _⟩
        · subst A1
          exact AM_0
        · exact AM_gt A1 h
      · show Z2.1 51 t = _
        rw [d3, if_pos (by omega), Nat.zero_add, Nat.sub_zero]
        exact k50 t ht) ((n + 1) ^ N) 0 (S, -1000000, 0, a6) (Nat.zero_add _) ⟨⟨fun _ _ _ => rfl, rfl⟩, Or.inl ⟨rfl, rfl⟩⟩
  have A := A.resolve_left (fun z => absurd z.1 (by omega))
  refine ⟨Z, M, b, nI ((n + 1) ^ N), nI ((n + 1) ^ N), a, ?_, F, A.1, A.2⟩
  rw [bX7_plan_31]
  refine Eq.trans e1 ?_
  show pv_R mX7_plan 36 [some (.ref 37), some (.int (nI N)), some (.int rr), some (.int (nI x)), some (.int (nI N)), a5, a6] [] (pv_em S) = _
  rw [bX7_plan_36, if_pos (Int32.le_refl _), bX7_plan_57, ex]
  refine Eq.trans e2 ?_
  show pv_R mX7_plan 64 [some (.ref 37), some (.int (nI N)), some (.int rr), some (.int (nI ((n + 1) ^ N))), some (.int M), some (.int (nI ((n + 1) ^ N))), a] [] (pv_em Z) = _
  rw [bX7_plan_64, if_pos (Int32.le_refl _)]
theorem tq_plan (I : Inv S) (x y : Int32) : pv_goI Inv S mX6_plan mX7_plan [.int x, .int y] := by
  obtain ⟨n, c, T⟩ := tw_of I
  have hn := tw_n T
  by_cases c1 : 0 ≤ x.toInt ∧ x.toInt ≤ 3
  · by_cases c2 : 0 ≤ y.toInt ∧ y.toInt ≤ 5
    · by_cases h0 : n = 0
      · have z7 : S.1 21 7 = 0 := by rw [tw_x7 T, h0]; rfl
        have z4 : S.1 37 4 = 0 := by rw [tw_m4 T, h0]; rfl
        refine ⟨-4, S, S, ?_, ?_, I⟩
        · show pv_R mX6_plan 0 [some (.ref 0), some (.int x), some (.int y), none, none, none, none] [] (pv_em S) = _
          rw [bX6_plan_0, x_within, i0, i3, pv_cc_some, bX6_plan_6, bI_t c1, if_neg (by decide), bX6_plan_9, x_hasNumber_r, pv_cc_some, bX6_plan_17, bI_t c2, if_pos (by decide), bX6_plan_22, z7, if_neg (fun z => z rfl), bX6_plan_32]
        · show pv_R mX7_plan 0 [some (.ref 37), some (.int x), some (.int y), none, none, none, none] [] (pv_em S) = _
          rw [bX7_plan_0, c_in, Int32.toInt_toInt64, j0, j3, pv_cc_some, bX7_plan_9, bI_t c1, if_neg (by decide), bX7_plan_12, c_isRow, pv_cc_some, bX7_plan_16, bI_t c2, if_pos (by decide), bX7_plan_21, z4, if_neg (fun z => z rfl), bX7_plan_28]
      · obtain ⟨N, rfl, hN'⟩ := nIex c1.1
        obtain ⟨q, rfl, hq'⟩ := nIex c2.1
        have hN : N ≤ 3 := by omega
        have hq : q < 6 := by omega
        obtain ⟨r, hr, er⟩ := tw_rb T h0
        have n0 : ¬ nI n = 0 := nI0 hn h0
        obtain ⟨Mx, bx, x5, a6, e1, X⟩ := x_plan1 T hr er hN (rr := nI q) (a3 := none) (a4 := none) (a5 := none) (a6 := none)
        have hbx : bx < 8 := Nat.lt_of_lt_of_le X.1 (p2_in hN).2
        obtain ⟨S1, e2, f1, f2, f3, f4⟩ := x_plan2 T hr er hN hq hbx (M := Mx) (x5 := x5) (a6 := a6)
        have T1 : Tw S1 n c := Tw_congr (fun k hk => f1 k (by omega) (by omega)) (by rw [f1 37 (by omega) (by omega)]) (by rw [f1 37 (by omega) (by omega)]) (by rw [f1 37 (by omega) (by omega)]) T
        have s44 : S1.1 44 = S.1 44 := f1 44 (by omega) (by omega)
        have s42 : S1.1 42 = S.1 42 := f1 42 (by omega) (by omega)
        have s43 : S1.1 43 = S.1 43 := f1 43 (by omega) (by omega)
        obtain ⟨Z, Mm, bm, y3, y5, b6, g1, F, Y, g4⟩ := m_plan1 T1 hr (by rw [s44]; exact er) hN (rr := nI q) (a3 := none) (a4 := none) (a5 := none) (a6 := none)
        rw [s44, s42, s43] at Y
        obtain ⟨eM, eD⟩ := pl_eq (B := n + 1) hN (by omega) (by omega) X Y
        obtain ⟨Z2, k1, d1, d2, d3⟩ := cp_51_39 (S := Z) (i := 0) (j := 40 * q) (N := N) (by omega) (by omega) (a := none)
        have k1' : pv_R mX7_copies 0 [some (.ref 51), some (.int 0), some (.ref 39), some (.int (40 * nI q)), some (.int (nI N)), none] [] (pv_em Z) = some (none, pv_em Z2) := by
          rw [show (40 : Int32) = nI 40 from rfl, nImul]
          exact k1
        have zz : ∀ k, k ≠ 39 → k ≠ 50 → k ≠ 51 → k ≠ 38 → (pv_si Z2 38 q (nI N)).1 k = S1.1 k := fun k z1 z2 z3 z4 => by rw [si_ne z4, d1 k z1, F.1 k z2 z3]
        refine ⟨Mx, S1, pv_si Z2 38 q (nI N), ?_, ?_, ?_⟩
        · show pv_R mX6_plan 0 [some (.ref 0), some (.int (nI N)), some (.int (nI q)), none, none, none, none] [] (pv_em S) = _
          rw [bX6_plan_0, x_within, i0, i3, pv_cc_some, bX6_plan_6, bI_t c1, if_neg (by decide), bX6_plan_9, x_hasNumber_r, pv_cc_some, bX6_plan_17, bI_t c2, if_pos (by decide), bX6_plan_22, tw_x7 T, if_pos n0, e1, e2]
        · show pv_R mX7_plan 0 [some (.ref 37), some (.int (nI N)), some (.int (nI q)), none, none, none, none] [] (pv_em S1) = _
          rw [bX7_plan_0, c_in, Int32.toInt_toInt64, j0, j3, pv_cc_some, bX7_plan_9, bI_t c1, if_neg (by decide), bX7_plan_12, c_isRow, pv_cc_some, bX7_plan_16, bI_t c2, if_pos (by decide), bX7_plan_21, tw_m4 T1, if_pos n0, g1, bX7_plan_110, k1', pv_cc_void, bX7_plan_127, if_neg (gx (by omega) (by omega)), nIc (by omega), eM]
        · refine Inv_rows2 I (shelf_anew (r := q) (N := N) (z := nI N) (nIt (by omega)) (by omega) I.1 (fun p _ hp => ?_) ?_ ?_ (fun i hi => ?_) (fun p i hp hi => ?_)) (fun k k1 k2 k3 k4 k5 => ?_) (d2.trans (F.2.trans f2))
          · rw [zz _ (by omega) (by omega) (by omega) (by omega), f1 _ (by omega) (by omega)]
          · rw [zz 2 (by omega) (by omega) (by omega) (by omega), f3]
          · rw [si_eq, d1 38 (by omega), F.1 38 (by omega) (by omega), f1 38 (by omega) (by omega)]
          · rw [zz (4 + q) (by omega) (by omega) (by omega) (by omega), f4 i hi, si_ne (by decide), d3, if_pos (by omega), show 0 + (40 * q + i - 40 * q) = i from by omega, g4 i hi, eD i hi]
          · rw [si_ne (by decide), d3, if_neg (by omega), F.1 39 (by omega) (by omega), f1 39 (by omega) (by omega)]
          · rw [zz k k3 (by omega) (by omega) k2, f1 k k1 (by omega)]
    · refine ⟨-1, S, S, ?_, ?_, I⟩
      · show pv_R mX6_plan 0 [some (.ref 0), some (.int x), some (.int y), none, none, none, none] [] (pv_em S) = _
        rw [bX6_plan_0, x_within, i0, i3, pv_cc_some, bX6_plan_6, bI_t c1, if_neg (by decide), bX6_plan_9, x_hasNumber_r, pv_cc_some, bX6_plan_17, bI_f c2, if_neg (fun z => z rfl), bX6_plan_20]
      · show pv_R mX7_plan 0 [some (.ref 37), some (.int x), some (.int y), none, none, none, none] [] (pv_em S) = _
        rw [bX7_plan_0, c_in, Int32.toInt_toInt64, j0, j3, pv_cc_some, bX7_plan_9, bI_t c1, if_neg (by decide), bX7_plan_12, c_isRow, pv_cc_some, bX7_plan_16, bI_f c2, if_neg (fun z => z rfl), bX7_plan_19]
  · refine ⟨-1, S, S, ?_, ?_, I⟩
    · show pv_R mX6_plan 0 [some (.ref 0), some (.int x), some (.int y), none, none, none, none] [] (pv_em S) = _
      rw [bX6_plan_0, x_within, i0, i3, pv_cc_some, bX6_plan_6, bI_f c1, if_pos rfl, bX6_plan_20]
    · show pv_R mX7_plan 0 [some (.ref 37), some (.int x), some (.int y), none, none, none, none] [] (pv_em S) = _
      rw [bX7_plan_0, c_in, Int32.toInt_toInt64, j0, j3, pv_cc_some, bX7_plan_9, bI_f c1, if_pos rfl, bX7_plan_19]
end PL
