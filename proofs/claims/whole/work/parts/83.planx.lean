/-! ===== plan: the machine's part ===== -/
theorem nImul {a b : Nat} : nI a * nI b = nI (a * b) := by
  unfold nI
  rw [← Int32.toBitVec_inj]
  simp [BitVec.ofNat_mul]
theorem nImod {x b : Nat} (hx : x < 100000) (hb : b < 100000) : nI x - nI x / nI b * nI b = nI (x % b) := by
  refine Int32.toInt_inj.mp ?_
  have : x % b ≤ x := Nat.mod_le x b
  rw [rem_toInt, nIt hx, nIt hb, nIt (by omega), Int.tmod_eq_emod_of_nonneg (by omega)]
  omega
theorem nIdiv {x b : Nat} (hx : x < 100000) (hb : b < 100000) (h0 : 0 < b) : nI x / nI b = nI (x / b) := by
  have h1 := nImod hx hb
  have hd : x / b ≤ x := Nat.div_le_self x b
  refine Int32.toInt_inj.mp ?_
  rw [Int32.toInt_div, nIt hx, nIt hb, nIt (by omega), Int.tdiv_eq_ediv_of_nonneg (by omega)]
  have e : (x : Int) / (b : Int) = ((x / b : Nat) : Int) := rfl
  rw [e]
  generalize x / b = d at hd
  exact Int.bmod_eq_of_le (by omega) (by omega)
def gvF (d : Nat) : Int32 := if d = 0 then -9 else nI (d - 1)
theorem gv_9 {d : Nat} (h : d < 100) : (gvF d = -9) = (d = 0) := by
  unfold gvF
  by_cases e : d = 0
  · rw [if_pos e]; simp [e]
  · rw [if_neg e]
    exact propext ⟨fun z => absurd z (nIm9 (by omega)), fun z => absurd z e⟩
theorem gv_r {d r : Nat} (h : d < 100) (hr : r < 100) : (gvF d = nI r) = (d = r + 1) := by
  unfold gvF
  by_cases e : d = 0
  · rw [if_pos e]
    exact propext ⟨fun z => absurd z.symm (nIm9 (by omega)), fun z => by omega⟩
  · rw [if_neg e, nIeq (by omega) (by omega)]
    exact propext ⟨fun z => by omega, fun z => by omega⟩
section PX
variable {S Z : pv_S} {n c r N f k : Nat}
theorem x_fed (hf : f < 64) (hN : N ≤ 3) {t : Nat} (ht : t < N) : pv_R mX6_isFedAhead 0 [some (.int (nI f)), some (.int (nI N)), some (.int (nI t))] [] (pv_em S) = some (some (.int (bI (f.testBit (N - 1 - t) = true))), pv_em S) := by
  have e : nI N - 1 - nI t = nI (N - 1 - t) := by rw [show (1 : Int32) = nI 1 from rfl, nIsub (by omega) (by omega), nIsub (by omega) (by omega)]
  rw [bX6_isFedAhead_0, e, sh64 f hf (N - 1 - t) (by omega)]
  by_cases b : f.testBit (N - 1 - t) = true
  · rw [if_pos b, if_neg (by decide), bX6_isFedAhead_12, bX6_isFedAhead_17, if_pos vn1, bI_t b]
  · rw [if_neg b, if_pos rfl, bX6_isFedAhead_16, bX6_isFedAhead_17, if_pos vn0, bI_f b]
theorem ar3 (a w : Int32) : a + (-3) + w = a + (w - 3) := by
  rw [Int32.sub_eq_add_neg, Int32.add_assoc, Int32.add_comm (-3) w]
theorem x_worth (T : Tw S n c) (hr : r < n) (e : S.1 44 9 = nI r) (hf : f < 64) (hN : N ≤ 3) {a b d : Option Value} : pv_R mX6_planWorth 0 [some (.ref 0), some (.int (nI f)), some (.int (nI N)), a, b, d] [] (pv_em S) = some (some (.int (PV (S.1 42 r) (S.1 44 6) (tw_meal (S.1 42 r) (S.1 43 r)) (S.1 44 r) r (dxF r N f) N)), pv_em S) := by
  have hn := tw_n T
  obtain ⟨hr', ehr, hhr⟩ := tw_hN T
  have pd : tw_pd S n = S.1 44 r := by
    unfold tw_pd
    rw [if_neg (by omega), e, nIc (by omega)]
  rw [bX6_planWorth_0, x_pound T, pv_cc_some, bX6_planWorth_9, pd]
  refine itf_run (R := fun t (q : Int32 × Int32) => pv_R mX6_planWorth 14 [some (.ref 0), some (.int (nI f)), some (.int (nI N)), some (.int q.2), some (.int q.1), some (.int (nI t))] [] (pv_em S)) (f := pS (S.1 42 r) (S.1 44 6) (tw_meal (S.1 42 r) (S.1 43 r)) r (dxF r N f)) (F := fun q => some (some (.int q.2), pv_em S)) (N := N) (fun t q ht => ?_) (fun q => ?_) N 0 (S.1 44 r, 0) (by omega)
  · obtain ⟨w, s⟩ := q
    have ah : ∀ w : Int32, pv_R mX0_afterHour 0 [some (.int (S.1 42 r)), some (.int w), some (.int (S.1 21 9 + nI t))] [] (pv_em S) = some (some (.int (tw_held (w + tw_adds (S.1 42 r) (S.1 44 6 + nI t)))), pv_em S) := fun w => by
      rw [tw_h T, ehr, nIadd, x_after (by rw [nIt (by omega)]; omega)]
    have rk := x_rulerKind T (show n ≠ 0 by omega)
    rw [e, nIc (by omega)] at rk
    refine Eq.trans bX6_planWorth_14 ?_
    rw [if_neg (by rw [nIle (by omega) (by omega)]; omega), bX6_planWorth_20, x_fed hf hN ht, pv_cc_some, bX6_planWorth_27]
    by_cases bt : f.testBit (N - 1 - t) = true
    · have dx : dxF r N f t = r + 1 := if_pos bt
      rw [bI_t bt, if_neg (by decide), bX6_planWorth_30, x_rulerMeal T hr e, pv_cc_some, bX6_planWorth_39, x_held, pv_cc_some, bX6_planWorth_43, bX6_planWorth_48, rk, pv_cc_some, bX6_planWorth_55, ah, pv_cc_some, bX6_planWorth_70, nIs, ar3]
      unfold pS
      rw [dx, if_pos rfl, if_neg (show ¬ r + 1 = 0 by omega)]
    · have dx : dxF r N f t = 0 := if_neg bt
      rw [bI_f bt, if_pos rfl, bX6_planWorth_48, rk, pv_cc_some, bX6_planWorth_55, ah, pv_cc_some, bX6_planWorth_70, nIs]
      unfold pS
      rw [dx, if_neg (show ¬ 0 = r + 1 by omega), if_pos rfl, Int32.sub_zero]
  · refine Eq.trans bX6_planWorth_14 ?_
    rw [if_pos (Int32.le_refl _), bX6_planWorth_83]
/-- the reference's digits -/
def FP (S Z : pv_S) : Prop := (∀ k, k ≠ 50 → k ≠ 51 → Z.1 k = S.1 k) ∧ Z.2 = S.2
theorem FP_T (F : FP S Z) (T : Tw S n c) : Tw Z n c := Tw_congr (fun k hk => F.1 k (by omega) (by omega)) (by rw [F.1 37 (by decide) (by decide)]) (by rw [F.1 37 (by decide) (by decide)]) (by rw [F.1 37 (by decide) (by decide)]) T
theorem FP_si {i j : Nat} {v : Int32} (F : FP S Z) (h : i = 50 ∨ i = 51) : FP S (pv_si Z i j v) := ⟨fun q q1 q2 => by rw [si_ne (by omega)]; exact F.1 q q1 q2, F.2⟩
theorem m_pl1 (T : Tw S n c) {x : Nat} (hx : x < 1000) (hN : N ≤ 3) {a6 a7 : Option Value} : ∀ (k : Nat) (Z : pv_S), k ≤ N → FP S Z → (∀ t, k ≤ t → t < N → Z.1 50 t = gvF (dgF (n + 1) N x t)) → ∃ Z' x3, pv_R mX7_planned 16 [some (.ref 37), some (.int (nI x)), some (.int (nI N)), some (.int (nI (x / (n + 1) ^ (N - k)))), some (.int (nI r)), some (.int (nI k - 1)), a6, a7] [] (pv_em Z) = pv_R mX7_planned 69 [some (.ref 37), some (.int (nI x)), some (.int (nI N)), some (.int x3), some (.int (nI r)), some (.int (-1)), a6, a7] [] (pv_em Z') ∧ FP S Z' ∧ Z'.1 51 = Z.1 51 ∧ ∀ t, t < N → Z'.1 50 t = gvF (dgF (n + 1) N x t)
  | 0, Z, hk, F, h => ⟨Z, nI (x / (n + 1) ^ (N - 0)), by rw [bX7_planned_16, show nI 0 - 1 = -1 from by decide, if_pos (by decide)], F, rfl, fun t ht => h t (by omega) ht⟩
  | k + 1, Z, hk, F, h => by
    have hn := tw_n T
    have ek : nI (k + 1) - 1 = nI k := by rw [← nIs, Int32.add_sub_cancel]
    have m4 : Z.1 37 4 + 1 = nI (n + 1) := by rw [tw_m4 (FP_T F T), nIs]
    have m4' : ∀ v, (pv_si Z 50 k v).1 37 4 + 1 = nI (n + 1) := fun v => by rw [si_ne (by decide)]; exact m4
    have nz : ¬ nI (n + 1) = 0 := by rw [show (0 : Int32) = nI 0 from rfl, nIeq (by omega) (by omega)]; omega
    have hq : x / (n + 1) ^ (N - (k + 1)) < 1000 := Nat.lt_of_le_of_lt (Nat.div_le_self _ _) hx
    have ed : x / (n + 1) ^ (N - (k + 1)) % (n + 1) = dgF (n + 1) N x k := by
      unfold dgF
      rw [show N - (k + 1) = N - 1 - k from by omega]
    have dl : dgF (n + 1) N x k < n + 1 := Nat.mod_lt _ (by omega)
    have eq : x / (n + 1) ^ (N - (k + 1)) / (n + 1) = x / (n + 1) ^ (N - k) := by
      rw [Nat.div_div_eq_div_mul, ← Nat.pow_succ, show (N - (k + 1)).succ = N - k from by omega]
    have ek2 : nI k + (-1) = nI k - 1 := (Int32.sub_eq_add_neg _ _).symm
    obtain ⟨Z', x3, g1, g2, g3, g4⟩ := m_pl1 (a6 := a6) (a7 := a7) T hx hN k (pv_si Z 50 k (gvF (dgF (n + 1) N x k))) (by omega) (FP_si F (Or.inl rfl)) (fun t t1 t2 => by
      by_cases e : t = k
      · rw [e, si_jj]
      · rw [si_j e]; exact h t (by omega) t2)
    refine ⟨Z', x3, ?_, g2, by rw [g3, si_ne (by decide)], g4⟩
    rw [ek, bX7_planned_16, if_neg (nIn (by omega)), bX7_planned_21, m4, if_neg nz, nImod (by omega) (by omega), ed, if_c (id := inferInstance) (nIz (by omega))]
    by_cases z : dgF (n + 1) N x k = 0
    · have gv : gvF (dgF (n + 1) N x k) = -9 := if_pos z
      rw [if_neg (fun y => y z), bX7_planned_38, bX7_planned_53, if_neg (gx (by omega) (by omega)), nIc (by omega), m4', if_neg nz, nIdiv (by omega) (by omega) (by omega), eq, ek2, ← gv]
      exact g1
    · have gv : nI (dgF (n + 1) N x k) - 1 = gvF (dgF (n + 1) N x k) := by
        unfold gvF
        rw [if_neg z, show (1 : Int32) = nI 1 from rfl, nIsub (by omega) (by omega)]
      rw [if_pos z, bX7_planned_43, m4, if_neg nz, nImod (by omega) (by omega), ed, gv, bX7_planned_53, if_neg (gx (by omega) (by omega)), nIc (by omega), m4', if_neg nz, nIdiv (by omega) (by omega) (by omega), eq, ek2]
      exact g1
theorem m_planned (T : Tw S n c) (hr : r < n) (e : S.1 44 9 = nI r) {x : Nat} (hx : x < 1000) (hN : N ≤ 3) (F : FP S Z) {a3 a4 a5 a6 a7 : Option Value} : ∃ Z', pv_R mX7_planned 0 [some (.ref 37), some (.int (nI x)), some (.int (nI N)), a3, a4, a5, a6, a7] [] (pv_em Z) = some (some (.int (PV (S.1 42 r) (S.1 44 6) (tw_meal (S.1 42 r) (S.1 43 r)) (S.1 44 r) r (dgF (n + 1) N x) N)), pv_em Z') ∧ FP S Z' ∧ Z'.1 51 = Z.1 51 ∧ ∀ t, t < N → Z'.1 50 t = gvF (dgF (n + 1) N x t) := by
  have hn := tw_n T
  obtain ⟨hr', ehr, hhr⟩ := tw_hN T
  obtain ⟨Z', x3, g1, g2, g3, g4⟩ := m_pl1 (r := r) (a6 := a6) (a7 := a7) T hx hN N Z (Nat.le_refl _) F (fun t t1 t2 => absurd t2 (by omega))
  refine ⟨Z', ?_, g2, g3, g4⟩
  rw [Nat.sub_self, Nat.pow_zero, Nat.div_one] at g1
  have z44 : Z'.1 44 = S.1 44 := g2.1 44 (by decide) (by decide)
  have z42 : Z'.1 42 = S.1 42 := g2.1 42 (by decide) (by decide)
  have z43 : Z'.1 43 = S.1 43 := g2.1 43 (by decide) (by decide)
  rw [bX7_planned_0, show (9 : Int32).toNatClampNeg = 9 from by decide, F.1 44 (by decide) (by decide), e, g1, bX7_planned_69, Int32.zero_add, if_neg (gx (by omega) (by omega)), nIc (by omega), z44]
  refine itf_run (R := fun t (q : Int32 × Int32) => pv_R mX7_planned 86 [some (.ref 37), some (.int (nI x)), some (.int (nI N)), some (.int x3), some (.int (nI r)), some (.int q.1), some (.int q.2), some (.int (nI t))] [] (pv_em Z')) (f := pS (S.1 42 r) (S.1 44 6) (tw_meal (S.1 42 r) (S.1 43 r)) r (dgF (n + 1) N x)) (F := fun q => some (some (.int q.2), pv_em Z')) (N := N) (fun t q ht => ?_) (fun q => ?_) N 0 (S.1 44 r, 0) (by omega)
  · obtain ⟨w, s⟩ := q
    have dl : dgF (n + 1) N x t < n + 1 := Nat.mod_lt _ (by omega)
    have h6 : Z'.1 44 (6 : Int32).toNatClampNeg = S.1 44 6 := by rw [z44]; rfl
    have fin : ∀ w1 w0 : Int32, pv_R mX7_planned 132 [some (.ref 37), some (.int (nI x)), some (.int (nI N)), some (.int x3), some (.int (nI r)), some (.int w0), some (.int s), some (.int (nI t))] [.int w1] (pv_em Z') = pv_R mX7_planned 86 [some (.ref 37), some (.int (nI x)), some (.int (nI N)), some (.int x3), some (.int (nI r)), some (.int (tw_held (w1 + tw_adds (S.1 42 r) (S.1 44 6 + nI t)))), some (.int (s + (tw_held (w1 + tw_adds (S.1 42 r) (S.1 44 6 + nI t)) - (if dgF (n + 1) N x t = 0 then 0 else 3)))), some (.int (nI (t + 1)))] [] (pv_em Z') := by
      intro w1 w0
      rw [bX7_planned_132, if_neg (gx (by omega) (by omega)), nIc (by omega), z42, h6, m_changes (by rw [ehr, nIadd, nIt (by omega)]; omega), pv_cc_some, bX7_planned_157, m_bound, pv_cc_some, bX7_planned_161, if_neg (gx (by omega) (by omega)), nIc (by omega), g4 t ht, if_c (id := inferInstance) (congrArg Not (gv_9 (by omega)))]
      by_cases z : dgF (n + 1) N x t = 0
      · rw [if_neg (fun y => y z), bX7_planned_179, bX7_planned_184, nIs, if_pos z]
      · rw [if_pos z, bX7_planned_183, bX7_planned_184, nIs, if_neg z]
    refine Eq.trans bX7_planned_86 ?_
    rw [if_neg (by rw [nIle (by omega) (by omega)]; omega), bX7_planned_92, if_neg (gx (by omega) (by omega)), nIc (by omega), g4 t ht, if_c (id := inferInstance) (congrArg Not (gv_r (by omega) (by omega)))]
    by_cases z : dgF (n + 1) N x t = r + 1
    · rw [if_neg (fun y => y z), bX7_planned_104, if_neg (gx (by omega) (by omega)), if_neg (gx (by omega) (by omega)), nIc (by omega), z42, z43, m_meal, pv_cc_some, bX7_planned_123, m_bound, pv_cc_some, bX7_planned_127, fin]
      unfold pS
      rw [if_pos z]
    · rw [if_pos z, bX7_planned_130, fin]
      unfold pS
      rw [if_neg z]
  · refine Eq.trans bX7_planned_86 ?_
    rw [if_pos (Int32.le_refl _), bX7_planned_194]
end PX
