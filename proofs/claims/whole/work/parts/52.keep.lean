/-! ===== what leaves the invariant as it is ===== -/
section KP
variable {S S' : pv_S}
theorem shelf_congr {cs cp ms mr n most : Nat} (h1 : S'.1 cs = S.1 cs) (h2 : ∀ r, r < n → S'.1 (cp + r) = S.1 (cp + r)) (h3 : S'.1 ms = S.1 ms) (h4 : S'.1 mr = S.1 mr) (I : iv_shelf S cs cp ms mr n most) : iv_shelf S' cs cp ms mr n most := by
  intro r hr
  rw [h1, h2 r hr, h3, h4]
  exact I r hr
theorem town_congr (h : ∀ k, (21 ≤ k ∧ k ≤ 31) ∨ (42 ≤ k ∧ k ≤ 47) → S'.1 k = S.1 k) (h4 : S'.1 37 4 = S.1 37 4) (h5 : S'.1 37 5 = S.1 37 5) (h9 : S'.1 37 9 = S.1 37 9) (I : iv_town S) : iv_town S' := by
  obtain ⟨n, c, g1, g2, g3, g4, g5, g6, g7, g8, g9, g10, g11, g12, g13, g14, g15, g16⟩ := I
  have e := fun k (q : (21 ≤ k ∧ k ≤ 31) ∨ (42 ≤ k ∧ k ≤ 47)) => h k q
  have e21 := e 21 (by omega)
  have e22 := e 22 (by omega)
  have e23 := e 23 (by omega)
  have e24 := e 24 (by omega)
  have e25 := e 25 (by omega)
  have e26 := e 26 (by omega)
  have e27 := e 27 (by omega)
  have e42 := e 42 (by omega)
  have e43 := e 43 (by omega)
  have e44 := e 44 (by omega)
  have e45 := e 45 (by omega)
  have e46 := e 46 (by omega)
  have e47 := e 47 (by omega)
  unfold iv_town
  rw [e21, e22, e23, e24, e25, e26, e27, e42, e43, e44, e45, e46, e47, h4, h5, h9]
  refine ⟨n, c, g1, g2, g3, g4, g5, g6, g7, g8, g9, g10, g11, g12, g13, g14, g15, fun k hk => ?_⟩
  rw [e (29 + k) (by omega)]
  exact g16 k hk
/-- the cells of the shelves and the town -/
theorem Inv_told (hc : ∀ k, k ≠ 35 → k ≠ 36 → k ≠ 37 → k ≠ 48 → S'.1 k = S.1 k) (h4 : S'.1 37 4 = S.1 37 4) (h5 : S'.1 37 5 = S.1 37 5) (h9 : S'.1 37 9 = S.1 37 9) (ht : iv_told S') (I : Inv S) : Inv S' :=
  ⟨shelf_congr (hc 2 (by omega) (by omega) (by omega) (by omega)) (fun r hr => hc _ (by omega) (by omega) (by omega) (by omega)) (hc 38 (by omega) (by omega) (by omega) (by omega)) (hc 39 (by omega) (by omega) (by omega) (by omega)) I.1,
   shelf_congr (hc 11 (by omega) (by omega) (by omega) (by omega)) (fun r hr => hc _ (by omega) (by omega) (by omega) (by omega)) (hc 40 (by omega) (by omega) (by omega) (by omega)) (hc 41 (by omega) (by omega) (by omega) (by omega)) I.2.1,
   ht, town_congr (fun k hk => hc k (by omega) (by omega) (by omega) (by omega)) h4 h5 h9 I.2.2.2⟩
/-- a finding told by both -/
theorem Inv_find {f : Nat} (I : Inv S) (h1 : 1 ≤ f) (h2 : f ≤ 5) : Inv (mf (xf S f) f) := by
  refine Inv_told (fun k k1 k2 k3 k4 => ?_) ?_ ?_ ?_ ?_ I
  · unfold mf xf
    rw [si_ne k4, si_ne k3, si_ne k2, si_ne k1]
  · unfold mf xf
    rw [si_ne (by decide), si_eq, upd_ne (by decide), si_ne (by decide), si_ne (by decide)]
  · unfold mf xf
    rw [si_ne (by decide), si_eq, upd_ne (by decide), si_ne (by decide), si_ne (by decide)]
  · unfold mf xf
    rw [si_ne (by decide), si_eq, upd_ne (by decide), si_ne (by decide), si_ne (by decide)]
  · obtain ⟨t1, t2, t3, t4, t5⟩ := I.2.2.1
    unfold mf xf
    refine ⟨?_, t2, t3, ?_, fun g g1 g2 => ?_⟩
    · rw [si_ne (by decide), si_eq, upd_ne (by decide), si_ne (by decide), si_ne (by decide), si_ne (by decide), si_ne (by decide), si_ne (by decide), si_eq, upd_ne (by decide)]
      exact t1
    · rw [si_ne (by decide), si_eq, upd_eq, si_ne (by decide), si_ne (by decide), si_ne (by decide), si_eq, upd_eq]
    · rw [si_eq, si_ne (k' := 36) (by decide), si_ne (k' := 36) (by decide), si_eq]
      by_cases e : g = f
      · subst e
        rw [upd_eq, upd_eq, si_ne (k' := 48) (by decide), si_ne (k' := 48) (by decide), t5 g g1 g2]
      · rw [upd_ne e, upd_ne e, si_ne (by decide), si_ne (by decide), si_ne (by decide), si_ne (by decide)]
        exact t5 g g1 g2
/-- what was asked, told by both -/
theorem Inv_asked {v : Int32} (I : Inv S) : Inv (pv_si (pv_si S 35 1 v) 37 13 v) := by
  refine Inv_told (fun k k1 k2 k3 k4 => ?_) ?_ ?_ ?_ ?_ I
  · rw [si_ne k3, si_ne k1]
  · rw [si_eq, upd_ne (by decide), si_ne (by decide)]
  · rw [si_eq, upd_ne (by decide), si_ne (by decide)]
  · rw [si_eq, upd_ne (by decide), si_ne (by decide)]
  · obtain ⟨t1, t2, t3, t4, t5⟩ := I.2.2.1
    refine ⟨?_, t2, t3, ?_, fun g g1 g2 => ?_⟩
    · rw [si_eq, upd_eq, si_ne (by decide), si_eq, upd_eq]
    · rw [si_eq, upd_ne (by decide), si_ne (by decide), si_ne (by decide), si_eq, upd_ne (by decide)]
      exact t4
    · rw [si_ne (by decide), si_ne (by decide), si_ne (by decide), si_ne (by decide)]
      exact t5 g g1 g2
end KP
/-! ===== the calls that only tell ===== -/
section T1
variable {S : pv_S}
theorem tq_asked (I : Inv S) : pv_goI Inv S mX6_asked mX7_asked [] := ⟨S.1 35 1, S, S, bX6_asked_0, by rw [← I.2.2.1.1]; exact bX7_asked_0, I⟩
theorem tq_upper (I : Inv S) : pv_goJ Inv S mX6_upper mX7_upper [] := ⟨S.2 35 2, S, S, bX6_upper_0, by rw [← I.2.2.1.2.1]; exact bX7_upper_0, I⟩
theorem tq_lower (I : Inv S) : pv_goJ Inv S mX6_lower mX7_lower [] := ⟨S.2 35 3, S, S, bX6_lower_0, by rw [← I.2.2.1.2.2.1]; exact bX7_lower_0, I⟩
theorem tq_finding (I : Inv S) : pv_goI Inv S mX6_finding mX7_finding [] := ⟨S.1 35 4, S, S, bX6_finding_0, by rw [← I.2.2.1.2.2.2.1]; exact bX7_finding_0, I⟩
theorem tq_pence (I : Inv S) : pv_goI Inv S mX6_pence mX7_pence [] := by
  obtain ⟨n, c, g1, g2, g3, g4, g5, g6, g7, g8, g9, g10, g11, g12, g13⟩ := I.2.2.2
  exact ⟨S.1 21 11, S, S, bX6_pence_0, by rw [g12]; exact bX7_pence_0, I⟩
theorem tq_findings (I : Inv S) (f : Int32) : pv_goI Inv S mX6_findings mX7_findings [.int f] := by
  by_cases h : 1 ≤ f.toInt ∧ f.toInt ≤ 5
  · have hx := ixn (r := f) (n := 6) (by omega) (by omega)
    have ht := tcn (r := f) (by omega)
    refine ⟨S.1 36 f.toNatClampNeg, S, S, ?_, ?_, I⟩
    · show pv_R mX6_findings 0 [some (.ref 0), some (.int f)] [] (pv_em S) = _
      simp only [bX6_findings_0, bX6_findings_6, bX6_findings_9, bX6_findings_11, x_within, pv_cc_some, bI_0, i1, i5, h, hx, and_self, not_true_eq_false, not_false_eq_true, if_true, if_false]
    · show pv_R mX7_findings 0 [some (.ref 37), some (.int f)] [] (pv_em S) = _
      simp only [bX7_findings_0, bX7_findings_9, bX7_findings_12, bX7_findings_21, bX7_findings_22, c_in, pv_cc_some, bI_0, Int32.toInt_toInt64, j1, j5, h, hx, and_self, not_true_eq_false, not_false_eq_true, if_true, if_false]
      rw [I.2.2.1.2.2.2.2 _ (by omega) (by omega)]
  · refine ⟨-1, S, S, ?_, ?_, I⟩
    · show pv_R mX6_findings 0 [some (.ref 0), some (.int f)] [] (pv_em S) = _
      simp only [bX6_findings_0, bX6_findings_6, bX6_findings_9, bX6_findings_11, x_within, pv_cc_some, bI_0, i1, i5, h, not_true_eq_false, not_false_eq_true, if_true, if_false]
    · show pv_R mX7_findings 0 [some (.ref 37), some (.int f)] [] (pv_em S) = _
      simp only [bX7_findings_0, bX7_findings_9, bX7_findings_12, bX7_findings_21, bX7_findings_22, c_in, pv_cc_some, bI_0, Int32.toInt_toInt64, j1, j5, h, not_true_eq_false, not_false_eq_true, if_true, if_false]
end T1
