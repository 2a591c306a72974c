/-! ===== copy ===== -/
theorem sa_ne {S : pv_S} {k : Nat} {f : Nat → Int32} {k' : Nat} (h : k' ≠ k) : (pv_sa S k f).1 k' = S.1 k' := va_up_ne _ _ h
theorem sa_eq {S : pv_S} {k : Nat} {f : Nat → Int32} : (pv_sa S k f).1 k = f := by simp [pv_sa, va_up]
theorem mfX3_22 : pv_mf 3 22 = none := by rfl
section CY
variable {S : pv_S} {q p i j N : Nat}
theorem x_move (hq : q < 6) (hp : p < 6) (hi : i + N ≤ 40) (hj : j + N ≤ 40) : pv_R mX3_move 0 [some (.ref 1), some (.int (nI q)), some (.int (nI i)), some (.int (nI p)), some (.int (nI j)), some (.int (nI N))] [] (pv_em S) = some (none, pv_em (pv_sa S (4 + p) (va_cpy (S.1 (4 + q)) (S.1 (4 + p)) i j N))) := by
  refine Eq.trans (pv_Rstp dX3_move_0 rfl rfl rfl) ?_
  refine Eq.trans (pv_Rget dX3_move_1 ffX3_19 (by decide) (pv_ce_1 _ _) rfl) ?_
  refine Eq.trans (pv_Rstp dX3_move_4 rfl rfl rfl) ?_
  refine Eq.trans (pv_Raald dX3_move_5 (by decide) (pv_ce_3 _ _)) ?_
  rw [if_neg (gx (by omega) (by omega)), nIc (by omega)]
  refine Eq.trans (pv_Rstp dX3_move_6 rfl rfl rfl) ?_
  refine Eq.trans (pv_Rstp dX3_move_7 rfl rfl rfl) ?_
  refine Eq.trans (pv_Rget dX3_move_8 ffX3_19 (by decide) (pv_ce_1 _ _) rfl) ?_
  refine Eq.trans (pv_Rstp dX3_move_11 rfl rfl rfl) ?_
  refine Eq.trans (pv_Raald dX3_move_12 (by decide) (pv_ce_3 _ _)) ?_
  rw [if_neg (gx (by omega) (by omega)), nIc (by omega)]
  refine Eq.trans (pv_Rstp dX3_move_13 rfl rfl rfl) ?_
  refine Eq.trans (pv_Rstp dX3_move_15 rfl rfl rfl) ?_
  have hA : (pv_em S).2 (4 + q) = .inl (0, 40, .inl (S.1 (4 + q))) := pv_fam_4 hq _ _
  have hB : (pv_em S).2 (4 + p) = .inl (0, 40, .inl (S.1 (4 + p))) := pv_fam_4 hp _ _
  have e5 : pv_h2 mX3_move (.invokestatic 22) 3 [.int (nI N), .int (nI j), .ref (4 + p), .int (nI i), .ref (4 + q)] (pv_em S) 0 0 = some ([], pv_em (pv_sa S (4 + p) (va_cpy (S.1 (4 + q)) (S.1 (4 + p)) i j N)), 0, 0) := by
    refine Eq.trans (if_pos ⟨rfl, rfl, pv_fal_4 hp, pv_fal_4 hq, by decide, by decide⟩) ?_
    rw [hA, hB]
    have z : ∀ {k : Nat}, k < 100000 → ¬ nI k < 0 := fun hk w => by rw [Int32.lt_iff_toInt_lt, nIt hk, i0] at w; omega
    refine Eq.trans (if_neg (c := nI i < 0 ∨ nI j < 0 ∨ nI N < 0 ∨ ¬ (nI i).toNatClampNeg + (nI N).toNatClampNeg ≤ 40 ∨ ¬ (nI j).toNatClampNeg + (nI N).toNatClampNeg ≤ 40) ?_) ?_
    · rw [nIc (by omega), nIc (by omega), nIc (by omega)]
      rintro (w | w | w | w | w)
      · exact z (by omega) w
      · exact z (by omega) w
      · exact z (by omega) w
      · exact w hi
      · exact w hj
    · rw [nIc (by omega), nIc (by omega), nIc (by omega), pv_em_sa (pv_fam_4 hp _ _)]
  refine Eq.trans (pv_Rstp (pc' := 20) (loc' := [some (.ref 1), some (.int (nI q)), some (.int (nI i)), some (.int (nI p)), some (.int (nI j)), some (.int (nI N))]) (st' := []) (A' := pv_em (pv_sa S (4 + p) (va_cpy (S.1 (4 + q)) (S.1 (4 + p)) i j N))) dX3_move_17 rfl ?_ ?_) ?_
  · rfl
  · unfold pv_stp
    have e1 : pv_s (.invokestatic 22) 3 [.int (nI N), .int (nI j), .ref (4 + p), .int (nI i), .ref (4 + q)] = none := rfl
    have e2 : ∀ loc : pv_L, pv_l (.invokestatic 22) 3 loc [.int (nI N), .int (nI j), .ref (4 + p), .int (nI i), .ref (4 + q)] = none := fun _ => rfl
    have e3 : pv_b (.invokestatic 22) 3 [.int (nI N), .int (nI j), .ref (4 + p), .int (nI i), .ref (4 + q)] = none := rfl
    have e4 : pv_h1 mX3_move (.invokestatic 22) 3 [.int (nI N), .int (nI j), .ref (4 + p), .int (nI i), .ref (4 + q)] (pv_em S) = none := rfl
    rw [e1, e2, e3, e4, e5]
  · exact pv_Rret dX3_move_20 rfl
/-- the reference's rows behind k steps of a copy -/
theorem m_copyL (hq : q < 6) (hp : p < 6) (hi : i + N ≤ 40) (hj : j + N ≤ 40) {a : Option Value} : ∃ S', pv_R mX7_copy 104 [some (.ref 37), some (.int (nI q)), some (.int (nI i)), some (.int (nI p)), some (.int (nI j)), some (.int (nI N)), some (.int 0), a] [] (pv_em S) = some (some (.int 1), pv_em S') ∧ (∀ k, k ≠ 39 → S'.1 k = S.1 k) ∧ S'.2 = S.2 ∧ ∀ t, S'.1 39 t = if 40 * p + j ≤ t ∧ t < 40 * p + j + N then S.1 39 (40 * q + i + (t - (40 * p + j))) else S.1 39 t := by
  by_cases hd : j ≤ i
  · obtain ⟨⟨b, S'⟩, e, h1, h2, h3⟩ := lpE (R := fun k (z : Option Value × pv_S) => pv_R mX7_copy 104 [some (.ref 37), some (.int (nI q)), some (.int (nI i)), some (.int (nI p)), some (.int (nI j)), some (.int (nI N)), some (.int (nI k)), z.1] [] (pv_em z.2)) (N := N) (fun k z => (∀ x, x ≠ 39 → z.2.1 x = S.1 x) ∧ z.2.2 = S.2 ∧ ∀ t, z.2.1 39 t = if 40 * p + j ≤ t ∧ t < 40 * p + j + k then S.1 39 (40 * q + i + (t - (40 * p + j))) else S.1 39 t) (fun k z hk hP => by
      obtain ⟨b, Z⟩ := z
      obtain ⟨h1, h2, h3⟩ := hP
      have h1 : ∀ x, x ≠ 39 → Z.1 x = S.1 x := h1
      have h3 : ∀ t, Z.1 39 t = if 40 * p + j ≤ t ∧ t < 40 * p + j + k then S.1 39 (40 * q + i + (t - (40 * p + j))) else S.1 39 t := h3
      have h4 : Z.1 39 (40 * q + i + k) = S.1 39 (40 * q + i + k) := by rw [h3, if_neg (by omega)]
      refine ⟨(some (.int (nI k)), pv_si Z 39 (40 * p + j + k) (S.1 39 (40 * q + i + k))), ?_, fun x hx => by show (pv_si Z 39 _ _).1 x = _; rw [si_ne hx]; exact h1 x hx, h2, fun t => ?_⟩
      · refine Eq.trans bX7_copy_104 ?_
        rw [if_neg (by rw [nIle (by omega) (by omega)]; omega), bX7_copy_111, if_pos (by rw [nIle (by omega) (by omega)]; omega), bX7_copy_127, bX7_copy_129, e40m (by omega), e40m (by omega), nIadd, nIadd, nIadd, nIadd, if_neg (gx (by omega) (by omega)), if_neg (gx (by omega) (by omega)), nIc (by omega), nIc (by omega), nIs, h4]
      · show (pv_si Z 39 _ _).1 39 t = _
        rw [si_eq]
        by_cases e : t = 40 * p + j + k
        · rw [e, upd_eq, if_pos (by omega), show 40 * p + j + k - (40 * p + j) = k from by omega]
        · rw [upd_ne e, h3]
          by_cases z : 40 * p + j ≤ t ∧ t < 40 * p + j + k
          · rw [if_pos z, if_pos (by omega)]
          · rw [if_neg z, if_neg (by omega)]) N 0 (a, S) (by omega) ⟨fun _ _ => rfl, rfl, fun t => by rw [if_neg (by omega)]⟩
    refine ⟨S', Eq.trans e ?_, h1, h2, h3⟩
    show pv_R mX7_copy 104 _ _ _ = _
    rw [bX7_copy_104, if_pos (Int32.le_refl _), bX7_copy_166]
  · obtain ⟨⟨b, S'⟩, e, h1, h2, h3⟩ := lpE (R := fun k (z : Option Value × pv_S) => pv_R mX7_copy 104 [some (.ref 37), some (.int (nI q)), some (.int (nI i)), some (.int (nI p)), some (.int (nI j)), some (.int (nI N)), some (.int (nI k)), z.1] [] (pv_em z.2)) (N := N) (fun k z => (∀ x, x ≠ 39 → z.2.1 x = S.1 x) ∧ z.2.2 = S.2 ∧ ∀ t, z.2.1 39 t = if 40 * p + j + (N - k) ≤ t ∧ t < 40 * p + j + N then S.1 39 (40 * q + i + (t - (40 * p + j))) else S.1 39 t) (fun k z hk hP => by
      obtain ⟨b, Z⟩ := z
      obtain ⟨h1, h2, h3⟩ := hP
      have h1 : ∀ x, x ≠ 39 → Z.1 x = S.1 x := h1
      have h3 : ∀ t, Z.1 39 t = if 40 * p + j + (N - k) ≤ t ∧ t < 40 * p + j + N then S.1 39 (40 * q + i + (t - (40 * p + j))) else S.1 39 t := h3
      have h4 : Z.1 39 (40 * q + i + (N - 1 - k)) = S.1 39 (40 * q + i + (N - 1 - k)) := by rw [h3, if_neg (by omega)]
      have e1 : nI N - 1 - nI k = nI (N - 1 - k) := by rw [show (1 : Int32) = nI 1 from rfl, nIsub (by omega) (by omega), nIsub (by omega) (by omega)]
      refine ⟨(some (.int (nI (N - 1 - k))), pv_si Z 39 (40 * p + j + (N - 1 - k)) (S.1 39 (40 * q + i + (N - 1 - k)))), ?_, fun x hx => by show (pv_si Z 39 _ _).1 x = _; rw [si_ne hx]; exact h1 x hx, h2, fun t => ?_⟩
      · refine Eq.trans bX7_copy_104 ?_
        rw [if_neg (by rw [nIle (by omega) (by omega)]; omega), bX7_copy_111, if_neg (by rw [nIle (by omega) (by omega)]; omega), bX7_copy_117, e1, bX7_copy_129, e40m (by omega), e40m (by omega), nIadd, nIadd, nIadd, nIadd, if_neg (gx (by omega) (by omega)), if_neg (gx (by omega) (by omega)), nIc (by omega), nIc (by omega), nIs, h4]
      · show (pv_si Z 39 _ _).1 39 t = _
        rw [si_eq]
        by_cases e : t = 40 * p + j + (N - 1 - k)
        · rw [e, upd_eq, if_pos (by omega), show 40 * p + j + (N - 1 - k) - (40 * p + j) = N - 1 - k from by omega]
        · rw [upd_ne e, h3]
          by_cases z : 40 * p + j + (N - k) ≤ t ∧ t < 40 * p + j + N
          · rw [if_pos z, if_pos (by omega)]
          · rw [if_neg z, if_neg (by omega)]) N 0 (a, S) (by omega) ⟨fun _ _ => rfl, rfl, fun t => by rw [if_neg (by omega)]⟩
    refine ⟨S', Eq.trans e ?_, h1, h2, fun t => ?_⟩
    · show pv_R mX7_copy 104 _ _ _ = _
      rw [bX7_copy_104, if_pos (Int32.le_refl _), bX7_copy_166]
    · have := h3 t
      rw [show N - N = 0 from by omega, Nat.add_zero] at this
      exact this
theorem m_beyond {x2 x4 x5 : Int32} (hq : q < 6) (hp : p < 6) (hw : 0 ≤ x5.toInt) {s1 s2 : Int32} (e1 : S.1 38 q = s1) (e2 : S.1 38 p = s2) (h : ¬ ((0 ≤ x2.toInt ∧ x2.toInt + x5.toInt ≤ s1.toInt) ∧ (0 ≤ x4.toInt ∧ x4.toInt + x5.toInt ≤ s2.toInt))) {a b : Option Value} : pv_R mX7_copy 51 [some (.ref 37), some (.int (nI q)), some (.int x2), some (.int (nI p)), some (.int x4), some (.int x5), a, b] [] (pv_em S) = some (some (.int (-3)), pv_em (mf S 2)) := by
  have f : pv_R mX7_copy 95 [some (.ref 37), some (.int (nI q)), some (.int x2), some (.int (nI p)), some (.int x4), some (.int x5), a, b] [] (pv_em S) = some (some (.int (-3)), pv_em (mf S 2)) := by rw [bX7_copy_95, m_find_2, pv_cc_some, bX7_copy_100]
  have b2 := x2.toInt_lt
  have b4 := x4.toInt_lt
  have b5 := x5.toInt_lt
  have c2 := x2.le_toInt
  have c4 := x4.le_toInt
  have u1 : (Int32.toInt64 x2 + Int32.toInt64 x5).toInt = x2.toInt + x5.toInt := by rw [ad_l (by rw [Int32.toInt_toInt64, Int32.toInt_toInt64]; omega) (by rw [Int32.toInt_toInt64, Int32.toInt_toInt64]; omega), Int32.toInt_toInt64, Int32.toInt_toInt64]
  have u2 : (Int32.toInt64 x4 + Int32.toInt64 x5).toInt = x4.toInt + x5.toInt := by rw [ad_l (by rw [Int32.toInt_toInt64, Int32.toInt_toInt64]; omega) (by rw [Int32.toInt_toInt64, Int32.toInt_toInt64]; omega), Int32.toInt_toInt64, Int32.toInt_toInt64]
  rw [bX7_copy_51, if_c (id := inferInstance) ltI, i0]
  by_cases g1 : x2.toInt < 0
  · rw [if_pos g1, f]
  rw [if_neg g1, bX7_copy_55, if_c (id := inferInstance) ltI, i0]
  by_cases g2 : x4.toInt < 0
  · rw [if_pos g2, f]
  rw [if_neg g2, bX7_copy_60, if_neg (gx (by omega) (by omega)), nIc (by omega), if_c (id := inferInstance) (lg_gt0 _ _), u1, e1, Int32.toInt_toInt64]
  by_cases g3 : s1.toInt < x2.toInt + x5.toInt
  · rw [if_pos g3, f]
  rw [if_neg g3, bX7_copy_77, if_neg (gx (by omega) (by omega)), nIc (by omega), if_c (id := inferInstance) (lg_le0 _ _), u2, e2, Int32.toInt_toInt64, if_neg (by omega), f]
theorem m_within {x2 x4 x5 : Int32} (hq : q < 6) (hp : p < 6) (hw : 0 ≤ x5.toInt) {s1 s2 : Int32} (e1 : S.1 38 q = s1) (e2 : S.1 38 p = s2) (h : (0 ≤ x2.toInt ∧ x2.toInt + x5.toInt ≤ s1.toInt) ∧ (0 ≤ x4.toInt ∧ x4.toInt + x5.toInt ≤ s2.toInt)) {a b : Option Value} : pv_R mX7_copy 51 [some (.ref 37), some (.int (nI q)), some (.int x2), some (.int (nI p)), some (.int x4), some (.int x5), a, b] [] (pv_em S) = pv_R mX7_copy 104 [some (.ref 37), some (.int (nI q)), some (.int x2), some (.int (nI p)), some (.int x4), some (.int x5), some (.int 0), b] [] (pv_em S) := by
  have b2 := x2.toInt_lt
  have b4 := x4.toInt_lt
  have b5 := x5.toInt_lt
  have u1 : (Int32.toInt64 x2 + Int32.toInt64 x5).toInt = x2.toInt + x5.toInt := by rw [ad_l (by rw [Int32.toInt_toInt64, Int32.toInt_toInt64]; omega) (by rw [Int32.toInt_toInt64, Int32.toInt_toInt64]; omega), Int32.toInt_toInt64, Int32.toInt_toInt64]
  have u2 : (Int32.toInt64 x4 + Int32.toInt64 x5).toInt = x4.toInt + x5.toInt := by rw [ad_l (by rw [Int32.toInt_toInt64, Int32.toInt_toInt64]; omega) (by rw [Int32.toInt_toInt64, Int32.toInt_toInt64]; omega), Int32.toInt_toInt64, Int32.toInt_toInt64]
  rw [bX7_copy_51, if_c (id := inferInstance) ltI, i0, if_neg (by omega), bX7_copy_55, if_c (id := inferInstance) ltI, i0, if_neg (by omega), bX7_copy_60, if_neg (gx (by omega) (by omega)), nIc (by omega), if_c (id := inferInstance) (lg_gt0 _ _), u1, e1, Int32.toInt_toInt64, if_neg (by omega), bX7_copy_77, if_neg (gx (by omega) (by omega)), nIc (by omega), if_c (id := inferInstance) (lg_le0 _ _), u2, e2, Int32.toInt_toInt64, if_pos (by omega), bX7_copy_101]
/-- up to the places: the reference -/
theorem m_copy51 {x2 x4 x5 : Int32} (hq : q < 6) (hp : p < 6) (hw : 0 ≤ x5.toInt) (h1 : 0 ≤ (S.1 38 q).toInt) (h2 : 0 ≤ (S.1 38 p).toInt) {a b : Option Value} : pv_R mX7_copy 0 [some (.ref 37), some (.int (nI q)), some (.int x2), some (.int (nI p)), some (.int x4), some (.int x5), a, b] [] (pv_em S) = pv_R mX7_copy 51 [some (.ref 37), some (.int (nI q)), some (.int x2), some (.int (nI p)), some (.int x4), some (.int x5), a, b] [] (pv_em S) := by
  rw [bX7_copy_0, c_isRow, pv_cc_some, bX7_copy_4, bI_t (row_in hq), if_neg (by decide), bX7_copy_7, c_isRow, pv_cc_some, bX7_copy_11, bI_t (row_in hp), if_pos (by decide), bX7_copy_16, if_pos (by rw [Int32.le_iff_toInt_le, i0]; exact hw), bX7_copy_27, if_neg (gx (by omega) (by omega)), nIc (by omega), if_neg (by rw [Int32.lt_iff_toInt_lt, i0]; omega), bX7_copy_36, if_neg (gx (by omega) (by omega)), nIc (by omega), if_pos (by rw [Int32.le_iff_toInt_le, i0]; exact h2)]
theorem x_copy69 {x2 x4 x5 : Int32} (hq : q < 6) (hp : p < 6) (hw : 0 ≤ x5.toInt) (h1 : 0 ≤ (S.1 2 q).toInt) (h2 : 0 ≤ (S.1 2 p).toInt) : pv_R mX6_copy 0 [some (.ref 0), some (.int (nI q)), some (.int x2), some (.int (nI p)), some (.int x4), some (.int x5)] [] (pv_em S) = pv_R mX6_copy 69 [some (.ref 0), some (.int (nI q)), some (.int x2), some (.int (nI p)), some (.int x4), some (.int x5)] [] (pv_em S) := by
  have kq := row_in hq
  have kp := row_in hp
  have cq := nIc (i := q) (by omega)
  have cp := nIc (i := p) (by omega)
  rw [bX6_copy_0, x_hasNumber_r, pv_cc_some, bX6_copy_8, bI_t kq, if_neg (by decide), bX6_copy_11, x_hasNumber_r, pv_cc_some, bX6_copy_19, bI_t kp, if_pos (by decide), bX6_copy_24, if_pos (by rw [Int32.le_iff_toInt_le, i0]; exact hw), bX6_copy_38, x_isThere_r kq.1 kq.2, pv_cc_some, bX6_copy_46, cq, bI_t h1, if_neg (by decide), bX6_copy_49, x_isThere_r kp.1 kp.2, pv_cc_some, bX6_copy_57, cp, bI_t h2, if_pos (by decide)]
theorem tq_copy (I : Inv S) (r x t y w : Int32) : pv_goI Inv S mX6_copy mX7_copy [.int r, .int x, .int t, .int y, .int w] := by
  by_cases hrt : (0 ≤ r.toInt ∧ r.toInt ≤ 5) ∧ (0 ≤ t.toInt ∧ t.toInt ≤ 5)
  · obtain ⟨hr, ht⟩ := hrt
    obtain ⟨q, rfl, hq'⟩ := nIex hr.1
    obtain ⟨p, rfl, hp'⟩ := nIex ht.1
    have hq : q < 6 := by omega
    have hp : p < 6 := by omega
    have cq := nIc (i := q) (by omega)
    have cp := nIc (i := p) (by omega)
    obtain ⟨g1, g2, g3, g4⟩ := I.1 q hq
    obtain ⟨k1, k2, k3, k4⟩ := I.1 p hp
    by_cases hw : 0 ≤ w.toInt
    · by_cases hs : 0 ≤ (S.1 2 q).toInt ∧ 0 ≤ (S.1 2 p).toInt
      · obtain ⟨hs1, hs2⟩ := hs
        have r1 := x_run_r (S := S) (r := nI q) (i := x) (n := w) hr.1 hr.2 (by rw [cq]; exact hs1) (by rw [cq]; exact g3) hw
        have r2 := x_run_r (S := S) (r := nI p) (i := y) (n := w) ht.1 ht.2 (by rw [cp]; exact hs2) (by rw [cp]; exact k3) hw
        rw [cq] at r1
        rw [cp] at r2
        by_cases hrun : (0 ≤ x.toInt ∧ x.toInt + w.toInt ≤ (S.1 2 q).toInt) ∧ (0 ≤ y.toInt ∧ y.toInt + w.toInt ≤ (S.1 2 p).toInt)
        · obtain ⟨i, rfl, hi'⟩ := nIex hrun.1.1
          obtain ⟨j, rfl, hj'⟩ := nIex hrun.2.1
          obtain ⟨N, rfl, hN'⟩ := nIex hw
          have hi : i + N ≤ 40 := by omega
          have hj : j + N ≤ 40 := by omega
          obtain ⟨S2, e, h1, h2, h3⟩ := m_copyL (S := pv_sa S (4 + p) (va_cpy (S.1 (4 + q)) (S.1 (4 + p)) i j N)) (a := none) hq hp hi hj
          have s38 : (pv_sa S (4 + p) (va_cpy (S.1 (4 + q)) (S.1 (4 + p)) i j N)).1 38 = S.1 38 := sa_ne (by omega)
          have s39 : (pv_sa S (4 + p) (va_cpy (S.1 (4 + q)) (S.1 (4 + p)) i j N)).1 39 = S.1 39 := sa_ne (by omega)
          rw [s39] at h3
          refine ⟨1, pv_sa S (4 + p) (va_cpy (S.1 (4 + q)) (S.1 (4 + p)) i j N), S2, ?_, ?_, ?_⟩
          · show pv_R mX6_copy 0 [some (.ref 0), some (.int (nI q)), some (.int (nI i)), some (.int (nI p)), some (.int (nI j)), some (.int (nI N))] [] (pv_em S) = _
            rw [x_copy69 hq hp hw hs1 hs2, bX6_copy_69, r1, pv_cc_some, bX6_copy_80, bI_t hrun.1, if_neg (by decide), bX6_copy_83, r2, pv_cc_some, bX6_copy_95, bI_t hrun.2, if_pos (by decide), bX6_copy_107, x_move hq hp hi hj, pv_cc_void, bX6_copy_121]
          · show pv_R mX7_copy 0 [some (.ref 37), some (.int (nI q)), some (.int (nI i)), some (.int (nI p)), some (.int (nI j)), some (.int (nI N)), none, none] [] (pv_em _) = _
            rw [m_copy51 hq hp hw (by rw [s38, g1]; exact hs1) (by rw [s38, k1]; exact hs2), m_within hq hp hw (by rw [s38, g1]) (by rw [s38, k1]) hrun, e]
          · refine Inv_rows I (fun q' hq'' => ?_) (fun k b1 b2 b3 b4 => ?_) (by rw [h2]; rfl)
            · obtain ⟨l1, l2, l3, l4⟩ := I.1 q' hq''
              rw [h1 38 (by decide), s38, h1 2 (by decide), sa_ne (show 2 ≠ 4 + p by omega)]
              refine ⟨l1, l2, l3, fun u hu => ?_⟩
              rw [h3, h1 (4 + q') (by omega)]
              by_cases eq : q' = p
              · subst eq
                rw [sa_eq]
                unfold va_cpy
                by_cases z : j ≤ u ∧ u < j + N
                · rw [if_pos z, if_pos (by omega), show 40 * q + i + (40 * q' + u - (40 * q' + j)) = 40 * q + (i + (u - j)) from by omega]
                  exact g4 _ (by omega)
                · rw [if_neg z, if_neg (by omega)]
                  exact l4 u hu
              · rw [sa_ne (by omega), if_neg (by omega)]
                exact l4 u hu
            · rw [h1 k b3, sa_ne (by omega)]
        · refine ⟨-3, xf S 2, _, ?_, ?_, Inv_find (f := 2) I (by omega) (by omega)⟩
          · show pv_R mX6_copy 0 [some (.ref 0), some (.int (nI q)), some (.int x), some (.int (nI p)), some (.int y), some (.int w)] [] (pv_em S) = _
            rw [x_copy69 hq hp hw hs1 hs2, bX6_copy_69, r1, pv_cc_some, bX6_copy_80]
            by_cases u : 0 ≤ x.toInt ∧ x.toInt + w.toInt ≤ (S.1 2 q).toInt
            · rw [bI_t u, if_neg (by decide), bX6_copy_83, r2, pv_cc_some, bX6_copy_95, bI_f (fun z => hrun ⟨u, z⟩), if_neg (fun z => z rfl), bX6_copy_98, x_find_2, pv_cc_some, bX6_copy_106]
            · rw [bI_f u, if_pos rfl, bX6_copy_98, x_find_2, pv_cc_some, bX6_copy_106]
          · show pv_R mX7_copy 0 [some (.ref 37), some (.int (nI q)), some (.int x), some (.int (nI p)), some (.int y), some (.int w), none, none] [] (pv_em _) = _
            have x38 : (xf S 2).1 38 = S.1 38 := xf_ne (by decide) (by decide)
            rw [m_copy51 hq hp hw (by rw [x38, g1]; exact hs1) (by rw [x38, k1]; exact hs2), m_beyond hq hp hw (by rw [x38, g1]) (by rw [x38, k1]) hrun]
      · refine ⟨-3, xf S 1, _, ?_, ?_, Inv_find (f := 1) I (by omega) (by omega)⟩
        · show pv_R mX6_copy 0 [some (.ref 0), some (.int (nI q)), some (.int x), some (.int (nI p)), some (.int y), some (.int w)] [] (pv_em S) = _
          rw [bX6_copy_0, x_hasNumber_r, pv_cc_some, bX6_copy_8, bI_t hr, if_neg (by decide), bX6_copy_11, x_hasNumber_r, pv_cc_some, bX6_copy_19, bI_t ht, if_pos (by decide), bX6_copy_24, if_pos (by rw [Int32.le_iff_toInt_le, i0]; exact hw), bX6_copy_38, x_isThere_r hr.1 hr.2, pv_cc_some, bX6_copy_46, cq]
          by_cases u : 0 ≤ (S.1 2 q).toInt
          · rw [bI_t u, if_neg (by decide), bX6_copy_49, x_isThere_r ht.1 ht.2, pv_cc_some, bX6_copy_57, cp, bI_f (fun z => hs ⟨u, z⟩), if_neg (fun z => z rfl), bX6_copy_60, x_find_1, pv_cc_some, bX6_copy_68]
          · rw [bI_f u, if_pos rfl, bX6_copy_60, x_find_1, pv_cc_some, bX6_copy_68]
        · show pv_R mX7_copy 0 [some (.ref 37), some (.int (nI q)), some (.int x), some (.int (nI p)), some (.int y), some (.int w), none, none] [] (pv_em _) = _
          have x38 : (xf S 1).1 38 = S.1 38 := xf_ne (by decide) (by decide)
          rw [bX7_copy_0, c_isRow, pv_cc_some, bX7_copy_4, bI_t hr, if_neg (by decide), bX7_copy_7, c_isRow, pv_cc_some, bX7_copy_11, bI_t ht, if_pos (by decide), bX7_copy_16, if_pos (by rw [Int32.le_iff_toInt_le, i0]; exact hw), bX7_copy_27, if_neg (gx (by omega) (by omega)), cq, x38, g1, if_c (id := inferInstance) ltI, i0]
          by_cases u : (S.1 2 q).toInt < 0
          · rw [if_pos u, bX7_copy_45, m_find_1, pv_cc_some, bX7_copy_50]
          · rw [if_neg u, bX7_copy_36, if_neg (gx (by omega) (by omega)), cp, x38, k1, if_c (id := inferInstance) leI, i0, if_neg (by omega), bX7_copy_45, m_find_1, pv_cc_some, bX7_copy_50]
    · refine ⟨-3, xf S 5, _, ?_, ?_, Inv_find (f := 5) I (by omega) (by omega)⟩
      · show pv_R mX6_copy 0 [some (.ref 0), some (.int (nI q)), some (.int x), some (.int (nI p)), some (.int y), some (.int w)] [] (pv_em S) = _
        rw [bX6_copy_0, x_hasNumber_r, pv_cc_some, bX6_copy_8, bI_t hr, if_neg (by decide), bX6_copy_11, x_hasNumber_r, pv_cc_some, bX6_copy_19, bI_t ht, if_pos (by decide), bX6_copy_24, if_neg (by rw [Int32.le_iff_toInt_le, i0]; exact hw), bX6_copy_29, x_find_5, pv_cc_some, bX6_copy_37]
      · show pv_R mX7_copy 0 [some (.ref 37), some (.int (nI q)), some (.int x), some (.int (nI p)), some (.int y), some (.int w), none, none] [] (pv_em _) = _
        rw [bX7_copy_0, c_isRow, pv_cc_some, bX7_copy_4, bI_t hr, if_neg (by decide), bX7_copy_7, c_isRow, pv_cc_some, bX7_copy_11, bI_t ht, if_pos (by decide), bX7_copy_16, if_neg (by rw [Int32.le_iff_toInt_le, i0]; exact hw), bX7_copy_21, m_find_5, pv_cc_some, bX7_copy_26]
  · refine ⟨-1, S, S, ?_, ?_, I⟩
    · show pv_R mX6_copy 0 [some (.ref 0), some (.int r), some (.int x), some (.int t), some (.int y), some (.int w)] [] (pv_em S) = _
      rw [bX6_copy_0, x_hasNumber_r, pv_cc_some, bX6_copy_8]
      by_cases u : 0 ≤ r.toInt ∧ r.toInt ≤ 5
      · rw [bI_t u, if_neg (by decide), bX6_copy_11, x_hasNumber_r, pv_cc_some, bX6_copy_19, bI_f (fun z => hrt ⟨u, z⟩), if_neg (fun z => z rfl), bX6_copy_22]
      · rw [bI_f u, if_pos rfl, bX6_copy_22]
    · show pv_R mX7_copy 0 [some (.ref 37), some (.int r), some (.int x), some (.int t), some (.int y), some (.int w), none, none] [] (pv_em _) = _
      rw [bX7_copy_0, c_isRow, pv_cc_some, bX7_copy_4]
      by_cases u : 0 ≤ r.toInt ∧ r.toInt ≤ 5
      · rw [bI_t u, if_neg (by decide), bX7_copy_7, c_isRow, pv_cc_some, bX7_copy_11, bI_f (fun z => hrt ⟨u, z⟩), if_neg (fun z => z rfl), bX7_copy_14]
      · rw [bI_f u, if_pos rfl, bX7_copy_14]
end CY
