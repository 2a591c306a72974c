/-! ===== gain, steady ===== -/
section GN
variable {S S' : pv_S} {n c : Nat}
theorem x_poundsThen {N a b : Nat} {x : Int32} {g : Nat → Int32} (hN : N ≤ 60) (ha : a ≤ N) (hb : b ≤ N) (h1 : S.1 32 2 = nI N) (h2 : ∀ j, j ≤ N → S.1 33 j = g j) (h3 : 1 ≤ (g b).toInt) {z : Option Value} : pv_R mX1_poundsThen 0 [some (.ref 32), some (.int x), some (.int (nI a)), some (.int (nI b)), z] [] (pv_em S) = some (some (.int (x * g a / g b)), pv_em S) := by
  rw [bX1_poundsThen_0, x_weightIn hN hb h1, pv_cc_some, bX1_poundsThen_5, h2 b hb, if_neg (by rw [Int32.le_iff_toInt_le, i0]; omega), bX1_poundsThen_12, x_weightIn hN ha h1, pv_cc_some, bX1_poundsThen_18, if_neg (by intro q; rw [q, i0] at h3; omega), bX1_poundsThen_26, h2 a ha]
theorem x_gainI {N a : Nat} {x : Int32} {g : Nat → Int32} (hN : N ≤ 20) (ha : a ≤ N) (h1 : S.1 32 2 = nI N) (h2 : ∀ j, j ≤ N → S.1 33 j = g j) (h3 : ∀ j, 1 ≤ (g j).toInt) {p : Int32 × Int32} {z : Option Value} : ∃ z', pv_R mX6_gain 59 [some (.ref 0), some (.int x), some (.int (nI N)), some (.int p.1), some (.int p.2), some (.int (nI a)), some (.int (nI a)), z] [] (pv_em S) = pv_R mX6_gain 49 [some (.ref 0), some (.int x), some (.int (nI N)), some (.int (gn_o g x N a p).1), some (.int (gn_o g x N a p).2), some (.int (nI (a + 1))), some (.int (nI (N + 1))), z'] [] (pv_em S) := by
  obtain ⟨⟨⟨p1, p2⟩, j⟩, e, hp, _⟩ := lpF (R := fun k (q : (Int32 × Int32) × Option Value) => pv_R mX6_gain 59 [some (.ref 0), some (.int x), some (.int (nI N)), some (.int q.1.1), some (.int q.1.2), some (.int (nI a)), some (.int (nI k)), q.2] [] (pv_em S)) (N := N + 1) (fun q => q.1) (gn_i g x a) (fun _ _ => True) (fun k q hk _ => by
    refine ⟨(gn_i g x a k q.1, some (.int (gn_d g x a k))), ?_, rfl, trivial⟩
    refine Eq.trans bX6_gain_59 ?_
    rw [if_neg (by rw [nIlt (by omega) (by omega)]; omega), bX6_gain_65, x_poundsThen (N := N) (by omega) ha (by omega) h1 h2 (h3 k), pv_cc_some, bX6_gain_79]
    by_cases w : gn_d g x a k ≤ q.1.1
    · rw [show gn_i g x a k q.1 = q.1 from if_pos w]
      refine Eq.trans (if_pos w) ?_
      rw [bX6_gain_103, nIs]; rfl
    · rw [show gn_i g x a k q.1 = (gn_d g x a k, 100 * nI a + nI k) from if_neg w]
      refine Eq.trans (if_neg w) ?_
      rw [bX6_gain_90, bX6_gain_103, nIs]; rfl) (N + 1 - a) a (p, z) (by omega) trivial
  have hp : (p1, p2) = gn_o g x N a p := hp
  refine ⟨j, Eq.trans e ?_⟩
  show pv_R mX6_gain 59 _ _ _ = _
  rw [← hp, bX6_gain_59, if_pos (by rw [nIlt (by omega) (by omega)]; omega), bX6_gain_109, nIs]
theorem x_gainL {N : Nat} {x : Int32} {g : Nat → Int32} (hN : N ≤ 20) (h1 : S.1 32 2 = nI N) (h2 : ∀ j, j ≤ N → S.1 33 j = g j) (h3 : ∀ j, 1 ≤ (g j).toInt) {y z : Option Value} : pv_R mX6_gain 49 [some (.ref 0), some (.int x), some (.int (nI N)), some (.int 0), some (.int (-9)), some (.int 0), y, z] [] (pv_em S) = some (some (.int (itf (gn_o g x N) (N + 1) 0 (0, -9)).1), pv_em (pv_si S 35 1 (itf (gn_o g x N) (N + 1) 0 (0, -9)).2)) := by
  obtain ⟨⟨⟨p1, p2⟩, j1, j2⟩, e, hp, _⟩ := lpF (R := fun k (q : (Int32 × Int32) × Option Value × Option Value) => pv_R mX6_gain 49 [some (.ref 0), some (.int x), some (.int (nI N)), some (.int q.1.1), some (.int q.1.2), some (.int (nI k)), q.2.1, q.2.2] [] (pv_em S)) (N := N + 1) (fun q => q.1) (gn_o g x N) (fun _ _ => True) (fun k q hk _ => by
    obtain ⟨z', e⟩ := x_gainI (a := k) (p := q.1) (z := q.2.2) (x := x) hN (by omega) h1 h2 h3
    refine ⟨(gn_o g x N k q.1, some (.int (nI (N + 1))), z'), ?_, rfl, trivial⟩
    refine Eq.trans bX6_gain_49 ?_
    rw [if_neg (by rw [nIlt (by omega) (by omega)]; omega), bX6_gain_55, e]) (N + 1) 0 ((0, -9), y, z) (by omega) trivial
  refine Eq.trans e ?_
  have hp : (p1, p2) = itf (gn_o g x N) (N + 1) 0 (0, -9) := hp
  rw [← hp]
  show pv_R mX6_gain 49 _ _ _ = _
  rw [bX6_gain_49, if_pos (by rw [nIlt (by omega) (by omega)]; omega), bX6_gain_115]
theorem m_gainI {N a : Nat} {x : Int32} (T : Tw S n c) (h : n ≠ 0) (hN : N ≤ 20) (ha : a ≤ N) {p : Int32 × Int32} {z : Option Value} : ∃ z', pv_R mX7_gain 55 [some (.ref 37), some (.int x), some (.int (nI N)), some (.int p.1), some (.int p.2), some (.int (nI a)), some (.int (nI a)), z] [] (pv_em S) = pv_R mX7_gain 45 [some (.ref 37), some (.int x), some (.int (nI N)), some (.int (gn_o (tw_pa S) x N a p).1), some (.int (gn_o (tw_pa S) x N a p).2), some (.int (nI (a + 1))), some (.int (nI (N + 1))), z'] [] (pv_em S) := by
  obtain ⟨⟨⟨p1, p2⟩, j⟩, e, hp, _⟩ := lpF (R := fun k (q : (Int32 × Int32) × Option Value) => pv_R mX7_gain 55 [some (.ref 37), some (.int x), some (.int (nI N)), some (.int q.1.1), some (.int q.1.2), some (.int (nI a)), some (.int (nI k)), q.2] [] (pv_em S)) (N := N + 1) (fun q => q.1) (gn_i (tw_pa S) x a) (fun _ _ => True) (fun k q hk _ => by
    refine ⟨(gn_i (tw_pa S) x a k q.1, some (.int (gn_d (tw_pa S) x a k))), ?_, rfl, trivial⟩
    refine Eq.trans bX7_gain_55 ?_
    rw [if_neg (by rw [nIlt (by omega) (by omega)]; omega), bX7_gain_61, m_poundIn T h (by omega), pv_cc_some, bX7_gain_70, m_poundIn T h (by omega), pv_cc_some, bX7_gain_77, if_neg (by intro q; have := tw_pa_in T h k; rw [q, i0] at this; omega), ← Int32.mul_sub]
    by_cases w : gn_d (tw_pa S) x a k ≤ q.1.1
    · rw [show gn_i (tw_pa S) x a k q.1 = q.1 from if_pos w]
      refine Eq.trans (if_pos w) ?_
      rw [bX7_gain_103, bX7_gain_105]
      refine Eq.trans (if_pos w) ?_
      rw [bX7_gain_118, bX7_gain_119, nIs]; rfl
    · rw [show gn_i (tw_pa S) x a k q.1 = (gn_d (tw_pa S) x a k, 100 * nI a + nI k) from if_neg w]
      refine Eq.trans (if_neg w) ?_
      rw [bX7_gain_92, bX7_gain_105]
      refine Eq.trans (if_neg w) ?_
      rw [bX7_gain_113, bX7_gain_119, nIs]; rfl) (N + 1 - a) a (p, z) (by omega) trivial
  have hp : (p1, p2) = gn_o (tw_pa S) x N a p := hp
  refine ⟨j, Eq.trans e ?_⟩
  show pv_R mX7_gain 55 _ _ _ = _
  rw [← hp, bX7_gain_55, if_pos (by rw [nIlt (by omega) (by omega)]; omega), bX7_gain_126, nIs]
theorem m_gainL {N : Nat} {x : Int32} (T : Tw S n c) (h : n ≠ 0) (hN : N ≤ 20) {y z : Option Value} : pv_R mX7_gain 45 [some (.ref 37), some (.int x), some (.int (nI N)), some (.int 0), some (.int (-9)), some (.int 0), y, z] [] (pv_em S) = some (some (.int (itf (gn_o (tw_pa S) x N) (N + 1) 0 (0, -9)).1), pv_em (pv_si S 37 13 (itf (gn_o (tw_pa S) x N) (N + 1) 0 (0, -9)).2)) := by
  obtain ⟨⟨⟨p1, p2⟩, j1, j2⟩, e, hp, _⟩ := lpF (R := fun k (q : (Int32 × Int32) × Option Value × Option Value) => pv_R mX7_gain 45 [some (.ref 37), some (.int x), some (.int (nI N)), some (.int q.1.1), some (.int q.1.2), some (.int (nI k)), q.2.1, q.2.2] [] (pv_em S)) (N := N + 1) (fun q => q.1) (gn_o (tw_pa S) x N) (fun _ _ => True) (fun k q hk _ => by
    obtain ⟨z', e⟩ := m_gainI (a := k) (p := q.1) (z := q.2.2) (x := x) T h hN (by omega)
    refine ⟨(gn_o (tw_pa S) x N k q.1, some (.int (nI (N + 1))), z'), ?_, rfl, trivial⟩
    refine Eq.trans bX7_gain_45 ?_
    rw [if_neg (by rw [nIlt (by omega) (by omega)]; omega), bX7_gain_51, e]) (N + 1) 0 ((0, -9), y, z) (by omega) trivial
  refine Eq.trans e ?_
  have hp : (p1, p2) = itf (gn_o (tw_pa S) x N) (N + 1) 0 (0, -9) := hp
  rw [← hp]
  show pv_R mX7_gain 45 _ _ _ = _
  rw [bX7_gain_45, if_pos (by rw [nIlt (by omega) (by omega)]; omega), bX7_gain_132, bX7_answer_0, pv_cc_some, bX7_gain_139]
theorem tq_gain (I : Inv S) (x w : Int32) : pv_goI Inv S mX6_gain mX7_gain [.int x, .int w] := by
  obtain ⟨n, c, T⟩ := tw_of I
  have hn := tw_n T
  by_cases hx : 1 ≤ x.toInt ∧ x.toInt ≤ 9
  · by_cases hw : 0 ≤ w.toInt ∧ w.toInt ≤ 20
    · by_cases h : n = 0
      · subst h
        refine ⟨-4, S, S, ?_, ?_, I⟩
        · show pv_R mX6_gain 0 [some (.ref 0), some (.int x), some (.int w), none, none, none, none, none] [] (pv_em S) = _
          simp only [bX6_gain_0, bX6_gain_7, bX6_gain_10, bX6_gain_17, bX6_gain_20, bX6_gain_22, bX6_gain_32, bX6_gain_35, bX6_gain_40, bX6_gain_55, bX6_gain_65, bX6_gain_79, bX6_gain_90, bX6_gain_103, bX6_gain_109, bX6_gain_115, x_within, pv_cc_some, bI_0, i0, i1, i9, i20, hx, hw, tw_x7 T, show nI 0 = 0 from rfl, and_self, not_true_eq_false, not_false_eq_true, if_true, if_false]
        · show pv_R mX7_gain 0 [some (.ref 37), some (.int x), some (.int w), none, none, none, none, none] [] (pv_em S) = _
          simp only [bX7_gain_0, bX7_gain_9, bX7_gain_12, bX7_gain_21, bX7_gain_24, bX7_gain_26, bX7_gain_33, bX7_gain_36, bX7_gain_51, bX7_gain_61, bX7_gain_70, bX7_gain_77, bX7_gain_92, bX7_gain_103, bX7_gain_105, bX7_gain_113, bX7_gain_118, bX7_gain_119, bX7_gain_126, bX7_gain_132, bX7_gain_139, c_in, pv_cc_some, bI_0, j0, j1, j9, j20, Int32.toInt_toInt64, hx, hw, tw_m4 T, show nI 0 = 0 from rfl, and_self, not_true_eq_false, not_false_eq_true, if_true, if_false]
      · obtain ⟨k, e, hk⟩ := nIex hw.1
        subst e
        obtain ⟨S', e1, O⟩ := x_lookAtPound T h (N := k) (by omega)
        have T' := Ol_Tw O T
        have z := nI0 hn h
        have I' := Ol_Inv O I
        refine ⟨(itf (gn_o (tw_pa S) x k) (k + 1) 0 (0, -9)).1, pv_si S' 35 1 (itf (gn_o (tw_pa S) x k) (k + 1) 0 (0, -9)).2, _, ?_, ?_, Inv_asked (v := (itf (gn_o (tw_pa S) x k) (k + 1) 0 (0, -9)).2) I'⟩
        · show pv_R mX6_gain 0 [some (.ref 0), some (.int x), some (.int (nI k)), none, none, none, none, none] [] (pv_em S) = _
          have e2 := x_gainL (S := S') (N := k) (x := x) (by omega) O.2.2.1 O.2.2.2 (fun j => (tw_pa_in T h j).1) (y := none) (z := none)
          simp only [bX6_gain_0, bX6_gain_7, bX6_gain_10, bX6_gain_17, bX6_gain_20, bX6_gain_22, bX6_gain_32, bX6_gain_35, bX6_gain_40, bX6_gain_55, bX6_gain_65, bX6_gain_79, bX6_gain_90, bX6_gain_103, bX6_gain_109, bX6_gain_115, x_within, pv_cc_some, pv_cc_void, bI_0, i0, i1, i9, i20, hx, hw, tw_x7 T, z, e1, e2, and_self, not_true_eq_false, not_false_eq_true, if_true, if_false]
        · show pv_R mX7_gain 0 [some (.ref 37), some (.int x), some (.int (nI k)), none, none, none, none, none] [] (pv_em _) = _
          have T2 : Tw (pv_si S' 35 1 (itf (gn_o (tw_pa S) x k) (k + 1) 0 (0, -9)).2) n c := Tw_congr (fun k hk => si_ne (by omega)) (by rw [si_ne (by decide)]) (by rw [si_ne (by decide)]) (by rw [si_ne (by decide)]) T'
          have e3 := m_gainL (N := k) (x := x) T2 h (by omega) (y := none) (z := none)
          rw [show tw_pa (pv_si S' 35 1 (itf (gn_o (tw_pa S) x k) (k + 1) 0 (0, -9)).2) = tw_pa S from by rw [← tw_pa_Ol O]; unfold tw_pa; rw [si_ne (k' := 42) (by decide), si_ne (k' := 44) (by decide)]] at e3
          simp only [bX7_gain_0, bX7_gain_9, bX7_gain_12, bX7_gain_21, bX7_gain_24, bX7_gain_26, bX7_gain_33, bX7_gain_36, bX7_gain_51, bX7_gain_61, bX7_gain_70, bX7_gain_77, bX7_gain_92, bX7_gain_103, bX7_gain_105, bX7_gain_113, bX7_gain_118, bX7_gain_119, bX7_gain_126, bX7_gain_132, bX7_gain_139, c_in, pv_cc_some, bI_0, j0, j1, j9, j20, Int32.toInt_toInt64, hx, hw, tw_m4 T2, z, e3, and_self, not_true_eq_false, not_false_eq_true, if_true, if_false]
    · refine ⟨-1, S, S, ?_, ?_, I⟩
      · show pv_R mX6_gain 0 [some (.ref 0), some (.int x), some (.int w), none, none, none, none, none] [] (pv_em S) = _
        simp only [bX6_gain_0, bX6_gain_7, bX6_gain_10, bX6_gain_17, bX6_gain_20, bX6_gain_22, bX6_gain_32, bX6_gain_35, bX6_gain_40, bX6_gain_55, bX6_gain_65, bX6_gain_79, bX6_gain_90, bX6_gain_103, bX6_gain_109, bX6_gain_115, x_within, pv_cc_some, bI_0, i0, i1, i9, i20, hx, hw, and_self, not_true_eq_false, not_false_eq_true, if_true, if_false]
      · show pv_R mX7_gain 0 [some (.ref 37), some (.int x), some (.int w), none, none, none, none, none] [] (pv_em S) = _
        simp only [bX7_gain_0, bX7_gain_9, bX7_gain_12, bX7_gain_21, bX7_gain_24, bX7_gain_26, bX7_gain_33, bX7_gain_36, bX7_gain_51, bX7_gain_61, bX7_gain_70, bX7_gain_77, bX7_gain_92, bX7_gain_103, bX7_gain_105, bX7_gain_113, bX7_gain_118, bX7_gain_119, bX7_gain_126, bX7_gain_132, bX7_gain_139, c_in, pv_cc_some, bI_0, j0, j1, j9, j20, Int32.toInt_toInt64, hx, hw, and_self, not_true_eq_false, not_false_eq_true, if_true, if_false]
  · refine ⟨-1, S, S, ?_, ?_, I⟩
    · show pv_R mX6_gain 0 [some (.ref 0), some (.int x), some (.int w), none, none, none, none, none] [] (pv_em S) = _
      simp only [bX6_gain_0, bX6_gain_7, bX6_gain_10, bX6_gain_17, bX6_gain_20, bX6_gain_22, bX6_gain_32, bX6_gain_35, bX6_gain_40, bX6_gain_55, bX6_gain_65, bX6_gain_79, bX6_gain_90, bX6_gain_103, bX6_gain_109, bX6_gain_115, x_within, pv_cc_some, bI_0, i1, i9, hx, not_false_eq_true, if_true]
    · show pv_R mX7_gain 0 [some (.ref 37), some (.int x), some (.int w), none, none, none, none, none] [] (pv_em S) = _
      simp only [bX7_gain_0, bX7_gain_9, bX7_gain_12, bX7_gain_21, bX7_gain_24, bX7_gain_26, bX7_gain_33, bX7_gain_36, bX7_gain_51, bX7_gain_61, bX7_gain_70, bX7_gain_77, bX7_gain_92, bX7_gain_103, bX7_gain_105, bX7_gain_113, bX7_gain_118, bX7_gain_119, bX7_gain_126, bX7_gain_132, bX7_gain_139, c_in, pv_cc_some, bI_0, j1, j9, Int32.toInt_toInt64, hx, not_false_eq_true, if_true]
/-! steady -/
theorem x_spread {N : Nat} {g : Nat → Int32} (hN : N ≤ 60) (h1 : S.1 32 2 = nI N) (h2 : ∀ j, j ≤ N → S.1 33 j = g j) {a b d : Option Value} : pv_R mX1_spread 0 [some (.ref 32), a, b, d] [] (pv_em S) = some (some (.int (sp_v g N)), pv_em S) := by
  rw [bX1_spread_0, show (0 : Int32).toNatClampNeg = 0 from by decide, h2 0 (by omega)]
  obtain ⟨⟨p1, p2⟩, e, hp, _⟩ := lpF (R := fun k (q : Int32 × Int32) => pv_R mX1_spread 16 [some (.ref 32), some (.int q.1), some (.int q.2), some (.int (nI k))] [] (pv_em S)) (N := N + 1) (fun q => q) (sp_f g) (fun k _ => 1 ≤ k) (fun k q hk hk1 => by
    refine ⟨sp_f g k q, ?_, rfl, by omega⟩
    refine Eq.trans bX1_spread_16 ?_
    rw [h1, if_neg (by rw [nIlt (by omega) (by omega)]; omega), bX1_spread_24, if_neg (gx (by omega) (by omega)), if_neg (gx (by omega) (by omega)), nIc (by omega), h2 k (by omega), nIs]
    rfl) N 1 (g 0, g 0) (by omega) (by omega)
  refine Eq.trans e ?_
  have hp : (p1, p2) = itf (sp_f g) N 1 (g 0, g 0) := hp
  unfold sp_v
  rw [← hp]
  show pv_R mX1_spread 16 _ _ _ = _
  rw [bX1_spread_16, h1, if_pos (by rw [nIlt (by omega) (by omega)]; omega), bX1_spread_52]
theorem sp_in {g : Nat → Int32} (hg : ∀ k, 1 ≤ (g k).toInt ∧ (g k).toInt ≤ 200) : ∀ m k p, (1 ≤ p.1.toInt ∧ p.1.toInt ≤ 200) ∧ (1 ≤ p.2.toInt ∧ p.2.toInt ≤ 200) → (1 ≤ (itf (sp_f g) m k p).1.toInt ∧ (itf (sp_f g) m k p).1.toInt ≤ 200) ∧ (1 ≤ (itf (sp_f g) m k p).2.toInt ∧ (itf (sp_f g) m k p).2.toInt ≤ 200)
  | 0, _, _, h => h
  | m + 1, k, p, h => by
    refine sp_in hg m (k + 1) (sp_f g k p) ⟨?_, ?_⟩
    · show 1 ≤ (if g k < p.1 then g k else p.1 : Int32).toInt ∧ (if g k < p.1 then g k else p.1 : Int32).toInt ≤ 200
      by_cases q : g k < p.1
      · rw [if_pos q]; exact hg k
      · rw [if_neg q]; exact h.1
    · show 1 ≤ (if p.2 < g k then g k else p.2 : Int32).toInt ∧ (if p.2 < g k then g k else p.2 : Int32).toInt ≤ 200
      by_cases q : p.2 < g k
      · rw [if_pos q]; exact hg k
      · rw [if_neg q]; exact h.2
theorem sp_lt {g : Nat → Int32} (hg : ∀ k, 1 ≤ (g k).toInt ∧ (g k).toInt ≤ 200) (N : Nat) : (sp_v g N).toInt < 200 := by
  have := sp_in hg N 1 (g 0, g 0) ⟨hg 0, hg 0⟩
  unfold sp_v
  rw [sb_i (by omega) (by omega)]
  omega
/-- a cat's weights ahead -/
def tw_ca (S : pv_S) (i : Nat) : Nat → Int32 := tw_aft (S.1 42 i) (S.1 44 6) (S.1 44 i)
theorem x_steadyL {N : Nat} (T : Tw S n c) (hN : N ≤ 60) {z : Option Value} : ∃ S', pv_R mX6_steady 34 [some (.ref 0), some (.int (nI N)), some (.int 0), some (.int 200), some (.int 0), z] [] (pv_em S) = some (some (.int (itf (st_s fun i => sp_v (tw_ca S i) N) n 0 (0, 200)).1), pv_em (pv_si S' 35 1 (itf (st_s fun i => sp_v (tw_ca S i) N) n 0 (0, 200)).2)) ∧ (∀ k, k ≠ 32 → k ≠ 33 → S'.1 k = S.1 k) ∧ S'.2 = S.2 := by
  have hn := tw_n T
  obtain ⟨⟨⟨p1, p2⟩, j, S'⟩, e, hp, h1, h2⟩ := lpF (R := fun k (q : (Int32 × Int32) × Option Value × pv_S) => pv_R mX6_steady 34 [some (.ref 0), some (.int (nI N)), some (.int q.1.1), some (.int q.1.2), some (.int (nI k)), q.2.1] [] (pv_em q.2.2)) (N := n) (fun q => q.1) (st_s fun i => sp_v (tw_ca S i) N) (fun _ q => (∀ k, k ≠ 32 → k ≠ 33 → q.2.2.1 k = S.1 k) ∧ q.2.2.2 = S.2) (fun k q hk hP => by
    obtain ⟨⟨p1, p2⟩, j, Z⟩ := q
    obtain ⟨g1, g2⟩ := hP
    have g1 : ∀ k, k ≠ 32 → k ≠ 33 → Z.1 k = S.1 k := g1
    have TZ : Tw Z n c := Tw_congr (fun k hk => g1 k (by omega) (by omega)) (by rw [g1 37 (by decide) (by decide)]) (by rw [g1 37 (by decide) (by decide)]) (by rw [g1 37 (by decide) (by decide)]) T
    obtain ⟨Z', e, O⟩ := x_lookAhead TZ hk hN
    refine ⟨(st_s (fun i => sp_v (tw_ca S i) N) k (p1, p2), some (.int (sp_v (tw_ca S k) N)), Z'), ?_, rfl, fun k z1 z2 => (O.1 k z1 z2).trans (g1 k z1 z2), O.2.1.trans g2⟩
    refine Eq.trans bX6_steady_34 ?_
    have eg : tw_aft (Z.1 42 k) (Z.1 44 6) (Z.1 44 k) = tw_ca S k := by
      unfold tw_ca
      rw [g1 42 (by decide) (by decide), g1 44 (by decide) (by decide)]
    rw [eg] at O
    rw [tw_x7 TZ, if_neg (by rw [nIle (by omega) (by omega)]; omega), bX6_steady_46, e, pv_cc_void, bX6_steady_53, x_spread hN O.2.2.1 O.2.2.2, pv_cc_some, bX6_steady_60]
    by_cases w : p2 ≤ sp_v (tw_ca S k) N
    · rw [show st_s (fun i => sp_v (tw_ca S i) N) k (p1, p2) = (p1, p2) from if_pos w, if_pos w, bX6_steady_74, nIs]
    · rw [show st_s (fun i => sp_v (tw_ca S i) N) k (p1, p2) = (nI k, sp_v (tw_ca S k) N) from if_neg w, if_neg w, bX6_steady_68, bX6_steady_74, nIs]) n 0 ((0, 200), z, S) (by omega) ⟨fun _ _ _ => rfl, rfl⟩
  have hp : (p1, p2) = itf (st_s fun i => sp_v (tw_ca S i) N) n 0 (0, 200) := hp
  have h1 : ∀ k, k ≠ 32 → k ≠ 33 → S'.1 k = S.1 k := h1
  refine ⟨S', Eq.trans e ?_, h1, h2⟩
  rw [← hp]
  show pv_R mX6_steady 34 _ _ _ = _
  rw [bX6_steady_34, h1 21 (by decide) (by decide), tw_x7 T, if_pos (Int32.le_refl _), bX6_steady_80]
theorem m_steadyI {N i : Nat} {x2 x3 : Int32} (T : Tw S n c) (hi : i < n) (hN : N ≤ 60) {a b d z : Option Value} : ∃ a' b' d' z', pv_R mX7_steady 42 [some (.ref 37), some (.int (nI N)), some (.int x2), some (.int x3), some (.int (nI i)), a, b, d, z] [] (pv_em S) = pv_R mX7_steady 33 [some (.ref 37), some (.int (nI N)), some (.int (st_s (fun i => sp_v (tw_ca S i) N) i (x2, x3)).1), some (.int (st_s (fun i => sp_v (tw_ca S i) N) i (x2, x3)).2), some (.int (nI (i + 1))), a', b', d', z'] [] (pv_em S) := by
  rw [bX7_steady_42]
  obtain ⟨⟨⟨p1, p2⟩, j⟩, e, hp, _⟩ := lpF (R := fun k (q : (Int32 × Int32) × Option Value) => pv_R mX7_steady 52 [some (.ref 37), some (.int (nI N)), some (.int x2), some (.int x3), some (.int (nI i)), some (.int q.1.1), some (.int q.1.2), some (.int (nI k)), q.2] [] (pv_em S)) (N := N + 1) (fun q => q.1) (sp_f (tw_ca S i)) (fun _ _ => True) (fun k q hk _ => by
    refine ⟨(sp_f (tw_ca S i) k q.1, some (.int (tw_ca S i k))), ?_, rfl, trivial⟩
    refine Eq.trans bX7_steady_52 ?_
    rw [if_neg (by rw [nIlt (by omega) (by omega)]; omega), bX7_steady_58, m_afterI T hi (by omega), pv_cc_some, bX7_steady_66]
    obtain ⟨⟨p1, p2⟩, j⟩ := q
    show (if p1 ≤ tw_ca S i k then _ else _) = pv_R mX7_steady 52 [some (.ref 37), some (.int (nI N)), some (.int x2), some (.int x3), some (.int (nI i)), some (.int (if tw_ca S i k < p1 then tw_ca S i k else p1)), some (.int (if p2 < tw_ca S i k then tw_ca S i k else p2)), some (.int (nI (k + 1))), some (.int (tw_ca S i k))] [] (pv_em S)
    by_cases w1 : p1 ≤ tw_ca S i k
    · rw [if_pos w1, if_neg (c := tw_ca S i k < p1) (Int32.not_lt.mpr w1), bX7_steady_80, bX7_steady_82]
      show (if tw_ca S i k ≤ p2 then _ else _) = _
      by_cases w2 : tw_ca S i k ≤ p2
      · rw [if_pos w2, if_neg (Int32.not_lt.mpr w2), bX7_steady_96, bX7_steady_98, nIs]; rfl
      · rw [if_neg w2, if_pos (Int32.not_le.mp w2), bX7_steady_91, bX7_steady_98, nIs]; rfl
    · rw [if_neg w1, if_pos (c := tw_ca S i k < p1) (Int32.not_le.mp w1), bX7_steady_75, bX7_steady_82]
      show (if tw_ca S i k ≤ p2 then _ else _) = _
      by_cases w2 : tw_ca S i k ≤ p2
      · rw [if_pos w2, if_neg (Int32.not_lt.mpr w2), bX7_steady_96, bX7_steady_98, nIs]; rfl
      · rw [if_neg w2, if_pos (Int32.not_le.mp w2), bX7_steady_91, bX7_steady_98, nIs]; rfl) (N + 1) 0 ((1000000, 0), z) (by omega) trivial
  have hw := tw_wb T hi
  have hp : (p1, p2) = itf (sp_f (tw_ca S i)) N 1 (tw_ca S i 0, tw_ca S i 0) := by
    have : (p1, p2) = itf (sp_f (tw_ca S i)) N 1 (sp_f (tw_ca S i) 0 (1000000, 0)) := hp
    rw [this]
    have e0 : sp_f (tw_ca S i) 0 (1000000, 0) = (tw_ca S i 0, tw_ca S i 0) := by
      show (if S.1 44 i < 1000000 then S.1 44 i else 1000000, if 0 < S.1 44 i then S.1 44 i else 0) = (S.1 44 i, S.1 44 i)
      rw [if_pos (by rw [Int32.lt_iff_toInt_lt, show (1000000 : Int32).toInt = 1000000 from by decide]; omega), if_pos (by rw [Int32.lt_iff_toInt_lt, i0]; omega)]
    rw [e0]
  have hv : p2 - p1 = sp_v (tw_ca S i) N := by
    unfold sp_v
    rw [← hp]
  refine ⟨some (.int p1), some (.int p2), some (.int (nI (N + 1))), j, Eq.trans e ?_⟩
  show pv_R mX7_steady 52 _ _ _ = _
  rw [bX7_steady_52, if_pos (by rw [nIlt (by omega) (by omega)]; omega), bX7_steady_106, hv]
  by_cases w : x3 ≤ sp_v (tw_ca S i) N
  · rw [show st_s (fun i => sp_v (tw_ca S i) N) i (x2, x3) = (x2, x3) from if_pos w, if_pos w, bX7_steady_120, bX7_steady_121, hv, if_pos w, bX7_steady_139, bX7_steady_140, nIs]
  · rw [show st_s (fun i => sp_v (tw_ca S i) N) i (x2, x3) = (nI i, sp_v (tw_ca S i) N) from if_neg w, if_neg w, bX7_steady_115, bX7_steady_121, hv, if_neg w, bX7_steady_131, bX7_steady_140, nIs, hv]
theorem m_steadyL {N : Nat} (T : Tw S n c) (hN : N ≤ 60) {a b d z : Option Value} : pv_R mX7_steady 33 [some (.ref 37), some (.int (nI N)), some (.int (-9)), some (.int 1000000), some (.int 0), a, b, d, z] [] (pv_em S) = some (some (.int (itf (st_s fun i => sp_v (tw_ca S i) N) n 0 (-9, 1000000)).1), pv_em (pv_si S 37 13 (itf (st_s fun i => sp_v (tw_ca S i) N) n 0 (-9, 1000000)).2)) := by
  have hn := tw_n T
  obtain ⟨⟨⟨p1, p2⟩, a', b', d', z'⟩, e, hp, _⟩ := lpF (R := fun k (q : (Int32 × Int32) × Option Value × Option Value × Option Value × Option Value) => pv_R mX7_steady 33 [some (.ref 37), some (.int (nI N)), some (.int q.1.1), some (.int q.1.2), some (.int (nI k)), q.2.1, q.2.2.1, q.2.2.2.1, q.2.2.2.2] [] (pv_em S)) (N := n) (fun q => q.1) (st_s fun i => sp_v (tw_ca S i) N) (fun _ _ => True) (fun k q hk _ => by
    obtain ⟨⟨p1, p2⟩, a, b, d, z⟩ := q
    obtain ⟨a', b', d', z', e⟩ := m_steadyI (x2 := p1) (x3 := p2) T hk hN (a := a) (b := b) (d := d) (z := z)
    refine ⟨(st_s (fun i => sp_v (tw_ca S i) N) k (p1, p2), a', b', d', z'), ?_, rfl, trivial⟩
    refine Eq.trans bX7_steady_33 ?_
    rw [tw_m4 T, if_neg (by rw [nIle (by omega) (by omega)]; omega), e]) n 0 ((-9, 1000000), a, b, d, z) (by omega) trivial
  have hp : (p1, p2) = itf (st_s fun i => sp_v (tw_ca S i) N) n 0 (-9, 1000000) := hp
  refine Eq.trans e ?_
  rw [← hp]
  show pv_R mX7_steady 33 _ _ _ = _
  rw [bX7_steady_33, tw_m4 T, if_pos (Int32.le_refl _), bX7_steady_147, bX7_answer_0, pv_cc_some, bX7_steady_153]
theorem tq_steady (I : Inv S) (w : Int32) : pv_goI Inv S mX6_steady mX7_steady [.int w] := by
  obtain ⟨n, c, T⟩ := tw_of I
  have hn := tw_n T
  by_cases hw : 0 ≤ w.toInt ∧ w.toInt ≤ 60
  · by_cases h : n = 0
    · subst h
      refine ⟨-4, S, S, ?_, ?_, I⟩
      · show pv_R mX6_steady 0 [some (.ref 0), some (.int w), none, none, none, none] [] (pv_em S) = _
        simp only [bX6_steady_0, bX6_steady_7, bX6_steady_10, bX6_steady_12, bX6_steady_22, bX6_steady_25, bX6_steady_46, bX6_steady_53, bX6_steady_60, bX6_steady_68, bX6_steady_74, bX6_steady_80, x_within, pv_cc_some, bI_0, i0, i60, hw, tw_x7 T, show nI 0 = 0 from rfl, and_self, not_true_eq_false, not_false_eq_true, if_true, if_false]
      · show pv_R mX7_steady 0 [some (.ref 37), some (.int w), none, none, none, none, none, none, none] [] (pv_em S) = _
        simp only [bX7_steady_0, bX7_steady_9, bX7_steady_12, bX7_steady_14, bX7_steady_21, bX7_steady_24, bX7_steady_42, bX7_steady_58, bX7_steady_66, bX7_steady_75, bX7_steady_80, bX7_steady_82, bX7_steady_91, bX7_steady_96, bX7_steady_98, bX7_steady_106, bX7_steady_115, bX7_steady_120, bX7_steady_121, bX7_steady_131, bX7_steady_139, bX7_steady_140, bX7_steady_147, bX7_steady_153, c_in, pv_cc_some, bI_0, j0, j60, Int32.toInt_toInt64, hw, tw_m4 T, show nI 0 = 0 from rfl, and_self, not_true_eq_false, not_false_eq_true, if_true, if_false]
    · obtain ⟨k, e, hk⟩ := nIex hw.1
      subst e
      have z := nI0 hn h
      obtain ⟨S', e1, g1, g2⟩ := x_steadyL T (N := k) (by omega) (z := none)
      have T' : Tw S' n c := Tw_congr (fun k hk => g1 k (by omega) (by omega)) (by rw [g1 37 (by decide) (by decide)]) (by rw [g1 37 (by decide) (by decide)]) (by rw [g1 37 (by decide) (by decide)]) T
      have I' : Inv S' := Inv_scr (fun k _ h1 h2 _ _ _ => g1 k h1 h2) (fun j _ => by rw [g1 37 (by decide) (by decide)]) g2 I
      have ee : itf (st_s fun i => sp_v (tw_ca S i) k) n 0 (-9, 1000000) = itf (st_s fun i => sp_v (tw_ca S i) k) n 0 (0, 200) := by
        obtain ⟨m, rfl⟩ : ∃ m, n = m + 1 := ⟨n - 1, by omega⟩
        have hl := sp_lt (g := tw_ca S 0) (fun j => aft_in (tw_wb T (by omega)) j) k
        have u1 : st_s (fun i => sp_v (tw_ca S i) k) 0 (-9, 1000000) = (nI 0, sp_v (tw_ca S 0) k) := if_neg (by
          show ¬ (1000000 : Int32) ≤ sp_v (tw_ca S 0) k
          rw [Int32.le_iff_toInt_le, show (1000000 : Int32).toInt = 1000000 from by decide]; omega)
        have u2 : st_s (fun i => sp_v (tw_ca S i) k) 0 (0, 200) = (nI 0, sp_v (tw_ca S 0) k) := if_neg (by
          show ¬ (200 : Int32) ≤ sp_v (tw_ca S 0) k
          rw [Int32.le_iff_toInt_le, i200]; omega)
        show itf (st_s fun i => sp_v (tw_ca S i) k) m 1 (st_s (fun i => sp_v (tw_ca S i) k) 0 (-9, 1000000)) = itf (st_s fun i => sp_v (tw_ca S i) k) m 1 (st_s (fun i => sp_v (tw_ca S i) k) 0 (0, 200))
        rw [u1, u2]
      refine ⟨(itf (st_s fun i => sp_v (tw_ca S i) k) n 0 (0, 200)).1, pv_si S' 35 1 (itf (st_s fun i => sp_v (tw_ca S i) k) n 0 (0, 200)).2, _, ?_, ?_, Inv_asked (v := (itf (st_s fun i => sp_v (tw_ca S i) k) n 0 (0, 200)).2) I'⟩
      · show pv_R mX6_steady 0 [some (.ref 0), some (.int (nI k)), none, none, none, none] [] (pv_em S) = _
        simp only [bX6_steady_0, bX6_steady_7, bX6_steady_10, bX6_steady_12, bX6_steady_22, bX6_steady_25, bX6_steady_46, bX6_steady_53, bX6_steady_60, bX6_steady_68, bX6_steady_74, bX6_steady_80, x_within, pv_cc_some, pv_cc_void, bI_0, i0, i60, hw, tw_x7 T, z, e1, and_self, not_true_eq_false, not_false_eq_true, if_true, if_false]
      · show pv_R mX7_steady 0 [some (.ref 37), some (.int (nI k)), none, none, none, none, none, none, none] [] (pv_em _) = _
        have T2 : Tw (pv_si S' 35 1 (itf (st_s fun i => sp_v (tw_ca S i) k) n 0 (0, 200)).2) n c := Tw_congr (fun k hk => si_ne (by omega)) (by rw [si_ne (by decide)]) (by rw [si_ne (by decide)]) (by rw [si_ne (by decide)]) T'
        have e3 := m_steadyL (N := k) T2 (by omega) (a := none) (b := none) (d := none) (z := none)
        rw [show tw_ca (pv_si S' 35 1 (itf (st_s fun i => sp_v (tw_ca S i) k) n 0 (0, 200)).2) = tw_ca S from by unfold tw_ca; rw [si_ne (k' := 42) (by decide), si_ne (k' := 44) (by decide), g1 42 (by decide) (by decide), g1 44 (by decide) (by decide)], ee] at e3
        simp only [bX7_steady_0, bX7_steady_9, bX7_steady_12, bX7_steady_14, bX7_steady_21, bX7_steady_24, bX7_steady_42, bX7_steady_58, bX7_steady_66, bX7_steady_75, bX7_steady_80, bX7_steady_82, bX7_steady_91, bX7_steady_96, bX7_steady_98, bX7_steady_106, bX7_steady_115, bX7_steady_120, bX7_steady_121, bX7_steady_131, bX7_steady_139, bX7_steady_140, bX7_steady_147, bX7_steady_153, c_in, pv_cc_some, bI_0, j0, j60, Int32.toInt_toInt64, hw, tw_m4 T2, z, e3, and_self, not_true_eq_false, not_false_eq_true, if_true, if_false]
  · refine ⟨-1, S, S, ?_, ?_, I⟩
    · show pv_R mX6_steady 0 [some (.ref 0), some (.int w), none, none, none, none] [] (pv_em S) = _
      simp only [bX6_steady_0, bX6_steady_7, bX6_steady_10, bX6_steady_12, bX6_steady_22, bX6_steady_25, bX6_steady_46, bX6_steady_53, bX6_steady_60, bX6_steady_68, bX6_steady_74, bX6_steady_80, x_within, pv_cc_some, bI_0, i0, i60, hw, not_true_eq_false, not_false_eq_true, if_true, if_false]
    · show pv_R mX7_steady 0 [some (.ref 37), some (.int w), none, none, none, none, none, none, none] [] (pv_em S) = _
      simp only [bX7_steady_0, bX7_steady_9, bX7_steady_12, bX7_steady_14, bX7_steady_21, bX7_steady_24, bX7_steady_42, bX7_steady_58, bX7_steady_66, bX7_steady_75, bX7_steady_80, bX7_steady_82, bX7_steady_91, bX7_steady_96, bX7_steady_98, bX7_steady_106, bX7_steady_115, bX7_steady_120, bX7_steady_121, bX7_steady_131, bX7_steady_139, bX7_steady_140, bX7_steady_147, bX7_steady_153, c_in, pv_cc_some, bI_0, j0, j60, Int32.toInt_toInt64, hw, not_true_eq_false, not_false_eq_true, if_true, if_false]
end GN
