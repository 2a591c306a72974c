/-! ===== ask, mean ===== -/
section AK
variable {S : pv_S} {n c : Nat}
/-- the greater part -/
def akg (S : pv_S) (n : Nat) (v : Int32) (i : Nat) : Nat := if skW S n v i < skA S n v - skW S n v i then skA S n v - skW S n v i else skW S n v i
def aks (S : pv_S) (n : Nat) (v : Int32) (i : Nat) (p : Int32 × Int32) : Int32 × Int32 := if p.2 ≤ nI (akg S n v i) then p else (nI i, nI (akg S n v i))
theorem akg_le {v : Int32} {i : Nat} : akg S n v i ≤ skA S n v := by
  have := skW_le (S := S) (n := n) (v := v) (i := i)
  unfold akg
  by_cases q : skW S n v i < skA S n v - skW S n v i
  · rw [if_pos q]; omega
  · rw [if_neg q]; omega
theorem x_askL (T : Tw S n c) {v : Int32} {y z : Option Value} : pv_R mX6_ask 55 [some (.ref 0), some (.int v), some (.int (nI (skA S n v))), some (.int 0), some (.int (nI (skA S n v + 1))), some (.int 0), y, z] [] (pv_em S) = some (some (.int (itf (aks S n v) n 0 (0, nI (skA S n v + 1))).1), pv_em (pv_si S 35 1 (itf (aks S n v) n 0 (0, nI (skA S n v + 1))).2)) := by
  have hn := tw_n T
  have hA := skA_le (S := S) (v := v) hn
  obtain ⟨⟨⟨p1, p2⟩, j1, j2⟩, e, hp, _⟩ := lpF (R := fun k (q : (Int32 × Int32) × Option Value × Option Value) => pv_R mX6_ask 55 [some (.ref 0), some (.int v), some (.int (nI (skA S n v))), some (.int q.1.1), some (.int q.1.2), some (.int (nI k)), q.2.1, q.2.2] [] (pv_em S)) (N := n) (fun q => q.1) (aks S n v) (fun _ _ => True) (fun k q hk _ => by
    obtain ⟨⟨a, b⟩, j1, j2⟩ := q
    have hW := skW_le (S := S) (n := n) (v := v) (i := k)
    have eg : (if nI (skW S n v k) < nI (skA S n v) - nI (skW S n v k) then nI (skA S n v) - nI (skW S n v k) else nI (skW S n v k)) = nI (akg S n v k) := by
      unfold akg
      rw [nIsub hW (by omega)]
      by_cases q : skW S n v k < skA S n v - skW S n v k
      · rw [if_pos q, if_pos (by rw [nIlt (by omega) (by omega)]; exact q)]
      · rw [if_neg q, if_neg (by rw [nIlt (by omega) (by omega)]; exact q)]
    refine ⟨(aks S n v k (a, b), some (.int (nI (skW S n v k))), some (.int (nI (akg S n v k)))), ?_, rfl, trivial⟩
    refine Eq.trans bX6_ask_55 ?_
    rw [tw_x7 T, if_neg (by rw [nIle (by omega) (by omega)]; omega), bX6_ask_67, x_setsWithN T (by omega), pv_cc_some, bX6_ask_74, eg]
    by_cases w : b ≤ nI (akg S n v k)
    · rw [show aks S n v k (a, b) = (a, b) from if_pos w, if_pos w, bX6_ask_101, nIs]
    · rw [show aks S n v k (a, b) = (nI k, nI (akg S n v k)) from if_neg w, if_neg w, bX6_ask_94, bX6_ask_101, nIs]) n 0 ((0, nI (skA S n v + 1)), y, z) (by omega) trivial
  refine Eq.trans e ?_
  have hp : (p1, p2) = itf (aks S n v) n 0 (0, nI (skA S n v + 1)) := hp
  rw [← hp]
  show pv_R mX6_ask 55 _ _ _ = _
  rw [bX6_ask_55, tw_x7 T, if_pos (Int32.le_refl _), bX6_ask_107]
theorem m_askI (T : Tw S n c) {v x2 x3 x4 : Int32} {i : Nat} (hi : i < n) {a b d z : Option Value} : ∃ z', pv_R mX7_ask 31 [some (.ref 37), some (.int v), some (.int x2), some (.int x3), some (.int x4), some (.int (nI i)), a, b, d, z] [] (pv_em S) = pv_R mX7_ask 116 [some (.ref 37), some (.int v), some (.int x2), some (.int x3), some (.int x4), some (.int (nI i)), some (.int (nI (skW S n v i))), some (.int (nI (skA S n v - skW S n v i))), some (.int (nI (2 ^ n))), z'] [] (pv_em S) := by
  have hn := tw_n T
  have hpw := pw_le hn
  rw [bX7_ask_31]
  obtain ⟨⟨⟨p1, p2⟩, j⟩, e, hp, _⟩ := lpF (R := fun k (q : (Int32 × Int32) × Option Value) => pv_R mX7_ask 40 [some (.ref 37), some (.int v), some (.int x2), some (.int x3), some (.int x4), some (.int (nI i)), some (.int q.1.1), some (.int q.1.2), some (.int (nI k)), q.2] [] (pv_em S)) (N := 2 ^ n) (fun q => q.1) (fun s (q : Int32 × Int32) => (if skp S n v s ∧ s.testBit i = true then q.1 + 1 else q.1, if skp S n v s ∧ ¬ s.testBit i = true then q.2 + 1 else q.2)) (fun _ _ => True) (fun k q hk _ => by
    obtain ⟨⟨a, b⟩, j⟩ := q
    refine ⟨((if skp S n v k ∧ k.testBit i = true then a + 1 else a, if skp S n v k ∧ ¬ k.testBit i = true then b + 1 else b), some (.int (bI (skp S n v k)))), ?_, rfl, trivial⟩
    refine Eq.trans bX7_ask_40 ?_
    rw [tw_m4 T, pw6 n hn, if_neg (by rw [nIle (by omega) (by omega)]; omega), bX7_ask_51, m_isSack T (by omega), pv_cc_some, bX7_ask_58]
    dsimp only
    by_cases q1 : skp S n v k
    · rw [bI_t q1, if_neg (by decide), bX7_ask_67, m_has (by omega) (by omega), pv_cc_some, bX7_ask_74]
      by_cases q2 : k.testBit i = true
      · rw [bI_t q2, if_neg (by decide), bX7_ask_77, bX7_ask_82, if_neg (by decide), bX7_ask_92, m_has (by omega) (by omega), pv_cc_some, bX7_ask_99, bI_t q2, if_pos (by decide), bX7_ask_106, bX7_ask_107, nIs, if_pos ⟨q1, q2⟩, if_neg (fun w => w.2 q2), Int32.add_zero]
      · rw [bI_f q2, if_pos rfl, bX7_ask_81, bX7_ask_82, if_neg (by decide), bX7_ask_92, m_has (by omega) (by omega), pv_cc_some, bX7_ask_99, bI_f q2, if_neg (fun w => w rfl), bX7_ask_102, bX7_ask_107, nIs, if_neg (fun w => q2 w.2), if_pos ⟨q1, q2⟩, Int32.add_zero]
    · rw [bI_f q1, if_pos rfl, bX7_ask_81, bX7_ask_82, if_pos rfl, bX7_ask_106, bX7_ask_107, nIs, if_neg (fun w => q1 w.1), if_neg (fun w => q1 w.1), Int32.add_zero, Int32.add_zero]) (2 ^ n) 0 ((0, 0), z) (by omega) trivial
  refine ⟨j, Eq.trans e ?_⟩
  have hp : (p1, p2) = (nI (skW S n v i), nI (skA S n v - skW S n v i)) := by
    refine hp.trans ((itf_pair (f := fun s (a : Int32) => if skp S n v s ∧ s.testBit i = true then a + 1 else a) (g := fun s (a : Int32) => if skp S n v s ∧ ¬ s.testBit i = true then a + 1 else a) (2 ^ n) 0 (0, 0)).trans ?_)
    have e1 := cn_N (p := fun s => skp S n v s ∧ s.testBit i = true) (2 ^ n) 0 0
    have e2 := cn_N (p := fun s => skp S n v s ∧ ¬ s.testBit i = true) (2 ^ n) 0 0
    have e3 := cN_split (p := skp S n v) (q := fun s => s.testBit i = true) (2 ^ n) 0
    have e4 : cN (fun s => skp S n v s ∧ s.testBit i = true) (2 ^ n) 0 = skW S n v i := cN_congr (fun k => And.comm) (2 ^ n) 0
    have e5 : cN (fun s => skp S n v s ∧ ¬ s.testBit i = true) (2 ^ n) 0 = skA S n v - skW S n v i := by
      unfold skA
      rw [← e3, ← e4]; omega
    rw [Nat.zero_add, e4] at e1
    rw [Nat.zero_add, e5] at e2
    exact Prod.ext e1 e2
  rw [show p1 = _ from congrArg Prod.fst hp, show p2 = _ from congrArg Prod.snd hp]
  show pv_R mX7_ask 40 _ _ _ = _
  rw [bX7_ask_40, tw_m4 T, pw6 n hn, if_pos (Int32.le_refl _)]
theorem m_askS (T : Tw S n c) {v x2 : Int32} {p : Int32 × Int32} {i : Nat} (hi : i < n) (hA : skA S n v ≠ 0) {a b d z : Option Value} : ∃ a' b' d' z', pv_R mX7_ask 31 [some (.ref 37), some (.int v), some (.int x2), some (.int p.1), some (.int p.2), some (.int (nI i)), a, b, d, z] [] (pv_em S) = pv_R mX7_ask 22 [some (.ref 37), some (.int v), some (.int x2), some (.int (aks S n v i p).1), some (.int (aks S n v i p).2), some (.int (nI (i + 1))), a', b', d', z'] [] (pv_em S) := by
  have hn := tw_n T
  have hA64 := skA_le (S := S) (v := v) hn
  have hW := skW_le (S := S) (n := n) (v := v) (i := i)
  obtain ⟨z', e⟩ := m_askI T (v := v) (x2 := x2) (x3 := p.1) (x4 := p.2) hi (a := a) (b := b) (d := d) (z := z)
  refine ⟨some (.int (nI (skW S n v i))), some (.int (nI (skA S n v - skW S n v i))), some (.int (nI (akg S n v i))), z', ?_⟩
  rw [e, bX7_ask_116, if_pos (by rw [nIadd, show (0 : Int32) = nI 0 from rfl, nIeq (by omega) (by omega)]; omega), bX7_ask_130]
  have tail : pv_R mX7_ask 144 [some (.ref 37), some (.int v), some (.int x2), some (.int p.1), some (.int p.2), some (.int (nI i)), some (.int (nI (skW S n v i))), some (.int (nI (skA S n v - skW S n v i))), some (.int (nI (2 ^ n))), z'] [.int (nI (akg S n v i))] (pv_em S) = pv_R mX7_ask 22 [some (.ref 37), some (.int v), some (.int x2), some (.int (aks S n v i p).1), some (.int (aks S n v i p).2), some (.int (nI (i + 1))), some (.int (nI (skW S n v i))), some (.int (nI (skA S n v - skW S n v i))), some (.int (nI (akg S n v i))), z'] [] (pv_em S) := by
    rw [bX7_ask_144]
    by_cases w : p.2 ≤ nI (akg S n v i)
    · rw [show aks S n v i p = p from if_pos w, if_pos w, bX7_ask_158, bX7_ask_159, if_pos w, bX7_ask_172, bX7_ask_174, nIs]
    · rw [show aks S n v i p = (nI i, nI (akg S n v i)) from if_neg w, if_neg w, bX7_ask_153, bX7_ask_159, if_neg w, bX7_ask_167, bX7_ask_174, nIs]
  by_cases q : skW S n v i < skA S n v - skW S n v i
  · have eg : akg S n v i = skA S n v - skW S n v i := if_pos q
    rw [if_pos (by rw [nIle (by omega) (by omega)]; omega), bX7_ask_142, ← eg]
    rw [← eg] at tail
    exact tail
  · have eg : akg S n v i = skW S n v i := if_neg q
    by_cases q2 : skW S n v i = skA S n v - skW S n v i
    · rw [if_pos (by rw [nIle (by omega) (by omega)]; omega), bX7_ask_142, ← q2]
      rw [← q2, eg] at tail
      rw [eg]
      exact tail
    · rw [if_neg (by rw [nIle (by omega) (by omega)]; omega), bX7_ask_137]
      rw [eg] at tail ⊢
      exact tail
theorem m_askL (T : Tw S n c) {v x2 : Int32} (hA : skA S n v ≠ 0) {a b d z : Option Value} : pv_R mX7_ask 22 [some (.ref 37), some (.int v), some (.int x2), some (.int (-9)), some (.int 1000000), some (.int 0), a, b, d, z] [] (pv_em S) = some (some (.int (itf (aks S n v) n 0 (-9, 1000000)).1), pv_em (pv_si S 37 13 (itf (aks S n v) n 0 (-9, 1000000)).2)) := by
  have hn := tw_n T
  obtain ⟨⟨⟨p1, p2⟩, a', b', d', z'⟩, e, hp, _⟩ := lpF (R := fun k (q : (Int32 × Int32) × Option Value × Option Value × Option Value × Option Value) => pv_R mX7_ask 22 [some (.ref 37), some (.int v), some (.int x2), some (.int q.1.1), some (.int q.1.2), some (.int (nI k)), q.2.1, q.2.2.1, q.2.2.2.1, q.2.2.2.2] [] (pv_em S)) (N := n) (fun q => q.1) (aks S n v) (fun _ _ => True) (fun k q hk _ => by
    obtain ⟨p, a, b, d, z⟩ := q
    obtain ⟨a', b', d', z', e⟩ := m_askS T (v := v) (x2 := x2) (p := p) hk hA (a := a) (b := b) (d := d) (z := z)
    refine ⟨(aks S n v k p, a', b', d', z'), ?_, rfl, trivial⟩
    refine Eq.trans bX7_ask_22 ?_
    rw [tw_m4 T, if_neg (by rw [nIle (by omega) (by omega)]; omega), e]) n 0 ((-9, 1000000), a, b, d, z) (by omega) trivial
  have hp : (p1, p2) = itf (aks S n v) n 0 (-9, 1000000) := hp
  refine Eq.trans e ?_
  rw [← hp]
  show pv_R mX7_ask 22 _ _ _ = _
  rw [bX7_ask_22, tw_m4 T, if_pos (Int32.le_refl _), bX7_ask_182, bX7_answer_0, pv_cc_some, bX7_ask_189]
theorem sk_cg {S' : pv_S} {v : Int32} (h : S'.1 44 = S.1 44) : skA S' n v = skA S n v ∧ skW S' n v = skW S n v ∧ aks S' n v = aks S n v := by
  have e1 : skA S' n v = skA S n v := cN_congr (fun k => by show ws (S'.1 44) n k = v ↔ ws (S.1 44) n k = v; rw [h]) _ _
  have e2 : skW S' n v = skW S n v := by funext i; unfold skW; simp only [skp, h]
  refine ⟨e1, e2, ?_⟩
  funext i p
  unfold aks akg
  rw [e1, e2]
theorem tq_ask (I : Inv S) (v : Int32) : pv_goI Inv S mX6_ask mX7_ask [.int v] := by
  obtain ⟨n, c, T⟩ := tw_of I
  have hn := tw_n T
  by_cases hv : 0 ≤ v.toInt ∧ v.toInt ≤ 1200
  · by_cases h : n = 0
    · subst h
      refine ⟨-4, S, S, ?_, ?_, I⟩
      · show pv_R mX6_ask 0 [some (.ref 0), some (.int v), none, none, none, none, none, none] [] (pv_em S) = _
        simp only [bX6_ask_0, bX6_ask_8, bX6_ask_11, bX6_ask_13, bX6_ask_23, bX6_ask_26, bX6_ask_31, bX6_ask_36, bX6_ask_44, bX6_ask_45, bX6_ask_67, bX6_ask_74, bX6_ask_94, bX6_ask_101, bX6_ask_107, x_within, i0, i1200, hv, tw_x7 T, show nI 0 = 0 from rfl, pv_cc_some, bI_0, and_self, not_true_eq_false, not_false_eq_true, if_true, if_false]
      · show pv_R mX7_ask 0 [some (.ref 37), some (.int v), none, none, none, none, none, none, none, none] [] (pv_em S) = _
        rw [bX7_ask_0, m_refuses T, pv_cc_some, if_pos hv, if_pos rfl, bX7_ask_5, if_neg (by decide), bX7_ask_10]
    · have z := nI0 hn h
      have hA := skA_le (S := S) (v := v) hn
      have ex : pv_R mX6_ask 0 [some (.ref 0), some (.int v), none, none, none, none, none, none] [] (pv_em S) = if ¬ nI (skA S n v) = 0 then pv_R mX6_ask 45 [some (.ref 0), some (.int v), some (.int (nI (skA S n v))), none, none, none, none, none] [] (pv_em S) else pv_R mX6_ask 36 [some (.ref 0), some (.int v), some (.int (nI (skA S n v))), none, none, none, none, none] [] (pv_em S) := by
        rw [bX6_ask_0, x_within, pv_cc_some, bX6_ask_8, if_pos (by rw [bI_0, i0, i1200]; exact fun q => q hv), bX6_ask_13, tw_x7 T, if_pos z, bX6_ask_26, x_setsOfN T, pv_cc_some, bX6_ask_31]
      have em : ∀ S' : pv_S, Tw S' n c → pv_R mX7_ask 0 [some (.ref 37), some (.int v), none, none, none, none, none, none, none, none] [] (pv_em S') = pv_R mX7_ask 22 [some (.ref 37), some (.int v), some (.int 0), some (.int (-9)), some (.int 1000000), some (.int 0), none, none, none, none] [] (pv_em S') := by
        intro S' T'
        rw [bX7_ask_0, m_refuses T', pv_cc_some, if_pos hv, if_neg h, bX7_ask_5, if_pos rfl, bX7_ask_12]
      by_cases q : skA S n v = 0
      · refine ⟨-3, xf S 4, _, ?_, ?_, Inv_find (f := 4) I (by omega) (by omega)⟩
        · refine Eq.trans ex ?_
          rw [if_neg (fun w => w (by rw [q]; rfl)), bX6_ask_36, x_find_4, pv_cc_some, bX6_ask_44]
        · have T' : Tw (xf S 4) n c := Tw_congr (fun k hk => xf_ne (by omega) (by omega)) (by rw [xf_ne (by decide) (by decide)]) (by rw [xf_ne (by decide) (by decide)]) (by rw [xf_ne (by decide) (by decide)]) T
          refine Eq.trans (em (xf S 4) T') ?_
          obtain ⟨g1, g2, _⟩ := sk_cg (n := n) (v := v) (S := S) (S' := xf S 4) (xf_ne (by decide) (by decide))
          obtain ⟨z', e⟩ := m_askI T' (v := v) (x2 := 0) (x3 := -9) (x4 := 1000000) (i := 0) (by omega) (a := none) (b := none) (d := none) (z := none)
          have w0 : skW S n v 0 = 0 := by
            have := skW_le (S := S) (n := n) (v := v) (i := 0)
            omega
          rw [g1, g2, q, w0] at e
          have e : pv_R mX7_ask 31 [some (.ref 37), some (.int v), some (.int 0), some (.int (-9)), some (.int 1000000), some (.int 0), none, none, none, none] [] (pv_em (xf S 4)) = _ := e
          rw [bX7_ask_22, tw_m4 T', if_neg (by rw [show (0 : Int32) = nI 0 from rfl, nIle (by omega) (by omega)]; omega), e, bX7_ask_116, if_neg (by decide), bX7_ask_124, m_find_4, pv_cc_some, bX7_ask_129]
      · have ee : itf (aks S n v) n 0 (-9, 1000000) = itf (aks S n v) n 0 (0, nI (skA S n v + 1)) := by
          obtain ⟨m, rfl⟩ : ∃ m, n = m + 1 := ⟨n - 1, by omega⟩
          have hl := akg_le (S := S) (n := m + 1) (v := v) (i := 0)
          have u1 : aks S (m + 1) v 0 (-9, 1000000) = (nI 0, nI (akg S (m + 1) v 0)) := if_neg (by
            show ¬ (1000000 : Int32) ≤ nI (akg S (m + 1) v 0)
            rw [Int32.le_iff_toInt_le, show (1000000 : Int32).toInt = 1000000 from by decide, nIt (by omega)]; omega)
          have u2 : aks S (m + 1) v 0 (0, nI (skA S (m + 1) v + 1)) = (nI 0, nI (akg S (m + 1) v 0)) := if_neg (by
            show ¬ nI (skA S (m + 1) v + 1) ≤ nI (akg S (m + 1) v 0)
            rw [nIle (by omega) (by omega)]; omega)
          show itf (aks S (m + 1) v) m 1 (aks S (m + 1) v 0 (-9, 1000000)) = itf (aks S (m + 1) v) m 1 (aks S (m + 1) v 0 (0, nI (skA S (m + 1) v + 1)))
          rw [u1, u2]
        refine ⟨(itf (aks S n v) n 0 (0, nI (skA S n v + 1))).1, pv_si S 35 1 (itf (aks S n v) n 0 (0, nI (skA S n v + 1))).2, _, ?_, ?_, Inv_asked (v := (itf (aks S n v) n 0 (0, nI (skA S n v + 1))).2) I⟩
        · refine Eq.trans ex ?_
          rw [if_pos (fun w => q (by rw [show (0 : Int32) = nI 0 from rfl, nIeq (by omega) (by omega)] at w; exact w)), bX6_ask_45, nIs, x_askL T]
        · have T' : Tw (pv_si S 35 1 (itf (aks S n v) n 0 (0, nI (skA S n v + 1))).2) n c := Tw_congr (fun k hk => si_ne (by omega)) (by rw [si_ne (by decide)]) (by rw [si_ne (by decide)]) (by rw [si_ne (by decide)]) T
          obtain ⟨g1, g2, g3⟩ := sk_cg (n := n) (v := v) (S := S) (S' := pv_si S 35 1 (itf (aks S n v) n 0 (0, nI (skA S n v + 1))).2) (si_ne (by decide))
          refine Eq.trans (em _ T') ?_
          rw [m_askL T' (by rw [g1]; exact q), g3, ee]
  · refine ⟨-1, S, S, ?_, ?_, I⟩
    · show pv_R mX6_ask 0 [some (.ref 0), some (.int v), none, none, none, none, none, none] [] (pv_em S) = _
      simp only [bX6_ask_0, bX6_ask_8, bX6_ask_11, bX6_ask_13, bX6_ask_23, bX6_ask_26, bX6_ask_31, bX6_ask_36, bX6_ask_44, bX6_ask_45, bX6_ask_67, bX6_ask_74, bX6_ask_94, bX6_ask_101, bX6_ask_107, x_within, i0, i1200, hv, pv_cc_some, bI_0, not_true_eq_false, not_false_eq_true, if_true, if_false]
    · show pv_R mX7_ask 0 [some (.ref 37), some (.int v), none, none, none, none, none, none, none, none] [] (pv_em S) = _
      rw [bX7_ask_0, m_refuses T, pv_cc_some, if_neg hv, bX7_ask_5, if_neg (by decide), bX7_ask_10]
end AK
