/-! ===== fright: what is best ===== -/
theorem held_i (v : Int32) : (tw_held v).toInt = if v.toInt < 1 then 1 else if 200 < v.toInt then 200 else v.toInt := by
  unfold tw_held
  by_cases h1 : v < 1
  · rw [if_pos h1]
    rw [ltI, i1] at h1
    rw [if_pos h1, i1]
  · rw [if_neg h1]
    rw [ltI, i1] at h1
    rw [if_neg h1]
    by_cases h2 : 200 < v
    · rw [if_pos h2]
      rw [ltI, i200] at h2
      rw [if_pos h2, i200]
    · rw [if_neg h2]
      rw [ltI, i200] at h2
      rw [if_neg h2]
theorem held_mono {a b : Int32} (h : a.toInt ≤ b.toInt) : (tw_held a).toInt ≤ (tw_held b).toInt := by
  rw [held_i, held_i]
  split <;> split <;> (try split) <;> omega
theorem adds_in {k h : Int32} : -2 ≤ (tw_adds k h).toInt ∧ (tw_adds k h).toInt ≤ 2 := by
  unfold tw_adds
  split
  · split <;> decide
  · split
    · split <;> decide
    · split
      · decide
      · split <;> decide
theorem meal_in {k a : Int32} (h0 : 0 ≤ a.toInt) (h1 : a.toInt ≤ 9) : 0 ≤ (tw_meal k a).toInt ∧ (tw_meal k a).toInt ≤ 18 := by
  obtain ⟨q, rfl, hq⟩ := nIex h0
  have hq9 : q < 10 := by omega
  have d : ∀ q, q < 10 → (0 ≤ (nI q / 2).toInt ∧ (nI q / 2).toInt ≤ 18) ∧ (0 ≤ (2 * nI q).toInt ∧ (2 * nI q).toInt ≤ 18) := by decide
  unfold tw_meal
  split
  · exact (d q hq9).1
  · split
    · exact (d q hq9).2
    · split
      · decide
      · omega
theorem i5m : (-5 : Int32).toInt = -5 := by decide
/-- what a turn does to the ruler's weight -/
def fgm (ml : Int32) (d : Nat) (w : Int32) : Int32 := if d % 2 = 0 then tw_held (w + ml) else tw_held (w + (-5))
def FV (kd h ml : Int32) : Nat → Nat → Int32 → Int32
  | 0, _, w => tw_aft kd h w 1
  | m + 1, d, w => FV kd h ml m (d + 1) (fgm ml d w)
theorem fgm_in {ml w : Int32} {d : Nat} : 1 ≤ (fgm ml d w).toInt ∧ (fgm ml d w).toInt ≤ 200 := by
  unfold fgm
  split
  · exact held_in _
  · exact held_in _
theorem fgm_mono {ml a b : Int32} {d : Nat} (m0 : 0 ≤ ml.toInt) (m1 : ml.toInt ≤ 18) (ha : 1 ≤ a.toInt ∧ a.toInt ≤ 200) (hb : 1 ≤ b.toInt ∧ b.toInt ≤ 200) (h : a.toInt ≤ b.toInt) : (fgm ml d a).toInt ≤ (fgm ml d b).toInt := by
  unfold fgm
  split
  · exact held_mono (by rw [ad_i (by omega) (by omega), ad_i (by omega) (by omega)]; omega)
  · exact held_mono (by rw [ad_i (by rw [i5m]; omega) (by rw [i5m]; omega), ad_i (by rw [i5m]; omega) (by rw [i5m]; omega)]; omega)
theorem fgm_up {ml w : Int32} {d : Nat} (m0 : 0 ≤ ml.toInt) (m1 : ml.toInt ≤ 18) (hw : 1 ≤ w.toInt ∧ w.toInt ≤ 200) (e : d % 2 = 0) : w.toInt ≤ (fgm ml d w).toInt := by
  unfold fgm
  rw [if_pos e, held_i, ad_i (by omega) (by omega)]
  split
  · omega
  · split <;> omega
theorem fgm_dn {ml w : Int32} {d : Nat} (hw : 1 ≤ w.toInt ∧ w.toInt ≤ 200) (e : ¬ d % 2 = 0) : (fgm ml d w).toInt ≤ w.toInt := by
  unfold fgm
  rw [if_neg e, held_i, ad_i (by rw [i5m]; omega) (by rw [i5m]; omega), i5m]
  split
  · omega
  · split <;> omega
theorem FV_in {kd h ml : Int32} : ∀ m d (w : Int32), 1 ≤ w.toInt ∧ w.toInt ≤ 200 → 1 ≤ (FV kd h ml m d w).toInt ∧ (FV kd h ml m d w).toInt ≤ 200
  | 0, _, w, hw => aft_in hw 1
  | m + 1, d, w, _ => FV_in m (d + 1) (fgm ml d w) fgm_in
theorem FV_mono {kd h ml : Int32} (m0 : 0 ≤ ml.toInt) (m1 : ml.toInt ≤ 18) : ∀ m d (a b : Int32), 1 ≤ a.toInt ∧ a.toInt ≤ 200 → 1 ≤ b.toInt ∧ b.toInt ≤ 200 → a.toInt ≤ b.toInt → (FV kd h ml m d a).toInt ≤ (FV kd h ml m d b).toInt
  | 0, _, a, b, ha, hb, hab => by
    have ai := adds_in (k := kd) (h := h + nI 0)
    show (tw_held (a + tw_adds kd (h + nI 0))).toInt ≤ (tw_held (b + tw_adds kd (h + nI 0))).toInt
    exact held_mono (by rw [ad_i (by omega) (by omega), ad_i (by omega) (by omega)]; omega)
  | m + 1, d, a, b, ha, hb, hab => FV_mono m0 m1 m (d + 1) _ _ fgm_in fgm_in (fgm_mono m0 m1 ha hb hab)
/-- the best so far, held against a value -/
def wgF (d : Nat) (b v : Int32) : Int32 := if b = -9 then v else if d % 2 = 0 then (if v ≤ b then b else v) else (if b ≤ v then b else v)
def exF (r : Nat) (A B : Int32) (j : Nat) : Int32 := if j = 0 then -9 else if j ≤ r then B else A
theorem nm9 {x : Int32} (h : 1 ≤ x.toInt) : ¬ x = -9 := fun z => by rw [z, show (-9 : Int32).toInt = -9 from by decide] at h; omega
theorem ex_s {d r j : Nat} {A B : Int32} (hA : 1 ≤ A.toInt) (hB : 1 ≤ B.toInt) (h : if d % 2 = 0 then B.toInt ≤ A.toInt else A.toInt ≤ B.toInt) : wgF d (exF r A B j) (if j = r then A else B) = exF r A B (j + 1) := by
  unfold wgF exF
  rw [if_neg (show ¬ j + 1 = 0 by omega)]
  by_cases j0 : j = 0
  · rw [if_pos j0, if_pos rfl]
    by_cases e : j = r
    · rw [if_pos e, if_neg (by omega)]
    · rw [if_neg e, if_pos (by omega)]
  · rw [if_neg j0]
    by_cases l : j ≤ r
    · rw [if_pos l, if_neg (nm9 hB)]
      by_cases e : j = r
      · rw [if_pos e, if_neg (show ¬ j + 1 ≤ r by omega)]
        by_cases p : d % 2 = 0
        · rw [if_pos p] at h ⊢
          by_cases q : A ≤ B
          · rw [if_pos q]
            rw [leI] at q
            exact Int32.toInt_inj.mp (by omega)
          · rw [if_neg q]
        · rw [if_neg p] at h ⊢
          by_cases q : B ≤ A
          · rw [if_pos q]
            rw [leI] at q
            exact Int32.toInt_inj.mp (by omega)
          · rw [if_neg q]
      · rw [if_neg e, if_pos (show j + 1 ≤ r by omega)]
        split
        · rw [if_pos (Int32.le_refl _)]
        · rw [if_pos (Int32.le_refl _)]
    · rw [if_neg l, if_neg (nm9 hA), if_neg (show ¬ j = r by omega), if_neg (show ¬ j + 1 ≤ r by omega)]
      by_cases p : d % 2 = 0
      · rw [if_pos p] at h ⊢
        rw [if_pos (by rw [leI]; exact h)]
      · rw [if_neg p] at h ⊢
        rw [if_pos (by rw [leI]; exact h)]
theorem par5 : ∀ d, d < 5 → ((nI d - nI d / 2 * 2 = 0) ↔ d % 2 = 0) := by decide +kernel
theorem e6m {m : Nat} (h : m ≤ 1000) : (6 : Int32) * nI m = nI (6 * m) := by
  refine Int32.toInt_inj.mp ?_
  rw [ml_i (by rw [i6, nIt (by omega)]; omega) (by rw [i6, nIt (by omega)]; omega), i6, nIt (by omega), nIt (by omega)]
  omega
theorem e2m {m : Nat} (h : m ≤ 1000) : (2 : Int32) * nI m = nI (2 * m) := by
  refine Int32.toInt_inj.mp ?_
  rw [ml_i (by rw [i2, nIt (by omega)]; omega) (by rw [i2, nIt (by omega)]; omega), i2, nIt (by omega), nIt (by omega)]
  omega
def FZ (S Z : pv_S) : Prop := (∀ k, k ≠ 52 → k ≠ 53 → k ≠ 54 → Z.1 k = S.1 k) ∧ Z.2 = S.2
section FR
variable {S Z : pv_S} {n c r d j : Nat}
theorem FZ_T (F : FZ S Z) (T : Tw S n c) : Tw Z n c := Tw_congr (fun k hk => F.1 k (by omega) (by omega) (by omega)) (by rw [F.1 37 (by decide) (by decide) (by decide)]) (by rw [F.1 37 (by decide) (by decide) (by decide)]) (by rw [F.1 37 (by decide) (by decide) (by decide)]) T
theorem FZ_si {k i : Nat} {v : Int32} (F : FZ S Z) (h : k = 52 ∨ k = 53 ∨ k = 54) : FZ S (pv_si Z k i v) := ⟨fun q q1 q2 q3 => by rw [si_ne (by omega)]; exact F.1 q q1 q2 q3, F.2⟩
theorem m_weigh {v : Int32} (hd : d < 5) {a : Option Value} : pv_R mX7_weighsIt 0 [some (.ref 37), some (.int (nI d)), some (.int v), a] [] (pv_em Z) = some (none, pv_em (pv_si Z 54 d (wgF d (Z.1 54 d) v))) := by
  have g := gx (k := d) (N := 5) hd (by omega)
  have cd := nIc (i := d) (by omega)
  have p := par5 d hd
  have t1 : pv_R mX7_weighsIt 40 [some (.ref 37), some (.int (nI d)), some (.int v), a] [] (pv_em Z) = some (none, pv_em (pv_si Z 54 d v)) := by
    rw [bX7_weighsIt_40, bX7_weighsIt_45, if_neg (by decide), bX7_weighsIt_55, bX7_weighsIt_65, if_neg g, cd]
  have t0 : pv_R mX7_weighsIt 44 [some (.ref 37), some (.int (nI d)), some (.int v), a] [] (pv_em Z) = some (none, pv_em (pv_si Z 54 d (Z.1 54 d))) := by
    rw [bX7_weighsIt_44, bX7_weighsIt_45, if_pos rfl, bX7_weighsIt_59, if_neg g, bX7_weighsIt_65, if_neg g, cd]
  unfold wgF
  rw [bX7_weighsIt_0, if_neg g, cd]
  by_cases q : Z.1 54 d = -9
  · rw [if_pos q, if_pos q, t1]
  · rw [if_neg q, if_neg q, bX7_weighsIt_11]
    by_cases e : d % 2 = 0
    · rw [if_neg (fun z => z (p.mpr e)), if_pos e, bX7_weighsIt_17, if_neg g, cd]
      by_cases l : v ≤ Z.1 54 d
      · rw [if_pos l, if_pos l, t0]
      · rw [if_neg l, if_neg l, bX7_weighsIt_27, t1]
    · rw [if_pos (fun z => e (p.mp z)), if_neg e, bX7_weighsIt_30, if_neg g, cd]
      by_cases l : Z.1 54 d ≤ v
      · rw [if_pos l, if_pos l, t0]
      · rw [if_neg l, if_neg l, t1]
theorem m_goesOn (T : Tw S n c) (F : FZ S Z) (hd : d < 4) (hj : j ≤ n) (hr : r < n) (h53 : Z.1 53 d = nI j) {a b : Option Value} : ∃ Z', pv_R mX7_goesOn 0 [some (.ref 37), some (.int (nI d)), a, b] [] (pv_em Z) = some (none, pv_em Z') ∧ FZ S Z' ∧ Z'.1 53 = Z.1 53 ∧ Z'.1 54 = Z.1 54 ∧ (∀ k, k < 6 * (d + 1) → Z'.1 52 k = Z.1 52 k) ∧ Z'.1 52 (6 * (d + 1) + r) = if j = r then fgm (tw_meal (S.1 42 r) (S.1 43 r)) d (Z.1 52 (6 * d + r)) else Z.1 52 (6 * d + r) := by
  have hn := tw_n T
  have p := par5 d (by omega)
  obtain ⟨Z1, e1, c1, c2, c3⟩ := cp_52_52 (S := Z) (i := 6 * d) (j := 6 * d + 6) (N := 6) (by omega) (by omega) (by omega) (a := none)
  have F1 : FZ S Z1 := ⟨fun k k1 k2 k3 => (c1 k k1).trans (F.1 k k1 k2 k3), c2.trans F.2⟩
  have T1 := FZ_T F1 T
  have st : pv_R mX7_goesOn 0 [some (.ref 37), some (.int (nI d)), a, b] [] (pv_em Z) = pv_R mX7_goesOn 31 [some (.ref 37), some (.int (nI d)), some (.int (nI j)), b] [] (pv_em Z1) := by
    rw [bX7_goesOn_0, if_neg (gx (by omega) (by omega)), nIc (by omega), e6m (by omega), show nI (6 * d) + 6 = nI (6 * d + 6) from nIadd (b := 6), show (6 : Int32) = nI 6 from rfl, e1, pv_cc_void, h53]
  rw [st, bX7_goesOn_31, tw_m4 T1]
  by_cases q : j = n
  · rw [if_pos (by rw [nIle (by omega) (by omega)]; omega), bX7_goesOn_99]
    refine ⟨Z1, rfl, F1, c1 53 (by decide), c1 54 (by decide), fun k hk => by rw [c3, if_neg (by omega)], ?_⟩
    rw [if_neg (by omega), c3, if_pos (by omega), show 6 * d + (6 * (d + 1) + r - (6 * d + 6)) = 6 * d + r from by omega]
  · rw [if_neg (by rw [nIle (by omega) (by omega)]; omega), bX7_goesOn_39]
    have fin : ∀ by_ : Int32, ∃ Z', pv_R mX7_goesOn 65 [some (.ref 37), some (.int (nI d)), some (.int (nI j)), b] [.int by_] (pv_em Z1) = some (none, pv_em Z') ∧ FZ S Z' ∧ Z'.1 53 = Z.1 53 ∧ Z'.1 54 = Z.1 54 ∧ (∀ k, k < 6 * (d + 1) → Z'.1 52 k = Z.1 52 k) ∧ Z'.1 52 (6 * (d + 1) + r) = if j = r then tw_held (Z.1 52 (6 * d + r) + by_) else Z.1 52 (6 * d + r) := by
      intro by_
      have ei : (6 : Int32) * nI d + 6 + nI j = nI (6 * d + 6 + j) := by rw [e6m (by omega), show nI (6 * d) + 6 = nI (6 * d + 6) from nIadd (b := 6), nIadd]
      rw [bX7_goesOn_65, ei, if_neg (gx (by omega) (by omega)), nIc (by omega), m_bound, pv_cc_some, bX7_goesOn_98, if_neg (gx (by omega) (by omega)), nIc (by omega), bX7_goesOn_99]
      refine ⟨_, rfl, FZ_si F1 (Or.inl rfl), by rw [si_ne (by decide)]; exact c1 53 (by decide), by rw [si_ne (by decide)]; exact c1 54 (by decide), fun k hk => ?_, ?_⟩
      · rw [si_j (by omega), c3, if_neg (by omega)]
      · by_cases e : j = r
        · subst e
          rw [if_pos rfl, show 6 * (d + 1) + j = 6 * d + 6 + j from by omega, si_jj, c3, if_pos (by omega), show 6 * d + (6 * d + 6 + j - (6 * d + 6)) = 6 * d + j from by omega]
        · rw [if_neg e, si_j (by omega), c3, if_pos (by omega), show 6 * d + (6 * (d + 1) + r - (6 * d + 6)) = 6 * d + r from by omega]
    by_cases e : d % 2 = 0
    · rw [if_neg (fun z => z (p.mpr e)), bX7_goesOn_45, if_neg (gx (by omega) (by omega)), if_neg (gx (by omega) (by omega)), nIc (by omega), m_meal, pv_cc_some, bX7_goesOn_60]
      obtain ⟨Z', f1, f2, f3, f4, f5, f6⟩ := fin (tw_meal (Z1.1 42 j) (Z1.1 43 j))
      refine ⟨Z', f1, f2, f3, f4, f5, ?_⟩
      rw [f6]
      by_cases x : j = r
      · subst x
        rw [if_pos rfl, if_pos rfl, F1.1 42 (by decide) (by decide) (by decide), F1.1 43 (by decide) (by decide) (by decide)]
        unfold fgm
        rw [if_pos e]
      · rw [if_neg x, if_neg x]
    · rw [if_pos (fun z => e (p.mp z)), bX7_goesOn_63]
      obtain ⟨Z', f1, f2, f3, f4, f5, f6⟩ := fin (-5)
      refine ⟨Z', f1, f2, f3, f4, f5, ?_⟩
      rw [f6]
      by_cases x : j = r
      · rw [if_pos x, if_pos x]
        unfold fgm
        rw [if_neg e]
      · rw [if_neg x, if_neg x]
end FR
