/-! ===== fright ===== -/
theorem nIm1 {d : Nat} : nI (d + 1) + (-1) = nI d := by
  rw [← nIs, Int32.add_assoc, show (1 : Int32) + (-1) = 0 from by decide, Int32.add_zero]
theorem nIn {d : Nat} (h : d < 100000) : ¬ nI d < 0 := by
  rw [ltI, nIt h, i0]
  omega
section FT
variable {S Z : pv_S} {n c r d j nn m : Nat}
theorem m_head (T : Tw S n c) (F : FZ S Z) (hd : d < 5) (hj : j ≤ 10) (h53 : Z.1 53 d = nI j - 1) : pv_R mX7_fright 64 [some (.ref 37), some (.int (nI nn)), some (.int (nI r)), some (.int (nI d))] [] (pv_em Z) = if j ≤ n then pv_R mX7_fright 114 [some (.ref 37), some (.int (nI nn)), some (.int (nI r)), some (.int (nI d))] [] (pv_em (pv_si Z 53 d (nI j))) else pv_R mX7_fright 91 [some (.ref 37), some (.int (nI nn)), some (.int (nI r)), some (.int (nI d))] [] (pv_em (pv_si Z 53 d (nI j))) := by
  have g := gx (k := d) (N := 5) hd (by omega)
  have hn := tw_n T
  rw [bX7_fright_64, if_neg (nIn (by omega)), bX7_fright_68, if_neg g, if_neg g, if_neg g, nIc (by omega), h53, Int32.sub_add_cancel, si_jj, si_ne (by decide), tw_m4 (FZ_T F T), if_c (id := inferInstance) (nIle (by omega) (by omega))]
/-- one choice, weighed: what stays -/
def OP (S Zb Z' : pv_S) (d : Nat) (v : Int32) : Prop := FZ S Z' ∧ Z'.1 53 d = Zb.1 53 d ∧ Z'.1 54 d = wgF d (Zb.1 54 d) v ∧ (∀ k, k < 6 * (d + 1) → Z'.1 52 k = Zb.1 52 k) ∧ ∀ k, k < d → Z'.1 53 k = Zb.1 53 k ∧ Z'.1 54 k = Zb.1 54 k
def LV (S Z0 Z1 : pv_S) (n d : Nat) (v : Int32) : Prop := FZ S Z1 ∧ Z1.1 53 d = nI n ∧ Z1.1 54 d = v ∧ (∀ k, k < 6 * (d + 1) → Z1.1 52 k = Z0.1 52 k) ∧ ∀ k, k < d → Z1.1 53 k = Z0.1 53 k ∧ Z1.1 54 k = Z0.1 54 k
theorem m_lvl (T : Tw S n c) (hr : r < n) (hnn : nn ≤ 2) (hd : d + (m + 1) = 2 * nn) (opt : ∀ (Zb : pv_S) (wj : Int32), FZ S Zb → 1 ≤ wj.toInt ∧ wj.toInt ≤ 200 → Zb.1 52 (6 * (d + 1) + r) = wj → ∃ Z', pv_R mX7_fright 119 [some (.ref 37), some (.int (nI nn)), some (.int (nI r)), some (.int (nI d))] [] (pv_em Zb) = pv_R mX7_fright 64 [some (.ref 37), some (.int (nI nn)), some (.int (nI r)), some (.int (nI d))] [] (pv_em Z') ∧ OP S Zb Z' d (FV (S.1 42 r) (S.1 44 6) (tw_meal (S.1 42 r) (S.1 43 r)) m (d + 1) wj)) {Z0 : pv_S} {w : Int32} (F0 : FZ S Z0) (h53 : Z0.1 53 d = -1) (h54 : Z0.1 54 d = -9) (h52 : Z0.1 52 (6 * d + r) = w) (hw : 1 ≤ w.toInt ∧ w.toInt ≤ 200) : ∃ Z1, pv_R mX7_fright 64 [some (.ref 37), some (.int (nI nn)), some (.int (nI r)), some (.int (nI d))] [] (pv_em Z0) = pv_R mX7_fright 64 [some (.ref 37), some (.int (nI nn)), some (.int (nI r)), some (.int (nI d))] [] (pv_em Z1) ∧ LV S Z0 Z1 n d (FV (S.1 42 r) (S.1 44 6) (tw_meal (S.1 42 r) (S.1 43 r)) (m + 1) d w) := by
  have hn := tw_n T
  obtain ⟨a0, a1⟩ := tw_ab T hr
  rw [← tw_ap T hr] at a0 a1
  obtain ⟨m0, m1⟩ := meal_in (k := S.1 42 r) a0 a1
  have hA := FV_in (kd := S.1 42 r) (h := S.1 44 6) (ml := (tw_meal (S.1 42 r) (S.1 43 r))) m (d + 1) (fgm (tw_meal (S.1 42 r) (S.1 43 r)) d w) fgm_in
  have hB := FV_in (kd := S.1 42 r) (h := S.1 44 6) (ml := (tw_meal (S.1 42 r) (S.1 43 r))) m (d + 1) w hw
  have hAB : if d % 2 = 0 then (FV (S.1 42 r) (S.1 44 6) (tw_meal (S.1 42 r) (S.1 43 r)) m (d + 1) w).toInt ≤ (FV (S.1 42 r) (S.1 44 6) (tw_meal (S.1 42 r) (S.1 43 r)) m (d + 1) (fgm (tw_meal (S.1 42 r) (S.1 43 r)) d w)).toInt else (FV (S.1 42 r) (S.1 44 6) (tw_meal (S.1 42 r) (S.1 43 r)) m (d + 1) (fgm (tw_meal (S.1 42 r) (S.1 43 r)) d w)).toInt ≤ (FV (S.1 42 r) (S.1 44 6) (tw_meal (S.1 42 r) (S.1 43 r)) m (d + 1) w).toInt := by
    by_cases e : d % 2 = 0
    · rw [if_pos e]
      exact FV_mono m0 m1 m (d + 1) _ _ hw fgm_in (fgm_up m0 m1 hw e)
    · rw [if_neg e]
      exact FV_mono m0 m1 m (d + 1) _ _ fgm_in hw (fgm_dn hw e)
  obtain ⟨Z1, e1, p1, p2, p3, p4, p5⟩ := lpE (R := fun _ (Z : pv_S) => pv_R mX7_fright 64 [some (.ref 37), some (.int (nI nn)), some (.int (nI r)), some (.int (nI d))] [] (pv_em Z)) (N := n + 1) (fun j Z => FZ S Z ∧ Z.1 53 d = nI j - 1 ∧ Z.1 54 d = exF r (FV (S.1 42 r) (S.1 44 6) (tw_meal (S.1 42 r) (S.1 43 r)) m (d + 1) (fgm (tw_meal (S.1 42 r) (S.1 43 r)) d w)) (FV (S.1 42 r) (S.1 44 6) (tw_meal (S.1 42 r) (S.1 43 r)) m (d + 1) w) j ∧ (∀ k, k < 6 * (d + 1) → Z.1 52 k = Z0.1 52 k) ∧ ∀ k, k < d → Z.1 53 k = Z0.1 53 k ∧ Z.1 54 k = Z0.1 54 k) (fun j Z hj hP => by
    obtain ⟨q1, q2, q3, q4, q5⟩ := hP
    have FA : FZ S (pv_si Z 53 d (nI j)) := FZ_si q1 (Or.inr (Or.inl rfl))
    obtain ⟨Zb, g1, g2, g3, g4, g5, g6⟩ := m_goesOn (Z := pv_si Z 53 d (nI j)) (d := d) (j := j) T FA (by omega) (by omega) hr si_jj (a := none) (b := none)
    have w52 : (pv_si Z 53 d (nI j)).1 52 (6 * d + r) = w := by rw [si_ne (by decide), q4 _ (by omega)]; exact h52
    rw [w52] at g6
    have hwj : 1 ≤ (if j = r then fgm (tw_meal (S.1 42 r) (S.1 43 r)) d w else w).toInt ∧ (if j = r then fgm (tw_meal (S.1 42 r) (S.1 43 r)) d w else w).toInt ≤ 200 := by
      split
      · exact fgm_in
      · exact hw
    obtain ⟨Z', o1, o2, o3, o4, o5, o6⟩ := opt Zb _ g2 hwj g6
    refine ⟨Z', ?_, o2, ?_, ?_, fun k hk => ?_, fun k hk => ?_⟩
    · refine Eq.trans (m_head T q1 (by omega) (by omega) q2) ?_
      rw [if_pos (by omega), bX7_fright_114, g1, pv_cc_void, o1]
    · rw [o3, g3, si_jj, ← nIs, Int32.add_sub_cancel]
    · rw [o4, g4, si_ne (by decide), q3, ← ex_s (by omega) (by omega) hAB]
      by_cases e : j = r
      · rw [if_pos e, if_pos e]
      · rw [if_neg e, if_neg e]
    · rw [o5 k hk, g5 k hk, si_ne (by decide)]; exact q4 k hk
    · rw [(o6 k hk).1, (o6 k hk).2, g3, g4, si_j (by omega), si_ne (by decide)]; exact q5 k hk) (n + 1) 0 Z0 (by omega) ⟨F0, by rw [h53]; rfl, by rw [h54]; rfl, fun _ _ => rfl, fun _ _ => ⟨rfl, rfl⟩⟩
  refine ⟨Z1, e1, p1, by rw [p2, ← nIs, Int32.add_sub_cancel], ?_, p4, p5⟩
  rw [p3]
  unfold exF
  rw [if_neg (by omega), if_neg (by omega)]
  rfl
theorem m_opt0 (T : Tw S n c) (hr : r < n) (hnn : nn ≤ 2) (hd : d + 1 = 2 * nn) (Zb : pv_S) (wj : Int32) (F : FZ S Zb) (h52 : Zb.1 52 (6 * (d + 1) + r) = wj) : ∃ Z', pv_R mX7_fright 119 [some (.ref 37), some (.int (nI nn)), some (.int (nI r)), some (.int (nI d))] [] (pv_em Zb) = pv_R mX7_fright 64 [some (.ref 37), some (.int (nI nn)), some (.int (nI r)), some (.int (nI d))] [] (pv_em Z') ∧ OP S Zb Z' d (FV (S.1 42 r) (S.1 44 6) (tw_meal (S.1 42 r) (S.1 43 r)) 0 (d + 1) wj) := by
  have hn := tw_n T
  have hh := tw_hb T
  have TZ := FZ_T F T
  have hhZ := tw_hb TZ
  have ei : (6 : Int32) * nI d + 6 + nI r = nI (6 * (d + 1) + r) := by rw [e6m (by omega), show nI (6 * d) + 6 = nI (6 * d + 6) from nIadd (b := 6), nIadd]; rfl
  refine ⟨pv_si Zb 54 d (wgF d (Zb.1 54 d) (FV (S.1 42 r) (S.1 44 6) (tw_meal (S.1 42 r) (S.1 43 r)) 0 (d + 1) wj)), ?_, FZ_si F (Or.inr (Or.inr rfl)), by rw [si_ne (by decide)], si_jj, fun k _ => by rw [si_ne (by decide)], fun k hk => ⟨by rw [si_ne (by decide)], si_j (by omega)⟩⟩
  rw [bX7_fright_119, nIs, e2m (by omega), hd, if_neg (fun z => z rfl), bX7_fright_128, if_neg (gx (by omega) (by omega)), ei, if_neg (gx (by omega) (by omega)), nIc (by omega), nIc (by omega), h52, show (1 : Int32) = nI 1 from rfl, m_after (by omega) hhZ.1 (by omega), pv_cc_some, bX7_fright_155, m_weigh (by omega), pv_cc_void, bX7_fright_158, F.1 42 (by decide) (by decide) (by decide), F.1 44 (by decide) (by decide) (by decide)]
  rfl
theorem m_dfs (T : Tw S n c) (hr : r < n) (hnn : nn ≤ 2) : ∀ (m d : Nat), d + (m + 1) = 2 * nn → ∀ (Z0 : pv_S) (w : Int32), FZ S Z0 → Z0.1 53 d = -1 → Z0.1 54 d = -9 → Z0.1 52 (6 * d + r) = w → 1 ≤ w.toInt ∧ w.toInt ≤ 200 → ∃ Z1, pv_R mX7_fright 64 [some (.ref 37), some (.int (nI nn)), some (.int (nI r)), some (.int (nI d))] [] (pv_em Z0) = pv_R mX7_fright 64 [some (.ref 37), some (.int (nI nn)), some (.int (nI r)), some (.int (nI d))] [] (pv_em Z1) ∧ LV S Z0 Z1 n d (FV (S.1 42 r) (S.1 44 6) (tw_meal (S.1 42 r) (S.1 43 r)) (m + 1) d w) := by
  intro m
  induction m with
  | zero =>
    intro d hd Z0 w F0 h53 h54 h52 hw
    exact m_lvl T hr hnn hd (fun Zb wj F _ h => m_opt0 T hr hnn hd Zb wj F h) F0 h53 h54 h52 hw
  | succ m ih =>
    intro d hd Z0 w F0 h53 h54 h52 hw
    have hn := tw_n T
    refine m_lvl T hr hnn hd (fun Zb wj F hwj h => ?_) F0 h53 h54 h52 hw
    have Fc : FZ S (pv_si (pv_si Zb 53 (d + 1) (-1)) 54 (d + 1) (-9)) := FZ_si (FZ_si F (Or.inr (Or.inl rfl))) (Or.inr (Or.inr rfl))
    obtain ⟨Z1, e1, l1, l2, l3, l4, l5⟩ := ih (d + 1) (by omega) (pv_si (pv_si Zb 53 (d + 1) (-1)) 54 (d + 1) (-9)) wj Fc (by rw [si_ne (by decide), si_jj]) si_jj (by rw [si_ne (by decide), si_ne (by decide)]; exact h) hwj
    have F2 : FZ S (pv_si Z1 53 (d + 1) (nI (n + 1))) := FZ_si l1 (Or.inr (Or.inl rfl))
    have v54 : (pv_si Z1 53 (d + 1) (nI (n + 1))).1 54 = Z1.1 54 := si_ne (by decide)
    have b54 : Z1.1 54 d = Zb.1 54 d := by rw [(l5 d (by omega)).2, si_j (by omega), si_ne (by decide)]
    refine ⟨pv_si (pv_si Z1 53 (d + 1) (nI (n + 1))) 54 d (wgF d (Zb.1 54 d) (FV (S.1 42 r) (S.1 44 6) (tw_meal (S.1 42 r) (S.1 43 r)) (m + 1) (d + 1) wj)), ?_, FZ_si F2 (Or.inr (Or.inr rfl)), ?_, si_jj, fun k hk => ?_, fun k hk => ⟨?_, ?_⟩⟩
    · rw [bX7_fright_119, nIs, e2m (by omega), if_c (id := inferInstance) (nIne (by omega) (by omega)), if_pos (by omega), bX7_fright_161, nIs, bX7_beginsStep_0, if_neg (gx (by omega) (by omega)), if_neg (gx (by omega) (by omega)), nIc (by omega), pv_cc_void, bX7_fright_169, e1, m_head T l1 (by omega) (j := n + 1) (by omega) (by rw [l2, ← nIs, Int32.add_sub_cancel]), if_neg (by omega), bX7_fright_91, nIm1, if_neg (nIn (by omega)), bX7_fright_98, nIs, if_neg (gx (by omega) (by omega)), nIc (by omega), m_weigh (by omega), pv_cc_void, bX7_fright_111, v54, l3, b54]
    · rw [si_ne (by decide), si_j (by omega), (l5 d (by omega)).1, si_ne (by decide), si_j (by omega)]
    · rw [si_ne (by decide), si_ne (by decide), l4 k (by omega), si_ne (by decide), si_ne (by decide)]
    · rw [si_ne (by decide), si_j (by omega), (l5 k (by omega)).1, si_ne (by decide), si_j (by omega)]
    · rw [si_j (by omega), v54, (l5 k (by omega)).2, si_j (by omega), si_ne (by decide)]
theorem x_rulerMeal (T : Tw S n c) (hr : r < n) (e : S.1 44 9 = nI r) : pv_R mX5_rulerMeal 0 [some (.ref 21)] [] (pv_em S) = some (some (.int (tw_meal (S.1 42 r) (S.1 43 r))), pv_em S) := by
  have hn := tw_n T
  rw [bX5_rulerMeal_0, tw_r T, e, x_isCat T, pv_cc_some, bX5_rulerMeal_8, bI_t (cat_in hr hn), if_neg (by decide), bX5_rulerMeal_11, tw_r T, e, x_mealAdds T hr, pv_cc_some, bX5_rulerMeal_19, bX5_rulerMeal_23, tw_kd T hr, tw_ap T hr]
def ftn (ml w : Int32) : Int32 := tw_held (tw_held (w + ml) - 5)
theorem FV_2 {kd h ml w : Int32} (e : d % 2 = 0) : FV kd h ml (m + 2) d w = FV kd h ml m (d + 2) (ftn ml w) := by
  show FV kd h ml m (d + 1 + 1) (fgm ml (d + 1) (fgm ml d w)) = _
  unfold fgm ftn
  rw [if_pos e, if_neg (by omega), Int32.sub_eq_add_neg]
theorem FV_nn {kd h ml w : Int32} (hnn : nn ≤ 2) : FV kd h ml (2 * nn) 0 w = tw_aft kd h (itf (fun _ w => ftn ml w) nn 0 w) 1 := by
  have : nn = 0 ∨ nn = 1 ∨ nn = 2 := by omega
  rcases this with rfl | rfl | rfl
  · rfl
  · exact FV_2 (m := 0) rfl
  · exact (FV_2 (m := 2) rfl).trans (FV_2 (m := 0) rfl)
theorem x_frL (T : Tw S n c) (hr : r < n) (e : S.1 44 9 = nI r) (hnn : nn ≤ 2) {a b : Option Value} : pv_R mX6_fright 24 [some (.ref 0), some (.int (nI nn)), a, b] [] (pv_em S) = some (some (.int (tw_aft (S.1 42 r) (S.1 44 6) (itf (fun _ w => ftn (tw_meal (S.1 42 r) (S.1 43 r)) w) nn 0 (S.1 44 r)) 1)), pv_em S) := by
  have hn := tw_n T
  have pd : tw_pd S n = S.1 44 r := by
    unfold tw_pd
    rw [if_neg (by omega), e, nIc (by omega)]
  rw [bX6_fright_24, x_pound T, pv_cc_some, bX6_fright_31, pd]
  refine itf_run (R := fun k (w : Int32) => pv_R mX6_fright 34 [some (.ref 0), some (.int (nI nn)), some (.int w), some (.int (nI k))] [] (pv_em S)) (f := fun _ w => ftn (tw_meal (S.1 42 r) (S.1 43 r)) w) (F := fun w => some (some (.int (tw_aft (S.1 42 r) (S.1 44 6) w 1)), pv_em S)) (N := nn) (fun k w h => ?_) (fun w => ?_) nn 0 (S.1 44 r) (by omega)
  · refine Eq.trans bX6_fright_34 ?_
    rw [if_neg (by rw [nIle (by omega) (by omega)]; omega), bX6_fright_39, x_rulerMeal T hr e, pv_cc_some, bX6_fright_47, x_held, pv_cc_some, bX6_fright_51, x_held, pv_cc_some, bX6_fright_58, nIs]
    rfl
  · refine Eq.trans bX6_fright_34 ?_
    rw [if_pos (Int32.le_refl _), bX6_fright_65, x_rulerKind T (by omega), pv_cc_some, bX6_fright_72, tw_h T, x_after (tw_hb T).1, pv_cc_some, bX6_fright_83, e, nIc (by omega)]
    show _ = some (some (Value.int (tw_held (w + tw_adds (S.1 42 r) (S.1 44 6 + nI 0)))), pv_em S)
    rw [show S.1 44 6 + nI 0 = S.1 44 6 from Int32.add_zero _]
theorem tq_fright (I : Inv S) (x : Int32) : pv_goI Inv S mX6_fright mX7_fright [.int x] := by
  obtain ⟨n, c, T⟩ := tw_of I
  have hn := tw_n T
  by_cases c1 : 0 ≤ x.toInt ∧ x.toInt ≤ 2
  · by_cases h0 : n = 0
    · have z7 : S.1 21 7 = 0 := by rw [tw_x7 T, h0]; rfl
      have z4 : S.1 37 4 = 0 := by rw [tw_m4 T, h0]; rfl
      refine ⟨-4, S, S, ?_, ?_, I⟩
      · show pv_R mX6_fright 0 [some (.ref 0), some (.int x), none, none] [] (pv_em S) = _
        rw [bX6_fright_0, x_within, i0, i2, pv_cc_some, bX6_fright_6, bI_t c1, if_pos (by decide), bX6_fright_11, z7, if_neg (fun z => z rfl), bX6_fright_21]
      · show pv_R mX7_fright 0 [some (.ref 37), some (.int x), none, none] [] (pv_em S) = _
        rw [bX7_fright_0, c_in, Int32.toInt_toInt64, j0, j2, pv_cc_some, bX7_fright_9, bI_t c1, if_pos (by decide), bX7_fright_14, z4, if_neg (fun z => z rfl), bX7_fright_21]
    · obtain ⟨nn, rfl, hnn'⟩ := nIex c1.1
      have hnn : nn ≤ 2 := by omega
      obtain ⟨r, hr, er⟩ := tw_rb T h0
      have n0 : ¬ nI n = 0 := nI0 hn h0
      have hw := tw_wb T hr
      have cls : pv_R mX6_fright 0 [some (.ref 0), some (.int (nI nn)), none, none] [] (pv_em S) = some (some (.int (tw_aft (S.1 42 r) (S.1 44 6) (itf (fun _ w => ftn (tw_meal (S.1 42 r) (S.1 43 r)) w) nn 0 (S.1 44 r)) 1)), pv_em S) := by
        rw [bX6_fright_0, x_within, i0, i2, pv_cc_some, bX6_fright_6, bI_t c1, if_pos (by decide), bX6_fright_11, tw_x7 T, if_pos n0, x_frL T hr er hnn]
      have mst : pv_R mX7_fright 0 [some (.ref 37), some (.int (nI nn)), none, none] [] (pv_em S) = if ¬ nI nn = 0 then pv_R mX7_fright 42 [some (.ref 37), some (.int (nI nn)), some (.int (nI r)), none] [] (pv_em S) else pv_R mX7_fright 36 [some (.ref 37), some (.int (nI nn)), some (.int (nI r)), none] [] (pv_em S) := by
        rw [bX7_fright_0, c_in, Int32.toInt_toInt64, j0, j2, pv_cc_some, bX7_fright_9, bI_t c1, if_pos (by decide), bX7_fright_14, tw_m4 T, if_pos n0, bX7_fright_24, show (9 : Int32).toNatClampNeg = 9 from by decide, er]
      by_cases z : nn = 0
      · subst z
        refine ⟨_, S, S, cls, ?_, I⟩
        refine Eq.trans mst ?_
        rw [if_neg (fun y => y rfl), bX7_fright_36, show (1 : Int32) = nI 1 from rfl, m_poundIn T h0 (by omega), pv_cc_some, bX7_fright_41]
        unfold tw_pa
        rw [er, nIc (by omega)]
        rfl
      · obtain ⟨Z1, e1, k1, k2, k3⟩ := cp_44_52 (S := S) (i := 0) (j := 0) (N := 6) (by omega) (by omega) (a := none)
        have F1 : FZ S Z1 := ⟨fun k q1 _ _ => k1 k q1, k2⟩
        have F2 : FZ S (pv_si (pv_si Z1 53 0 (-1)) 54 0 (-9)) := FZ_si (FZ_si F1 (Or.inr (Or.inl rfl))) (Or.inr (Or.inr rfl))
        obtain ⟨Z3, e3, l1, l2, l3, _, _⟩ := m_dfs (nn := nn) T hr hnn (2 * nn - 1) 0 (by omega) (pv_si (pv_si Z1 53 0 (-1)) 54 0 (-9)) (S.1 44 r) F2 (by rw [si_ne (by decide), si_jj]) si_jj (by rw [si_ne (by decide), si_ne (by decide), k3, if_pos (by omega)]; exact congrArg (S.1 44) (by omega)) hw
        have F4 : FZ S (pv_si Z3 53 0 (nI (n + 1))) := FZ_si l1 (Or.inr (Or.inl rfl))
        refine ⟨_, S, pv_si Z3 53 0 (nI (n + 1)), cls, ?_, Inv_scr (fun k _ _ _ _ _ hk => F4.1 k (by omega) (by omega) (by omega)) (fun j _ => by rw [F4.1 37 (by decide) (by decide) (by decide)]) F4.2 I⟩
        refine Eq.trans mst ?_
        have e1' : pv_R mX7_copies 0 [some (.ref 44), some (.int 0), some (.ref 52), some (.int 0), some (.int 6), none] [] (pv_em S) = _ := e1
        have e3' : pv_R mX7_fright 64 [some (.ref 37), some (.int (nI nn)), some (.int (nI r)), some (.int 0)] [] (pv_em (pv_si (pv_si Z1 53 0 (-1)) 54 0 (-9))) = _ := e3
        have bs : pv_R mX7_beginsStep 0 [some (.ref 37), some (.int 0)] [] (pv_em Z1) = some (none, pv_em (pv_si (pv_si Z1 53 0 (-1)) 54 0 (-9))) := by
          rw [show (0 : Int32) = nI 0 from rfl, bX7_beginsStep_0, if_neg (gx (by omega) (by omega)), if_neg (gx (by omega) (by omega)), nIc (by omega)]
        rw [if_c (id := inferInstance) (nIz (by omega)), if_pos z, bX7_fright_42, e1', pv_cc_void, bX7_fright_57, bs, pv_cc_void, bX7_fright_62, e3', m_head T l1 (by omega) (j := n + 1) (by omega) (by rw [l2, ← nIs, Int32.add_sub_cancel]), if_neg (by omega), bX7_fright_91, if_pos (by decide), bX7_fright_64, if_pos (by decide), bX7_fright_172, si_ne (by decide)]
        have e4 : Z3.1 54 (0 : Int32).toNatClampNeg = Z3.1 54 0 := rfl
        rw [e4, l3, show 2 * nn - 1 + 1 = 2 * nn from by omega, FV_nn hnn]
  · refine ⟨-1, S, S, ?_, ?_, I⟩
    · show pv_R mX6_fright 0 [some (.ref 0), some (.int x), none, none] [] (pv_em S) = _
      rw [bX6_fright_0, x_within, i0, i2, pv_cc_some, bX6_fright_6, bI_f c1, if_neg (fun z => z rfl), bX6_fright_9]
    · show pv_R mX7_fright 0 [some (.ref 37), some (.int x), none, none] [] (pv_em S) = _
      rw [bX7_fright_0, c_in, Int32.toInt_toInt64, j0, j2, pv_cc_some, bX7_fright_9, bI_f c1, if_neg (fun z => z rfl), bX7_fright_12]
end FT
