/-! ===== what each weighs: mark, weighs, when, meals ===== -/
theorem lpE {α X : Type} {R : Nat → α → X} {N : Nat} (P : Nat → α → Prop) (h : ∀ k a, k < N → P k a → ∃ a', R k a = R (k + 1) a' ∧ P (k + 1) a') : ∀ m k a, k + m = N → P k a → ∃ a', R k a = R N a' ∧ P N a'
  | 0, k, a, hk, hp => by
    have : k = N := by omega
    subst this
    exact ⟨a, rfl, hp⟩
  | m + 1, k, a, hk, hp => by
    obtain ⟨b, e1, hb⟩ := h k a (by omega) hp
    obtain ⟨d, e2, hd⟩ := lpE P h m (k + 1) b (by omega) hb
    exact ⟨d, e1.trans e2, hd⟩
/-- the outlook filled -/
def Ol (S S' : pv_S) (N : Nat) (g : Nat → Int32) : Prop := (∀ k, k ≠ 32 → k ≠ 33 → S'.1 k = S.1 k) ∧ S'.2 = S.2 ∧ S'.1 32 2 = nI N ∧ ∀ j, j ≤ N → S'.1 33 j = g j
section AH
variable {S S' : pv_S} {n c : Nat}
theorem Ol_Inv {N : Nat} {g : Nat → Int32} (O : Ol S S' N g) (I : Inv S) : Inv S' :=
  Inv_scr (fun k _ h1 h2 _ _ _ => O.1 k h1 h2) (fun j _ => by rw [O.1 37 (by decide) (by decide)]) O.2.1 I
theorem Ol_Tw {N : Nat} {g : Nat → Int32} (O : Ol S S' N g) (T : Tw S n c) : Tw S' n c :=
  Tw_congr (fun k hk => O.1 k (by omega) (by omega)) (by rw [O.1 37 (by decide) (by decide)]) (by rw [O.1 37 (by decide) (by decide)]) (by rw [O.1 37 (by decide) (by decide)]) T
theorem x_fill {kind w : Int32} {N h : Nat} (hN : N ≤ 60) (hh : h ≤ 1000) {a : Option Value} : ∃ S', pv_R mX1_fill 0 [some (.ref 32), some (.int kind), some (.int w), some (.int (nI h)), some (.int (nI N)), a] [] (pv_em S) = some (none, pv_em S') ∧ Ol S S' N (tw_aft kind (nI h) w) := by
  have i60' : (60 : Int32) = nI 60 := rfl
  have eN : (if 0 < (if 60 < nI N then 60 else nI N) then (if 60 < nI N then 60 else nI N) else 0 : Int32) = nI N := by
    rw [if_neg (c := 60 < nI N) (by rw [i60', nIlt (by omega) (by omega)]; omega)]
    by_cases q : 0 < nI N
    · rw [if_pos q]
    · rw [if_neg q]
      rw [show (0 : Int32) = nI 0 from rfl, nIlt (by omega) (by omega)] at q
      have : N = 0 := by omega
      rw [this]; rfl
  rw [bX1_fill_0, eN, show (0 : Int32).toNatClampNeg = 0 from by decide]
  obtain ⟨S', e, h1, h2, h3, h4⟩ := lpE (R := fun k (Z : pv_S) => pv_R mX1_fill 25 [some (.ref 32), some (.int kind), some (.int w), some (.int (nI h)), some (.int (nI N)), some (.int (nI k))] [] (pv_em Z)) (N := N) (fun k Z => (∀ k, k ≠ 32 → k ≠ 33 → Z.1 k = S.1 k) ∧ Z.2 = S.2 ∧ Z.1 32 2 = nI N ∧ ∀ j, j ≤ k → Z.1 33 j = tw_aft kind (nI h) w j) (fun k Z hk hP => by
    obtain ⟨h1, h2, h3, h4⟩ := hP
    refine ⟨pv_si Z 33 (k + 1) (tw_aft kind (nI h) w (k + 1)), ?_, fun q q1 q2 => by rw [si_ne q2]; exact h1 q q1 q2, h2, by rw [si_ne (by decide)]; exact h3, fun j hj => ?_⟩
    · refine Eq.trans bX1_fill_25 ?_
      rw [h3, if_neg (by rw [nIle (by omega) (by omega)]; omega), bX1_fill_34, if_neg (gx (by omega) (by omega)), nIc (by omega), h4 k (Nat.le_refl k), x_after (by rw [nIadd, nIt (by omega)]; omega), pv_cc_some, bX1_fill_57, nIs, if_neg (gx (by omega) (by omega)), nIc (by omega)]
      rfl
    · rw [si_eq]
      by_cases q : j = k + 1
      · rw [q, upd_eq]
      · rw [upd_ne q]
        exact h4 j (by omega)) N 0 (pv_si (pv_si S 32 2 (nI N)) 33 0 w) (by omega) ⟨fun q q1 q2 => by rw [si_ne q2, si_ne q1], rfl, by rw [si_ne (by decide), si_eq, upd_eq], fun j hj => by
      have : j = 0 := by omega
      subst this
      rw [si_eq, upd_eq]; rfl⟩
  refine ⟨S', Eq.trans e ?_, h1, h2, h3, h4⟩
  show pv_R mX1_fill 25 _ _ _ = _
  rw [bX1_fill_25, h3, if_pos (Int32.le_refl _), bX1_fill_64]
theorem x_weightIn {N k : Nat} (hN : N ≤ 60) (hk : k ≤ N) (h : S.1 32 2 = nI N) : pv_R mX1_weightIn 0 [some (.ref 32), some (.int (nI k))] [] (pv_em S) = some (some (.int (S.1 33 k)), pv_em S) := by
  rw [bX1_weightIn_0, if_neg (by rw [show (0 : Int32) = nI 0 from rfl, nIlt (by omega) (by omega)]; omega), bX1_weightIn_4, h, if_neg (by rw [nIlt (by omega) (by omega)]; omega), bX1_weightIn_12, if_neg (gx (by omega) (by omega)), nIc (by omega), bX1_weightIn_22]
theorem x_lookAhead (T : Tw S n c) {i N : Nat} (hi : i < n) (hN : N ≤ 60) : ∃ S', pv_R mX6_lookAhead 0 [some (.ref 0), some (.int (nI i)), some (.int (nI N))] [] (pv_em S) = some (none, pv_em S') ∧ Ol S S' N (tw_aft (S.1 42 i) (S.1 44 6) (S.1 44 i)) := by
  have := tw_n T
  obtain ⟨h, e, hh⟩ := tw_hN T
  obtain ⟨S', e1, O⟩ := x_fill (S := S) (kind := S.1 42 i) (w := S.1 44 i) (N := N) (h := h) hN (by omega) (a := none)
  refine ⟨S', ?_, by rw [e]; exact O⟩
  rw [bX6_lookAhead_0, if_neg (gx (by omega) (by omega)), if_neg (gx (by omega) (by omega)), nIc (by omega), ← tw_kd T hi, tw_w T hi, tw_h T, e, e1, pv_cc_void, bX6_lookAhead_33]
theorem m_afterI (T : Tw S n c) {i N : Nat} (hi : i < n) (hN : N ≤ 60) : pv_R mX7_afterOf 0 [some (.ref 37), some (.int (nI i)), some (.int (nI N))] [] (pv_em S) = some (some (.int (tw_aft (S.1 42 i) (S.1 44 6) (S.1 44 i) N)), pv_em S) := by
  have := tw_n T
  have hh := tw_hb T
  rw [m_afterOf (by rw [nIt (by omega)]; omega) (by rw [nIt (by omega)]; omega) (by omega) hh.1 (by omega), nIc (by omega)]
theorem j60 : (60 : Int64).toInt = 60 := by decide
theorem j20 : (20 : Int64).toInt = 20 := by decide
theorem j200 : (200 : Int64).toInt = 200 := by decide
theorem j9 : (9 : Int64).toInt = 9 := by decide
theorem i9 : (9 : Int32).toInt = 9 := by decide
theorem tq_weighs (I : Inv S) (i w : Int32) : pv_goI Inv S mX6_weighs mX7_weighs [.int i, .int w] := by
  obtain ⟨n, c, T⟩ := tw_of I
  by_cases hi : 0 ≤ i.toInt ∧ i.toInt < (n : Int)
  · by_cases hw : 0 ≤ w.toInt ∧ w.toInt ≤ 60
    · obtain ⟨k, e, hk⟩ := nIex hw.1
      obtain ⟨p, e2, hp⟩ := nIex hi.1
      subst e; subst e2
      obtain ⟨S', e1, O⟩ := x_lookAhead T (i := p) (N := k) (by omega) (by omega)
      have T' := Ol_Tw O T
      refine ⟨tw_aft (S.1 42 p) (S.1 44 6) (S.1 44 p) k, S', S', ?_, ?_, Ol_Inv O I⟩
      · show pv_R mX6_weighs 0 [some (.ref 0), some (.int (nI p)), some (.int (nI k))] [] (pv_em S) = _
        simp only [bX6_weighs_0, bX6_weighs_8, bX6_weighs_11, bX6_weighs_18, bX6_weighs_21, bX6_weighs_23, bX6_weighs_29, bX6_weighs_37, x_isCat T, x_within, pv_cc_some, pv_cc_void, bI_0, i0, i60, hi, hw, e1, x_weightIn (S := S') (N := k) (k := k) (by omega) (by omega) O.2.2.1, O.2.2.2 k (Nat.le_refl k), and_self, not_true_eq_false, not_false_eq_true, if_true, if_false]
      · show pv_R mX7_weighs 0 [some (.ref 37), some (.int (nI p)), some (.int (nI k))] [] (pv_em S') = _
        simp only [bX7_weighs_0, bX7_weighs_5, bX7_weighs_8, bX7_weighs_17, bX7_weighs_20, bX7_weighs_26, bX7_weighs_29, bX7_weighs_30, m_isCat T', c_in, pv_cc_some, bI_0, j0, j60, Int32.toInt_toInt64, hi, hw, m_afterI T' (i := p) (N := k) (by omega) (by omega), O.1 42 (by decide) (by decide), O.1 44 (by decide) (by decide), and_self, not_true_eq_false, not_false_eq_true, if_true, if_false]
    · refine ⟨-1, S, S, ?_, ?_, I⟩
      · show pv_R mX6_weighs 0 [some (.ref 0), some (.int i), some (.int w)] [] (pv_em S) = _
        simp only [bX6_weighs_0, bX6_weighs_8, bX6_weighs_11, bX6_weighs_18, bX6_weighs_21, bX6_weighs_23, bX6_weighs_29, bX6_weighs_37, x_isCat T, x_within, pv_cc_some, bI_0, i0, i60, hi, hw, and_self, not_true_eq_false, not_false_eq_true, if_true, if_false]
      · show pv_R mX7_weighs 0 [some (.ref 37), some (.int i), some (.int w)] [] (pv_em S) = _
        simp only [bX7_weighs_0, bX7_weighs_5, bX7_weighs_8, bX7_weighs_17, bX7_weighs_20, bX7_weighs_26, bX7_weighs_29, bX7_weighs_30, m_isCat T, c_in, pv_cc_some, bI_0, j0, j60, Int32.toInt_toInt64, hi, hw, and_self, not_true_eq_false, not_false_eq_true, if_true, if_false]
  · refine ⟨-1, S, S, ?_, ?_, I⟩
    · show pv_R mX6_weighs 0 [some (.ref 0), some (.int i), some (.int w)] [] (pv_em S) = _
      simp only [bX6_weighs_0, bX6_weighs_8, bX6_weighs_11, bX6_weighs_18, bX6_weighs_21, bX6_weighs_23, bX6_weighs_29, bX6_weighs_37, x_isCat T, pv_cc_some, bI_0, hi, not_false_eq_true, if_true]
    · show pv_R mX7_weighs 0 [some (.ref 37), some (.int i), some (.int w)] [] (pv_em S) = _
      simp only [bX7_weighs_0, bX7_weighs_5, bX7_weighs_8, bX7_weighs_17, bX7_weighs_20, bX7_weighs_26, bX7_weighs_29, bX7_weighs_30, m_isCat T, pv_cc_some, bI_0, hi, not_false_eq_true, if_true]
theorem x_first {N : Nat} {v : Int32} (hN : N ≤ 60) (h : S.1 32 2 = nI N) {a : Option Value} : pv_R mX1_firstWith 0 [some (.ref 32), some (.int v), a] [] (pv_em S) = some (some (.int (fsh (fun k => S.1 33 k = v) nI (-9) (N + 1) 0)), pv_em S) := by
  rw [bX1_firstWith_0]
  refine fsh_run (R := fun k => pv_R mX1_firstWith 2 [some (.ref 32), some (.int v), some (.int (nI k))] [] (pv_em S)) (F := fun a => some (some (.int a), pv_em S)) (N := N + 1) (fun k hk => ?_) ?_ (N + 1) 0 (by omega)
  · refine Eq.trans bX1_firstWith_2 ?_
    rw [h, if_neg (by rw [nIlt (by omega) (by omega)]; omega), bX1_firstWith_10, if_neg (gx (by omega) (by omega)), nIc (by omega)]
    by_cases q : S.1 33 k = v
    · rw [if_neg (fun z => z q), if_pos q, bX1_firstWith_20]
    · rw [if_pos q, if_neg q, bX1_firstWith_22, nIs]
  · show pv_R mX1_firstWith 2 _ _ _ = _
    rw [bX1_firstWith_2, h, if_pos (by rw [nIlt (by omega) (by omega)]; omega), bX1_firstWith_28]
theorem m_when (T : Tw S n c) {i : Nat} {v : Int32} (hi : i < n) : pv_R mX7_when 24 [some (.ref 37), some (.int (nI i)), some (.int v), some (.int 0)] [] (pv_em S) = some (some (.int (fsh (fun k => tw_aft (S.1 42 i) (S.1 44 6) (S.1 44 i) k = v) nI (-9) 61 0)), pv_em S) := by
  refine fsh_run (R := fun k => pv_R mX7_when 24 [some (.ref 37), some (.int (nI i)), some (.int v), some (.int (nI k))] [] (pv_em S)) (F := fun a => some (some (.int a), pv_em S)) (N := 61) (fun k hk => ?_) ?_ 61 0 (by omega)
  · refine Eq.trans bX7_when_24 ?_
    rw [show (61 : Int32) = nI 61 from rfl, if_neg (by rw [nIle (by omega) (by omega)]; omega), bX7_when_30, m_afterI T hi (by omega), pv_cc_some, bX7_when_36]
    by_cases q : tw_aft (S.1 42 i) (S.1 44 6) (S.1 44 i) k = v
    · rw [if_neg (fun z => z q), if_pos q, bX7_when_40]
    · rw [if_pos q, if_neg q, bX7_when_42, nIs]
  · show pv_R mX7_when 24 _ _ _ = _
    rw [bX7_when_24, if_pos (show (61 : Int32) ≤ nI 61 from by decide), bX7_when_48]
theorem fsh_congr {β : Type} {p q : Nat → Prop} [DecidablePred p] [DecidablePred q] {a : Nat → β} {e : β} : ∀ m k, (∀ j, k ≤ j → j < k + m → (p j ↔ q j)) → fsh p a e m k = fsh q a e m k
  | 0, _, _ => rfl
  | m + 1, k, h => by
    show (if p k then a k else fsh p a e m (k + 1)) = (if q k then a k else fsh q a e m (k + 1))
    rw [fsh_congr m (k + 1) fun j h1 h2 => h j (by omega) (by omega)]
    have := h k (by omega) (by omega)
    by_cases z : p k
    · rw [if_pos z, if_pos (this.mp z)]
    · rw [if_neg z, if_neg (fun y => z (this.mpr y))]
theorem tq_when (I : Inv S) (i v : Int32) : pv_goI Inv S mX6_when mX7_when [.int i, .int v] := by
  obtain ⟨n, c, T⟩ := tw_of I
  by_cases hi : 0 ≤ i.toInt ∧ i.toInt < (n : Int)
  · by_cases hw : 1 ≤ v.toInt ∧ v.toInt ≤ 200
    · obtain ⟨p, e2, hp⟩ := nIex hi.1
      subst e2
      obtain ⟨S', e1, O⟩ := x_lookAhead T (i := p) (N := 60) (by omega) (by omega)
      have T' := Ol_Tw O T
      refine ⟨fsh (fun k => tw_aft (S.1 42 p) (S.1 44 6) (S.1 44 p) k = v) nI (-9) 61 0, S', S', ?_, ?_, Ol_Inv O I⟩
      · show pv_R mX6_when 0 [some (.ref 0), some (.int (nI p)), some (.int v)] [] (pv_em S) = _
        rw [← fsh_congr (p := fun k => S'.1 33 k = v) 61 0 (fun j _ hj => by rw [O.2.2.2 j (by omega)])]
        simp only [bX6_when_0, bX6_when_8, bX6_when_11, bX6_when_19, bX6_when_22, bX6_when_24, bX6_when_31, bX6_when_39, x_isCat T, x_within, pv_cc_some, pv_cc_void, bI_0, i1, i200, hi, hw, show (60 : Int32) = nI 60 from rfl, e1, x_first (S := S') (N := 60) (by omega) O.2.2.1, and_self, not_true_eq_false, not_false_eq_true, if_true, if_false]
      · show pv_R mX7_when 0 [some (.ref 37), some (.int (nI p)), some (.int v), none] [] (pv_em S') = _
        simp only [bX7_when_0, bX7_when_5, bX7_when_8, bX7_when_17, bX7_when_20, bX7_when_22, bX7_when_30, bX7_when_36, bX7_when_40, bX7_when_42, bX7_when_48, m_isCat T', c_in, pv_cc_some, bI_0, j1, j200, Int32.toInt_toInt64, hi, hw, m_when T' (i := p) (by omega), O.1 42 (by decide) (by decide), O.1 44 (by decide) (by decide), and_self, not_true_eq_false, not_false_eq_true, if_true, if_false]
    · refine ⟨-1, S, S, ?_, ?_, I⟩
      · show pv_R mX6_when 0 [some (.ref 0), some (.int i), some (.int v)] [] (pv_em S) = _
        simp only [bX6_when_0, bX6_when_8, bX6_when_11, bX6_when_19, bX6_when_22, bX6_when_24, bX6_when_31, bX6_when_39, x_isCat T, x_within, pv_cc_some, bI_0, i1, i200, hi, hw, and_self, not_true_eq_false, not_false_eq_true, if_true, if_false]
      · show pv_R mX7_when 0 [some (.ref 37), some (.int i), some (.int v), none] [] (pv_em S) = _
        simp only [bX7_when_0, bX7_when_5, bX7_when_8, bX7_when_17, bX7_when_20, bX7_when_22, bX7_when_30, bX7_when_36, bX7_when_40, bX7_when_42, bX7_when_48, m_isCat T, c_in, pv_cc_some, bI_0, j1, j200, Int32.toInt_toInt64, hi, hw, and_self, not_true_eq_false, not_false_eq_true, if_true, if_false]
  · refine ⟨-1, S, S, ?_, ?_, I⟩
    · show pv_R mX6_when 0 [some (.ref 0), some (.int i), some (.int v)] [] (pv_em S) = _
      simp only [bX6_when_0, bX6_when_8, bX6_when_11, bX6_when_19, bX6_when_22, bX6_when_24, bX6_when_31, bX6_when_39, x_isCat T, pv_cc_some, bI_0, hi, not_false_eq_true, if_true]
    · show pv_R mX7_when 0 [some (.ref 37), some (.int i), some (.int v), none] [] (pv_em S) = _
      simp only [bX7_when_0, bX7_when_5, bX7_when_8, bX7_when_17, bX7_when_20, bX7_when_22, bX7_when_30, bX7_when_36, bX7_when_40, bX7_when_42, bX7_when_48, m_isCat T, pv_cc_some, bI_0, hi, not_false_eq_true, if_true]
/-- the fewest meals -/
def tw_ml (kd ap h v : Int32) (N : Nat) : Nat → Nat → Int32 → Int32
  | 0, _, _ => -9
  | m + 1, k, w => if tw_aft kd h w N < v then tw_ml kd ap h v N m (k + 1) (tw_held (w + tw_meal kd ap)) else nI k
theorem x_mloop {i N : Nat} {v : Int32} (hi : i < n) (hN : N ≤ 20) : ∀ m k (S : pv_S) (w : Int32), k + m = 21 → Tw S n c → ∃ S', pv_R mX6_meals 48 [some (.ref 0), some (.int (nI i)), some (.int v), some (.int (nI N)), some (.int w), some (.int (nI k))] [] (pv_em S) = some (some (.int (tw_ml (S.1 42 i) (S.1 43 i) (S.1 44 6) v N m k w)), pv_em S') ∧ (∀ k, k ≠ 32 → k ≠ 33 → S'.1 k = S.1 k) ∧ S'.2 = S.2
  | 0, k, S, w, hk, T => by
    refine ⟨S, ?_, fun _ _ _ => rfl, rfl⟩
    rw [bX6_meals_48, show (20 : Int32) = nI 20 from rfl, if_pos (by rw [nIlt (by omega) (by omega)]; omega), bX6_meals_118]; rfl
  | m + 1, k, S, w, hk, T => by
    have hn := tw_n T
    obtain ⟨h, e, hh⟩ := tw_hN T
    obtain ⟨S1, e1, O⟩ := x_fill (S := S) (kind := S.1 42 i) (w := w) (N := N) (h := h) (by omega) (by omega) (a := none)
    have T1 := Ol_Tw O T
    rw [bX6_meals_48, show (20 : Int32) = nI 20 from rfl, if_neg (by rw [nIlt (by omega) (by omega)]; omega), bX6_meals_55, if_neg (gx (by omega) (by omega)), nIc (by omega), ← tw_kd T hi, tw_h T, e, e1, pv_cc_void, bX6_meals_81, x_weightIn (S := S1) (N := N) (k := N) (by omega) (by omega) O.2.2.1, pv_cc_some, bX6_meals_89, O.2.2.2 N (Nat.le_refl N)]
    by_cases q : tw_aft (S.1 42 i) (nI h) w N < v
    · obtain ⟨S', e2, g1, g2⟩ := x_mloop hi hN m (k + 1) S1 (tw_held (w + tw_meal (S.1 42 i) (S.1 43 i))) (by omega) T1
      refine ⟨S', ?_, fun z z1 z2 => by rw [g1 z z1 z2, O.1 z z1 z2], by rw [g2, O.2.1]⟩
      rw [O.1 42 (by decide) (by decide), O.1 43 (by decide) (by decide), O.1 44 (by decide) (by decide), e] at e2
      rw [if_pos q, bX6_meals_96, x_mealAdds T1 hi, pv_cc_some, bX6_meals_106, x_held, pv_cc_some, bX6_meals_110, nIs, O.1 22 (by decide) (by decide), O.1 23 (by decide) (by decide), ← tw_kd T hi, ← tw_ap T hi, e2]
      show _ = some (some (Value.int (if _ < v then _ else _)), _)
      rw [if_pos q]
    · refine ⟨S1, ?_, O.1, O.2.1⟩
      rw [if_neg q, bX6_meals_93]
      show _ = some (some (Value.int (if _ < v then _ else _)), _)
      rw [if_neg q]
theorem m_mloop {i N : Nat} {v : Int32} (hi : i < n) (hN : N ≤ 20) (T : Tw S n c) : ∀ m k (w : Int32), k + m = 21 → pv_R mX7_meals 47 [some (.ref 37), some (.int (nI i)), some (.int v), some (.int (nI N)), some (.int w), some (.int (nI k))] [] (pv_em S) = some (some (.int (tw_ml (S.1 42 i) (S.1 43 i) (S.1 44 6) v N m k w)), pv_em S)
  | 0, k, w, hk => by
    rw [bX7_meals_47, show (21 : Int32) = nI 21 from rfl, if_pos (by rw [nIle (by omega) (by omega)]; omega), bX7_meals_103]; rfl
  | m + 1, k, w, hk => by
    have hn := tw_n T
    have hh := tw_hb T
    rw [bX7_meals_47, show (21 : Int32) = nI 21 from rfl, if_neg (by rw [nIle (by omega) (by omega)]; omega), bX7_meals_54, if_neg (gx (by omega) (by omega)), nIc (by omega), m_after (by omega) hh.1 (by omega), pv_cc_some, bX7_meals_67]
    show _ = some (some (Value.int (if _ < v then _ else _)), _)
    by_cases q : tw_aft (S.1 42 i) (S.1 44 6) w N < v
    · rw [if_pos q, if_pos q, bX7_meals_74, if_neg (gx (by omega) (by omega)), if_neg (gx (by omega) (by omega)), nIc (by omega), m_meal, pv_cc_some, bX7_meals_91, m_bound, pv_cc_some, bX7_meals_95, nIs, m_mloop hi hN T m (k + 1) _ (by omega)]
    · rw [if_neg q, if_neg q, bX7_meals_71]
theorem tq_meals (I : Inv S) (i v w : Int32) : pv_goI Inv S mX6_meals mX7_meals [.int i, .int v, .int w] := by
  obtain ⟨n, c, T⟩ := tw_of I
  by_cases hi : 0 ≤ i.toInt ∧ i.toInt < (n : Int)
  · by_cases hv : 1 ≤ v.toInt ∧ v.toInt ≤ 200
    · by_cases hw : 0 ≤ w.toInt ∧ w.toInt ≤ 20
      · obtain ⟨p, e2, hp⟩ := nIex hi.1
        obtain ⟨k, e, hk⟩ := nIex hw.1
        subst e2; subst e
        have hn := tw_n T
        obtain ⟨S', e1, g1, g2⟩ := x_mloop (n := n) (c := c) (i := p) (N := k) (v := v) (by omega) (by omega) 21 0 S (S.1 25 p) (by omega) T
        have T' : Tw S' n c := Tw_congr (fun k hk => g1 k (by omega) (by omega)) (by rw [g1 37 (by decide) (by decide)]) (by rw [g1 37 (by decide) (by decide)]) (by rw [g1 37 (by decide) (by decide)]) T
        refine ⟨tw_ml (S.1 42 p) (S.1 43 p) (S.1 44 6) v k 21 0 (S.1 44 p), S', S', ?_, ?_, Inv_scr (fun k _ h1 h2 _ _ _ => g1 k h1 h2) (fun j _ => by rw [g1 37 (by decide) (by decide)]) g2 I⟩
        · show pv_R mX6_meals 0 [some (.ref 0), some (.int (nI p)), some (.int v), some (.int (nI k)), none, none] [] (pv_em S) = _
          rw [show nI 0 = 0 from rfl, tw_w T (by omega)] at e1
          simp only [bX6_meals_0, bX6_meals_8, bX6_meals_11, bX6_meals_19, bX6_meals_22, bX6_meals_29, bX6_meals_32, bX6_meals_34, bX6_meals_55, bX6_meals_81, bX6_meals_89, bX6_meals_93, bX6_meals_96, bX6_meals_106, bX6_meals_110, bX6_meals_118, x_isCat T, x_within, pv_cc_some, pv_cc_void, bI_0, i0, i1, i20, i200, hi, hv, hw, kx (k := p) (N := 6) (by omega) (by omega), nIc (i := p) (by omega), tw_w T (i := p) (by omega), e1, and_self, not_true_eq_false, not_false_eq_true, if_true, if_false]
        · show pv_R mX7_meals 0 [some (.ref 37), some (.int (nI p)), some (.int v), some (.int (nI k)), none, none] [] (pv_em S') = _
          have e3 := m_mloop (i := p) (N := k) (v := v) (by omega) (by omega) T' 21 0 (S'.1 44 p) (by omega)
          rw [show nI 0 = 0 from rfl, g1 42 (by decide) (by decide), g1 43 (by decide) (by decide), g1 44 (by decide) (by decide)] at e3
          simp only [bX7_meals_0, bX7_meals_5, bX7_meals_8, bX7_meals_17, bX7_meals_20, bX7_meals_29, bX7_meals_32, bX7_meals_34, bX7_meals_54, bX7_meals_67, bX7_meals_71, bX7_meals_74, bX7_meals_91, bX7_meals_95, bX7_meals_103, m_isCat T', c_in, pv_cc_some, bI_0, j0, j1, j20, j200, Int32.toInt_toInt64, Int32.zero_add, hi, hv, hw, kx (k := p) (N := 10) (by omega) (by omega), nIc (i := p) (by omega), g1 44 (by decide) (by decide), e3, and_self, not_true_eq_false, not_false_eq_true, if_true, if_false]
      · refine ⟨-1, S, S, ?_, ?_, I⟩
        · show pv_R mX6_meals 0 [some (.ref 0), some (.int i), some (.int v), some (.int w), none, none] [] (pv_em S) = _
          simp only [bX6_meals_0, bX6_meals_8, bX6_meals_11, bX6_meals_19, bX6_meals_22, bX6_meals_29, bX6_meals_32, bX6_meals_34, bX6_meals_55, bX6_meals_81, bX6_meals_89, bX6_meals_93, bX6_meals_96, bX6_meals_106, bX6_meals_110, bX6_meals_118, x_isCat T, x_within, pv_cc_some, bI_0, i0, i1, i20, i200, hi, hv, hw, and_self, not_true_eq_false, not_false_eq_true, if_true, if_false]
        · show pv_R mX7_meals 0 [some (.ref 37), some (.int i), some (.int v), some (.int w), none, none] [] (pv_em S) = _
          simp only [bX7_meals_0, bX7_meals_5, bX7_meals_8, bX7_meals_17, bX7_meals_20, bX7_meals_29, bX7_meals_32, bX7_meals_34, bX7_meals_54, bX7_meals_67, bX7_meals_71, bX7_meals_74, bX7_meals_91, bX7_meals_95, bX7_meals_103, m_isCat T, c_in, pv_cc_some, bI_0, j0, j1, j20, j200, Int32.toInt_toInt64, hi, hv, hw, and_self, not_true_eq_false, not_false_eq_true, if_true, if_false]
    · refine ⟨-1, S, S, ?_, ?_, I⟩
      · show pv_R mX6_meals 0 [some (.ref 0), some (.int i), some (.int v), some (.int w), none, none] [] (pv_em S) = _
        simp only [bX6_meals_0, bX6_meals_8, bX6_meals_11, bX6_meals_19, bX6_meals_22, bX6_meals_29, bX6_meals_32, bX6_meals_34, bX6_meals_55, bX6_meals_81, bX6_meals_89, bX6_meals_93, bX6_meals_96, bX6_meals_106, bX6_meals_110, bX6_meals_118, x_isCat T, x_within, pv_cc_some, bI_0, i1, i200, hi, hv, and_self, not_true_eq_false, not_false_eq_true, if_true, if_false]
      · show pv_R mX7_meals 0 [some (.ref 37), some (.int i), some (.int v), some (.int w), none, none] [] (pv_em S) = _
        simp only [bX7_meals_0, bX7_meals_5, bX7_meals_8, bX7_meals_17, bX7_meals_20, bX7_meals_29, bX7_meals_32, bX7_meals_34, bX7_meals_54, bX7_meals_67, bX7_meals_71, bX7_meals_74, bX7_meals_91, bX7_meals_95, bX7_meals_103, m_isCat T, c_in, pv_cc_some, bI_0, j1, j200, Int32.toInt_toInt64, hi, hv, and_self, not_true_eq_false, not_false_eq_true, if_true, if_false]
  · refine ⟨-1, S, S, ?_, ?_, I⟩
    · show pv_R mX6_meals 0 [some (.ref 0), some (.int i), some (.int v), some (.int w), none, none] [] (pv_em S) = _
      simp only [bX6_meals_0, bX6_meals_8, bX6_meals_11, bX6_meals_19, bX6_meals_22, bX6_meals_29, bX6_meals_32, bX6_meals_34, bX6_meals_55, bX6_meals_81, bX6_meals_89, bX6_meals_93, bX6_meals_96, bX6_meals_106, bX6_meals_110, bX6_meals_118, x_isCat T, pv_cc_some, bI_0, hi, not_false_eq_true, if_true]
    · show pv_R mX7_meals 0 [some (.ref 37), some (.int i), some (.int v), some (.int w), none, none] [] (pv_em S) = _
      simp only [bX7_meals_0, bX7_meals_5, bX7_meals_8, bX7_meals_17, bX7_meals_20, bX7_meals_29, bX7_meals_32, bX7_meals_34, bX7_meals_54, bX7_meals_67, bX7_meals_71, bX7_meals_74, bX7_meals_91, bX7_meals_95, bX7_meals_103, m_isCat T, pv_cc_some, bI_0, hi, not_false_eq_true, if_true]
end AH
