/-! ===== counts; cat, mark, count ===== -/
def itf {α : Type} (f : Nat → α → α) : Nat → Nat → α → α
  | 0, _, a => a
  | m + 1, k, a => itf f m (k + 1) (f k a)
theorem itf_runP {α X : Type} {R : Nat → α → X} {f : Nat → α → α} {F : α → X} {P : Nat → α → Prop} {N : Nat} (h : ∀ k a, k < N → P k a → R k a = R (k + 1) (f k a) ∧ P (k + 1) (f k a)) (he : ∀ a, P N a → R N a = F a) : ∀ m k a, k + m = N → P k a → R k a = F (itf f m k a)
  | 0, k, a, hk, hp => by
    have : k = N := by omega
    subst this
    exact he a hp
  | m + 1, k, a, hk, hp => (h k a (by omega) hp).1.trans (itf_runP h he m (k + 1) (f k a) (by omega) (h k a (by omega) hp).2)
theorem itf_run {α X : Type} {R : Nat → α → X} {f : Nat → α → α} {F : α → X} {N : Nat} (h : ∀ k a, k < N → R k a = R (k + 1) (f k a)) (he : ∀ a, R N a = F a) : ∀ m k a, k + m = N → R k a = F (itf f m k a) := fun m k a hk => itf_runP (P := fun _ _ => True) (fun k a hk _ => ⟨h k a hk, trivial⟩) (fun a _ => he a) m k a hk trivial
theorem itf_congr {α : Type} {f g : Nat → α → α} : ∀ m k a, (∀ j a, k ≤ j → j < k + m → f j a = g j a) → itf f m k a = itf g m k a
  | 0, _, _, _ => rfl
  | m + 1, k, a, h => by
    show itf f m (k + 1) (f k a) = itf g m (k + 1) (g k a)
    rw [h k a (by omega) (by omega)]
    exact itf_congr m (k + 1) (g k a) fun j b h1 h2 => h j b (by omega) (by omega)
/-- how many, as the machine counts -/
def cn (p : Nat → Prop) [DecidablePred p] (m : Nat) : Int32 := itf (fun k (a : Int32) => if p k then a + 1 else a) m 0 0
theorem cn_congr {p q : Nat → Prop} [DecidablePred p] [DecidablePred q] {m : Nat} (h : ∀ k, k < m → (p k ↔ q k)) : cn p m = cn q m := by
  refine itf_congr m 0 0 fun j a _ hj => ?_
  have := h j (by omega)
  by_cases e : p j
  · simp only [e, this.mp e, if_true]
  · have e2 : ¬ q j := fun z => e (this.mpr z)
    simp only [e, e2, if_false]
/-- a kind that is of another -/
abbrev ko (own kind : Int32) : Prop := own = kind ∨ (kind = 1 ∧ own = 4) ∨ (kind = 3 ∧ own = 5)
section CT
variable {S : pv_S} {n c : Nat}
theorem x_isOf {a b : Int32} (hb : ¬ b = 0) : pv_R mX0_isOf 0 [some (.int a), some (.int b)] [] (pv_em S) = some (some (.int (bI (ko a b))), pv_em S) := by
  simp only [bX0_isOf_0, bX0_isOf_5, bX0_isOf_9, bX0_isOf_14, bX0_isOf_19, bX0_isOf_24, bX0_isOf_29, bX0_isOf_33, bX0_isOf_34, vn0, vn1, if_true, hb, if_false]
  by_cases h : ko a b
  · rw [bI_t h]
    rcases h with h | ⟨h1, h2⟩ | ⟨h1, h2⟩
    · rw [if_pos h]
    · subst h1; subst h2; rfl
    · subst h1; subst h2; rfl
  · rw [bI_f h]
    have h1 : ¬ a = b := fun q => h (Or.inl q)
    rw [if_neg h1]
    by_cases h4 : a = 4
    · have hb1 : ¬ b = 1 := fun q => h (Or.inr (Or.inl ⟨q, h4⟩))
      have h5 : ¬ a = 5 := by rw [h4]; decide
      simp only [h4, hb1, not_true_eq_false, if_false]
      rfl
    · by_cases h5 : a = 5
      · have hb1 : ¬ b = 3 := fun q => h (Or.inr (Or.inr ⟨q, h5⟩))
        simp only [h5, hb1, not_true_eq_false, not_false_eq_true, if_true, if_false]
        rfl
      · simp only [h4, h5, not_false_eq_true, if_true]
theorem m_isOf {a b : Int32} : pv_R mX7_isOf 0 [some (.int a), some (.int b)] [] (pv_em S) = some (some (.int (bI (ko a b))), pv_em S) := by
  simp only [bX7_isOf_0, bX7_isOf_5, bX7_isOf_10, bX7_isOf_15, bX7_isOf_20, bX7_isOf_25, bX7_isOf_29, bX7_isOf_30, vn0, vn1, if_true]
  by_cases h : ko a b
  · rw [bI_t h]
    rcases h with h | ⟨h1, h2⟩ | ⟨h1, h2⟩
    · rw [if_pos h]
    · subst h1; subst h2; rfl
    · subst h1; subst h2; rfl
  · rw [bI_f h]
    have h1 : ¬ a = b := fun q => h (Or.inl q)
    rw [if_neg h1]
    by_cases h4 : b = 1
    · have hb1 : ¬ a = 4 := fun q => h (Or.inr (Or.inl ⟨h4, q⟩))
      simp only [h4, hb1, not_true_eq_false, if_false]
      rfl
    · by_cases h5 : b = 3
      · have hb1 : ¬ a = 5 := fun q => h (Or.inr (Or.inr ⟨h5, q⟩))
        simp only [h5, hb1, not_true_eq_false, not_false_eq_true, if_true, if_false]
        rfl
      · simp only [h4, h5, not_false_eq_true, if_true]
theorem x_countOf (T : Tw S n c) {kd : Int32} (hk : ¬ kd = 0) {a b : Option Value} : pv_R mX5_countOf 0 [some (.ref 21), some (.int kd), a, b] [] (pv_em S) = some (some (.int (cn (fun i => ko (S.1 42 i) kd) n)), pv_em S) := by
  have := tw_n T
  rw [bX5_countOf_0]
  refine itf_run (R := fun k (a : Int32) => pv_R mX5_countOf 4 [some (.ref 21), some (.int kd), some (.int a), some (.int (nI k))] [] (pv_em S)) (F := fun a => some (some (.int a), pv_em S)) (N := n) (fun k a h => ?_) (fun a => ?_) n 0 0 (by omega)
  · refine Eq.trans bX5_countOf_4 ?_
    dsimp only
    rw [tw_x7 T, if_neg (by rw [nIle (by omega) (by omega)]; omega), bX5_countOf_12, if_neg (gx (by omega) (by omega)), nIc (by omega), x_isOf hk, pv_cc_some, bX5_countOf_22, ← tw_kd T h]
    by_cases q : ko (S.1 42 k) kd
    · rw [bI_t q, if_neg (by decide), bX5_countOf_25, bX5_countOf_28, nIs, if_pos q]
    · rw [bI_f q, if_pos rfl, bX5_countOf_28, nIs, if_neg q]
  · show pv_R mX5_countOf 4 _ _ _ = _
    rw [bX5_countOf_4, tw_x7 T, if_pos (Int32.le_refl _), bX5_countOf_34]
theorem m_kindsOf (T : Tw S n c) {kd : Int32} {a b : Option Value} : pv_R mX7_kindsOf 0 [some (.ref 37), some (.int kd), a, b] [] (pv_em S) = some (some (.int (cn (fun i => ko (S.1 42 i) kd) n)), pv_em S) := by
  have := tw_n T
  rw [bX7_kindsOf_0]
  refine itf_run (R := fun k (a : Int32) => pv_R mX7_kindsOf 4 [some (.ref 37), some (.int kd), some (.int a), some (.int (nI k))] [] (pv_em S)) (F := fun a => some (some (.int a), pv_em S)) (N := n) (fun k a h => ?_) (fun a => ?_) n 0 0 (by omega)
  · refine Eq.trans bX7_kindsOf_4 ?_
    rw [tw_m4 T, if_neg (by rw [nIle (by omega) (by omega)]; omega), bX7_kindsOf_12, if_neg (gx (by omega) (by omega)), nIc (by omega), m_isOf, pv_cc_some, bX7_kindsOf_23]
    by_cases q : ko (S.1 42 k) kd
    · rw [bI_t q, if_neg (by decide), bX7_kindsOf_26, bX7_kindsOf_31, nIs, if_pos q]
    · rw [bI_f q, if_pos rfl, bX7_kindsOf_30, bX7_kindsOf_31, nIs, if_neg q, Int32.add_zero]
  · show pv_R mX7_kindsOf 4 _ _ _ = _
    rw [bX7_kindsOf_4, tw_m4 T, if_pos (Int32.le_refl _), bX7_kindsOf_39]
theorem x_there_r {a b : Option Value} : pv_R mX3_thereCount 0 [some (.ref 1), a, b] [] (pv_em S) = some (some (.int (cn (fun i => 0 ≤ (S.1 2 i).toInt) 6)), pv_em S) := by
  rw [bX3_thereCountr_0]
  refine itf_run (R := fun k (a : Int32) => pv_R mX3_thereCount 4 [some (.ref 1), some (.int a), some (.int (nI k))] [] (pv_em S)) (F := fun a => some (some (.int a), pv_em S)) (N := 6) (fun k a h => ?_) (fun a => ?_) 6 0 0 (by omega)
  · refine Eq.trans bX3_thereCountr_4 ?_
    rw [if_neg (by rw [show (6 : Int32) = nI 6 from rfl, nIle (by omega) (by omega)]; omega), bX3_thereCountr_13, x_isThere_r (by rw [nIt (by omega)]; omega) (by rw [nIt (by omega)]; omega), pv_cc_some, bX3_thereCountr_18, nIc (by omega)]
    by_cases q : 0 ≤ (S.1 2 k).toInt
    · rw [bI_t q, if_neg (by decide), bX3_thereCountr_21, bX3_thereCountr_24, nIs, if_pos q]
    · rw [bI_f q, if_pos rfl, bX3_thereCountr_24, nIs, if_neg q]
  · show pv_R mX3_thereCount 4 _ _ _ = _
    rw [bX3_thereCountr_4, if_pos (show (6 : Int32) ≤ nI 6 from by decide), bX3_thereCountr_30]
theorem x_there_t {a b : Option Value} : pv_R mX3_thereCount 0 [some (.ref 10), a, b] [] (pv_em S) = some (some (.int (cn (fun i => 0 ≤ (S.1 11 i).toInt) 4)), pv_em S) := by
  rw [bX3_thereCountt_0]
  refine itf_run (R := fun k (a : Int32) => pv_R mX3_thereCount 4 [some (.ref 10), some (.int a), some (.int (nI k))] [] (pv_em S)) (F := fun a => some (some (.int a), pv_em S)) (N := 4) (fun k a h => ?_) (fun a => ?_) 4 0 0 (by omega)
  · refine Eq.trans bX3_thereCountt_4 ?_
    rw [if_neg (by rw [show (4 : Int32) = nI 4 from rfl, nIle (by omega) (by omega)]; omega), bX3_thereCountt_13, x_isThere_t (by rw [nIt (by omega)]; omega) (by rw [nIt (by omega)]; omega), pv_cc_some, bX3_thereCountt_18, nIc (by omega)]
    by_cases q : 0 ≤ (S.1 11 k).toInt
    · rw [bI_t q, if_neg (by decide), bX3_thereCountt_21, bX3_thereCountt_24, nIs, if_pos q]
    · rw [bI_f q, if_pos rfl, bX3_thereCountt_24, nIs, if_neg q]
  · show pv_R mX3_thereCount 4 _ _ _ = _
    rw [bX3_thereCountt_4, if_pos (show (4 : Int32) ≤ nI 4 from by decide), bX3_thereCountt_30]
theorem x_kept {a b : Option Value} : pv_R mX5_keptTowns 0 [some (.ref 21), a, b] [] (pv_em S) = some (some (.int (cn (fun i => ¬ S.1 27 i < 0) 3)), pv_em S) := by
  rw [bX5_keptTowns_0]
  refine itf_run (R := fun k (a : Int32) => pv_R mX5_keptTowns 4 [some (.ref 21), some (.int a), some (.int (nI k))] [] (pv_em S)) (F := fun a => some (some (.int a), pv_em S)) (N := 3) (fun k a h => ?_) (fun a => ?_) 3 0 0 (by omega)
  · refine Eq.trans bX5_keptTowns_4 ?_
    rw [if_neg (by rw [show (3 : Int32) = nI 3 from rfl, nIle (by omega) (by omega)]; omega), bX5_keptTowns_9, if_neg (gx (by omega) (by omega)), nIc (by omega)]
    by_cases q : S.1 27 k < 0
    · rw [if_pos q, bX5_keptTowns_21, nIs, if_neg (fun z => z q)]
    · rw [if_neg q, bX5_keptTowns_18, bX5_keptTowns_21, nIs, if_pos q]
  · show pv_R mX5_keptTowns 4 _ _ _ = _
    rw [bX5_keptTowns_4, if_pos (show (3 : Int32) ≤ nI 3 from by decide), bX5_keptTowns_27]
/-- what is counted -/
def tw_cv (S : pv_S) (n c : Nat) : Nat → Int32
  | 0 => nI n
  | 1 => S.1 44 6
  | 2 => nI c
  | 3 => S.1 44 8
  | 4 => tw_pd S n
  | 5 => S.1 44 9
  | 6 => S.1 37 5
  | 7 => cn (fun i => ko (S.1 42 i) 1) n
  | 8 => cn (fun i => ko (S.1 42 i) 3) n
  | 9 => cn (fun i => 0 ≤ (S.1 38 i).toInt) 6
  | 10 => cn (fun i => 0 ≤ (S.1 40 i).toInt) 4
  | _ => cn (fun i => ¬ S.1 47 i = 0) 3
theorem w12 {w : Nat} (h : w ≤ 11) : w = 0 ∨ w = 1 ∨ w = 2 ∨ w = 3 ∨ w = 4 ∨ w = 5 ∨ w = 6 ∨ w = 7 ∨ w = 8 ∨ w = 9 ∨ w = 10 ∨ w = 11 := by omega
theorem x_count (I : Inv S) (T : Tw S n c) {w : Nat} (hw : w ≤ 11) : pv_R mX6_count 0 [some (.ref 0), some (.int (nI w))] [] (pv_em S) = some (some (.int (tw_cv S n c w)), pv_em S) := by
  rw [bX6_count_0]
  rcases w12 hw with rfl | rfl | rfl | rfl | rfl | rfl | rfl | rfl | rfl | rfl | rfl | rfl
  · rw [show pv_swt (nI 0).toInt 0 [64, 72, 80, 88, 96, 104, 112, 120, 129, 138, 146, 154] 162 = 64 from by decide, bX6_count_64, tw_x7 T]; rfl
  · rw [show pv_swt (nI 1).toInt 0 [64, 72, 80, 88, 96, 104, 112, 120, 129, 138, 146, 154] 162 = 72 from by decide, bX6_count_72, tw_h T]; rfl
  · rw [show pv_swt (nI 2).toInt 0 [64, 72, 80, 88, 96, 104, 112, 120, 129, 138, 146, 154] 162 = 80 from by decide, bX6_count_80, tw_x13 T]; rfl
  · rw [show pv_swt (nI 3).toInt 0 [64, 72, 80, 88, 96, 104, 112, 120, 129, 138, 146, 154] 162 = 88 from by decide, bX6_count_88, tw_g T]; rfl
  · rw [show pv_swt (nI 4).toInt 0 [64, 72, 80, 88, 96, 104, 112, 120, 129, 138, 146, 154] 162 = 96 from by decide, bX6_count_96, x_pound T, pv_cc_some, bX6_count_103]; rfl
  · rw [show pv_swt (nI 5).toInt 0 [64, 72, 80, 88, 96, 104, 112, 120, 129, 138, 146, 154] 162 = 104 from by decide, bX6_count_104, tw_r T]; rfl
  · rw [show pv_swt (nI 6).toInt 0 [64, 72, 80, 88, 96, 104, 112, 120, 129, 138, 146, 154] 162 = 112 from by decide, bX6_count_112, ← tw_dog T]; rfl
  · rw [show pv_swt (nI 7).toInt 0 [64, 72, 80, 88, 96, 104, 112, 120, 129, 138, 146, 154] 162 = 120 from by decide, bX6_count_120, x_countOf T (by decide), pv_cc_some, bX6_count_128]; rfl
  · rw [show pv_swt (nI 8).toInt 0 [64, 72, 80, 88, 96, 104, 112, 120, 129, 138, 146, 154] 162 = 129 from by decide, bX6_count_129, x_countOf T (by decide), pv_cc_some, bX6_count_137]; rfl
  · rw [show pv_swt (nI 9).toInt 0 [64, 72, 80, 88, 96, 104, 112, 120, 129, 138, 146, 154] 162 = 138 from by decide, bX6_count_138, x_there_r, pv_cc_some, bX6_count_145]
    rw [cn_congr (q := fun i => 0 ≤ (S.1 38 i).toInt) (fun k hk => by rw [(I.1 k hk).1])]; rfl
  · rw [show pv_swt (nI 10).toInt 0 [64, 72, 80, 88, 96, 104, 112, 120, 129, 138, 146, 154] 162 = 146 from by decide, bX6_count_146, x_there_t, pv_cc_some, bX6_count_153]
    rw [cn_congr (q := fun i => 0 ≤ (S.1 40 i).toInt) (fun k hk => by rw [(I.2.1 k hk).1])]; rfl
  · rw [show pv_swt (nI 11).toInt 0 [64, 72, 80, 88, 96, 104, 112, 120, 129, 138, 146, 154] 162 = 154 from by decide, bX6_count_154, x_kept, pv_cc_some, bX6_count_161]
    rw [cn_congr (q := fun i => ¬ S.1 47 i = 0) (fun k hk => ?_)]; rfl
    rcases T.2.2.2.2.2.2.2.2.2.2.2.2.2.2.2 k hk with ⟨e1, e2⟩ | ⟨ck, h1, e1, e2, _⟩
    · rw [e1, e2]; decide
    · rw [e1, e2, Int32.lt_iff_toInt_lt, nIt (by omega), i0]
      exact ⟨fun _ => by decide, fun _ => by omega⟩
theorem m_cl9 {x1 : Int32} (h : ¬ x1 = 9) {x2 x3 : Int32} : pv_R mX7_counted 4 [some (.ref 37), some (.int x1), some (.int x2), some (.int x3)] [] (pv_em S) = pv_R mX7_counted 41 [some (.ref 37), some (.int x1), some (.int x2), some (.int 0)] [] (pv_em S) := by
  rw [bX7_counted_4]
  by_cases q : 6 ≤ x3
  · rw [if_pos q, bX7_counted_39]
  · rw [if_neg q, bX7_counted_10, if_pos h, bX7_counted_39]
theorem m_cl10 {x1 : Int32} (h : ¬ x1 = 10) {x2 x3 : Int32} : pv_R mX7_counted 41 [some (.ref 37), some (.int x1), some (.int x2), some (.int x3)] [] (pv_em S) = pv_R mX7_counted 77 [some (.ref 37), some (.int x1), some (.int x2), some (.int 0)] [] (pv_em S) := by
  rw [bX7_counted_41]
  by_cases q : 4 ≤ x3
  · rw [if_pos q, bX7_counted_75]
  · rw [if_neg q, bX7_counted_46, if_pos h, bX7_counted_75]
theorem m_cl11 {x1 : Int32} (h : ¬ x1 = 11) {x2 x3 : Int32} : ∃ x4 : Int32, pv_R mX7_counted 77 [some (.ref 37), some (.int x1), some (.int x2), some (.int x3)] [] (pv_em S) = pv_R mX7_counted 111 [some (.ref 37), some (.int x1), some (.int x2), some (.int x4)] [] (pv_em S) := by
  rw [bX7_counted_77]
  by_cases q : 3 ≤ x3
  · rw [if_pos q]; exact ⟨x3, rfl⟩
  · rw [if_neg q, bX7_counted_82, if_pos h]; exact ⟨x3, rfl⟩
theorem m_cl {x1 : Int32} (h9 : ¬ x1 = 9) (h10 : ¬ x1 = 10) (h11 : ¬ x1 = 11) {a b : Option Value} : ∃ x4 : Int32, pv_R mX7_counted 0 [some (.ref 37), some (.int x1), a, b] [] (pv_em S) = pv_R mX7_counted 111 [some (.ref 37), some (.int x1), some (.int 0), some (.int x4)] [] (pv_em S) := by
  rw [bX7_counted_0, m_cl9 h9, m_cl10 h10]
  exact m_cl11 h11
theorem m_c9 : pv_R mX7_counted 4 [some (.ref 37), some (.int 9), some (.int 0), some (.int 0)] [] (pv_em S) = pv_R mX7_counted 41 [some (.ref 37), some (.int 9), some (.int (cn (fun i => 0 ≤ (S.1 38 i).toInt) 6)), some (.int 0)] [] (pv_em S) := by
  refine itf_run (R := fun k (a : Int32) => pv_R mX7_counted 4 [some (.ref 37), some (.int 9), some (.int a), some (.int (nI k))] [] (pv_em S)) (F := fun a => pv_R mX7_counted 41 [some (.ref 37), some (.int 9), some (.int a), some (.int 0)] [] (pv_em S)) (N := 6) (fun k a h => ?_) (fun a => ?_) 6 0 0 (by omega)
  · refine Eq.trans bX7_counted_4 ?_
    rw [if_neg (by rw [show (6 : Int32) = nI 6 from rfl, nIle (by omega) (by omega)]; omega), bX7_counted_10, if_neg (fun z => z rfl), bX7_counted_16, if_neg (gx (by omega) (by omega)), nIc (by omega)]
    by_cases q : 0 ≤ (S.1 38 k).toInt
    · rw [if_pos (show (0 : Int32) ≤ S.1 38 k from by rw [Int32.le_iff_toInt_le, i0]; exact q), bX7_counted_30, bX7_counted_31, nIs, if_pos q]
    · rw [if_neg (show ¬ (0 : Int32) ≤ S.1 38 k from by rw [Int32.le_iff_toInt_le, i0]; exact q), bX7_counted_26, bX7_counted_31, nIs, if_neg q, Int32.add_zero]
  · show pv_R mX7_counted 4 _ _ _ = _
    rw [bX7_counted_4, if_pos (show (6 : Int32) ≤ nI 6 from by decide), bX7_counted_39]
theorem m_c10 : pv_R mX7_counted 41 [some (.ref 37), some (.int 10), some (.int 0), some (.int 0)] [] (pv_em S) = pv_R mX7_counted 77 [some (.ref 37), some (.int 10), some (.int (cn (fun i => 0 ≤ (S.1 40 i).toInt) 4)), some (.int 0)] [] (pv_em S) := by
  refine itf_run (R := fun k (a : Int32) => pv_R mX7_counted 41 [some (.ref 37), some (.int 10), some (.int a), some (.int (nI k))] [] (pv_em S)) (F := fun a => pv_R mX7_counted 77 [some (.ref 37), some (.int 10), some (.int a), some (.int 0)] [] (pv_em S)) (N := 4) (fun k a h => ?_) (fun a => ?_) 4 0 0 (by omega)
  · refine Eq.trans bX7_counted_41 ?_
    rw [if_neg (by rw [show (4 : Int32) = nI 4 from rfl, nIle (by omega) (by omega)]; omega), bX7_counted_46, if_neg (fun z => z rfl), bX7_counted_52, if_neg (gx (by omega) (by omega)), nIc (by omega)]
    by_cases q : 0 ≤ (S.1 40 k).toInt
    · rw [if_pos (show (0 : Int32) ≤ S.1 40 k from by rw [Int32.le_iff_toInt_le, i0]; exact q), bX7_counted_66, bX7_counted_67, nIs, if_pos q]
    · rw [if_neg (show ¬ (0 : Int32) ≤ S.1 40 k from by rw [Int32.le_iff_toInt_le, i0]; exact q), bX7_counted_62, bX7_counted_67, nIs, if_neg q, Int32.add_zero]
  · show pv_R mX7_counted 41 _ _ _ = _
    rw [bX7_counted_41, if_pos (show (4 : Int32) ≤ nI 4 from by decide), bX7_counted_75]
theorem m_c11 : pv_R mX7_counted 77 [some (.ref 37), some (.int 11), some (.int 0), some (.int 0)] [] (pv_em S) = pv_R mX7_counted 111 [some (.ref 37), some (.int 11), some (.int (cn (fun i => ¬ S.1 47 i = 0) 3)), some (.int 3)] [] (pv_em S) := by
  refine itf_run (R := fun k (a : Int32) => pv_R mX7_counted 77 [some (.ref 37), some (.int 11), some (.int a), some (.int (nI k))] [] (pv_em S)) (F := fun a => pv_R mX7_counted 111 [some (.ref 37), some (.int 11), some (.int a), some (.int 3)] [] (pv_em S)) (N := 3) (fun k a h => ?_) (fun a => ?_) 3 0 0 (by omega)
  · refine Eq.trans bX7_counted_77 ?_
    rw [if_neg (by rw [show (3 : Int32) = nI 3 from rfl, nIle (by omega) (by omega)]; omega), bX7_counted_82, if_neg (fun z => z rfl), bX7_counted_88, if_neg (gx (by omega) (by omega)), nIc (by omega)]
    by_cases q : S.1 47 k = 0
    · rw [if_pos q, bX7_counted_102, bX7_counted_103, nIs, if_neg (fun z => z q), Int32.add_zero]
    · rw [if_neg q, bX7_counted_98, bX7_counted_103, nIs, if_pos q]
  · show pv_R mX7_counted 77 _ _ _ = _
    rw [bX7_counted_77, if_pos (show (3 : Int32) ≤ nI 3 from by decide)]; rfl
theorem m_counted (T : Tw S n c) {w : Nat} (hw : w ≤ 11) {a b : Option Value} : pv_R mX7_counted 0 [some (.ref 37), some (.int (nI w)), a, b] [] (pv_em S) = some (some (.int (tw_cv S n c w)), pv_em S) := by
  by_cases h9 : w = 9
  · subst h9
    rw [bX7_counted_0, show nI 9 = 9 from rfl, m_c9, m_cl10 (by decide)]
    obtain ⟨x4, e⟩ := m_cl11 (S := S) (x1 := 9) (by decide) (x2 := cn (fun i => 0 ≤ (S.1 38 i).toInt) 6) (x3 := 0)
    rw [e, bX7_counted_111, show pv_swt (Int32.toInt 9) 0 [164, 169, 177, 182, 190, 195, 203, 208, 214] 220 = 220 from by decide, bX7_counted_220]; rfl
  by_cases h10 : w = 10
  · subst h10
    rw [bX7_counted_0, show nI 10 = 10 from rfl, m_cl9 (by decide), m_c10]
    obtain ⟨x4, e⟩ := m_cl11 (S := S) (x1 := 10) (by decide) (x2 := cn (fun i => 0 ≤ (S.1 40 i).toInt) 4) (x3 := 0)
    rw [e, bX7_counted_111, show pv_swt (Int32.toInt 10) 0 [164, 169, 177, 182, 190, 195, 203, 208, 214] 220 = 220 from by decide, bX7_counted_220]; rfl
  by_cases h11 : w = 11
  · subst h11
    rw [bX7_counted_0, show nI 11 = 11 from rfl, m_cl9 (by decide), m_cl10 (by decide), m_c11, bX7_counted_111, show pv_swt (Int32.toInt 11) 0 [164, 169, 177, 182, 190, 195, 203, 208, 214] 220 = 220 from by decide, bX7_counted_220]; rfl
  obtain ⟨x4, e⟩ := m_cl (S := S) (x1 := nI w) (a := a) (b := b) (by rw [show (9 : Int32) = nI 9 from rfl, nIeq (by omega) (by omega)]; exact h9) (by rw [show (10 : Int32) = nI 10 from rfl, nIeq (by omega) (by omega)]; exact h10) (by rw [show (11 : Int32) = nI 11 from rfl, nIeq (by omega) (by omega)]; exact h11)
  rw [e, bX7_counted_111]
  rcases w12 hw with rfl | rfl | rfl | rfl | rfl | rfl | rfl | rfl | rfl | rfl | rfl | rfl
  · rw [show pv_swt (nI 0).toInt 0 [164, 169, 177, 182, 190, 195, 203, 208, 214] 220 = 164 from by decide, bX7_counted_164, tw_m4 T]; rfl
  · rw [show pv_swt (nI 1).toInt 0 [164, 169, 177, 182, 190, 195, 203, 208, 214] 220 = 169 from by decide, bX7_counted_169]; rfl
  · rw [show pv_swt (nI 2).toInt 0 [164, 169, 177, 182, 190, 195, 203, 208, 214] 220 = 177 from by decide, bX7_counted_177, tw_m9 T]; rfl
  · rw [show pv_swt (nI 3).toInt 0 [164, 169, 177, 182, 190, 195, 203, 208, 214] 220 = 182 from by decide, bX7_counted_182]; rfl
  · rw [show pv_swt (nI 4).toInt 0 [164, 169, 177, 182, 190, 195, 203, 208, 214] 220 = 190 from by decide, bX7_counted_190, m_pound T, pv_cc_some, bX7_counted_194]; rfl
  · rw [show pv_swt (nI 5).toInt 0 [164, 169, 177, 182, 190, 195, 203, 208, 214] 220 = 195 from by decide, bX7_counted_195]; rfl
  · rw [show pv_swt (nI 6).toInt 0 [164, 169, 177, 182, 190, 195, 203, 208, 214] 220 = 203 from by decide, bX7_counted_203]; rfl
  · rw [show pv_swt (nI 7).toInt 0 [164, 169, 177, 182, 190, 195, 203, 208, 214] 220 = 208 from by decide, bX7_counted_208, m_kindsOf T, pv_cc_some, bX7_counted_213]; rfl
  · rw [show pv_swt (nI 8).toInt 0 [164, 169, 177, 182, 190, 195, 203, 208, 214] 220 = 214 from by decide, bX7_counted_214, m_kindsOf T, pv_cc_some, bX7_counted_219]; rfl
  · exact absurd rfl h9
  · exact absurd rfl h10
  · exact absurd rfl h11
theorem i11 : (11 : Int32).toInt = 11 := by decide
theorem j11 : (11 : Int64).toInt = 11 := by decide
theorem tq_count (I : Inv S) (w : Int32) : pv_goI Inv S mX6_count mX7_count [.int w] := by
  obtain ⟨n, c, T⟩ := tw_of I
  by_cases h : 0 ≤ w.toInt ∧ w.toInt ≤ 11
  · obtain ⟨k, e, hk⟩ := nIex h.1
    subst e
    refine ⟨tw_cv S n c k, S, S, ?_, ?_, I⟩
    · exact x_count I T (by omega)
    · show pv_R mX7_count 0 [some (.ref 37), some (.int (nI k))] [] (pv_em S) = _
      simp only [bX7_count_0, bX7_count_9, bX7_count_12, bX7_count_17, bX7_count_20, bX7_count_21, c_in, pv_cc_some, bI_0, Int32.toInt_toInt64, j0, j11, h, m_counted T (w := k) (by omega), and_self, not_true_eq_false, if_false]
  · refine ⟨-1, S, S, ?_, ?_, I⟩
    · show pv_R mX6_count 0 [some (.ref 0), some (.int w)] [] (pv_em S) = _
      rw [bX6_count_0]
      have e : pv_swt w.toInt 0 [64, 72, 80, 88, 96, 104, 112, 120, 129, 138, 146, 154] 162 = 162 := by
        unfold pv_swt
        rw [if_pos]
        show w.toInt < 0 ∨ 0 + ((12 : Nat) : Int) ≤ w.toInt
        omega
      rw [e, bX6_count_162]
    · show pv_R mX7_count 0 [some (.ref 37), some (.int w)] [] (pv_em S) = _
      simp only [bX7_count_0, bX7_count_9, bX7_count_12, bX7_count_17, bX7_count_20, bX7_count_21, c_in, pv_cc_some, bI_0, Int32.toInt_toInt64, j0, j11, h, not_false_eq_true, if_true]
theorem tq_cat (I : Inv S) (i w : Int32) : pv_goI Inv S mX6_cat mX7_cat [.int i, .int w] := by
  obtain ⟨n, c, T⟩ := tw_of I
  by_cases h : (0 ≤ i.toInt ∧ i.toInt < (n : Int)) ∧ (0 ≤ w.toInt ∧ w.toInt ≤ 4)
  · obtain ⟨hi, hw⟩ := h
    obtain ⟨k, e, hk⟩ := nIex hw.1
    obtain ⟨p, e2, hp⟩ := nIex hi.1
    subst e; subst e2
    refine ⟨1, pv_si S 35 1 (tw_tv S p k), _, ?_, ?_, Inv_asked (v := tw_tv S p k) I⟩
    · show pv_R mX6_cat 0 [some (.ref 0), some (.int (nI p)), some (.int (nI k))] [] (pv_em S) = _
      simp only [bX6_cat_0, bX6_cat_8, bX6_cat_11, bX6_cat_17, bX6_cat_20, bX6_cat_22, bX6_cat_35, x_isCat T, x_within, pv_cc_some, bI_0, i0, i4, hi, hw, x_trait T (i := p) (w := k) (by omega) (by omega), and_self, not_true_eq_false, not_false_eq_true, if_true, if_false]
    · show pv_R mX7_cat 0 [some (.ref 37), some (.int (nI p)), some (.int (nI k))] [] (pv_em _) = _
      have T' : Tw (pv_si S 35 1 (tw_tv S p k)) n c := Tw_congr (fun k hk => si_ne (by omega)) (by rw [si_ne (by decide)]) (by rw [si_ne (by decide)]) (by rw [si_ne (by decide)]) T
      have ev : tw_tv (pv_si S 35 1 (tw_tv S p k)) p k = tw_tv S p k := by
        unfold tw_tv
        rw [si_ne (k' := 42) (by decide), si_ne (k' := 43) (by decide), si_ne (k' := 44) (by decide)]
      simp only [bX7_cat_0, bX7_cat_5, bX7_cat_8, bX7_cat_17, bX7_cat_20, bX7_cat_27, bX7_cat_30, bX7_cat_33, bX7_cat_34, bX7_tell_0, m_isCat T', c_in, pv_cc_some, bI_0, j0, j4, Int32.toInt_toInt64, hi, hw, m_told T' (i := p) (w := k) (by omega) (by omega), ev, and_self, not_true_eq_false, not_false_eq_true, if_true, if_false]
  · refine ⟨-1, S, S, ?_, ?_, I⟩
    · show pv_R mX6_cat 0 [some (.ref 0), some (.int i), some (.int w)] [] (pv_em S) = _
      by_cases hi : 0 ≤ i.toInt ∧ i.toInt < (n : Int)
      · have hw : ¬ (0 ≤ w.toInt ∧ w.toInt ≤ 4) := fun q => h ⟨hi, q⟩
        simp only [bX6_cat_0, bX6_cat_8, bX6_cat_11, bX6_cat_17, bX6_cat_20, bX6_cat_22, bX6_cat_35, x_isCat T, x_within, pv_cc_some, bI_0, i0, i4, hi, hw, and_self, not_true_eq_false, not_false_eq_true, if_true, if_false]
      · simp only [bX6_cat_0, bX6_cat_8, bX6_cat_11, bX6_cat_17, bX6_cat_20, bX6_cat_22, bX6_cat_35, x_isCat T, pv_cc_some, bI_0, hi, not_false_eq_true, if_true]
    · show pv_R mX7_cat 0 [some (.ref 37), some (.int i), some (.int w)] [] (pv_em S) = _
      by_cases hi : 0 ≤ i.toInt ∧ i.toInt < (n : Int)
      · have hw : ¬ (0 ≤ w.toInt ∧ w.toInt ≤ 4) := fun q => h ⟨hi, q⟩
        simp only [bX7_cat_0, bX7_cat_5, bX7_cat_8, bX7_cat_17, bX7_cat_20, bX7_cat_27, bX7_cat_30, bX7_cat_33, bX7_cat_34, m_isCat T, c_in, pv_cc_some, bI_0, j0, j4, Int32.toInt_toInt64, hi, hw, and_self, not_true_eq_false, not_false_eq_true, if_true, if_false]
      · simp only [bX7_cat_0, bX7_cat_5, bX7_cat_8, bX7_cat_17, bX7_cat_20, bX7_cat_27, bX7_cat_30, bX7_cat_33, bX7_cat_34, m_isCat T, pv_cc_some, bI_0, hi, not_false_eq_true, if_true]
end CT
