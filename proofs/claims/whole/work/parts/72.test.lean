/-! ===== weights, test ===== -/
section WT
variable {S : pv_S} {n c p q m : Nat}
abbrev wtP (L : Nat → Int32) (kd h : Int32) (m v : Nat) : Prop := ¬ A1 (lg_ft L kd h (nI v)) m 0 = 0
theorem x_wtL (T : Tw S n c) (R : LR S q m) (ok : ∀ k, k < m → lg_ok (S.1 (4 + q)) k) (hp : p < n) : ∀ k (Z : pv_S), k ≤ 200 → (∀ j, j ≠ 32 → j ≠ 33 → Z.1 j = S.1 j) → Z.2 = S.2 → ∃ S', pv_R mX6_weights 25 [some (.ref 0), some (.int (nI p)), some (.int (nI q)), some (.int 0), some (.int (nI (cN (wtP (S.1 (4 + q)) (S.1 42 p) (S.1 44 6) m) (200 - k) (k + 1)))), some (.int (fsh (wtP (S.1 (4 + q)) (S.1 42 p) (S.1 44 6) m) nI (-9) (200 - k) (k + 1))), some (.int (nI k))] [] (pv_em Z) = some (some (.int (nI (cN (wtP (S.1 (4 + q)) (S.1 42 p) (S.1 44 6) m) 200 1))), pv_em (pv_si S' 35 1 (fsh (wtP (S.1 (4 + q)) (S.1 42 p) (S.1 44 6) m) nI (-9) 200 1))) ∧ (∀ j, j ≠ 32 → j ≠ 33 → S'.1 j = S.1 j) ∧ S'.2 = S.2
  | 0, Z, _, h1, h2 => by
    refine ⟨Z, ?_, h1, h2⟩
    rw [bX6_weights_25, if_pos (by decide), bX6_weights_63]
  | k + 1, Z, hk, h1, h2 => by
    have hn := tw_n T
    have hq := R.1
    have TZ : Tw Z n c := Tw_congr (fun k hk => h1 k (by omega) (by omega)) (by rw [h1 37 (by decide) (by decide)]) (by rw [h1 37 (by decide) (by decide)]) (by rw [h1 37 (by decide) (by decide)]) T
    have z4 : Z.1 (4 + q) = S.1 (4 + q) := h1 (4 + q) (by omega) (by omega)
    have RZ : LR Z q m := LR_congr (h1 2 (by decide) (by decide)) (h1 38 (by decide) (by decide)) (h1 39 (by decide) (by decide)) z4 R
    obtain ⟨Z', e, g1, g2⟩ := x_fits TZ RZ (by rw [z4]; exact ok) (kd := Z.1 22 p) (w := nI (k + 1)) (a := none) (b := none)
    obtain ⟨S', e2, k1, k2⟩ := x_wtL T R ok hp k Z' (by omega) (fun j j1 j2 => (g1 j j1 j2).trans (h1 j j1 j2)) (g2.trans h2)
    refine ⟨S', ?_, k1, k2⟩
    have e22 : Z.1 22 p = S.1 42 p := by rw [h1 22 (by decide) (by decide), tw_kd T hp]
    rw [z4, h1 44 (by decide) (by decide), e22] at e
    have u1 : cN (wtP (S.1 (4 + q)) (S.1 42 p) (S.1 44 6) m) (200 - k) (k + 1) = (if wtP (S.1 (4 + q)) (S.1 42 p) (S.1 44 6) m (k + 1) then 1 else 0) + cN (wtP (S.1 (4 + q)) (S.1 42 p) (S.1 44 6) m) (200 - (k + 1)) (k + 1 + 1) := by
      rw [show 200 - k = (200 - (k + 1)) + 1 from by omega]; rfl
    have u2 : fsh (wtP (S.1 (4 + q)) (S.1 42 p) (S.1 44 6) m) nI (-9) (200 - k) (k + 1) = if wtP (S.1 (4 + q)) (S.1 42 p) (S.1 44 6) m (k + 1) then nI (k + 1) else fsh (wtP (S.1 (4 + q)) (S.1 42 p) (S.1 44 6) m) nI (-9) (200 - (k + 1)) (k + 1 + 1) := by
      rw [show 200 - k = (200 - (k + 1)) + 1 from by omega]; rfl
    have s1 : nI (k + 1) + -1 = nI k := by rw [← nIs, Int32.add_assoc, show (1 : Int32) + -1 = 0 from by decide, Int32.add_zero]
    rw [bX6_weights_25, show (1 : Int32) = nI 1 from rfl, if_neg (by rw [nIlt (by omega) (by omega)]; omega), bX6_weights_31, if_neg (gx (by omega) (by omega)), nIc (by omega), e22, e, pv_cc_some, bX6_weights_47]
    by_cases w : A1 (lg_ft (S.1 (4 + q)) (S.1 42 p) (S.1 44 6) (nI (k + 1))) m 0 = 0
    · rw [u1, u2, if_neg (fun z => z w), if_neg (fun z => z w), Nat.zero_add] at e2
      rw [if_pos w, bX6_weights_57, s1]
      exact e2
    · rw [u1, u2, if_pos w, if_pos w, Nat.add_comm, ← nIs] at e2
      rw [if_neg w, bX6_weights_50, bX6_weights_57, s1]
      exact e2
theorem m_wtL (T : Tw S n c) (R : LR S q m) (ok : ∀ k, k < m → lg_ok (S.1 (4 + q)) k) (hp : p < n) : pv_R mX7_weights 43 [some (.ref 37), some (.int (nI p)), some (.int (nI q)), some (.int 0), some (.int 0), some (.int (-9)), some (.int 1)] [] (pv_em S) = some (some (.int (nI (cN (wtP (S.1 (4 + q)) (S.1 42 p) (S.1 44 6) m) 200 1))), pv_em (pv_si S 37 13 (fsh (wtP (S.1 (4 + q)) (S.1 42 p) (S.1 44 6) m) nI (-9) 200 1))) := by
  have hn := tw_n T
  obtain ⟨⟨p1, p2⟩, e, hpq, _⟩ := lpF (R := fun k (z : Int32 × Int32) => pv_R mX7_weights 43 [some (.ref 37), some (.int (nI p)), some (.int (nI q)), some (.int 0), some (.int z.1), some (.int z.2), some (.int (nI k))] [] (pv_em S)) (N := 201) (fun z => z) (fun k (z : Int32 × Int32) => (if wtP (S.1 (4 + q)) (S.1 42 p) (S.1 44 6) m k then z.1 + 1 else z.1, if wtP (S.1 (4 + q)) (S.1 42 p) (S.1 44 6) m k then (if z.2 = -9 then nI k else z.2) else z.2)) (fun _ _ => True) (fun k z hk _ => by
    obtain ⟨a, b⟩ := z
    refine ⟨(if wtP (S.1 (4 + q)) (S.1 42 p) (S.1 44 6) m k then a + 1 else a, if wtP (S.1 (4 + q)) (S.1 42 p) (S.1 44 6) m k then (if b = -9 then nI k else b) else b), ?_, rfl, trivial⟩
    refine Eq.trans bX7_weights_43 ?_
    rw [show (201 : Int32) = nI 201 from rfl, if_neg (by rw [nIle (by omega) (by omega)]; omega), bX7_weights_51, if_neg (gx (by omega) (by omega)), nIc (by omega), m_isSo T R ok, pv_cc_some, bX7_weights_64]
    dsimp only
    by_cases w : A1 (lg_ft (S.1 (4 + q)) (S.1 42 p) (S.1 44 6) (nI k)) m 0 = 0
    · rw [if_pos w, bX7_weights_86, nIs, if_neg (fun z => z w), if_neg (fun z => z w)]
    · rw [if_neg w, bX7_weights_67, if_pos w, if_pos w]
      by_cases z : b = -9
      · rw [if_neg (fun y => y z), bX7_weights_77, bX7_weights_84, bX7_weights_86, nIs, if_pos z]
      · rw [if_pos z, bX7_weights_82, bX7_weights_84, bX7_weights_86, nIs, if_neg z]) 200 1 (0, -9) (by omega) trivial
  have hpq : (p1, p2) = (nI (cN (wtP (S.1 (4 + q)) (S.1 42 p) (S.1 44 6) m) 200 1), fsh (wtP (S.1 (4 + q)) (S.1 42 p) (S.1 44 6) m) nI (-9) 200 1) := by
    have key : ∀ M, 1 + M ≤ 1000 → itf (fun k (z : Int32 × Int32) => (if wtP (S.1 (4 + q)) (S.1 42 p) (S.1 44 6) m k then z.1 + 1 else z.1, if wtP (S.1 (4 + q)) (S.1 42 p) (S.1 44 6) m k then (if z.2 = -9 then nI k else z.2) else z.2)) M 1 (0, -9) = (nI (cN (wtP (S.1 (4 + q)) (S.1 42 p) (S.1 44 6) m) M 1), fsh (wtP (S.1 (4 + q)) (S.1 42 p) (S.1 44 6) m) nI (-9) M 1) := by
      intro M hM
      refine (itf_pair (f := fun k (a : Int32) => if wtP (S.1 (4 + q)) (S.1 42 p) (S.1 44 6) m k then a + 1 else a) (g := fun k (a : Int32) => if wtP (S.1 (4 + q)) (S.1 42 p) (S.1 44 6) m k then (if a = -9 then nI k else a) else a) M 1 (0, -9)).trans ?_
      have e1 := cn_N (p := wtP (S.1 (4 + q)) (S.1 42 p) (S.1 44 6) m) M 1 0
      have e2 := first_f (p := wtP (S.1 (4 + q)) (S.1 42 p) (S.1 44 6) m) M 1 (-9) hM
      rw [if_pos rfl] at e2
      rw [Nat.zero_add] at e1
      exact Prod.ext e1 e2
    exact hpq.trans (key 200 (by omega))
  refine Eq.trans e ?_
  rw [show p1 = _ from congrArg Prod.fst hpq, show p2 = _ from congrArg Prod.snd hpq]
  show pv_R mX7_weights 43 _ _ _ = _
  rw [bX7_weights_43, if_pos (show (201 : Int32) ≤ nI 201 from by decide), bX7_weights_92, bX7_answer_0, pv_cc_some, bX7_weights_100]
theorem tq_weights (I : Inv S) (i r : Int32) : pv_goI Inv S mX6_weights mX7_weights [.int i, .int r] := by
  obtain ⟨n, c, T⟩ := tw_of I
  refine led_weights I T i r fun p q m hp ei er R ok => ?_
  subst ei; subst er
  have hq := R.1
  have w : ¬ A1 (lg_ok (S.1 (4 + q))) m 0 = 0 := A1_ok m 0 fun j _ h => ok j (by omega)
  obtain ⟨S', e, g1, g2⟩ := x_wtL T R ok hp 200 S (by omega) (fun _ _ _ => rfl) rfl
  have e : pv_R mX6_weights 25 [some (.ref 0), some (.int (nI p)), some (.int (nI q)), some (.int 0), some (.int 0), some (.int (-9)), some (.int 200)] [] (pv_em S) = _ := e
  have T' : Tw S' n c := Tw_congr (fun k hk => g1 k (by omega) (by omega)) (by rw [g1 37 (by decide) (by decide)]) (by rw [g1 37 (by decide) (by decide)]) (by rw [g1 37 (by decide) (by decide)]) T
  have s4 : S'.1 (4 + q) = S.1 (4 + q) := g1 (4 + q) (by omega) (by omega)
  have R' : LR S' q m := LR_congr (g1 2 (by decide) (by decide)) (g1 38 (by decide) (by decide)) (g1 39 (by decide) (by decide)) s4 R
  have I' : Inv S' := Inv_scr (fun k _ h1 h2 _ _ _ => g1 k h1 h2) (fun j _ => by rw [g1 37 (by decide) (by decide)]) g2 I
  generalize hF : fsh (wtP (S.1 (4 + q)) (S.1 42 p) (S.1 44 6) m) nI (-9) 200 1 = F at e
  have T2 : Tw (pv_si S' 35 1 F) n c := Tw_congr (fun k hk => si_ne (by omega)) (by rw [si_ne (by decide)]) (by rw [si_ne (by decide)]) (by rw [si_ne (by decide)]) T'
  have R2 : LR (pv_si S' 35 1 F) q m := LR_congr (si_ne (by decide)) (si_ne (by decide)) (si_ne (by decide)) (si_ne (by omega)) R'
  have t4 : (pv_si S' 35 1 F).1 (4 + q) = S.1 (4 + q) := by rw [si_ne (by omega)]; exact s4
  refine ⟨nI (cN (wtP (S.1 (4 + q)) (S.1 42 p) (S.1 44 6) m) 200 1), pv_si S' 35 1 F, _, ?_, ?_, Inv_asked (v := F) I'⟩
  · refine Eq.trans (xs_weights T hp R w) ?_
    rw [bX6_weights_13, e]
  · refine Eq.trans (ms_weights T2 hp R2 (by rw [t4]; exact w)) ?_
    rw [bX7_weights_33, m_wtL T2 R2 (by rw [t4]; exact ok) hp, t4, si_ne (k' := 42) (by decide), si_ne (k' := 44) (by decide), g1 42 (by decide) (by decide), g1 44 (by decide) (by decide), hF]
/-! test -/
/-- how many of the set weigh as the kind does -/
def teC (s : Nat) (g : Nat → Int32) (k : Nat) : Nat := cN (fun o => s.testBit o = true ∧ g o = g k) 6 0
def teG (s : Nat) (g : Nat → Int32) : Nat := itf (fun k a => if s.testBit k = true then (if a < teC s g k then teC s g k else a) else a) 6 0 0
theorem teG_le {s : Nat} {g : Nat → Int32} : teG s g ≤ 6 := by
  have h1 : ∀ j k a, a ≤ 6 → itf (fun k a => if s.testBit k = true then (if a < teC s g k then teC s g k else a) else a) j k a ≤ 6 := by
    intro j
    induction j with
    | zero => intro k a h; exact h
    | succ j ih =>
      intro k a h2
      refine ih (k + 1) _ ?_
      dsimp only
      have := cN_le (p := fun o => s.testBit o = true ∧ g o = g k) 6 0
      have hc : teC s g k ≤ 6 := this
      by_cases q : s.testBit k = true
      · rw [if_pos q]
        by_cases q2 : a < teC s g k
        · rw [if_pos q2]; exact hc
        · rw [if_neg q2]; exact h2
      · rw [if_neg q]; exact h2
  exact h1 6 0 0 (by omega)
theorem x_alike {s k : Nat} {g : Nat → Int32} (hs : s < 64) (hk : k < 6) (h : ∀ o, o < 6 → S.1 34 o = g o) {a b : Option Value} : pv_R mX1_alikeTo 0 [some (.ref 32), some (.int (nI k)), some (.int (nI s)), a, b] [] (pv_em S) = some (some (.int (nI (teC s g k))), pv_em S) := by
  rw [bX1_alikeTo_0]
  have e := itf_run (R := fun o (a : Int32) => pv_R mX1_alikeTo 5 [some (.ref 32), some (.int (nI k)), some (.int (nI s)), some (.int a), some (.int (nI o))] [] (pv_em S)) (F := fun a => some (some (.int a), pv_em S)) (f := fun o (a : Int32) => if s.testBit o = true ∧ g o = g k then a + 1 else a) (N := 6) (fun o a ho => ?_) (fun a => ?_) 6 0 0 (by omega)
  · have e1 := cn_N (p := fun o => s.testBit o = true ∧ g o = g k) 6 0 0
    rw [Nat.zero_add] at e1
    refine e.trans ?_
    rw [show itf (fun o (a : Int32) => if s.testBit o = true ∧ g o = g k then a + 1 else a) 6 0 0 = nI (teC s g k) from e1]
  · refine Eq.trans bX1_alikeTo_5 ?_
    rw [show (6 : Int32) = nI 6 from rfl, if_neg (by rw [nIle (by omega) (by omega)]; omega), bX1_alikeTo_12, sh64 s hs o ho]
    by_cases q : s.testBit o = true
    · rw [if_pos q, if_neg (by decide), bX1_alikeTo_21, if_neg (gx (by omega) (by omega)), if_neg (gx (by omega) (by omega)), nIc (by omega), nIc (by omega), h o ho, h k hk]
      by_cases q2 : g o = g k
      · rw [if_neg (fun z => z q2), bX1_alikeTo_37, bX1_alikeTo_40, nIs, if_pos ⟨q, q2⟩]
      · rw [if_pos q2, bX1_alikeTo_40, nIs, if_neg (fun z => q2 z.2)]
    · rw [if_neg q, if_pos rfl, bX1_alikeTo_40, nIs, if_neg (fun z => q z.1)]
  · show pv_R mX1_alikeTo 5 _ _ _ = _
    rw [bX1_alikeTo_5, if_pos (show (6 : Int32) ≤ nI 6 from by decide), bX1_alikeTo_46]
theorem x_gpart {s : Nat} {g : Nat → Int32} (hs : s < 64) (h : ∀ o, o < 6 → S.1 34 o = g o) {a b : Option Value} : pv_R mX1_greatestPart 0 [some (.ref 32), some (.int (nI s)), a, b] [] (pv_em S) = some (some (.int (nI (teG s g))), pv_em S) := by
  rw [bX1_greatestPart_0]
  refine itf_runP (R := fun k (a : Nat) => pv_R mX1_greatestPart 4 [some (.ref 32), some (.int (nI s)), some (.int (nI a)), some (.int (nI k))] [] (pv_em S)) (F := fun a => some (some (.int (nI a)), pv_em S)) (P := fun _ a => a ≤ 6) (N := 6) (fun k a hk ha => ⟨?_, ?_⟩) (fun a _ => ?_) 6 0 0 (by omega) (by omega)
  · refine Eq.trans bX1_greatestPart_4 ?_
    have hc : teC s g k ≤ 6 := cN_le 6 0
    rw [show (6 : Int32) = nI 6 from rfl, if_neg (by rw [nIle (by omega) (by omega)]; omega), bX1_greatestPart_10, sh64 s hs k hk]
    by_cases q : s.testBit k = true
    · rw [if_pos q, if_neg (by decide), bX1_greatestPart_18, x_alike hs hk h, pv_cc_some, bX1_greatestPart_25, bX1_greatestPart_29, nIs, if_pos q]
      by_cases q2 : a < teC s g k
      · rw [if_pos q2, if_pos (by rw [nIlt (by omega) (by omega)]; exact q2)]
      · rw [if_neg q2, if_neg (by rw [nIlt (by omega) (by omega)]; exact q2)]
    · rw [if_neg q, if_pos rfl, bX1_greatestPart_29, nIs, if_neg q]
  · have hc : teC s g k ≤ 6 := cN_le 6 0
    by_cases q : s.testBit k = true
    · rw [if_pos q]
      by_cases q2 : a < teC s g k
      · rw [if_pos q2]; exact hc
      · rw [if_neg q2]; exact ha
    · rw [if_neg q]; exact ha
  · show pv_R mX1_greatestPart 4 _ _ _ = _
    rw [bX1_greatestPart_4, if_pos (show (6 : Int32) ≤ nI 6 from by decide), bX1_greatestPart_35]
/-- as each kind, behind t hours -/
def teA (h w : Int32) (t k : Nat) : Int32 := tw_aft (nI k) h w t
theorem m_alike (T : Tw S n c) {s t : Nat} {w : Int32} (hs : s < 64) (ht : t ≤ 60) {a b d e' : Option Value} : pv_R mX7_alike 0 [some (.ref 37), some (.int (nI s)), some (.int w), some (.int (nI t)), a, b, d, e'] [] (pv_em S) = some (some (.int (nI (teG s (teA (S.1 44 6) w t)))), pv_em S) := by
  have hh := tw_hb T
  rw [bX7_alike_0]
  obtain ⟨⟨x, j1, j2⟩, e, hx, _⟩ := lpF (R := fun k (z : Nat × Option Value × Option Value) => pv_R mX7_alike 6 [some (.ref 37), some (.int (nI s)), some (.int w), some (.int (nI t)), some (.int (nI z.1)), some (.int (nI k)), z.2.1, z.2.2] [] (pv_em S)) (N := 6) (fun z => z.1) (fun k a => if s.testBit k = true then (if a < teC s (teA (S.1 44 6) w t) k then teC s (teA (S.1 44 6) w t) k else a) else a) (fun _ z => z.1 ≤ 6) (fun k z hk hz => by
    obtain ⟨a, j1, j2⟩ := z
    have hz : a ≤ 6 := hz
    have hc : teC s (teA (S.1 44 6) w t) k ≤ 6 := cN_le 6 0
    refine ⟨(if s.testBit k = true then (if a < teC s (teA (S.1 44 6) w t) k then teC s (teA (S.1 44 6) w t) k else a) else a, some (.int (nI (if s.testBit k = true then teC s (teA (S.1 44 6) w t) k else 0))), some (.int (nI 6))), ?_, rfl, ?_⟩
    · refine Eq.trans bX7_alike_6 ?_
      have inner : pv_R mX7_alike 19 [some (.ref 37), some (.int (nI s)), some (.int w), some (.int (nI t)), some (.int (nI a)), some (.int (nI k)), some (.int 0), some (.int 0)] [] (pv_em S) = pv_R mX7_alike 79 [some (.ref 37), some (.int (nI s)), some (.int w), some (.int (nI t)), some (.int (nI a)), some (.int (nI k)), some (.int (nI (if s.testBit k = true then teC s (teA (S.1 44 6) w t) k else 0))), some (.int (nI 6))] [] (pv_em S) := by
        have ei := itf_run (R := fun o (b : Int32) => pv_R mX7_alike 19 [some (.ref 37), some (.int (nI s)), some (.int w), some (.int (nI t)), some (.int (nI a)), some (.int (nI k)), some (.int b), some (.int (nI o))] [] (pv_em S)) (F := fun b => pv_R mX7_alike 79 [some (.ref 37), some (.int (nI s)), some (.int w), some (.int (nI t)), some (.int (nI a)), some (.int (nI k)), some (.int b), some (.int (nI 6))] [] (pv_em S)) (f := fun o (b : Int32) => if s.testBit k = true ∧ s.testBit o = true ∧ teA (S.1 44 6) w t o = teA (S.1 44 6) w t k then b + 1 else b) (N := 6) (fun o b ho => by
          refine Eq.trans bX7_alike_19 ?_
          rw [show (6 : Int32) = nI 6 from rfl, if_neg (by rw [nIle (by omega) (by omega)]; omega), bX7_alike_26, m_has hs hk, pv_cc_some, bX7_alike_34]
          by_cases q1 : s.testBit k = true
          · rw [bI_t q1, if_neg (by decide), bX7_alike_37, m_has hs ho, pv_cc_some, bX7_alike_43]
            by_cases q2 : s.testBit o = true
            · rw [bI_t q2, if_neg (by decide), bX7_alike_46, m_after (by omega) hh.1 (by omega), pv_cc_some, bX7_alike_54, m_after (by omega) hh.1 (by omega), pv_cc_some, bX7_alike_62]
              by_cases q3 : teA (S.1 44 6) w t o = teA (S.1 44 6) w t k
              · rw [if_neg (fun z => z q3.symm), bX7_alike_65, bX7_alike_70, nIs, if_pos ⟨q1, q2, q3⟩]
              · rw [if_pos (fun z => q3 z.symm), bX7_alike_69, bX7_alike_70, nIs, if_neg (fun z => q3 z.2.2), Int32.add_zero]
            · rw [bI_f q2, if_pos rfl, bX7_alike_69, bX7_alike_70, nIs, if_neg (fun z => q2 z.2.1), Int32.add_zero]
          · rw [bI_f q1, if_pos rfl, bX7_alike_69, bX7_alike_70, nIs, if_neg (fun z => q1 z.1), Int32.add_zero]) (fun b => by
          show pv_R mX7_alike 19 _ _ _ = _
          rw [bX7_alike_19, if_pos (show (6 : Int32) ≤ nI 6 from by decide)]) 6 0 0 (by omega)
        have e1 := cn_N (p := fun o => s.testBit k = true ∧ s.testBit o = true ∧ teA (S.1 44 6) w t o = teA (S.1 44 6) w t k) 6 0 0
        rw [Nat.zero_add] at e1
        have e2 : cN (fun o => s.testBit k = true ∧ s.testBit o = true ∧ teA (S.1 44 6) w t o = teA (S.1 44 6) w t k) 6 0 = if s.testBit k = true then teC s (teA (S.1 44 6) w t) k else 0 := by
          by_cases q1 : s.testBit k = true
          · rw [if_pos q1]
            exact cN_congr (fun o => ⟨fun z => z.2, fun z => ⟨q1, z⟩⟩) 6 0
          · rw [if_neg q1]
            exact (cN_0 6 0).mpr fun o _ _ z => q1 z.1
        rw [e2] at e1
        refine ei.trans ?_
        rw [show itf (fun o (b : Int32) => if s.testBit k = true ∧ s.testBit o = true ∧ teA (S.1 44 6) w t o = teA (S.1 44 6) w t k then b + 1 else b) 6 0 0 = _ from e1]
      rw [if_neg (show ¬ (6 : Int32) ≤ nI k from by rw [show (6 : Int32) = nI 6 from rfl, nIle (by omega) (by omega)]; omega), bX7_alike_13, inner, bX7_alike_79]
      by_cases q : s.testBit k = true
      · rw [if_pos q, if_pos q]
        by_cases q2 : a < teC s (teA (S.1 44 6) w t) k
        · rw [if_pos q2, if_neg (by rw [nIle (by omega) (by omega)]; omega), bX7_alike_86, bX7_alike_93, nIs]
        · rw [if_neg q2, if_pos (by rw [nIle (by omega) (by omega)]; omega), bX7_alike_91, bX7_alike_93, nIs]
      · rw [if_neg q, if_neg q, if_pos (by rw [nIle (by omega) (by omega)]; omega), bX7_alike_91, bX7_alike_93, nIs]
    · dsimp only
      by_cases q : s.testBit k = true
      · rw [if_pos q]
        by_cases q2 : a < teC s (teA (S.1 44 6) w t) k
        · rw [if_pos q2]; exact hc
        · rw [if_neg q2]; exact hz
      · rw [if_neg q]; exact hz) 6 0 (0, d, e') (by omega) (show (0 : Nat) ≤ 6 by omega)
  have hx : x = teG s (teA (S.1 44 6) w t) := hx
  refine Eq.trans e ?_
  rw [hx]
  show pv_R mX7_alike 6 _ _ _ = _
  rw [bX7_alike_6, if_pos (show (6 : Int32) ≤ nI 6 from by decide), bX7_alike_101]
theorem x_start {w : Int32} {a : Option Value} : ∃ S', pv_R mX1_startKinds 0 [some (.ref 32), some (.int w), a] [] (pv_em S) = some (none, pv_em S') ∧ (∀ k, k ≠ 34 → S'.1 k = S.1 k) ∧ S'.2 = S.2 ∧ ∀ o, o < 6 → S'.1 34 o = w := by
  rw [bX1_startKinds_0]
  obtain ⟨S', e, h1, h2, h3⟩ := lpE (R := fun k (Z : pv_S) => pv_R mX1_startKinds 2 [some (.ref 32), some (.int w), some (.int (nI k))] [] (pv_em Z)) (N := 6) (fun k Z => (∀ k', k' ≠ 34 → Z.1 k' = S.1 k') ∧ Z.2 = S.2 ∧ ∀ o, o < k → Z.1 34 o = w) (fun k Z hk hP => by
    obtain ⟨h1, h2, h3⟩ := hP
    refine ⟨pv_si Z 34 k w, ?_, fun k' z => by rw [si_ne z]; exact h1 k' z, h2, fun o ho => ?_⟩
    · refine Eq.trans bX1_startKinds_2 ?_
      rw [show (6 : Int32) = nI 6 from rfl, if_neg (by rw [nIle (by omega) (by omega)]; omega), bX1_startKinds_8, if_neg (gx (by omega) (by omega)), nIc (by omega), nIs]
    · rw [si_eq]
      by_cases e : o = k
      · rw [e, upd_eq]
      · rw [upd_ne e]; exact h3 o (by omega)) 6 0 S (by omega) ⟨fun _ _ => rfl, rfl, fun o ho => absurd ho (by omega)⟩
  refine ⟨S', Eq.trans e ?_, h1, h2, h3⟩
  show pv_R mX1_startKinds 2 _ _ _ = _
  rw [bX1_startKinds_2, if_pos (show (6 : Int32) ≤ nI 6 from by decide), bX1_startKinds_21]
theorem x_pass {g : Nat → Int32} {h : Int32} (h0 : 0 ≤ h.toInt) (hg : ∀ o, o < 6 → S.1 34 o = g o) {a : Option Value} : ∃ S', pv_R mX1_passKinds 0 [some (.ref 32), some (.int h), a] [] (pv_em S) = some (none, pv_em S') ∧ (∀ k, k ≠ 34 → S'.1 k = S.1 k) ∧ S'.2 = S.2 ∧ ∀ o, o < 6 → S'.1 34 o = tw_held (g o + tw_adds (nI o) h) := by
  rw [bX1_passKinds_0]
  obtain ⟨S', e, h1, h2, h3⟩ := lpE (R := fun k (Z : pv_S) => pv_R mX1_passKinds 2 [some (.ref 32), some (.int h), some (.int (nI k))] [] (pv_em Z)) (N := 6) (fun k Z => (∀ k', k' ≠ 34 → Z.1 k' = S.1 k') ∧ Z.2 = S.2 ∧ ∀ o, o < 6 → Z.1 34 o = if o < k then tw_held (g o + tw_adds (nI o) h) else g o) (fun k Z hk hP => by
    obtain ⟨h1, h2, h3⟩ := hP
    refine ⟨pv_si Z 34 k (tw_held (g k + tw_adds (nI k) h)), ?_, fun k' z => by rw [si_ne z]; exact h1 k' z, h2, fun o ho => ?_⟩
    · refine Eq.trans bX1_passKinds_2 ?_
      rw [show (6 : Int32) = nI 6 from rfl, if_neg (by rw [nIle (by omega) (by omega)]; omega), bX1_passKinds_8, if_neg (gx (by omega) (by omega)), nIc (by omega), h3 k hk, if_neg (by omega), x_after h0, pv_cc_some, bX1_passKinds_24, if_neg (gx (by omega) (by omega)), nIc (by omega), nIs]
    · rw [si_eq]
      by_cases e : o = k
      · rw [e, upd_eq, if_pos (by omega)]
      · rw [upd_ne e, h3 o ho]
        by_cases e2 : o < k
        · rw [if_pos e2, if_pos (by omega)]
        · rw [if_neg e2, if_neg (by omega)]) 6 0 S (by omega) ⟨fun _ _ => rfl, rfl, fun o ho => by rw [if_neg (by omega)]; exact hg o ho⟩
  refine ⟨S', Eq.trans e ?_, h1, h2, fun o ho => by rw [h3 o ho, if_pos ho]⟩
  show pv_R mX1_passKinds 2 _ _ _ = _
  rw [bX1_passKinds_2, if_pos (show (6 : Int32) ≤ nI 6 from by decide), bX1_passKinds_31]
def teS (s : Nat) (h w : Int32) : Nat → Int32 × Int32 → Int32 × Int32 := st_s fun t => nI (teG s (teA h w t))
theorem x_testL (T : Tw S n c) {s : Nat} (hs : s < 64) {w x1 x2 x3 : Int32} (h34 : ∀ o, o < 6 → S.1 34 o = w) {z : Option Value} : ∃ S', pv_R mX6_test 55 [some (.ref 0), some (.int x1), some (.int x2), some (.int x3), some (.int (nI s)), some (.int 0), some (.int 7), some (.int 0), z] [] (pv_em S) = some (some (.int (itf (teS s (S.1 44 6) w) 41 0 (0, 7)).1), pv_em (pv_si S' 35 1 (itf (teS s (S.1 44 6) w) 41 0 (0, 7)).2)) ∧ (∀ k, k ≠ 34 → S'.1 k = S.1 k) ∧ S'.2 = S.2 := by
  obtain ⟨h, eh, hh⟩ := tw_hN T
  obtain ⟨⟨⟨p1, p2⟩, j, S'⟩, e, hp, h1, h2, h3⟩ := lpF (R := fun k (q : (Int32 × Int32) × Option Value × pv_S) => pv_R mX6_test 55 [some (.ref 0), some (.int x1), some (.int x2), some (.int x3), some (.int (nI s)), some (.int q.1.1), some (.int q.1.2), some (.int (nI k)), q.2.1] [] (pv_em q.2.2)) (N := 41) (fun q => q.1) (teS s (S.1 44 6) w) (fun k q => (∀ k, k ≠ 34 → q.2.2.1 k = S.1 k) ∧ q.2.2.2 = S.2 ∧ ∀ o, o < 6 → q.2.2.1 34 o = teA (S.1 44 6) w k o) (fun k q hk hP => by
    obtain ⟨⟨p1, p2⟩, j, Z⟩ := q
    obtain ⟨g1, g2, g3⟩ := hP
    have g1 : ∀ k, k ≠ 34 → Z.1 k = S.1 k := g1
    have g3 : ∀ o, o < 6 → Z.1 34 o = teA (S.1 44 6) w k o := g3
    have e9 : Z.1 21 9 + nI k = nI (h + k) := by rw [g1 21 (by decide), tw_h T, eh, nIadd]
    obtain ⟨Z', e, k1, k2, k3⟩ := x_pass (S := Z) (h := nI (h + k)) (by rw [nIt (by omega)]; omega) g3 (a := none)
    refine ⟨(teS s (S.1 44 6) w k (p1, p2), some (.int (nI (teG s (teA (S.1 44 6) w k)))), Z'), ?_, rfl, fun k z1 => (k1 k z1).trans (g1 k z1), k2.trans g2, fun o ho => ?_⟩
    · refine Eq.trans bX6_test_55 ?_
      rw [show (40 : Int32) = nI 40 from rfl, if_neg (by rw [nIlt (by omega) (by omega)]; omega), bX6_test_62, x_gpart hs g3, pv_cc_some, bX6_test_71]
      by_cases w1 : p2 ≤ nI (teG s (teA (S.1 44 6) w k))
      · rw [show teS s (S.1 44 6) w k (p1, p2) = (p1, p2) from if_pos w1, if_pos w1, bX6_test_88, e9, e, pv_cc_void, bX6_test_105, nIs]
      · rw [show teS s (S.1 44 6) w k (p1, p2) = (nI k, nI (teG s (teA (S.1 44 6) w k))) from if_neg w1, if_neg w1, bX6_test_80, bX6_test_88, e9, e, pv_cc_void, bX6_test_105, nIs]
    · show Z'.1 34 o = tw_held (teA (S.1 44 6) w k o + tw_adds (nI o) (S.1 44 6 + nI k))
      rw [k3 o ho, eh, nIadd]) 41 0 ((0, 7), z, S) (by omega) ⟨fun _ _ => rfl, rfl, fun o ho => h34 o ho⟩
  have hp : (p1, p2) = itf (teS s (S.1 44 6) w) 41 0 (0, 7) := hp
  refine ⟨S', Eq.trans e ?_, h1, h2⟩
  rw [← hp]
  show pv_R mX6_test 55 _ _ _ = _
  rw [bX6_test_55, if_pos (show (40 : Int32) < nI 41 from by decide), bX6_test_111]
theorem m_testL (T : Tw S n c) {s i : Nat} (hs : s < 64) (hi : i < n) {x2 x3 : Int32} {z : Option Value} : pv_R mX7_test 59 [some (.ref 37), some (.int (nI i)), some (.int x2), some (.int x3), some (.int (nI s)), some (.int 0), some (.int 1000000), some (.int 0), z] [] (pv_em S) = some (some (.int (itf (teS s (S.1 44 6) (S.1 44 i)) 41 0 (0, 1000000)).1), pv_em (pv_si S 37 13 (itf (teS s (S.1 44 6) (S.1 44 i)) 41 0 (0, 1000000)).2)) := by
  have hn := tw_n T
  obtain ⟨⟨⟨p1, p2⟩, j⟩, e, hp, _⟩ := lpF (R := fun k (q : (Int32 × Int32) × Option Value) => pv_R mX7_test 59 [some (.ref 37), some (.int (nI i)), some (.int x2), some (.int x3), some (.int (nI s)), some (.int q.1.1), some (.int q.1.2), some (.int (nI k)), q.2] [] (pv_em S)) (N := 41) (fun q => q.1) (teS s (S.1 44 6) (S.1 44 i)) (fun _ _ => True) (fun k q hk _ => by
    obtain ⟨⟨p1, p2⟩, j⟩ := q
    refine ⟨(teS s (S.1 44 6) (S.1 44 i) k (p1, p2), some (.int (nI (teG s (teA (S.1 44 6) (S.1 44 i) k))))), ?_, rfl, trivial⟩
    refine Eq.trans bX7_test_59 ?_
    rw [show (41 : Int32) = nI 41 from rfl, if_neg (by rw [nIle (by omega) (by omega)]; omega), bX7_test_66, Int32.zero_add, if_neg (gx (by omega) (by omega)), nIc (by omega), m_alike T hs (by omega), pv_cc_some, bX7_test_82]
    by_cases w1 : p2 ≤ nI (teG s (teA (S.1 44 6) (S.1 44 i) k))
    · rw [show teS s (S.1 44 6) (S.1 44 i) k (p1, p2) = (p1, p2) from if_pos w1, if_pos w1, bX7_test_96, bX7_test_98, if_pos w1, bX7_test_112, bX7_test_114, nIs]
    · rw [show teS s (S.1 44 6) (S.1 44 i) k (p1, p2) = (nI k, nI (teG s (teA (S.1 44 6) (S.1 44 i) k))) from if_neg w1, if_neg w1, bX7_test_91, bX7_test_98, if_neg w1, bX7_test_107, bX7_test_114, nIs]) 41 0 ((0, 1000000), z) (by omega) trivial
  have hp : (p1, p2) = itf (teS s (S.1 44 6) (S.1 44 i)) 41 0 (0, 1000000) := hp
  refine Eq.trans e ?_
  rw [← hp]
  show pv_R mX7_test 59 _ _ _ = _
  rw [bX7_test_59, if_pos (show (41 : Int32) ≤ nI 41 from by decide), bX7_test_122, bX7_answer_0, pv_cc_some, bX7_test_130]
theorem te_eq {s : Nat} {h w : Int32} : itf (teS s h w) 41 0 (0, 1000000) = itf (teS s h w) 41 0 (0, 7) := by
  have hl := teG_le (s := s) (g := teA h w 0)
  have u1 : teS s h w 0 (0, 1000000) = (nI 0, nI (teG s (teA h w 0))) := if_neg (by
    show ¬ (1000000 : Int32) ≤ nI (teG s (teA h w 0))
    rw [Int32.le_iff_toInt_le, show (1000000 : Int32).toInt = 1000000 from by decide, nIt (by omega)]; omega)
  have u2 : teS s h w 0 (0, 7) = (nI 0, nI (teG s (teA h w 0))) := if_neg (by
    show ¬ nI 7 ≤ nI (teG s (teA h w 0))
    rw [nIle (by omega) (by omega)]; omega)
  show itf (teS s h w) 40 1 (teS s h w 0 (0, 1000000)) = itf (teS s h w) 40 1 (teS s h w 0 (0, 7))
  rw [u1, u2]
theorem tq_test (I : Inv S) (i r : Int32) : pv_goI Inv S mX6_test mX7_test [.int i, .int r] := by
  obtain ⟨n, c, T⟩ := tw_of I
  have hn := tw_n T
  refine led_test I T i r fun p q m hp ei er R ok => ?_
  subst ei; subst er
  have hq := R.1
  have w : ¬ A1 (lg_ok (S.1 (4 + q))) m 0 = 0 := A1_ok m 0 fun j _ h => ok j (by omega)
  obtain ⟨S', e, g1, g2⟩ := x_kf T R ok hp (a := none) (b := none)
  have T' : Tw S' n c := Tw_congr (fun k hk => g1 k (by omega) (by omega)) (by rw [g1 37 (by decide) (by decide)]) (by rw [g1 37 (by decide) (by decide)]) (by rw [g1 37 (by decide) (by decide)]) T
  have s4 : S'.1 (4 + q) = S.1 (4 + q) := g1 (4 + q) (by omega) (by omega)
  have R' : LR S' q m := LR_congr (g1 2 (by decide) (by decide)) (g1 38 (by decide) (by decide)) (g1 39 (by decide) (by decide)) s4 R
  have I' : Inv S' := Inv_scr (fun k _ h1 h2 _ _ _ => g1 k h1 h2) (fun j _ => by rw [g1 37 (by decide) (by decide)]) g2 I
  have hl := kf_lt (L := S.1 (4 + q)) (h := S.1 44 6) (w := S.1 44 p) (m := m)
  generalize hK : kfN (S.1 (4 + q)) (S.1 44 6) (S.1 44 p) m = K at e hl
  by_cases z : K = 0
  · subst z
    refine ⟨-9, S', S', ?_, ?_, I'⟩
    · refine Eq.trans (xs_test T hp R w) ?_
      rw [bX6_test_13, e, pv_cc_some, bX6_test_19, if_neg (fun y => y rfl), bX6_test_26]
    · refine Eq.trans (ms_test T' hp R' (by rw [s4]; exact w)) ?_
      rw [bX7_test_33, m_kf T' R' (by rw [s4]; exact ok) hp, pv_cc_some, s4, g1 44 (by decide) (by decide), hK, bX7_test_39, if_neg (fun y => y rfl), bX7_test_46]
  · have z' : ¬ nI K = 0 := by rw [show (0 : Int32) = nI 0 from rfl, nIeq (by omega) (by omega)]; exact z
    obtain ⟨S2, e2, k1, k2, k3⟩ := x_start (S := S') (w := S'.1 25 p) (a := none)
    have T2 : Tw S2 n c := Tw_congr (fun k hk => k1 k (by omega)) (by rw [k1 37 (by decide)]) (by rw [k1 37 (by decide)]) (by rw [k1 37 (by decide)]) T'
    obtain ⟨S3, e3, l1, l2⟩ := x_testL T2 hl k3 (x1 := nI p) (x2 := nI q) (x3 := 0) (z := none)
    have a1 : ∀ k, k ≠ 32 → k ≠ 33 → k ≠ 34 → S3.1 k = S.1 k := fun k z1 z2 z3 => by rw [l1 k z3, k1 k z3]; exact g1 k z1 z2
    have T3 : Tw S3 n c := Tw_congr (fun k hk => l1 k (by omega)) (by rw [l1 37 (by decide)]) (by rw [l1 37 (by decide)]) (by rw [l1 37 (by decide)]) T2
    have I3 : Inv S3 := Inv_scr (fun k _ h1 h2 h3 _ _ => a1 k h1 h2 h3) (fun j _ => by rw [a1 37 (by decide) (by decide) (by decide)]) (l2.trans (k2.trans g2)) I
    have ew : S'.1 25 p = S.1 44 p := by rw [tw_w T' hp, g1 44 (by decide) (by decide)]
    rw [k1 44 (by decide), g1 44 (by decide) (by decide), ew] at e3
    generalize hX : itf (teS K (S.1 44 6) (S.1 44 p)) 41 0 (0, 7) = X at e3
    have T4 : Tw (pv_si S3 35 1 X.2) n c := Tw_congr (fun k hk => si_ne (by omega)) (by rw [si_ne (by decide)]) (by rw [si_ne (by decide)]) (by rw [si_ne (by decide)]) T3
    have b1 : ∀ k, k ≠ 32 → k ≠ 33 → k ≠ 34 → k ≠ 35 → (pv_si S3 35 1 X.2).1 k = S.1 k := fun k z1 z2 z3 z4 => by rw [si_ne z4]; exact a1 k z1 z2 z3
    have R4 : LR (pv_si S3 35 1 X.2) q m := LR_congr (b1 2 (by decide) (by decide) (by decide) (by decide)) (b1 38 (by decide) (by decide) (by decide) (by decide)) (b1 39 (by decide) (by decide) (by decide) (by decide)) (b1 (4 + q) (by omega) (by omega) (by omega) (by omega)) R
    have t4 : (pv_si S3 35 1 X.2).1 (4 + q) = S.1 (4 + q) := b1 (4 + q) (by omega) (by omega) (by omega) (by omega)
    have t44 : (pv_si S3 35 1 X.2).1 44 = S.1 44 := b1 44 (by decide) (by decide) (by decide) (by decide)
    refine ⟨X.1, pv_si S3 35 1 X.2, _, ?_, ?_, Inv_asked (v := X.2) I3⟩
    · refine Eq.trans (xs_test T hp R w) ?_
      rw [bX6_test_13, e, pv_cc_some, bX6_test_19, if_pos z', bX6_test_29, if_neg (gx (by omega) (by omega)), nIc (by omega), e2, pv_cc_void, bX6_test_45, e3]
    · refine Eq.trans (ms_test T4 hp R4 (by rw [t4]; exact w)) ?_
      rw [bX7_test_33, m_kf T4 R4 (by rw [t4]; exact ok) hp, pv_cc_some, t4, t44, hK, bX7_test_39, if_pos z', bX7_test_49, m_testL T4 hl hp, t44, te_eq, hX]
end WT
