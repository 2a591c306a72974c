/-! ===== reading a town: the reference ===== -/
def MX (S : pv_S) (q N : Nat) (L : Nat → Int32) : Prop := q < 4 ∧ N ≤ 60 ∧ S.1 40 q = nI N ∧ ∀ j, j < N → S.1 41 (60 * q + j) = L j
def FM (S S' : pv_S) : Prop := (∀ c, c ≠ 37 → c ≠ 49 → S'.1 c = S.1 c) ∧ S'.2 = S.2 ∧ ∀ j, j ≠ 18 → j ≠ 19 → j ≠ 20 → j ≠ 22 → j ≠ 23 → S'.1 37 j = S.1 37 j
def FW (S S' : pv_S) : Prop := (∀ c, c ≠ 37 → S'.1 c = S.1 c) ∧ S'.2 = S.2 ∧ ∀ j, j ≠ 18 → j ≠ 22 → j ≠ 23 → S'.1 37 j = S.1 37 j
theorem FM_refl {S : pv_S} : FM S S := ⟨fun _ _ _ => rfl, rfl, fun _ _ _ _ _ _ => rfl⟩
theorem FM_trans {S S' S'' : pv_S} (h : FM S S') (h' : FM S' S'') : FM S S'' := ⟨fun c a1 a2 => (h'.1 c a1 a2).trans (h.1 c a1 a2), h'.2.1.trans h.2.1, fun j a1 a2 a3 a4 a5 => (h'.2.2 j a1 a2 a3 a4 a5).trans (h.2.2 j a1 a2 a3 a4 a5)⟩
theorem FW_FM {S S' : pv_S} (h : FW S S') : FM S S' := ⟨fun c a1 _ => h.1 c a1, h.2.1, fun j a1 _ _ a4 a5 => h.2.2 j a1 a4 a5⟩
theorem FW_refl {S : pv_S} : FW S S := ⟨fun _ _ => rfl, rfl, fun _ _ _ _ => rfl⟩
theorem FW_trans {S S' S'' : pv_S} (h : FW S S') (h' : FW S' S'') : FW S S'' := ⟨fun c a1 => (h'.1 c a1).trans (h.1 c a1), h'.2.1.trans h.2.1, fun j a1 a2 a3 => (h'.2.2 j a1 a2 a3).trans (h.2.2 j a1 a2 a3)⟩
theorem FW_si {S : pv_S} {i : Nat} {v : Int32} (h : i = 18 ∨ i = 22 ∨ i = 23) : FW S (pv_si S 37 i v) := ⟨fun _ h => si_ne h, rfl, fun j a1 a2 a3 => si_j (by omega)⟩
theorem FM_si {S : pv_S} {i : Nat} {v : Int32} (h : i = 18 ∨ i = 19 ∨ i = 20 ∨ i = 22 ∨ i = 23) : FM S (pv_si S 37 i v) := ⟨fun _ h _ => si_ne h, rfl, fun j a1 a2 a3 a4 a5 => si_j (by omega)⟩
theorem FM_49 {S : pv_S} {i : Nat} {v : Int32} : FM S (pv_si S 49 i v) := ⟨fun _ _ h => si_ne h, rfl, fun j _ _ _ _ _ => by rw [si_ne (by decide)]⟩
theorem FM_MX {S S' : pv_S} {q N : Nat} {L : Nat → Int32} (h : FM S S') (X : MX S q N L) : MX S' q N L := by
  obtain ⟨x1, x2, x3, x4⟩ := X
  refine ⟨x1, x2, by rw [h.1 40 (by decide) (by decide)]; exact x3, fun j hj => ?_⟩
  rw [h.1 41 (by decide) (by decide)]
  exact x4 j hj
theorem e60m {m : Nat} (h : m ≤ 1000) : (60 : Int32) * nI m = nI (60 * m) := by
  refine Int32.toInt_inj.mp ?_
  rw [ml_i (by rw [i60, nIt (by omega)]; omega) (by rw [i60, nIt (by omega)]; omega), i60, nIt (by omega), nIt (by omega)]
  omega
theorem e3m {m : Nat} (h : m ≤ 1000) : (3 : Int32) * nI m = nI (3 * m) := by
  refine Int32.toInt_inj.mp ?_
  rw [ml_i (by rw [i3, nIt (by omega)]; omega) (by rw [i3, nIt (by omega)]; omega), i3, nIt (by omega), nIt (by omega)]
  omega
section RM
variable {S : pv_S} {q N h k : Nat} {L : Nat → Int32}
theorem m_byte (X : MX S q N L) (h5 : S.1 37 18 = nI h) (hh : h ≤ N) : pv_R mX7_byteAt 0 [some (.ref 37), some (.int (nI q))] [] (pv_em S) = some (some (.int (if h < N then L h else -1000)), pv_em S) := by
  obtain ⟨x1, x2, x3, x4⟩ := X
  rw [bX7_byteAt_0, if_neg (gx (by omega) (by omega)), nIc (by omega), x3, h5, if_c (id := inferInstance) (nIle (by omega) (by omega))]
  by_cases c : h < N
  · rw [if_neg (by omega), if_pos c, bX7_byteAt_13, h5, e60m (by omega), nIadd, if_neg (gx (by omega) (by omega)), nIc (by omega), x4 h c, bX7_byteAt_33]
  · rw [if_pos (by omega), if_neg c, bX7_byteAt_30, bX7_byteAt_33]
theorem m_blanksL : ∀ (m h : Nat) (S : pv_S), h + m = N → S.1 37 18 = nI h → MX S q N L → pv_R mX7_blanks 0 [some (.ref 37), some (.int (nI q))] [] (pv_em S) = some (none, pv_em (pv_si S 37 18 (nI (skq L N h))))
  | 0, h, S, hm, h5, X => by
    rw [skq_n (by omega), si_id h5, bX7_blanks_0, m_byte X h5 (by omega), pv_cc_some, if_neg (by omega), bX7_blanks_5, if_pos (by decide), bX7_blanks_23]
  | m + 1, h, S, hm, h5, X => by
    have ih := m_blanksL m (h + 1) (pv_si S 37 18 (nI (h + 1))) (by omega) si_jj (FM_MX (FM_si (by omega)) X)
    rw [si_si] at ih
    rw [bX7_blanks_0, m_byte X h5 (by omega), pv_cc_some, if_pos (by omega), bX7_blanks_5]
    by_cases c : L h = 32
    · rw [if_neg (fun z => z c), bX7_blanks_10, h5, nIs, ih, skq_s (by omega) c]
    · rw [if_pos c, bX7_blanks_23, skq_n (fun z => c z.2), si_id h5]
theorem m_blanks (X : MX S q N L) (h5 : S.1 37 18 = nI h) (hh : h ≤ N) : pv_R mX7_blanks 0 [some (.ref 37), some (.int (nI q))] [] (pv_em S) = some (none, pv_em (pv_si S 37 18 (nI (skq L N h)))) := m_blanksL (N - h) h S (by omega) h5 X
theorem m_takes (X : MX S q N L) (h5 : S.1 37 18 = nI h) (hh : h ≤ N) {l : Nat} (hl : l ≤ 1) : ((dig L N h ∧ l ≤ dv L h) ∧ pv_R mX7_takes 0 [some (.ref 37), some (.int (nI q)), some (.int (nI l))] [] (pv_em S) = some (some (.int 1), pv_em (pv_si (pv_si S 37 22 (nI (dv L h))) 37 18 (nI (h + 1))))) ∨ (¬ (dig L N h ∧ l ≤ dv L h) ∧ ∃ f, pv_R mX7_takes 0 [some (.ref 37), some (.int (nI q)), some (.int (nI l))] [] (pv_em S) = some (some (.int 0), pv_em (pv_si S 37 22 f))) := by
  have x2 := X.2.1
  rw [bX7_takes_0, m_byte X h5 hh, pv_cc_some, bX7_takes_6, c_in, pv_cc_some, si_jj, Int32.toInt_toInt64, Int32.toInt_toInt64, nIt (by omega), j9, bX7_takes_25]
  by_cases d : dig L N h
  · have v := dv_e d
    rw [if_pos d.1, v.1, nIt (by omega)]
    by_cases c : l ≤ dv L h
    · left
      refine ⟨⟨d, c⟩, ?_⟩
      rw [bI_t ⟨by omega, by omega⟩, if_pos (by decide), bX7_takes_30, si_j (by decide), h5, nIs]
    · right
      refine ⟨fun z => c z.2, nI (dv L h), ?_⟩
      rw [bI_f (fun y => c (by omega)), if_neg (fun z => z rfl), bX7_takes_28]
  · right
    refine ⟨fun z => d z.1, (if h < N then L h else -1000) - 48, ?_⟩
    rw [bI_f, if_neg (fun z => z rfl), bX7_takes_28]
    intro y
    have e48 : (48 : Int32).toInt = 48 := by decide
    by_cases c : h < N
    · rw [if_pos c] at y
      have e : (L h).toInt = (L h - 48).toInt + 48 := by
        have : L h = (L h - 48) + 48 := (Int32.sub_add_cancel _ _).symm
        conv => lhs; rw [this]
        rw [ad_i (by rw [e48]; omega) (by rw [e48]; omega), e48]
      exact d ⟨c, by omega, by omega⟩
    · rw [if_neg c, show ((-1000 : Int32) - 48).toInt = -1048 from by decide] at y
      omega
theorem m_tw (X : MX S q N L) (h5 : S.1 37 18 = nI h) (hh : h ≤ N) : ∃ S', pv_R mX7_takesWeight 0 [some (.ref 37), some (.int (nI q))] [] (pv_em S) = some (some (.int (if (tkW L N h).2 = 0 then 0 else 1)), pv_em S') ∧ FW S S' ∧ S'.1 37 18 = nI (tkW L N h).1 ∧ (¬ (tkW L N h).2 = 0 → S'.1 37 23 = nI (tkW L N h).2) := by
  have x2 := X.2.1
  rw [bX7_takesWeight_0]
  rcases m_takes X h5 hh (l := 0) (by omega) with ⟨⟨d, _⟩, e⟩ | ⟨d, f, e⟩
  · have v := dv_e d
    have d1 := d.1
    have z37 : (pv_si (pv_si S 37 22 (nI (dv L h))) 37 18 (nI (h + 1))).1 37 22 = nI (dv L h) := by rw [si_j (by decide), si_jj]
    have F1 : FW S (pv_si (pv_si (pv_si S 37 22 (nI (dv L h))) 37 18 (nI (h + 1))) 37 23 (nI (10 * dv L h))) := FW_trans (FW_si (by omega)) (FW_trans (FW_si (by omega)) (FW_si (by omega)))
    have s1 : (pv_si (pv_si (pv_si S 37 22 (nI (dv L h))) 37 18 (nI (h + 1))) 37 23 (nI (10 * dv L h))).1 37 18 = nI (h + 1) := by rw [si_j (by decide), si_jj]
    have e : pv_R mX7_takes 0 [some (.ref 37), some (.int (nI q)), some (.int 0)] [] (pv_em S) = _ := e
    rw [e, pv_cc_some, bX7_takesWeight_6, if_pos (by decide), bX7_takesWeight_11, z37, e10m (by omega), si_jj, if_c (id := inferInstance) (nIz (by omega))]
    have go : ∀ l, l ≤ 1 → (l = 0 ↔ dv L h ≠ 0) → ∃ S', pv_R mX7_takesWeight 36 [some (.ref 37), some (.int (nI q))] [.int (nI l), .int (nI q), .ref 37] (pv_em (pv_si (pv_si (pv_si S 37 22 (nI (dv L h))) 37 18 (nI (h + 1))) 37 23 (nI (10 * dv L h)))) = some (some (.int (if (tkW L N h).2 = 0 then 0 else 1)), pv_em S') ∧ FW S S' ∧ S'.1 37 18 = nI (tkW L N h).1 ∧ (¬ (tkW L N h).2 = 0 → S'.1 37 23 = nI (tkW L N h).2) := by
      intro l hl hl2
      rw [bX7_takesWeight_36]
      rcases m_takes (FM_MX (FW_FM F1) X) s1 (show h + 1 ≤ N by omega) hl with ⟨⟨d2, g⟩, e2⟩ | ⟨d2, f, e2⟩
      · have v2 := dv_e d2
        have ew : tkW L N h = (h + 2, 10 * dv L h + dv L (h + 1)) := by
          unfold tkW
          rw [if_pos d, if_pos ⟨d2, by omega⟩]
        rw [ew, e2, pv_cc_some, bX7_takesWeight_39, if_pos (by decide), bX7_takesWeight_44, if_neg (show ¬ 10 * dv L h + dv L (h + 1) = 0 by omega)]
        refine ⟨_, rfl, FW_trans F1 (FW_trans (FW_si (by omega)) (FW_trans (FW_si (by omega)) (FW_si (by omega)))), ?_, fun _ => ?_⟩
        · rw [si_j (by decide), si_jj]
        · rw [si_jj, si_j (by decide), si_j (by decide), si_jj, si_j (by decide), si_jj, nIadd]
      · have ew : tkW L N h = (h + 1, 0) := by
          unfold tkW
          rw [if_pos d, if_neg (fun z => d2 ⟨z.1, by omega⟩)]
        rw [ew, e2, pv_cc_some, bX7_takesWeight_39, if_neg (fun z => z rfl), bX7_takesWeight_42, if_pos rfl]
        refine ⟨_, rfl, FW_trans F1 (FW_si (by omega)), ?_, fun z => absurd rfl z⟩
        rw [si_j (by decide), s1]
    by_cases c : 10 * dv L h = 0
    · rw [if_neg (fun z => z c), bX7_takesWeight_31]
      exact go 1 (by omega) (by omega)
    · rw [if_pos c, bX7_takesWeight_35]
      exact go 0 (by omega) (by omega)
  · have ew : tkW L N h = (h, 0) := by
      unfold tkW
      rw [if_neg (fun z => d ⟨z, by omega⟩)]
    have e : pv_R mX7_takes 0 [some (.ref 37), some (.int (nI q)), some (.int 0)] [] (pv_em S) = _ := e
    rw [ew, e, pv_cc_some, bX7_takesWeight_6, if_neg (fun z => z rfl), bX7_takesWeight_9, if_pos rfl]
    refine ⟨_, rfl, FW_si (by omega), ?_, fun z => absurd rfl z⟩
    rw [si_j (by decide), h5]
theorem m_dog (X : MX S q N L) (h5 : S.1 37 18 = nI h) (hh : h ≤ N) : ∃ S', pv_R mX7_readsDog 0 [some (.ref 37), some (.int (nI q))] [] (pv_em S) = some (some (.int (if h < N ∧ L h = 100 then (if (tkW L N (h + 1)).2 = 0 then 0 else 1) else 0)), pv_em S') ∧ FM S S' ∧ S'.1 37 20 = S.1 37 20 ∧ S'.1 37 18 = nI (if h < N ∧ L h = 100 then (tkW L N (h + 1)).1 else h) ∧ (h < N ∧ L h = 100 → ¬ (tkW L N (h + 1)).2 = 0 → S'.1 37 19 = nI (tkW L N (h + 1)).2) := by
  have x2 := X.2.1
  rw [bX7_readsDog_0, m_byte X h5 hh, pv_cc_some, bX7_readsDog_5]
  by_cases c : h < N
  · by_cases d : L h = 100
    · obtain ⟨S', g1, g2, g3, g4⟩ := m_tw (S := pv_si S 37 18 (nI (h + 1))) (h := h + 1) (FM_MX (FM_si (by omega)) X) si_jj (by omega)
      have cd : h < N ∧ L h = 100 := ⟨c, d⟩
      rw [if_pos c, if_pos d, if_pos cd, if_pos cd, bX7_readsDog_12, h5, nIs, g1, pv_cc_some, bX7_readsDog_27]
      have F : FM S S' := FM_trans (FM_si (by omega)) (FW_FM g2)
      by_cases z : (tkW L N (h + 1)).2 = 0
      · rw [if_pos z, if_neg (fun z => z rfl), bX7_readsDog_30]
        exact ⟨S', rfl, F, by rw [g2.2.2 20 (by decide) (by decide) (by decide), si_j (by decide)], g3, fun _ w => absurd z w⟩
      · rw [if_neg z, if_pos (by decide), bX7_readsDog_32]
        refine ⟨pv_si S' 37 19 (S'.1 37 23), rfl, FM_trans F (FM_si (by omega)), by rw [si_j (by decide), g2.2.2 20 (by decide) (by decide) (by decide), si_j (by decide)], by rw [si_j (by decide)]; exact g3, fun _ w => ?_⟩
        rw [si_jj]
        exact g4 w
    · rw [if_pos c, if_neg d, if_neg (show ¬ (h < N ∧ L h = 100) from fun z => d z.2), if_neg (show ¬ (h < N ∧ L h = 100) from fun z => d z.2), bX7_readsDog_10]
      exact ⟨S, rfl, FM_refl, rfl, h5, fun z => absurd z.2 d⟩
  · rw [if_neg c, if_neg (by decide), if_neg (show ¬ (h < N ∧ L h = 100) from fun z => c z.1), if_neg (show ¬ (h < N ∧ L h = 100) from fun z => c z.1), bX7_readsDog_10]
    exact ⟨S, rfl, FM_refl, rfl, h5, fun z => absurd z.1 c⟩
def MC (S : pv_S) (k : Nat) (r : Nat → Rc) : Prop := S.1 37 20 = nI k ∧ ∀ i, i < k → S.1 49 (3 * i) = (r i).1 ∧ S.1 49 (3 * i + 1) = (r i).2.1 ∧ S.1 49 (3 * i + 2) = (r i).2.2
theorem MC_of {S' : pv_S} {r : Nat → Rc} (C : MC S k r) (h1 : S'.1 37 20 = nI k) (h2 : ∀ i, i < 3 * k → S'.1 49 i = S.1 49 i) : MC S' k r := ⟨h1, fun i hi => by
  rw [h2 (3 * i) (by omega), h2 (3 * i + 1) (by omega), h2 (3 * i + 2) (by omega)]
  exact C.2 i hi⟩
theorem m_cat {r : Nat → Rc} (X : MX S q N L) (h5 : S.1 37 18 = nI h) (C : MC S k r) (hk : k ≤ 6) (hh : h ≤ N) {a b : Option Value} : ((tkC L N k h).2 = none ∧ ∃ S', pv_R mX7_readsCat 0 [some (.ref 37), some (.int (nI q)), a, b] [] (pv_em S) = some (some (.int 0), pv_em S') ∧ FM S S' ∧ S'.1 37 18 = nI (tkC L N k h).1 ∧ S'.1 37 19 = S.1 37 19 ∧ MC S' k r) ∨ ∃ v, (tkC L N k h).2 = some v ∧ ∃ S', pv_R mX7_readsCat 0 [some (.ref 37), some (.int (nI q)), a, b] [] (pv_em S) = some (some (.int 1), pv_em S') ∧ FM S S' ∧ S'.1 37 18 = nI (tkC L N k h).1 ∧ S'.1 37 19 = S.1 37 19 ∧ MC S' (k + 1) (fun i => if i = k then v else r i) := by
  have x2 := X.2.1
  have ek : kl (if h < N then L h else -1000) = kdA L N h := by
    unfold kdA
    by_cases c : h < N
    · rw [if_pos c, if_pos c]
    · rw [if_neg c, if_neg c]; decide
  rw [bX7_readsCat_0, m_byte X h5 hh, pv_cc_some, bX7_readsCat_5, m_kl, ek, pv_cc_some, bX7_readsCat_8]
  by_cases c2 : kdA L N h = -1
  · left
    have et : tkC L N k h = (h, none) := if_pos (Or.inr c2)
    rw [et]
    refine ⟨rfl, S, ?_, FM_refl, h5, rfl, C⟩
    rw [if_pos (show kdA L N h < 0 from by rw [c2]; decide), bX7_readsCat_22]
  have kd := kdA_in c2
  rw [if_neg (show ¬ kdA L N h < 0 from by rw [ltI, i0]; omega), bX7_readsCat_13, C.1, show (6 : Int32) = nI 6 from rfl, if_c (id := inferInstance) (nIne (by omega) (by omega))]
  by_cases c1 : k = 6
  · left
    have et : tkC L N k h = (h, none) := if_pos (Or.inl c1)
    rw [et]
    refine ⟨rfl, S, ?_, FM_refl, h5, rfl, C⟩
    rw [if_neg (fun z => z c1), bX7_readsCat_22]
  have c12 : ¬ (k = 6 ∨ kdA L N h = -1) := fun z => z.elim c1 c2
  have e20 : (pv_si S 37 18 (nI (h + 1))).1 37 20 = nI k := by rw [si_j (by decide)]; exact C.1
  rw [if_pos c1, bX7_readsCat_24, h5, nIs, e20, e3m (by omega), if_neg (gx (by omega) (by omega)), nIc (by omega)]
  have F1 : FM S (pv_si (pv_si S 37 18 (nI (h + 1))) 49 (3 * k) (kdA L N h)) := FM_trans (FM_si (by omega)) FM_49
  obtain ⟨S', g1, g2, g3, g4⟩ := m_tw (S := pv_si (pv_si S 37 18 (nI (h + 1))) 49 (3 * k) (kdA L N h)) (h := h + 1) (FM_MX F1 X) (by rw [si_ne (by decide), si_jj]) (by omega)
  have t := tkW_le (L := L) (N := N) (h := h + 1) (by omega)
  have F2 : FM S S' := FM_trans F1 (FW_FM g2)
  have u20 : S'.1 37 20 = nI k := by rw [g2.2.2 20 (by decide) (by decide) (by decide), si_ne (by decide)]; exact e20
  have u19 : S'.1 37 19 = S.1 37 19 := by rw [g2.2.2 19 (by decide) (by decide) (by decide), si_ne (by decide), si_j (by decide)]
  have u49 : S'.1 49 = upd (S.1 49) (3 * k) (kdA L N h) := by rw [g2.1 49 (by decide), si_eq, si_ne (by decide)]
  rw [g1, pv_cc_some, bX7_readsCat_53]
  by_cases c3 : (tkW L N (h + 1)).2 = 0
  · left
    have et : tkC L N k h = ((tkW L N (h + 1)).1, none) := by unfold tkC; rw [if_neg c12, if_pos c3]
    rw [et]
    refine ⟨rfl, S', ?_, F2, g3, u19, MC_of C u20 fun i hi => by rw [u49, upd_ne (by omega)]⟩
    rw [if_pos c3, if_neg (fun z => z rfl), bX7_readsCat_56]
  rw [if_neg c3, if_pos (by decide), bX7_readsCat_58, g4 c3, nIs, if_neg (gx (by omega) (by omega)), nIc (by omega)]
  have F3 : FM S (pv_si S' 49 (3 * k + 1) (nI (tkW L N (h + 1)).2)) := FM_trans F2 FM_49
  have v20 : (pv_si S' 49 (3 * k + 1) (nI (tkW L N (h + 1)).2)).1 37 20 = nI k := by rw [si_ne (by decide)]; exact u20
  have v19 : (pv_si S' 49 (3 * k + 1) (nI (tkW L N (h + 1)).2)).1 37 19 = S.1 37 19 := by rw [si_ne (by decide)]; exact u19
  have v18 : (pv_si S' 49 (3 * k + 1) (nI (tkW L N (h + 1)).2)).1 37 18 = nI (tkW L N (h + 1)).1 := by rw [si_ne (by decide)]; exact g3
  have v49 : (pv_si S' 49 (3 * k + 1) (nI (tkW L N (h + 1)).2)).1 49 = upd (upd (S.1 49) (3 * k) (kdA L N h)) (3 * k + 1) (nI (tkW L N (h + 1)).2) := by rw [si_eq, u49]
  generalize hZ : pv_si S' 49 (3 * k + 1) (nI (tkW L N (h + 1)).2) = Z at F3 v20 v19 v18 v49
  rcases m_takes (FM_MX F3 X) v18 t.1 (l := 0) (by omega) with ⟨⟨d, _⟩, e⟩ | ⟨d, f, e⟩
  · right
    have v := dv_e d
    have et : tkC L N k h = ((tkW L N (h + 1)).1 + 1, some (kdA L N h, nI (tkW L N (h + 1)).2, nI (dv L (tkW L N (h + 1)).1))) := by unfold tkC; rw [if_neg c12, if_neg c3, if_pos d]
    rw [et]
    refine ⟨_, rfl, pv_si (pv_si (pv_si (pv_si Z 37 22 (nI (dv L (tkW L N (h + 1)).1))) 37 18 (nI ((tkW L N (h + 1)).1 + 1))) 49 (3 * k + 2) (nI (dv L (tkW L N (h + 1)).1))) 37 20 (nI (k + 1)), ?_, FM_trans F3 (FM_trans (FM_si (by omega)) (FM_trans (FM_si (by omega)) (FM_trans FM_49 (FM_si (by omega))))), ?_, ?_, si_jj, fun i hi => ?_⟩
    · have e : pv_R mX7_takes 0 [some (.ref 37), some (.int (nI q)), some (.int 0)] [] (pv_em Z) = _ := e
      rw [e, pv_cc_some, bX7_readsCat_76, if_pos (by decide), bX7_readsCat_81, show nI (3 * k) + 2 = nI (3 * k + 2) from nIadd (b := 2), if_neg (gx (by omega) (by omega)), nIc (by omega), si_ne (k := 49) (k' := 37) (by decide), si_j (i := 22) (j := 18) (by decide), si_jj, si_j (i := 20) (j := 18) (by decide), si_j (i := 20) (j := 22) (by decide), v20, nIs]
    · rw [si_j (by decide), si_ne (by decide), si_jj]
    · rw [si_j (by decide), si_ne (by decide), si_j (by decide), si_j (by decide)]; exact v19
    · rw [si_ne (k := 37) (k' := 49) (by decide), si_eq, si_ne (k := 37) (k' := 49) (by decide), si_ne (k := 37) (k' := 49) (by decide), v49]
      by_cases z : i = k
      · subst z
        simp only [if_true]
        rw [upd_ne (by omega), upd_ne (by omega), upd_eq, upd_ne (by omega), upd_eq, upd_eq]
        exact ⟨rfl, rfl, rfl⟩
      · simp only [z, if_false]
        rw [upd_ne (by omega), upd_ne (by omega), upd_ne (by omega), upd_ne (by omega), upd_ne (by omega), upd_ne (by omega), upd_ne (by omega), upd_ne (by omega), upd_ne (by omega)]
        exact C.2 i (by omega)
  · left
    have nd : ¬ dig L N (tkW L N (h + 1)).1 := fun z => d ⟨z, by omega⟩
    have et : tkC L N k h = ((tkW L N (h + 1)).1, none) := by unfold tkC; rw [if_neg c12, if_neg c3, if_neg nd]
    rw [et]
    refine ⟨rfl, pv_si Z 37 22 f, ?_, FM_trans F3 (FM_si (by omega)), ?_, ?_, MC_of C ?_ fun i hi => ?_⟩
    · have e : pv_R mX7_takes 0 [some (.ref 37), some (.int (nI q)), some (.int 0)] [] (pv_em Z) = _ := e
      rw [e, pv_cc_some, bX7_readsCat_76, if_neg (fun z => z rfl), bX7_readsCat_79]
    · rw [si_j (by decide)]; exact v18
    · rw [si_j (by decide)]; exact v19
    · rw [si_j (by decide)]; exact v20
    · rw [si_ne (by decide), v49, upd_ne (by omega), upd_ne (by omega)]
theorem m_rdL : ∀ (m k h : Nat) (r : Nat → Rc) (S : pv_S) (x2 : Int32), k + m = 6 → h ≤ N → MX S q N L → S.1 37 18 = nI h → MC S k r → ∃ S', pv_R mX7_faultOf 30 [some (.ref 37), some (.int (nI q)), some (.int x2)] [] (pv_em S) = some (some (.int (rdF L N m k h r).1), pv_em S') ∧ FM S S' ∧ S'.1 37 19 = S.1 37 19 ∧ MC S' (rdF L N m k h r).2.1 (rdF L N m k h r).2.2 := by
  intro m
  induction m with
  | zero =>
    intro k h r S x2 hm hh X h5 C
    have n2 := X.2.1
    have n1 := X.1
    rw [bX7_faultOf_30, if_neg (gx (by omega) (by omega)), nIc (by omega), h5, X.2.2.1, if_c (id := inferInstance) (nIne (by omega) (by omega))]
    by_cases c : N ≤ h
    · rw [show rdF L N 0 k h r = (if k = 0 then nI h else -9, k, r) from if_pos c, if_neg (show ¬ k = 0 by omega), if_neg (fun z => z (by omega)), bX7_faultOf_43, C.1, show (0 : Int32) = nI 0 from rfl, if_c (id := inferInstance) (nIle (by omega) (by omega)), if_neg (by omega), bX7_faultOf_50]
      exact ⟨S, rfl, FM_refl, rfl, C⟩
    · rw [show rdF L N 0 k h r = (nI (tkC L N k h).1, k, r) from if_neg c, if_pos (by omega), bX7_faultOf_53]
      rcases m_cat X h5 C (by omega) hh (a := none) (b := none) with ⟨e1, S', e2, g2, g3, g4, g5⟩ | ⟨v, e1, _⟩
      · rw [e2, pv_cc_some, bX7_faultOf_58, bX7_faultOf_21, if_pos rfl, bX7_faultOf_62, g3]
        exact ⟨S', rfl, g2, g4, g5⟩
      · exact absurd (show k = 6 by omega) (tkC_ok e1).2
  | succ m ih =>
    intro k h r S x2 hm hh X h5 C
    have n2 := X.2.1
    have n1 := X.1
    rw [bX7_faultOf_30, if_neg (gx (by omega) (by omega)), nIc (by omega), h5, X.2.2.1, if_c (id := inferInstance) (nIne (by omega) (by omega))]
    by_cases c : N ≤ h
    · rw [show rdF L N (m + 1) k h r = (if k = 0 then nI h else -9, k, r) from if_pos c, if_neg (fun z => z (by omega)), bX7_faultOf_43, C.1, show (0 : Int32) = nI 0 from rfl, if_c (id := inferInstance) (nIle (by omega) (by omega))]
      by_cases z : k = 0
      · rw [if_pos (by omega), if_pos z, bX7_faultOf_53]
        have kn : kdA L N h = -1 := if_neg (by omega)
        have ec : tkC L N k h = (h, none) := if_pos (Or.inr kn)
        rcases m_cat X h5 C (by omega) hh (a := none) (b := none) with ⟨e1, S', e2, g2, g3, g4, g5⟩ | ⟨v, e1, _⟩
        · rw [e2, pv_cc_some, bX7_faultOf_58, bX7_faultOf_21, if_pos rfl, bX7_faultOf_62, g3, ec]
          exact ⟨S', rfl, g2, g4, g5⟩
        · rw [ec] at e1; cases e1
      · rw [if_neg (by omega), if_neg z, bX7_faultOf_50]
        exact ⟨S, rfl, FM_refl, rfl, C⟩
    · rw [if_pos (by omega), bX7_faultOf_53]
      rcases m_cat X h5 C (by omega) hh (a := none) (b := none) with ⟨e1, S', e2, g2, g3, g4, g5⟩ | ⟨v, e1, S', e2, g2, g3, g4, g5⟩
      · rw [show rdF L N (m + 1) k h r = (nI (tkC L N k h).1, k, r) from by rw [rdF, if_neg c, e1], e2, pv_cc_some, bX7_faultOf_58, bX7_faultOf_21, if_pos rfl, bX7_faultOf_62, g3]
        exact ⟨S', rfl, g2, g4, g5⟩
      · have hl := tkC_le (L := L) (N := N) (k := k) (h := h) hh
        rw [show rdF L N (m + 1) k h r = rdF L N m (k + 1) (skq L N (tkC L N k h).1) (fun i => if i = k then v else r i) from by rw [rdF, if_neg c, e1], e2, pv_cc_some, bX7_faultOf_58, bX7_faultOf_21, if_neg (by decide), bX7_faultOf_25, m_blanks (FM_MX g2 X) g3 hl, pv_cc_void]
        obtain ⟨S2, k1, k2, k3, k4⟩ := ih (k + 1) (skq L N (tkC L N k h).1) (fun i => if i = k then v else r i) (pv_si S' 37 18 (nI (skq L N (tkC L N k h).1))) 1 (by omega) (skq_le hl) (FM_MX (FM_si (by omega)) (FM_MX g2 X)) si_jj (MC_of g5 (by rw [si_j (by decide)]; exact g5.1) fun i hi => by rw [si_ne (by decide)])
        exact ⟨S2, k1, FM_trans g2 (FM_trans (FM_si (by omega)) k2), by rw [k3, si_j (by decide)]; exact g4, k4⟩
theorem m_faultOf (X : MX S q N L) {a : Option Value} : ∃ S', pv_R mX7_faultOf 0 [some (.ref 37), some (.int (nI q)), a] [] (pv_em S) = some (some (.int (ftF L N).1), pv_em S') ∧ FM S S' ∧ ((ftF L N).1 = -9 → S'.1 37 19 = (ftF L N).2.1 ∧ MC S' (ftF L N).2.2.1 (ftF L N).2.2.2) := by
  have x2 := X.2.1
  have F0 : FM S (pv_si (pv_si S 37 18 0) 37 20 0) := FM_trans (FM_si (by omega)) (FM_si (by omega))
  have s0 : (pv_si (pv_si S 37 18 0) 37 20 0).1 37 18 = nI 0 := by rw [si_j (by decide), si_jj]; rfl
  have hl := skq_le (L := L) (N := N) (h := 0) (Nat.zero_le _)
  have F1 : FM S (pv_si (pv_si (pv_si S 37 18 0) 37 20 0) 37 18 (nI (skq L N 0))) := FM_trans F0 (FM_si (by omega))
  obtain ⟨S1, g1, g2, g3, g4, g5⟩ := m_dog (FM_MX F1 X) si_jj hl
  have F2 := FM_trans F1 g2
  rw [bX7_faultOf_0, m_blanks (FM_MX F0 X) s0 (Nat.zero_le _), pv_cc_void, bX7_faultOf_15, g1, pv_cc_some, bX7_faultOf_20, bX7_faultOf_21]
  unfold ftF
  by_cases c1 : skq L N 0 < N ∧ L (skq L N 0) = 100
  · have t := tkW_le (L := L) (N := N) (h := skq L N 0 + 1) (by omega)
    rw [if_pos c1, if_pos c1]
    rw [if_pos c1] at g4
    by_cases c2 : (tkW L N (skq L N 0 + 1)).2 = 0
    · rw [if_pos c2, if_pos c2, if_pos rfl, bX7_faultOf_62, g4]
      exact ⟨_, rfl, F2, fun z => absurd z (nIm9 (by omega))⟩
    · rw [if_neg c2, if_neg c2, if_neg (by decide), bX7_faultOf_25, m_blanks (FM_MX F2 X) g4 t.1, pv_cc_void]
      obtain ⟨S', k1, k2, k3, k4⟩ := m_rdL 6 0 (skq L N (tkW L N (skq L N 0 + 1)).1) (fun _ => (0, 0, 0)) (pv_si S1 37 18 (nI (skq L N (tkW L N (skq L N 0 + 1)).1))) 1 rfl (skq_le t.1) (FM_MX (FM_si (by omega)) (FM_MX F2 X)) si_jj ⟨by rw [si_j (by decide), g3, si_j (by decide), si_jj]; rfl, fun i hi => absurd hi (Nat.not_lt_zero i)⟩
      refine ⟨S', k1, FM_trans F2 (FM_trans (FM_si (by omega)) k2), fun _ => ⟨?_, k4⟩⟩
      rw [k3, si_j (by decide)]
      exact g5 c1 c2
  · rw [if_neg c1, if_neg c1, if_pos rfl, bX7_faultOf_62]
    rw [if_neg c1] at g4
    rw [g4]
    exact ⟨_, rfl, F2, fun z => absurd z (nIm9 (by omega))⟩
end RM
