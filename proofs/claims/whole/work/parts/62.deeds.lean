/-! ===== the class's deeds ===== -/
/-- what a copy does -/
def Cp (S S' : pv_S) (A B i j N : Nat) : Prop := (∀ k, k ≠ B → S'.1 k = S.1 k) ∧ S'.2 = S.2 ∧ ∀ q, S'.1 B q = if j ≤ q ∧ q < j + N then S.1 A (i + (q - j)) else S.1 B q
theorem cp_45_44 {S : pv_S} {i j N : Nat} (hi : i + N ≤ 400) (hj : j + N ≤ 10) {a : Option Value} : ∃ S', pv_R mX7_copies 0 [some (.ref 45), some (.int (nI i)), some (.ref 44), some (.int (nI j)), some (.int (nI N)), a] [] (pv_em S) = some (none, pv_em S') ∧ Cp S S' 45 44 i j N := by
  rw [bX7_copies_45_44_0]
  obtain ⟨S', e, h1, h2, h3⟩ := lpE (R := fun k (Z : pv_S) => pv_R mX7_copies 3 [some (.ref 45), some (.int (nI i)), some (.ref 44), some (.int (nI j)), some (.int (nI N)), some (.int (nI k))] [] (pv_em Z)) (N := N) (fun k Z => (∀ k', k' ≠ 44 → Z.1 k' = S.1 k') ∧ Z.2 = S.2 ∧ ∀ q, Z.1 44 q = if j ≤ q ∧ q < j + k then S.1 45 (i + (q - j)) else S.1 44 q) (fun k Z hk hP => by
    obtain ⟨h1, h2, h3⟩ := hP
    refine ⟨pv_si Z 44 (j + k) (S.1 45 (i + k)), ?_, fun k' z => by rw [si_ne z]; exact h1 k' z, h2, fun q => ?_⟩
    · refine Eq.trans bX7_copies_45_44_3 ?_
      rw [if_neg (by rw [nIle (by omega) (by omega)]; omega), bX7_copies_45_44_10, nIadd, nIadd, if_neg (gx (by omega) (by omega)), if_neg (gx (by omega) (by omega)), nIc (by omega), nIc (by omega), nIs, show Z.1 45 (i + k) = S.1 45 (i + k) from by rw [h1 45 (by decide)]]
    · rw [si_eq]
      by_cases e : q = j + k
      · rw [e, upd_eq, if_pos (by omega), show j + k - j = k from by omega]
      · rw [upd_ne e, h3 q]
        by_cases e2 : j ≤ q ∧ q < j + k
        · rw [if_pos e2, if_pos (by omega)]
        · rw [if_neg e2, if_neg (by omega)]) N 0 S (by omega) ⟨fun _ _ => rfl, rfl, fun q => (if_neg (by omega)).symm⟩
  refine ⟨S', Eq.trans e ?_, h1, h2, h3⟩
  show pv_R mX7_copies 3 _ _ _ = _
  rw [bX7_copies_45_44_3, if_pos (Int32.le_refl _), bX7_copies_45_44_28]
theorem cp_44_46 {S : pv_S} {i j N : Nat} (hi : i + N ≤ 10) (hj : j + N ≤ 1233) {a : Option Value} : ∃ S', pv_R mX7_copies 0 [some (.ref 44), some (.int (nI i)), some (.ref 46), some (.int (nI j)), some (.int (nI N)), a] [] (pv_em S) = some (none, pv_em S') ∧ Cp S S' 44 46 i j N := by
  rw [bX7_copies_44_46_0]
  obtain ⟨S', e, h1, h2, h3⟩ := lpE (R := fun k (Z : pv_S) => pv_R mX7_copies 3 [some (.ref 44), some (.int (nI i)), some (.ref 46), some (.int (nI j)), some (.int (nI N)), some (.int (nI k))] [] (pv_em Z)) (N := N) (fun k Z => (∀ k', k' ≠ 46 → Z.1 k' = S.1 k') ∧ Z.2 = S.2 ∧ ∀ q, Z.1 46 q = if j ≤ q ∧ q < j + k then S.1 44 (i + (q - j)) else S.1 46 q) (fun k Z hk hP => by
    obtain ⟨h1, h2, h3⟩ := hP
    refine ⟨pv_si Z 46 (j + k) (S.1 44 (i + k)), ?_, fun k' z => by rw [si_ne z]; exact h1 k' z, h2, fun q => ?_⟩
    · refine Eq.trans bX7_copies_44_46_3 ?_
      rw [if_neg (by rw [nIle (by omega) (by omega)]; omega), bX7_copies_44_46_10, nIadd, nIadd, if_neg (gx (by omega) (by omega)), if_neg (gx (by omega) (by omega)), nIc (by omega), nIc (by omega), nIs, show Z.1 44 (i + k) = S.1 44 (i + k) from by rw [h1 44 (by decide)]]
    · rw [si_eq]
      by_cases e : q = j + k
      · rw [e, upd_eq, if_pos (by omega), show j + k - j = k from by omega]
      · rw [upd_ne e, h3 q]
        by_cases e2 : j ≤ q ∧ q < j + k
        · rw [if_pos e2, if_pos (by omega)]
        · rw [if_neg e2, if_neg (by omega)]) N 0 S (by omega) ⟨fun _ _ => rfl, rfl, fun q => (if_neg (by omega)).symm⟩
  refine ⟨S', Eq.trans e ?_, h1, h2, h3⟩
  show pv_R mX7_copies 3 _ _ _ = _
  rw [bX7_copies_44_46_3, if_pos (Int32.le_refl _), bX7_copies_44_46_28]
theorem cp_45_46 {S : pv_S} {i j N : Nat} (hi : i + N ≤ 400) (hj : j + N ≤ 1233) {a : Option Value} : ∃ S', pv_R mX7_copies 0 [some (.ref 45), some (.int (nI i)), some (.ref 46), some (.int (nI j)), some (.int (nI N)), a] [] (pv_em S) = some (none, pv_em S') ∧ Cp S S' 45 46 i j N := by
  rw [bX7_copies_45_46_0]
  obtain ⟨S', e, h1, h2, h3⟩ := lpE (R := fun k (Z : pv_S) => pv_R mX7_copies 3 [some (.ref 45), some (.int (nI i)), some (.ref 46), some (.int (nI j)), some (.int (nI N)), some (.int (nI k))] [] (pv_em Z)) (N := N) (fun k Z => (∀ k', k' ≠ 46 → Z.1 k' = S.1 k') ∧ Z.2 = S.2 ∧ ∀ q, Z.1 46 q = if j ≤ q ∧ q < j + k then S.1 45 (i + (q - j)) else S.1 46 q) (fun k Z hk hP => by
    obtain ⟨h1, h2, h3⟩ := hP
    refine ⟨pv_si Z 46 (j + k) (S.1 45 (i + k)), ?_, fun k' z => by rw [si_ne z]; exact h1 k' z, h2, fun q => ?_⟩
    · refine Eq.trans bX7_copies_45_46_3 ?_
      rw [if_neg (by rw [nIle (by omega) (by omega)]; omega), bX7_copies_45_46_10, nIadd, nIadd, if_neg (gx (by omega) (by omega)), if_neg (gx (by omega) (by omega)), nIc (by omega), nIc (by omega), nIs, show Z.1 45 (i + k) = S.1 45 (i + k) from by rw [h1 45 (by decide)]]
    · rw [si_eq]
      by_cases e : q = j + k
      · rw [e, upd_eq, if_pos (by omega), show j + k - j = k from by omega]
      · rw [upd_ne e, h3 q]
        by_cases e2 : j ≤ q ∧ q < j + k
        · rw [if_pos e2, if_pos (by omega)]
        · rw [if_neg e2, if_neg (by omega)]) N 0 S (by omega) ⟨fun _ _ => rfl, rfl, fun q => (if_neg (by omega)).symm⟩
  refine ⟨S', Eq.trans e ?_, h1, h2, h3⟩
  show pv_R mX7_copies 3 _ _ _ = _
  rw [bX7_copies_45_46_3, if_pos (Int32.le_refl _), bX7_copies_45_46_28]
theorem cp_46_44 {S : pv_S} {i j N : Nat} (hi : i + N ≤ 1233) (hj : j + N ≤ 10) {a : Option Value} : ∃ S', pv_R mX7_copies 0 [some (.ref 46), some (.int (nI i)), some (.ref 44), some (.int (nI j)), some (.int (nI N)), a] [] (pv_em S) = some (none, pv_em S') ∧ Cp S S' 46 44 i j N := by
  rw [bX7_copies_46_44_0]
  obtain ⟨S', e, h1, h2, h3⟩ := lpE (R := fun k (Z : pv_S) => pv_R mX7_copies 3 [some (.ref 46), some (.int (nI i)), some (.ref 44), some (.int (nI j)), some (.int (nI N)), some (.int (nI k))] [] (pv_em Z)) (N := N) (fun k Z => (∀ k', k' ≠ 44 → Z.1 k' = S.1 k') ∧ Z.2 = S.2 ∧ ∀ q, Z.1 44 q = if j ≤ q ∧ q < j + k then S.1 46 (i + (q - j)) else S.1 44 q) (fun k Z hk hP => by
    obtain ⟨h1, h2, h3⟩ := hP
    refine ⟨pv_si Z 44 (j + k) (S.1 46 (i + k)), ?_, fun k' z => by rw [si_ne z]; exact h1 k' z, h2, fun q => ?_⟩
    · refine Eq.trans bX7_copies_46_44_3 ?_
      rw [if_neg (by rw [nIle (by omega) (by omega)]; omega), bX7_copies_46_44_10, nIadd, nIadd, if_neg (gx (by omega) (by omega)), if_neg (gx (by omega) (by omega)), nIc (by omega), nIc (by omega), nIs, show Z.1 46 (i + k) = S.1 46 (i + k) from by rw [h1 46 (by decide)]]
    · rw [si_eq]
      by_cases e : q = j + k
      · rw [e, upd_eq, if_pos (by omega), show j + k - j = k from by omega]
      · rw [upd_ne e, h3 q]
        by_cases e2 : j ≤ q ∧ q < j + k
        · rw [if_pos e2, if_pos (by omega)]
        · rw [if_neg e2, if_neg (by omega)]) N 0 S (by omega) ⟨fun _ _ => rfl, rfl, fun q => (if_neg (by omega)).symm⟩
  refine ⟨S', Eq.trans e ?_, h1, h2, h3⟩
  show pv_R mX7_copies 3 _ _ _ = _
  rw [bX7_copies_46_44_3, if_pos (Int32.le_refl _), bX7_copies_46_44_28]
theorem cp_46_45 {S : pv_S} {i j N : Nat} (hi : i + N ≤ 1233) (hj : j + N ≤ 400) {a : Option Value} : ∃ S', pv_R mX7_copies 0 [some (.ref 46), some (.int (nI i)), some (.ref 45), some (.int (nI j)), some (.int (nI N)), a] [] (pv_em S) = some (none, pv_em S') ∧ Cp S S' 46 45 i j N := by
  rw [bX7_copies_46_45_0]
  obtain ⟨S', e, h1, h2, h3⟩ := lpE (R := fun k (Z : pv_S) => pv_R mX7_copies 3 [some (.ref 46), some (.int (nI i)), some (.ref 45), some (.int (nI j)), some (.int (nI N)), some (.int (nI k))] [] (pv_em Z)) (N := N) (fun k Z => (∀ k', k' ≠ 45 → Z.1 k' = S.1 k') ∧ Z.2 = S.2 ∧ ∀ q, Z.1 45 q = if j ≤ q ∧ q < j + k then S.1 46 (i + (q - j)) else S.1 45 q) (fun k Z hk hP => by
    obtain ⟨h1, h2, h3⟩ := hP
    refine ⟨pv_si Z 45 (j + k) (S.1 46 (i + k)), ?_, fun k' z => by rw [si_ne z]; exact h1 k' z, h2, fun q => ?_⟩
    · refine Eq.trans bX7_copies_46_45_3 ?_
      rw [if_neg (by rw [nIle (by omega) (by omega)]; omega), bX7_copies_46_45_10, nIadd, nIadd, if_neg (gx (by omega) (by omega)), if_neg (gx (by omega) (by omega)), nIc (by omega), nIc (by omega), nIs, show Z.1 46 (i + k) = S.1 46 (i + k) from by rw [h1 46 (by decide)]]
    · rw [si_eq]
      by_cases e : q = j + k
      · rw [e, upd_eq, if_pos (by omega), show j + k - j = k from by omega]
      · rw [upd_ne e, h3 q]
        by_cases e2 : j ≤ q ∧ q < j + k
        · rw [if_pos e2, if_pos (by omega)]
        · rw [if_neg e2, if_neg (by omega)]) N 0 S (by omega) ⟨fun _ _ => rfl, rfl, fun q => (if_neg (by omega)).symm⟩
  refine ⟨S', Eq.trans e ?_, h1, h2, h3⟩
  show pv_R mX7_copies 3 _ _ _ = _
  rw [bX7_copies_46_45_3, if_pos (Int32.le_refl _), bX7_copies_46_45_28]
theorem cp_50_51 {S : pv_S} {i j N : Nat} (hi : i + N ≤ 3) (hj : j + N ≤ 3) {a : Option Value} : ∃ S', pv_R mX7_copies 0 [some (.ref 50), some (.int (nI i)), some (.ref 51), some (.int (nI j)), some (.int (nI N)), a] [] (pv_em S) = some (none, pv_em S') ∧ Cp S S' 50 51 i j N := by
  rw [bX7_copies_50_51_0]
  obtain ⟨S', e, h1, h2, h3⟩ := lpE (R := fun k (Z : pv_S) => pv_R mX7_copies 3 [some (.ref 50), some (.int (nI i)), some (.ref 51), some (.int (nI j)), some (.int (nI N)), some (.int (nI k))] [] (pv_em Z)) (N := N) (fun k Z => (∀ k', k' ≠ 51 → Z.1 k' = S.1 k') ∧ Z.2 = S.2 ∧ ∀ q, Z.1 51 q = if j ≤ q ∧ q < j + k then S.1 50 (i + (q - j)) else S.1 51 q) (fun k Z hk hP => by
    obtain ⟨h1, h2, h3⟩ := hP
    refine ⟨pv_si Z 51 (j + k) (S.1 50 (i + k)), ?_, fun k' z => by rw [si_ne z]; exact h1 k' z, h2, fun q => ?_⟩
    · refine Eq.trans bX7_copies_50_51_3 ?_
      rw [if_neg (by rw [nIle (by omega) (by omega)]; omega), bX7_copies_50_51_10, nIadd, nIadd, if_neg (gx (by omega) (by omega)), if_neg (gx (by omega) (by omega)), nIc (by omega), nIc (by omega), nIs, show Z.1 50 (i + k) = S.1 50 (i + k) from by rw [h1 50 (by decide)]]
    · rw [si_eq]
      by_cases e : q = j + k
      · rw [e, upd_eq, if_pos (by omega), show j + k - j = k from by omega]
      · rw [upd_ne e, h3 q]
        by_cases e2 : j ≤ q ∧ q < j + k
        · rw [if_pos e2, if_pos (by omega)]
        · rw [if_neg e2, if_neg (by omega)]) N 0 S (by omega) ⟨fun _ _ => rfl, rfl, fun q => (if_neg (by omega)).symm⟩
  refine ⟨S', Eq.trans e ?_, h1, h2, h3⟩
  show pv_R mX7_copies 3 _ _ _ = _
  rw [bX7_copies_50_51_3, if_pos (Int32.le_refl _), bX7_copies_50_51_28]
theorem cp_51_39 {S : pv_S} {i j N : Nat} (hi : i + N ≤ 3) (hj : j + N ≤ 240) {a : Option Value} : ∃ S', pv_R mX7_copies 0 [some (.ref 51), some (.int (nI i)), some (.ref 39), some (.int (nI j)), some (.int (nI N)), a] [] (pv_em S) = some (none, pv_em S') ∧ Cp S S' 51 39 i j N := by
  rw [bX7_copies_51_39_0]
  obtain ⟨S', e, h1, h2, h3⟩ := lpE (R := fun k (Z : pv_S) => pv_R mX7_copies 3 [some (.ref 51), some (.int (nI i)), some (.ref 39), some (.int (nI j)), some (.int (nI N)), some (.int (nI k))] [] (pv_em Z)) (N := N) (fun k Z => (∀ k', k' ≠ 39 → Z.1 k' = S.1 k') ∧ Z.2 = S.2 ∧ ∀ q, Z.1 39 q = if j ≤ q ∧ q < j + k then S.1 51 (i + (q - j)) else S.1 39 q) (fun k Z hk hP => by
    obtain ⟨h1, h2, h3⟩ := hP
    refine ⟨pv_si Z 39 (j + k) (S.1 51 (i + k)), ?_, fun k' z => by rw [si_ne z]; exact h1 k' z, h2, fun q => ?_⟩
    · refine Eq.trans bX7_copies_51_39_3 ?_
      rw [if_neg (by rw [nIle (by omega) (by omega)]; omega), bX7_copies_51_39_10, nIadd, nIadd, if_neg (gx (by omega) (by omega)), if_neg (gx (by omega) (by omega)), nIc (by omega), nIc (by omega), nIs, show Z.1 51 (i + k) = S.1 51 (i + k) from by rw [h1 51 (by decide)]]
    · rw [si_eq]
      by_cases e : q = j + k
      · rw [e, upd_eq, if_pos (by omega), show j + k - j = k from by omega]
      · rw [upd_ne e, h3 q]
        by_cases e2 : j ≤ q ∧ q < j + k
        · rw [if_pos e2, if_pos (by omega)]
        · rw [if_neg e2, if_neg (by omega)]) N 0 S (by omega) ⟨fun _ _ => rfl, rfl, fun q => (if_neg (by omega)).symm⟩
  refine ⟨S', Eq.trans e ?_, h1, h2, h3⟩
  show pv_R mX7_copies 3 _ _ _ = _
  rw [bX7_copies_51_39_3, if_pos (Int32.le_refl _), bX7_copies_51_39_28]
theorem cp_44_52 {S : pv_S} {i j N : Nat} (hi : i + N ≤ 10) (hj : j + N ≤ 30) {a : Option Value} : ∃ S', pv_R mX7_copies 0 [some (.ref 44), some (.int (nI i)), some (.ref 52), some (.int (nI j)), some (.int (nI N)), a] [] (pv_em S) = some (none, pv_em S') ∧ Cp S S' 44 52 i j N := by
  rw [bX7_copies_44_52_0]
  obtain ⟨S', e, h1, h2, h3⟩ := lpE (R := fun k (Z : pv_S) => pv_R mX7_copies 3 [some (.ref 44), some (.int (nI i)), some (.ref 52), some (.int (nI j)), some (.int (nI N)), some (.int (nI k))] [] (pv_em Z)) (N := N) (fun k Z => (∀ k', k' ≠ 52 → Z.1 k' = S.1 k') ∧ Z.2 = S.2 ∧ ∀ q, Z.1 52 q = if j ≤ q ∧ q < j + k then S.1 44 (i + (q - j)) else S.1 52 q) (fun k Z hk hP => by
    obtain ⟨h1, h2, h3⟩ := hP
    refine ⟨pv_si Z 52 (j + k) (S.1 44 (i + k)), ?_, fun k' z => by rw [si_ne z]; exact h1 k' z, h2, fun q => ?_⟩
    · refine Eq.trans bX7_copies_44_52_3 ?_
      rw [if_neg (by rw [nIle (by omega) (by omega)]; omega), bX7_copies_44_52_10, nIadd, nIadd, if_neg (gx (by omega) (by omega)), if_neg (gx (by omega) (by omega)), nIc (by omega), nIc (by omega), nIs, show Z.1 44 (i + k) = S.1 44 (i + k) from by rw [h1 44 (by decide)]]
    · rw [si_eq]
      by_cases e : q = j + k
      · rw [e, upd_eq, if_pos (by omega), show j + k - j = k from by omega]
      · rw [upd_ne e, h3 q]
        by_cases e2 : j ≤ q ∧ q < j + k
        · rw [if_pos e2, if_pos (by omega)]
        · rw [if_neg e2, if_neg (by omega)]) N 0 S (by omega) ⟨fun _ _ => rfl, rfl, fun q => (if_neg (by omega)).symm⟩
  refine ⟨S', Eq.trans e ?_, h1, h2, h3⟩
  show pv_R mX7_copies 3 _ _ _ = _
  rw [bX7_copies_44_52_3, if_pos (Int32.le_refl _), bX7_copies_44_52_28]
theorem cp_44_45 {S : pv_S} {i j N : Nat} (hi : i + N ≤ 10) (hj : j + N ≤ 400) {a : Option Value} : ∃ S', pv_R mX7_copies 0 [some (.ref 44), some (.int (nI i)), some (.ref 45), some (.int (nI j)), some (.int (nI N)), a] [] (pv_em S) = some (none, pv_em S') ∧ Cp S S' 44 45 i j N := by
  rw [bX7_copies_44_45_0]
  obtain ⟨S', e, h1, h2, h3⟩ := lpE (R := fun k (Z : pv_S) => pv_R mX7_copies 3 [some (.ref 44), some (.int (nI i)), some (.ref 45), some (.int (nI j)), some (.int (nI N)), some (.int (nI k))] [] (pv_em Z)) (N := N) (fun k Z => (∀ k', k' ≠ 45 → Z.1 k' = S.1 k') ∧ Z.2 = S.2 ∧ ∀ q, Z.1 45 q = if j ≤ q ∧ q < j + k then S.1 44 (i + (q - j)) else S.1 45 q) (fun k Z hk hP => by
    obtain ⟨h1, h2, h3⟩ := hP
    refine ⟨pv_si Z 45 (j + k) (S.1 44 (i + k)), ?_, fun k' z => by rw [si_ne z]; exact h1 k' z, h2, fun q => ?_⟩
    · refine Eq.trans bX7_copies_44_45_3 ?_
      rw [if_neg (by rw [nIle (by omega) (by omega)]; omega), bX7_copies_44_45_10, nIadd, nIadd, if_neg (gx (by omega) (by omega)), if_neg (gx (by omega) (by omega)), nIc (by omega), nIc (by omega), nIs, show Z.1 44 (i + k) = S.1 44 (i + k) from by rw [h1 44 (by decide)]]
    · rw [si_eq]
      by_cases e : q = j + k
      · rw [e, upd_eq, if_pos (by omega), show j + k - j = k from by omega]
      · rw [upd_ne e, h3 q]
        by_cases e2 : j ≤ q ∧ q < j + k
        · rw [if_pos e2, if_pos (by omega)]
        · rw [if_neg e2, if_neg (by omega)]) N 0 S (by omega) ⟨fun _ _ => rfl, rfl, fun q => (if_neg (by omega)).symm⟩
  refine ⟨S', Eq.trans e ?_, h1, h2, h3⟩
  show pv_R mX7_copies 3 _ _ _ = _
  rw [bX7_copies_44_45_3, if_pos (Int32.le_refl _), bX7_copies_44_45_28]
theorem cp_52_52 {S : pv_S} {i j N : Nat} (hi : i + N ≤ 30) (hj : j + N ≤ 30) (hd : i + N ≤ j) {a : Option Value} : ∃ S', pv_R mX7_copies 0 [some (.ref 52), some (.int (nI i)), some (.ref 52), some (.int (nI j)), some (.int (nI N)), a] [] (pv_em S) = some (none, pv_em S') ∧ Cp S S' 52 52 i j N := by
  rw [bX7_copies_52_52_0]
  obtain ⟨S', e, h1, h2, h3⟩ := lpE (R := fun k (Z : pv_S) => pv_R mX7_copies 3 [some (.ref 52), some (.int (nI i)), some (.ref 52), some (.int (nI j)), some (.int (nI N)), some (.int (nI k))] [] (pv_em Z)) (N := N) (fun k Z => (∀ k', k' ≠ 52 → Z.1 k' = S.1 k') ∧ Z.2 = S.2 ∧ ∀ q, Z.1 52 q = if j ≤ q ∧ q < j + k then S.1 52 (i + (q - j)) else S.1 52 q) (fun k Z hk hP => by
    obtain ⟨h1, h2, h3⟩ := hP
    refine ⟨pv_si Z 52 (j + k) (S.1 52 (i + k)), ?_, fun k' z => by rw [si_ne z]; exact h1 k' z, h2, fun q => ?_⟩
    · refine Eq.trans bX7_copies_52_52_3 ?_
      rw [if_neg (by rw [nIle (by omega) (by omega)]; omega), bX7_copies_52_52_10, nIadd, nIadd, if_neg (gx (by omega) (by omega)), if_neg (gx (by omega) (by omega)), nIc (by omega), nIc (by omega), nIs, show Z.1 52 (i + k) = S.1 52 (i + k) from by rw [h3 (i + k), if_neg (by omega)]]
    · rw [si_eq]
      by_cases e : q = j + k
      · rw [e, upd_eq, if_pos (by omega), show j + k - j = k from by omega]
      · rw [upd_ne e, h3 q]
        by_cases e2 : j ≤ q ∧ q < j + k
        · rw [if_pos e2, if_pos (by omega)]
        · rw [if_neg e2, if_neg (by omega)]) N 0 S (by omega) ⟨fun _ _ => rfl, rfl, fun q => (if_neg (by omega)).symm⟩
  refine ⟨S', Eq.trans e ?_, h1, h2, h3⟩
  show pv_R mX7_copies 3 _ _ _ = _
  rw [bX7_copies_52_52_3, if_pos (Int32.le_refl _), bX7_copies_52_52_28]
/-- the class's view of a state -/
def cv (S : pv_S) (n : Nat) (N : Nat → Int32) : Prop := (∀ i, i < n → S.1 25 i = N i) ∧ S.1 21 9 = N 6 ∧ S.1 21 11 = N 7 ∧ S.1 21 12 = N 8 ∧ S.1 21 10 = N 9
def Ax (S S' : pv_S) : Prop := (∀ k, k ≠ 21 → k ≠ 25 → S'.1 k = S.1 k) ∧ S'.2 = S.2 ∧ ∀ j, j = 7 ∨ j = 8 ∨ j = 13 → S'.1 21 j = S.1 21 j
section DD
variable {S S' : pv_S} {n c d : Nat} {N : Nat → Int32}
theorem xb_isCat (hn : n ≤ 6) (h7 : S.1 21 7 = nI n) {i : Int32} : pv_R mX5_isCat 0 [some (.ref 21), some (.int i)] [] (pv_em S) = some (some (.int (bI (0 ≤ i.toInt ∧ i.toInt < (n : Int)))), pv_em S) := by
  simp only [bX5_isCat_0, bX5_isCat_4, bX5_isCat_12, bX5_isCat_16, bX5_isCat_17, vn0, vn1, if_true, Int32.lt_iff_toInt_lt, Int32.le_iff_toInt_le, h7, nIt (i := n) (by omega), i0]
  by_cases h : 0 ≤ i.toInt ∧ i.toInt < n
  · rw [bI_t h, if_neg (by omega), if_neg (by omega)]
  · rw [bI_f h]
    by_cases h1 : i.toInt < 0
    · rw [if_pos h1]
    · rw [if_neg h1, if_pos (by omega)]
theorem xb_mealAdds {i : Nat} (h : i < 6) : pv_R mX5_mealAdds 0 [some (.ref 21), some (.int (nI i))] [] (pv_em S) = some (some (.int (tw_meal (S.1 22 i) (S.1 23 i))), pv_em S) := by
  simp only [bX5_mealAdds_0, bX5_mealAdds_15, kx (k := i) (N := 6) (by omega) (by omega), nIc (i := i) (by omega), x_meal, pv_cc_some, if_false]
theorem xb_pound (hn : n ≤ 6) (h7 : S.1 21 7 = nI n) (V : cv S n N) (B : tw_b n d N) : pv_R mX5_pound 0 [some (.ref 21)] [] (pv_em S) = some (some (.int (N (N 9).toNatClampNeg)), pv_em S) := by
  obtain ⟨v1, v2, v3, v4, v5⟩ := V
  obtain ⟨b1, b2, b3, b4⟩ := B
  by_cases h : ∃ r, r < n ∧ N 9 = nI r
  · obtain ⟨r, hr, e⟩ := h
    simp only [bX5_pound_0, bX5_pound_8, bX5_pound_11, bX5_pound_23, bX5_pound_24, xb_isCat hn h7, pv_cc_some, bI_0, v5, e, nIt (i := r) (by omega), kx (k := r) (N := 6) (by omega) (by omega), nIc (i := r) (by omega), if_false]
    rw [if_neg (by omega), v1 r hr]
  · have h9 : N 9 = 0 := b3.elim id (fun q => absurd q h)
    have hn0 : n = 0 := by
      by_cases q : n = 0
      · exact q
      · exact absurd ⟨0, by omega, h9⟩ h
    subst hn0
    simp only [bX5_pound_0, bX5_pound_8, bX5_pound_11, bX5_pound_23, bX5_pound_24, xb_isCat hn h7, pv_cc_some, bI_0, v5, h9, i0]
    rw [if_pos (by omega), show (0 : Int32).toNatClampNeg = 0 from by decide, b4 0 (by omega) (by omega)]
theorem dd50 : ∀ v, v < 50 → nI v - nI v / 10 * 10 = nI (v % 10) ∧ pv_lkt (Int32.toInt (nI v - nI (v % 10))) [(0, 52), (10, 59), (20, 91), (30, 122)] 153 = if v < 10 then 52 else if v < 20 then 59 else if v < 30 then 91 else if v < 40 then 122 else 153 := by decide
theorem x_passHour (hn : n ≤ 6) (h7 : S.1 21 7 = nI n) (V : cv S n N) (h6 : 0 ≤ (N 6).toInt) {a : Option Value} : ∃ S', pv_R mX5_passHour 0 [some (.ref 21), a] [] (pv_em S) = some (none, pv_em S') ∧ Ax S S' ∧ cv S' n (fun j => if j < n then tw_held (N j + tw_adds (S.1 22 j) (N 6)) else if j = 6 then N 6 + 1 else N j) := by
  obtain ⟨v1, v2, v3, v4, v5⟩ := V
  rw [bX5_passHour_0]
  obtain ⟨Z, e, h1, h2, h3⟩ := lpE (R := fun k (Z : pv_S) => pv_R mX5_passHour 2 [some (.ref 21), some (.int (nI k))] [] (pv_em Z)) (N := n) (fun k Z => (∀ k', k' ≠ 25 → Z.1 k' = S.1 k') ∧ Z.2 = S.2 ∧ ∀ q, q < n → Z.1 25 q = if q < k then tw_held (N q + tw_adds (S.1 22 q) (N 6)) else N q) (fun k Z hk hP => by
    obtain ⟨h1, h2, h3⟩ := hP
    refine ⟨pv_si Z 25 k (tw_held (N k + tw_adds (S.1 22 k) (N 6))), ?_, fun k' z => by rw [si_ne z]; exact h1 k' z, h2, fun q hq => ?_⟩
    · refine Eq.trans bX5_passHour_2 ?_
      rw [h1 21 (by decide), h7, if_neg (by rw [nIle (by omega) (by omega)]; omega), bX5_passHour_10, if_neg (gx (by omega) (by omega)), if_neg (gx (by omega) (by omega)), nIc (by omega), h1 21 (by decide), h1 22 (by decide), v2, x_after h6, pv_cc_some, bX5_passHour_34, if_neg (gx (by omega) (by omega)), nIc (by omega), nIs, h3 k hk, if_neg (by omega)]
    · rw [si_eq]
      by_cases e : q = k
      · rw [e, upd_eq, if_pos (by omega)]
      · rw [upd_ne e, h3 q hq]
        by_cases e2 : q < k
        · rw [if_pos e2, if_pos (by omega)]
        · rw [if_neg e2, if_neg (by omega)]) n 0 S (by omega) ⟨fun _ _ => rfl, rfl, fun q hq => by rw [if_neg (by omega)]; exact v1 q hq⟩
  refine ⟨pv_si Z 21 9 (N 6 + 1), Eq.trans e ?_, ⟨fun k k1 k2 => by rw [si_ne k1]; exact h1 k k2, h2, fun j hj => ?_⟩, fun i hi => ?_, ?_, ?_, ?_, ?_⟩
  · show pv_R mX5_passHour 2 _ _ _ = _
    rw [bX5_passHour_2, h1 21 (by decide), h7, if_pos (Int32.le_refl _), bX5_passHour_41, h1 21 (by decide), v2]
  · rw [si_eq, upd_ne (by omega), h1 21 (by decide)]
  · dsimp only
    rw [si_ne (by decide), h3 i hi, if_pos hi, if_pos hi]
  · dsimp only
    rw [si_eq, upd_eq, if_neg (by omega), if_pos rfl]
  · dsimp only
    rw [si_eq, upd_ne (by decide), if_neg (by omega), if_neg (by omega), h1 21 (by decide)]; exact v3
  · dsimp only
    rw [si_eq, upd_ne (by decide), if_neg (by omega), if_neg (by omega), h1 21 (by decide)]; exact v4
  · dsimp only
    rw [si_eq, upd_ne (by decide), if_neg (by omega), if_neg (by omega), h1 21 (by decide)]; exact v5
theorem nIsub {a b : Nat} (h : b ≤ a) (ha : a < 100000) : nI a - nI b = nI (a - b) := by
  refine Int32.toInt_inj.mp ?_
  rw [sb_i (by rw [nIt (by omega), nIt (by omega)]; omega) (by rw [nIt (by omega), nIt (by omega)]; omega), nIt (by omega), nIt (by omega), nIt (by omega)]
  omega
theorem ok_of {deed : Int32} (hn : n ≤ 6) (ok : tw_ok n deed) : ∃ v, deed = nI v ∧ v < 50 ∧ (v = 0 ∨ (10 ≤ v ∧ v < 10 + n) ∨ (21 ≤ v ∧ v ≤ 29) ∨ (31 ≤ v ∧ v ≤ 39) ∨ (40 ≤ v ∧ v < 40 + n)) := by
  rcases ok with q | q
  · exact ⟨0, q, by omega, Or.inl rfl⟩
  · obtain ⟨v, e, hv⟩ := nIex (x := deed) (by omega)
    exact ⟨v, e, by omega, by omega⟩
theorem x_act {deed : Int32} (hn : n ≤ 6) (h7 : S.1 21 7 = nI n) (V : cv S n N) (B : tw_b n d N) (ok : tw_ok n deed) {a : Option Value} : ∃ S', pv_R mX5_act 0 [some (.ref 21), some (.int deed), a] [] (pv_em S) = some (none, pv_em S') ∧ Ax S S' ∧ cv S' n (tw_act n (S.1 22) (S.1 23) deed N) := by
  obtain ⟨v, rfl, hv, ov⟩ := ok_of hn ok
  obtain ⟨u1, u2⟩ := dd50 v hv
  rw [bX5_act_0, u1, u2]
  unfold tw_act
  have l10 : (nI v < 10) = (v < 10) := by rw [show (10 : Int32) = nI 10 from rfl, nIlt (by omega) (by omega)]
  have l20 : (nI v < 20) = (v < 20) := by rw [show (20 : Int32) = nI 20 from rfl, nIlt (by omega) (by omega)]
  have l30 : (nI v < 30) = (v < 30) := by rw [show (30 : Int32) = nI 30 from rfl, nIlt (by omega) (by omega)]
  have l40 : (nI v < 40) = (v < 40) := by rw [show (40 : Int32) = nI 40 from rfl, nIlt (by omega) (by omega)]
  by_cases q1 : v < 10
  · rw [if_pos q1, if_pos (l10.mpr q1), bX5_act_52]
    obtain ⟨S', e, A, V'⟩ := x_passHour hn h7 V B.2.1.1 (a := none)
    refine ⟨S', ?_, A, V'⟩
    rw [e, pv_cc_void, bX5_act_56, bX5_act_166]
  rw [if_neg q1, if_neg (fun z => q1 (l10.mp z))]
  obtain ⟨v1, v2, v3, v4, v5⟩ := id V
  by_cases q2 : v < 20
  · rw [if_pos q2, if_pos (l20.mpr q2), bX5_act_59]
    have hi : v % 10 < n := by omega
    have e10 : (nI v - 10).toNatClampNeg = v % 10 := by rw [show (10 : Int32) = nI 10 from rfl, nIsub (by omega) (by omega), nIc (by omega)]; omega
    refine ⟨pv_si S 25 (v % 10) (tw_held (N (v % 10) + tw_meal (S.1 22 (v % 10)) (S.1 23 (v % 10)))), ?_, ⟨fun k k1 k2 => si_ne k2, rfl, fun j hj => by rw [si_ne (by decide)]⟩, fun i hi => ?_, ?_, ?_, ?_, ?_⟩
    · rw [xb_isCat hn h7, pv_cc_some, bX5_act_64, if_neg (by rw [bI_0, nIt (by omega)]; omega), bX5_act_67, if_neg (gx (by omega) (by omega)), xb_mealAdds (by omega), pv_cc_some, bX5_act_83, x_held, pv_cc_some, bX5_act_87, if_neg (gx (by omega) (by omega)), bX5_act_166, nIc (by omega), v1 _ hi]
    · dsimp only
      rw [e10, si_eq]
      by_cases e : i = v % 10
      · rw [e, upd_eq, if_pos rfl]
      · rw [upd_ne e, if_neg e]; exact v1 i hi
    · dsimp only
      rw [e10, if_neg (by omega), si_ne (by decide)]; exact v2
    · dsimp only
      rw [e10, if_neg (by omega), si_ne (by decide)]; exact v3
    · dsimp only
      rw [e10, if_neg (by omega), si_ne (by decide)]; exact v4
    · dsimp only
      rw [e10, if_neg (by omega), si_ne (by decide)]; exact v5
  rw [if_neg q2, if_neg (fun z => q2 (l20.mp z))]
  by_cases q3 : v < 30
  · rw [if_pos q3, if_pos (l30.mpr q3), bX5_act_91]
    have e20 : nI v - 20 = nI (v % 10) := by rw [show (20 : Int32) = nI 20 from rfl, nIsub (by omega) (by omega), show v - 20 = v % 10 from by omega]
    refine ⟨pv_si (pv_si S 21 12 (N 8 + nI (v % 10) * N (N 9).toNatClampNeg)) 21 11 (N 7 - 10 * nI (v % 10)), ?_, ⟨fun k k1 k2 => by rw [si_ne k1, si_ne k1], rfl, fun j hj => by rw [si_eq, upd_ne (by omega), si_eq, upd_ne (by omega)]⟩, fun i hi => ?_, ?_, ?_, ?_, ?_⟩
    · rw [xb_pound hn h7 V B, pv_cc_some, bX5_act_101, bX5_act_166, v4, show (pv_si S 21 12 (N 8 + nI (v % 10) * N (N 9).toNatClampNeg)).1 21 11 = N 7 from by rw [si_eq, upd_ne (by decide)]; exact v3]
    · dsimp only
      rw [if_neg (by omega), if_neg (by omega), si_ne (by decide), si_ne (by decide)]; exact v1 i hi
    · dsimp only
      rw [if_neg (by omega), if_neg (by omega), si_eq, upd_ne (by decide), si_eq, upd_ne (by decide)]; exact v2
    · dsimp only
      rw [if_pos rfl, si_eq, upd_eq, e20]
    · dsimp only
      rw [if_neg (by omega), if_pos rfl, si_eq, upd_ne (by decide), si_eq, upd_eq, e20]
    · dsimp only
      rw [if_neg (by omega), if_neg (by omega), si_eq, upd_ne (by decide), si_eq, upd_ne (by decide)]; exact v5
  rw [if_neg q3, if_neg (fun z => q3 (l30.mp z))]
  by_cases q4 : v < 40
  · rw [if_pos q4, if_pos (l40.mpr q4), bX5_act_122]
    have e20 : nI v - 30 = nI (v % 10) := by rw [show (30 : Int32) = nI 30 from rfl, nIsub (by omega) (by omega), show v - 30 = v % 10 from by omega]
    refine ⟨pv_si (pv_si S 21 12 (N 8 - nI (v % 10) * N (N 9).toNatClampNeg)) 21 11 (N 7 + 10 * nI (v % 10)), ?_, ⟨fun k k1 k2 => by rw [si_ne k1, si_ne k1], rfl, fun j hj => by rw [si_eq, upd_ne (by omega), si_eq, upd_ne (by omega)]⟩, fun i hi => ?_, ?_, ?_, ?_, ?_⟩
    · rw [xb_pound hn h7 V B, pv_cc_some, bX5_act_132, bX5_act_166, v4, show (pv_si S 21 12 (N 8 - nI (v % 10) * N (N 9).toNatClampNeg)).1 21 11 = N 7 from by rw [si_eq, upd_ne (by decide)]; exact v3]
    · dsimp only
      rw [if_neg (by omega), if_neg (by omega), si_ne (by decide), si_ne (by decide)]; exact v1 i hi
    · dsimp only
      rw [if_neg (by omega), if_neg (by omega), si_eq, upd_ne (by decide), si_eq, upd_ne (by decide)]; exact v2
    · dsimp only
      rw [if_pos rfl, si_eq, upd_eq, e20]
    · dsimp only
      rw [if_neg (by omega), if_pos rfl, si_eq, upd_ne (by decide), si_eq, upd_eq, e20]
    · dsimp only
      rw [if_neg (by omega), if_neg (by omega), si_eq, upd_ne (by decide), si_eq, upd_ne (by decide)]; exact v5
  rw [if_neg q4, if_neg (fun z => q4 (l40.mp z)), bX5_act_153]
  have e20 : nI v - 40 = nI (v % 10) := by rw [show (40 : Int32) = nI 40 from rfl, nIsub (by omega) (by omega), show v - 40 = v % 10 from by omega]
  refine ⟨pv_si S 21 10 (nI (v % 10)), ?_, ⟨fun k k1 k2 => si_ne k1, rfl, fun j hj => by rw [si_eq, upd_ne (by omega)]⟩, fun i hi => ?_, ?_, ?_, ?_, ?_⟩
  · rw [xb_isCat hn h7, pv_cc_some, bX5_act_158, if_neg (by rw [bI_0, nIt (by omega)]; omega), bX5_act_161, bX5_act_166]
  · dsimp only
    rw [if_neg (by omega), si_ne (by decide)]; exact v1 i hi
  · dsimp only
    rw [if_neg (by omega), si_eq, upd_ne (by decide)]; exact v2
  · dsimp only
    rw [if_neg (by omega), si_eq, upd_ne (by decide)]; exact v3
  · dsimp only
    rw [if_neg (by omega), si_eq, upd_ne (by decide)]; exact v4
  · dsimp only
    rw [if_pos rfl, si_eq, upd_eq, e20]
end DD
