/-! ===== by ledgers ===== -/
def A1 (p : Nat → Prop) [DecidablePred p] (m k : Nat) : Int32 := fsh (fun k => ¬ p k) (fun _ => (0 : Int32)) 1 m k
theorem A1_01 {p : Nat → Prop} [DecidablePred p] : ∀ m k, A1 p m k = 0 ∨ A1 p m k = 1
  | 0, _ => Or.inr rfl
  | m + 1, k => by
    show (if ¬ p k then (0 : Int32) else A1 p m (k + 1)) = 0 ∨ (if ¬ p k then (0 : Int32) else A1 p m (k + 1)) = 1
    by_cases q : p k
    · rw [if_neg (fun z => z q)]; exact A1_01 m (k + 1)
    · rw [if_pos q]; exact Or.inl rfl
theorem A1_all {p : Nat → Prop} [DecidablePred p] : ∀ m k, ¬ A1 p m k = 0 → ∀ j, k ≤ j → j < k + m → p j
  | 0, _, _, j, h1, h2 => absurd h2 (by omega)
  | m + 1, k, h, j, h1, h2 => by
    have h : ¬ (if ¬ p k then (0 : Int32) else A1 p m (k + 1)) = 0 := h
    by_cases q : p k
    · rw [if_neg (fun z => z q)] at h
      by_cases e : j = k
      · rw [e]; exact q
      · exact A1_all m (k + 1) h j (by omega) (by omega)
    · rw [if_pos q] at h; exact absurd rfl h
theorem A1_itf {p : Nat → Prop} [DecidablePred p] : ∀ m k (a : Int32), (a = 0 ∨ a = 1) → itf (fun k (a : Int32) => if a = 0 then 0 else if p k then 1 else 0) m k a = if a = 0 then 0 else A1 p m k
  | 0, k, a, h => by
    show a = if a = 0 then 0 else 1
    rcases h with h | h
    · rw [if_pos h, h]
    · rw [h]; rfl
  | m + 1, k, a, h => by
    show itf (fun k (a : Int32) => if a = 0 then 0 else if p k then 1 else 0) m (k + 1) (if a = 0 then 0 else if p k then 1 else 0) = if a = 0 then 0 else (if ¬ p k then 0 else A1 p m (k + 1))
    by_cases z : a = 0
    · rw [if_pos z, if_pos z, A1_itf m (k + 1) 0 (Or.inl rfl), if_pos rfl]
    · rw [if_neg z, if_neg z]
      by_cases q : p k
      · rw [if_pos q, if_neg (fun y => y q), A1_itf m (k + 1) 1 (Or.inr rfl), if_neg (by decide)]
      · rw [if_neg q, if_pos q, A1_itf m (k + 1) 0 (Or.inl rfl), if_pos rfl]
abbrev lg_ok (L : Nat → Int32) (k : Nat) : Prop := (0 ≤ (L (2 * k)).toInt ∧ (L (2 * k)).toInt ≤ 40) ∧ (1 ≤ (L (2 * k + 1)).toInt ∧ (L (2 * k + 1)).toInt ≤ 200)
abbrev lg_ft (L : Nat → Int32) (kd h w : Int32) (k : Nat) : Prop := tw_aft kd h w (L (2 * k)).toNatClampNeg = L (2 * k + 1)
/-- a row that can be a ledger -/
def LR (S : pv_S) (q m : Nat) : Prop := q < 6 ∧ m ≤ 8 ∧ S.1 2 q = nI (2 * m) ∧ S.1 38 q = nI (2 * m) ∧ ∀ j, j < 2 * m → S.1 39 (40 * q + j) = S.1 (4 + q) j
theorem LR_congr {S S' : pv_S} {q m : Nat} (h2 : S'.1 2 = S.1 2) (h38 : S'.1 38 = S.1 38) (h39 : S'.1 39 = S.1 39) (h4 : S'.1 (4 + q) = S.1 (4 + q)) (R : LR S q m) : LR S' q m := by
  unfold LR
  rw [h2, h38, h39, h4]; exact R
theorem e40m {m : Nat} (h : m ≤ 1000) : (40 : Int32) * nI m = nI (40 * m) := by
  refine Int32.toInt_inj.mp ?_
  rw [ml_i (by rw [i40, nIt (by omega)]; omega) (by rw [i40, nIt (by omega)]; omega), i40, nIt (by omega), nIt (by omega)]
  omega
theorem j40 : (40 : Int64).toInt = 40 := by decide
section LG
variable {S : pv_S} {n c q m : Nat}
theorem x_get {j : Nat} (hq : q < 6) (hj : j < 40) : pv_R mX3_get 0 [some (.ref 1), some (.int (nI q)), some (.int (nI j))] [] (pv_em S) = some (some (.int (S.1 (4 + q) j)), pv_em S) := by
  rw [bX3_getr_0, if_neg (gx (by omega) (by omega)), if_neg (gx (by omega) (by omega)), nIc (by omega), nIc (by omega)]
theorem x_size (hq : q < 6) : pv_R mX3_sizeOf 0 [some (.ref 1), some (.int (nI q))] [] (pv_em S) = some (some (.int (S.1 2 q)), pv_em S) := by
  rw [bX3_sizeOfr_0, if_neg (gx (by omega) (by omega)), nIc (by omega)]
theorem xw40 {a : Int32} : pv_R mX6_isWithin 0 [some (.int a), some (.int 0), some (.int 40)] [] (pv_em S) = some (some (.int (bI (0 ≤ a.toInt ∧ a.toInt ≤ 40))), pv_em S) := by simp only [x_within, i0, i40]
theorem xw200 {a : Int32} : pv_R mX6_isWithin 0 [some (.int a), some (.int 1), some (.int 200)] [] (pv_em S) = some (some (.int (bI (1 ≤ a.toInt ∧ a.toInt ≤ 200))), pv_em S) := by simp only [x_within, i1, i200]
theorem cw40 {x : Int32} {a b d : Option Value} : pv_R mX7_in 0 [some (.long (Int32.toInt64 x)), a, some (.long 0), b, some (.long 40), d] [] (pv_em S) = some (some (.int (bI (0 ≤ x.toInt ∧ x.toInt ≤ 40))), pv_em S) := by simp only [c_in, Int32.toInt_toInt64, j0, j40]
theorem cw200 {x : Int32} {a b d : Option Value} : pv_R mX7_in 0 [some (.long (Int32.toInt64 x)), a, some (.long 1), b, some (.long 200), d] [] (pv_em S) = some (some (.int (bI (1 ≤ x.toInt ∧ x.toInt ≤ 200))), pv_em S) := by simp only [c_in, Int32.toInt_toInt64, j1, j200]
theorem x_holds (R : LR S q m) {a b : Option Value} : pv_R mX6_holdsPairs 0 [some (.ref 0), some (.int (nI q)), a, b] [] (pv_em S) = some (some (.int (A1 (lg_ok (S.1 (4 + q))) m 0)), pv_em S) := by
  obtain ⟨r1, r2, r3, r4, r5⟩ := R
  rw [bX6_holdsPairs_0, x_size r1, pv_cc_some, bX6_holdsPairs_8, r3]
  refine fsh_run (R := fun k => pv_R mX6_holdsPairs 11 [some (.ref 0), some (.int (nI q)), some (.int (nI (2 * m))), some (.int (nI (2 * k)))] [] (pv_em S)) (F := fun a => some (some (.int a), pv_em S)) (N := m) (fun k hk => ?_) ?_ m 0 (by omega)
  · refine Eq.trans bX6_holdsPairs_11 ?_
    have s2 : nI (2 * k) + 2 = nI (2 * (k + 1)) := by rw [show (2 : Int32) = nI 2 from rfl, nIadd]; rfl
    rw [nIs, if_neg (by rw [nIle (by omega) (by omega)]; omega), bX6_holdsPairs_18, x_get r1 (by omega), pv_cc_some, bX6_holdsPairs_27, xw40, pv_cc_some, bX6_holdsPairs_33]
    by_cases q1 : 0 ≤ (S.1 (4 + q) (2 * k)).toInt ∧ (S.1 (4 + q) (2 * k)).toInt ≤ 40
    · rw [bI_t q1, if_neg (by decide), bX6_holdsPairs_36, nIs, x_get r1 (by omega), pv_cc_some, bX6_holdsPairs_47, xw200, pv_cc_some, bX6_holdsPairs_54]
      by_cases q2 : 1 ≤ (S.1 (4 + q) (2 * k + 1)).toInt ∧ (S.1 (4 + q) (2 * k + 1)).toInt ≤ 200
      · rw [bI_t q2, if_pos (by decide), if_neg (fun z => z ⟨q1, q2⟩), bX6_holdsPairs_59, s2]
      · rw [bI_f q2, if_neg (fun z => z rfl), if_pos (fun z => q2 z.2), bX6_holdsPairs_57]
    · rw [bI_f q1, if_pos rfl, if_pos (fun z => q1 z.1), bX6_holdsPairs_57]
  · show pv_R mX6_holdsPairs 11 _ _ _ = _
    rw [bX6_holdsPairs_11, nIs, if_pos (by rw [nIle (by omega) (by omega)]; omega), bX6_holdsPairs_65]
theorem m_wrongL (R : LR S q m) : pv_R mX7_wrongPairs 40 [some (.ref 37), some (.int (nI q)), some (.int 1), some (.int 0)] [] (pv_em S) = some (some (.int (if A1 (lg_ok (S.1 (4 + q))) m 0 = 0 then 3 else 0)), pv_em S) := by
  obtain ⟨r1, r2, r3, r4, r5⟩ := R
  have e := itf_runP (R := fun k (a : Int32) => pv_R mX7_wrongPairs 40 [some (.ref 37), some (.int (nI q)), some (.int a), some (.int (nI (2 * k)))] [] (pv_em S)) (f := fun k (a : Int32) => if a = 0 then 0 else if lg_ok (S.1 (4 + q)) k then 1 else 0) (F := fun a => some (some (.int (if a = 0 then 3 else 0)), pv_em S)) (P := fun _ _ => True) (N := m) (fun k a hk _ => ⟨?_, trivial⟩) (fun a _ => ?_) m 0 1 (by omega) trivial
  · rw [A1_itf m 0 1 (Or.inr rfl), if_neg (show ¬ (1 : Int32) = 0 by decide)] at e
    exact e
  · refine Eq.trans bX7_wrongPairs_40 ?_
    have s2 : nI (2 * k) + 2 = nI (2 * (k + 1)) := by rw [show (2 : Int32) = nI 2 from rfl, nIadd]; rfl
    rw [if_neg (gx (by omega) (by omega)), nIc (by omega), r4, if_neg (by rw [nIle (by omega) (by omega)]; omega), bX7_wrongPairs_50]
    by_cases z : a = 0
    · rw [if_pos z, if_pos z, bX7_wrongPairs_104, bX7_wrongPairs_105, s2]
    · rw [if_neg z, if_neg z, bX7_wrongPairs_54, e40m (by omega), nIadd, if_neg (gx (by omega) (by omega)), nIc (by omega), r5 (2 * k) (by omega), cw40, pv_cc_some, bX7_wrongPairs_73]
      by_cases q1 : 0 ≤ (S.1 (4 + q) (2 * k)).toInt ∧ (S.1 (4 + q) (2 * k)).toInt ≤ 40
      · rw [bI_t q1, if_neg (by decide), bX7_wrongPairs_76, e40m (by omega), nIadd, nIs, if_neg (gx (by omega) (by omega)), nIc (by omega), show 40 * q + 2 * k + 1 = 40 * q + (2 * k + 1) from by omega, r5 (2 * k + 1) (by omega), cw200, pv_cc_some, bX7_wrongPairs_97]
        by_cases q2 : 1 ≤ (S.1 (4 + q) (2 * k + 1)).toInt ∧ (S.1 (4 + q) (2 * k + 1)).toInt ≤ 200
        · rw [bI_t q2, if_neg (by decide), bX7_wrongPairs_100, bX7_wrongPairs_105, s2, if_pos ⟨q1, q2⟩]
        · rw [bI_f q2, if_pos rfl, bX7_wrongPairs_104, bX7_wrongPairs_105, s2, if_neg (fun z => q2 z.2)]
      · rw [bI_f q1, if_pos rfl, bX7_wrongPairs_104, bX7_wrongPairs_105, s2, if_neg (fun z => q1 z.1)]
  · show pv_R mX7_wrongPairs 40 _ _ _ = _
    rw [bX7_wrongPairs_40, if_neg (gx (by omega) (by omega)), nIc (by omega), r4, if_pos (Int32.le_refl _), bX7_wrongPairs_112]
    by_cases z : a = 0
    · rw [if_pos z, if_pos z, bX7_wrongPairs_120, bX7_wrongPairs_121]
    · rw [if_neg z, if_neg z, bX7_wrongPairs_116, bX7_wrongPairs_121]
theorem x_fits (T : Tw S n c) (R : LR S q m) (ok : ∀ k, k < m → lg_ok (S.1 (4 + q)) k) {kd w : Int32} {a b : Option Value} : ∃ S', pv_R mX6_fitsLedger 0 [some (.ref 0), some (.int kd), some (.int w), some (.int (nI q)), a, b] [] (pv_em S) = some (some (.int (A1 (lg_ft (S.1 (4 + q)) kd (S.1 44 6) w) m 0)), pv_em S') ∧ (∀ k, k ≠ 32 → k ≠ 33 → S'.1 k = S.1 k) ∧ S'.2 = S.2 := by
  obtain ⟨r1, r2, r3, r4, r5⟩ := R
  obtain ⟨h, eh, hh⟩ := tw_hN T
  obtain ⟨S', e, O⟩ := x_fill (S := S) (kind := kd) (w := w) (N := 40) (h := h) (by omega) (by omega) (a := none)
  refine ⟨S', ?_, O.1, O.2.1⟩
  rw [bX6_fitsLedger_0, tw_h T, eh, show (40 : Int32) = nI 40 from rfl, e, pv_cc_void, bX6_fitsLedger_18, x_size r1, pv_cc_some, bX6_fitsLedger_26, O.1 2 (by decide) (by decide), r3]
  refine fsh_run (R := fun k => pv_R mX6_fitsLedger 31 [some (.ref 0), some (.int kd), some (.int w), some (.int (nI q)), some (.int (nI (2 * m))), some (.int (nI (2 * k)))] [] (pv_em S')) (F := fun a => some (some (.int a), pv_em S')) (N := m) (fun k hk => ?_) ?_ m 0 (by omega)
  · refine Eq.trans bX6_fitsLedger_31 ?_
    have s2 : nI (2 * k) + 2 = nI (2 * (k + 1)) := by rw [show (2 : Int32) = nI 2 from rfl, nIadd]; rfl
    have o4 : S'.1 (4 + q) = S.1 (4 + q) := O.1 (4 + q) (by omega) (by omega)
    obtain ⟨k1, k2⟩ := (ok k hk).1
    obtain ⟨t, et, ht⟩ := nIex k1
    rw [nIs, if_neg (by rw [nIle (by omega) (by omega)]; omega), bX6_fitsLedger_40, x_get r1 (by omega), pv_cc_some, bX6_fitsLedger_54, o4, et, x_weightIn (N := 40) (by omega) (by omega) O.2.2.1, pv_cc_some, bX6_fitsLedger_57, nIs, x_get r1 (by omega), pv_cc_some, bX6_fitsLedger_69, o4, O.2.2.2 t (by omega)]
    have ec : (nI t).toNatClampNeg = t := nIc (by omega)
    by_cases w1 : tw_aft kd (nI h) w t = S.1 (4 + q) (2 * k + 1)
    · rw [if_pos w1, if_neg (fun z => z (by show tw_aft kd (nI h) w (S.1 (4 + q) (2 * k)).toNatClampNeg = _; rw [et, ec]; exact w1)), bX6_fitsLedger_74, s2]
    · rw [if_neg w1, if_pos (fun z => w1 (by have z : tw_aft kd (nI h) w (S.1 (4 + q) (2 * k)).toNatClampNeg = _ := z; rw [et, ec] at z; exact z)), bX6_fitsLedger_72]
  · show pv_R mX6_fitsLedger 31 _ _ _ = _
    rw [bX6_fitsLedger_31, nIs, if_pos (by rw [nIle (by omega) (by omega)]; omega), bX6_fitsLedger_80]
theorem m_isSo (T : Tw S n c) (R : LR S q m) (ok : ∀ k, k < m → lg_ok (S.1 (4 + q)) k) {kd w : Int32} {a b : Option Value} : pv_R mX7_isSo 0 [some (.ref 37), some (.int (nI q)), some (.int kd), some (.int w), a, b] [] (pv_em S) = some (some (.int (A1 (lg_ft (S.1 (4 + q)) kd (S.1 44 6) w) m 0)), pv_em S) := by
  obtain ⟨r1, r2, r3, r4, r5⟩ := R
  have hh := tw_hb T
  rw [bX7_isSo_0]
  have e := itf_runP (R := fun k (a : Int32) => pv_R mX7_isSo 6 [some (.ref 37), some (.int (nI q)), some (.int kd), some (.int w), some (.int a), some (.int (nI (2 * k)))] [] (pv_em S)) (f := fun k (a : Int32) => if a = 0 then 0 else if lg_ft (S.1 (4 + q)) kd (S.1 44 6) w k then 1 else 0) (F := fun a => some (some (.int a), pv_em S)) (P := fun _ a => a = 0 ∨ a = 1) (N := m) (fun k a hk _ => ⟨?_, ?_⟩) (fun a ha => ?_) m 0 1 (by omega) (Or.inr rfl)
  · rw [A1_itf m 0 1 (Or.inr rfl), if_neg (show ¬ (1 : Int32) = 0 by decide)] at e
    exact e
  · refine Eq.trans bX7_isSo_6 ?_
    have s2 : nI (2 * k) + 2 = nI (2 * (k + 1)) := by rw [show (2 : Int32) = nI 2 from rfl, nIadd]; rfl
    obtain ⟨k1, k2⟩ := (ok k hk).1
    obtain ⟨t, et, ht⟩ := nIex k1
    have ea : pv_R mX7_after 0 [some (.ref 37), some (.int kd), some (.int w), some (.int (S.1 (4 + q) (2 * k))), none, none] [] (pv_em S) = some (some (.int (tw_aft kd (S.1 44 6) w t)), pv_em S) := by
      rw [et]; exact m_after (by omega) hh.1 (by omega)
    rw [if_neg (gx (by omega) (by omega)), nIc (by omega), r4, if_neg (by rw [nIle (by omega) (by omega)]; omega), bX7_isSo_17]
    by_cases z : a = 0
    · rw [if_pos z, if_pos z, bX7_isSo_61, bX7_isSo_62, s2]
    · rw [if_neg z, if_neg z, bX7_isSo_22, e40m (by omega), nIadd, if_neg (gx (by omega) (by omega)), nIc (by omega), r5 (2 * k) (by omega), ea, pv_cc_some, bX7_isSo_40, e40m (by omega), nIadd, nIs, if_neg (gx (by omega) (by omega)), nIc (by omega), show 40 * q + 2 * k + 1 = 40 * q + (2 * k + 1) from by omega, r5 (2 * k + 1) (by omega)]
      have ec : (nI t).toNatClampNeg = t := nIc (by omega)
      by_cases w1 : tw_aft kd (S.1 44 6) w t = S.1 (4 + q) (2 * k + 1)
      · rw [if_neg (fun z => z w1), bX7_isSo_57, bX7_isSo_62, s2, if_pos (by show tw_aft kd (S.1 44 6) w (S.1 (4 + q) (2 * k)).toNatClampNeg = _; rw [et, ec]; exact w1)]
      · rw [if_pos w1, bX7_isSo_61, bX7_isSo_62, s2, if_neg (fun z => w1 (by have z : tw_aft kd (S.1 44 6) w (S.1 (4 + q) (2 * k)).toNatClampNeg = _ := z; rw [et, ec] at z; exact z))]
  · by_cases z : a = 0
    · rw [if_pos z]; exact Or.inl rfl
    · rw [if_neg z]
      by_cases w1 : lg_ft (S.1 (4 + q)) kd (S.1 44 6) w k
      · rw [if_pos w1]; exact Or.inr rfl
      · rw [if_neg w1]; exact Or.inl rfl
  · show pv_R mX7_isSo 6 _ _ _ = _
    rw [bX7_isSo_6, if_neg (gx (by omega) (by omega)), nIc (by omega), r4, if_pos (Int32.le_refl _), bX7_isSo_70]
    rcases ha with ha | ha
    · rw [ha, vn0, if_pos rfl]
    · rw [ha, vn1, if_pos rfl]
/-- the kinds that fit -/
def kfN (L : Nat → Int32) (h w : Int32) (m : Nat) : Nat := itf (fun k a => if A1 (lg_ft L (nI k) h w) m 0 = 0 then a else a ||| 2 ^ k) 6 0 0
theorem kf_lt {L : Nat → Int32} {h w : Int32} {m : Nat} : kfN L h w m < 64 := by
  have h1 : ∀ j k a, k + j ≤ 6 → a < 64 → itf (fun k a => if A1 (lg_ft L (nI k) h w) m 0 = 0 then a else a ||| 2 ^ k) j k a < 64 := by
    intro j
    induction j with
    | zero => intro k a _ h; exact h
    | succ j ih =>
      intro k a h1 h2
      refine ih (k + 1) _ (by omega) ?_
      dsimp only
      by_cases q : A1 (lg_ft L (nI k) h w) m 0 = 0
      · rw [if_pos q]; exact h2
      · rw [if_neg q]; exact (or64 a h2 k (by omega)).2
  exact h1 6 0 0 (by omega) (by omega)
theorem x_kf (T : Tw S n c) (R : LR S q m) (ok : ∀ k, k < m → lg_ok (S.1 (4 + q)) k) {i : Nat} (hi : i < n) {a b : Option Value} : ∃ S', pv_R mX6_kindsFitting 0 [some (.ref 0), some (.int (nI i)), some (.int (nI q)), a, b] [] (pv_em S) = some (some (.int (nI (kfN (S.1 (4 + q)) (S.1 44 6) (S.1 44 i) m))), pv_em S') ∧ (∀ k, k ≠ 32 → k ≠ 33 → S'.1 k = S.1 k) ∧ S'.2 = S.2 := by
  have hn := tw_n T
  have hq := R.1
  rw [bX6_kindsFitting_0]
  obtain ⟨⟨p, S'⟩, e, hp, _, h1, h2⟩ := lpF (R := fun k (z : Nat × pv_S) => pv_R mX6_kindsFitting 5 [some (.ref 0), some (.int (nI i)), some (.int (nI q)), some (.int (nI z.1)), some (.int (nI k))] [] (pv_em z.2)) (N := 6) (fun z => z.1) (fun k a => if A1 (lg_ft (S.1 (4 + q)) (nI k) (S.1 44 6) (S.1 44 i)) m 0 = 0 then a else a ||| 2 ^ k) (fun _ z => z.1 < 64 ∧ (∀ k, k ≠ 32 → k ≠ 33 → z.2.1 k = S.1 k) ∧ z.2.2 = S.2) (fun k z hk hP => by
    obtain ⟨a, Z⟩ := z
    obtain ⟨h0, h1, h2⟩ := hP
    have h0 : a < 64 := h0
    have h1 : ∀ k, k ≠ 32 → k ≠ 33 → Z.1 k = S.1 k := h1
    have TZ : Tw Z n c := Tw_congr (fun k hk => h1 k (by omega) (by omega)) (by rw [h1 37 (by decide) (by decide)]) (by rw [h1 37 (by decide) (by decide)]) (by rw [h1 37 (by decide) (by decide)]) T
    have z4 : Z.1 (4 + q) = S.1 (4 + q) := h1 (4 + q) (by omega) (by omega)
    have RZ : LR Z q m := LR_congr (h1 2 (by decide) (by decide)) (h1 38 (by decide) (by decide)) (h1 39 (by decide) (by decide)) z4 R
    obtain ⟨Z', e, g1, g2⟩ := x_fits TZ RZ (by rw [z4]; exact ok) (kd := nI k) (w := Z.1 25 i) (a := none) (b := none)
    obtain ⟨o1, o2⟩ := or64 a h0 k (by omega)
    refine ⟨(if A1 (lg_ft (S.1 (4 + q)) (nI k) (S.1 44 6) (S.1 44 i)) m 0 = 0 then a else a ||| 2 ^ k, Z'), ?_, rfl, ?_, fun k z1 z2 => (g1 k z1 z2).trans (h1 k z1 z2), g2.trans h2⟩
    · refine Eq.trans bX6_kindsFitting_5 ?_
      rw [z4, h1 44 (by decide) (by decide), tw_w TZ hi, h1 44 (by decide) (by decide)] at e
      rw [show (6 : Int32) = nI 6 from rfl, if_neg (by rw [nIle (by omega) (by omega)]; omega), bX6_kindsFitting_12, if_neg (gx (by omega) (by omega)), nIc (by omega), tw_w TZ hi, h1 44 (by decide) (by decide), e, pv_cc_some, bX6_kindsFitting_28]
      dsimp only
      by_cases w1 : A1 (lg_ft (S.1 (4 + q)) (nI k) (S.1 44 6) (S.1 44 i)) m 0 = 0
      · rw [if_pos w1, if_pos w1, bX6_kindsFitting_38, nIs]
      · rw [if_neg w1, if_neg w1, bX6_kindsFitting_31, bX6_kindsFitting_38, nIs, o1]
    · dsimp only
      by_cases w1 : A1 (lg_ft (S.1 (4 + q)) (nI k) (S.1 44 6) (S.1 44 i)) m 0 = 0
      · rw [if_pos w1]; exact h0
      · rw [if_neg w1]; exact o2) 6 0 (0, S) (by omega) ⟨show (0 : Nat) < 64 by decide, fun _ _ _ => rfl, rfl⟩
  have hp : p = kfN (S.1 (4 + q)) (S.1 44 6) (S.1 44 i) m := hp
  refine ⟨S', Eq.trans e ?_, h1, h2⟩
  rw [hp]
  show pv_R mX6_kindsFitting 5 _ _ _ = _
  rw [bX6_kindsFitting_5, if_pos (show (6 : Int32) ≤ nI 6 from by decide), bX6_kindsFitting_44]
theorem m_kf (T : Tw S n c) (R : LR S q m) (ok : ∀ k, k < m → lg_ok (S.1 (4 + q)) k) {i : Nat} (hi : i < n) {a b : Option Value} : pv_R mX7_kindsBy 0 [some (.ref 37), some (.int (nI i)), some (.int (nI q)), a, b] [] (pv_em S) = some (some (.int (nI (kfN (S.1 (4 + q)) (S.1 44 6) (S.1 44 i) m))), pv_em S) := by
  have hn := tw_n T
  rw [bX7_kindsBy_0]
  obtain ⟨p, e, hp, _⟩ := lpF (R := fun k (z : Nat) => pv_R mX7_kindsBy 5 [some (.ref 37), some (.int (nI i)), some (.int (nI q)), some (.int (nI z)), some (.int (nI k))] [] (pv_em S)) (N := 6) (fun z => z) (fun k a => if A1 (lg_ft (S.1 (4 + q)) (nI k) (S.1 44 6) (S.1 44 i)) m 0 = 0 then a else a ||| 2 ^ k) (fun _ z => z < 64) (fun k a hk h0 => by
    obtain ⟨o1, o2⟩ := or64 a h0 k (by omega)
    refine ⟨if A1 (lg_ft (S.1 (4 + q)) (nI k) (S.1 44 6) (S.1 44 i)) m 0 = 0 then a else a ||| 2 ^ k, ?_, rfl, ?_⟩
    · refine Eq.trans bX7_kindsBy_5 ?_
      rw [show (6 : Int32) = nI 6 from rfl, if_neg (by rw [nIle (by omega) (by omega)]; omega), bX7_kindsBy_12, Int32.zero_add, if_neg (gx (by omega) (by omega)), nIc (by omega), m_isSo T R ok, pv_cc_some, bX7_kindsBy_28]
      by_cases w1 : A1 (lg_ft (S.1 (4 + q)) (nI k) (S.1 44 6) (S.1 44 i)) m 0 = 0
      · rw [if_pos w1, if_pos w1, bX7_kindsBy_38, bX7_kindsBy_39, nIs, Int32.or_zero]
      · rw [if_neg w1, if_neg w1, bX7_kindsBy_31, bX7_kindsBy_39, nIs, o1]
    · by_cases w1 : A1 (lg_ft (S.1 (4 + q)) (nI k) (S.1 44 6) (S.1 44 i)) m 0 = 0
      · rw [if_pos w1]; exact h0
      · rw [if_neg w1]; exact o2) 6 0 0 (by omega) (by decide)
  have hp : p = kfN (S.1 (4 + q)) (S.1 44 6) (S.1 44 i) m := hp
  refine Eq.trans e ?_
  rw [hp]
  show pv_R mX7_kindsBy 5 _ _ _ = _
  rw [bX7_kindsBy_5, if_pos (show (6 : Int32) ≤ nI 6 from by decide), bX7_kindsBy_47]
end LG
