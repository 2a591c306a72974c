/-! ===== reading a town: the pure reader; the class's Reader; the reference's ===== -/
theorem si_si {S : pv_S} {k j : Nat} {v w : Int32} : pv_si (pv_si S k j v) k j w = pv_si S k j w := by
  refine Prod.ext (funext fun q => ?_) rfl
  show va_up (va_up S.1 k (upd (S.1 k) j v)) k (upd ((pv_si S k j v).1 k) j w) q = va_up S.1 k (upd (S.1 k) j w) q
  rw [si_eq]
  by_cases e : q = k
  · subst e
    simp only [va_up, if_true]
    funext i
    by_cases e2 : i = j
    · subst e2; rw [upd_eq, upd_eq]
    · rw [upd_ne e2, upd_ne e2, upd_ne e2]
  · simp only [va_up, e, if_false]
theorem si_id {S : pv_S} {k j : Nat} {v : Int32} (h : S.1 k j = v) : pv_si S k j v = S := by
  refine Prod.ext (funext fun q => ?_) rfl
  by_cases e : q = k
  · subst e
    rw [si_eq]
    funext i
    by_cases e2 : i = j
    · subst e2; rw [upd_eq, h]
    · rw [upd_ne e2]
  · rw [si_ne e]
theorem si_j {S : pv_S} {k j i : Nat} {v : Int32} (h : i ≠ j) : (pv_si S k j v).1 k i = S.1 k i := by rw [si_eq, upd_ne h]
theorem si_jj {S : pv_S} {k j : Nat} {v : Int32} : (pv_si S k j v).1 k j = v := by rw [si_eq, upd_eq]
def skF (L : Nat → Int32) (N : Nat) : Nat → Nat → Nat
  | 0, h => h
  | m + 1, h => if h < N ∧ L h = 32 then skF L N m (h + 1) else h
def skq (L : Nat → Int32) (N h : Nat) : Nat := skF L N (N - h) h
abbrev dig (L : Nat → Int32) (N h : Nat) : Prop := h < N ∧ 48 ≤ (L h).toInt ∧ (L h).toInt ≤ 57
def dv (L : Nat → Int32) (h : Nat) : Nat := ((L h).toInt - 48).toNat
/-- a weight of two figures: where the reading stands, what it weighs (0: none) -/
def tkW (L : Nat → Int32) (N h : Nat) : Nat × Nat := if dig L N h then (if dig L N (h + 1) ∧ dv L h + dv L (h + 1) ≠ 0 then (h + 2, 10 * dv L h + dv L (h + 1)) else (h + 1, 0)) else (h, 0)
def kl (b : Int32) : Int32 := if b = 99 then 0 else if b = 109 then 1 else if b = 111 then 2 else if b = 107 then 3 else if b = 104 then 4 else if b = 115 then 5 else -1
def kdA (L : Nat → Int32) (N h : Nat) : Int32 := if h < N then kl (L h) else -1
abbrev Rc : Type := Int32 × Int32 × Int32
/-- a cat -/
def tkC (L : Nat → Int32) (N k h : Nat) : Nat × Option Rc := if k = 6 ∨ kdA L N h = -1 then (h, none) else if (tkW L N (h + 1)).2 = 0 then ((tkW L N (h + 1)).1, none) else if dig L N (tkW L N (h + 1)).1 then ((tkW L N (h + 1)).1 + 1, some (kdA L N h, nI (tkW L N (h + 1)).2, nI (dv L (tkW L N (h + 1)).1))) else ((tkW L N (h + 1)).1, none)
def rdF (L : Nat → Int32) (N : Nat) : Nat → Nat → Nat → (Nat → Rc) → Int32 × Nat × (Nat → Rc)
  | 0, k, h, r => if N ≤ h then (if k = 0 then nI h else -9, k, r) else (nI (tkC L N k h).1, k, r)
  | m + 1, k, h, r => if N ≤ h then (if k = 0 then nI h else -9, k, r) else match (tkC L N k h).2 with
    | none => (nI (tkC L N k h).1, k, r)
    | some v => rdF L N m (k + 1) (skq L N (tkC L N k h).1) (fun i => if i = k then v else r i)
def ftF (L : Nat → Int32) (N : Nat) : Int32 × Int32 × Nat × (Nat → Rc) :=
  if skq L N 0 < N ∧ L (skq L N 0) = 100 then (if (tkW L N (skq L N 0 + 1)).2 = 0 then (nI (tkW L N (skq L N 0 + 1)).1, 0, 0, fun _ => (0, 0, 0)) else ((rdF L N 6 0 (skq L N (tkW L N (skq L N 0 + 1)).1) (fun _ => (0, 0, 0))).1, nI (tkW L N (skq L N 0 + 1)).2, (rdF L N 6 0 (skq L N (tkW L N (skq L N 0 + 1)).1) (fun _ => (0, 0, 0))).2)) else (nI (skq L N 0), 0, 0, fun _ => (0, 0, 0))
theorem skq_s {L : Nat → Int32} {N h : Nat} (h1 : h < N) (h2 : L h = 32) : skq L N h = skq L N (h + 1) := by
  unfold skq
  rw [show N - h = (N - (h + 1)) + 1 from by omega]
  show (if h < N ∧ L h = 32 then skF L N (N - (h + 1)) (h + 1) else h) = _
  rw [if_pos ⟨h1, h2⟩]
theorem skq_n {L : Nat → Int32} {N h : Nat} (h1 : ¬ (h < N ∧ L h = 32)) : skq L N h = h := by
  unfold skq
  cases N - h with
  | zero => rfl
  | succ m => exact if_neg h1
theorem skF_le {L : Nat → Int32} {N : Nat} : ∀ m h, h ≤ N → skF L N m h ≤ N
  | 0, h, hh => hh
  | m + 1, h, hh => by
    show (if h < N ∧ L h = 32 then skF L N m (h + 1) else h) ≤ N
    by_cases q : h < N ∧ L h = 32
    · rw [if_pos q]; exact skF_le m (h + 1) (by omega)
    · rw [if_neg q]; exact hh
theorem skq_le {L : Nat → Int32} {N h : Nat} (hh : h ≤ N) : skq L N h ≤ N := skF_le _ h hh
theorem dv_e {L : Nat → Int32} {N h : Nat} (d : dig L N h) : L h - 48 = nI (dv L h) ∧ dv L h ≤ 9 := by
  have e : (48 : Int32).toInt = 48 := by decide
  have e2 : (L h - 48).toInt = (L h).toInt - 48 := by rw [sb_i (by rw [e]; omega) (by rw [e]; omega), e]
  have := nIof (n := L h - 48) (by rw [e2]; omega)
  rw [e2] at this
  exact ⟨this, by unfold dv; omega⟩
theorem tkW_le {L : Nat → Int32} {N h : Nat} (hh : h ≤ N) : (tkW L N h).1 ≤ N ∧ (tkW L N h).2 ≤ 99 := by
  unfold tkW
  by_cases d : dig L N h
  · rw [if_pos d]
    have d1 := d.1
    by_cases d2 : dig L N (h + 1) ∧ dv L h + dv L (h + 1) ≠ 0
    · rw [if_pos d2]
      have d3 := d2.1.1
      have := (dv_e d).2
      have := (dv_e d2.1).2
      show h + 2 ≤ N ∧ 10 * dv L h + dv L (h + 1) ≤ 99
      omega
    · rw [if_neg d2]
      show h + 1 ≤ N ∧ 0 ≤ 99
      omega
  · rw [if_neg d]
    exact ⟨hh, Nat.zero_le _⟩
def rok (v : Rc) : Prop := (0 ≤ v.1.toInt ∧ v.1.toInt ≤ 5) ∧ (1 ≤ v.2.1.toInt ∧ v.2.1.toInt ≤ 99) ∧ (0 ≤ v.2.2.toInt ∧ v.2.2.toInt ≤ 9)
theorem kl_in (b : Int32) (h : ¬ kl b = -1) : 0 ≤ (kl b).toInt ∧ (kl b).toInt ≤ 5 := by
  unfold kl at h ⊢
  by_cases c1 : b = 99
  · rw [if_pos c1]; decide
  rw [if_neg c1] at h ⊢
  by_cases c2 : b = 109
  · rw [if_pos c2]; decide
  rw [if_neg c2] at h ⊢
  by_cases c3 : b = 111
  · rw [if_pos c3]; decide
  rw [if_neg c3] at h ⊢
  by_cases c4 : b = 107
  · rw [if_pos c4]; decide
  rw [if_neg c4] at h ⊢
  by_cases c5 : b = 104
  · rw [if_pos c5]; decide
  rw [if_neg c5] at h ⊢
  by_cases c6 : b = 115
  · rw [if_pos c6]; decide
  rw [if_neg c6] at h
  exact absurd rfl h
theorem kdA_in {L : Nat → Int32} {N h : Nat} (q : ¬ kdA L N h = -1) : h < N ∧ 0 ≤ (kdA L N h).toInt ∧ (kdA L N h).toInt ≤ 5 := by
  unfold kdA at q ⊢
  by_cases c : h < N
  · rw [if_pos c] at q ⊢
    exact ⟨c, kl_in _ q⟩
  · rw [if_neg c] at q
    exact absurd rfl q
theorem tkC_le {L : Nat → Int32} {N k h : Nat} (hh : h ≤ N) : (tkC L N k h).1 ≤ N := by
  unfold tkC
  by_cases c1 : k = 6 ∨ kdA L N h = -1
  · rw [if_pos c1]; exact hh
  have := (kdA_in fun z => c1 (Or.inr z)).1
  have t := (tkW_le (L := L) (N := N) (h := h + 1) (by omega)).1
  rw [if_neg c1]
  by_cases c2 : (tkW L N (h + 1)).2 = 0
  · rw [if_pos c2]; exact t
  rw [if_neg c2]
  by_cases c3 : dig L N (tkW L N (h + 1)).1
  · rw [if_pos c3]
    have := c3.1
    show (tkW L N (h + 1)).1 + 1 ≤ N
    omega
  · rw [if_neg c3]; exact t
theorem tkC_ok {L : Nat → Int32} {N k h : Nat} {v : Rc} (e : (tkC L N k h).2 = some v) : rok v ∧ k ≠ 6 := by
  unfold tkC at e
  by_cases c1 : k = 6 ∨ kdA L N h = -1
  · rw [if_pos c1] at e; cases e
  rw [if_neg c1] at e
  have hk := kdA_in fun z => c1 (Or.inr z)
  have t := tkW_le (L := L) (N := N) (h := h + 1) (by omega)
  by_cases c2 : (tkW L N (h + 1)).2 = 0
  · rw [if_pos c2] at e; cases e
  rw [if_neg c2] at e
  by_cases c3 : dig L N (tkW L N (h + 1)).1
  · rw [if_pos c3] at e
    cases e
    have d := (dv_e c3).2
    refine ⟨⟨hk.2, ?_, ?_⟩, fun z => c1 (Or.inl z)⟩
    · show 1 ≤ (nI (tkW L N (h + 1)).2).toInt ∧ (nI (tkW L N (h + 1)).2).toInt ≤ 99
      rw [nIt (by omega)]; omega
    · show 0 ≤ (nI (dv L (tkW L N (h + 1)).1)).toInt ∧ (nI (dv L (tkW L N (h + 1)).1)).toInt ≤ 9
      rw [nIt (by omega)]; omega
  · rw [if_neg c3] at e; cases e
theorem rd_ok {L : Nat → Int32} {N : Nat} : ∀ m k h r, k + m = 6 → (∀ i, i < k → rok (r i)) → (rdF L N m k h r).2.1 ≤ 6 ∧ ∀ i, i < (rdF L N m k h r).2.1 → rok ((rdF L N m k h r).2.2 i)
  | 0, k, h, r, hk, ok => by
    by_cases c : N ≤ h
    · rw [show rdF L N 0 k h r = (if k = 0 then nI h else -9, k, r) from if_pos c]
      exact ⟨by show k ≤ 6; omega, ok⟩
    · rw [show rdF L N 0 k h r = (nI (tkC L N k h).1, k, r) from if_neg c]
      exact ⟨by show k ≤ 6; omega, ok⟩
  | m + 1, k, h, r, hk, ok => by
    by_cases c : N ≤ h
    · rw [show rdF L N (m + 1) k h r = (if k = 0 then nI h else -9, k, r) from if_pos c]
      exact ⟨by show k ≤ 6; omega, ok⟩
    · cases e : (tkC L N k h).2 with
      | none =>
        rw [show rdF L N (m + 1) k h r = (nI (tkC L N k h).1, k, r) from by rw [rdF, if_neg c, e]]
        exact ⟨by show k ≤ 6; omega, ok⟩
      | some v =>
        rw [show rdF L N (m + 1) k h r = rdF L N m (k + 1) (skq L N (tkC L N k h).1) (fun i => if i = k then v else r i) from by rw [rdF, if_neg c, e]]
        refine rd_ok m (k + 1) _ _ (by omega) fun i hi => ?_
        by_cases z : i = k
        · rw [if_pos z]; exact (tkC_ok e).1
        · rw [if_neg z]; exact ok i (by omega)
theorem nIm9 {h : Nat} (hh : h < 100000) : ¬ nI h = -9 := fun z => by
  have := congrArg Int32.toInt z
  rw [nIt hh, show (-9 : Int32).toInt = -9 from by decide] at this
  omega
theorem ft_ok {L : Nat → Int32} {N : Nat} : (ftF L N).2.2.1 ≤ 6 ∧ ∀ i, i < (ftF L N).2.2.1 → rok ((ftF L N).2.2.2 i) := by
  unfold ftF
  by_cases c1 : skq L N 0 < N ∧ L (skq L N 0) = 100
  · rw [if_pos c1]
    by_cases c2 : (tkW L N (skq L N 0 + 1)).2 = 0
    · rw [if_pos c2]
      exact ⟨Nat.zero_le _, fun i hi => absurd hi (Nat.not_lt_zero i)⟩
    · rw [if_neg c2]
      exact rd_ok 6 0 _ _ rfl fun i hi => absurd hi (Nat.not_lt_zero i)
  · rw [if_neg c1]
    exact ⟨Nat.zero_le _, fun i hi => absurd hi (Nat.not_lt_zero i)⟩
/-- the text, as the class has it -/
def TX (S : pv_S) (q N : Nat) (L : Nat → Int32) : Prop := q < 4 ∧ N ≤ 60 ∧ S.1 11 q = nI N ∧ ∀ j, j < N → S.1 (13 + q) j = L j
def FX (S S' : pv_S) : Prop := (∀ c, c ≠ 17 → c ≠ 18 → c ≠ 19 → c ≠ 20 → S'.1 c = S.1 c) ∧ S'.2 = S.2
theorem FX_refl {S : pv_S} : FX S S := ⟨fun _ _ _ _ _ => rfl, rfl⟩
theorem FX_trans {S S' S'' : pv_S} (h : FX S S') (h' : FX S' S'') : FX S S'' := ⟨fun c a1 a2 a3 a4 => (h'.1 c a1 a2 a3 a4).trans (h.1 c a1 a2 a3 a4), h'.2.trans h.2⟩
theorem FX_17 {S : pv_S} {j : Nat} {v : Int32} : FX S (pv_si S 17 j v) := ⟨fun _ h _ _ _ => si_ne h, rfl⟩
theorem FX_TX {S S' : pv_S} {q N : Nat} {L : Nat → Int32} (h : FX S S') (X : TX S q N L) : TX S' q N L := by
  obtain ⟨x1, x2, x3, x4⟩ := X
  refine ⟨x1, x2, by rw [h.1 11 (by decide) (by decide) (by decide) (by decide)]; exact x3, fun j hj => ?_⟩
  rw [h.1 (13 + q) (by omega) (by omega) (by omega) (by omega)]
  exact x4 j hj
section RX
variable {S : pv_S} {q N h k : Nat} {L : Nat → Int32}
theorem x_sign (X : TX S q N L) (h5 : S.1 17 5 = nI h) (hh : h ≤ N) : pv_R mX2_signAt 0 [some (.ref 17), some (.ref 10), some (.int (nI q))] [] (pv_em S) = some (some (.int (if h < N then L h else 0)), pv_em S) := by
  obtain ⟨x1, x2, x3, x4⟩ := X
  rw [bX2_signAt_0, bX3_sizeOft_0, if_neg (gx (by omega) (by omega)), nIc (by omega), x3, pv_cc_some, bX2_signAt_9, h5, if_c (id := inferInstance) (nIle (by omega) (by omega))]
  by_cases c : h < N
  · rw [if_neg (by omega), if_pos c, bX2_signAt_12, h5, bX3_gett_0, if_neg (gx (by omega) (by omega)), if_neg (gx (by omega) (by omega)), nIc (by omega), nIc (by omega), x4 h c, pv_cc_some, bX2_signAt_21, bX2_signAt_25]
  · rw [if_pos (by omega), if_neg c, bX2_signAt_24, bX2_signAt_25]
theorem x_skipL : ∀ (m h t : Nat) (S : pv_S), h + m = N → t + m ≤ 60 → S.1 17 5 = nI h → TX S q N L → pv_R mX2_skipBlanks 2 [some (.ref 17), some (.ref 10), some (.int (nI q)), some (.int (nI t))] [] (pv_em S) = some (none, pv_em (pv_si S 17 5 (nI (skq L N h))))
  | 0, h, t, S, hm, ht, h5, X => by
    rw [skq_n (by omega), si_id h5, bX2_skipBlanks_2, show (60 : Int32) = nI 60 from rfl, if_c (id := inferInstance) (nIle (by omega) (by omega))]
    by_cases c : 60 ≤ t
    · rw [if_pos c, bX2_skipBlanks_35]
    · rw [if_neg c, bX2_skipBlanks_8, x_sign X h5 (by omega), pv_cc_some, if_neg (by omega), bX2_skipBlanks_14, if_pos (by decide), bX2_skipBlanks_35]
  | m + 1, h, t, S, hm, ht, h5, X => by
    have ih := x_skipL m (h + 1) (t + 1) (pv_si S 17 5 (nI (h + 1))) (by omega) (by omega) si_jj (FX_TX FX_17 X)
    rw [si_si] at ih
    rw [bX2_skipBlanks_2, show (60 : Int32) = nI 60 from rfl, if_c (id := inferInstance) (nIle (by omega) (by omega)), if_neg (by omega), bX2_skipBlanks_8, x_sign X h5 (by omega), pv_cc_some, if_pos (by omega), bX2_skipBlanks_14]
    by_cases c : L h = 32
    · rw [if_neg (fun z => z c), bX2_skipBlanks_19, h5, nIs, nIs, ih, skq_s (by omega) c]
    · rw [if_pos c, bX2_skipBlanks_35, skq_n (fun z => c z.2), si_id h5]
theorem x_skip (X : TX S q N L) (h5 : S.1 17 5 = nI h) (hh : h ≤ N) {a : Option Value} : pv_R mX2_skipBlanks 0 [some (.ref 17), some (.ref 10), some (.int (nI q)), a] [] (pv_em S) = some (none, pv_em (pv_si S 17 5 (nI (skq L N h)))) := by
  have x2 := X.2.1
  rw [bX2_skipBlanks_0]
  exact x_skipL (N - h) h 0 S (by omega) (by omega) h5 X
theorem x_fig (X : TX S q N L) (h5 : S.1 17 5 = nI h) (hh : h ≤ N) {a : Option Value} : pv_R mX2_figureAt 0 [some (.ref 17), some (.ref 10), some (.int (nI q)), a] [] (pv_em S) = some (some (.int (if dig L N h then nI (dv L h) else -1)), pv_em S) := by
  rw [bX2_figureAt_0, x_sign X h5 hh, pv_cc_some, bX2_figureAt_6]
  have e48 : (48 : Int32).toInt = 48 := by decide
  have e57 : (57 : Int32).toInt = 57 := by decide
  by_cases d : dig L N h
  · rw [if_pos d.1, if_pos d, if_neg (by rw [Int32.lt_iff_toInt_lt, e48]; omega), bX2_figureAt_13, if_neg (by rw [Int32.lt_iff_toInt_lt, e57]; omega), bX2_figureAt_19, (dv_e d).1, bX2_figureAt_27]
  · rw [if_neg d]
    by_cases c : h < N
    · rw [if_pos c]
      by_cases c2 : L h < 48
      · rw [if_pos c2, bX2_figureAt_26, bX2_figureAt_27]
      · rw [if_neg c2, bX2_figureAt_13]
        rw [Int32.lt_iff_toInt_lt, e48] at c2
        rw [if_pos (by rw [Int32.lt_iff_toInt_lt, e57]; omega), bX2_figureAt_26, bX2_figureAt_27]
    · rw [if_neg c, if_pos (by decide), bX2_figureAt_26, bX2_figureAt_27]
theorem x_tw (X : TX S q N L) (h5 : S.1 17 5 = nI h) (hh : h ≤ N) {a b : Option Value} : pv_R mX2_takeWeight 0 [some (.ref 17), some (.ref 10), some (.int (nI q)), a, b] [] (pv_em S) = some (some (.int (nI (tkW L N h).2)), pv_em (pv_si S 17 5 (nI (tkW L N h).1))) := by
  have x2 := X.2.1
  rw [bX2_takeWeight_0, x_fig X h5 hh, pv_cc_some, bX2_takeWeight_6]
  unfold tkW
  by_cases d : dig L N h
  · have d1 := d.1
    have v1 := (dv_e d).2
    rw [if_pos d, if_pos d, if_pos (by rw [show (0 : Int32) = nI 0 from rfl, nIle (by omega) (by omega)]; omega), bX2_takeWeight_13, h5, nIs, x_fig (FX_TX FX_17 X) si_jj (by omega), pv_cc_some, bX2_takeWeight_29]
    by_cases d2 : dig L N (h + 1)
    · have v2 := (dv_e d2).2
      rw [if_pos d2, if_neg (by rw [show (0 : Int32) = nI 0 from rfl, nIlt (by omega) (by omega)]; omega), bX2_takeWeight_36, nIadd, show (0 : Int32) = nI 0 from rfl, if_c (id := inferInstance) (nIne (by omega) (by omega))]
      by_cases c : dv L h + dv L (h + 1) = 0
      · rw [if_neg (fun z => z c), if_neg (fun z => z.2 c), bX2_takeWeight_43]; rfl
      · rw [if_pos c, if_pos ⟨d2, c⟩, bX2_takeWeight_45, si_jj, nIs, si_si, e10m (by omega), nIadd]
    · rw [if_neg d2, if_pos (by decide), if_neg (fun z => d2 z.1), bX2_takeWeight_43]; rfl
  · rw [if_neg d, if_neg (by decide), if_neg d, bX2_takeWeight_11, si_id h5]; rfl
theorem x_kl {b : Int32} : pv_R mX0_byLetter 0 [some (.int b)] [] (pv_em S) = some (some (.int (kl b)), pv_em S) := by
  rw [bX0_byLetter_0]
  unfold kl
  by_cases c1 : b = 99
  · subst c1
    rw [if_pos rfl, show pv_swt (Int32.toInt 99) 99 [84, 96, 96, 96, 96, 92, 96, 96, 90, 96, 86, 96, 88, 96, 96, 96, 94] 96 = 84 from by decide, bX0_byLetter_84]
  rw [if_neg c1]
  by_cases c2 : b = 109
  · subst c2
    rw [if_pos rfl, show pv_swt (Int32.toInt 109) 99 [84, 96, 96, 96, 96, 92, 96, 96, 90, 96, 86, 96, 88, 96, 96, 96, 94] 96 = 86 from by decide, bX0_byLetter_86]
  rw [if_neg c2]
  by_cases c3 : b = 111
  · subst c3
    rw [if_pos rfl, show pv_swt (Int32.toInt 111) 99 [84, 96, 96, 96, 96, 92, 96, 96, 90, 96, 86, 96, 88, 96, 96, 96, 94] 96 = 88 from by decide, bX0_byLetter_88]
  rw [if_neg c3]
  by_cases c4 : b = 107
  · subst c4
    rw [if_pos rfl, show pv_swt (Int32.toInt 107) 99 [84, 96, 96, 96, 96, 92, 96, 96, 90, 96, 86, 96, 88, 96, 96, 96, 94] 96 = 90 from by decide, bX0_byLetter_90]
  rw [if_neg c4]
  by_cases c5 : b = 104
  · subst c5
    rw [if_pos rfl, show pv_swt (Int32.toInt 104) 99 [84, 96, 96, 96, 96, 92, 96, 96, 90, 96, 86, 96, 88, 96, 96, 96, 94] 96 = 92 from by decide, bX0_byLetter_92]
  rw [if_neg c5]
  by_cases c6 : b = 115
  · subst c6
    rw [if_pos rfl, show pv_swt (Int32.toInt 115) 99 [84, 96, 96, 96, 96, 92, 96, 96, 90, 96, 86, 96, 88, 96, 96, 96, 94] 96 = 94 from by decide, bX0_byLetter_94]
  rw [if_neg c6]
  have n1 := neI (z := 99) (by decide) c1
  have n2 := neI (z := 109) (by decide) c2
  have n3 := neI (z := 111) (by decide) c3
  have n4 := neI (z := 107) (by decide) c4
  have n5 := neI (z := 104) (by decide) c5
  have n6 := neI (z := 115) (by decide) c6
  have e : pv_swt b.toInt 99 [84, 96, 96, 96, 96, 92, 96, 96, 90, 96, 86, 96, 88, 96, 96, 96, 94] 96 = 96 := by
    unfold pv_swt
    by_cases c : b.toInt < 99 ∨ 99 + ((17 : Nat) : Int) ≤ b.toInt
    · exact if_pos c
    · refine (if_neg c).trans ?_
      obtain ⟨i, hi⟩ : ∃ i : Nat, b.toInt = 99 + i := ⟨(b.toInt - 99).toNat, by omega⟩
      rw [hi, show ((99 : Int) + (i : Int) - 99).toNat = i from by omega]
      rw [hi] at n1 n2 n3 n4 n5 n6 c
      have : i = 1 ∨ i = 2 ∨ i = 3 ∨ i = 4 ∨ i = 6 ∨ i = 7 ∨ i = 9 ∨ i = 11 ∨ i = 13 ∨ i = 14 ∨ i = 15 := by omega
      rcases this with rfl | rfl | rfl | rfl | rfl | rfl | rfl | rfl | rfl | rfl | rfl <;> rfl
  rw [e, bX0_byLetter_96]
theorem m_kl {b : Int32} : pv_R mX7_kindOf 0 [some (.int b)] [] (pv_em S) = some (some (.int (kl b)), pv_em S) := by
  rw [bX7_kindOf_0]
  unfold kl
  by_cases c1 : b = 99
  · rw [if_neg (fun z => z c1), if_pos c1, bX7_kindOf_6, bX7_kindOf_61]
  rw [if_pos c1, if_neg c1, bX7_kindOf_10]
  by_cases c2 : b = 109
  · rw [if_neg (fun z => z c2), if_pos c2, bX7_kindOf_16, bX7_kindOf_61]
  rw [if_pos c2, if_neg c2, bX7_kindOf_20]
  by_cases c3 : b = 111
  · rw [if_neg (fun z => z c3), if_pos c3, bX7_kindOf_26, bX7_kindOf_61]
  rw [if_pos c3, if_neg c3, bX7_kindOf_30]
  by_cases c4 : b = 107
  · rw [if_neg (fun z => z c4), if_pos c4, bX7_kindOf_36, bX7_kindOf_61]
  rw [if_pos c4, if_neg c4, bX7_kindOf_40]
  by_cases c5 : b = 104
  · rw [if_neg (fun z => z c5), if_pos c5, bX7_kindOf_46, bX7_kindOf_61]
  rw [if_pos c5, if_neg c5, bX7_kindOf_50]
  by_cases c6 : b = 115
  · rw [if_neg (fun z => z c6), if_pos c6, bX7_kindOf_56, bX7_kindOf_61]
  rw [if_pos c6, if_neg c6, bX7_kindOf_60, bX7_kindOf_61]
theorem x_dog (X : TX S q N L) (h5 : S.1 17 5 = nI h) (hh : h ≤ N) : pv_R mX2_takeDog 0 [some (.ref 17), some (.ref 10), some (.int (nI q))] [] (pv_em S) = if h < N ∧ L h = 100 then some (some (.int (if (tkW L N (h + 1)).2 = 0 then 0 else 1)), pv_em (pv_si (pv_si S 17 5 (nI (tkW L N (h + 1)).1)) 17 3 (nI (tkW L N (h + 1)).2))) else some (some (.int 0), pv_em S) := by
  have x2 := X.2.1
  rw [bX2_takeDog_0, x_sign X h5 hh, pv_cc_some, bX2_takeDog_6]
  by_cases c : h < N
  · by_cases d : L h = 100
    · have t := tkW_le (L := L) (N := N) (h := h + 1) (by omega)
      rw [if_pos c, if_pos d, if_pos ⟨c, d⟩, bX2_takeDog_13, h5, nIs, x_tw (FX_TX FX_17 X) si_jj (by omega), si_si, pv_cc_some, bX2_takeDog_30, si_jj, show (0 : Int32) = nI 0 from rfl, if_c (id := inferInstance) (nIle (by omega) (by omega))]
      by_cases z : (tkW L N (h + 1)).2 = 0
      · rw [if_pos (by omega), if_pos z, bX2_takeDog_44, bX2_takeDog_45, if_pos vn0]; rfl
      · rw [if_neg (by omega), if_neg z, bX2_takeDog_40, bX2_takeDog_45, if_pos vn1]
    · rw [if_pos c, if_neg d, if_neg (fun z => d z.2), bX2_takeDog_11]
  · rw [if_neg c, if_neg (by decide), if_neg (fun z => c z.1), bX2_takeDog_11]
def tkS (S : pv_S) (p : Int32) (k : Nat) (r : Rc) : pv_S := pv_si (pv_si (pv_si (pv_si (pv_si S 17 5 p) 18 k r.1) 19 k r.2.1) 20 k r.2.2) 17 4 (nI (k + 1))
theorem x_cat (X : TX S q N L) (h5 : S.1 17 5 = nI h) (h4 : S.1 17 4 = nI k) (hk : k ≤ 6) (hh : h < N) {a b d : Option Value} : ((tkC L N k h).2 = none ∧ pv_R mX2_takeCat 0 [some (.ref 17), some (.ref 10), some (.int (nI q)), a, b, d] [] (pv_em S) = some (some (.int 0), pv_em (pv_si S 17 5 (nI (tkC L N k h).1)))) ∨ ∃ r, (tkC L N k h).2 = some r ∧ pv_R mX2_takeCat 0 [some (.ref 17), some (.ref 10), some (.int (nI q)), a, b, d] [] (pv_em S) = some (some (.int 1), pv_em (tkS S (nI (tkC L N k h).1) k r)) := by
  have x2 := X.2.1
  have ek : kdA L N h = kl (L h) := if_pos hh
  rw [bX2_takeCat_0, x_sign X h5 (by omega), pv_cc_some, if_pos hh, bX2_takeCat_6, x_kl, pv_cc_some, bX2_takeCat_9, h4, show (6 : Int32) = nI 6 from rfl, if_c (id := inferInstance) (nIle (by omega) (by omega)), ← ek]
  by_cases c1 : k = 6
  · left
    have et : tkC L N k h = (h, none) := if_pos (Or.inl c1)
    rw [et]
    refine ⟨rfl, ?_⟩
    rw [if_pos (show 6 ≤ k by omega), bX2_takeCat_24, si_id h5]
  rw [if_neg (show ¬ 6 ≤ k by omega), bX2_takeCat_19]
  by_cases c2 : kdA L N h = -1
  · left
    have et : tkC L N k h = (h, none) := if_pos (Or.inr c2)
    rw [et]
    refine ⟨rfl, ?_⟩
    rw [if_neg (fun z => z c2), bX2_takeCat_24, si_id h5]
  have t := tkW_le (L := L) (N := N) (h := h + 1) (by omega)
  have c12 : ¬ (k = 6 ∨ kdA L N h = -1) := fun z => z.elim c1 c2
  rw [if_pos c2, bX2_takeCat_26, h5, nIs, x_tw (FX_TX FX_17 X) si_jj (by omega), si_si, pv_cc_some, bX2_takeCat_42, if_c (id := inferInstance) (nIz (by omega))]
  by_cases c3 : (tkW L N (h + 1)).2 = 0
  · left
    have et : tkC L N k h = ((tkW L N (h + 1)).1, none) := by unfold tkC; rw [if_neg c12, if_pos c3]
    rw [et]
    refine ⟨rfl, ?_⟩
    rw [if_neg (fun z => z c3), bX2_takeCat_49]
  rw [if_pos c3, bX2_takeCat_51, x_fig (FX_TX FX_17 X) si_jj t.1, pv_cc_some, bX2_takeCat_57]
  by_cases c4 : dig L N (tkW L N (h + 1)).1
  · right
    have v := (dv_e c4).2
    have et : tkC L N k h = ((tkW L N (h + 1)).1 + 1, some (kdA L N h, nI (tkW L N (h + 1)).2, nI (dv L (tkW L N (h + 1)).1))) := by unfold tkC; rw [if_neg c12, if_neg c3, if_pos c4]
    rw [et]
    refine ⟨_, rfl, ?_⟩
    rw [if_pos c4, if_pos (nIp (by omega)), bX2_takeCat_66]
    have a1 : ∀ {Z : pv_S} {j : Nat} {v : Int32}, (pv_si Z 18 j v).1 17 = Z.1 17 := si_ne (by decide)
    have a2 : ∀ {Z : pv_S} {j : Nat} {v : Int32}, (pv_si Z 19 j v).1 17 = Z.1 17 := si_ne (by decide)
    have a3 : ∀ {Z : pv_S} {j : Nat} {v : Int32}, (pv_si Z 20 j v).1 17 = Z.1 17 := si_ne (by decide)
    have a4 : ∀ {Z : pv_S} {v : Int32}, (pv_si Z 17 5 v).1 17 4 = Z.1 17 4 := si_j (by decide)
    simp only [a1, a2, a3, a4, h4, si_jj, si_si, nIs, nIc (i := k) (by omega), kx (k := k) (N := 6) (by omega) (by omega), if_false]
    rfl
  · left
    have et : tkC L N k h = ((tkW L N (h + 1)).1, none) := by unfold tkC; rw [if_neg c12, if_neg c3, if_neg c4]
    rw [et]
    refine ⟨rfl, ?_⟩
    rw [if_neg c4, if_neg (by decide), bX2_takeCat_64]
def XC (S : pv_S) (k : Nat) (r : Nat → Rc) : Prop := S.1 17 4 = nI k ∧ ∀ i, i < k → S.1 18 i = (r i).1 ∧ S.1 19 i = (r i).2.1 ∧ S.1 20 i = (r i).2.2
theorem XC_5 {r : Nat → Rc} {v : Int32} (C : XC S k r) : XC (pv_si S 17 5 v) k r := by
  refine ⟨by rw [si_j (by decide)]; exact C.1, fun i hi => ?_⟩
  rw [si_ne (by decide), si_ne (by decide), si_ne (by decide)]
  exact C.2 i hi
theorem XC_S {r : Nat → Rc} {p : Int32} {v : Rc} (C : XC S k r) : XC (tkS S p k v) (k + 1) (fun i => if i = k then v else r i) := by
  refine ⟨si_jj, fun i hi => ?_⟩
  unfold tkS
  have e18 : (pv_si (pv_si (pv_si (pv_si (pv_si S 17 5 p) 18 k v.1) 19 k v.2.1) 20 k v.2.2) 17 4 (nI (k + 1))).1 18 = upd (S.1 18) k v.1 := by rw [si_ne (by decide), si_ne (by decide), si_ne (by decide), si_eq, si_ne (by decide)]
  have e19 : (pv_si (pv_si (pv_si (pv_si (pv_si S 17 5 p) 18 k v.1) 19 k v.2.1) 20 k v.2.2) 17 4 (nI (k + 1))).1 19 = upd (S.1 19) k v.2.1 := by rw [si_ne (by decide), si_ne (by decide), si_eq, si_ne (by decide), si_ne (by decide)]
  have e20 : (pv_si (pv_si (pv_si (pv_si (pv_si S 17 5 p) 18 k v.1) 19 k v.2.1) 20 k v.2.2) 17 4 (nI (k + 1))).1 20 = upd (S.1 20) k v.2.2 := by rw [si_ne (by decide), si_eq, si_ne (by decide), si_ne (by decide), si_ne (by decide)]
  rw [e18, e19, e20]
  by_cases e : i = k
  · rw [show (fun i => if i = k then v else r i) i = v from if_pos e, e, upd_eq, upd_eq, upd_eq]
    exact ⟨rfl, rfl, rfl⟩
  · rw [show (fun i => if i = k then v else r i) i = r i from if_neg e, upd_ne e, upd_ne e, upd_ne e]
    exact C.2 i (by omega)
theorem FX_S {p : Int32} {v : Rc} : FX S (tkS S p k v) := by
  refine ⟨fun c c1 c2 c3 c4 => ?_, rfl⟩
  unfold tkS
  rw [si_ne c1, si_ne c4, si_ne c3, si_ne c2, si_ne c1]
theorem tkS_5 {p : Int32} {v : Rc} : (tkS S p k v).1 17 5 = p ∧ (tkS S p k v).1 17 3 = S.1 17 3 := by
  unfold tkS
  refine ⟨?_, ?_⟩
  · rw [si_j (by decide), si_ne (by decide), si_ne (by decide), si_ne (by decide), si_jj]
  · rw [si_j (by decide), si_ne (by decide), si_ne (by decide), si_ne (by decide), si_j (by decide)]
theorem x_rdE (X : TX S q N L) (h5 : S.1 17 5 = nI h) (h4 : S.1 17 4 = nI k) (hk : k ≤ 6) (hh : h ≤ N) (c : N ≤ h) : pv_R mX2_faultOf 45 [some (.ref 17), some (.ref 10), some (.int (nI q)), some (.int (nI N)), some (.int (nI k))] [] (pv_em S) = some (some (.int (if k = 0 then nI h else -9)), pv_em S) := by
  have x2 := X.2.1
  rw [bX2_faultOf_45, show (6 : Int32) = nI 6 from rfl, if_c (id := inferInstance) (nIlt (by omega) (by omega)), if_neg (by omega), bX2_faultOf_52, h5, if_c (id := inferInstance) (nIle (by omega) (by omega)), if_pos c, bX2_faultOf_86, h4, show (0 : Int32) = nI 0 from rfl, if_c (id := inferInstance) (nIne (by omega) (by omega))]
  by_cases z : k = 0
  · rw [if_neg (fun y => y z), if_pos z, bX2_faultOf_93, h5, bX2_faultOf_102]
  · rw [if_pos z, if_neg z, bX2_faultOf_100, bX2_faultOf_102]
theorem x_rdC (X : TX S q N L) (h5 : S.1 17 5 = nI h) (hk : k ≤ 6) (c : ¬ N ≤ h) (hh : h ≤ N) : pv_R mX2_faultOf 45 [some (.ref 17), some (.ref 10), some (.int (nI q)), some (.int (nI N)), some (.int (nI k))] [] (pv_em S) = pv_cc (pv_R mX2_takeCat 0 [some (.ref 17), some (.ref 10), some (.int (nI q)), none, none, none] [] (pv_em S)) mX2_faultOf 66 [some (.ref 17), some (.ref 10), some (.int (nI q)), some (.int (nI N)), some (.int (nI k))] [] := by
  have x2 := X.2.1
  rw [bX2_faultOf_45, show (6 : Int32) = nI 6 from rfl, if_c (id := inferInstance) (nIlt (by omega) (by omega)), if_neg (by omega), bX2_faultOf_52, h5, if_c (id := inferInstance) (nIle (by omega) (by omega)), if_neg c, bX2_faultOf_60]
theorem x_rdL : ∀ (m k h : Nat) (r : Nat → Rc) (S : pv_S), k + m = 6 → h ≤ N → TX S q N L → S.1 17 5 = nI h → XC S k r → ∃ S', pv_R mX2_faultOf 45 [some (.ref 17), some (.ref 10), some (.int (nI q)), some (.int (nI N)), some (.int (nI k))] [] (pv_em S) = some (some (.int (rdF L N m k h r).1), pv_em S') ∧ FX S S' ∧ S'.1 17 3 = S.1 17 3 ∧ XC S' (rdF L N m k h r).2.1 (rdF L N m k h r).2.2
  | 0, k, h, r, S, hm, hh, X, h5, C => by
    by_cases c : N ≤ h
    · rw [show rdF L N 0 k h r = (if k = 0 then nI h else -9, k, r) from if_pos c]
      exact ⟨S, x_rdE X h5 C.1 (by omega) hh c, FX_refl, rfl, C⟩
    · rw [show rdF L N 0 k h r = (nI (tkC L N k h).1, k, r) from if_neg c]
      rcases x_cat X h5 C.1 (by omega) (show h < N by omega) (a := none) (b := none) (d := none) with ⟨e1, e2⟩ | ⟨v, e1, e2⟩
      · refine ⟨pv_si S 17 5 (nI (tkC L N k h).1), ?_, FX_17, si_j (by decide), XC_5 C⟩
        rw [x_rdC X h5 (by omega) c hh, e2, pv_cc_some, bX2_faultOf_66, if_neg (fun z => z rfl), bX2_faultOf_69, si_jj]
      · exact absurd (show k = 6 by omega) (tkC_ok e1).2
  | m + 1, k, h, r, S, hm, hh, X, h5, C => by
    by_cases c : N ≤ h
    · rw [show rdF L N (m + 1) k h r = (if k = 0 then nI h else -9, k, r) from if_pos c]
      exact ⟨S, x_rdE X h5 C.1 (by omega) hh c, FX_refl, rfl, C⟩
    · rcases x_cat X h5 C.1 (by omega) (show h < N by omega) (a := none) (b := none) (d := none) with ⟨e1, e2⟩ | ⟨v, e1, e2⟩
      · rw [show rdF L N (m + 1) k h r = (nI (tkC L N k h).1, k, r) from by rw [rdF, if_neg c, e1]]
        refine ⟨pv_si S 17 5 (nI (tkC L N k h).1), ?_, FX_17, si_j (by decide), XC_5 C⟩
        rw [x_rdC X h5 (by omega) c hh, e2, pv_cc_some, bX2_faultOf_66, if_neg (fun z => z rfl), bX2_faultOf_69, si_jj]
      · rw [show rdF L N (m + 1) k h r = rdF L N m (k + 1) (skq L N (tkC L N k h).1) (fun i => if i = k then v else r i) from by rw [rdF, if_neg c, e1]]
        have hl := tkC_le (L := L) (N := N) (k := k) (h := h) hh
        obtain ⟨S', g1, g2, g3, g4⟩ := x_rdL m (k + 1) (skq L N (tkC L N k h).1) (fun i => if i = k then v else r i) (pv_si (tkS S (nI (tkC L N k h).1) k v) 17 5 (nI (skq L N (tkC L N k h).1))) (by omega) (skq_le hl) (FX_TX FX_17 (FX_TX FX_S X)) si_jj (XC_5 (XC_S C))
        refine ⟨S', ?_, FX_trans FX_S (FX_trans FX_17 g2), by rw [g3, si_j (by decide)]; exact tkS_5.2, g4⟩
        rw [x_rdC X h5 (by omega) c hh, e2, pv_cc_some, bX2_faultOf_66, if_pos (by decide), bX2_faultOf_74, x_skip (FX_TX FX_S X) tkS_5.1 hl, pv_cc_void, bX2_faultOf_80, nIs, g1]
theorem x_faultOf (X : TX S q N L) {a b : Option Value} : ∃ S', pv_R mX2_faultOf 0 [some (.ref 17), some (.ref 10), some (.int (nI q)), a, b] [] (pv_em S) = some (some (.int (ftF L N).1), pv_em S') ∧ FX S S' ∧ ((ftF L N).1 = -9 → S'.1 17 3 = (ftF L N).2.1 ∧ XC S' (ftF L N).2.2.1 (ftF L N).2.2.2) := by
  have x1 := X.1
  have x2 := X.2.1
  have s0 : (pv_si (pv_si S 17 5 0) 17 4 0).1 17 5 = nI 0 := by rw [si_j (by decide), si_jj]; rfl
  have X0 : TX (pv_si (pv_si S 17 5 0) 17 4 0) q N L := FX_TX FX_17 (FX_TX FX_17 X)
  have s1 : (pv_si (pv_si (pv_si S 17 5 0) 17 4 0) 17 5 (nI (skq L N 0))).1 17 5 = nI (skq L N 0) := si_jj
  have X1 : TX (pv_si (pv_si (pv_si S 17 5 0) 17 4 0) 17 5 (nI (skq L N 0))) q N L := FX_TX FX_17 X0
  have hl := skq_le (L := L) (N := N) (h := 0) (Nat.zero_le _)
  have st : pv_R mX2_faultOf 0 [some (.ref 17), some (.ref 10), some (.int (nI q)), a, b] [] (pv_em S) = pv_cc (pv_R mX2_takeDog 0 [some (.ref 17), some (.ref 10), some (.int (nI q))] [] (pv_em (pv_si (pv_si (pv_si S 17 5 0) 17 4 0) 17 5 (nI (skq L N 0))))) mX2_faultOf 28 [some (.ref 17), some (.ref 10), some (.int (nI q)), some (.int (nI N)), b] [] := by
    rw [bX2_faultOf_0, bX3_sizeOft_0, if_neg (gx (by omega) (by omega)), nIc (by omega), X.2.2.1, pv_cc_some, bX2_faultOf_5, x_skip X0 s0 (Nat.zero_le _), pv_cc_void, bX2_faultOf_22]
  rw [st, x_dog X1 s1 hl]
  have F1 : FX S (pv_si (pv_si (pv_si S 17 5 0) 17 4 0) 17 5 (nI (skq L N 0))) := FX_trans FX_17 (FX_trans FX_17 FX_17)
  unfold ftF
  by_cases c1 : skq L N 0 < N ∧ L (skq L N 0) = 100
  · have t := tkW_le (L := L) (N := N) (h := skq L N 0 + 1) (by omega)
    rw [if_pos c1, if_pos c1, pv_cc_some, bX2_faultOf_28]
    have F2 : FX S (pv_si (pv_si (pv_si (pv_si (pv_si S 17 5 0) 17 4 0) 17 5 (nI (skq L N 0))) 17 5 (nI (tkW L N (skq L N 0 + 1)).1)) 17 3 (nI (tkW L N (skq L N 0 + 1)).2)) := FX_trans F1 (FX_trans FX_17 FX_17)
    have s2 : (pv_si (pv_si (pv_si (pv_si (pv_si S 17 5 0) 17 4 0) 17 5 (nI (skq L N 0))) 17 5 (nI (tkW L N (skq L N 0 + 1)).1)) 17 3 (nI (tkW L N (skq L N 0 + 1)).2)).1 17 5 = nI (tkW L N (skq L N 0 + 1)).1 := by rw [si_j (by decide), si_jj]
    by_cases c2 : (tkW L N (skq L N 0 + 1)).2 = 0
    · rw [if_pos c2, if_pos c2, if_neg (fun z => z rfl), bX2_faultOf_31, s2]
      exact ⟨_, rfl, F2, fun z => absurd z (nIm9 (by omega))⟩
    · rw [if_neg c2, if_neg c2, if_pos (by decide), bX2_faultOf_36, x_skip (FX_TX F2 X) s2 t.1, pv_cc_void, bX2_faultOf_42]
      obtain ⟨S', g1, g2, g3, g4⟩ := x_rdL 6 0 (skq L N (tkW L N (skq L N 0 + 1)).1) (fun _ => (0, 0, 0)) (pv_si (pv_si (pv_si (pv_si (pv_si (pv_si S 17 5 0) 17 4 0) 17 5 (nI (skq L N 0))) 17 5 (nI (tkW L N (skq L N 0 + 1)).1)) 17 3 (nI (tkW L N (skq L N 0 + 1)).2)) 17 5 (nI (skq L N (tkW L N (skq L N 0 + 1)).1))) rfl (skq_le t.1) (FX_TX FX_17 (FX_TX F2 X)) si_jj ⟨by rw [si_j (by decide), si_j (by decide), si_j (by decide), si_j (by decide), si_jj]; rfl, fun i hi => absurd hi (Nat.not_lt_zero i)⟩
      refine ⟨S', g1, FX_trans F2 (FX_trans FX_17 g2), fun _ => ⟨?_, g4⟩⟩
      rw [g3, si_j (by decide), si_jj]
  · rw [if_neg c1, if_neg c1, pv_cc_some, bX2_faultOf_28, if_neg (fun z => z rfl), bX2_faultOf_31, s1]
    exact ⟨_, rfl, F1, fun z => absurd z (nIm9 (by omega))⟩
end RX
