/-! ===== odds, mid ===== -/
def wmS (kd h : Int32) (s t : Nat) (w : Int32) : Int32 := tw_held (w + tw_adds (if s.testBit t = true ∧ ko kd 1 then 0 else kd) (h + nI t))
def wmF (kd h w : Int32) (s N : Nat) : Int32 := itf (wmS kd h s) N 0 w
abbrev od (h : Int32) : Prop := ¬ (h - h / 2 * 2 = 0)
def sfF (h p : Int32) (s t : Nat) : Int32 := if s.testBit t = true then (if od (h + nI t) then p else 0) else (if od (h + nI t) then 12 - p else 12)
def shS (h p : Int32) (s t : Nat) (a : Int64) : Int64 := a * Int32.toInt64 (sfF h p s t)
def shF (h p : Int32) (s N : Nat) : Int64 := itf (shS h p s) N 0 1
def wlF (N : Nat) : Int64 := itf (fun _ (a : Int64) => a * 12) N 0 1
def chF (g : Nat → Int32) (h p : Int32) (N : Nat) : Int64 := itf (fun s a => a + shF h p s N * Int32.toInt64 (g s)) (2 ^ N) 0 0
def chG (v w : Int32) : Int32 := if 0 ≤ v then (if w < v then 0 else 1) else w
theorem wl_in : ∀ N, N ≤ 6 → 0 < (wlF N).toInt ∧ (wlF N).toInt < 4194304 := by decide +kernel
theorem pw12 : ∀ k, k ≤ 6 → (12 : Int) ^ k ≤ 2985984 ∧ 0 ≤ (12 : Int) ^ k := by decide
theorem i12 : (12 : Int32).toInt = 12 := by decide
theorem sf_in {h p : Int32} {s t : Nat} (h0 : 0 ≤ p.toInt) (h1 : p.toInt ≤ 12) : 0 ≤ (sfF h p s t).toInt ∧ (sfF h p s t).toInt ≤ 12 := by
  have e : (12 - p).toInt = 12 - p.toInt := by rw [sb_i (by rw [i12]; omega) (by rw [i12]; omega), i12]
  unfold sfF
  by_cases b : s.testBit t = true
  · rw [if_pos b]
    by_cases o : od (h + nI t)
    · rw [if_pos o]; exact ⟨h0, h1⟩
    · rw [if_neg o]; decide
  · rw [if_neg b]
    by_cases o : od (h + nI t)
    · rw [if_pos o, e]; omega
    · rw [if_neg o]; decide
theorem sh_in {h p : Int32} {s : Nat} (h0 : 0 ≤ p.toInt) (h1 : p.toInt ≤ 12) : ∀ m k (a : Int64), k + m ≤ 6 → 0 ≤ a.toInt → a.toInt ≤ (12 : Int) ^ k → 0 ≤ (itf (shS h p s) m k a).toInt ∧ (itf (shS h p s) m k a).toInt ≤ 2985984
  | 0, k, a, hk, a0, a1 => by
    have := (pw12 k (by omega)).1
    show 0 ≤ a.toInt ∧ a.toInt ≤ 2985984
    omega
  | m + 1, k, a, hk, a0, a1 => by
    obtain ⟨f0, f1⟩ := sf_in (h := h) (s := s) (t := k) h0 h1
    have p1 := pw12 k (by omega)
    have e1 : 0 ≤ a.toInt * (sfF h p s k).toInt := Int.mul_nonneg a0 f0
    have e2 : a.toInt * (sfF h p s k).toInt ≤ a.toInt * 12 := Int.mul_le_mul_of_nonneg_left f1 a0
    have e3 : (shS h p s k a).toInt = a.toInt * (sfF h p s k).toInt := by
      unfold shS
      rw [ml_l (by rw [Int32.toInt_toInt64]; omega) (by rw [Int32.toInt_toInt64]; omega), Int32.toInt_toInt64]
    exact sh_in h0 h1 m (k + 1) (shS h p s k a) (by omega) (by rw [e3]; exact e1) (by rw [e3, Int.pow_succ]; omega)
theorem shF_in {h p : Int32} {s N : Nat} (hN : N ≤ 6) (h0 : 0 ≤ p.toInt) (h1 : p.toInt ≤ 12) : 0 ≤ (shF h p s N).toInt ∧ (shF h p s N).toInt ≤ 2985984 := sh_in h0 h1 N 0 1 (by omega) (by decide) (by decide)
theorem ch_in {g : Nat → Int32} {h p : Int32} {N : Nat} (hN : N ≤ 6) (h0 : 0 ≤ p.toInt) (h1 : p.toInt ≤ 12) (hg : ∀ s, 0 ≤ (g s).toInt ∧ (g s).toInt ≤ 200) (m : Nat) : ∀ (k : Nat) (a : Int64), k + m ≤ 64 → 0 ≤ a.toInt → a.toInt ≤ (k : Int) * 600000000 → 0 ≤ (itf (fun s a => a + shF h p s N * Int32.toInt64 (g s)) m k a).toInt := by
  induction m with
  | zero => intro k a _ a0 _; exact a0
  | succ m ih =>
    intro k a hk a0 a1
    obtain ⟨s0, s1⟩ := shF_in (h := h) (s := k) hN h0 h1
    obtain ⟨g0, g1⟩ := hg k
    have e1 : 0 ≤ (shF h p k N).toInt * (g k).toInt := Int.mul_nonneg s0 g0
    have e2 : (shF h p k N).toInt * (g k).toInt ≤ (shF h p k N).toInt * 200 := Int.mul_le_mul_of_nonneg_left g1 s0
    have e3 : (shF h p k N * Int32.toInt64 (g k)).toInt = (shF h p k N).toInt * (g k).toInt := by
      rw [ml_l (by rw [Int32.toInt_toInt64]; omega) (by rw [Int32.toInt_toInt64]; omega), Int32.toInt_toInt64]
    have e4 : (a + shF h p k N * Int32.toInt64 (g k)).toInt = a.toInt + (shF h p k N).toInt * (g k).toInt := by
      rw [ad_l (by rw [e3]; omega) (by rw [e3]; omega), e3]
    exact ih (k + 1) (a + shF h p k N * Int32.toInt64 (g k)) (by omega) (by rw [e4]; omega) (by rw [e4]; omega)
theorem chF_in {g : Nat → Int32} {h p : Int32} {N : Nat} (hN : N ≤ 6) (h0 : 0 ≤ p.toInt) (h1 : p.toInt ≤ 12) (hg : ∀ s, 0 ≤ (g s).toInt ∧ (g s).toInt ≤ 200) : 0 ≤ (chF g h p N).toInt := ch_in hN h0 h1 hg (2 ^ N) 0 0 (by have := pw_le hN; omega) (by decide) (by decide)
theorem wm_in {kd h w : Int32} {s N : Nat} (hw : 1 ≤ w.toInt ∧ w.toInt ≤ 200) : 1 ≤ (wmF kd h w s N).toInt ∧ (wmF kd h w s N).toInt ≤ 200 := by
  have : ∀ m k (w : Int32), 1 ≤ w.toInt ∧ w.toInt ≤ 200 → 1 ≤ (itf (wmS kd h s) m k w).toInt ∧ (itf (wmS kd h s) m k w).toInt ≤ 200 := by
    intro m
    induction m with
    | zero => intro k w hw; exact hw
    | succ m ih => intro k w hw; exact ih (k + 1) (wmS kd h s k w) (held_in _)
  exact this N 0 w hw
theorem chG_in {v w : Int32} (hw : 1 ≤ w.toInt ∧ w.toInt ≤ 200) : 0 ≤ (chG v w).toInt ∧ (chG v w).toInt ≤ 200 := by
  unfold chG
  by_cases c : 0 ≤ v
  · rw [if_pos c]
    by_cases d : w < v
    · rw [if_pos d]; decide
    · rw [if_neg d]; decide
  · rw [if_neg c]; omega
theorem ko1 {k : Int32} : ko k 1 ↔ (k = 1 ∨ k = 4) := by
  constructor
  · rintro (h | ⟨_, h⟩ | ⟨h, _⟩)
    · exact Or.inl h
    · exact Or.inr h
    · exact absurd h (by decide)
  · rintro (h | h)
    · exact Or.inl h
    · exact Or.inr (Or.inl ⟨rfl, h⟩)
section OD
variable {S : pv_S} {n c i s N : Nat}
theorem m_chg {k h x : Int32} (k1 : ¬ k = 1) (k4 : ¬ k = 4) : pv_R mX7_changes 0 [some (.int k), some (.int h), some (.int x)] [] (pv_em S) = some (some (.int (tw_adds k h)), pv_em S) := by
  rw [bX7_changes_0]
  unfold tw_adds
  rw [if_neg (c := k = 1 ∨ k = 4) (fun w => w.elim k1 k4)]
  by_cases k2 : k = 2
  · subst k2
    rw [show pv_swt (Int32.toInt 2) 1 [36, 53, 66, 36, 68] 70 = 53 from by decide, if_pos rfl, bX7_changes_53]
    by_cases q : h - h / 4 * 4 = 0
    · rw [if_pos q, if_neg (fun w => w q), bX7_changes_59, bX7_changes_65]
    · rw [if_neg q, if_pos q, bX7_changes_64, bX7_changes_65]
  rw [if_neg (c := k = 2) k2]
  by_cases k3 : k = 3
  · subst k3
    rw [show pv_swt (Int32.toInt 3) 1 [36, 53, 66, 36, 68] 70 = 66 from by decide, if_pos rfl, bX7_changes_66]
  rw [if_neg (c := k = 3) k3]
  by_cases k5 : k = 5
  · subst k5
    rw [show pv_swt (Int32.toInt 5) 1 [36, 53, 66, 36, 68] 70 = 68 from by decide, if_pos rfl, bX7_changes_68]
  rw [if_neg (c := k = 5) k5, sw5 k1 k2 k3 k4 k5, bX7_changes_70]
theorem m_chg0 {k h : Int32} : pv_R mX7_changes 0 [some (.int k), some (.int h), some (.int 0)] [] (pv_em S) = some (some (.int (tw_adds (if ko k 1 then 0 else k) h)), pv_em S) := by
  by_cases o : ko k 1
  · rw [if_pos o, show tw_adds 0 h = -1 from rfl]
    have go : pv_R mX7_changes 36 [some (.int k), some (.int h), some (.int 0)] [] (pv_em S) = some (some (.int (-1)), pv_em S) := by
      rw [bX7_changes_36]
      by_cases q : h - h / 2 * 2 = 1
      · rw [if_neg (fun z => z q), bX7_changes_43, if_pos rfl, bX7_changes_51, bX7_changes_52]
      · rw [if_pos q, bX7_changes_51, bX7_changes_52]
    rw [bX7_changes_0]
    rcases ko1.mp o with e | e
    · subst e
      rw [show pv_swt (Int32.toInt 1) 1 [36, 53, 66, 36, 68] 70 = 36 from by decide, go]
    · subst e
      rw [show pv_swt (Int32.toInt 4) 1 [36, 53, 66, 36, 68] 70 = 36 from by decide, go]
  · rw [if_neg o]
    exact m_chg (fun z => o (ko1.mpr (Or.inl z))) (fun z => o (ko1.mpr (Or.inr z)))
theorem x_wm (T : Tw S n c) (hi : i < n) (hs : s < 64) (hN : N ≤ 6) {a b d e : Option Value} : pv_R mX6_weightByMice 0 [some (.ref 0), some (.int (nI i)), some (.int (nI N)), some (.int (nI s)), a, b, d, e] [] (pv_em S) = some (some (.int (wmF (S.1 42 i) (S.1 44 6) (S.1 44 i) s N)), pv_em S) := by
  have hn := tw_n T
  obtain ⟨hr, ehr, hhr⟩ := tw_hN T
  rw [bX6_weightByMice_0, if_neg (gx (by omega) (by omega)), nIc (by omega), tw_w T hi]
  obtain ⟨⟨w', z1, z2⟩, e1, hp, _⟩ := lpF (R := fun k (q : Int32 × Option Value × Option Value) => pv_R mX6_weightByMice 14 [some (.ref 0), some (.int (nI i)), some (.int (nI N)), some (.int (nI s)), some (.int q.1), some (.int (nI k)), q.2.1, q.2.2] [] (pv_em S)) (N := N) (fun q => q.1) (wmS (S.1 42 i) (S.1 44 6) s) (fun _ _ => True) (fun k q hk _ => by
    obtain ⟨w, z1, z2⟩ := q
    have ah : ∀ kd : Int32, pv_R mX0_afterHour 0 [some (.int kd), some (.int w), some (.int (S.1 21 9 + nI k))] [] (pv_em S) = some (some (.int (tw_held (w + tw_adds kd (S.1 44 6 + nI k)))), pv_em S) := fun kd => by
      rw [tw_h T, ehr, nIadd, x_after (by rw [nIt (by omega)]; omega)]
    by_cases bt : s.testBit k = true
    · by_cases o : ko (S.1 42 i) 1
      · refine ⟨(wmS (S.1 42 i) (S.1 44 6) s k w, some (.int 0), some (.int 1)), ?_, rfl, trivial⟩
        refine Eq.trans bX6_weightByMice_14 ?_
        rw [if_neg (by rw [nIle (by omega) (by omega)]; omega), bX6_weightByMice_20, if_neg (gx (by omega) (by omega)), nIc (by omega), sh64 s hs k (by omega), if_pos bt, if_neg (by decide), bX6_weightByMice_40, bX6_weightByMice_45, if_neg (by decide), bX6_weightByMice_52, ← tw_kd T hi, x_isOf (by decide), pv_cc_some, bX6_weightByMice_58, bI_t o, if_neg (by decide), bX6_weightByMice_61, bX6_weightByMice_64, ah, pv_cc_some, bX6_weightByMice_81, nIs]
        unfold wmS
        rw [if_pos ⟨bt, o⟩]
      · refine ⟨(wmS (S.1 42 i) (S.1 44 6) s k w, some (.int (S.1 42 i)), some (.int 1)), ?_, rfl, trivial⟩
        refine Eq.trans bX6_weightByMice_14 ?_
        rw [if_neg (by rw [nIle (by omega) (by omega)]; omega), bX6_weightByMice_20, if_neg (gx (by omega) (by omega)), nIc (by omega), sh64 s hs k (by omega), if_pos bt, if_neg (by decide), bX6_weightByMice_40, bX6_weightByMice_45, if_neg (by decide), bX6_weightByMice_52, ← tw_kd T hi, x_isOf (by decide), pv_cc_some, bX6_weightByMice_58, bI_f o, if_pos rfl, bX6_weightByMice_64, ah, pv_cc_some, bX6_weightByMice_81, nIs]
        unfold wmS
        rw [if_neg (fun z => o z.2)]
    · refine ⟨(wmS (S.1 42 i) (S.1 44 6) s k w, some (.int (S.1 42 i)), some (.int 0)), ?_, rfl, trivial⟩
      refine Eq.trans bX6_weightByMice_14 ?_
      rw [if_neg (by rw [nIle (by omega) (by omega)]; omega), bX6_weightByMice_20, if_neg (gx (by omega) (by omega)), nIc (by omega), sh64 s hs k (by omega), if_neg bt, if_pos rfl, bX6_weightByMice_44, bX6_weightByMice_45, if_pos rfl, ← tw_kd T hi, bX6_weightByMice_64, ah, pv_cc_some, bX6_weightByMice_81, nIs]
      unfold wmS
      rw [if_neg (fun z => bt z.1)]) N 0 (S.1 44 i, d, e) (by omega) trivial
  have hp : w' = wmF (S.1 42 i) (S.1 44 6) (S.1 44 i) s N := hp
  refine Eq.trans e1 ?_
  rw [← hp]
  show pv_R mX6_weightByMice 14 _ _ _ = _
  rw [bX6_weightByMice_14, if_pos (Int32.le_refl _), bX6_weightByMice_89]
theorem x_sh (T : Tw S n c) {p : Int32} (hs : s < 64) (hN : N ≤ 6) {a b d e : Option Value} : pv_R mX6_shareOf 0 [some (.ref 0), some (.int (nI s)), some (.int (nI N)), some (.int p), a, b, d, e] [] (pv_em S) = some (some (.long (shF (S.1 44 6) p s N)), pv_em S) := by
  rw [bX6_shareOf_0]
  obtain ⟨⟨w', z⟩, e1, hp, _⟩ := lpF (R := fun k (q : Int64 × Option Value) => pv_R mX6_shareOf 6 [some (.ref 0), some (.int (nI s)), some (.int (nI N)), some (.int p), some (.long q.1), none, some (.int (nI k)), q.2] [] (pv_em S)) (N := N) (fun q => q.1) (shS (S.1 44 6) p s) (fun _ _ => True) (fun k q hk _ => by
    obtain ⟨w, z⟩ := q
    by_cases o : od (S.1 44 6 + nI k)
    · refine ⟨(shS (S.1 44 6) p s k w, some (.int p)), ?_, rfl, trivial⟩
      refine Eq.trans bX6_shareOf_6 ?_
      rw [if_neg (by rw [nIle (by omega) (by omega)]; omega), bX6_shareOf_12, tw_h T, x_mice, pv_cc_some, bX6_shareOf_25, bI_t o, if_neg (by decide), bX6_shareOf_28, bX6_shareOf_33, sh64 s hs k (by omega)]
      unfold shS sfF
      by_cases bt : s.testBit k = true
      · rw [if_pos bt, if_neg (by decide), bX6_shareOf_46, bX6_shareOf_58, nIs, if_pos bt, if_pos o]
      · rw [if_neg bt, if_pos rfl, bX6_shareOf_52, bX6_shareOf_58, nIs, if_neg bt, if_pos o]
    · refine ⟨(shS (S.1 44 6) p s k w, some (.int 0)), ?_, rfl, trivial⟩
      refine Eq.trans bX6_shareOf_6 ?_
      rw [if_neg (by rw [nIle (by omega) (by omega)]; omega), bX6_shareOf_12, tw_h T, x_mice, pv_cc_some, bX6_shareOf_25, bI_f o, if_pos rfl, bX6_shareOf_32, bX6_shareOf_33, sh64 s hs k (by omega)]
      unfold shS sfF
      by_cases bt : s.testBit k = true
      · rw [if_pos bt, if_neg (by decide), bX6_shareOf_46, bX6_shareOf_58, nIs, if_pos bt, if_neg o]
      · rw [if_neg bt, if_pos rfl, bX6_shareOf_52, bX6_shareOf_58, nIs, if_neg bt, if_neg o, Int32.sub_zero]) N 0 (1, e) (by omega) trivial
  have hp : w' = shF (S.1 44 6) p s N := hp
  refine Eq.trans e1 ?_
  rw [← hp]
  show pv_R mX6_shareOf 6 _ _ _ = _
  rw [bX6_shareOf_6, if_pos (Int32.le_refl _), bX6_shareOf_67]
theorem x_whole (hN : N ≤ 6) {a b d : Option Value} : pv_R mX6_wholeOf 0 [some (.int (nI N)), a, b, d] [] (pv_em S) = some (some (.long (wlF N)), pv_em S) := by
  rw [bX6_wholeOf_0]
  refine itf_run (R := fun k (a : Int64) => pv_R mX6_wholeOf 4 [some (.int (nI N)), some (.long a), none, some (.int (nI k))] [] (pv_em S)) (f := fun _ a => a * 12) (F := fun a => some (some (.long a), pv_em S)) (N := N) (fun k a h => ?_) (fun a => ?_) N 0 1 (by omega)
  · refine Eq.trans bX6_wholeOf_4 ?_
    rw [if_neg (by rw [nIle (by omega) (by omega)]; omega), bX6_wholeOf_9, nIs]
  · refine Eq.trans bX6_wholeOf_4 ?_
    rw [if_pos (Int32.le_refl _), bX6_wholeOf_21]
theorem x_oddsL (T : Tw S n c) {v p : Int32} (hi : i < n) (hN : N ≤ 6) (hv : 0 ≤ v) : pv_R mX6_odds 45 [some (.ref 0), some (.int (nI i)), some (.int v), some (.int (nI N)), some (.int p), none, none, none] [] (pv_em S) = pv_R mX6_odds 91 [some (.ref 0), some (.int (nI i)), some (.int v), some (.int (nI N)), some (.int p), some (.long (chF (fun s => chG v (wmF (S.1 42 i) (S.1 44 6) (S.1 44 i) s N)) (S.1 44 6) p N)), none, some (.int (nI (2 ^ N)))] [] (pv_em S) := by
  have p1 := pw_le hN
  rw [bX6_odds_45]
  refine itf_run (R := fun s (a : Int64) => pv_R mX6_odds 51 [some (.ref 0), some (.int (nI i)), some (.int v), some (.int (nI N)), some (.int p), some (.long a), none, some (.int (nI s))] [] (pv_em S)) (f := fun s a => a + shF (S.1 44 6) p s N * Int32.toInt64 (chG v (wmF (S.1 42 i) (S.1 44 6) (S.1 44 i) s N))) (F := fun a => pv_R mX6_odds 91 [some (.ref 0), some (.int (nI i)), some (.int v), some (.int (nI N)), some (.int p), some (.long a), none, some (.int (nI (2 ^ N)))] [] (pv_em S)) (N := 2 ^ N) (fun s a h => ?_) (fun a => ?_) (2 ^ N) 0 0 (by omega)
  · refine Eq.trans bX6_odds_51 ?_
    rw [pw6 N hN, if_neg (by rw [nIle (by omega) (by omega)]; omega), bX6_odds_59, x_wm T hi (by omega) hN, pv_cc_some, bX6_odds_67]
    unfold chG
    by_cases q : wmF (S.1 42 i) (S.1 44 6) (S.1 44 i) s N < v
    · rw [if_pos q, bX6_odds_85, nIs, if_pos hv, if_pos q, show Int32.toInt64 0 = 0 from by decide, Int64.mul_zero, Int64.add_zero]
      rfl
    · rw [if_neg q, bX6_odds_71, x_sh T (by omega) hN, pv_cc_some, bX6_odds_82, bX6_odds_85, nIs, if_pos hv, if_neg q, show Int32.toInt64 1 = 1 from by decide, Int64.mul_one]
      rfl
  · refine Eq.trans bX6_odds_51 ?_
    rw [pw6 N hN, if_pos (Int32.le_refl _)]
theorem x_midL (T : Tw S n c) {p : Int32} (hi : i < n) (hN : N ≤ 6) : pv_R mX6_mid 33 [some (.ref 0), some (.int (nI i)), some (.int (nI N)), some (.int p), none, none, none] [] (pv_em S) = pv_R mX6_mid 76 [some (.ref 0), some (.int (nI i)), some (.int (nI N)), some (.int p), some (.long (chF (fun s => chG (-1) (wmF (S.1 42 i) (S.1 44 6) (S.1 44 i) s N)) (S.1 44 6) p N)), none, some (.int (nI (2 ^ N)))] [] (pv_em S) := by
  have p1 := pw_le hN
  rw [bX6_mid_33]
  refine itf_run (R := fun s (a : Int64) => pv_R mX6_mid 39 [some (.ref 0), some (.int (nI i)), some (.int (nI N)), some (.int p), some (.long a), none, some (.int (nI s))] [] (pv_em S)) (f := fun s a => a + shF (S.1 44 6) p s N * Int32.toInt64 (chG (-1) (wmF (S.1 42 i) (S.1 44 6) (S.1 44 i) s N))) (F := fun a => pv_R mX6_mid 76 [some (.ref 0), some (.int (nI i)), some (.int (nI N)), some (.int p), some (.long a), none, some (.int (nI (2 ^ N)))] [] (pv_em S)) (N := 2 ^ N) (fun s a h => ?_) (fun a => ?_) (2 ^ N) 0 0 (by omega)
  · refine Eq.trans bX6_mid_39 ?_
    rw [pw6 N hN, if_neg (by rw [nIle (by omega) (by omega)]; omega), bX6_mid_47, x_wm T hi (by omega) hN, pv_cc_some, bX6_mid_57, x_sh T (by omega) hN, pv_cc_some, bX6_mid_66, nIs]
    unfold chG
    rw [if_neg (by decide), Int64.mul_comm]
  · refine Eq.trans bX6_mid_39 ?_
    rw [pw6 N hN, if_pos (Int32.le_refl _)]
def chP (kd h p : Int32) (s t : Nat) (q : Int64 × Int32) : Int64 × Int32 := (shS h p s t q.1, wmS kd h s t q.2)
theorem m_hasB (hs : s < 64) {k : Nat} (hk : k < 6) : pv_R mX7_has 0 [some (.int (nI s)), some (.int (nI k))] [] (pv_em S) = some (some (.int (if s.testBit k = true then 1 else 0)), pv_em S) := by
  rw [m_has hs hk]
  by_cases b : s.testBit k = true
  · rw [bI_t b, if_pos b]
  · rw [bI_f b, if_neg b]
theorem m_chI (T : Tw S n c) {v p : Int32} {a : Int64} (hi : i < n) (hs : s < 64) (hN : N ≤ 6) {z : Option Value} : ∃ z', pv_R mX7_chances 56 [some (.ref 37), some (.int (nI i)), some (.int v), some (.int (nI N)), some (.int p), some (.long a), none, some (.long (wlF N)), none, some (.int (nI s)), some (.long 1), none, some (.int (S.1 44 i)), some (.int 0), z] [] (pv_em S) = pv_R mX7_chances 168 [some (.ref 37), some (.int (nI i)), some (.int v), some (.int (nI N)), some (.int p), some (.long a), none, some (.long (wlF N)), none, some (.int (nI s)), some (.long (shF (S.1 44 6) p s N)), none, some (.int (wmF (S.1 42 i) (S.1 44 6) (S.1 44 i) s N)), some (.int (nI N)), z'] [] (pv_em S) := by
  have hn := tw_n T
  obtain ⟨hr, ehr, hhr⟩ := tw_hN T
  obtain ⟨⟨⟨w1, w2⟩, z'⟩, e1, hp, _⟩ := lpF (R := fun k (q : (Int64 × Int32) × Option Value) => pv_R mX7_chances 56 [some (.ref 37), some (.int (nI i)), some (.int v), some (.int (nI N)), some (.int p), some (.long a), none, some (.long (wlF N)), none, some (.int (nI s)), some (.long q.1.1), none, some (.int q.1.2), some (.int (nI k)), q.2] [] (pv_em S)) (N := N) (fun q => q.1) (chP (S.1 42 i) (S.1 44 6) p s) (fun _ _ => True) (fun k q hk _ => by
    obtain ⟨⟨a1, w1⟩, z⟩ := q
    refine ⟨(chP (S.1 42 i) (S.1 44 6) p s k (a1, w1), some (.int (S.1 44 6 + nI k))), ?_, rfl, trivial⟩
    refine Eq.trans bX7_chances_56 ?_
    have h6 : S.1 44 (6 : Int32).toNatClampNeg = S.1 44 6 := rfl
    have hodd : ((S.1 44 6 + nI k) - (S.1 44 6 + nI k) / 2 * 2 = 1) = od (S.1 44 6 + nI k) := by
      have e2 := rm2 (h := S.1 44 6 + nI k) (by rw [ehr, nIadd, nIt (by omega)]; omega)
      show _ = ¬ _
      rw [eqI i1, eqI i0, e2]
      exact propext ⟨fun q => by omega, fun q => by omega⟩
    -- behind the share
    have go : ∀ f : Int64, f = Int32.toInt64 (sfF (S.1 44 6) p s k) → pv_R mX7_chances 125 [some (.ref 37), some (.int (nI i)), some (.int v), some (.int (nI N)), some (.int p), some (.long a), none, some (.long (wlF N)), none, some (.int (nI s)), some (.long a1), none, some (.int w1), some (.int (nI k)), some (.int (S.1 44 6 + nI k))] [.long f, .long a1] (pv_em S) = pv_R mX7_chances 56 [some (.ref 37), some (.int (nI i)), some (.int v), some (.int (nI N)), some (.int p), some (.long a), none, some (.long (wlF N)), none, some (.int (nI s)), some (.long (chP (S.1 42 i) (S.1 44 6) p s k (a1, w1)).1), none, some (.int (chP (S.1 42 i) (S.1 44 6) p s k (a1, w1)).2), some (.int (nI (k + 1))), some (.int (S.1 44 6 + nI k))] [] (pv_em S) := by
      intro f hf
      rw [bX7_chances_125, if_neg (gx (by omega) (by omega)), nIc (by omega), m_hasB hs (by omega), pv_cc_some, bX7_chances_145]
      unfold chP wmS
      by_cases b : s.testBit k = true
      · rw [if_pos b, if_pos (by decide), bX7_chances_152, bX7_chances_153, m_chg0, pv_cc_some, bX7_chances_156, m_bound, pv_cc_some, bX7_chances_160, nIs, hf]
        by_cases o : ko (S.1 42 i) 1
        · have bo : s.testBit k = true ∧ ko (S.1 42 i) 1 := ⟨b, o⟩
          rw [if_pos o, if_pos bo]
          unfold shS
          dsimp only [pv_nl]
        · rw [if_neg o, if_neg (fun y => o y.2)]
          rfl
      · rw [if_neg b, if_neg (fun y => y rfl), bX7_chances_148, bX7_chances_153, m_changes (by rw [ehr, nIadd, nIt (by omega)]; omega), pv_cc_some, bX7_chances_156, m_bound, pv_cc_some, bX7_chances_160, nIs, hf, if_neg (fun y => b y.1)]
        rfl
    rw [if_neg (by rw [nIle (by omega) (by omega)]; omega), bX7_chances_62, h6]
    by_cases o : od (S.1 44 6 + nI k)
    · rw [if_neg (fun y => y (by rw [hodd]; exact o)), bX7_chances_84, m_hasB hs (by omega), pv_cc_some, bX7_chances_91]
      by_cases b : s.testBit k = true
      · rw [if_pos b, if_neg (by decide), bX7_chances_94, bX7_chances_104]
        exact go _ (by unfold sfF; rw [if_pos b, if_pos o])
      · rw [if_neg b, if_pos rfl, bX7_chances_99, bX7_chances_104]
        exact go _ (by unfold sfF; rw [if_neg b, if_pos o])
    · rw [if_pos (by rw [hodd]; exact o), bX7_chances_108, m_hasB hs (by omega), pv_cc_some, bX7_chances_115]
      by_cases b : s.testBit k = true
      · rw [if_pos b, if_neg (by decide), bX7_chances_118]
        exact go _ (by unfold sfF; rw [if_pos b, if_neg o]; decide)
      · rw [if_neg b, if_pos rfl, bX7_chances_122]
        exact go _ (by unfold sfF; rw [if_neg b, if_neg o]; decide)) N 0 ((1, S.1 44 i), z) (by omega) trivial
  have hp : (w1, w2) = itf (chP (S.1 42 i) (S.1 44 6) p s) N 0 (1, S.1 44 i) := hp
  have hq : itf (chP (S.1 42 i) (S.1 44 6) p s) N 0 (1, S.1 44 i) = (shF (S.1 44 6) p s N, wmF (S.1 42 i) (S.1 44 6) (S.1 44 i) s N) := itf_pair (f := shS (S.1 44 6) p s) (g := wmS (S.1 42 i) (S.1 44 6) s) N 0 (1, S.1 44 i)
  rw [hq] at hp
  cases hp
  refine ⟨z', Eq.trans e1 ?_⟩
  refine Eq.trans bX7_chances_56 ?_
  rw [if_pos (Int32.le_refl _)]
theorem m_chances (T : Tw S n c) {v p : Int32} (hi : i < n) (hN : N ≤ 6) (hp0 : 0 ≤ p.toInt) (hp1 : p.toInt ≤ 12) {a5 a6 a7 a8 a9 a10 a11 a12 a13 a14 : Option Value} : pv_R mX7_chances 0 [some (.ref 37), some (.int (nI i)), some (.int v), some (.int (nI N)), some (.int p), a5, a6, a7, a8, a9, a10, a11, a12, a13, a14] [] (pv_em S) = some (some (.int 1), pv_em (fr S (chF (fun s => chG v (wmF (S.1 42 i) (S.1 44 6) (S.1 44 i) s N)) (S.1 44 6) p N / gL (chF (fun s => chG v (wmF (S.1 42 i) (S.1 44 6) (S.1 44 i) s N)) (S.1 44 6) p N) (wlF N)) (wlF N / gL (chF (fun s => chG v (wmF (S.1 42 i) (S.1 44 6) (S.1 44 i) s N)) (S.1 44 6) p N) (wlF N)))) := by
  have hn := tw_n T
  have p1 := pw_le hN
  rw [bX7_chances_0]
  have s1 := itf_run (R := fun k (b : Int64) => pv_R mX7_chances 9 [some (.ref 37), some (.int (nI i)), some (.int v), some (.int (nI N)), some (.int p), some (.long 0), none, some (.long b), none, some (.int (nI k)), a10, a11, a12, a13, a14] [] (pv_em S)) (f := fun _ b => b * 12) (F := fun b => pv_R mX7_chances 32 [some (.ref 37), some (.int (nI i)), some (.int v), some (.int (nI N)), some (.int p), some (.long 0), none, some (.long b), none, some (.int 0), a10, a11, a12, a13, a14] [] (pv_em S)) (N := N) (fun k b h => by
    refine Eq.trans bX7_chances_9 ?_
    rw [if_neg (by rw [nIle (by omega) (by omega)]; omega), bX7_chances_15, nIs]
    rfl) (fun b => by
    refine Eq.trans bX7_chances_9 ?_
    rw [if_pos (Int32.le_refl _), bX7_chances_29]
    rfl) N 0 1 (by omega)
  refine Eq.trans s1 ?_
  obtain ⟨⟨x, y10, y11, y12, y13, y14⟩, e1, hp, _⟩ := lpF (R := fun s (q : Int64 × Option Value × Option Value × Option Value × Option Value × Option Value) => pv_R mX7_chances 32 [some (.ref 37), some (.int (nI i)), some (.int v), some (.int (nI N)), some (.int p), some (.long q.1), none, some (.long (wlF N)), none, some (.int (nI s)), q.2.1, q.2.2.1, q.2.2.2.1, q.2.2.2.2.1, q.2.2.2.2.2] [] (pv_em S)) (N := 2 ^ N) (fun q => q.1) (fun s a => a + shF (S.1 44 6) p s N * Int32.toInt64 (chG v (wmF (S.1 42 i) (S.1 44 6) (S.1 44 i) s N))) (fun _ _ => True) (fun s q hs _ => by
    obtain ⟨a, y10, y11, y12, y13, y14⟩ := q
    obtain ⟨z', ei⟩ := m_chI (v := v) (p := p) (a := a) (s := s) T hi (by omega) hN (z := y14)
    refine ⟨(a + shF (S.1 44 6) p s N * Int32.toInt64 (chG v (wmF (S.1 42 i) (S.1 44 6) (S.1 44 i) s N)), some (.long (shF (S.1 44 6) p s N)), none, some (.int (wmF (S.1 42 i) (S.1 44 6) (S.1 44 i) s N)), some (.int (nI N)), z'), ?_, rfl, trivial⟩
    refine Eq.trans bX7_chances_32 ?_
    rw [pw6 N hN, if_neg (by rw [nIle (by omega) (by omega)]; omega), bX7_chances_40, Int32.zero_add, if_neg (gx (by omega) (by omega)), nIc (by omega), ei, bX7_chances_168]
    unfold chG
    by_cases q1 : 0 ≤ v
    · rw [if_pos q1, if_pos q1, bX7_chances_181]
      by_cases q2 : wmF (S.1 42 i) (S.1 44 6) (S.1 44 i) s N < v
      · rw [if_pos q2, if_pos q2, bX7_chances_191, bX7_chances_192, nIs]
        rfl
      · rw [if_neg q2, if_neg q2, bX7_chances_187, bX7_chances_192, nIs]
        rfl
    · rw [if_neg q1, if_neg q1, bX7_chances_176, bX7_chances_192, nIs]
      rfl) (2 ^ N) 0 (0, a10, a11, a12, a13, a14) (by omega) trivial
  have hp : x = chF (fun s => chG v (wmF (S.1 42 i) (S.1 44 6) (S.1 44 i) s N)) (S.1 44 6) p N := hp
  refine Eq.trans e1 ?_
  refine Eq.trans bX7_chances_32 ?_
  rw [pw6 N hN, if_pos (Int32.le_refl _), bX7_chances_203]
  have hx := chF_in (g := fun s => chG v (wmF (S.1 42 i) (S.1 44 6) (S.1 44 i) s N)) (h := S.1 44 6) hN hp0 hp1 (fun s => chG_in (wm_in (tw_wb T hi)))
  show pv_cc (pv_R mX7_fraction 0 [some (.ref 37), some (.long x), none, some (.long (wlF N)), none, none, none, none, none, none, none] [] (pv_em S)) _ _ _ _ = _
  rw [hp, m_frac hx (wl_in N hN).1, pv_cc_some, bX7_chances_211]
theorem tl_Tw {a b : Int64} (T : Tw S n c) : Tw (tl S a b) n c := T
theorem j6 : (6 : Int64).toInt = 6 := by decide
theorem j12 : (12 : Int64).toInt = 12 := by decide
theorem m_chT (T : Tw S n c) {v p : Int32} {A B : Int64} (hi : i < n) (hN : N ≤ 6) (hp0 : 0 ≤ p.toInt) (hp1 : p.toInt ≤ 12) {a5 a6 a7 a8 a9 a10 a11 a12 a13 a14 : Option Value} : pv_R mX7_chances 0 [some (.ref 37), some (.int (nI i)), some (.int v), some (.int (nI N)), some (.int p), a5, a6, a7, a8, a9, a10, a11, a12, a13, a14] [] (pv_em (tl S A B)) = some (some (.int 1), pv_em (fr (tl S A B) (chF (fun s => chG v (wmF (S.1 42 i) (S.1 44 6) (S.1 44 i) s N)) (S.1 44 6) p N / gL (chF (fun s => chG v (wmF (S.1 42 i) (S.1 44 6) (S.1 44 i) s N)) (S.1 44 6) p N) (wlF N)) (wlF N / gL (chF (fun s => chG v (wmF (S.1 42 i) (S.1 44 6) (S.1 44 i) s N)) (S.1 44 6) p N) (wlF N)))) := m_chances (S := tl S A B) (tl_Tw T) hi hN hp0 hp1
theorem tq_odds (I : Inv S) (i v w p : Int32) : pv_goI Inv S mX6_odds mX7_odds [.int i, .int v, .int w, .int p] := by
  obtain ⟨n, c, T⟩ := tw_of I
  have hn := tw_n T
  by_cases c1 : 0 ≤ i.toInt ∧ i.toInt < (n : Int)
  · by_cases c2 : 0 ≤ v.toInt ∧ v.toInt ≤ 200
    · by_cases c3 : 0 ≤ w.toInt ∧ w.toInt ≤ 6
      · by_cases c4 : 0 ≤ p.toInt ∧ p.toInt ≤ 12
        · obtain ⟨i, rfl, hi'⟩ := nIex c1.1
          obtain ⟨N, rfl, hN'⟩ := nIex c3.1
          have hi : i < n := by omega
          have hN : N ≤ 6 := by omega
          have hv : 0 ≤ v := by rw [leI, i0]; exact c2.1
          have hx := chF_in (g := fun s => chG v (wmF (S.1 42 i) (S.1 44 6) (S.1 44 i) s N)) (h := S.1 44 6) hN c4.1 c4.2 (fun s => chG_in (wm_in (tw_wb T hi)))
          have e1 := x_oddsL T (v := v) (p := p) hi hN hv
          have e2 := fun A B => m_chT T (v := v) (p := p) (A := A) (B := B) hi hN c4.1 c4.2 (a5 := none) (a6 := none) (a7 := none) (a8 := none) (a9 := none) (a10 := none) (a11 := none) (a12 := none) (a13 := none) (a14 := none)
          generalize chF (fun s => chG v (wmF (S.1 42 i) (S.1 44 6) (S.1 44 i) s N)) (S.1 44 6) p N = X at hx e1 e2
          refine ⟨1, tl S (X / gL X (wlF N)) (wlF N / gL X (wlF N)), fr (tl S (X / gL X (wlF N)) (wlF N / gL X (wlF N))) (X / gL X (wlF N)) (wlF N / gL X (wlF N)), ?_, ?_, Inv_tell I⟩
          · show pv_R mX6_odds 0 [some (.ref 0), some (.int (nI i)), some (.int v), some (.int (nI N)), some (.int p), none, none, none] [] (pv_em S) = _
            rw [bX6_odds_0, x_isCat T, pv_cc_some, bX6_odds_8, bI_t c1, if_neg (by decide), bX6_odds_11, x_within, i0, i200, pv_cc_some, bX6_odds_19, bI_t c2, if_neg (by decide), bX6_odds_22, x_within, i0, i6, pv_cc_some, bX6_odds_29, bI_t c3, if_neg (by decide), bX6_odds_32, x_within, i0, i12, pv_cc_some, bX6_odds_40, bI_t c4, if_pos (by decide), e1, bX6_odds_91, x_whole hN, pv_cc_some, bX6_odds_101, x_tell hx (wl_in N hN).1 (wl_in N hN).2, pv_cc_void, bX6_odds_104]
          · show pv_R mX7_odds 0 [some (.ref 37), some (.int (nI i)), some (.int v), some (.int (nI N)), some (.int p)] [] (pv_em _) = _
            rw [bX7_odds_0, m_isCat (tl_Tw T), pv_cc_some, bX7_odds_5, bI_t c1, if_neg (by decide), bX7_odds_8, c_in, Int32.toInt_toInt64, j0, j200, pv_cc_some, bX7_odds_17, bI_t c2, if_neg (by decide), bX7_odds_20, c_in, Int32.toInt_toInt64, j0, j6, pv_cc_some, bX7_odds_29, bI_t c3, if_neg (by decide), bX7_odds_32, c_in, Int32.toInt_toInt64, j0, j12, pv_cc_some, bX7_odds_42, bI_t c4, if_neg (by decide), bX7_odds_45, e2, pv_cc_some, bX7_odds_54, bX7_odds_58]
        · refine ⟨-1, S, S, ?_, ?_, I⟩
          · show pv_R mX6_odds 0 [some (.ref 0), some (.int i), some (.int v), some (.int w), some (.int p), none, none, none] [] (pv_em S) = _
            rw [bX6_odds_0, x_isCat T, pv_cc_some, bX6_odds_8, bI_t c1, if_neg (by decide), bX6_odds_11, x_within, i0, i200, pv_cc_some, bX6_odds_19, bI_t c2, if_neg (by decide), bX6_odds_22, x_within, i0, i6, pv_cc_some, bX6_odds_29, bI_t c3, if_neg (by decide), bX6_odds_32, x_within, i0, i12, pv_cc_some, bX6_odds_40, bI_f c4, if_neg (fun z => z rfl), bX6_odds_43]
          · show pv_R mX7_odds 0 [some (.ref 37), some (.int i), some (.int v), some (.int w), some (.int p)] [] (pv_em S) = _
            rw [bX7_odds_0, m_isCat T, pv_cc_some, bX7_odds_5, bI_t c1, if_neg (by decide), bX7_odds_8, c_in, Int32.toInt_toInt64, j0, j200, pv_cc_some, bX7_odds_17, bI_t c2, if_neg (by decide), bX7_odds_20, c_in, Int32.toInt_toInt64, j0, j6, pv_cc_some, bX7_odds_29, bI_t c3, if_neg (by decide), bX7_odds_32, c_in, Int32.toInt_toInt64, j0, j12, pv_cc_some, bX7_odds_42, bI_f c4, if_pos rfl, bX7_odds_57, bX7_odds_58]
      · refine ⟨-1, S, S, ?_, ?_, I⟩
        · show pv_R mX6_odds 0 [some (.ref 0), some (.int i), some (.int v), some (.int w), some (.int p), none, none, none] [] (pv_em S) = _
          rw [bX6_odds_0, x_isCat T, pv_cc_some, bX6_odds_8, bI_t c1, if_neg (by decide), bX6_odds_11, x_within, i0, i200, pv_cc_some, bX6_odds_19, bI_t c2, if_neg (by decide), bX6_odds_22, x_within, i0, i6, pv_cc_some, bX6_odds_29, bI_f c3, if_pos rfl, bX6_odds_43]
        · show pv_R mX7_odds 0 [some (.ref 37), some (.int i), some (.int v), some (.int w), some (.int p)] [] (pv_em S) = _
          rw [bX7_odds_0, m_isCat T, pv_cc_some, bX7_odds_5, bI_t c1, if_neg (by decide), bX7_odds_8, c_in, Int32.toInt_toInt64, j0, j200, pv_cc_some, bX7_odds_17, bI_t c2, if_neg (by decide), bX7_odds_20, c_in, Int32.toInt_toInt64, j0, j6, pv_cc_some, bX7_odds_29, bI_f c3, if_pos rfl, bX7_odds_57, bX7_odds_58]
    · refine ⟨-1, S, S, ?_, ?_, I⟩
      · show pv_R mX6_odds 0 [some (.ref 0), some (.int i), some (.int v), some (.int w), some (.int p), none, none, none] [] (pv_em S) = _
        rw [bX6_odds_0, x_isCat T, pv_cc_some, bX6_odds_8, bI_t c1, if_neg (by decide), bX6_odds_11, x_within, i0, i200, pv_cc_some, bX6_odds_19, bI_f c2, if_pos rfl, bX6_odds_43]
      · show pv_R mX7_odds 0 [some (.ref 37), some (.int i), some (.int v), some (.int w), some (.int p)] [] (pv_em S) = _
        rw [bX7_odds_0, m_isCat T, pv_cc_some, bX7_odds_5, bI_t c1, if_neg (by decide), bX7_odds_8, c_in, Int32.toInt_toInt64, j0, j200, pv_cc_some, bX7_odds_17, bI_f c2, if_pos rfl, bX7_odds_57, bX7_odds_58]
  · refine ⟨-1, S, S, ?_, ?_, I⟩
    · show pv_R mX6_odds 0 [some (.ref 0), some (.int i), some (.int v), some (.int w), some (.int p), none, none, none] [] (pv_em S) = _
      rw [bX6_odds_0, x_isCat T, pv_cc_some, bX6_odds_8, bI_f c1, if_pos rfl, bX6_odds_43]
    · show pv_R mX7_odds 0 [some (.ref 37), some (.int i), some (.int v), some (.int w), some (.int p)] [] (pv_em S) = _
      rw [bX7_odds_0, m_isCat T, pv_cc_some, bX7_odds_5, bI_f c1, if_pos rfl, bX7_odds_57, bX7_odds_58]
theorem tq_mid (I : Inv S) (i w p : Int32) : pv_goI Inv S mX6_mid mX7_mid [.int i, .int w, .int p] := by
  obtain ⟨n, c, T⟩ := tw_of I
  have hn := tw_n T
  by_cases c1 : 0 ≤ i.toInt ∧ i.toInt < (n : Int)
  · by_cases c2 : 0 ≤ w.toInt ∧ w.toInt ≤ 6
    · by_cases c3 : 0 ≤ p.toInt ∧ p.toInt ≤ 12
      · obtain ⟨i, rfl, hi'⟩ := nIex c1.1
        obtain ⟨N, rfl, hN'⟩ := nIex c2.1
        have hi : i < n := by omega
        have hN : N ≤ 6 := by omega
        have hx := chF_in (g := fun s => chG (-1) (wmF (S.1 42 i) (S.1 44 6) (S.1 44 i) s N)) (h := S.1 44 6) hN c3.1 c3.2 (fun s => chG_in (wm_in (tw_wb T hi)))
        have e1 := x_midL T (p := p) hi hN
        have e2 := fun A B => m_chT T (v := -1) (p := p) (A := A) (B := B) hi hN c3.1 c3.2 (a5 := none) (a6 := none) (a7 := none) (a8 := none) (a9 := none) (a10 := none) (a11 := none) (a12 := none) (a13 := none) (a14 := none)
        generalize chF (fun s => chG (-1) (wmF (S.1 42 i) (S.1 44 6) (S.1 44 i) s N)) (S.1 44 6) p N = X at hx e1 e2
        refine ⟨1, tl S (X / gL X (wlF N)) (wlF N / gL X (wlF N)), fr (tl S (X / gL X (wlF N)) (wlF N / gL X (wlF N))) (X / gL X (wlF N)) (wlF N / gL X (wlF N)), ?_, ?_, Inv_tell I⟩
        · show pv_R mX6_mid 0 [some (.ref 0), some (.int (nI i)), some (.int (nI N)), some (.int p), none, none, none] [] (pv_em S) = _
          rw [bX6_mid_0, x_isCat T, pv_cc_some, bX6_mid_8, bI_t c1, if_neg (by decide), bX6_mid_11, x_within, i0, i6, pv_cc_some, bX6_mid_18, bI_t c2, if_neg (by decide), bX6_mid_21, x_within, i0, i12, pv_cc_some, bX6_mid_28, bI_t c3, if_pos (by decide), e1, bX6_mid_76, x_whole hN, pv_cc_some, bX6_mid_86, x_tell hx (wl_in N hN).1 (wl_in N hN).2, pv_cc_void, bX6_mid_89]
        · show pv_R mX7_mid 0 [some (.ref 37), some (.int (nI i)), some (.int (nI N)), some (.int p)] [] (pv_em _) = _
          rw [bX7_mid_0, m_isCat (tl_Tw T), pv_cc_some, bX7_mid_5, bI_t c1, if_neg (by decide), bX7_mid_8, c_in, Int32.toInt_toInt64, j0, j6, pv_cc_some, bX7_mid_17, bI_t c2, if_neg (by decide), bX7_mid_20, c_in, Int32.toInt_toInt64, j0, j12, pv_cc_some, bX7_mid_29, bI_t c3, if_neg (by decide), bX7_mid_32, e2, pv_cc_some, bX7_mid_40, bX7_mid_44]
      · refine ⟨-1, S, S, ?_, ?_, I⟩
        · show pv_R mX6_mid 0 [some (.ref 0), some (.int i), some (.int w), some (.int p), none, none, none] [] (pv_em S) = _
          rw [bX6_mid_0, x_isCat T, pv_cc_some, bX6_mid_8, bI_t c1, if_neg (by decide), bX6_mid_11, x_within, i0, i6, pv_cc_some, bX6_mid_18, bI_t c2, if_neg (by decide), bX6_mid_21, x_within, i0, i12, pv_cc_some, bX6_mid_28, bI_f c3, if_neg (fun z => z rfl), bX6_mid_31]
        · show pv_R mX7_mid 0 [some (.ref 37), some (.int i), some (.int w), some (.int p)] [] (pv_em S) = _
          rw [bX7_mid_0, m_isCat T, pv_cc_some, bX7_mid_5, bI_t c1, if_neg (by decide), bX7_mid_8, c_in, Int32.toInt_toInt64, j0, j6, pv_cc_some, bX7_mid_17, bI_t c2, if_neg (by decide), bX7_mid_20, c_in, Int32.toInt_toInt64, j0, j12, pv_cc_some, bX7_mid_29, bI_f c3, if_pos rfl, bX7_mid_43, bX7_mid_44]
    · refine ⟨-1, S, S, ?_, ?_, I⟩
      · show pv_R mX6_mid 0 [some (.ref 0), some (.int i), some (.int w), some (.int p), none, none, none] [] (pv_em S) = _
        rw [bX6_mid_0, x_isCat T, pv_cc_some, bX6_mid_8, bI_t c1, if_neg (by decide), bX6_mid_11, x_within, i0, i6, pv_cc_some, bX6_mid_18, bI_f c2, if_pos rfl, bX6_mid_31]
      · show pv_R mX7_mid 0 [some (.ref 37), some (.int i), some (.int w), some (.int p)] [] (pv_em S) = _
        rw [bX7_mid_0, m_isCat T, pv_cc_some, bX7_mid_5, bI_t c1, if_neg (by decide), bX7_mid_8, c_in, Int32.toInt_toInt64, j0, j6, pv_cc_some, bX7_mid_17, bI_f c2, if_pos rfl, bX7_mid_43, bX7_mid_44]
  · refine ⟨-1, S, S, ?_, ?_, I⟩
    · show pv_R mX6_mid 0 [some (.ref 0), some (.int i), some (.int w), some (.int p), none, none, none] [] (pv_em S) = _
      rw [bX6_mid_0, x_isCat T, pv_cc_some, bX6_mid_8, bI_f c1, if_pos rfl, bX6_mid_31]
    · show pv_R mX7_mid 0 [some (.ref 37), some (.int i), some (.int w), some (.int p)] [] (pv_em S) = _
      rw [bX7_mid_0, m_isCat T, pv_cc_some, bX7_mid_5, bI_f c1, if_pos rfl, bX7_mid_43, bX7_mid_44]
end OD
