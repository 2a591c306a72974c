/-! ===== counts, bits, greatest divisors; sacks ===== -/
def cN (p : Nat → Prop) [DecidablePred p] : Nat → Nat → Nat
  | 0, _ => 0
  | m + 1, k => (if p k then 1 else 0) + cN p m (k + 1)
theorem cN_le {p : Nat → Prop} [DecidablePred p] : ∀ m k, cN p m k ≤ m
  | 0, _ => Nat.le_refl 0
  | m + 1, k => by
    have := cN_le (p := p) m (k + 1)
    show (if p k then 1 else 0) + cN p m (k + 1) ≤ m + 1
    by_cases q : p k
    · rw [if_pos q]; omega
    · rw [if_neg q]; omega
theorem cn_N {p : Nat → Prop} [DecidablePred p] : ∀ m k (a : Nat), itf (fun k (a : Int32) => if p k then a + 1 else a) m k (nI a) = nI (a + cN p m k)
  | 0, _, _ => rfl
  | m + 1, k, a => by
    show itf (fun k (a : Int32) => if p k then a + 1 else a) m (k + 1) (if p k then nI a + 1 else nI a) = nI (a + ((if p k then 1 else 0) + cN p m (k + 1)))
    by_cases q : p k
    · rw [if_pos q, if_pos q, nIs, cn_N m (k + 1) (a + 1)]
      rw [show a + 1 + cN p m (k + 1) = a + (1 + cN p m (k + 1)) from by omega]
    · rw [if_neg q, if_neg q, cn_N m (k + 1) a, Nat.zero_add]
theorem cn_eq {p : Nat → Prop} [DecidablePred p] {m : Nat} : cn p m = nI (cN p m 0) := by
  have := cn_N (p := p) m 0 0
  rw [Nat.zero_add] at this
  exact this
theorem cN_0 {p : Nat → Prop} [DecidablePred p] : ∀ m k, cN p m k = 0 ↔ ∀ j, k ≤ j → j < k + m → ¬ p j
  | 0, k => ⟨fun _ j h1 h2 => absurd h2 (by omega), fun _ => rfl⟩
  | m + 1, k => by
    have ih := cN_0 (p := p) m (k + 1)
    show (if p k then 1 else 0) + cN p m (k + 1) = 0 ↔ _
    by_cases q : p k
    · rw [if_pos q]
      exact ⟨fun h => by omega, fun h => absurd q (h k (by omega) (by omega))⟩
    · rw [if_neg q, Nat.zero_add, ih]
      refine ⟨fun h j h1 h2 => ?_, fun h j h1 h2 => h j (by omega) (by omega)⟩
      by_cases e : j = k
      · rw [e]; exact q
      · exact h j (by omega) (by omega)
theorem cN_sub {p q : Nat → Prop} [DecidablePred p] [DecidablePred q] : ∀ m k, cN (fun j => q j ∧ p j) m k ≤ cN p m k ∧ (cN (fun j => q j ∧ p j) m k = cN p m k ↔ ∀ j, k ≤ j → j < k + m → p j → q j)
  | 0, k => ⟨Nat.le_refl _, ⟨fun _ j h1 h2 => absurd h2 (by omega), fun _ => rfl⟩⟩
  | m + 1, k => by
    obtain ⟨i1, i2⟩ := cN_sub (p := p) (q := q) m (k + 1)
    show (if q k ∧ p k then 1 else 0) + cN (fun j => q j ∧ p j) m (k + 1) ≤ (if p k then 1 else 0) + cN p m (k + 1) ∧ ((if q k ∧ p k then 1 else 0) + cN (fun j => q j ∧ p j) m (k + 1) = (if p k then 1 else 0) + cN p m (k + 1) ↔ _)
    have lift : (∀ j, k + 1 ≤ j → j < k + 1 + m → p j → q j) → (p k → q k) → ∀ j, k ≤ j → j < k + (m + 1) → p j → q j := fun h h2 j h1 h3 hp => by
      by_cases e : j = k
      · rw [e] at hp ⊢; exact h2 hp
      · exact h j (by omega) (by omega) hp
    by_cases hp : p k
    · by_cases hq : q k
      · rw [if_pos ⟨hq, hp⟩, if_pos hp]
        refine ⟨by omega, fun h => lift (i2.mp (by omega)) (fun _ => hq), fun h => ?_⟩
        have := i2.mpr fun j h1 h2 => h j (by omega) (by omega)
        omega
      · rw [if_neg (fun z => hq z.1), if_pos hp]
        exact ⟨by omega, fun h => by omega, fun h => absurd (h k (by omega) (by omega) hp) hq⟩
    · rw [if_neg (fun z => hp z.2), if_neg hp]
      refine ⟨by omega, fun h => lift (i2.mp (by omega)) (fun z => absurd z hp), fun h => ?_⟩
      have := i2.mpr fun j h1 h2 => h j (by omega) (by omega)
      omega
theorem cN_split {p q : Nat → Prop} [DecidablePred p] [DecidablePred q] : ∀ m k, cN (fun j => p j ∧ q j) m k + cN (fun j => p j ∧ ¬ q j) m k = cN p m k
  | 0, _ => rfl
  | m + 1, k => by
    have ih := cN_split (p := p) (q := q) m (k + 1)
    show (if p k ∧ q k then 1 else 0) + cN (fun j => p j ∧ q j) m (k + 1) + ((if p k ∧ ¬ q k then 1 else 0) + cN (fun j => p j ∧ ¬ q j) m (k + 1)) = (if p k then 1 else 0) + cN p m (k + 1)
    by_cases hp : p k
    · by_cases hq : q k
      · rw [if_pos ⟨hp, hq⟩, if_neg (fun z => z.2 hq), if_pos hp]; omega
      · rw [if_neg (fun z => hq z.2), if_pos ⟨hp, hq⟩, if_pos hp]; omega
    · rw [if_neg (fun z => hp z.1), if_neg (fun z => hp z.1), if_neg hp]; omega
/-! bits -/
theorem sh64 : ∀ s, s < 64 → ∀ i, i < 6 → (nI s >>> (nI i &&& 31)) &&& 1 = if s.testBit i then 1 else 0 := by decide +kernel
theorem pw6 : ∀ n, n ≤ 6 → (1 : Int32) <<< (nI n &&& 31) = nI (2 ^ n) := by decide +kernel
theorem pw_le {n : Nat} (h : n ≤ 6) : 2 ^ n ≤ 64 := by
  have : n = 0 ∨ n = 1 ∨ n = 2 ∨ n = 3 ∨ n = 4 ∨ n = 5 ∨ n = 6 := by omega
  rcases this with rfl | rfl | rfl | rfl | rfl | rfl | rfl <;> decide
theorem pw_pos (n : Nat) : 0 < 2 ^ n := Nat.two_pow_pos n
/-- what a set weighs -/
def ws (w : Nat → Int32) (n s : Nat) : Int32 := itf (fun i (a : Int32) => if s.testBit i then a + w i else a) n 0 0
section SK
variable {S : pv_S} {n c : Nat}
theorem x_wset (T : Tw S n c) {s : Nat} (hs : s < 64) {a b : Option Value} : pv_R mX5_weightOfSet 0 [some (.ref 21), some (.int (nI s)), a, b] [] (pv_em S) = some (some (.int (ws (S.1 44) n s)), pv_em S) := by
  have := tw_n T
  rw [bX5_weightOfSet_0]
  refine itf_run (R := fun k (a : Int32) => pv_R mX5_weightOfSet 4 [some (.ref 21), some (.int (nI s)), some (.int a), some (.int (nI k))] [] (pv_em S)) (F := fun a => some (some (.int a), pv_em S)) (N := n) (fun k a h => ?_) (fun a => ?_) n 0 0 (by omega)
  · refine Eq.trans bX5_weightOfSet_4 ?_
    rw [tw_x7 T, if_neg (by rw [nIle (by omega) (by omega)]; omega), bX5_weightOfSet_12, sh64 s hs k (by omega)]
    by_cases q : s.testBit k = true
    · rw [if_pos q, if_neg (by decide), bX5_weightOfSet_20, if_neg (gx (by omega) (by omega)), nIc (by omega), bX5_weightOfSet_29, nIs, if_pos q, tw_w T h]
    · rw [if_neg q, if_pos rfl, bX5_weightOfSet_29, nIs, if_neg q]
  · show pv_R mX5_weightOfSet 4 _ _ _ = _
    rw [bX5_weightOfSet_4, tw_x7 T, if_pos (Int32.le_refl _), bX5_weightOfSet_35]
theorem m_has {s i : Nat} (hs : s < 64) (hi : i < 6) : pv_R mX7_has 0 [some (.int (nI s)), some (.int (nI i))] [] (pv_em S) = some (some (.int (bI (s.testBit i = true))), pv_em S) := by
  rw [bX7_has_0, sh64 s hs i hi]
  by_cases q : s.testBit i = true
  · rw [if_pos q, if_neg (fun z => z rfl), bX7_has_9, bX7_has_14, vn1, if_pos rfl, bI_t q]
  · rw [if_neg q, if_pos (by decide), bX7_has_13, bX7_has_14, vn0, if_pos rfl, bI_f q]
theorem m_isSack (T : Tw S n c) {s : Nat} (hs : s < 64) {v : Int32} {a b : Option Value} : pv_R mX7_isSack 0 [some (.ref 37), some (.int (nI s)), some (.int v), a, b] [] (pv_em S) = some (some (.int (bI (ws (S.1 44) n s = v))), pv_em S) := by
  have := tw_n T
  rw [bX7_isSack_0]
  refine itf_run (R := fun k (a : Int32) => pv_R mX7_isSack 5 [some (.ref 37), some (.int (nI s)), some (.int v), some (.int a), some (.int (nI k))] [] (pv_em S)) (F := fun a => some (some (.int (bI (a = v))), pv_em S)) (f := fun i (a : Int32) => if s.testBit i then a + S.1 44 i else a) (N := n) (fun k a h => ?_) (fun a => ?_) n 0 0 (by omega)
  · refine Eq.trans bX7_isSack_5 ?_
    rw [tw_m4 T, if_neg (by rw [nIle (by omega) (by omega)]; omega), bX7_isSack_14, m_has hs (by omega), pv_cc_some, bX7_isSack_21]
    by_cases q : s.testBit k = true
    · rw [bI_t q, if_neg (by decide), bX7_isSack_24, Int32.zero_add, if_neg (gx (by omega) (by omega)), nIc (by omega), bX7_isSack_37, nIs, if_pos q]
    · rw [bI_f q, if_pos rfl, bX7_isSack_36, bX7_isSack_37, nIs, if_neg q, Int32.add_zero]
  · show pv_R mX7_isSack 5 _ _ _ = _
    rw [bX7_isSack_5, tw_m4 T, if_pos (Int32.le_refl _), bX7_isSack_45]
    by_cases q : a = v
    · rw [if_neg (fun z => z q), bX7_isSack_50, bX7_isSack_55, vn1, if_pos rfl, bI_t q]
    · rw [if_pos q, bX7_isSack_54, bX7_isSack_55, vn0, if_pos rfl, bI_f q]
theorem x_setCount (T : Tw S n c) : pv_R mX6_setCount 0 [some (.ref 0)] [] (pv_em S) = some (some (.int (nI (2 ^ n))), pv_em S) := by
  rw [bX6_setCount_0, tw_x7 T, pw6 n (tw_n T)]
theorem x_setsOf (T : Tw S n c) {v : Int32} {a b : Option Value} : pv_R mX6_setsOf 0 [some (.ref 0), some (.int v), a, b] [] (pv_em S) = some (some (.int (cn (fun s => ws (S.1 44) n s = v) (2 ^ n))), pv_em S) := by
  have hp := pw_le (tw_n T)
  rw [bX6_setsOf_0]
  refine itf_run (R := fun k (a : Int32) => pv_R mX6_setsOf 4 [some (.ref 0), some (.int v), some (.int a), some (.int (nI k))] [] (pv_em S)) (F := fun a => some (some (.int a), pv_em S)) (N := 2 ^ n) (fun k a h => ?_) (fun a => ?_) (2 ^ n) 0 0 (by omega)
  · refine Eq.trans bX6_setsOf_4 ?_
    rw [x_setCount T, pv_cc_some, bX6_setsOf_9, if_neg (by rw [nIle (by omega) (by omega)]; omega), bX6_setsOf_12, x_wset T (by omega), pv_cc_some, bX6_setsOf_20]
    by_cases q : ws (S.1 44) n k = v
    · rw [if_neg (fun z => z q), bX6_setsOf_24, bX6_setsOf_27, nIs, if_pos q]
    · rw [if_pos q, bX6_setsOf_27, nIs, if_neg q]
  · show pv_R mX6_setsOf 4 _ _ _ = _
    rw [bX6_setsOf_4, x_setCount T, pv_cc_some, bX6_setsOf_9, if_pos (Int32.le_refl _), bX6_setsOf_33]
theorem x_setsWith (T : Tw S n c) {v : Int32} {i : Nat} (hi : i < 6) {a b : Option Value} : pv_R mX6_setsWith 0 [some (.ref 0), some (.int v), some (.int (nI i)), a, b] [] (pv_em S) = some (some (.int (cn (fun s => s.testBit i = true ∧ ws (S.1 44) n s = v) (2 ^ n))), pv_em S) := by
  have hp := pw_le (tw_n T)
  rw [bX6_setsWith_0]
  refine itf_run (R := fun k (a : Int32) => pv_R mX6_setsWith 5 [some (.ref 0), some (.int v), some (.int (nI i)), some (.int a), some (.int (nI k))] [] (pv_em S)) (F := fun a => some (some (.int a), pv_em S)) (N := 2 ^ n) (fun k a h => ?_) (fun a => ?_) (2 ^ n) 0 0 (by omega)
  · refine Eq.trans bX6_setsWith_5 ?_
    rw [x_setCount T, pv_cc_some, bX6_setsWith_11, if_neg (by rw [nIle (by omega) (by omega)]; omega), bX6_setsWith_14, sh64 k (by omega) i hi]
    by_cases q1 : k.testBit i = true
    · rw [if_pos q1, if_neg (by decide), bX6_setsWith_23, x_wset T (by omega), pv_cc_some, bX6_setsWith_32]
      by_cases q : ws (S.1 44) n k = v
      · rw [if_neg (fun z => z q), bX6_setsWith_36, bX6_setsWith_39, nIs, if_pos ⟨q1, q⟩]
      · rw [if_pos q, bX6_setsWith_39, nIs, if_neg (fun z => q z.2)]
    · rw [if_neg q1, if_pos rfl, bX6_setsWith_39, nIs, if_neg (fun z => q1 z.1)]
  · show pv_R mX6_setsWith 5 _ _ _ = _
    rw [bX6_setsWith_5, x_setCount T, pv_cc_some, bX6_setsWith_11, if_pos (Int32.le_refl _), bX6_setsWith_45]
/-! greatest divisors -/
theorem lg_le0 (x y : Int64) : (lg_cmp x y ≤ 0) = (x.toInt ≤ y.toInt) := by
  unfold lg_cmp
  simp only [gt_iff_lt, Int64.lt_iff_toInt_lt, ← Int64.toInt_inj]
  by_cases h1 : y.toInt < x.toInt
  · rw [if_pos h1]; simp; omega
  · rw [if_neg h1]
    by_cases h2 : x.toInt = y.toInt
    · rw [if_pos h2]; simp; omega
    · rw [if_neg h2]; simp; omega
theorem lg_eq0 (x y : Int64) : (lg_cmp x y = 0) = (x = y) := by
  unfold lg_cmp
  by_cases h1 : x > y
  · rw [if_pos h1]
    refine propext ⟨fun h => absurd h (by decide), fun h => ?_⟩
    rw [h, gt_iff_lt, Int64.lt_iff_toInt_lt] at h1
    omega
  · rw [if_neg h1]
    by_cases h2 : x = y
    · rw [if_pos h2]; exact propext ⟨fun _ => h2, fun _ => rfl⟩
    · rw [if_neg h2]; exact propext ⟨fun h => absurd h (by decide), fun h => absurd h h2⟩
def gL (x y : Int64) : Int64 := Int64.ofInt (Int.gcd x.toInt y.toInt : Int)
theorem gL_0 {x : Int64} (h : 0 ≤ x.toInt) : gL x 0 = x := by
  unfold gL
  rw [j0, Int.gcd_zero_right, show ((x.toInt.natAbs : Nat) : Int) = x.toInt from by omega, Int64.ofInt_toInt]
theorem gL_s {x y : Int64} (hx : 0 ≤ x.toInt) (hy : 0 < y.toInt) : gL y (x - x / y * y) = gL x y := by
  unfold gL
  rw [rm_l hx hy]
  have e : (x.toInt % y.toInt).natAbs = x.toInt.natAbs % y.toInt.natAbs := Int.natAbs_emod_of_nonneg hx _
  have e2 : Int.gcd y.toInt (x.toInt % y.toInt) = Int.gcd x.toInt y.toInt := by
    show Nat.gcd y.toInt.natAbs (x.toInt % y.toInt).natAbs = Nat.gcd x.toInt.natAbs y.toInt.natAbs
    rw [e, Nat.gcd_comm, ← Nat.gcd_rec, Nat.gcd_comm]
  rw [e2]
theorem gL_pos {x y : Int64} (hx : 0 ≤ x.toInt) (hy : 0 < y.toInt) : 0 < (gL x y).toInt := by
  have h1 : Int.gcd x.toInt y.toInt ≤ y.toInt.natAbs := Nat.le_of_dvd (by omega) (Nat.gcd_dvd_right _ _)
  have h2 : 0 < Int.gcd x.toInt y.toInt := Nat.gcd_pos_of_pos_right _ (by omega)
  have h3 := y.toInt_lt
  unfold gL
  rw [Int64.toInt_ofInt_of_le (by omega) (by omega)]
  omega
theorem y0 {y : Int64} (h : ¬ y = 0) (h0 : 0 ≤ y.toInt) : 0 < y.toInt := by
  have : y.toInt ≠ 0 := fun q => h (Int64.toInt_inj.mp (q.trans j0.symm))
  omega
theorem x_gdL : ∀ (k t : Nat) (x y : Int64) (a1 a3 a5 a6 : Option Value), 0 ≤ x.toInt → 0 ≤ y.toInt → y.toInt < (2 ^ k : Nat) → t + 2 * k ≤ 199 → pv_R mX4_greatestDivisor 3 [some (.long x), a1, some (.long y), a3, some (.int (nI t)), a5, a6] [] (pv_em S) = some (some (.long (gL x y)), pv_em S) := by
  intro k
  induction k with
  | zero =>
    intro t x y a1 a3 a5 a6 hx hy hk ht
    have hk : y.toInt < 1 := hk
    have e : y = 0 := Int64.toInt_inj.mp (by rw [j0]; omega)
    rw [bX4_greatestDivisor_3, show (200 : Int32) = nI 200 from rfl, if_neg (by rw [nIle (by omega) (by omega)]; omega), bX4_greatestDivisor_11, if_pos (by rw [lg_eq0]; exact e), bX4_greatestDivisor_33, e, gL_0 hx]
  | succ k ih =>
    intro t x y a1 a3 a5 a6 hx hy hk ht
    have hk : y.toInt < ((2 ^ k * 2 : Nat) : Int) := hk
    rw [bX4_greatestDivisor_3, show (200 : Int32) = nI 200 from rfl, if_neg (by rw [nIle (by omega) (by omega)]; omega), bX4_greatestDivisor_11]
    by_cases q : y = 0
    · rw [if_pos (by rw [lg_eq0]; exact q), bX4_greatestDivisor_33, q, gL_0 hx]
    have yp := y0 q hy
    rw [if_neg (by rw [lg_eq0]; exact q), bX4_greatestDivisor_17, if_neg q, nIs, bX4_greatestDivisor_3, show (200 : Int32) = nI 200 from rfl, if_neg (by rw [nIle (by omega) (by omega)]; omega), bX4_greatestDivisor_11]
    have e1 := rm_l hx yp
    have r0 := Int.emod_nonneg x.toInt (show y.toInt ≠ 0 by omega)
    have r1 := Int.emod_lt_of_pos x.toInt yp
    by_cases q2 : x - x / y * y = 0
    · rw [if_pos (by rw [lg_eq0]; exact q2), bX4_greatestDivisor_33, ← gL_s hx yp, q2, gL_0 hy]
    have rp := y0 q2 (by rw [e1]; exact r0)
    have e2 := rm_l hy rp
    have s0 := Int.emod_nonneg y.toInt (show (x - x / y * y).toInt ≠ 0 by omega)
    have s1 := Int.emod_lt_of_pos y.toInt rp
    rw [if_neg (by rw [lg_eq0]; exact q2), bX4_greatestDivisor_17, if_neg q2, nIs, ih (t + 1 + 1) _ _ _ _ _ _ (by omega) (by rw [e2]; exact s0) ?_ (by omega), gL_s hy rp, gL_s hx yp]
    rw [e2]
    have d := Int.emod_add_mul_ediv y.toInt (x - x / y * y).toInt
    have q1 : 1 ≤ y.toInt / (x - x / y * y).toInt := Int.le_ediv_of_mul_le rp (by omega)
    have m1 : (x - x / y * y).toInt * 1 ≤ (x - x / y * y).toInt * (y.toInt / (x - x / y * y).toInt) := Int.mul_le_mul_of_nonneg_left q1 (by omega)
    omega
theorem x_gd {x y : Int64} (hx : 0 ≤ x.toInt) (hy : 0 ≤ y.toInt) (hy2 : y.toInt < 4194304) {a1 a3 a4 a5 a6 : Option Value} : pv_R mX4_greatestDivisor 0 [some (.long x), a1, some (.long y), a3, a4, a5, a6] [] (pv_em S) = some (some (.long (gL x y)), pv_em S) := by
  rw [bX4_greatestDivisor_0]
  exact x_gdL 22 0 x y _ _ _ _ hx hy (by exact hy2) (by omega)
def tl (S : pv_S) (a b : Int64) : pv_S := pv_sj (pv_sj S 35 2 a) 35 3 b
def fr (S : pv_S) (a b : Int64) : pv_S := pv_sj (pv_sj S 37 14 a) 37 15 b
theorem x_tell {x y : Int64} (hx : 0 ≤ x.toInt) (hy : 0 < y.toInt) (hy2 : y.toInt < 4194304) {a2 a4 a5 a6 : Option Value} : pv_R mX4_tell 0 [some (.ref 35), some (.long x), a2, some (.long y), a4, a5, a6] [] (pv_em S) = some (none, pv_em (tl S (x / gL x y) (y / gL x y))) := by
  have gp := gL_pos hx hy
  have gn : ¬ gL x y = 0 := fun q => by rw [q, j0] at gp; omega
  have gl : ¬ lg_cmp (gL x y) 0 ≤ 0 := by rw [lg_le0, j0]; omega
  rw [bX4_tell_0, x_gd hx (by omega) hy2, pv_cc_some, bX4_tell_5, if_neg gl, bX4_tell_15, if_neg gn, bX4_tell_23, if_neg gl, bX4_tell_34, if_neg gn, bX4_tell_42]
  rfl
theorem m_frL {A B : Int64} : ∀ (k : Nat) (x y : Int64) (a2 a4 a6 a8 a9 a10 : Option Value), 0 ≤ x.toInt → 0 ≤ y.toInt → y.toInt < (k : Int) → 0 < (gL x y).toInt → pv_R mX7_fraction 6 [some (.ref 37), some (.long A), a2, some (.long B), a4, some (.long x), a6, some (.long y), a8, a9, a10] [] (pv_em S) = some (some (.int 1), pv_em (fr S (A / gL x y) (B / gL x y))) := by
  intro k
  induction k with
  | zero => intro x y a2 a4 a6 a8 a9 a10 hx hy hk; omega
  | succ k ih =>
    intro x y a2 a4 a6 a8 a9 a10 hx hy hk gp
    rw [bX7_fraction_6]
    by_cases q : y = 0
    · rw [q, gL_0 hx] at gp
      have xn : ¬ x = 0 := fun z => by rw [z, j0] at gp; omega
      rw [if_pos (by rw [lg_eq0]; exact q), bX7_fraction_31, if_neg xn, if_neg xn, q, gL_0 hx]; rfl
    · have yp := y0 q hy
      have e1 := rm_l hx yp
      have r0 := Int.emod_nonneg x.toInt (show y.toInt ≠ 0 by omega)
      have r1 := Int.emod_lt_of_pos x.toInt yp
      rw [if_neg (by rw [lg_eq0]; exact q), bX7_fraction_13, if_neg q, ih _ _ _ _ _ _ _ _ hy (by rw [e1]; exact r0) (by rw [e1]; omega) (by rw [gL_s hx yp]; exact gp), gL_s hx yp]
theorem m_frac {x y : Int64} (hx : 0 ≤ x.toInt) (hy : 0 < y.toInt) {a2 a4 a5 a6 a7 a8 a9 a10 : Option Value} : pv_R mX7_fraction 0 [some (.ref 37), some (.long x), a2, some (.long y), a4, a5, a6, a7, a8, a9, a10] [] (pv_em S) = some (some (.int 1), pv_em (fr S (x / gL x y) (y / gL x y))) := by
  rw [bX7_fraction_0]
  exact m_frL (y.toInt.toNat + 1) x y _ _ _ _ _ _ hx (by omega) (by omega) (gL_pos hx hy)
theorem Inv_tell {a b : Int64} (I : Inv S) : Inv (fr (tl S a b) a b) := by
  obtain ⟨I1, I2, ⟨t1, t2, t3, t4, t5⟩, I4⟩ := I
  refine ⟨I1, I2, ⟨t1, ?_, ?_, t4, t5⟩, I4⟩
  · simp [fr, tl, pv_sj, va_up]
  · simp [fr, tl, pv_sj, va_up]
theorem i1200 : (1200 : Int32).toInt = 1200 := by decide
theorem j1200 : (1200 : Int64).toInt = 1200 := by decide
theorem m_refuses (T : Tw S n c) {v : Int32} : pv_R mX7_refuses 0 [some (.ref 37), some (.int v)] [] (pv_em S) = some (some (.int (if 0 ≤ v.toInt ∧ v.toInt ≤ 1200 then (if n = 0 then -4 else 0) else -1)), pv_em S) := by
  have hn := tw_n T
  by_cases hv : 0 ≤ v.toInt ∧ v.toInt ≤ 1200
  · by_cases h : n = 0
    · subst h
      simp only [bX7_refuses_0, bX7_refuses_9, bX7_refuses_12, bX7_refuses_16, bX7_refuses_23, bX7_refuses_28, bX7_refuses_29, c_in, j0, j1200, Int32.toInt_toInt64, hv, tw_m4 T, show nI 0 = 0 from rfl, pv_cc_some, bI_0, and_self, not_true_eq_false, not_false_eq_true, if_true, if_false]
    · simp only [bX7_refuses_0, bX7_refuses_9, bX7_refuses_12, bX7_refuses_16, bX7_refuses_23, bX7_refuses_28, bX7_refuses_29, c_in, j0, j1200, Int32.toInt_toInt64, hv, tw_m4 T, nI0 hn h, h, pv_cc_some, bI_0, and_self, not_true_eq_false, not_false_eq_true, if_true, if_false]
  · simp only [bX7_refuses_0, bX7_refuses_9, bX7_refuses_12, bX7_refuses_16, bX7_refuses_23, bX7_refuses_28, bX7_refuses_29, c_in, j0, j1200, Int32.toInt_toInt64, hv, pv_cc_some, bI_0, not_true_eq_false, not_false_eq_true, if_true, if_false]
theorem x_sacksL (T : Tw S n c) {v : Int32} : ∀ k, k ≤ 2 ^ n → pv_R mX6_sacks 36 [some (.ref 0), some (.int v), some (.int (fsh (fun s => ws (S.1 44) n s = v) nI (-9) (2 ^ n - k) k)), some (.int (nI k - 1))] [] (pv_em S) = pv_R mX6_sacks 60 [some (.ref 0), some (.int v), some (.int (fsh (fun s => ws (S.1 44) n s = v) nI (-9) (2 ^ n) 0)), some (.int (-1))] [] (pv_em S)
  | 0, _ => by rw [bX6_sacks_36, if_pos (by decide)]; rfl
  | k + 1, hk => by
    have hp := pw_le (tw_n T)
    rw [bX6_sacks_36, show nI (k + 1) - 1 = nI k from by rw [← nIs, Int32.add_sub_cancel], if_neg (by rw [show (0 : Int32) = nI 0 from rfl, nIlt (by omega) (by omega)]; omega), bX6_sacks_40, x_wset T (by omega), pv_cc_some, bX6_sacks_48]
    have ef : fsh (fun s => ws (S.1 44) n s = v) nI (-9) (2 ^ n - k) k = if ws (S.1 44) n k = v then nI k else fsh (fun s => ws (S.1 44) n s = v) nI (-9) (2 ^ n - (k + 1)) (k + 1) := by
      rw [show 2 ^ n - k = (2 ^ n - (k + 1)) + 1 from by omega]; rfl
    have ih := x_sacksL T (v := v) k (by omega)
    rw [ef] at ih
    by_cases q : ws (S.1 44) n k = v
    · rw [if_pos q] at ih
      rw [if_neg (fun z => z q), bX6_sacks_52, bX6_sacks_54, ← Int32.sub_eq_add_neg]
      exact ih
    · rw [if_neg q] at ih
      rw [if_pos q, bX6_sacks_54, ← Int32.sub_eq_add_neg]
      exact ih
theorem first_f {p : Nat → Prop} [DecidablePred p] : ∀ m k (a : Int32), k + m ≤ 1000 → itf (fun k (a : Int32) => if p k then (if a = -9 then nI k else a) else a) m k a = if a = -9 then fsh p nI (-9) m k else a
  | 0, k, a, _ => by
    show a = if a = -9 then -9 else a
    by_cases q : a = -9
    · rw [if_pos q, q]
    · rw [if_neg q]
  | m + 1, k, a, h => by
    show itf _ m (k + 1) (if p k then (if a = -9 then nI k else a) else a) = if a = -9 then (if p k then nI k else fsh p nI (-9) m (k + 1)) else a
    rw [first_f m (k + 1) _ (by omega)]
    have nk : ¬ nI k = -9 := fun q => by
      have := congrArg Int32.toInt q
      rw [nIt (by omega), show (-9 : Int32).toInt = -9 from by decide] at this
      omega
    by_cases z : p k
    · rw [if_pos z, if_pos z]
      by_cases q : a = -9
      · rw [if_pos q, if_neg nk]
      · rw [if_neg q, if_neg q]
    · rw [if_neg z, if_neg z]
theorem m_sacksL (T : Tw S n c) {v x2 : Int32} : pv_R mX7_sacks 21 [some (.ref 37), some (.int v), some (.int x2), some (.int 0), some (.int (-9)), some (.int 0)] [] (pv_em S) = pv_R mX7_sacks 67 [some (.ref 37), some (.int v), some (.int x2), some (.int (cn (fun s => ws (S.1 44) n s = v) (2 ^ n))), some (.int (fsh (fun s => ws (S.1 44) n s = v) nI (-9) (2 ^ n) 0)), some (.int (nI (2 ^ n)))] [] (pv_em S) := by
  have hp := pw_le (tw_n T)
  obtain ⟨⟨p1, p2⟩, e, hpq, h1, h2⟩ := lpF (R := fun k (q : Int32 × Int32) => pv_R mX7_sacks 21 [some (.ref 37), some (.int v), some (.int x2), some (.int q.1), some (.int q.2), some (.int (nI k))] [] (pv_em S)) (N := 2 ^ n) (fun q => q) (fun k (q : Int32 × Int32) => (if ws (S.1 44) n k = v then q.1 + 1 else q.1, if ws (S.1 44) n k = v then (if q.2 = -9 then nI k else q.2) else q.2)) (fun _ _ => True ∧ True) (fun k q hk _ => by
    obtain ⟨a, b⟩ := q
    refine ⟨(if ws (S.1 44) n k = v then a + 1 else a, if ws (S.1 44) n k = v then (if b = -9 then nI k else b) else b), ?_, rfl, trivial, trivial⟩
    refine Eq.trans bX7_sacks_21 ?_
    rw [tw_m4 T, pw6 n (tw_n T), if_neg (by rw [nIle (by omega) (by omega)]; omega), bX7_sacks_32, m_isSack T (by omega), pv_cc_some, bX7_sacks_39]
    dsimp only
    by_cases q : ws (S.1 44) n k = v
    · rw [bI_t q, if_neg (by decide), bX7_sacks_42, if_pos q, if_pos q]
      by_cases z : b = -9
      · rw [if_neg (fun y => y z), bX7_sacks_52, bX7_sacks_59, bX7_sacks_61, nIs, if_pos z]
      · rw [if_pos z, bX7_sacks_57, bX7_sacks_59, bX7_sacks_61, nIs, if_neg z]
    · rw [bI_f q, if_pos rfl, bX7_sacks_61, nIs, if_neg q, if_neg q]) (2 ^ n) 0 (0, -9) (by omega) ⟨trivial, trivial⟩
  have pr : ∀ m k (q : Int32 × Int32), itf (fun k (q : Int32 × Int32) => (if ws (S.1 44) n k = v then q.1 + 1 else q.1, if ws (S.1 44) n k = v then (if q.2 = -9 then nI k else q.2) else q.2)) m k q = (itf (fun k (a : Int32) => if ws (S.1 44) n k = v then a + 1 else a) m k q.1, itf (fun k (a : Int32) => if ws (S.1 44) n k = v then (if a = -9 then nI k else a) else a) m k q.2) := by
    intro m
    induction m with
    | zero => intro k q; rfl
    | succ m ih => intro k q; exact ih (k + 1) _
  have hpq : (p1, p2) = (cn (fun s => ws (S.1 44) n s = v) (2 ^ n), fsh (fun s => ws (S.1 44) n s = v) nI (-9) (2 ^ n) 0) := by
    have := hpq.trans (pr (2 ^ n) 0 (0, -9))
    rw [first_f (2 ^ n) 0 (-9) (by omega), if_pos rfl] at this
    exact this
  refine Eq.trans e ?_
  rw [show p1 = _ from congrArg Prod.fst hpq, show p2 = _ from congrArg Prod.snd hpq]
  show pv_R mX7_sacks 21 _ _ _ = _
  rw [bX7_sacks_21, tw_m4 T, pw6 n (tw_n T), if_pos (Int32.le_refl _)]
theorem tq_sacks (I : Inv S) (v : Int32) : pv_goI Inv S mX6_sacks mX7_sacks [.int v] := by
  obtain ⟨n, c, T⟩ := tw_of I
  have hn := tw_n T
  have hp := pw_le hn
  by_cases hv : 0 ≤ v.toInt ∧ v.toInt ≤ 1200
  · by_cases h : n = 0
    · subst h
      refine ⟨-4, S, S, ?_, ?_, I⟩
      · show pv_R mX6_sacks 0 [some (.ref 0), some (.int v), none, none] [] (pv_em S) = _
        simp only [bX6_sacks_0, bX6_sacks_8, bX6_sacks_11, bX6_sacks_13, bX6_sacks_23, bX6_sacks_26, bX6_sacks_33, bX6_sacks_40, bX6_sacks_48, bX6_sacks_52, bX6_sacks_54, bX6_sacks_60, bX6_sacks_77, bX6_sacks_82, x_within, i0, i1200, hv, tw_x7 T, show nI 0 = 0 from rfl, pv_cc_some, bI_0, and_self, not_true_eq_false, not_false_eq_true, if_true, if_false]
      · show pv_R mX7_sacks 0 [some (.ref 37), some (.int v), none, none, none, none] [] (pv_em S) = _
        rw [bX7_sacks_0, m_refuses T, pv_cc_some, if_pos hv, if_pos rfl, bX7_sacks_5, if_neg (by decide), bX7_sacks_10]
    · have z := nI0 hn h
      have hl := cN_le (p := fun s => ws (S.1 44) n s = v) (2 ^ n) 0
      generalize hF : fsh (fun s => ws (S.1 44) n s = v) nI (-9) (2 ^ n) 0 = F
      have hC : cn (fun s => ws (S.1 44) n s = v) (2 ^ n) = nI (cN (fun s => ws (S.1 44) n s = v) (2 ^ n) 0) := cn_eq
      generalize cN (fun s => ws (S.1 44) n s = v) (2 ^ n) 0 = C at hC hl
      have c0 : 0 ≤ (Int32.toInt64 (nI C)).toInt := by rw [Int32.toInt_toInt64, nIt (by omega)]; omega
      refine ⟨1, tl (pv_si S 35 1 F) (Int32.toInt64 (nI C) / gL (Int32.toInt64 (nI C)) 1) (1 / gL (Int32.toInt64 (nI C)) 1), fr (pv_si (tl (pv_si S 35 1 F) (Int32.toInt64 (nI C) / gL (Int32.toInt64 (nI C)) 1) (1 / gL (Int32.toInt64 (nI C)) 1)) 37 13 F) (Int32.toInt64 (nI C) / gL (Int32.toInt64 (nI C)) 1) (1 / gL (Int32.toInt64 (nI C)) 1), ?_, ?_, ?_⟩
      · show pv_R mX6_sacks 0 [some (.ref 0), some (.int v), none, none] [] (pv_em S) = _
        have e1 := x_sacksL T (v := v) (2 ^ n) (Nat.le_refl _)
        rw [show 2 ^ n - 2 ^ n = 0 from by omega, hF] at e1
        have T2 : Tw (pv_si S 35 1 F) n c := Tw_congr (fun k hk => si_ne (by omega)) (by rw [si_ne (by decide)]) (by rw [si_ne (by decide)]) (by rw [si_ne (by decide)]) T
        have e2 := x_setsOf T2 (v := v) (a := none) (b := none)
        rw [si_ne (k' := 44) (by decide), hC] at e2
        have e1 : pv_R mX6_sacks 36 [some (.ref 0), some (.int v), some (.int (-9)), some (.int (nI (2 ^ n) - 1))] [] (pv_em S) = pv_R mX6_sacks 60 [some (.ref 0), some (.int v), some (.int F), some (.int (-1))] [] (pv_em S) := e1
        rw [bX6_sacks_0, x_within, pv_cc_some, bX6_sacks_8, if_pos (by rw [bI_0, i0, i1200]; exact fun q => q hv), bX6_sacks_13, tw_x7 T, if_pos z, bX6_sacks_26, x_setCount T, pv_cc_some, bX6_sacks_33, e1, bX6_sacks_60, e2, pv_cc_some, bX6_sacks_77, x_tell c0 (by decide) (by decide), pv_cc_void, bX6_sacks_82]
      · show pv_R mX7_sacks 0 [some (.ref 37), some (.int v), none, none, none, none] [] (pv_em _) = _
        have T2 : Tw (tl (pv_si S 35 1 F) (Int32.toInt64 (nI C) / gL (Int32.toInt64 (nI C)) 1) (1 / gL (Int32.toInt64 (nI C)) 1)) n c := by
          have T1 : Tw (pv_si S 35 1 F) n c := Tw_congr (fun k hk => si_ne (by omega)) (by rw [si_ne (by decide)]) (by rw [si_ne (by decide)]) (by rw [si_ne (by decide)]) T
          exact T1
        have e44 : (tl (pv_si S 35 1 F) (Int32.toInt64 (nI C) / gL (Int32.toInt64 (nI C)) 1) (1 / gL (Int32.toInt64 (nI C)) 1)).1 44 = S.1 44 := by
          show (pv_si S 35 1 F).1 44 = S.1 44
          exact si_ne (by decide)
        have e3 := m_sacksL T2 (v := v) (x2 := 0)
        rw [e44, hF, hC] at e3
        rw [bX7_sacks_0, m_refuses T2, pv_cc_some, if_pos hv, if_neg h, bX7_sacks_5, if_pos rfl, bX7_sacks_12, e3, bX7_sacks_67, m_frac c0 (by decide), pv_cc_some, bX7_sacks_80]
      · exact Inv_tell (Inv_asked (v := F) I)
  · refine ⟨-1, S, S, ?_, ?_, I⟩
    · show pv_R mX6_sacks 0 [some (.ref 0), some (.int v), none, none] [] (pv_em S) = _
      simp only [bX6_sacks_0, bX6_sacks_8, bX6_sacks_11, bX6_sacks_13, bX6_sacks_23, bX6_sacks_26, bX6_sacks_33, bX6_sacks_40, bX6_sacks_48, bX6_sacks_52, bX6_sacks_54, bX6_sacks_60, bX6_sacks_77, bX6_sacks_82, x_within, i0, i1200, hv, pv_cc_some, bI_0, not_true_eq_false, not_false_eq_true, if_true, if_false]
    · show pv_R mX7_sacks 0 [some (.ref 37), some (.int v), none, none, none, none] [] (pv_em S) = _
      rw [bX7_sacks_0, m_refuses T, pv_cc_some, if_neg hv, bX7_sacks_5, if_neg (by decide), bX7_sacks_10]
end SK
