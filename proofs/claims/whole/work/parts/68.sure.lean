/-! ===== sure, ask ===== -/
theorem cN_congr {p q : Nat → Prop} [DecidablePred p] [DecidablePred q] (h : ∀ k, p k ↔ q k) : ∀ m k, cN p m k = cN q m k
  | 0, _ => rfl
  | m + 1, k => by
    show (if p k then 1 else 0) + cN p m (k + 1) = (if q k then 1 else 0) + cN q m (k + 1)
    rw [cN_congr h m (k + 1)]
    by_cases z : p k
    · rw [if_pos z, if_pos ((h k).mp z)]
    · rw [if_neg z, if_neg (fun y => z ((h k).mpr y))]
theorem or64 : ∀ a, a < 64 → ∀ i, i < 6 → nI a ||| ((1 : Int32) <<< (nI i &&& 31)) = nI (a ||| 2 ^ i) ∧ a ||| 2 ^ i < 64 := by decide +kernel
theorem bw64 : ∀ a, a < 64 → ∀ b, b < 64 → (nI a &&& nI b = nI (a &&& b) ∧ a &&& b < 64) ∧ (nI a ||| nI b = nI (a ||| b) ∧ a ||| b < 64) ∧ nI a &&& (nI b ^^^ -1) = nI (a ^^^ (a &&& b)) := by decide +kernel
theorem or_tb {p : Nat → Prop} [DecidablePred p] {j : Nat} : ∀ m k a, (itf (fun i a => if p i then a ||| 2 ^ i else a) m k a).testBit j = true ↔ (a.testBit j = true ∨ (k ≤ j ∧ j < k + m ∧ p j))
  | 0, k, a => by
    show a.testBit j = true ↔ _
    exact ⟨Or.inl, fun h => h.elim id (fun z => absurd z.2.1 (by omega))⟩
  | m + 1, k, a => by
    show (itf (fun i a => if p i then a ||| 2 ^ i else a) m (k + 1) (if p k then a ||| 2 ^ k else a)).testBit j = true ↔ _
    rw [or_tb m (k + 1)]
    by_cases q : p k
    · rw [if_pos q, Nat.testBit_or, Nat.testBit_two_pow, Bool.or_eq_true, decide_eq_true_eq]
      constructor
      · rintro ((h | h) | ⟨h1, h2, h3⟩)
        · exact Or.inl h
        · exact Or.inr ⟨by omega, by omega, h ▸ q⟩
        · exact Or.inr ⟨by omega, by omega, h3⟩
      · rintro (h | ⟨h1, h2, h3⟩)
        · exact Or.inl (Or.inl h)
        · by_cases e : k = j
          · exact Or.inl (Or.inr e)
          · exact Or.inr ⟨by omega, by omega, h3⟩
    · rw [if_neg q]
      constructor
      · rintro (h | ⟨h1, h2, h3⟩)
        · exact Or.inl h
        · exact Or.inr ⟨by omega, by omega, h3⟩
      · rintro (h | ⟨h1, h2, h3⟩)
        · exact Or.inl h
        · by_cases e : k = j
          · exact absurd (e ▸ h3) q
          · exact Or.inr ⟨by omega, by omega, h3⟩
theorem an_tb {p : Nat → Prop} [DecidablePred p] {j : Nat} : ∀ m k a, (itf (fun s a => if p s then a &&& s else a) m k a).testBit j = true ↔ (a.testBit j = true ∧ ∀ s, k ≤ s → s < k + m → p s → s.testBit j = true)
  | 0, k, a => ⟨fun h => ⟨h, fun s h1 h2 => absurd h2 (by omega)⟩, fun h => h.1⟩
  | m + 1, k, a => by
    show (itf (fun s a => if p s then a &&& s else a) m (k + 1) (if p k then a &&& k else a)).testBit j = true ↔ _
    rw [an_tb m (k + 1)]
    by_cases q : p k
    · rw [if_pos q, Nat.testBit_and, Bool.and_eq_true]
      constructor
      · rintro ⟨⟨h1, h2⟩, h3⟩
        refine ⟨h1, fun s s1 s2 s3 => ?_⟩
        by_cases e : s = k
        · rw [e]; exact h2
        · exact h3 s (by omega) (by omega) s3
      · rintro ⟨h1, h2⟩
        exact ⟨⟨h1, h2 k (by omega) (by omega) q⟩, fun s s1 s2 s3 => h2 s (by omega) (by omega) s3⟩
    · rw [if_neg q]
      constructor
      · rintro ⟨h1, h3⟩
        refine ⟨h1, fun s s1 s2 s3 => ?_⟩
        by_cases e : s = k
        · exact absurd (e ▸ s3) q
        · exact h3 s (by omega) (by omega) s3
      · rintro ⟨h1, h2⟩
        exact ⟨h1, fun s s1 s2 s3 => h2 s (by omega) (by omega) s3⟩
theorem un_tb {p : Nat → Prop} [DecidablePred p] {j : Nat} : ∀ m k a, (itf (fun s a => if p s then a ||| s else a) m k a).testBit j = true ↔ (a.testBit j = true ∨ ∃ s, k ≤ s ∧ s < k + m ∧ p s ∧ s.testBit j = true)
  | 0, k, a => ⟨Or.inl, fun h => h.elim id (fun ⟨s, h1, h2, _⟩ => absurd h2 (by omega))⟩
  | m + 1, k, a => by
    show (itf (fun s a => if p s then a ||| s else a) m (k + 1) (if p k then a ||| k else a)).testBit j = true ↔ _
    rw [un_tb m (k + 1)]
    by_cases q : p k
    · rw [if_pos q, Nat.testBit_or, Bool.or_eq_true]
      constructor
      · rintro ((h | h) | ⟨s, h1, h2, h3, h4⟩)
        · exact Or.inl h
        · exact Or.inr ⟨k, by omega, by omega, q, h⟩
        · exact Or.inr ⟨s, by omega, by omega, h3, h4⟩
      · rintro (h | ⟨s, h1, h2, h3, h4⟩)
        · exact Or.inl (Or.inl h)
        · by_cases e : s = k
          · exact Or.inl (Or.inr (e ▸ h4))
          · exact Or.inr ⟨s, by omega, by omega, h3, h4⟩
    · rw [if_neg q]
      constructor
      · rintro (h | ⟨s, h1, h2, h3, h4⟩)
        · exact Or.inl h
        · exact Or.inr ⟨s, by omega, by omega, h3, h4⟩
      · rintro (h | ⟨s, h1, h2, h3, h4⟩)
        · exact Or.inl h
        · by_cases e : s = k
          · exact absurd (e ▸ h3) q
          · exact Or.inr ⟨s, by omega, by omega, h3, h4⟩
theorem is_0 {p : Nat → Prop} [DecidablePred p] : ∀ m k (a : Int32), itf (fun s (a : Int32) => if p s then 1 else a) m k a = 0 ↔ a = 0 ∧ ∀ s, k ≤ s → s < k + m → ¬ p s
  | 0, k, a => ⟨fun h => ⟨h, fun s h1 h2 => absurd h2 (by omega)⟩, fun h => h.1⟩
  | m + 1, k, a => by
    show itf (fun s (a : Int32) => if p s then 1 else a) m (k + 1) (if p k then 1 else a) = 0 ↔ _
    rw [is_0 m (k + 1)]
    by_cases q : p k
    · rw [if_pos q]
      exact ⟨fun h => absurd h.1 (by decide), fun h => absurd q (h.2 k (by omega) (by omega))⟩
    · rw [if_neg q]
      constructor
      · rintro ⟨h1, h2⟩
        refine ⟨h1, fun s s1 s2 => ?_⟩
        by_cases e : s = k
        · rw [e]; exact q
        · exact h2 s (by omega) (by omega)
      · rintro ⟨h1, h2⟩
        exact ⟨h1, fun s s1 s2 => h2 s (by omega) (by omega)⟩
theorem itf_pair {α β : Type} {f : Nat → α → α} {g : Nat → β → β} : ∀ m k (q : α × β), itf (fun k (q : α × β) => (f k q.1, g k q.2)) m k q = (itf f m k q.1, itf g m k q.2)
  | 0, _, _ => rfl
  | m + 1, k, q => itf_pair m (k + 1) (f k q.1, g k q.2)
section SU
variable {S : pv_S} {n c : Nat}
/-- sacks of v; those with cat i -/
abbrev skp (S : pv_S) (n : Nat) (v : Int32) (s : Nat) : Prop := ws (S.1 44) n s = v
def skA (S : pv_S) (n : Nat) (v : Int32) : Nat := cN (skp S n v) (2 ^ n) 0
def skW (S : pv_S) (n : Nat) (v : Int32) (i : Nat) : Nat := cN (fun s => s.testBit i = true ∧ skp S n v s) (2 ^ n) 0
theorem skW_le {v : Int32} {i : Nat} : skW S n v i ≤ skA S n v := (cN_sub (2 ^ n) 0).1
theorem skA_le {v : Int32} (hn : n ≤ 6) : skA S n v ≤ 64 := Nat.le_trans (cN_le _ _) (pw_le hn)
theorem skW_all {v : Int32} {i : Nat} : skW S n v i = skA S n v ↔ ∀ s, s < 2 ^ n → skp S n v s → s.testBit i = true := by
  have := (cN_sub (p := skp S n v) (q := fun s => s.testBit i = true) (2 ^ n) 0).2
  rw [Nat.zero_add] at this
  exact this.trans ⟨fun h s h1 h2 => h s (by omega) h1 h2, fun h s _ h1 h2 => h s h1 h2⟩
theorem skW_0 {v : Int32} {i : Nat} : skW S n v i = 0 ↔ ∀ s, s < 2 ^ n → skp S n v s → ¬ s.testBit i = true := by
  have := cN_0 (p := fun s => s.testBit i = true ∧ skp S n v s) (2 ^ n) 0
  rw [Nat.zero_add] at this
  exact this.trans ⟨fun h s h1 h2 h3 => h s (by omega) h1 ⟨h3, h2⟩, fun h s _ h1 h2 => h s h1 h2.2 h2.1⟩
theorem skA_0 {v : Int32} : skA S n v = 0 ↔ ∀ s, s < 2 ^ n → ¬ skp S n v s := by
  have := cN_0 (p := skp S n v) (2 ^ n) 0
  rw [Nat.zero_add] at this
  exact this.trans ⟨fun h s h1 => h s (by omega) h1, fun h s _ h1 => h s h1⟩
def suA (S : pv_S) (n : Nat) (v : Int32) : Nat := itf (fun i a => if skW S n v i = skA S n v then a ||| 2 ^ i else a) n 0 0
def suN (S : pv_S) (n : Nat) (v : Int32) : Nat := itf (fun i a => if skW S n v i = 0 then a ||| 2 ^ i else a) n 0 0
theorem x_setsOfN (T : Tw S n c) {v : Int32} {a b : Option Value} : pv_R mX6_setsOf 0 [some (.ref 0), some (.int v), a, b] [] (pv_em S) = some (some (.int (nI (skA S n v))), pv_em S) := by
  rw [x_setsOf T, cn_eq]; rfl
theorem x_setsWithN (T : Tw S n c) {v : Int32} {i : Nat} (hi : i < 6) {a b : Option Value} : pv_R mX6_setsWith 0 [some (.ref 0), some (.int v), some (.int (nI i)), a, b] [] (pv_em S) = some (some (.int (nI (skW S n v i))), pv_em S) := by
  rw [x_setsWith T hi, cn_eq]; rfl
theorem x_sureL (T : Tw S n c) {v : Int32} {z : Option Value} : pv_R mX6_sure 53 [some (.ref 0), some (.int v), some (.int (nI (skA S n v))), some (.int 0), some (.int 0), some (.int 0), z] [] (pv_em S) = some (some (.int (nI (suA S n v))), pv_em (pv_si S 35 1 (nI (suN S n v)))) := by
  have hn := tw_n T
  have hA := skA_le (S := S) (v := v) hn
  obtain ⟨⟨⟨p1, p2⟩, j⟩, e, hp, _⟩ := lpF (R := fun k (q : (Nat × Nat) × Option Value) => pv_R mX6_sure 53 [some (.ref 0), some (.int v), some (.int (nI (skA S n v))), some (.int (nI q.1.1)), some (.int (nI q.1.2)), some (.int (nI k)), q.2] [] (pv_em S)) (N := n) (fun q => q.1) (fun i (q : Nat × Nat) => (if skW S n v i = skA S n v then q.1 ||| 2 ^ i else q.1, if skW S n v i = 0 then q.2 ||| 2 ^ i else q.2)) (fun _ q => q.1.1 < 64 ∧ q.1.2 < 64) (fun k q hk hP => by
    obtain ⟨⟨a, b⟩, j⟩ := q
    obtain ⟨ha, hb⟩ := hP
    have ha : a < 64 := ha
    have hb : b < 64 := hb
    have hW := skW_le (S := S) (n := n) (v := v) (i := k)
    obtain ⟨o1, o2⟩ := or64 a ha k (by omega)
    obtain ⟨o3, o4⟩ := or64 b hb k (by omega)
    refine ⟨((if skW S n v k = skA S n v then a ||| 2 ^ k else a, if skW S n v k = 0 then b ||| 2 ^ k else b), some (.int (nI (skW S n v k)))), ?_, rfl, ?_, ?_⟩
    · refine Eq.trans bX6_sure_53 ?_
      rw [tw_x7 T, if_neg (by rw [nIle (by omega) (by omega)]; omega), bX6_sure_65, x_setsWithN T (by omega), pv_cc_some, bX6_sure_72]
      dsimp only
      by_cases q1 : skW S n v k = skA S n v
      · rw [if_neg (fun z => z (by rw [q1])), bX6_sure_80, bX6_sure_87, o1, if_pos q1]
        by_cases q2 : skW S n v k = 0
        · rw [if_neg (fun z => z (by rw [q2]; rfl)), bX6_sure_92, bX6_sure_101, nIs, o3, if_pos q2]
        · rw [if_pos (fun z => q2 (by rw [show (0 : Int32) = nI 0 from rfl, nIeq (by omega) (by omega)] at z; exact z)), bX6_sure_101, nIs, if_neg q2]
      · rw [if_pos (fun z => q1 (by rw [nIeq (by omega) (by omega)] at z; exact z)), bX6_sure_87, if_neg q1]
        by_cases q2 : skW S n v k = 0
        · rw [if_neg (fun z => z (by rw [q2]; rfl)), bX6_sure_92, bX6_sure_101, nIs, o3, if_pos q2]
        · rw [if_pos (fun z => q2 (by rw [show (0 : Int32) = nI 0 from rfl, nIeq (by omega) (by omega)] at z; exact z)), bX6_sure_101, nIs, if_neg q2]
    · dsimp only
      by_cases q1 : skW S n v k = skA S n v
      · rw [if_pos q1]; exact o2
      · rw [if_neg q1]; exact ha
    · dsimp only
      by_cases q1 : skW S n v k = 0
      · rw [if_pos q1]; exact o4
      · rw [if_neg q1]; exact hb) n 0 ((0, 0), z) (by omega) ⟨show (0 : Nat) < 64 by decide, show (0 : Nat) < 64 by decide⟩
  refine Eq.trans e ?_
  have hp : (p1, p2) = (suA S n v, suN S n v) := hp.trans (itf_pair (f := fun i (a : Nat) => if skW S n v i = skA S n v then a ||| 2 ^ i else a) (g := fun i (a : Nat) => if skW S n v i = 0 then a ||| 2 ^ i else a) n 0 (0, 0))
  rw [show p1 = _ from congrArg Prod.fst hp, show p2 = _ from congrArg Prod.snd hp]
  show pv_R mX6_sure 53 _ _ _ = _
  rw [bX6_sure_53, tw_x7 T, if_pos (Int32.le_refl _), bX6_sure_107]
def suE (S : pv_S) (n : Nat) (v : Int32) : Nat := itf (fun s a => if skp S n v s then a &&& s else a) (2 ^ n) 0 (2 ^ n - 1)
def suU (S : pv_S) (n : Nat) (v : Int32) : Nat := itf (fun s a => if skp S n v s then a ||| s else a) (2 ^ n) 0 0
def suI (S : pv_S) (n : Nat) (v : Int32) : Int32 := itf (fun s (a : Int32) => if skp S n v s then 1 else a) (2 ^ n) 0 0
theorem su_lt {v : Int32} (hn : n ≤ 6) : suE S n v < 64 ∧ suU S n v < 64 := by
  have hp := pw_le hn
  have h1 : ∀ m k a, k + m ≤ 64 → a < 64 → itf (fun s a => if skp S n v s then a &&& s else a) m k a < 64 := by
    intro m
    induction m with
    | zero => intro k a _ h; exact h
    | succ m ih =>
      intro k a h1 h2
      refine ih (k + 1) _ (by omega) ?_
      dsimp only
      by_cases q : skp S n v k
      · rw [if_pos q]; exact (bw64 a h2 k (by omega)).1.2
      · rw [if_neg q]; exact h2
  have h2 : ∀ m k a, k + m ≤ 64 → a < 64 → itf (fun s a => if skp S n v s then a ||| s else a) m k a < 64 := by
    intro m
    induction m with
    | zero => intro k a _ h; exact h
    | succ m ih =>
      intro k a h1 h2
      refine ih (k + 1) _ (by omega) ?_
      dsimp only
      by_cases q : skp S n v k
      · rw [if_pos q]; exact (bw64 a h2 k (by omega)).2.1.2
      · rw [if_neg q]; exact h2
  exact ⟨h1 (2 ^ n) 0 (2 ^ n - 1) (by omega) (by omega), h2 (2 ^ n) 0 0 (by omega) (by omega)⟩
theorem su_A {v : Int32} : suA S n v = suE S n v := by
  refine Nat.eq_of_testBit_eq fun j => ?_
  rw [Bool.eq_iff_iff]
  unfold suA suE
  rw [or_tb, an_tb, Nat.testBit_two_pow_sub_one, decide_eq_true_eq, skW_all, Nat.zero_testBit]
  constructor
  · rintro (h | ⟨h1, h2, h3⟩)
    · exact absurd h (by decide)
    · exact ⟨by omega, fun s s1 s2 s3 => h3 s (by omega) s3⟩
  · rintro ⟨h1, h2⟩
    exact Or.inr ⟨by omega, by omega, fun s s1 s2 => h2 s (by omega) (by omega) s2⟩
theorem su_N {v : Int32} : suN S n v = (2 ^ n - 1) ^^^ ((2 ^ n - 1) &&& suU S n v) := by
  refine Nat.eq_of_testBit_eq fun j => ?_
  rw [Nat.testBit_xor, Nat.testBit_and, Nat.testBit_two_pow_sub_one]
  have hU : (suU S n v).testBit j = true ↔ ∃ s, s < 2 ^ n ∧ skp S n v s ∧ s.testBit j = true := by
    unfold suU
    rw [un_tb, Nat.zero_testBit]
    constructor
    · rintro (h | ⟨s, h1, h2, h3, h4⟩)
      · exact absurd h (by decide)
      · exact ⟨s, by omega, h3, h4⟩
    · rintro ⟨s, h1, h2, h3⟩
      exact Or.inr ⟨s, by omega, by omega, h2, h3⟩
  have hN : (suN S n v).testBit j = true ↔ j < n ∧ ∀ s, s < 2 ^ n → skp S n v s → ¬ s.testBit j = true := by
    unfold suN
    rw [or_tb, Nat.zero_testBit, skW_0]
    constructor
    · rintro (h | ⟨h1, h2, h3⟩)
      · exact absurd h (by decide)
      · exact ⟨by omega, h3⟩
    · rintro ⟨h1, h2⟩
      exact Or.inr ⟨by omega, by omega, h2⟩
  by_cases hj : j < n
  · by_cases hu : (suU S n v).testBit j = true
    · rw [hu]
      have : ¬ (suN S n v).testBit j = true := fun q => by
        obtain ⟨s, h1, h2, h3⟩ := hU.mp hu
        exact (hN.mp q).2 s h1 h2 h3
      rw [Bool.not_eq_true] at this
      rw [this]; simp
    · have h2 : (suN S n v).testBit j = true := hN.mpr ⟨hj, fun s s1 s2 s3 => hu (hU.mpr ⟨s, s1, s2, s3⟩)⟩
      rw [Bool.not_eq_true] at hu
      rw [h2, hu]; simp [hj]
  · have : ¬ (suN S n v).testBit j = true := fun q => hj (hN.mp q).1
    rw [Bool.not_eq_true] at this
    rw [this]; simp [hj]
theorem m_sureL (T : Tw S n c) {v x2 : Int32} : pv_R mX7_sure 33 [some (.ref 37), some (.int v), some (.int x2), some (.int (nI (2 ^ n - 1))), some (.int (nI (2 ^ n - 1))), some (.int 0), some (.int 0), some (.int 0)] [] (pv_em S) = pv_R mX7_sure 72 [some (.ref 37), some (.int v), some (.int x2), some (.int (nI (2 ^ n - 1))), some (.int (nI (suE S n v))), some (.int (nI (suU S n v))), some (.int (suI S n v)), some (.int (nI (2 ^ n)))] [] (pv_em S) := by
  have hn := tw_n T
  have hpw := pw_le hn
  have hp0 := pw_pos n
  obtain ⟨⟨p1, p2, p3⟩, e, hp, _⟩ := lpF (R := fun k (q : Nat × Nat × Int32) => pv_R mX7_sure 33 [some (.ref 37), some (.int v), some (.int x2), some (.int (nI (2 ^ n - 1))), some (.int (nI q.1)), some (.int (nI q.2.1)), some (.int q.2.2), some (.int (nI k))] [] (pv_em S)) (N := 2 ^ n) (fun q => q) (fun s (q : Nat × Nat × Int32) => (if skp S n v s then q.1 &&& s else q.1, if skp S n v s then q.2.1 ||| s else q.2.1, if skp S n v s then 1 else q.2.2)) (fun _ q => q.1 < 64 ∧ q.2.1 < 64) (fun k q hk hP => by
    obtain ⟨a, b, d⟩ := q
    obtain ⟨ha, hb⟩ := hP
    have ha : a < 64 := ha
    have hb : b < 64 := hb
    obtain ⟨⟨o1, o2⟩, _⟩ := bw64 a ha k (by omega)
    obtain ⟨_, ⟨o3, o4⟩, _⟩ := bw64 b hb k (by omega)
    refine ⟨(if skp S n v k then a &&& k else a, if skp S n v k then b ||| k else b, if skp S n v k then 1 else d), ?_, rfl, ?_, ?_⟩
    · refine Eq.trans bX7_sure_33 ?_
      rw [if_neg (by rw [nIlt (by omega) (by omega)]; omega), bX7_sure_39, m_isSack T (by omega), pv_cc_some, bX7_sure_46]
      dsimp only
      by_cases q : skp S n v k
      · rw [bI_t q, if_neg (by decide), bX7_sure_49, bX7_sure_66, nIs, o1, o3, if_pos q, if_pos q, if_pos q]
      · rw [bI_f q, if_pos rfl, bX7_sure_66, nIs, if_neg q, if_neg q, if_neg q]
    · dsimp only
      by_cases q : skp S n v k
      · rw [if_pos q]; exact o2
      · rw [if_neg q]; exact ha
    · dsimp only
      by_cases q : skp S n v k
      · rw [if_pos q]; exact o4
      · rw [if_neg q]; exact hb) (2 ^ n) 0 (2 ^ n - 1, 0, 0) (by omega) ⟨by show 2 ^ n - 1 < 64; omega, show (0 : Nat) < 64 by decide⟩
  refine Eq.trans e ?_
  have hp : (p1, p2, p3) = (suE S n v, suU S n v, suI S n v) := by
    refine hp.trans ?_
    refine (itf_pair (f := fun s (a : Nat) => if skp S n v s then a &&& s else a) (g := fun s (q : Nat × Int32) => (if skp S n v s then q.1 ||| s else q.1, if skp S n v s then 1 else q.2)) (2 ^ n) 0 (2 ^ n - 1, 0, 0)).trans ?_
    rw [itf_pair (f := fun s (a : Nat) => if skp S n v s then a ||| s else a) (g := fun s (a : Int32) => if skp S n v s then 1 else a) (2 ^ n) 0 (0, 0)]
    rfl
  rw [show p1 = _ from congrArg Prod.fst hp, show p2 = _ from congrArg (fun q => q.2.1) hp, show p3 = _ from congrArg (fun q => q.2.2) hp]
  show pv_R mX7_sure 33 _ _ _ = _
  rw [bX7_sure_33, if_pos (by rw [nIlt (by omega) (by omega)]; omega)]
theorem suI_0 {v : Int32} : suI S n v = 0 ↔ skA S n v = 0 := by
  unfold suI
  rw [is_0, skA_0]
  exact ⟨fun h s h1 => h.2 s (by omega) (by omega), fun h => ⟨rfl, fun s _ h1 => h s (by omega)⟩⟩
theorem sk_congr {S S' : pv_S} {v : Int32} (h : S'.1 44 = S.1 44) : skp S' n v = skp S n v := by
  funext s
  unfold skp
  rw [h]
theorem tq_sure (I : Inv S) (v : Int32) : pv_goI Inv S mX6_sure mX7_sure [.int v] := by
  obtain ⟨n, c, T⟩ := tw_of I
  have hn := tw_n T
  have hpw := pw_le hn
  have hp0 := pw_pos n
  by_cases hv : 0 ≤ v.toInt ∧ v.toInt ≤ 1200
  · by_cases h : n = 0
    · subst h
      refine ⟨-4, S, S, ?_, ?_, I⟩
      · show pv_R mX6_sure 0 [some (.ref 0), some (.int v), none, none, none, none, none] [] (pv_em S) = _
        simp only [bX6_sure_0, bX6_sure_8, bX6_sure_11, bX6_sure_13, bX6_sure_23, bX6_sure_26, bX6_sure_31, bX6_sure_36, bX6_sure_44, bX6_sure_45, bX6_sure_65, bX6_sure_72, bX6_sure_80, bX6_sure_87, bX6_sure_92, bX6_sure_101, bX6_sure_107, x_within, i0, i1200, hv, tw_x7 T, show nI 0 = 0 from rfl, pv_cc_some, bI_0, and_self, not_true_eq_false, not_false_eq_true, if_true, if_false]
      · show pv_R mX7_sure 0 [some (.ref 37), some (.int v), none, none, none, none, none, none] [] (pv_em S) = _
        rw [bX7_sure_0, m_refuses T, pv_cc_some, if_pos hv, if_pos rfl, bX7_sure_5, if_neg (by decide), bX7_sure_10]
    · have z := nI0 hn h
      have hA := skA_le (S := S) (v := v) hn
      have ex : pv_R mX6_sure 0 [some (.ref 0), some (.int v), none, none, none, none, none] [] (pv_em S) = if ¬ nI (skA S n v) = 0 then pv_R mX6_sure 45 [some (.ref 0), some (.int v), some (.int (nI (skA S n v))), none, none, none, none] [] (pv_em S) else pv_R mX6_sure 36 [some (.ref 0), some (.int v), some (.int (nI (skA S n v))), none, none, none, none] [] (pv_em S) := by
        rw [bX6_sure_0, x_within, pv_cc_some, bX6_sure_8, if_pos (by rw [bI_0, i0, i1200]; exact fun q => q hv), bX6_sure_13, tw_x7 T, if_pos z, bX6_sure_26, x_setsOfN T, pv_cc_some, bX6_sure_31]
      have em : ∀ S' : pv_S, Tw S' n c → S'.1 44 = S.1 44 → pv_R mX7_sure 0 [some (.ref 37), some (.int v), none, none, none, none, none, none] [] (pv_em S') = if suI S n v = 0 then pv_R mX7_sure 92 [some (.ref 37), some (.int v), some (.int 0), some (.int (nI (2 ^ n - 1))), some (.int (nI (suE S n v))), some (.int (nI (suU S n v))), some (.int (suI S n v)), some (.int (nI (2 ^ n)))] [] (pv_em S') else pv_R mX7_sure 77 [some (.ref 37), some (.int v), some (.int 0), some (.int (nI (2 ^ n - 1))), some (.int (nI (suE S n v))), some (.int (nI (suU S n v))), some (.int (suI S n v)), some (.int (nI (2 ^ n)))] [] (pv_em S') := by
        intro S' T' h44
        have e3 := m_sureL T' (v := v) (x2 := 0)
        rw [show suE S' n v = suE S n v from by unfold suE; simp only [skp, h44], show suU S' n v = suU S n v from by unfold suU; simp only [skp, h44], show suI S' n v = suI S n v from by unfold suI; simp only [skp, h44]] at e3
        rw [bX7_sure_0, m_refuses T', pv_cc_some, if_pos hv, if_neg h, bX7_sure_5, if_pos rfl, bX7_sure_12, tw_m4 T', pw6 n hn, show nI (2 ^ n) - 1 = nI (2 ^ n - 1) from nIsub (b := 1) (by omega) (by omega), e3, bX7_sure_72]
      by_cases q : skA S n v = 0
      · refine ⟨-3, xf S 4, _, ?_, ?_, Inv_find (f := 4) I (by omega) (by omega)⟩
        · refine Eq.trans ex ?_
          rw [if_neg (fun w => w (by rw [q]; rfl)), bX6_sure_36, x_find_4, pv_cc_some, bX6_sure_44]
        · have T' : Tw (xf S 4) n c := Tw_congr (fun k hk => xf_ne (by omega) (by omega)) (by rw [xf_ne (by decide) (by decide)]) (by rw [xf_ne (by decide) (by decide)]) (by rw [xf_ne (by decide) (by decide)]) T
          refine Eq.trans (em (xf S 4) T' (xf_ne (by decide) (by decide))) ?_
          rw [if_pos (suI_0.mpr q), bX7_sure_92, m_find_4, pv_cc_some, bX7_sure_97]
      · obtain ⟨u1, u2⟩ := su_lt (S := S) (v := v) hn
        have e2 : nI (2 ^ n - 1) &&& (nI (suU S n v) ^^^ -1) = nI (suN S n v) := by rw [(bw64 (2 ^ n - 1) (by omega) (suU S n v) u2).2.2, su_N]
        refine ⟨nI (suA S n v), pv_si S 35 1 (nI (suN S n v)), _, ?_, ?_, Inv_asked (v := nI (suN S n v)) I⟩
        · refine Eq.trans ex ?_
          rw [if_pos (fun w => q (by rw [show (0 : Int32) = nI 0 from rfl, nIeq (by omega) (by omega)] at w; exact w)), bX6_sure_45, x_sureL T]
        · have T' : Tw (pv_si S 35 1 (nI (suN S n v))) n c := Tw_congr (fun k hk => si_ne (by omega)) (by rw [si_ne (by decide)]) (by rw [si_ne (by decide)]) (by rw [si_ne (by decide)]) T
          refine Eq.trans (em _ T' (si_ne (by decide))) ?_
          rw [if_neg (fun w => q (suI_0.mp w)), bX7_sure_77, e2, bX7_answer_0, pv_cc_some, bX7_sure_89, bX7_sure_97, su_A]
  · refine ⟨-1, S, S, ?_, ?_, I⟩
    · show pv_R mX6_sure 0 [some (.ref 0), some (.int v), none, none, none, none, none] [] (pv_em S) = _
      simp only [bX6_sure_0, bX6_sure_8, bX6_sure_11, bX6_sure_13, bX6_sure_23, bX6_sure_26, bX6_sure_31, bX6_sure_36, bX6_sure_44, bX6_sure_45, bX6_sure_65, bX6_sure_72, bX6_sure_80, bX6_sure_87, bX6_sure_92, bX6_sure_101, bX6_sure_107, x_within, i0, i1200, hv, pv_cc_some, bI_0, not_true_eq_false, not_false_eq_true, if_true, if_false]
    · show pv_R mX7_sure 0 [some (.ref 37), some (.int v), none, none, none, none, none, none] [] (pv_em S) = _
      rw [bX7_sure_0, m_refuses T, pv_cc_some, if_neg hv, bX7_sure_5, if_neg (by decide), bX7_sure_10]
end SU
