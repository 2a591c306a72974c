/-! ===== plan: what is best, over codes and over meals to the ruler alone ===== -/
def dgF (B N c t : Nat) : Nat := c / B ^ (N - 1 - t) % B
def dxF (r N f t : Nat) : Nat := if f.testBit (N - 1 - t) = true then r + 1 else 0
def eFF (B r N f : Nat) : Nat := itf (fun t a => a * B + dxF r N f t) N 0 0
def mkF (B r N c : Nat) : Nat := itf (fun t a => 2 * a + (if dgF B N c t = r + 1 then 1 else 0)) N 0 0
def plA (N B r : Nat) : Bool := (List.range (2 ^ N)).all fun f => decide (eFF B r N f < B ^ N) && (List.range N).all fun t => dgF B N (eFF B r N f) t == dxF r N f t
def plB (N B r : Nat) : Bool := (List.range (B ^ N)).all fun c => decide (mkF B r N c < 2 ^ N) && ((List.range N).all fun t => dxF r N (mkF B r N c) t == if dgF B N c t = r + 1 then r + 1 else 0) && (!((List.range N).all fun t => dgF B N c t == 0 || dgF B N c t == r + 1) || eFF B r N (mkF B r N c) == c)
def plC (N B r : Nat) : Bool := (List.range (2 ^ N)).all fun f => (List.range (2 ^ N)).all fun g => !decide (f < g) || decide (eFF B r N f < eFF B r N g)
set_option maxRecDepth 100000 in
theorem pl_all : ∀ N, N < 4 → ∀ n, n < 7 → ∀ r, r < n → (plA N (n + 1) r && plB N (n + 1) r && plC N (n + 1) r) = true := by decide +kernel
theorem pl_abc {N B r : Nat} (hN : N < 4) (hB : B < 8) (hr : r + 1 < B) : plA N B r = true ∧ plB N B r = true ∧ plC N B r = true := by
  have := pl_all N hN (B - 1) (by omega) r (by omega)
  rw [show B - 1 + 1 = B from by omega, Bool.and_eq_true, Bool.and_eq_true] at this
  exact ⟨this.1.1, this.1.2, this.2⟩
theorem pl_a (N : Nat) (hN : N < 4) (B : Nat) (hB : B < 8) (r : Nat) (_ : r < B) (hr : r + 1 < B) (f : Nat) (hf : f < 2 ^ N) : eFF B r N f < B ^ N ∧ ∀ t, t < N → dgF B N (eFF B r N f) t = dxF r N f t := by
  have h := (pl_abc hN hB hr).1
  unfold plA at h
  have h2 := List.all_eq_true.mp h f (List.mem_range.mpr hf)
  rw [Bool.and_eq_true] at h2
  exact ⟨of_decide_eq_true h2.1, fun t ht => eq_of_beq (List.all_eq_true.mp h2.2 t (List.mem_range.mpr ht))⟩
theorem pl_b (N : Nat) (hN : N < 4) (B : Nat) (hB : B < 8) (r : Nat) (_ : r < B) (hr : r + 1 < B) (c : Nat) (hc : c < B ^ N) : mkF B r N c < 2 ^ N ∧ (∀ t, t < N → dxF r N (mkF B r N c) t = if dgF B N c t = r + 1 then r + 1 else 0) ∧ ((∀ t, t < N → dgF B N c t = 0 ∨ dgF B N c t = r + 1) → eFF B r N (mkF B r N c) = c) := by
  have h := (pl_abc hN hB hr).2.1
  unfold plB at h
  have h2 := List.all_eq_true.mp h c (List.mem_range.mpr hc)
  rw [Bool.and_eq_true, Bool.and_eq_true] at h2
  refine ⟨of_decide_eq_true h2.1.1, fun t ht => eq_of_beq (List.all_eq_true.mp h2.1.2 t (List.mem_range.mpr ht)), fun g => ?_⟩
  have h3 := h2.2
  have h4 : ((List.range N).all fun t => dgF B N c t == 0 || dgF B N c t == r + 1) = true := by
    rw [List.all_eq_true]
    intro t ht
    rw [Bool.or_eq_true]
    rcases g t (List.mem_range.mp ht) with e | e
    · exact Or.inl (beq_iff_eq.mpr e)
    · exact Or.inr (beq_iff_eq.mpr e)
  rw [h4, Bool.not_true, Bool.false_or] at h3
  exact eq_of_beq h3
theorem pl_c (N : Nat) (hN : N < 4) (B : Nat) (hB : B < 8) (r : Nat) (_ : r < B) (hr : r + 1 < B) (f : Nat) (hf : f < 2 ^ N) (g : Nat) (hg : g < 2 ^ N) (hl : f < g) : eFF B r N f < eFF B r N g := by
  have h := (pl_abc hN hB hr).2.2
  unfold plC at h
  have h2 := List.all_eq_true.mp (List.all_eq_true.mp h f (List.mem_range.mpr hf)) g (List.mem_range.mpr hg)
  rw [decide_eq_true hl, Bool.not_true, Bool.false_or] at h2
  exact of_decide_eq_true h2
/-- what a plan is worth -/
def pS (kd h ml : Int32) (r : Nat) (δ : Nat → Nat) (t : Nat) (q : Int32 × Int32) : Int32 × Int32 := (tw_held ((if δ t = r + 1 then tw_held (q.1 + ml) else q.1) + tw_adds kd (h + nI t)), q.2 + (tw_held ((if δ t = r + 1 then tw_held (q.1 + ml) else q.1) + tw_adds kd (h + nI t)) - (if δ t = 0 then 0 else 3)))
def PV (kd h ml w : Int32) (r : Nat) (δ : Nat → Nat) (N : Nat) : Int32 := (itf (pS kd h ml r δ) N 0 (w, 0)).2
theorem PV_congr {kd h ml w : Int32} {r N : Nat} {δ δ' : Nat → Nat} (e : ∀ t, t < N → δ t = δ' t) : PV kd h ml w r δ N = PV kd h ml w r δ' N := by
  unfold PV
  rw [itf_congr N 0 (w, 0) fun t q _ ht => by
    show pS kd h ml r δ t q = pS kd h ml r δ' t q
    unfold pS
    rw [e t (by omega)]]
theorem p3_in {d : Nat} : 0 ≤ (if d = 0 then (0 : Int32) else 3).toInt ∧ (if d = 0 then (0 : Int32) else 3).toInt ≤ 3 := by
  split <;> decide
theorem pv_cmp {kd h ml : Int32} {r : Nat} {δ δ' : Nat → Nat} (hδ : ∀ t, δ' t = if δ t = r + 1 then r + 1 else 0) (m : Nat) : ∀ (k : Nat) (w s s' : Int32), k + m ≤ 3 → -300 * (k : Int) ≤ s.toInt → s'.toInt ≤ 300 * (k : Int) → s.toInt ≤ s'.toInt → (-300 * ((k + m : Nat) : Int) ≤ (itf (pS kd h ml r δ) m k (w, s)).2.toInt) ∧ (itf (pS kd h ml r δ) m k (w, s)).2.toInt ≤ (itf (pS kd h ml r δ') m k (w, s')).2.toInt ∧ ((s.toInt < s'.toInt ∨ ∃ t, k ≤ t ∧ t < k + m ∧ ¬ (δ t = 0 ∨ δ t = r + 1)) → (itf (pS kd h ml r δ) m k (w, s)).2.toInt < (itf (pS kd h ml r δ') m k (w, s')).2.toInt) := by
  induction m with
  | zero =>
    intro k w s s' hk b0 b1 hs
    refine ⟨b0, hs, fun z => ?_⟩
    rcases z with z | ⟨t, z1, z2, _⟩
    · exact z
    · omega
  | succ m ih =>
    intro k w s s' hk b0 b1 hs
    have ew : (if δ' k = r + 1 then tw_held (w + ml) else w) = (if δ k = r + 1 then tw_held (w + ml) else w) := by
      rw [hδ k]
      by_cases c : δ k = r + 1
      · rw [if_pos c, if_pos rfl, if_pos c]
      · rw [if_neg c, if_neg (by omega), if_neg c]
    have hw := held_in ((if δ k = r + 1 then tw_held (w + ml) else w) + tw_adds kd (h + nI k))
    have e1 : pS kd h ml r δ' k (w, s') = (tw_held ((if δ k = r + 1 then tw_held (w + ml) else w) + tw_adds kd (h + nI k)), s' + (tw_held ((if δ k = r + 1 then tw_held (w + ml) else w) + tw_adds kd (h + nI k)) - (if δ' k = 0 then 0 else 3))) := by
      unfold pS
      dsimp only
      rw [ew]
    have e0 : pS kd h ml r δ k (w, s) = (tw_held ((if δ k = r + 1 then tw_held (w + ml) else w) + tw_adds kd (h + nI k)), s + (tw_held ((if δ k = r + 1 then tw_held (w + ml) else w) + tw_adds kd (h + nI k)) - (if δ k = 0 then 0 else 3))) := rfl
    generalize tw_held ((if δ k = r + 1 then tw_held (w + ml) else w) + tw_adds kd (h + nI k)) = w2 at hw e0 e1
    have q0 := p3_in (d := δ k)
    have q1 := p3_in (d := δ' k)
    have i0s : (s + (w2 - (if δ k = 0 then 0 else 3))).toInt = s.toInt + (w2.toInt - (if δ k = 0 then (0 : Int32) else 3).toInt) := by
      have u : (w2 - (if δ k = 0 then (0 : Int32) else 3)).toInt = w2.toInt - (if δ k = 0 then (0 : Int32) else 3).toInt := sb_i (by omega) (by omega)
      rw [ad_i (by rw [u]; omega) (by rw [u]; omega), u]
    have i1s : (s' + (w2 - (if δ' k = 0 then 0 else 3))).toInt = s'.toInt + (w2.toInt - (if δ' k = 0 then (0 : Int32) else 3).toInt) := by
      have u : (w2 - (if δ' k = 0 then (0 : Int32) else 3)).toInt = w2.toInt - (if δ' k = 0 then (0 : Int32) else 3).toInt := sb_i (by omega) (by omega)
      rw [ad_i (by rw [u]; omega) (by rw [u]; omega), u]
    have c3 : (3 : Int32).toInt = 3 := by decide
    have cmp : (if δ' k = 0 then (0 : Int32) else 3).toInt ≤ (if δ k = 0 then (0 : Int32) else 3).toInt ∧ (¬ (δ k = 0 ∨ δ k = r + 1) → (if δ' k = 0 then (0 : Int32) else 3).toInt < (if δ k = 0 then (0 : Int32) else 3).toInt) := by
      by_cases c : δ k = r + 1
      · have : δ' k = r + 1 := by rw [hδ k, if_pos c]
        rw [this, c]
        exact ⟨by omega, fun z => absurd (Or.inr rfl) z⟩
      · have d0 : δ' k = 0 := by rw [hδ k, if_neg c]
        rw [if_pos d0]
        by_cases d : δ k = 0
        · rw [if_pos d]
          exact ⟨by omega, fun z => absurd (Or.inl d) z⟩
        · rw [if_neg d, i0, c3]
          exact ⟨by omega, fun _ => by omega⟩
    have H := ih (k + 1) w2 (s + (w2 - (if δ k = 0 then 0 else 3))) (s' + (w2 - (if δ' k = 0 then 0 else 3))) (by omega) (by rw [i0s]; omega) (by rw [i1s]; omega) (by rw [i0s, i1s]; omega)
    show (-300 * ((k + (m + 1) : Nat) : Int) ≤ (itf (pS kd h ml r δ) m (k + 1) (pS kd h ml r δ k (w, s))).2.toInt) ∧ (itf (pS kd h ml r δ) m (k + 1) (pS kd h ml r δ k (w, s))).2.toInt ≤ (itf (pS kd h ml r δ') m (k + 1) (pS kd h ml r δ' k (w, s'))).2.toInt ∧ (_ → (itf (pS kd h ml r δ) m (k + 1) (pS kd h ml r δ k (w, s))).2.toInt < (itf (pS kd h ml r δ') m (k + 1) (pS kd h ml r δ' k (w, s'))).2.toInt)
    rw [e0, e1]
    refine ⟨by have := H.1; omega, H.2.1, fun z => H.2.2 ?_⟩
    rw [i0s, i1s]
    rcases z with z | ⟨t, z1, z2, z3⟩
    · exact Or.inl (by omega)
    · by_cases c : t = k
      · rw [c] at z3
        exact Or.inl (by have := cmp.2 z3; omega)
      · exact Or.inr ⟨t, by omega, by omega, z3⟩
theorem PV_ge {kd h ml w : Int32} {r N : Nat} {δ : Nat → Nat} (hN : N ≤ 3) : -900 ≤ (PV kd h ml w r δ N).toInt := by
  have := (pv_cmp (kd := kd) (h := h) (ml := ml) (r := r) (δ := δ) (δ' := fun t => if δ t = r + 1 then r + 1 else 0) (fun _ => rfl) N 0 w 0 0 (by omega) (by decide) (by decide) (by omega)).1
  have e : PV kd h ml w r δ N = (itf (pS kd h ml r δ) N 0 (w, 0)).2 := rfl
  rw [e]
  omega
theorem PV_lt {kd h ml w : Int32} {r N : Nat} {δ δ' : Nat → Nat} (hN : N ≤ 3) (hδ : ∀ t, t < N → δ' t = if δ t = r + 1 then r + 1 else 0) (b : ∃ t, t < N ∧ ¬ (δ t = 0 ∨ δ t = r + 1)) : (PV kd h ml w r δ N).toInt < (PV kd h ml w r δ' N).toInt := by
  rw [PV_congr (δ := δ') (δ' := fun t => if δ t = r + 1 then r + 1 else 0) hδ]
  obtain ⟨t, b1, b2⟩ := b
  exact (pv_cmp (kd := kd) (h := h) (ml := ml) (r := r) (δ := δ) (δ' := fun t => if δ t = r + 1 then r + 1 else 0) (fun _ => rfl) N 0 w 0 0 (by omega) (by decide) (by decide) (by omega)).2.2 (Or.inr ⟨t, by omega, by omega, b2⟩)
/-- the first of the greatest -/
def AM (v : Nat → Int32) (j : Nat) (M : Int32) (b : Nat) : Prop := b < j ∧ v b = M ∧ (∀ i, i < j → (v i).toInt ≤ M.toInt) ∧ ∀ i, i < b → (v i).toInt < M.toInt
theorem AM_le {v : Nat → Int32} {j b : Nat} {M : Int32} (A : AM v j M b) (h : v j ≤ M) : AM v (j + 1) M b := by
  obtain ⟨a1, a2, a3, a4⟩ := A
  refine ⟨by omega, a2, fun i hi => ?_, a4⟩
  by_cases e : i = j
  · rw [e]; rw [leI] at h; exact h
  · exact a3 i (by omega)
theorem AM_gt {v : Nat → Int32} {j b : Nat} {M : Int32} (A : AM v j M b) (h : ¬ v j ≤ M) : AM v (j + 1) (v j) j := by
  obtain ⟨a1, a2, a3, a4⟩ := A
  rw [leI] at h
  refine ⟨by omega, rfl, fun i hi => ?_, fun i hi => by have := a3 i hi; omega⟩
  by_cases e : i = j
  · rw [e]; exact Int.le_refl _
  · have := a3 i (by omega); omega
theorem AM_0 {v : Nat → Int32} : AM v 1 (v 0) 0 := ⟨by omega, rfl, fun i hi => by rw [show i = 0 from by omega]; exact Int.le_refl _, fun i hi => absurd hi (by omega)⟩
theorem pl_eq {kd h ml w Mx Mm : Int32} {r N B bx bm : Nat} (hN : N ≤ 3) (hB : B ≤ 7) (hr : r + 1 < B) (X : AM (fun f => PV kd h ml w r (dxF r N f) N) (2 ^ N) Mx bx) (Y : AM (fun c => PV kd h ml w r (dgF B N c) N) (B ^ N) Mm bm) : Mx = Mm ∧ ∀ t, t < N → dgF B N bm t = dxF r N bx t := by
  obtain ⟨x1, x2, x3, x4⟩ := X
  obtain ⟨y1, y2, y3, y4⟩ := Y
  have x2 : PV kd h ml w r (dxF r N bx) N = Mx := x2
  have y2 : PV kd h ml w r (dgF B N bm) N = Mm := y2
  have x3 : ∀ i, i < 2 ^ N → (PV kd h ml w r (dxF r N i) N).toInt ≤ Mx.toInt := x3
  have y3 : ∀ i, i < B ^ N → (PV kd h ml w r (dgF B N i) N).toInt ≤ Mm.toInt := y3
  have x4 : ∀ i, i < bx → (PV kd h ml w r (dxF r N i) N).toInt < Mx.toInt := x4
  have y4 : ∀ i, i < bm → (PV kd h ml w r (dgF B N i) N).toInt < Mm.toInt := y4
  obtain ⟨b1, b2, b3⟩ := pl_b N (by omega) B (by omega) r (by omega) hr bm y1
  have ve : ∀ f, f < 2 ^ N → PV kd h ml w r (dgF B N (eFF B r N f)) N = PV kd h ml w r (dxF r N f) N := fun f hf => PV_congr (pl_a N (by omega) B (by omega) r (by omega) hr f hf).2
  have el : ∀ f, f < 2 ^ N → eFF B r N f < B ^ N := fun f hf => (pl_a N (by omega) B (by omega) r (by omega) hr f hf).1
  have good : ∀ t, t < N → dgF B N bm t = 0 ∨ dgF B N bm t = r + 1 := by
    intro t ht
    by_cases g : dgF B N bm t = 0 ∨ dgF B N bm t = r + 1
    · exact g
    · have lt := PV_lt (kd := kd) (h := h) (ml := ml) (w := w) hN b2 ⟨t, ht, g⟩
      have le := y3 _ (el _ b1)
      rw [ve _ b1] at le
      rw [y2] at lt
      omega
  have ef := b3 good
  have vf : PV kd h ml w r (dxF r N (mkF B r N bm)) N = Mm := by rw [← ve _ b1, ef, y2]
  have le1 := x3 _ b1
  rw [vf] at le1
  have le2 := y3 _ (el bx x1)
  rw [ve bx x1, x2] at le2
  have eM : Mx = Mm := Int32.toInt_inj.mp (by omega)
  have f1 : ¬ mkF B r N bm < bx := fun z => by
    have := x4 _ z
    rw [vf, eM] at this
    omega
  have f2 : ¬ eFF B r N bx < bm := fun z => by
    have := y4 _ z
    rw [ve bx x1, x2, eM] at this
    omega
  have f3 : ¬ bx < mkF B r N bm := fun z => by
    have := pl_c N (by omega) B (by omega) r (by omega) hr bx x1 _ b1 z
    rw [ef] at this
    exact f2 this
  have eb : bx = mkF B r N bm := by omega
  refine ⟨eM, fun t ht => ?_⟩
  rw [eb, b2 t ht]
  rcases good t ht with g | g
  · rw [g, if_neg (by omega)]
  · rw [g, if_pos rfl]
