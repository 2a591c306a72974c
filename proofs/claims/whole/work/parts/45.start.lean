/-! ===== the two constructors, run ===== -/
def pv_x1 : Option (Option Value × pv_H) := pv_run 900 mX6_init 0 (pv_ent [.ref 0] (pv_ml mX6_init)) [] (1, pv_up (fun _ => .inr (9, [])) 0 (.inr (5, pv_blank 5 6))) 0 0
set_option maxRecDepth 100000 in
theorem pv_x1_a : pv_x1.map (fun x => (x.1, x.2.1)) = some (none, 37) := by decide +kernel
def pv_g1 : Nat → pv_C := match pv_x1 with
  | some x => x.2.2
  | none => fun _ => .inr (9, [])
theorem pv_x1_eq : pv_x1 = some (none, (37, pv_g1)) := by
  have h := pv_x1_a
  unfold pv_g1
  cases hx : pv_x1 with
  | none => rw [hx] at h; cases h
  | some x =>
    rw [hx] at h
    obtain ⟨r, n, g⟩ := x
    simp at h
    obtain ⟨rfl, rfl⟩ := h
    rfl
def pv_x2 : Option (Option Value × pv_H) := pv_run 900 mX7_init 0 (pv_ent [.ref 37] (pv_ml mX7_init)) [] (38, pv_up pv_g1 37 (.inr (6, pv_blank 6 29))) 0 0
set_option maxRecDepth 100000 in
theorem pv_x2_a : pv_x2.map (fun x => (x.1, x.2.1)) = some (none, 55) := by decide +kernel
def pv_g2 : Nat → pv_C := match pv_x2 with
  | some x => x.2.2
  | none => fun _ => .inr (9, [])
theorem pv_x2_eq : pv_x2 = some (none, (55, pv_g2)) := by
  have h := pv_x2_a
  unfold pv_g2
  cases hx : pv_x2 with
  | none => rw [hx] at h; cases h
  | some x =>
    rw [hx] at h
    obtain ⟨r, n, g⟩ := x
    simp at h
    obtain ⟨rfl, rfl⟩ := h
    rfl
def pv_gs (c : pv_C) : Nat → Int32 := match c with
  | .inl (_, _, .inl f) => f
  | .inr (_, fs) => fun j => match fs[j]? with
    | some (.int v) => v
    | _ => 0
  | _ => fun _ => 0
def pv_gt (c : pv_C) : Nat → Int64 := match c with
  | .inr (_, fs) => fun j => match fs[j]? with
    | some (.long v) => v
    | _ => 0
  | _ => fun _ => 0
def pv_S0 : pv_S := (fun k => pv_gs (pv_g2 k), fun k => pv_gt (pv_g2 k))
def pv_ak (k : Nat) : Option (Nat × Nat) := match k with
  | 2 => some (0, 6)
  | 4 => some (0, 40)
  | 5 => some (0, 40)
  | 6 => some (0, 40)
  | 7 => some (0, 40)
  | 8 => some (0, 40)
  | 9 => some (0, 40)
  | 11 => some (0, 4)
  | 13 => some (0, 60)
  | 14 => some (0, 60)
  | 15 => some (0, 60)
  | 16 => some (0, 60)
  | 18 => some (0, 6)
  | 19 => some (0, 6)
  | 20 => some (0, 6)
  | 22 => some (0, 6)
  | 23 => some (0, 6)
  | 24 => some (0, 6)
  | 25 => some (0, 6)
  | 26 => some (0, 40)
  | 27 => some (0, 3)
  | 29 => some (0, 40)
  | 30 => some (0, 40)
  | 31 => some (0, 40)
  | 33 => some (0, 61)
  | 34 => some (0, 6)
  | 36 => some (0, 6)
  | 38 => some (0, 6)
  | 39 => some (0, 240)
  | 40 => some (0, 4)
  | 41 => some (0, 240)
  | 42 => some (0, 6)
  | 43 => some (0, 6)
  | 44 => some (0, 10)
  | 45 => some (0, 400)
  | 46 => some (0, 1233)
  | 47 => some (1, 3)
  | 48 => some (0, 6)
  | 49 => some (0, 18)
  | 50 => some (0, 3)
  | 51 => some (0, 3)
  | 52 => some (0, 30)
  | 53 => some (0, 5)
  | 54 => some (0, 5)
  | _ => none
theorem pv_ak_ok {k t0 n0 : Nat} (h : pv_ak k = some (t0, n0)) (s : Nat → Int32) (t : Nat → Int64) : pv_ce k s t = .inl (t0, n0, .inl s) := by
  unfold pv_ak at h
  split at h
  all_goals first | (cases h; rfl) | cases h
def pv_same (c d : pv_C) : Bool := match c, d with
  | .inl (t, n, .inr F), .inl (t', n', .inr F') => t == t' && n == n' && F == F'
  | .inr (ci, fs), .inr (ci', fs') => ci == ci' && decide (fs = fs')
  | _, _ => false
theorem pv_same_ok {c d : pv_C} (h : pv_same c d = true) : c = d := by
  unfold pv_same at h
  split at h
  · simp only [Bool.and_eq_true, beq_iff_eq] at h
    obtain ⟨⟨rfl, rfl⟩, rfl⟩ := h
    rfl
  · simp only [Bool.and_eq_true, beq_iff_eq, decide_eq_true_eq] at h
    obtain ⟨rfl, rfl⟩ := h
    rfl
  · cases h
def pv_shape (k : Nat) (c : pv_C) : Bool := match pv_ak k with
  | some (t0, n0) => (match c with
    | .inl (t, n, .inl _) => t == t0 && n == n0
    | _ => false)
  | none => pv_same c (pv_ce k (pv_gs c) (pv_gt c))
theorem pv_shape_ok {k : Nat} {c : pv_C} (h : pv_shape k c = true) : c = pv_ce k (pv_gs c) (pv_gt c) := by
  unfold pv_shape at h
  split at h
  · next t0 n0 hk =>
    split at h
    · next t n f =>
      simp only [Bool.and_eq_true, beq_iff_eq] at h
      obtain ⟨rfl, rfl⟩ := h
      rw [pv_ak_ok hk]
      rfl
    · cases h
  · exact pv_same_ok h
set_option maxRecDepth 100000 in
theorem pv_shapes : ∀ k, k < 55 → pv_shape k (pv_g2 k) = true := by decide +kernel
theorem pv_gen_P {g : Nat → pv_C} (hs : ∀ k, k < 55 → pv_shape k (g k) = true) {b : Nat} {D : va_G} {ca : Nat → ClassId} {H : Heap} (h : pv_P b D ca (55, g) H) : pv_P b D ca (pv_em (fun k => pv_gs (g k), fun k => pv_gt (g k))) H := by
  refine ⟨h.1, ?_⟩
  have e : pv_w b ca (pv_em (fun k => pv_gs (g k), fun k => pv_gt (g k))) = pv_w b ca (55, g) := by
    unfold pv_w
    refine List.map_congr_left fun k hk => ?_
    have hk : k < 55 := List.mem_range.mp hk
    show (b + k, pv_e b ca (pv_ce k (pv_gs (g k)) (pv_gt (g k)))) = (b + k, pv_e b ca (g k))
    rw [← pv_shape_ok (hs k hk)]
  rw [e]
  exact h.2
theorem pv_S0_P {b : Nat} {D : va_G} {ca : Nat → ClassId} {H : Heap} (h : pv_P b D ca (55, pv_g2) H) : pv_P b D ca (pv_em pv_S0) H := pv_gen_P pv_shapes h
