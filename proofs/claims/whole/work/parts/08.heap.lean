/-! ===== the world: cells by number ===== -/
def pv_e (b : Nat) (ca : Nat → ClassId) : pv_C → va_E
  | .inl (t, n, .inl f) => .inl (ca t, n, .inl f)
  | .inl (t, n, .inr F) => .inl (ca t, n, .inr (.inr (.inr (.inr (fun i => if i < n then some (b + (F + i)) else none)))))
  | .inr (c, fs) => .inr (c, fs.map (pv_t b))
def pv_w (b : Nat) (ca : Nat → ClassId) (A : pv_H) : va_W := (List.range A.1).map (fun k => (b + k, pv_e b ca (A.2 k)))
def pv_A (b : Nat) : Nat → Prop := fun q => b ≤ q
theorem pv_w_get {b : Nat} {ca : Nat → ClassId} {A : pv_H} {k : Nat} (h : k < A.1) : (pv_w b ca A)[k]? = some (b + k, pv_e b ca (A.2 k)) := by
  unfold pv_w
  rw [List.getElem?_map, List.getElem?_range h]
  rfl
theorem pv_w_len (b : Nat) (ca : Nat → ClassId) (A : pv_H) : (pv_w b ca A).length = A.1 := by simp [pv_w]
theorem pv_w_some {b : Nat} {ca : Nat → ClassId} {A : pv_H} {k : Nat} {q : Nat × va_E} (h : (pv_w b ca A)[k]? = some q) : k < A.1 ∧ q = (b + k, pv_e b ca (A.2 k)) := by
  have hl : k < A.1 := by rw [← pv_w_len b ca A]; exact (List.getElem?_eq_some_iff.mp h).1
  rw [pv_w_get hl] at h
  cases h
  exact ⟨hl, rfl⟩
theorem pv_w_D (b : Nat) (ca : Nat → ClassId) (A : pv_H) : va_D (pv_A b) (pv_w b ca A) := by
  refine ⟨fun i j p q hi hj hpq => ?_, fun k q hk => ?_⟩
  · obtain ⟨-, rfl⟩ := pv_w_some hi
    obtain ⟨-, rfl⟩ := pv_w_some hj
    exact Nat.add_left_cancel hpq
  · obtain ⟨-, rfl⟩ := pv_w_some hk
    exact Nat.le_add_right b k
theorem pv_w_set {b : Nat} {ca : Nat → ClassId} {A : pv_H} {k : Nat} (c : pv_C) : (pv_w b ca A).set k (b + k, pv_e b ca c) = pv_w b ca (A.1, pv_up A.2 k c) := by
  apply List.ext_getElem?
  intro j
  by_cases e : j = k
  · subst e
    by_cases h : j < A.1
    · rw [List.getElem?_set_self (by rw [pv_w_len]; exact h), pv_w_get (A := (A.1, pv_up A.2 j c)) h]
      simp [pv_up]
    · rw [List.getElem?_eq_none (by rw [List.length_set, pv_w_len]; omega), List.getElem?_eq_none (by rw [pv_w_len]; exact Nat.le_of_not_lt h)]
  · rw [List.getElem?_set_ne (Ne.symm e)]
    by_cases h : j < A.1
    · rw [pv_w_get h, pv_w_get (A := (A.1, pv_up A.2 k c)) h]
      simp [pv_up, e]
    · rw [List.getElem?_eq_none (by rw [pv_w_len]; omega), List.getElem?_eq_none (by rw [pv_w_len]; exact Nat.le_of_not_lt h)]
/-- the heap is what the engine has -/
def pv_P (b : Nat) (D : va_G) (ca : Nat → ClassId) (A : pv_H) (H : Heap) : Prop := H.size = b + A.1 ∧ va_P D vwCl (pv_w b ca A) H
def pv_tys (ca : Nat → ClassId) : List (ClassId × FieldType) := [(ca 0, .int), (ca 1, .boolean), (ca 2, .array .int)]
theorem pv_P.set {b : Nat} {D : va_G} {ca : Nat → ClassId} {A : pv_H} {H H1 : Heap} {k : Nat} {c : pv_C} (h : pv_P b D ca A H) (hk : k < A.1) (he : va_at D vwCl (b + k, pv_e b ca c) H1) (hz : H1.size = H.size) (oq : ∀ q : Nat, q ≠ b + k → H1[q]? = H[q]?) : pv_P b D ca (A.1, pv_up A.2 k c) H1 := by
  refine ⟨by rw [hz]; exact h.1, ?_⟩
  rw [← pv_w_set]
  exact h.2.set (pv_w_D b ca A) (pv_w_get hk) he oq
theorem pv_P.push {b : Nat} {D : va_G} {ca : Nat → ClassId} {A : pv_H} {H H1 : Heap} {c : pv_C} (h : pv_P b D ca A H) (he : va_at D vwCl (b + A.1, pv_e b ca c) H1) (hz : H1.size = H.size + 1) (oq : ∀ q : Nat, q < H.size → H1[q]? = H[q]?) : pv_P b D ca (A.1 + 1, pv_up A.2 A.1 c) H1 := by
  refine ⟨by rw [hz, h.1]; rfl, fun k q hk => ?_⟩
  obtain ⟨hl, rfl⟩ := pv_w_some hk
  have hl : k < A.1 + 1 := hl
  by_cases e : k = A.1
  · subst e
    simpa [pv_up] using he
  · have hk2 : k < A.1 := by omega
    have h1 := h.2 k _ (pv_w_get hk2)
    have h2 := h1.kept (oq (b + k) (by rw [h.1]; omega))
    simpa [pv_up, e] using h2
theorem pv_P.lt {b : Nat} {D : va_G} {ca : Nat → ClassId} {A : pv_H} {H : Heap} (h : pv_P b D ca A H) {k : Nat} (hk : k < A.1) : b + k < H.size := by rw [h.1]; omega
/-- what the tables say of the state -/
def pv_K (D : va_G) (ca : Nat → ClassId) (U : State) : Prop := va_K D vwCl (pv_tys ca) U ∧ (∀ e ∈ pv_LN, va_Nw (pv_lk (pv_nw e)) U) ∧ (∀ e ∈ pv_LMN, ∀ z, pv_tab[e.2.2.2.1]? = some z → va_Nw (.methodLinkNest (pv_own e.1) e.2.1 (pv_nm z) "PoundCat") U) ∧ ∃ kA : Class, U.vm.classes[ca 2]? = some kA ∧ kA.kind = .array (ca 0) (.array .int)
theorem pv_kA {ca : Nat → ClassId} {u U : State} (hvm : u.vm.Alike U.vm) (h : ∃ kA : Class, u.vm.classes[ca 2]? = some kA ∧ kA.kind = .array (ca 0) (.array .int)) : ∃ kA : Class, U.vm.classes[ca 2]? = some kA ∧ kA.kind = .array (ca 0) (.array .int) := by
  obtain ⟨kA, h1, h2⟩ := h
  obtain ⟨k', hk', he⟩ := hvm.2.2 _ _ h1
  exact ⟨k', hk', by rw [he]; exact h2⟩
theorem pv_K.warm {D : va_G} {ca : Nat → ClassId} {s U : State} (hW : s.WarmedH U.vm) (h : pv_K D ca s) : pv_K D ca U := by
  refine ⟨va_K.moved hW.alike h.1, fun e he => ?_, fun e he z hz => (h.2.2.1 e he z hz).warmM hW, pv_kA hW.alike h.2.2.2⟩
  have h1 := h.2.1 e he
  have h2 := (pv_LN_ok e he).1
  unfold pv_nw at h1 h2 ⊢
  unfold pv_lk at h1 ⊢
  cases hq : vwCl[e.2.2.1]? with
  | none => rw [hq] at h2; exact absurd rfl h2
  | some q => rw [hq] at h1; exact h1.warmF hW
theorem pv_K.blind {D : va_G} {ca : Nat → ClassId} {U U' : State} (hv : U.vm = U'.vm) (h : pv_K D ca U) : pv_K D ca U' := by
  refine ⟨va_K.moved (by rw [hv]; exact Vm.Alike.refl _) h.1, fun e he => ?_, fun e he z hz => (h.2.2.1 e he z hz).same rfl hv, pv_kA (by rw [hv]; exact Vm.Alike.refl _) h.2.2.2⟩
  have h1 := h.2.1 e he
  have h2 := (pv_LN_ok e he).1
  unfold pv_nw at h1 h2 ⊢
  unfold pv_lk at h1 ⊢
  cases hq : vwCl[e.2.2.1]? with
  | none => rw [hq] at h2; exact absurd rfl h2
  | some q => rw [hq] at h1; exact h1.same rfl hv
/-- what is known within a method -/
def pv_cx (y : pv_Y) (p : Program) (s : State) (m : MethodId) (args : Array Value) (meth : Method) (c : Code) (D : va_G) (ca : Nat → ClassId) : Prop :=
  p.tables.exec = Jvm.exec ∧ c.code = pv_cd y ∧ c.maxLocals = pv_ml y ∧ meth.sig.returnType = pv_rt y ∧ meth.locks = false ∧ meth.name = (pv_nm y).name ∧ s.vm.findClass (pv_own (pv_cn y)) = some m.cls ∧ (∀ w ∈ pv_T, w.before args s = true) ∧ pv_K D ca s
def pv_room (y : pv_Y) : Room := { frames := pv_fr y, cells := pv_mc y, slots := pv_ms y, locals := pv_lc y }
/-- the classes of objects: their fields' words, types, names -/
def pv_clOk (q : vw_C) (ty : Nat → FieldType) : Prop := (∀ w ∈ u_ws q.1 q.2.1 q.2.2, w ∈ pv_T) ∧ (∀ k, k < q.2.2 → parseFieldDescriptor (q.2.1 k).2.2.1 = some (ty k)) ∧ (∀ a, a < q.2.2 → ∀ b, b < q.2.2 → a ≠ b → (q.2.1 a).2.1 ≠ (q.2.1 b).2.1) ∧ ∀ k, k < q.2.2 → (q.2.1 k).1 = q.1
def pv_lys (q : vw_C) (ps : List Nat) : Bool := decide (ps.map (fun i => lw_tbl[i]?) = (u_ws q.1 q.2.1 q.2.2).map some) && (u_ws q.1 q.2.1 q.2.2).all goodWord
theorem pv_lys_ok {q : vw_C} {ps : List Nat} (h : pv_lys q ps = true) : ∀ w ∈ u_ws q.1 q.2.1 q.2.2, w ∈ pv_T := by
  unfold pv_lys at h
  simp only [Bool.and_eq_true, decide_eq_true_eq] at h
  intro w hw
  have h1 : some w ∈ (u_ws q.1 q.2.1 q.2.2).map some := List.mem_map.mpr ⟨w, hw, rfl⟩
  rw [← h.1] at h1
  obtain ⟨i, -, hi⟩ := List.mem_map.mp h1
  exact pv_mem i hi (List.all_eq_true.mp h.2 w hw)
set_option maxRecDepth 100000 in
theorem pv_lyX1 : pv_clOk (RX1, TX1, 3) tyX1 := ⟨pv_lys_ok (ps := [199, 201, 203]) (by decide +kernel), tyX1_ok, nmX1, by decide +kernel⟩
set_option maxRecDepth 100000 in
theorem pv_lyX2 : pv_clOk (RX2, TX2, 6) tyX2 := ⟨pv_lys_ok (ps := [116, 118, 120, 122, 124, 126]) (by decide +kernel), tyX2_ok, nmX2, by decide +kernel⟩
set_option maxRecDepth 100000 in
theorem pv_lyX3 : pv_clOk (RX3, TX3, 3) tyX3 := ⟨pv_lys_ok (ps := [91, 93, 95]) (by decide +kernel), tyX3_ok, nmX3, by decide +kernel⟩
set_option maxRecDepth 100000 in
theorem pv_lyX4 : pv_clOk (RX4, TX4, 5) tyX4 := ⟨pv_lys_ok (ps := [221, 223, 225, 227, 229]) (by decide +kernel), tyX4_ok, nmX4, by decide +kernel⟩
set_option maxRecDepth 100000 in
theorem pv_lyX5 : pv_clOk (RX5, TX5, 14) tyX5 := ⟨pv_lys_ok (ps := [161, 163, 165, 167, 169, 171, 173, 175, 177, 179, 181, 183, 185, 187]) (by decide +kernel), tyX5_ok, nmX5, by decide +kernel⟩
set_option maxRecDepth 100000 in
theorem pv_lyX6 : pv_clOk (RX6, TX6, 6) tyX6 := ⟨pv_lys_ok (ps := [238, 240, 242, 244, 246, 248]) (by decide +kernel), tyX6_ok, nmX6, by decide +kernel⟩
set_option maxRecDepth 100000 in
theorem pv_lyX7 : pv_clOk (RX7, TX7, 29) tyX7 := ⟨pv_lys_ok (ps := [804, 806, 808, 810, 812, 814, 816, 818, 820, 822, 824, 826, 828, 830, 832, 834, 836, 838, 840, 842, 844, 846, 848, 850, 852, 854, 856, 858, 860]) (by decide +kernel), tyX7_ok, nmX7, by decide +kernel⟩
theorem pv_cl {ci : Nat} {q : vw_C} (h : vwCl[ci]? = some q) : pv_clOk q (pv_ty ci) := by
  match ci, h with
  | 0, h => cases h; exact pv_lyX1
  | 1, h => cases h; exact pv_lyX2
  | 2, h => cases h; exact pv_lyX3
  | 3, h => cases h; exact pv_lyX4
  | 4, h => cases h; exact pv_lyX5
  | 5, h => cases h; exact pv_lyX6
  | 6, h => cases h; exact pv_lyX7
  | n + 7, h => simp at h
