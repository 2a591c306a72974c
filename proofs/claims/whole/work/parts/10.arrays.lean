/-! ===== arrays, constants, what is made, Object's constructor, arraycopy ===== -/
/-- reads and writes of cells -/
def pv_h1 (y : pv_Y) (i : Instr) (n : Nat) (st : List Value) (A : pv_H) : Option (List Value × pv_H) :=
  match i, n, st with
  | .getfield x, 3, .ref a :: st => match pv_get (pv_cn y) x a A with
    | some v => some (v :: st, A)
    | none => none
  | .putfield x, 3, v :: .ref a :: st => match pv_put y x v a A with
    | some A' => some (st, A')
    | none => none
  | .iaload, 1, .int j :: .ref a :: st => if a < A.1 then match A.2 a with
      | .inl (0, N, .inl f) => if j < 0 ∨ N ≤ j.toNatClampNeg then none else some (.int (f j.toNatClampNeg) :: st, A)
      | _ => none
    else none
  | .baload, 1, .int j :: .ref a :: st => if a < A.1 then match A.2 a with
      | .inl (1, N, .inl f) => if j < 0 ∨ N ≤ j.toNatClampNeg then none else some (.int (f j.toNatClampNeg) :: st, A)
      | _ => none
    else none
  | .aaload, 1, .int j :: .ref a :: st => if a < A.1 then match A.2 a with
      | .inl (2, N, .inr F) => if j < 0 ∨ N ≤ j.toNatClampNeg then none else some (.ref (F + j.toNatClampNeg) :: st, A)
      | _ => none
    else none
  | .iastore, 1, .int v :: .int j :: .ref a :: st => if a < A.1 then match A.2 a with
      | .inl (0, N, .inl f) => if j < 0 ∨ N ≤ j.toNatClampNeg then none else some (st, (A.1, pv_up A.2 a (.inl (0, N, .inl (upd f j.toNatClampNeg v)))))
      | _ => none
    else none
  | .bastore, 1, .int v :: .int j :: .ref a :: st => if a < A.1 then match A.2 a with
      | .inl (1, N, .inl f) => if j < 0 ∨ N ≤ j.toNatClampNeg then none else some (st, (A.1, pv_up A.2 a (.inl (1, N, .inl (upd f j.toNatClampNeg (vp_nar .boolean v))))))
      | _ => none
    else none
  | .arraylength, 1, .ref a :: st => if a < A.1 then match A.2 a with
      | .inl (0, N, .inl _) => some (.int (Int32.ofNat N) :: st, A)
      | _ => none
    else none
  | .ldc x, 2, st => match pv_LC.find? (fun e => e.1 == pv_cn y && e.2.1 == x) with
    | some e => some (.int e.2.2.1 :: st, A)
    | none => none
  | .ldc_w x, 3, st => match pv_LC.find? (fun e => e.1 == pv_cn y && e.2.1 == x) with
    | some e => some (.int e.2.2.1 :: st, A)
    | none => none
  | .ldc2_w x, 3, st => match pv_LJ.find? (fun e => e.1 == pv_cn y && e.2.1 == x) with
    | some e => some (.long e.2.2.1 :: st, A)
    | none => none
  | _, _, _ => none
section PV3
variable {p : Program} {l : Launch} {e : Env} {R : Room} {s : State} {m : MethodId} {args : Array Value} {below : List Frame} {meth : Method} {c : Code} {H : Heap} {locs : List Loc} {cells slots : Nat} {Q : State → Prop}
variable {pc : Nat} {ls : Array Slot} {b : Nat} {y : pv_Y} {D : va_G} {ca : Nat → ClassId} {A : pv_H} {H0 : Heap}
theorem pv_ty0 {ca : Nat → ClassId} : (pv_tys ca)[0]? = some (ca 0, .int) := rfl
theorem pv_ty1 {ca : Nat → ClassId} : (pv_tys ca)[1]? = some (ca 1, .boolean) := rfl
theorem pv_ty2 {ca : Nat → ClassId} : (pv_tys ca)[2]? = some (ca 2, .array .int) := rfl
theorem pv_wi {b : Nat} {ca : Nat → ClassId} {A : pv_H} {a t N : Nat} {f : Nat → Int32} (ha : a < A.1) (hA : A.2 a = .inl (t, N, .inl f)) : (pv_w b ca A)[a]? = some (b + a, .inl (ca t, N, .inl f)) := by rw [pv_w_get ha, hA]; rfl
theorem pv_wq {b : Nat} {ca : Nat → ClassId} {A : pv_H} {a t N F : Nat} (ha : a < A.1) (hA : A.2 a = .inl (t, N, .inr F)) : (pv_w b ca A)[a]? = some (b + a, .inl (ca t, N, .inr (.inr (.inr (.inr (fun i => if i < N then some (b + (F + i)) else none)))))) := by rw [pv_w_get ha, hA]; rfl
theorem pv_updc {cA : ClassId} {N : Nat} {f : Nat → Int32} {j : Nat} {v : Int32} {w : Value} (hw : w = .int v) : (vp_cell cA (N, .inl f)).setSlot j w = vp_cell cA (N, .inl (upd f j v)) := by
  subst hw
  rw [vp_cell_i, vp_cell_i, arrV_store]
  congr 2
  funext q
  by_cases hq : q = j
  · subst hq
    simp [updV, upd]
  · simp [updV, upd, hq]
theorem pv_nb (x : Int32) : narrow .boolean (.int x) = .int (vp_nar .boolean x) := rfl
set_option maxHeartbeats 4000000 in
theorem pv_h1_ok (X : pv_cx y p s m args meth c D ca) (hP : pv_P b D ca A H) (hS : va_S (pv_A b) H0 H locs) {i : Instr} {n : Nat} {st st' : List Value} {A' : pv_H} (hd : decode (pv_cd y) pc = .ok (i, n)) (h : pv_h1 y i n st A = some (st', A'))
    (kk : ∀ (H1 : Heap) (locs1 : List Loc), pv_P b D ca A' H1 → va_S (pv_A b) H0 H1 locs1 → W p l e R s m args below meth c H1 locs1 cells slots Q (F0 m (pc + n) ls (st'.map (pv_t b)))) : W p l e R s m args below meth c H locs cells slots Q (F0 m pc ls (st.map (pv_t b))) := by
  have X0 := X
  obtain ⟨hx, hb, hml, hr, hlk, hnm, hown, hts, hK⟩ := X0
  unfold pv_h1 at h
  split at h
  · split at h
    · next hv => cases h; exact pv_get_ok X hP hd hv (kk H locs hP hS)
    · cases h
  · split at h
    · next hv => cases h; exact pv_put_ok X hP hS hd hv kk
    · cases h
  · split at h
    · next ha =>
      split at h
      · next N f hA =>
        split at h
        · cases h
        · next hin => cases h; exact va_iald hx hb hK.1 hP.2 _ 0 (pv_wi ha hA) pv_ty0 hin hd (kk H locs hP hS)
      · cases h
    · cases h
  · split at h
    · next ha =>
      split at h
      · next N f hA =>
        split at h
        · cases h
        · next hin => cases h; exact va_zald hx hb hK.1 hP.2 _ 1 (pv_wi ha hA) pv_ty1 hin hd (kk H locs hP hS)
      · cases h
    · cases h
  · split at h
    · next j a st0 ha =>
      split at h
      · next N F hA =>
        split at h
        · cases h
        · next hin =>
          cases h
          have hlt : j.toNatClampNeg < N := Nat.not_le.mp fun q => hin (Or.inr q)
          refine W.aald (v := .ref (b + (F + j.toNatClampNeg))) (ty := .array .int) hx hb (hP.2 a _ (pv_wq ha hA)) ((hK.1.2 2 _ pv_ty2).1 N (fun j => va_rf (if j < N then some (b + (F + j)) else none))) rfl (fun q => by cases q) (by show ¬ (j < 0 ∨ (arrV _ _ _).slots.size ≤ _); rw [arrV_size]; exact hin) ?_ rfl rfl hd (kk H locs hP hS)
          show (arrV _ _ _).slots[_]? = _
          rw [arrV_read _ _ hlt]
          dsimp only
          rw [if_pos hlt]
          rfl
      · cases h
    · cases h
  · split at h
    · next v j a st0 ha =>
      split at h
      · next N f hA =>
        split at h
        · cases h
        · next hin =>
          cases h
          refine W.iast hx hb (hP.2 a _ (pv_wi ha hA)) ((hK.1.2 0 _ pv_ty0).1 N (fun j => .int (f j))) (fun q => by cases q) (by show ¬ (j < 0 ∨ (arrV _ _ _).slots.size ≤ _); rw [arrV_size]; exact hin) rfl rfl hd fun H1 e1 z1 oq => ?_
          refine kk H1 _ (hP.set ha ?_ z1 oq) (hS.put z1 oq (Nat.le_add_right b a))
          show H1[b + a]? = some (vp_cell _ _)
          rw [e1]
          exact congrArg some (pv_updc rfl)
      · cases h
    · cases h
  · split at h
    · next v j a st0 ha =>
      split at h
      · next N f hA =>
        split at h
        · cases h
        · next hin =>
          cases h
          refine W.zast hx hb (hP.2 a _ (pv_wi ha hA)) ((hK.1.2 1 _ pv_ty1).1 N (fun j => .int (f j))) (fun q => by cases q) (by show ¬ (j < 0 ∨ (arrV _ _ _).slots.size ≤ _); rw [arrV_size]; exact hin) rfl rfl hd fun H1 e1 z1 oq => ?_
          refine kk H1 _ (hP.set ha ?_ z1 oq) (hS.put z1 oq (Nat.le_add_right b a))
          show H1[b + a]? = some (vp_cell _ _)
          rw [e1]
          exact congrArg some (pv_updc (pv_nb v))
      · cases h
    · cases h
  · split at h
    · next ha =>
      split at h
      · next N f hA => cases h; exact va_alen hx hb hK.1 hP.2 _ 0 (pv_wi ha hA) pv_ty0 rfl hd (kk H locs hP hS)
      · cases h
    · cases h
  · split at h
    · next e0 he =>
      cases h
      have hm := List.mem_of_find?_eq_some he
      have hp := List.find?_some he
      simp only [Bool.and_eq_true, beq_iff_eq] at hp
      have h1 := hts _ (pv_mem _ (pv_LC_ok e0 hm) rfl)
      rw [hp.1, hp.2] at h1
      exact lv_ldc hx hb hown h1 hd (kk H locs hP hS)
    · cases h
  · split at h
    · next e0 he =>
      cases h
      have hm := List.mem_of_find?_eq_some he
      have hp := List.find?_some he
      simp only [Bool.and_eq_true, beq_iff_eq] at hp
      have h1 := hts _ (pv_mem _ (pv_LC_ok e0 hm) rfl)
      rw [hp.1, hp.2] at h1
      exact lv_ldcw hx hb hown h1 hd (kk H locs hP hS)
    · cases h
  · split at h
    · next e0 he =>
      cases h
      have hm := List.mem_of_find?_eq_some he
      have hp := List.find?_some he
      simp only [Bool.and_eq_true, beq_iff_eq] at hp
      have h1 := hts _ (pv_mem _ (pv_LJ_ok e0 hm) rfl)
      rw [hp.1, hp.2] at h1
      exact lv_ldc2 hx hb hown h1 hd (kk H locs hP hS)
    · cases h
  · cases h
end PV3
