/-! ===== the engine's answer, whatever the fuel ===== -/
theorem pv_mono : ∀ (f : Nat) (y : pv_Y) (pc : Nat) (loc : pv_L) (st : List Value) (A : pv_H) (cu su : Nat) (x : Option Value × pv_H), pv_run f y pc loc st A cu su = some x → pv_run (f + 1) y pc loc st A cu su = some x
  | 0, y, pc, loc, st, A, cu, su, x, h => by cases h
  | f + 1, y, pc, loc, st, A, cu, su, x, h => by
    have IH := pv_mono f
    rw [pv_run] at h ⊢
    split at h
    · next i n hd =>
      split at h
      · exact h
      · split at h
        · next z As rest hi =>
          split at h
          · next r A' hr =>
            rw [IH _ _ _ _ _ _ _ _ hr]
            exact IH _ _ _ _ _ _ _ _ h
          · cases h
        · split at h
          · exact IH _ _ _ _ _ _ _ _ h
          · cases h
    · cases h
theorem pv_mono' {f g : Nat} (hfg : f ≤ g) {y : pv_Y} {pc : Nat} {loc : pv_L} {st : List Value} {A : pv_H} {cu su : Nat} {x : Option Value × pv_H} (h : pv_run f y pc loc st A cu su = some x) : pv_run g y pc loc st A cu su = some x := by
  induction hfg with
  | refl => exact h
  | step _ ih => exact pv_mono _ _ _ _ _ _ _ _ _ ih

noncomputable def pv_R (y : pv_Y) (pc : Nat) (loc : pv_L) (st : List Value) (A : pv_H) : Option (Option Value × pv_H) := @dite _ (∃ x f, pv_run f y pc loc st A 0 0 = some x) (Classical.propDecidable _) (fun h => some (Classical.choose h)) (fun _ => none)
theorem pv_R_iff {y : pv_Y} {pc : Nat} {loc : pv_L} {st : List Value} {A : pv_H} {x : Option Value × pv_H} : pv_R y pc loc st A = some x ↔ ∃ f, pv_run f y pc loc st A 0 0 = some x := by
  unfold pv_R
  constructor
  · intro h
    split at h
    · next hh => cases h; exact Classical.choose_spec hh
    · cases h
  · rintro ⟨f, hf⟩
    have hh : ∃ x f, pv_run f y pc loc st A 0 0 = some x := ⟨x, f, hf⟩
    rw [dif_pos hh]
    obtain ⟨g, hg⟩ := Classical.choose_spec hh
    have h1 := pv_mono' (Nat.le_max_left f g) hf
    have h2 := pv_mono' (Nat.le_max_right f g) hg
    exact h2.symm.trans h1
theorem pv_R_ext {y y' : pv_Y} {pc pc' : Nat} {loc loc' : pv_L} {st st' : List Value} {A A' : pv_H} (h : ∀ x, (∃ f, pv_run f y pc loc st A 0 0 = some x) ↔ ∃ f, pv_run f y' pc' loc' st' A' 0 0 = some x) : pv_R y pc loc st A = pv_R y' pc' loc' st' A' := by
  cases h1 : pv_R y pc loc st A with
  | some x => exact (pv_R_iff.mpr ((h x).mp (pv_R_iff.mp h1))).symm
  | none =>
    cases h2 : pv_R y' pc' loc' st' A' with
    | none => rfl
    | some x => rw [pv_R_iff.mpr ((h x).mpr (pv_R_iff.mp h2))] at h1; cases h1
section PV7
variable {y : pv_Y} {pc : Nat} {loc : pv_L} {st : List Value} {A : pv_H} {i : Instr} {n : Nat}
theorem pv_Rret {r : Option Value} (hd : decode (pv_cd y) pc = .ok (i, n)) (hr : pv_r y i n st = some r) : pv_R y pc loc st A = some (r, A) := by
  refine pv_R_iff.mpr ⟨1, ?_⟩
  rw [pv_run, hd]
  dsimp only
  rw [hr]
theorem pv_Rstp {pc' : Nat} {loc' : pv_L} {st' : List Value} {A' : pv_H} (hd : decode (pv_cd y) pc = .ok (i, n)) (hr : pv_r y i n st = none) (hi : pv_inv y i n st A 0 0 = none) (h : pv_stp y i n pc loc st A 0 0 = some (pc', loc', st', A', 0, 0)) : pv_R y pc loc st A = pv_R y pc' loc' st' A' := by
  refine pv_R_ext fun x => ⟨fun ⟨f, hf⟩ => ?_, fun ⟨f, hf⟩ => ⟨f + 1, ?_⟩⟩
  · match f, hf with
    | 0, hf => cases hf
    | f + 1, hf =>
      rw [pv_run, hd] at hf
      dsimp only at hf
      rw [hr, hi] at hf
      dsimp only at hf
      rw [h] at hf
      exact ⟨f, hf⟩
  · rw [pv_run, hd]
    dsimp only
    rw [hr, hi]
    dsimp only
    rw [h]
    exact hf
/-- what comes behind a call -/
noncomputable def pv_cc (o : Option (Option Value × pv_H)) (y : pv_Y) (pc : Nat) (loc : pv_L) (rest : List Value) : Option (Option Value × pv_H) := match o with
  | some (r, A') => pv_R y pc loc (r.toList ++ rest) A'
  | none => none
theorem pv_Rinv {z : pv_Y} {As rest : List Value} (hd : decode (pv_cd y) pc = .ok (i, n)) (hr : pv_r y i n st = none) (hi : pv_inv y i n st A 0 0 = some (z, As, rest)) (hz : pv_mc z = 0) (hs : pv_ms z = 0) : pv_R y pc loc st A = pv_cc (pv_R z 0 (pv_ent As (pv_ml z)) [] A) y (pc + 3) loc rest := by
  cases h1 : pv_R z 0 (pv_ent As (pv_ml z)) [] A with
  | none =>
    show _ = none
    cases h2 : pv_R y pc loc st A with
    | none => rfl
    | some x =>
      obtain ⟨f, hf⟩ := pv_R_iff.mp h2
      match f, hf with
      | 0, hf => cases hf
      | f + 1, hf =>
        rw [pv_run, hd] at hf
        dsimp only at hf
        rw [hr, hi] at hf
        dsimp only at hf
        split at hf
        · next r A' h3 => rw [pv_R_iff.mpr ⟨f, h3⟩] at h1; cases h1
        · cases hf
  | some x =>
    obtain ⟨r, A'⟩ := x
    show _ = pv_R y (pc + 3) loc (r.toList ++ rest) A'
    obtain ⟨g, hg⟩ := pv_R_iff.mp h1
    refine pv_R_ext fun x => ⟨fun ⟨f, hf⟩ => ?_, fun ⟨f, hf⟩ => ⟨max f g + 1, ?_⟩⟩
    · match f, hf with
      | 0, hf => cases hf
      | f + 1, hf =>
        rw [pv_run, hd] at hf
        dsimp only at hf
        rw [hr, hi] at hf
        dsimp only at hf
        split at hf
        · next r1 A1 h3 =>
          have e1 := pv_R_iff.mpr ⟨f, h3⟩
          rw [h1] at e1
          cases e1
          rw [hz, hs] at hf
          exact ⟨f, hf⟩
        · cases hf
    · rw [pv_run, hd]
      dsimp only
      rw [hr, hi]
      dsimp only
      rw [pv_mono' (Nat.le_max_right f g) hg]
      dsimp only
      rw [hz, hs]
      exact pv_mono' (Nat.le_max_left f g) hf
end PV7
