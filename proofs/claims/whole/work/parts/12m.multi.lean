/-! ===== new int[n][k] over the machine ===== -/
section PV5
variable {p : Program} {l : Launch} {e : Env} {s : State} {m : MethodId} {args : Array Value} {below : List Frame} {meth : Method} {c : Code} {H : Heap} {locs : List Loc} {Q : State → Prop}
variable {pc : Nat} {ls : Array Slot} {b : Nat} {y : pv_Y} {D : va_G} {ca : Nat → ClassId} {A : pv_H} {H0 : Heap}
theorem pv_h3_ok (X : pv_cx y p s m args meth c D ca) (hP : pv_P b D ca A H) (hS : va_S (pv_A b) H0 H locs) {i : Instr} {n cu su cu' su' : Nat} {st st' : List Value} {A' : pv_H} (hd : decode (pv_cd y) pc = .ok (i, n)) (h : pv_h3 y i n st A cu su = some (st', A', cu', su'))
    (kk : ∀ (H1 : Heap) (locs1 : List Loc), pv_P b D ca A' H1 → va_S (pv_A b) H0 H1 locs1 → W p l e (pv_room y) s m args below meth c H1 locs1 cu' su' Q (F0 m (pc + n) ls (st'.map (pv_t b)))) : W p l e (pv_room y) s m args below meth c H locs cu su Q (F0 m pc ls (st.map (pv_t b))) := by
  sorry
theorem pv_h2_cu {y : pv_Y} {i : Instr} {n cu su cu' su' : Nat} {st st' : List Value} {A A' : pv_H} (h : pv_h2 y i n st A cu su = some (st', A', cu', su')) (hcu : cu ≤ pv_mc y) (hsu : su ≤ pv_ms y) : cu' ≤ pv_mc y ∧ su' ≤ pv_ms y := by
  unfold pv_h2 at h
  split at h
  · split at h
    · split at h
      · split at h
        · next hr => cases h; exact hr
        · cases h
      · cases h
    · cases h
  · split at h
    · cases h
    · next hc => cases h; exact ⟨Classical.byContradiction fun q => hc (Or.inr (Or.inr (Or.inl q))), Classical.byContradiction fun q => hc (Or.inr (Or.inr (Or.inr q)))⟩
  · split at h
    · cases h
    · next hc => cases h; exact ⟨Classical.byContradiction fun q => hc (Or.inr (Or.inr (Or.inl q))), Classical.byContradiction fun q => hc (Or.inr (Or.inr (Or.inr q)))⟩
  · split at h
    · split at h
      · cases h; exact ⟨hcu, hsu⟩
      · cases h
    · cases h
  · split at h
    · split at h
      · split at h
        · cases h
        · cases h; exact ⟨hcu, hsu⟩
      · cases h
    · cases h
  · cases h
theorem pv_h3_cu {y : pv_Y} {i : Instr} {n cu su cu' su' : Nat} {st st' : List Value} {A A' : pv_H} (h : pv_h3 y i n st A cu su = some (st', A', cu', su')) : cu' ≤ pv_mc y ∧ su' ≤ pv_ms y := by
  unfold pv_h3 at h
  split at h
  · split at h
    · next hc => cases h; exact ⟨hc.2.2.2.2.2.1, hc.2.2.2.2.2.2⟩
    · cases h
  · cases h
set_option maxHeartbeats 1000000 in
theorem pv_mx_ok (X : pv_cx y p s m args meth c D ca) {i : Instr} {n cu su : Nat} {st st' : List Value} (hls : ls.size = pv_ml y) (hd : decode (pv_cd y) pc = .ok (i, n)) (h : pv_mx y i n st = some st') (hcu : cu ≤ pv_mc y) (hsu : su ≤ pv_ms y)
    (k : W p l e (pv_room y) s m args below meth c H locs cu su Q (F0 m (pc + n) ls (st'.map (pv_t b)))) : W p l e (pv_room y) s m args below meth c H locs cu su Q (F0 m pc ls (st.map (pv_t b))) := by
  obtain ⟨hx, hb, hml, hr, hlk, hnm, hown, hts, hK⟩ := X
  unfold pv_mx at h
  split at h
  · split at h
    · next x v st0 e0 he =>
      have hm := List.mem_of_find?_eq_some he
      have hp := List.find?_some he
      simp only [Bool.and_eq_true, beq_iff_eq] at hp
      have hw := pv_LX_ok e0 hm
      rw [hp.1, hp.2] at hw
      have hw := hts _ (pv_mem _ hw rfl)
      split at h
      · next hroom =>
        obtain ⟨hf, hlc⟩ := hroom
        split at h
        · next a st1 h0 =>
          cases h
          rw [h0] at hw
          exact va_mmax hx hb (hml.trans hls.symm) hown hw (hts _ (pv_mem _ pv_xs.1 rfl)) (hts _ (pv_mem _ pv_xs.2.2.2 rfl)) (hts _ (pv_mem _ pv_xc.1 rfl)) hf (by rw [pv_sum_t]; exact Nat.le_trans (by unfold pv_sum; simp) hlc) hcu hsu hd k
        · next a st1 h0 =>
          cases h
          rw [h0] at hw
          exact va_mmin hx hb (hml.trans hls.symm) hown hw (hts _ (pv_mem _ pv_xs.2.1 rfl)) (hts _ (pv_mem _ pv_xs.2.2.2 rfl)) (hts _ (pv_mem _ pv_xc.2.1 rfl)) hf (by rw [pv_sum_t]; exact Nat.le_trans (by unfold pv_sum; simp) hlc) hcu hsu hd k
        · next h0 =>
          cases h
          rw [h0] at hw
          exact va_mabs hx hb (hml.trans hls.symm) hown hw (hts _ (pv_mem _ pv_xs.2.2.1 rfl)) (hts _ (pv_mem _ pv_xs.2.2.2 rfl)) (hts _ (pv_mem _ pv_xc.2.2 rfl)) hf (by rw [pv_sum_t]; exact hlc) hcu hsu hd k
        · cases h
      · cases h
    · cases h
  · cases h
end PV5
