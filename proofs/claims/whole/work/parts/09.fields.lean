/-! ===== fields ===== -/
def pv_ff (own idx : Nat) : Option (Nat × Nat × Bool) :=
  match pv_LF.find? (fun e => e.1 == own && e.2.1 == idx) with
  | some e => some (e.2.2.1, e.2.2.2.1, false)
  | none => match pv_LN.find? (fun e => e.1 == own && e.2.1 == idx) with
    | some e => some (e.2.2.1, e.2.2.2.1, true)
    | none => none
def pv_kOk (e : Nat × Nat × Nat × Nat × Nat) : Bool := match vwCl[e.2.2.1]? with
  | some q => decide (e.2.2.2.1 < q.2.2)
  | none => false
theorem pv_LF_k : ∀ e ∈ pv_LF, pv_kOk e = true := by decide +kernel
theorem pv_LN_k : ∀ e ∈ pv_LN, pv_kOk e = true := by decide +kernel
/-- what a field's link says -/
def pv_fl (own idx ci k : Nat) (nest : Bool) (q : vw_C) (args : Array Value) (s : State) : Prop := vwCl[ci]? = some q ∧ k < q.2.2 ∧ (if nest then (Cond.fieldLinkNest (pv_own own) idx q.1 (q.2.1 k).2.1 (q.2.1 k).2.2.1 "PoundCat").before args s = true else (Cond.fieldLink (pv_own own) idx q.1 (q.2.1 k).2.1 (q.2.1 k).2.2.1).before args s = true)
theorem pv_ff_ok {own idx ci k : Nat} {nest : Bool} {D : va_G} {ca : Nat → ClassId} {args : Array Value} {s : State} (h : pv_ff own idx = some (ci, k, nest)) (hts : ∀ w ∈ pv_T, w.before args s = true) (hK : pv_K D ca s) : ∃ q, pv_fl own idx ci k nest q args s := by
  unfold pv_ff at h
  split at h
  · next e he =>
    cases h
    have hm := List.mem_of_find?_eq_some he
    have hp := List.find?_some he
    simp only [Bool.and_eq_true, beq_iff_eq] at hp
    obtain ⟨rfl, rfl⟩ := hp
    obtain ⟨h1, h2⟩ := pv_LF_ok e hm
    have h3 := pv_LF_k e hm
    unfold pv_kOk at h3
    unfold pv_fw at h1 h2
    cases hq : vwCl[e.2.2.1]? with
    | none => rw [hq] at h1; exact absurd rfl h1
    | some q =>
      rw [hq] at h2 h3
      exact ⟨q, hq, by simpa using h3, hts _ (pv_mem _ h2 rfl)⟩
  · split at h
    · next e he =>
      cases h
      have hm := List.mem_of_find?_eq_some he
      have hp := List.find?_some he
      simp only [Bool.and_eq_true, beq_iff_eq] at hp
      obtain ⟨rfl, rfl⟩ := hp
      have h1 := hK.2.1 e hm
      have h3 := pv_LN_k e hm
      unfold pv_kOk at h3
      unfold pv_nw at h1
      unfold pv_lk at h1
      cases hq : vwCl[e.2.2.1]? with
      | none => rw [hq] at h3; cases h3
      | some q =>
        rw [hq] at h1 h3
        exact ⟨q, hq, by simpa using h3, h1.use rfl⟩
    · cases h
def pv_fit (ty : FieldType) (v : Value) : Bool := match ty, v with
  | .int, .int _ => true
  | .long, .long _ => true
  | .array _, .ref _ => true
  | .object _, .ref _ => true
  | _, _ => false
theorem pv_fit_ok {ty : FieldType} {v : Value} (b : Nat) (h : pv_fit ty v = true) : narrow ty (pv_t b v) = pv_t b v ∧ fits ty (pv_t b v) = true := by
  unfold pv_fit at h
  split at h
  all_goals first | exact ⟨rfl, rfl⟩ | cases h
def pv_get (own idx : Nat) (a : Nat) (A : pv_H) : Option Value :=
  match pv_ff own idx with
  | some (ci, k, _) => if a < A.1 then match A.2 a with
      | .inr (c, fs) => if c = ci then fs[k]? else none
      | _ => none
    else none
  | none => none
def pv_put (y : pv_Y) (idx : Nat) (v : Value) (a : Nat) (A : pv_H) : Option pv_H :=
  match pv_ff (pv_cn y) idx with
  | some (ci, k, nest) => match vwCl[ci]? with
    | some q => if a < A.1 ∧ pv_fit (pv_ty ci k) v = true then match A.2 a with
        | .inr (c, fs) => if c = ci ∧ k < fs.length ∧ ((q.2.1 k).2.2.2 = false ∨ (nest = false ∧ (pv_nm y).name = "<init>" ∧ q.1 = pv_own (pv_cn y))) then some (A.1, pv_up A.2 a (.inr (c, fs.set k v))) else none
        | _ => none
      else none
    | none => none
  | none => none
section PV2
variable {p : Program} {l : Launch} {e : Env} {R : Room} {s : State} {m : MethodId} {args : Array Value} {below : List Frame} {meth : Method} {c : Code} {H : Heap} {locs : List Loc} {cells slots : Nat} {Q : State → Prop}
variable {pc : Nat} {ls : Array Slot} {b : Nat} {y : pv_Y} {D : va_G} {ca : Nat → ClassId} {A : pv_H} {H0 : Heap} {rest : List Value}
set_option maxHeartbeats 1000000 in
theorem pv_get_ok (X : pv_cx y p s m args meth c D ca) (hP : pv_P b D ca A H) {idx a : Nat} {v : Value} (hd : decode (pv_cd y) pc = .ok (.getfield idx, 3)) (h : pv_get (pv_cn y) idx a A = some v)
    (k : W p l e R s m args below meth c H locs cells slots Q (F0 m (pc + 3) ls (pv_t b v :: rest))) : W p l e R s m args below meth c H locs cells slots Q (F0 m pc ls (.ref (b + a) :: rest)) := by
  obtain ⟨hx, hb, hml, hr, hlk, hnm, hown, hts, hK⟩ := X
  unfold pv_get at h
  split at h
  · next ci kf nest hff =>
    obtain ⟨q, hq, hkN, hl⟩ := pv_ff_ok hff hts hK
    obtain ⟨hin, hty, hnn, hsm⟩ := pv_cl hq
    split at h
    · next ha =>
      split at h
      · next c' fs hA =>
        split at h
        · next hc =>
          subst hc
          have he : (pv_w b ca A)[a]? = some (b + a, .inr (c', fs.map (pv_t b))) := by rw [pv_w_get ha, hA]; rfl
          have hv : (fs.map (pv_t b))[kf]? = some (pv_t b v) := by rw [List.getElem?_map, h]; rfl
          obtain ⟨C, T, N⟩ := q
          cases nest
          · exact va_get hx hb hts hin hown hK.1 hP.2 a he hq kf hkN hl (fun x hxx => by have e1 : (T kf).1 = C := hsm kf hkN; rw [← e1]; exact hxx) hv hd k
          · exact va_getN hx hb hts hin hown hK.1 hP.2 a he hq kf hkN hl (fun x hxx => by have e1 : (T kf).1 = C := hsm kf hkN; rw [← e1]; exact hxx) hv hd k
        · cases h
      · cases h
    · cases h
  · cases h
set_option maxHeartbeats 1000000 in
theorem pv_put_ok (X : pv_cx y p s m args meth c D ca) (hP : pv_P b D ca A H) (hS : va_S (pv_A b) H0 H locs) {idx a : Nat} {v : Value} {A' : pv_H} (hd : decode (pv_cd y) pc = .ok (.putfield idx, 3)) (h : pv_put y idx v a A = some A')
    (kk : ∀ (H1 : Heap) (locs1 : List Loc), pv_P b D ca A' H1 → va_S (pv_A b) H0 H1 locs1 → W p l e R s m args below meth c H1 locs1 cells slots Q (F0 m (pc + 3) ls rest)) : W p l e R s m args below meth c H locs cells slots Q (F0 m pc ls (pv_t b v :: .ref (b + a) :: rest)) := by
  obtain ⟨hx, hb, hml, hr, hlk, hnm, hown, hts, hK⟩ := X
  unfold pv_put at h
  split at h
  · next ci kf nest hff =>
    obtain ⟨q, hq, hkN, hl⟩ := pv_ff_ok hff hts hK
    rw [hq] at h
    obtain ⟨hin, hty, hnn, hsm⟩ := pv_cl hq
    dsimp only at h
    split at h
    · next ha =>
      obtain ⟨ha, hft⟩ := ha
      obtain ⟨hnar, hfit⟩ := pv_fit_ok b hft
      split at h
      · next c' fs hA =>
        split at h
        · next hc =>
          obtain ⟨hc, hlen, hfin⟩ := hc
          subst hc
          cases h
          have he : (pv_w b ca A)[a]? = some (b + a, .inr (c', fs.map (pv_t b))) := by rw [pv_w_get ha, hA]; rfl
          obtain ⟨C, T, N⟩ := q
          have hap := va_apart (own := pv_own (pv_cn y)) hts hin (pv_ty c') hty hnn hK.1 hq
          obtain ⟨r, h1, cell, q1, q2, q3, q4⟩ := hP.2 a _ he
          have hr' : r = (C, T, N) := Option.some.inj (h1.symm.trans hq)
          subst hr'
          obtain ⟨hSl, hfc, kC, hkC, hkind⟩ := hK.1.1 c' _ hq
          obtain ⟨cf, kfc, fi, f, hi, hsl⟩ := hSl kf hkN
          have hlay := hts _ (hin _ (u_in_lay hkN))
          have hst := (u_facts hfc hkC (u_lays hts hin hkN) hi).1
          have hsame : s.fieldFound? C (T kf).2.1 (T kf).2.2.1 = some (cf, kfc, fi, f) := by
            have e1 : (T kf).1 = C := hsm kf hkN
            have h9 := hi
            rw [e1] at h9
            exact h9
          have hend : ∀ H' : Heap, H'[b + a]? = some (cell.setSlot f.slot (pv_t b v)) → H'.size = H.size → (∀ q, q ≠ b + a → H'[q]? = H[q]?) → W p l e R s m args below meth c H' (locs ++ [⟨b + a, f.slot⟩]) cells slots Q (F0 m (pc + 3) ls rest) := by
            intro H' e1 e2 e3
            rw [hsl] at e1 ⊢
            refine kk H' _ (hP.set ha ⟨_, hq, ?_⟩ e2 e3) (hS.put e2 e3 (Nat.le_add_right b a))
            have h9 := t_OB.to (V := updV (vp_V (fs.map (pv_t b))) kf (pv_t b v)) (V' := vp_V ((fs.map (pv_t b)).set kf (pv_t b v))) ⟨_, e1, q2, q3, t_set q4 hap hkN (pv_t b v)⟩ (fun j _ => vp_updV_set (by rw [List.length_map]; exact hlen) (pv_t b v) j)
            rw [← List.map_set] at h9
            exact h9
          by_cases hf : (T kf).2.2.2 = true
          · rcases hfin with hfin | ⟨hne, hini, hdc⟩
            · have hfin' : (T kf).2.2.2 = false := hfin
              rw [hf] at hfin'; cases hfin'
            · subst hne
              unfold u_lay at hlay
              have hf' : (T kf).2.2.2 = true := hf
              rw [if_pos hf'] at hlay
              have hcf : m.cls = cf := by
                obtain ⟨_, _, c9, _, _, _, -, -, hf9, -, -, -, hown2, -⟩ := Cond.laysFinal_spec hlay
                have e1 : c9 = cf := by have := hi.symm.trans hf9; simp at this; exact this.1.symm
                have e2 : (T kf).1 = pv_own (pv_cn y) := (hsm kf hkN).trans hdc
                rw [e2] at hown2
                rw [← e1]; exact Option.some.inj (hown.symm.trans hown2)
              have h6 := u_fits hfc hkC hkind (Or.inr hlay) hi (hty kf hkN) hnar hfit
              exact W.putFinK hx hb hown hl hsame hst hcf (by rw [hnm]; exact hini) (by rw [q2]; exact h6) q1 q3 (by rw [hsl]; exact k2_hasslot (q4 kf hkN)) rfl rfl hd hend
          · unfold u_lay at hlay
            have hf' : ¬ (T kf).2.2.2 = true := hf
            rw [if_neg hf'] at hlay
            have h6 := u_store hfc hkC hkind hlay hi (hty kf hkN) hnar hfit
            cases nest
            · exact W.putK hx hb (f := f) ⟨hown, hl, ⟨_, _, _, hsame⟩, hst⟩ (by rw [q2]; exact h6) q1 q3 (by rw [hsl]; exact k2_hasslot (q4 kf hkN)) rfl rfl hd hend
            · exact va_WputK hx hb (f := f) hown hl hsame hst (by rw [q2]; exact h6) q1 q3 (by rw [hsl]; exact k2_hasslot (q4 kf hkN)) rfl rfl hd hend
        · cases h
      · cases h
    · cases h
  · cases h
end PV2
