/-! ===== the law's beginning ===== -/
theorem lw_aoS {args : Array Value} {s : State} (h : (Cond.arrayOver (.array .int)).before args s = true) : ∃ (comp c2 : ClassId) (k2 : Class), s.vm.findClass "[I" = some comp ∧ s.vm.classes[c2]? = some k2 ∧ k2.kind = .array comp (.array .int) ∧ s.vm.findClass "[[I" = some c2 := by
  have h1 : (Cond.arrayOver (.array .int)).holds args s none s [] = true := h
  simp only [Cond.holds, Cond.value, beq_iff_eq] at h1
  cases hc : s.vm.findClass (FieldType.array .int).toString with
  | none => simp [hc] at h1
  | some comp =>
    simp only [hc, Option.bind_some, Option.bind_eq_some_iff, Option.map_eq_some_iff] at h1
    obtain ⟨c2, hi, k2, hk2, hq⟩ := h1
    obtain ⟨hlt, hp, -⟩ := Array.findIdx?_eq_some_iff_getElem.mp hi
    rw [(Array.getElem?_eq_some_iff.mp hk2).2] at hp
    cases hkind : k2.kind with
    | array component ty =>
      rw [hkind] at hq hp
      simp at hq hp
      exact ⟨comp, c2, k2, hc, hk2, by rw [hkind, hp, hq.1], hq.2⟩
    | _ => rw [hkind] at hq; simp at hq
set_option maxRecDepth 100000 in
theorem lw_ao : lw_tbl[86]? = some (.arrayOver (.array .int)) ∧ lw_tbl[72]? = some (.instantiable RX6 6) ∧ lw_tbl[80]? = some (.instantiable RX3 3) ∧ lw_tbl[100]? = some (.instantiable RX2 6) ∧ lw_tbl[130]? = some (.instantiable RX5 14) ∧ lw_tbl[191]? = some (.instantiable RX1 3) ∧ lw_tbl[207]? = some (.instantiable RX4 5) ∧ lw_tbl[770]? = some (.instantiable RX7 29) := by decide +kernel
set_option maxRecDepth 100000 in
theorem lw_lw : lw_tbl[71]? = some (.classLink R_law 7 RX6) ∧ lw_tbl[61]? = some (.initialized RX6) ∧ lw_tbl[769]? = some (.classLink R_law 10 RX7) ∧ lw_tbl[67]? = some (.initialized RX7) := by decide +kernel
theorem lw_known {args : Array Value} {s : State} (hts : ∀ w ∈ lw_tbl, w.before args s = true) : ∃ (D : va_G) (ca : Nat → ClassId), pv_K D ca s := by
  have hT : ∀ w ∈ pv_T, w.before args s = true := fun w hw => hts w (lw_T w hw)
  have W1 : ∀ {q : Nat} {w : Cond}, lw_tbl[q]? = some w → w.before args s = true := fun h => hts _ (List.mem_of_getElem? h)
  obtain ⟨c0, i0, k0⟩ := u_known (C := RX1) (T := TX1) (N := 3) hT pv_lyX1.1 (W1 lw_ao.2.2.2.2.2.1)
  obtain ⟨c1, i1, k1⟩ := u_known (C := RX2) (T := TX2) (N := 6) hT pv_lyX2.1 (W1 lw_ao.2.2.2.1)
  obtain ⟨c2, i2, k2⟩ := u_known (C := RX3) (T := TX3) (N := 3) hT pv_lyX3.1 (W1 lw_ao.2.2.1)
  obtain ⟨c3, i3, k3⟩ := u_known (C := RX4) (T := TX4) (N := 5) hT pv_lyX4.1 (W1 lw_ao.2.2.2.2.2.2.1)
  obtain ⟨c4, i4, k4⟩ := u_known (C := RX5) (T := TX5) (N := 14) hT pv_lyX5.1 (W1 lw_ao.2.2.2.2.1)
  obtain ⟨c5, i5, k5⟩ := u_known (C := RX6) (T := TX6) (N := 6) hT pv_lyX6.1 (W1 lw_ao.2.1)
  obtain ⟨c6, i6, k6⟩ := u_known (C := RX7) (T := TX7) (N := 29) hT pv_lyX7.1 (W1 lw_ao.2.2.2.2.2.2.2)
  obtain ⟨cI, kI, mI, fI, hkI, hkkI⟩ := Cond.arrayClass_spec (W1 pv_al.2.2.2.2.1)
  obtain ⟨cZ, kZ, mZ, fZ, hkZ, hkkZ⟩ := Cond.arrayClass_spec (W1 pv_al.2.2.2.2.2)
  obtain ⟨cm, cQ, kQ, fm, hkQ, hkkQ, fQ⟩ := lw_aoS (W1 lw_ao.1)
  have em : cm = cI := Option.some.inj (fm.symm.trans fI)
  subst em
  refine ⟨(fun k => match k with | 0 => c0 | 1 => c1 | 2 => c2 | 3 => c3 | 4 => c4 | 5 => c5 | _ => c6, fun k => match k with | 0 => i0 | 1 => i1 | 2 => i2 | 3 => i3 | 4 => i4 | 5 => i5 | _ => i6), fun k => match k with | 0 => cm | 1 => cZ | _ => cQ, ⟨fun k q hq => ?_, fun k q hq => ?_⟩, fun e he => ?_, fun e he z hz => ?_, kQ, hkQ, hkkQ⟩
  · match k, hq with
    | 0, hq => cases hq; exact k0
    | 1, hq => cases hq; exact k1
    | 2, hq => cases hq; exact k2
    | 3, hq => cases hq; exact k3
    | 4, hq => cases hq; exact k4
    | 5, hq => cases hq; exact k5
    | 6, hq => cases hq; exact k6
    | k + 7, hq => simp at hq
  · match k, hq with
    | 0, hq => cases hq; exact ⟨fun n z => ⟨(fun k h => by cases h), kI, hkI, mI, hkkI⟩, fI⟩
    | 1, hq => cases hq; exact ⟨fun n z => ⟨(fun k h => by cases h), kZ, hkZ, mZ, hkkZ⟩, fZ⟩
    | 2, hq => cases hq; exact ⟨fun n z => ⟨(fun k h => by cases h), kQ, hkQ, cm, hkkQ⟩, fQ⟩
    | k + 3, hq => simp [pv_tys] at hq
  · obtain ⟨h1, h2⟩ := pv_LN_ok e he
    unfold pv_nw at h1 h2 ⊢
    unfold pv_lk
    cases hq : vwCl[e.2.2.1]? with
    | none => rw [hq] at h1; exact absurd rfl h1
    | some q =>
      rw [hq] at h2
      exact va_Nw.of rfl (W1 h2)
  · have h1 := (pv_mOk_spec (pv_LMN_ok e he) hz).1
    rw [if_pos (pv_LMNk e he)] at h1
    exact va_Nw.of rfl (W1 h1)
theorem pv_x1_run : pv_run 900 mX6_init 0 (pv_ent [.ref 0] (pv_ml mX6_init)) [] (1, pv_up (fun _ => .inr (9, [])) 0 (.inr (5, pv_blank 5 6))) 0 0 = some (none, (37, pv_g1)) := by
  have h := pv_x1_eq
  unfold pv_x1 at h
  exact h
theorem pv_x2_run : pv_run 900 mX7_init 0 (pv_ent [.ref 37] (pv_ml mX7_init)) [] (38, pv_up pv_g1 37 (.inr (6, pv_blank 6 29))) 0 0 = some (none, (55, pv_g2)) := by
  have h := pv_x2_eq
  unfold pv_x2 at h
  exact h
theorem pv_runs : ∃ g1 g2 : Nat → pv_C, pv_run 900 mX6_init 0 (pv_ent [.ref 0] (pv_ml mX6_init)) [] (1, pv_up (fun _ => .inr (9, [])) 0 (.inr (5, pv_blank 5 6))) 0 0 = some (none, (37, g1)) ∧ pv_run 900 mX7_init 0 (pv_ent [.ref 37] (pv_ml mX7_init)) [] (38, pv_up g1 37 (.inr (6, pv_blank 6 29))) 0 0 = some (none, (55, g2)) ∧ ∀ {b : Nat} {D : va_G} {ca : Nat → ClassId} {H : Heap}, pv_P b D ca (55, g2) H → pv_P b D ca (pv_em pv_S0) H := ⟨pv_g1, pv_g2, pv_x1_run, pv_x2_run, fun h => pv_S0_P h⟩
section LB
variable {p : Program} {l : Launch} {e : Env} {s : State} {m : MethodId} {below : List Frame} {meth : Method} {c : Code} {b L : Nat} {xs : Nat → Int32} {D : va_G} {ca : Nat → ClassId} {H : Heap} {locs : List Loc} {ls : Array Slot} {Q : State → Prop}
theorem lw_new (C0 : lw_At p s m meth c b L xs) (hK : pv_K D ca s) {pc idx ci : Nat} {q : vw_C} (hq : vwCl[ci]? = some q) (w1 : (Cond.classLink R_law idx q.1).before #[Value.ref b] s = true) (w2 : (Cond.instantiable q.1 q.2.2).before #[Value.ref b] s = true) (w3 : (Cond.initialized q.1).before #[Value.ref b] s = true) {A : pv_H} {rest : List Value} {cells slots : Nat} (hP : pv_P s.heap.size D ca A H) (hS : va_S (pv_A s.heap.size) s.heap H locs) (hd : decode cL_law pc = .ok (.new idx, 3)) (hc : cells + 1 ≤ 600000) (hs : slots + q.2.2 ≤ 7302249)
    (kk : ∀ H1 : Heap, pv_P s.heap.size D ca (A.1 + 1, pv_up A.2 A.1 (.inr (ci, pv_blank ci q.2.2))) H1 → va_S (pv_A s.heap.size) s.heap H1 locs → W p l e room_1 s m #[Value.ref b] below meth c H1 locs (cells + 1) (slots + q.2.2) Q (F0 m (pc + 3) ls (.ref (s.heap.size + A.1) :: rest))) : W p l e room_1 s m #[Value.ref b] below meth c H locs cells slots Q (F0 m pc ls rest) := by
  obtain ⟨hx, hb, hr, hml, hown, hts, hX, hbl, hlocks, hgv⟩ := C0
  have hT : ∀ w ∈ pv_T, w.before #[Value.ref b] s = true := fun w hw => hts w (lw_T w hw)
  obtain ⟨hin, hty, hnn, hsm⟩ := pv_cl hq
  have hKn := hK.1.1 ci q hq
  refine W.newcK hx hb hown w1 w2 w3 rfl hd hc hs hKn.2.1 hP.1 fun H1 kC hkC e1 z1 o1 => ?_
  have z1' : H1.size = H.size + 1 := by rw [z1, hP.1]
  have o1' : ∀ q : Nat, q < H.size → H1[q]? = H[q]? := fun q hq' => o1 q (by rw [← hP.1]; exact hq')
  refine kk H1 (hP.push ?_ z1' o1') (pv_S_push hS z1' o1')
  refine ⟨_, hq, (u_born (pv_ty ci) hT hin hKn hkC e1 hty).to fun j hj => ?_⟩
  unfold vp_V pv_blank
  rw [List.getD_eq_getElem?_getD, List.getElem?_map, List.getElem?_map, List.getElem?_range hj]
  exact (pv_dfltb _ _).symm
theorem lw_init (C0 : lw_At p s m meth c b L xs) (hK : pv_K D ca s) {e0 : Nat × Nat × Nat × Nat × Nat × Nat × Nat × Nat × Nat} (he : pv_mOk e0 = true) {z : pv_Y} (hz : pv_tab[e0.2.2.2.1]? = some z) (hk : (e0.1, e0.2.2.1) = (9, 2)) (hfr : pv_fr z + 1 ≤ 10) (hlc : 8 + (pv_ml z + 11) + pv_lc z ≤ 346) {pc a f : Nat} {rest : List Value} {A A' : pv_H} (hnp : pv_np z = 0) (hsl : (pv_sl [.ref a]).length ≤ pv_ml z) (hR : pv_run f z 0 (pv_ent [.ref a] (pv_ml z)) [] A 0 0 = some (none, A')) (hsum : pv_sum rest ≤ 8) (hP : pv_P s.heap.size D ca A H) (hS : va_S (pv_A s.heap.size) s.heap H locs) (hl : ls.size = 4) (hd : decode cL_law pc = .ok (.invokespecial e0.2.1, 3)) {cells slots : Nat} (hc : cells + pv_mc z ≤ 600000) (hsl2 : slots + pv_ms z ≤ 7302249)
    {stk : List Value} (hstk : stk = .ref (s.heap.size + a) :: rest.map (pv_t s.heap.size))
    (kk : ∀ (H1 : Heap) (locs1 : List Loc), pv_P s.heap.size D ca A' H1 → va_S (pv_A s.heap.size) s.heap H1 locs1 → W p l e room_1 s m #[Value.ref b] below meth c H1 locs1 (cells + pv_mc z) (slots + pv_ms z) Q (F0 m (pc + 3) ls (rest.map (pv_t s.heap.size)))) :
    W p l e room_1 s m #[Value.ref b] below meth c H locs cells slots Q (F0 m pc ls stk) := by
  subst hstk
  obtain ⟨hx, hb, hr, hml, hown, hts, hX, hbl, hlocks, hgv⟩ := C0
  obtain ⟨h1, h2, h3, h4, h5⟩ := pv_mOk_spec he hz
  have e9 : e0.1 = 9 := congrArg Prod.fst hk
  have e0k : e0.2.2.1 = 2 := congrArg Prod.snd hk
  rw [e0k, if_neg (by decide), e9] at h1
  rw [e0k, if_neg (by decide)] at h2
  obtain ⟨hni1, hni2⟩ := h5 (by omega)
  have hz' : z ∈ pv_tab := List.mem_of_getElem? hz
  have hM := pv_met (pv_all f) l s.heap.size D ca hz' hsl hR
  have ht := pv_tab_ok z hz'
  unfold pv_tOk at ht
  simp only [Bool.and_eq_true, decide_eq_true_eq] at ht
  obtain ⟨⟨⟨hd1, hd2⟩, hpl⟩, hownn⟩ := ht
  have hcb : CallB room_1 s #[Value.ref b] R_law e0.2.1 (pv_nm z) (pv_cd z) (pv_ml z) (pv_rt z) (pv_code z :: pv_T) (pv_room z) (pv_mc z) (pv_ms z) (pv_np z) := callB_of (pv_np z) hts (lw_gi hz') rfl rfl rfl (hts _ (List.mem_of_getElem? h4)) (hts _ (List.mem_of_getElem? h1)) ⟨hd2.1, hd2.2, hd1⟩ ⟨hfr, hlc⟩
  rw [hni2] at hcb
  have hroom : 2 * (F0 m pc ls (.ref (s.heap.size + a) :: rest.map (pv_t s.heap.size))).monitorRoom + ((rest.map (pv_t s.heap.size)).map fun v => v.category).sum ≤ 8 := by
    rw [pv_sum_t]
    show 2 * 0 + _ ≤ 8
    omega
  exact pv_called (r := none) (va_runI (As := []) (b := s.heap.size + a) (rest := rest.map (pv_t s.heap.size)) ⟨hx, hb, hml, hown, hts⟩ hM ⟨hcb, hni1, hts _ (List.mem_of_getElem? h2)⟩ ⟨pv_blind _ D ca _ A, fun U hh hW => ⟨rfl, by rw [hh]; exact hP, hK.warm hW⟩⟩ rfl hnp.symm hl rfl hroom hd ⟨hc, hsl2⟩) hS kk
set_option maxHeartbeats 400000 in
/-- the law from its entry, if the calls are as they should be -/
theorem lw_open (hL : L ≤ 384) (C0 : lw_At p s m meth c b L xs) {Inv : pv_S → Prop} (hall : pv_all45 Inv) (hI0 : Inv pv_S0) : W p l e room_1 s m #[Value.ref b] below meth c s.heap [] 0 0 (lw_Z below #[Value.ref b] s) (entryFrame m ([Value.ref b] : List Value).toArray 4) := by
  obtain ⟨hx, hb, hr, hml, hown, hts, hX, hbl, hlocks, hgv⟩ := id C0
  obtain ⟨D, ca, hK⟩ := lw_known hts
  obtain ⟨g1, g2, r1, r2, r3⟩ := pv_runs
  have W1 : ∀ {q : Nat} {w : Cond}, lw_tbl[q]? = some w → w.before #[Value.ref b] s = true := fun h => hts _ (List.mem_of_getElem? h)
  have hP : pv_P s.heap.size D ca (0, fun _ => .inr (9, [])) s.heap := ⟨rfl, fun k q h => by simp [pv_w] at h⟩
  have hS : va_S (pv_A s.heap.size) s.heap s.heap [] := va_S.rf
  have hl := lv_entry ([.ref b]) (n := 4) (Nat.le_of_ble_eq_true rfl)
  rw [lg_entry_eq]
  generalize (lg_sl ([.ref b]) ++ List.replicate (4 - (lg_sl ([.ref b])).length) Slot.unset).toArray = ls at hl ⊢
  have hl : lv_has ls 4 [(0, .ref b)] := hl
  refine lw_new (ci := 5) (q := (RX6, TX6, 6)) C0 hK rfl (W1 lw_lw.1) (W1 lw_ao.2.1) (W1 lw_lw.2.1) hP hS dL_law_0 (by decide) (by decide) (fun H hP hS => ?_)
  have hP : pv_P s.heap.size D ca (1, pv_up (fun _ => .inr (9, [])) 0 (.inr (5, pv_blank 5 6))) H := hP
  refine lv_dup hx hb dL_law_3 rfl ?_
  refine lw_init (a := 0) (rest := [.ref 0]) C0 hK lw_e_9 lw_z_9 rfl (by decide) (by decide) rfl (Nat.le_of_ble_eq_true rfl) r1 (Nat.le_of_ble_eq_true rfl) hP hS hl.1 dL_law_4 (by decide) (by decide) rfl (fun H locs hP hS => ?_)
  refine lv_astore_n (x := s.heap.size + 0) (lv' := [(1, .ref (s.heap.size + 0)), (0, .ref b)]) hx hb dL_law_7 rfl hl (by decide) rfl (fun ls hl => ?_)
  refine lw_new (ci := 6) (q := (RX7, TX7, 29)) C0 hK rfl (W1 lw_lw.2.2.1) (W1 lw_ao.2.2.2.2.2.2.2) (W1 lw_lw.2.2.2) hP hS dL_law_8 (by decide) (by decide) (fun H hP hS => ?_)
  have hP : pv_P s.heap.size D ca (38, pv_up g1 37 (.inr (6, pv_blank 6 29))) H := hP
  refine lv_dup hx hb dL_law_11 rfl ?_
  refine lw_init (a := 37) (rest := [.ref 37]) C0 hK lw_e_12 lw_z_12 rfl (by decide) (by decide) rfl (Nat.le_of_ble_eq_true rfl) r2 (Nat.le_of_ble_eq_true rfl) hP hS hl.1 dL_law_12 (by decide) (by decide) rfl (fun H locs hP hS => ?_)
  refine lv_astore_n (x := s.heap.size + 37) (lv' := [(2, .ref (s.heap.size + 37)), (1, .ref (s.heap.size + 0)), (0, .ref b)]) hx hb dL_law_15 rfl hl (by decide) rfl (fun ls hl => ?_)
  refine lv_iconst (v := 0) hx hb dL_law_16 (by decide +kernel) ?_
  refine lv_istore_n (lv' := [(3, .int 0), (2, .ref (s.heap.size + 37)), (1, .ref (s.heap.size + 0)), (0, .ref b)]) hx hb dL_law_17 rfl hl (by decide) rfl (fun ls hl => ?_)
  refine W.widen (k := 57) (n := 3072) (by decide) (by decide) ?_
  exact lw_loop hL C0 hK hall (L + 1) 0 (Nat.zero_le L) (by omega) pv_S0 H locs ls hI0 (r3 hP) hS (lv_sub hl [3, 2, 1, 0] rfl)
end LB
