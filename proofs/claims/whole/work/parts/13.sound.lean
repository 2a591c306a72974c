/-! ===== the engine's run is the machine's ===== -/
def pv_Q (b : Nat) (D : va_G) (ca : Nat → ClassId) (r : Option Value) (A' : pv_H) : Array Value → State → Outcome → State → Prop := fun _ st o t => o = .returned (r.map (pv_t b)) ∧ pv_P b D ca A' t.heap ∧ va_F (pv_A b) st t
def pv_Pc (b : Nat) (D : va_G) (ca : Nat → ClassId) (As : List Value) (A : pv_H) : Array Value → State → Prop := fun v U => v = (As.map (pv_t b)).toArray ∧ pv_P b D ca A U.heap ∧ pv_K D ca U
def pv_tOk (z : pv_Y) : Bool := decide ((parseMethodDescriptor (pv_nm z).desc).map (fun d => d.parameters.length) = some (pv_np z)) && decide ((pv_nm z).cls ≠ "java/lang/invoke/MethodHandle" ∧ (pv_nm z).cls ≠ "java/lang/invoke/VarHandle") && Jvm.plainName (pv_nm z).cls && decide (pv_own (pv_cn z) = (pv_nm z).cls)
set_option maxRecDepth 100000 in
theorem pv_tab_ok : ∀ z ∈ pv_tab, pv_tOk z = true := by decide +kernel
theorem pv_LMk : ∀ e ∈ pv_LM, e.2.2.1 ≤ 2 := by decide +kernel
theorem pv_LMNk : ∀ e ∈ pv_LMN, e.2.2.1 = 3 := by decide +kernel
set_option maxRecDepth 100000 in
theorem pv_tab_eq : pv_tab = pv_tab_0 ++ (pv_tab_1 ++ (pv_tab_2 ++ (pv_tab_3 ++ (pv_tab_4 ++ (pv_tab_5 ++ (pv_tab_6 ++ (pv_tab_7 ++ (pv_tab_8)))))))) := rfl
theorem pv_cds {tb : List pv_Y} {ps : List Nat} (h : tb.map (fun z => some (pv_code z)) = ps.map (fun i => lw_tbl[i]?)) : ∀ z ∈ tb, pv_code z ∈ pv_T := by
  intro z hz
  have h1 : some (pv_code z) ∈ tb.map (fun z => some (pv_code z)) := List.mem_map.mpr ⟨z, hz, rfl⟩
  rw [h] at h1
  obtain ⟨i, -, hi⟩ := List.mem_map.mp h1
  exact pv_mem i hi rfl
theorem pv_codes : ∀ z ∈ pv_tab, pv_code z ∈ pv_T := by
  rw [pv_tab_eq]
  exact List.forall_mem_append.mpr ⟨pv_cds pv_tab_c0, List.forall_mem_append.mpr ⟨pv_cds pv_tab_c1, List.forall_mem_append.mpr ⟨pv_cds pv_tab_c2, List.forall_mem_append.mpr ⟨pv_cds pv_tab_c3, List.forall_mem_append.mpr ⟨pv_cds pv_tab_c4, List.forall_mem_append.mpr ⟨pv_cds pv_tab_c5, List.forall_mem_append.mpr ⟨pv_cds pv_tab_c6, List.forall_mem_append.mpr ⟨pv_cds pv_tab_c7, pv_cds pv_tab_c8⟩⟩⟩⟩⟩⟩⟩⟩
theorem pv_T_good : ∀ w ∈ pv_T, (w.onTables && w.keeps) = true ∨ ∃ ty, w = .arrayClass ty := fun w hw => good_of_word (List.mem_filter.mp hw).2
theorem pv_gi {z : pv_Y} (hz : z ∈ pv_tab) : GoodIn pv_T (pv_code z :: pv_T) := fun w hw => by
  have h : w ∈ pv_T := (List.mem_cons.mp hw).elim (fun q => by rw [q]; exact pv_codes z hz) id
  exact ⟨h, pv_T_good w h⟩
theorem pv_vw {ci : Nat} {q : vw_C} (h : vwCl[ci]? = some q) : q.1 = pv_own (ci + 1) := by
  match ci, h with
  | 0, h => cases h; rfl
  | 1, h => cases h; rfl
  | 2, h => cases h; rfl
  | 3, h => cases h; rfl
  | 4, h => cases h; rfl
  | 5, h => cases h; rfl
  | 6, h => cases h; rfl
  | n + 7, h => simp at h
/-- a call's words -/
def pv_cw (own idx kk : Nat) (z : pv_Y) (args : Array Value) (s : State) : Prop := z ∈ pv_tab ∧ kk ≤ 3 ∧ (if kk = 3 then (Cond.methodLinkNest (pv_own own) idx (pv_nm z) "PoundCat").before args s = true else (Cond.methodLink (pv_own own) idx (pv_nm z)).before args s = true) ∧ (if kk = 1 then (Cond.static (pv_nm z)).before args s = true else (Cond.instanceMethod (pv_nm z)).before args s = true) ∧ (kk = 0 → (Cond.selects (pv_nm z).cls (pv_nm z) (pv_nm z)).before args s = true) ∧ (Cond.initialized (pv_nm z).cls).before args s = true ∧ (2 ≤ kk → (pv_nm z).name = "<init>" ∧ pv_rt z = none)
theorem pv_mOk_spec {e : Nat × Nat × Nat × Nat × Nat × Nat × Nat × Nat × Nat} {z : pv_Y} (h : pv_mOk e = true) (hz : pv_tab[e.2.2.2.1]? = some z) : lw_tbl[e.2.2.2.2.1]? = some (if e.2.2.1 = 3 then .methodLinkNest (pv_own e.1) e.2.1 (pv_nm z) "PoundCat" else .methodLink (pv_own e.1) e.2.1 (pv_nm z)) ∧ lw_tbl[e.2.2.2.2.2.1]? = some (if e.2.2.1 = 1 then .static (pv_nm z) else .instanceMethod (pv_nm z)) ∧ (e.2.2.1 = 0 → lw_tbl[e.2.2.2.2.2.2.1]? = some (.selects (pv_nm z).cls (pv_nm z) (pv_nm z))) ∧ lw_tbl[e.2.2.2.2.2.2.2.1]? = some (.initialized (pv_nm z).cls) ∧ (2 ≤ e.2.2.1 → (pv_nm z).name = "<init>" ∧ pv_rt z = none) := by
  unfold pv_mOk at h
  rw [hz] at h
  simp only [Bool.and_eq_true, Bool.or_eq_true, decide_eq_true_eq, bne_iff_ne, ne_eq, beq_iff_eq] at h
  obtain ⟨⟨⟨⟨⟨h1, h2⟩, h3⟩, h4⟩, -⟩, h5⟩ := h
  refine ⟨h1, h2, fun q => h3.elim (fun w => absurd q w) id, h4, fun q => h5.elim (fun w => ?_) id⟩
  rcases w with w | w <;> omega
theorem pv_mf_ok {own idx kk : Nat} {z : pv_Y} {D : va_G} {ca : Nat → ClassId} {args : Array Value} {s : State} (h : pv_mf own idx = some (kk, z)) (hts : ∀ w ∈ pv_T, w.before args s = true) (hK : pv_K D ca s) : pv_cw own idx kk z args s := by
  unfold pv_mf at h
  split at h
  · next e he =>
    cases hz : pv_tab[e.2.2.2.1]? with
    | none => rw [hz] at h; cases h
    | some z' =>
      rw [hz] at h
      cases h
      have hm := List.mem_of_find?_eq_some he
      have hp := List.find?_some he
      simp only [Bool.and_eq_true, beq_iff_eq] at hp
      obtain ⟨rfl, rfl⟩ := hp
      have hk := pv_LMk e hm
      obtain ⟨h1, h2, h3, h4, h5⟩ := pv_mOk_spec (pv_LM_ok e hm) hz
      have hk3 : ¬ e.2.2.1 = 3 := by omega
      rw [if_neg hk3] at h1
      refine ⟨List.mem_of_getElem? hz, by omega, ?_, ?_, fun q => hts _ (pv_mem _ (h3 q) rfl), hts _ (pv_mem _ h4 rfl), h5⟩
      · rw [if_neg hk3]; exact hts _ (pv_mem _ h1 rfl)
      · by_cases q : e.2.2.1 = 1
        · rw [if_pos q] at h2 ⊢; exact hts _ (pv_mem _ h2 rfl)
        · rw [if_neg q] at h2 ⊢; exact hts _ (pv_mem _ h2 rfl)
  · split at h
    · next e he =>
      cases hz : pv_tab[e.2.2.2.1]? with
      | none => rw [hz] at h; cases h
      | some z' =>
        rw [hz] at h
        cases h
        have hm := List.mem_of_find?_eq_some he
        have hp := List.find?_some he
        simp only [Bool.and_eq_true, beq_iff_eq] at hp
        obtain ⟨rfl, rfl⟩ := hp
        have hk := pv_LMNk e hm
        obtain ⟨h1, h2, h3, h4, h5⟩ := pv_mOk_spec (pv_LMN_ok e hm) hz
        have hk1 : ¬ e.2.2.1 = 1 := by omega
        rw [if_neg hk1] at h2
        refine ⟨List.mem_of_getElem? hz, by omega, ?_, ?_, fun q => hts _ (pv_mem _ (h3 q) rfl), hts _ (pv_mem _ h4 rfl), h5⟩
        · rw [if_pos hk]; exact (hK.2.2.1 e hm z hz).use rfl
        · rw [if_neg hk1]; exact hts _ (pv_mem _ h2 rfl)
    · cases h
section PV6
variable {p : Program} {l : Launch} {e : Env} {R : Room} {s : State} {m : MethodId} {args : Array Value} {below : List Frame} {meth : Method} {c : Code} {H : Heap} {locs : List Loc} {cells slots : Nat} {Q : State → Prop}
variable {pc : Nat} {ls : Array Slot} {b : Nat} {y : pv_Y} {D : va_G} {ca : Nat → ClassId} {A : pv_H} {H0 : Heap}
theorem pv_called {a : Array Value} {r : Option Value} {A' : pv_H} {st0 rest : List Value} {mc ms : Nat} (hr : va_Run p l e R s m args below meth c H locs cells slots mc ms (F0 m pc ls st0) rest (pv_Q b D ca r A' a) (pv_A b)) (hS : va_S (pv_A b) H0 H locs)
    (kk : ∀ (H1 : Heap) (locs1 : List Loc), pv_P b D ca A' H1 → va_S (pv_A b) H0 H1 locs1 → W p l e R s m args below meth c H1 locs1 (cells + mc) (slots + ms) Q (F0 m (pc + 3) ls ((r.map (pv_t b)).toList ++ rest))) : W p l e R s m args below meth c H locs cells slots Q (F0 m pc ls st0) := by
  intro T hT X
  obtain ⟨v, st₀, t, T', L, h0, X', hL, e1, e2, ⟨hv, hp, hz, hk⟩, st⟩ := hr T hT X
  cases hv
  rw [h0] at hz hk
  obtain ⟨t2, a1, b1⟩ := kk T'.heap (locs ++ L) (by rw [e1]; exact hp)
    ⟨Nat.le_trans hS.1 (by rw [e1]; exact hz), fun q h1 h2 => by rw [e1, hk q (Nat.lt_of_lt_of_le h1 hS.1) h2]; exact hS.2.1 q h1 h2, fun q hq => by
      rcases List.mem_append.mp hq with h | h
      · exact hS.2.2 q h
      · exact hL q h⟩ T' rfl X'
  exact ⟨t2, st t2 a1, b1⟩
/-- the run's word: what the engine has, the machine does -/
def pv_ok (f : Nat) : Prop := ∀ (l : Launch) (b : Nat) (D : va_G) (ca : Nat → ClassId) (y : pv_Y), y ∈ pv_tab → ∀ (pc : Nat) (loc : pv_L) (st : List Value) (A : pv_H) (cu su : Nat) (r : Option Value) (A' : pv_H), pv_run f y pc loc st A cu su = some (r, A') → cu ≤ pv_mc y → su ≤ pv_ms y →
  ∀ (p : Program) (e : Env) (s : State) (m : MethodId) (args : Array Value) (below : List Frame) (meth : Method) (c : Code) (H : Heap) (locs : List Loc) (ls : Array Slot), pv_cx y p s m args meth c D ca → pv_P b D ca A H → va_S (pv_A b) s.heap H locs → pv_lh b ls (pv_ml y) loc →
  W p l e (pv_room y) s m args below meth c H locs cu su (MQ below (pv_Q b D ca r A') args s (pv_mc y) (pv_ms y) (pv_A b)) (F0 m pc ls (st.map (pv_t b)))
theorem pv_blind (b : Nat) (D : va_G) (ca : Nat → ClassId) (As : List Value) (A : pv_H) : FrameBlind (pv_Pc b D ca As A) := fun a U g mk q => ⟨q.1, q.2.1, pv_K.blind (U := U) (U' := U.calling g mk a) rfl q.2.2⟩
theorem pv_met {f : Nat} (IH : pv_ok f) (l : Launch) (b : Nat) (D : va_G) (ca : Nat → ClassId) {y : pv_Y} (hy : y ∈ pv_tab) {As : List Value} {A A' : pv_H} {r : Option Value} (hlen : (pv_sl As).length ≤ pv_ml y) (h : pv_run f y 0 (pv_ent As (pv_ml y)) [] A 0 0 = some (r, A')) :
    Met l (pv_nm y) (pv_code y :: pv_T) (pv_room y) (pv_Pc b D ca As A) (pv_Q b D ca r A') (pv_mc y) (pv_ms y) (pv_A b) := by
  have ht := pv_tab_ok y hy
  unfold pv_tOk at ht
  simp only [Bool.and_eq_true, decide_eq_true_eq] at ht
  obtain ⟨⟨⟨-, -⟩, hpl⟩, hownn⟩ := ht
  refine Met.ofW (cc := pv_cd y) (maxL := pv_ml y) (ret := pv_rt y) hpl rfl ?_
  intro p e s m args below meth c s₁ B hml hv
  obtain ⟨rfl, hP, hK⟩ := hv
  have hts0 := atoms_spec (ws := pv_code y :: pv_T) B.pre
  have hown : s.vm.findClass (pv_own (pv_cn y)) = some m.cls := by rw [hownn]; exact findClass_of_methodNamed B.named
  have hin : meth.name = (pv_nm y).name := (name_of_methodNamed B.named B.method).1
  rw [lg_entry_eq]
  exact IH l b D ca y hy 0 _ [] A 0 0 r A' h (Nat.zero_le _) (Nat.zero_le _) p e s m _ below meth c s.heap [] _ ⟨B.exec, B.bytes, hml, B.returns, B.notSynchronized, hin, hown, fun w hw => hts0 w (List.mem_cons_of_mem _ hw), hK⟩ hP va_S.rf (pv_entry b As hlen)
theorem pv_step_ok (X : pv_cx y p s m args meth c D ca) (hP : pv_P b D ca A H) (hS : va_S (pv_A b) H0 H locs) {i : Instr} {n cu su cu' su' pc' : Nat} {loc loc' : pv_L} {st st' : List Value} {A' : pv_H} (hl : pv_lh b ls (pv_ml y) loc) (hd : decode (pv_cd y) pc = .ok (i, n)) (h : pv_stp y i n pc loc st A cu su = some (pc', loc', st', A', cu', su')) (hcu : cu ≤ pv_mc y) (hsu : su ≤ pv_ms y)
    (kk : ∀ (H1 : Heap) (locs1 : List Loc) (ls1 : Array Slot), cu' ≤ pv_mc y → su' ≤ pv_ms y → pv_P b D ca A' H1 → va_S (pv_A b) H0 H1 locs1 → pv_lh b ls1 (pv_ml y) loc' → W p l e (pv_room y) s m args below meth c H1 locs1 cu' su' Q (F0 m pc' ls1 (st'.map (pv_t b)))) : W p l e (pv_room y) s m args below meth c H locs cu su Q (F0 m pc ls (st.map (pv_t b))) := by
  have hx := X.1
  have hb := X.2.1
  unfold pv_stp at h
  split at h
  · next h1 => cases h; exact pv_s_ok hx hb hd h1 (kk H locs ls hcu hsu hP hS hl)
  · split at h
    · next h1 => cases h; exact pv_l_ok hx hb hd h1 hl (fun ls1 hl1 => kk H locs ls1 hcu hsu hP hS hl1)
    · split at h
      · next h1 =>
        split at h
        · next h2 => cases h; exact pv_b_ok hx hb hd h1 h2 (kk H locs ls hcu hsu hP hS hl)
        · cases h
      · split at h
        · next h1 => cases h; exact pv_h1_ok X hP hS hd h1 (fun H1 locs1 g1 g2 => kk H1 locs1 ls hcu hsu g1 g2 hl)
        · split at h
          · next h1 => cases h; exact pv_h2_ok X hP hS hl.1 hd h1 (fun H1 locs1 g1 g2 => kk H1 locs1 ls (pv_h2_cu h1 hcu hsu).1 (pv_h2_cu h1 hcu hsu).2 g1 g2 hl)
          · split at h
            · next h1 => cases h; exact pv_h3_ok X hP hS hd h1 (fun H1 locs1 g1 g2 => kk H1 locs1 ls (pv_h3_cu h1).1 (pv_h3_cu h1).2 g1 g2 hl)
            · split at h
              · next h1 => cases h; exact pv_mx_ok X hl.1 hd h1 hcu hsu (kk H locs ls hcu hsu hP hS hl)
              · cases h
theorem pv_stk (st : List Value) (n : Nat) : st.map (pv_t b) = (((st.take n).reverse).map (pv_t b)).reverse ++ (st.drop n).map (pv_t b) := by
  rw [← List.map_reverse, List.reverse_reverse, ← List.map_append, List.take_append_drop]
theorem pv_rc_ok {z : pv_Y} {As : List Value} (hz : z ∈ pv_tab) (hP : pv_P b D ca A H) (hK : va_K D vwCl (pv_tys ca) s) (h : pv_rc z A As = true) : ∃ a As', As = .ref a :: As' ∧ ∃ cellB : Cell, H[b + a]? = some cellB ∧ cellB.vm.isStatics = false ∧ s.vm.findClass (pv_nm z).cls = some cellB.cls := by
  unfold pv_rc at h
  split at h
  · next a As' =>
    simp only [Bool.and_eq_true, decide_eq_true_eq] at h
    obtain ⟨ha, h⟩ := h
    split at h
    · next ci fs hA =>
      refine ⟨a, As', rfl, ?_⟩
      have he : (pv_w b ca A)[a]? = some (b + a, .inr (ci, fs.map (pv_t b))) := by rw [pv_w_get ha, hA]; rfl
      obtain ⟨r, h1, -⟩ := hP.2 a _ he
      have h2 := va_recv hK hP.2 (q0 := a) h1 he
      have ht := pv_tab_ok z hz
      unfold pv_tOk at ht
      simp only [Bool.and_eq_true, decide_eq_true_eq] at ht
      have e1 : r.1 = (pv_nm z).cls := by
        rw [pv_vw h1, ← ht.2]
        exact congrArg pv_own (by simpa using h)
      rw [← e1]
      exact h2
    · cases h
  · cases h
theorem pv_ret_ok (X : pv_cx y p s m args meth c D ca) (hP : pv_P b D ca A H) (hS : va_S (pv_A b) s.heap H locs) {i : Instr} {n cu su : Nat} {st : List Value} {r : Option Value} (hd : decode (pv_cd y) pc = .ok (i, n)) (h : pv_r y i n st = some r) (hcu : cu ≤ pv_mc y) (hsu : su ≤ pv_ms y) :
    W p l e (pv_room y) s m args below meth c H locs cu su (MQ below (pv_Q b D ca r A) args s (pv_mc y) (pv_ms y) (pv_A b)) (F0 m pc ls (st.map (pv_t b))) := by
  obtain ⟨hx, hb, hml, hr, hlk, hnm, hown, hts, hK⟩ := X
  refine W.widen hcu hsu ?_
  unfold pv_r at h
  split at h
  · split at h
    · next hrt => cases h; exact W.iret hx hb (hr.trans hrt) (fun t ht hW => ⟨rfl, by rw [ht]; exact hP, hS.F ht⟩) hS.2.2 hd
    · next hrt =>
      split at h
      · next hn => cases h; exact W.zret hx hb (hr.trans hrt) (by rw [pv_nb, hn]) (fun t ht hW => ⟨rfl, by rw [ht]; exact hP, hS.F ht⟩) hS.2.2 hd
      · cases h
    · cases h
  · split at h
    · next hrt => cases h; exact W.lret hx hb (hr.trans hrt) (fun t ht hW => ⟨rfl, by rw [ht]; exact hP, hS.F ht⟩) hS.2.2 hd
    · cases h
  · split at h
    · next hrt => cases h; exact W.vret hx hb (hr.trans hrt) (fun t ht hW => ⟨rfl, by rw [ht]; exact hP, hS.F ht⟩) hS.2.2 hd
    · cases h
  · cases h
theorem pv_hd_ok {As : List Value} (h : pv_hd As = true) : ∃ a As', As = .ref a :: As' := by
  unfold pv_hd at h
  split at h
  · exact ⟨_, _, rfl⟩
  · cases h
set_option maxHeartbeats 2000000 in
theorem pv_inv_ok {f : Nat} (IH : pv_ok f) (X : pv_cx y p s m args meth c D ca) (hP : pv_P b D ca A H) (hS : va_S (pv_A b) H0 H locs) {i : Instr} {n cu su : Nat} {loc : pv_L} {st As rest : List Value} {z : pv_Y} {r : Option Value} {A' : pv_H} (hl : pv_lh b ls (pv_ml y) loc) (hd : decode (pv_cd y) pc = .ok (i, n)) (h : pv_inv y i n st A cu su = some (z, As, rest)) (hrun : pv_run f z 0 (pv_ent As (pv_ml z)) [] A 0 0 = some (r, A'))
    (kk : ∀ (H1 : Heap) (locs1 : List Loc), cu + pv_mc z ≤ pv_mc y → su + pv_ms z ≤ pv_ms y → pv_P b D ca A' H1 → va_S (pv_A b) H0 H1 locs1 → W p l e (pv_room y) s m args below meth c H1 locs1 (cu + pv_mc z) (su + pv_ms z) Q (F0 m (pc + 3) ls ((r.toList ++ rest).map (pv_t b)))) : W p l e (pv_room y) s m args below meth c H locs cu su Q (F0 m pc ls (st.map (pv_t b))) := by
  have X0 := X
  obtain ⟨hx, hb, hml, hr, hlk, hnm, hown, hts, hK⟩ := X0
  unfold pv_inv at h
  split at h
  · next k x hiv =>
    split at h
    · next kind z' hmf =>
      split at h
      · next hck =>
        have hcw := pv_mf_ok hmf hts hK
        obtain ⟨hz, hk3, hlink, hins, hsel, hini, hni⟩ := hcw
        injection h with h
        injection h with h1 h2
        injection h2 with h2 h3
        subst h1
        have hst := pv_stk (b := b) st (pv_na kind z')
        rw [h2, h3] at hst hck
        unfold pv_ck pv_cr at hck
        simp only [Bool.and_eq_true, Bool.or_eq_true, decide_eq_true_eq, beq_iff_eq, bne_iff_ne, ne_eq] at hck
        obtain ⟨⟨⟨⟨hk, hlen⟩, hrc⟩, hhd⟩, ⟨⟨⟨⟨⟨hsl, hsum⟩, hfr⟩, hlc⟩, hmc⟩, hms⟩⟩ := hck
        have ht := pv_tab_ok z' hz
        unfold pv_tOk at ht
        simp only [Bool.and_eq_true, decide_eq_true_eq] at ht
        obtain ⟨⟨⟨hd1, hd2⟩, hpl⟩, hownn⟩ := ht
        have hM : Met l (pv_nm z') (pv_code z' :: pv_T) (pv_room z') (pv_Pc b D ca As A) (pv_Q b D ca r A') (pv_mc z') (pv_ms z') (pv_A b) := pv_met IH l b D ca hz hsl hrun
        have hU : ∀ U : State, U.heap = H → s.WarmedH U.vm → pv_Pc b D ca As A (As.map (pv_t b)).toArray U := fun U hh hW => ⟨rfl, by rw [hh]; exact hP, hK.warm hW⟩
        have hroom : 2 * (F0 m pc ls (st.map (pv_t b))).monitorRoom + ((rest.map (pv_t b)).map fun v => v.category).sum ≤ 8 := by
          rw [pv_sum_t]
          show 2 * 0 + _ ≤ 8
          omega
        have hkk : ∀ (H1 : Heap) (locs1 : List Loc), pv_P b D ca A' H1 → va_S (pv_A b) H0 H1 locs1 → W p l e (pv_room y) s m args below meth c H1 locs1 (cu + pv_mc z') (su + pv_ms z') Q (F0 m (pc + 3) ls ((r.map (pv_t b)).toList ++ rest.map (pv_t b))) := fun H1 locs1 g1 g2 => by
          have h9 := kk H1 locs1 hmc hms g1 g2
          rw [List.map_append] at h9
          cases r <;> exact h9
        unfold pv_iv at hiv
        have hcb : (Cond.methodLink (pv_own (pv_cn y)) x (pv_nm z')).before args s = true → CallB (pv_room y) s args (pv_own (pv_cn y)) x (pv_nm z') (pv_cd z') (pv_ml z') (pv_rt z') (pv_code z' :: pv_T) (pv_room z') (pv_mc z') (pv_ms z') (pv_np z') := fun hlk9 => callB_of (pv_np z') hts (pv_gi hz) rfl rfl rfl hini hlk9 ⟨hd2.1, hd2.2, hd1⟩ ⟨hfr, hlc⟩
        split at hiv
        · cases hiv
          have hk0 : kind = 0 := by rcases hk with q | q <;> omega
          subst hk0
          obtain ⟨a, As', rfl, hcell⟩ := pv_rc_ok hz hP hK.1 (hrc.elim (fun q => absurd rfl q) id)
          refine pv_called (va_runV (As := As'.map (pv_t b)) (b := b + a) (rest := rest.map (pv_t b)) (C := (pv_nm z').cls) ⟨hx, hb, hml, hown, hts⟩ hM ⟨hcb hlink, hins, hsel rfl⟩ ⟨pv_blind b D ca _ A, hcell, hU⟩ rfl ?_ hl.1 ?_ hroom hd ⟨hmc, hms⟩) hS hkk
          · rw [List.length_map]
            have : As'.length + 1 = pv_np z' + 1 := hlen
            omega
          · show st.map (pv_t b) = _
            rw [hst]
            simp [pv_t]
        · cases hiv
          have hk1 : kind = 1 := by rcases hk with q | q <;> omega
          subst hk1
          refine pv_called (va_runS (As := As.map (pv_t b)) (rest := rest.map (pv_t b)) ⟨hx, hb, hml, hown, hts⟩ hM ⟨hcb hlink, hins⟩ ⟨pv_blind b D ca _ A, hU⟩ rfl ?_ hl.1 ?_ hroom hd ⟨hmc, hms⟩) hS hkk
          · rw [List.length_map]
            exact hlen
          · show st.map (pv_t b) = _
            rw [hst]
        · cases hiv
          have hk1 : ¬ kind = 1 := by rcases hk with q | q <;> omega
          obtain ⟨a, As', rfl⟩ := pv_hd_ok (hhd.elim (fun q => absurd q hk1) id)
          have hlen' : As'.length = pv_np z' := by
            have h9 : As'.length + 1 = pv_na kind z' := hlen
            unfold pv_na at h9
            rw [if_neg hk1] at h9
            omega
          rw [if_neg hk1] at hins
          obtain ⟨hni1, hni2⟩ := hni (by rcases hk with q | q <;> omega)
          have hstk : (F0 m pc ls (st.map (pv_t b))).stack = (As'.map (pv_t b)).reverse ++ .ref (b + a) :: rest.map (pv_t b) := by
            show st.map (pv_t b) = _
            rw [hst]
            simp [pv_t]
          by_cases hk3' : kind = 3
          · rw [if_pos hk3'] at hlink
            have hcn9 := va_cnB (R := pv_room y) (rm := pv_room z') (pv_np z') hts (pv_gi hz) rfl rfl rfl (va_Nw.of rfl hlink) hini ⟨hd2.1, hd2.2, hd1⟩ ⟨hfr, hlc⟩
            rw [hni2] at hcn9
            exact pv_called (va_runIN (As := As'.map (pv_t b)) (b := b + a) (rest := rest.map (pv_t b)) ⟨hx, hb, hml, hown, hts⟩ hM ⟨hcn9, hni1, hins⟩ ⟨pv_blind b D ca _ A, hU⟩ rfl (by rw [List.length_map]; exact hlen') hl.1 hstk hroom hd ⟨hmc, hms⟩) hS hkk
          · rw [if_neg hk3'] at hlink
            have hcb9 := hcb hlink
            rw [hni2] at hcb9
            exact pv_called (va_runI (As := As'.map (pv_t b)) (b := b + a) (rest := rest.map (pv_t b)) ⟨hx, hb, hml, hown, hts⟩ hM ⟨hcb9, hni1, hins⟩ ⟨pv_blind b D ca _ A, hU⟩ rfl (by rw [List.length_map]; exact hlen') hl.1 hstk hroom hd ⟨hmc, hms⟩) hS hkk
        · cases hiv
      · cases h
    · cases h
  · cases h
theorem pv_all : ∀ f, pv_ok f
  | 0 => fun l b D ca y hy pc loc st A cu su r A' h => by cases h
  | f + 1 => by
    have IH := pv_all f
    intro l b D ca y hy pc loc st A cu su r A' h hcu hsu p e s m args below meth c H locs ls X hP hS hl
    rw [pv_run] at h
    split at h
    · next i n hd =>
      split at h
      · next r' hr' => cases h; exact pv_ret_ok X hP hS hd hr' hcu hsu
      · split at h
        · next z As rest hi =>
          split at h
          · next r1 A1 hr1 => exact pv_inv_ok IH X hP hS hl hd hi hr1 (fun H1 locs1 g1 g2 g3 g4 => IH l b D ca y hy (pc + 3) loc _ A1 _ _ r A' h g1 g2 p e s m args below meth c H1 locs1 ls X g3 g4 hl)
          · cases h
        · split at h
          · next pc' loc' st' A1 cu' su' hst => exact pv_step_ok X hP hS hl hd hst hcu hsu (fun H1 locs1 ls1 g1 g2 g3 g4 g5 => IH l b D ca y hy pc' loc' st' A1 cu' su' r A' h g1 g2 p e s m args below meth c H1 locs1 ls1 X g3 g4 g5)
          · cases h
    · cases h
end PV6
