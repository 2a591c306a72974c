/-! ===== the law's calls ===== -/
def R_law : String := "PoundCatLaw"
def lw_P (b : Addr) (xs : List Int32) (args : Array Value) (s : State) : Prop := args = #[.ref b] ∧ s.IntsAt b xs ∧ xs.length ≤ 384 ∧ (Jvm.Cond.and given_1 narrow_1).before args s = true
def lw_Q (_ : Array Value) (s : State) (o : Outcome) (t : State) : Prop := o = .returned (some (.int 1)) ∧ Framed s o t [] 600000 7302249
def lw_Z (below : List Frame) (a : Array Value) (s : State) : State → Prop := fun t => ∃ o, t.status = .running ∧ Ended t below o ∧ lw_Q a s o t
/-- the law's own end, with 1 on the stack, nothing written that was there before, its room as the claim has it -/
theorem lw_ret {p : Program} {l : Launch} {e : Env} {s : State} {m : MethodId} {below : List Frame} {meth : Method} {c : Code} {b : Nat} (hx : p.tables.exec = Jvm.exec) (hb : c.code = code) (hr : meth.sig.returnType = ret) (hlocks : meth.locks = false) {pc : Nat} {H : Heap} {ls : Array Slot} (hdg : decode code pc = .ok (.ireturn, 1)) : W p l e room_1 s m #[Value.ref b] below meth c H [] 600000 7302249 (lw_Z below #[Value.ref b] s) (F0 m pc ls [.int 1]) := by
  intro T hT X
  obtain ⟨fs, hret, hrun, hended, hW, hframe⟩ := X.leave (v := some (.int 1)) (hlocks := hlocks) (fun h => by rw [hr] at h; cases h)
  have hmeth' : T.vm.method? m = some meth := X.method'
  refine ⟨T.setFrames fs, ?_, .returned (some (.int 1)), hrun, hended, rfl, ⟨_, rfl⟩, hW, hframe⟩
  jvm_step X.here [X.here.top, hx, hb, hdg, hmeth', hr, ret, narrow_b1]
  (try refine ⟨rfl, ?_⟩); (try refine ⟨rfl, ?_⟩)
  first | (intro acts; rw [hret _ acts rfl rfl rfl]) | rw [hret _ _ rfl rfl rfl]
  exact Steps.refl _
/-- what holds at the law's entry -/
def lw_At (p : Program) (s : State) (m : MethodId) (meth : Method) (c : Code) (b L : Nat) (xs : Nat → Int32) : Prop :=
  p.tables.exec = Jvm.exec ∧ c.code = code ∧ meth.sig.returnType = ret ∧ c.maxLocals = 4 ∧ s.vm.findClass R_law = some m.cls ∧ (∀ w ∈ lw_tbl, w.before #[Value.ref b] s = true) ∧ va_X b L xs s s.heap ∧ b < s.heap.size ∧ meth.locks = false ∧ (Jvm.Cond.and given_1 narrow_1).before #[Value.ref b] s = true
theorem lw_T : ∀ w ∈ pv_T, w ∈ lw_tbl := fun w hw => (List.mem_filter.mp hw).1
theorem lw_gi {z : pv_Y} (hz : z ∈ pv_tab) : GoodIn lw_tbl (pv_code z :: pv_T) := fun w hw => ⟨lw_T w (pv_gi hz w hw).1, (pv_gi hz w hw).2⟩
section LW
variable {p : Program} {l : Launch} {e : Env} {s : State} {m : MethodId} {below : List Frame} {meth : Method} {c : Code} {b L : Nat} {xs : Nat → Int32} {D : va_G} {ca : Nat → ClassId} {H : Heap} {locs : List Loc} {ls : Array Slot} {Q : State → Prop}
def lw_zOk (z : pv_Y) : Bool := decide (pv_fr z + 1 ≤ 10) && decide (8 + (pv_ml z + 11) + pv_lc z ≤ 346) && decide (pv_mc z = 0) && decide (pv_ms z = 0)
/-- a call of a method of the class or of the reference -/
theorem lw_call (C0 : lw_At p s m meth c b L xs) (hK : pv_K D ca s) {e0 : Nat × Nat × Nat × Nat × Nat × Nat × Nat × Nat × Nat} (he : pv_mOk e0 = true) {z : pv_Y} (hz : pv_tab[e0.2.2.2.1]? = some z) (hk : (e0.1, e0.2.2.1) = (9, 0)) (hzo : lw_zOk z = true) {pc a : Nat} {As rest : List Value} {A A' : pv_H} {v : Value} (hrc : pv_rc z A (.ref a :: As) = true) (hlen : As.length = pv_np z) (hsl : (pv_sl (.ref a :: As)).length ≤ pv_ml z) (hR : pv_R z 0 (pv_ent (.ref a :: As) (pv_ml z)) [] A = some (some v, A')) (hsum : pv_sum rest ≤ 8) (hP : pv_P s.heap.size D ca A H) (hS : va_S (pv_A s.heap.size) s.heap H locs) (hl : ls.size = 4) (hd : decode cL_law pc = .ok (.invokevirtual e0.2.1, 3)) {cells slots : Nat} (hc : cells ≤ 600000) (hsl2 : slots ≤ 7302249)
    {stk : List Value} (hstk : stk = (As.map (pv_t s.heap.size)).reverse ++ .ref (s.heap.size + a) :: rest.map (pv_t s.heap.size))
    (kk : ∀ (H1 : Heap) (locs1 : List Loc), pv_P s.heap.size D ca A' H1 → va_S (pv_A s.heap.size) s.heap H1 locs1 → W p l e room_1 s m #[Value.ref b] below meth c H1 locs1 cells slots Q (F0 m (pc + 3) ls (pv_t s.heap.size v :: rest.map (pv_t s.heap.size)))) :
    W p l e room_1 s m #[Value.ref b] below meth c H locs cells slots Q (F0 m pc ls stk) := by
  subst hstk
  obtain ⟨hx, hb, hr, hml, hown, hts, hX, hbl, hlocks, hgv⟩ := C0
  obtain ⟨h1, h2, h3, h4, -⟩ := pv_mOk_spec he hz
  have e9 : e0.1 = 9 := congrArg Prod.fst hk
  have e0k : e0.2.2.1 = 0 := congrArg Prod.snd hk
  rw [e0k, if_neg (by decide), e9] at h1
  rw [e0k, if_neg (by decide)] at h2
  have hz' : z ∈ pv_tab := List.mem_of_getElem? hz
  unfold lw_zOk at hzo
  simp only [Bool.and_eq_true, decide_eq_true_eq] at hzo
  obtain ⟨⟨⟨hfr, hlc⟩, hmc⟩, hms⟩ := hzo
  obtain ⟨f, hf⟩ := pv_R_iff.mp hR
  have hM := pv_met (pv_all f) l s.heap.size D ca hz' hsl hf
  have ht := pv_tab_ok z hz'
  unfold pv_tOk at ht
  simp only [Bool.and_eq_true, decide_eq_true_eq] at ht
  obtain ⟨⟨⟨hd1, hd2⟩, hpl⟩, hownn⟩ := ht
  obtain ⟨a', As', hAs, hcell⟩ := pv_rc_ok (s := s) hz' hP hK.1 hrc
  cases hAs
  have hcb : CallB room_1 s #[Value.ref b] R_law e0.2.1 (pv_nm z) (pv_cd z) (pv_ml z) (pv_rt z) (pv_code z :: pv_T) (pv_room z) (pv_mc z) (pv_ms z) (pv_np z) := callB_of (pv_np z) hts (lw_gi hz') rfl rfl rfl (hts _ (List.mem_of_getElem? h4)) (hts _ (List.mem_of_getElem? h1)) ⟨hd2.1, hd2.2, hd1⟩ ⟨hfr, hlc⟩
  have hroom : 2 * (F0 m pc ls ((As.map (pv_t s.heap.size)).reverse ++ .ref (s.heap.size + a) :: rest.map (pv_t s.heap.size))).monitorRoom + ((rest.map (pv_t s.heap.size)).map fun v => v.category).sum ≤ 8 := by
    rw [pv_sum_t]
    show 2 * 0 + _ ≤ 8
    omega
  refine pv_called (va_runV (As := As.map (pv_t s.heap.size)) (b := s.heap.size + a) (rest := rest.map (pv_t s.heap.size)) (C := (pv_nm z).cls) ⟨hx, hb, hml, hown, hts⟩ hM ⟨hcb, hts _ (List.mem_of_getElem? h2), hts _ (List.mem_of_getElem? (h3 e0k))⟩ ⟨pv_blind _ D ca _ A, hcell, fun U hh hW => ⟨rfl, by rw [hh]; exact hP, hK.warm hW⟩⟩ rfl (by rw [List.length_map]; exact hlen) hl rfl hroom hd ⟨by rw [hmc]; exact hc, by rw [hms]; exact hsl2⟩) hS (fun H1 locs1 g1 g2 => ?_)
  rw [hmc, hms]
  exact kk H1 locs1 g1 g2
/-- an int of the script -/
theorem lw_arg (C0 : lw_At p s m meth c b L xs) (hS : va_S (pv_A s.heap.size) s.heap H locs) {pc : Nat} {iv : Int32} {j : Int} {w : Int32} {qx qm : Nat} {rest : List Value} {cells slots : Nat} (hl : lv_has ls 4 [(0, .ref b), (1, .ref qx), (2, .ref qm), (3, .int iv)]) (d0 : decode cL_law pc = .ok (.aload_n 0, 1)) (d1 : decode cL_law (pc + 1) = .ok (.iload_n 3, 1)) (d2 : decode cL_law (pc + 2) = .ok (.iconst j, 1)) (d3 : decode cL_law (pc + 3) = .ok (.iadd, 1)) (d4 : decode cL_law (pc + 4) = .ok (.iaload, 1)) (hj : Int32.ofInt j = w) (hin : vp_in (iv + w) L)
    (k : W p l e room_1 s m #[Value.ref b] below meth c H locs cells slots Q (F0 m (pc + 5) ls (.int (xs (iv + w).toNatClampNeg) :: rest))) : W p l e room_1 s m #[Value.ref b] below meth c H locs cells slots Q (F0 m pc ls rest) := by
  obtain ⟨hx, hb, hr, hml, hown, hts, hX, hbl, hlocks, hgv⟩ := C0
  refine lv_aload_n hx hb d0 rfl (lv_at hl 0 rfl) ?_
  refine lv_iload_n hx hb d1 rfl (lv_at hl 3 rfl) ?_
  refine lv_iconst hx hb d2 hj ?_
  refine lv_iadd hx hb d3 ?_
  exact va_sld (A := pv_A s.heap.size) hx hb hX hbl (Nat.not_le.mpr hbl) hS hin d4 k
end LW
