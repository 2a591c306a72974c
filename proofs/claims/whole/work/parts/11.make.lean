/-! ===== what is made; Object's constructor; arraycopy ===== -/
/-- classes that are made, by (class, entry): which, and the places of the words (link, can be made, initialized) -/
def pv_LW : List (Nat × Nat × Nat × Nat × Nat × Nat) := [(6, 7, 2, 79, 80, 62), (6, 21, 1, 99, 100, 63), (6, 28, 4, 129, 130, 64), (6, 35, 0, 190, 191, 65), (6, 42, 3, 206, 207, 66)]
def pv_wOk (e : Nat × Nat × Nat × Nat × Nat × Nat) : Bool := match vwCl[e.2.2.1]? with
  | some q => decide (lw_tbl[e.2.2.2.1]? = some (.classLink (pv_own e.1) e.2.1 q.1)) && decide (lw_tbl[e.2.2.2.2.1]? = some (.instantiable q.1 q.2.2)) && decide (lw_tbl[e.2.2.2.2.2]? = some (.initialized q.1))
  | none => false
set_option maxRecDepth 100000 in
theorem pv_LW_ok : ∀ e ∈ pv_LW, pv_wOk e = true := by decide +kernel
/-- calls of Object's constructor, by (class, entry), and the place of the link -/
def pv_LO : List (Nat × Nat × Nat) := [(6, 1, 76), (3, 1, 84), (2, 3, 104), (5, 3, 134), (1, 3, 195), (4, 3, 211), (7, 1, 774)]
set_option maxRecDepth 100000 in
theorem pv_LO_ok : ∀ e ∈ pv_LO, lw_tbl[e.2.2]? = some (.methodLink (pv_own e.1) e.2.1 Lib.objectInit) := by decide +kernel
set_option maxRecDepth 100000 in
theorem pv_oi : lw_tbl[77]? = some (.instanceMethod Lib.objectInit) := by decide +kernel
set_option maxRecDepth 100000 in
theorem pv_oc : lw_tbl[78]? = some (.code Lib.objectInit ⟨#[0xb1]⟩ 1 none) := by rfl
set_option maxRecDepth 100000 in
theorem pv_al : lw_tbl[319]? = some (.methodLink (pv_own 3) 22 arraycopyName) ∧ lw_tbl[321]? = some (.native arraycopyName) ∧ lw_tbl[320]? = some (.static arraycopyName) ∧ lw_tbl[68]? = some (.initialized "java/lang/System") ∧ lw_tbl[98]? = some (.arrayClass .int) ∧ lw_tbl[863]? = some (.arrayClass .boolean) := by decide +kernel
def pv_sum (st : List Value) : Nat := (st.map fun v => v.category).sum
def pv_blank (ci N : Nat) : List Value := (List.range N).map (fun k => defaultValue (pv_ty ci k))
def pv_h2 (y : pv_Y) (i : Instr) (n : Nat) (st : List Value) (A : pv_H) (cu su : Nat) : Option (List Value × pv_H × Nat × Nat) :=
  match i, n, st with
  | .new x, 3, st => match pv_LW.find? (fun e => e.1 == pv_cn y && e.2.1 == x) with
    | some e => match vwCl[e.2.2.1]? with
      | some q => if cu + 1 ≤ pv_mc y ∧ su + q.2.2 ≤ pv_ms y then some (.ref A.1 :: st, (A.1 + 1, pv_up A.2 A.1 (.inr (e.2.2.1, pv_blank e.2.2.1 q.2.2))), cu + 1, su + q.2.2) else none
      | none => none
    | none => none
  | .newarray .int, 2, .int k :: st => if k < 0 ∨ ¬ k.toNatClampNeg * 4 ≤ 536870912 ∨ ¬ cu + 1 ≤ pv_mc y ∨ ¬ su + k.toNatClampNeg ≤ pv_ms y then none else some (.ref A.1 :: st, (A.1 + 1, pv_up A.2 A.1 (.inl (0, k.toNatClampNeg, .inl (fun _ => 0)))), cu + 1, su + k.toNatClampNeg)
  | .newarray .boolean, 2, .int k :: st => if k < 0 ∨ ¬ k.toNatClampNeg * 1 ≤ 536870912 ∨ ¬ cu + 1 ≤ pv_mc y ∨ ¬ su + k.toNatClampNeg ≤ pv_ms y then none else some (.ref A.1 :: st, (A.1 + 1, pv_up A.2 A.1 (.inl (1, k.toNatClampNeg, .inl (fun _ => 0)))), cu + 1, su + k.toNatClampNeg)
  | .invokespecial x, 3, .ref _ :: st => match pv_LO.find? (fun e => e.1 == pv_cn y && e.2.1 == x) with
    | some _ => if 1 ≤ pv_fr y ∧ pv_sum st + 12 ≤ pv_lc y then some (st, A, cu, su) else none
    | none => none
  | .invokestatic x, 3, .int k :: .int dp :: .ref a :: .int sp :: .ref a0 :: st => if pv_cn y = 3 ∧ x = 22 ∧ a < A.1 ∧ a0 < A.1 ∧ 1 ≤ pv_fr y ∧ pv_sum st + 18 ≤ pv_lc y then match A.2 a0, A.2 a with
      | .inl (0, N0, .inl f), .inl (0, N1, .inl g) => if sp < 0 ∨ dp < 0 ∨ k < 0 ∨ ¬ sp.toNatClampNeg + k.toNatClampNeg ≤ N0 ∨ ¬ dp.toNatClampNeg + k.toNatClampNeg ≤ N1 then none else some (st, (A.1, pv_up A.2 a (.inl (0, N1, .inl (va_cpy f g sp.toNatClampNeg dp.toNatClampNeg k.toNatClampNeg)))), cu, su)
      | _, _ => none
    else none
  | _, _, _ => none
section PV4
variable {p : Program} {l : Launch} {e : Env} {s : State} {m : MethodId} {args : Array Value} {below : List Frame} {meth : Method} {c : Code} {H : Heap} {locs : List Loc} {Q : State → Prop}
variable {pc : Nat} {ls : Array Slot} {b : Nat} {y : pv_Y} {D : va_G} {ca : Nat → ClassId} {A : pv_H} {H0 : Heap}
theorem pv_sum_t (b : Nat) (st : List Value) : ((st.map (pv_t b)).map fun v => v.category).sum = pv_sum st := by
  unfold pv_sum
  rw [List.map_map]
  congr 1
  exact List.map_congr_left (fun v _ => pv_cat b v)
theorem pv_S_push {b : Nat} {H0 H H1 : Heap} {locs : List Loc} (hS : va_S (pv_A b) H0 H locs) (hz : H1.size = H.size + 1) (oq : ∀ q : Nat, q < H.size → H1[q]? = H[q]?) : va_S (pv_A b) H0 H1 locs :=
  ⟨by rw [hz]; exact Nat.le_succ_of_le hS.1, fun q h1 h2 => (oq q (Nat.lt_of_lt_of_le h1 hS.1)).trans (hS.2.1 q h1 h2), hS.2.2⟩
theorem pv_dflt {ty : FieldType} : pv_t 0 (defaultValue ty) = defaultValue ty := by cases ty <;> rfl
theorem pv_dfltb (b : Nat) (ty : FieldType) : pv_t b (defaultValue ty) = defaultValue ty := by cases ty <;> rfl
theorem pv_newA {t : Nat} {cA : ClassId} {hty : FieldType} (h1 : s.vm.findClass ("[" ++ hty.toString) = some cA) (hK : va_K D vwCl (pv_tys ca) s) (ht : (pv_tys ca)[t]? = some (ca t, hty)) (hp : hty = .int ∨ hty = .boolean) : cA = ca t := by
  have h2 := (hK.2 t _ ht).2
  rcases hp with rfl | rfl
  · exact Option.some.inj (h1.symm.trans h2)
  · exact Option.some.inj (h1.symm.trans h2)
/-- System.arraycopy of ints, with what it leaves as it was -/
theorem pv_copy {R : Room} {cells slots : Nat} {cc : ByteArray} {rest : List Value} (hexec : p.tables.exec = Jvm.exec) (hb : c.code = cc) (hml : c.maxLocals = ls.size) {own : String} {index : Nat} (hown : s.vm.findClass own = some m.cls) (hlink : (Cond.methodLink own index arraycopyName).before args s = true) (hnat : (Cond.native arraycopyName).before args s = true) (hstat : (Cond.static arraycopyName).before args s = true) (hini : (Cond.initialized "java/lang/System").before args s = true)
    {c0 : ClassId} {a a0 N0 N1 : Nat} {f g : Nat → Int32} (hAr : ArrOfT s c0 .int) (hc0 : H[a0]? = some (vp_cell c0 (N0, .inl f))) (hc1 : H[a]? = some (vp_cell c0 (N1, .inl g)))
    {sp dp n : Int32} (h1 : ¬ sp < 0) (h2 : ¬ dp < 0) (h3 : ¬ n < 0) (h4 : sp.toNatClampNeg + n.toNatClampNeg ≤ N0) (h5 : dp.toNatClampNeg + n.toNatClampNeg ≤ N1)
    (hframes : 1 ≤ R.frames) (hlocals : (rest.map fun v => v.category).sum + 18 ≤ R.locals) (hdg : decode cc pc = .ok (.invokestatic index, 3))
    (kk : ∀ (H1 : Heap) (locs1 : List Loc), H1[a]? = some (vp_cell c0 (N1, .inl (va_cpy f g sp.toNatClampNeg dp.toNatClampNeg n.toNatClampNeg))) → H1.size = H.size → (∀ q : Nat, q ≠ a → H1[q]? = H[q]?) → (∀ q ∈ locs1, q ∈ locs ∨ q.base = a) → W p l e R s m args below meth c H1 locs1 cells slots Q (F0 m (pc + 3) ls rest)) : W p l e R s m args below meth c H locs cells slots Q (F0 m pc ls (.int n :: .int dp :: .ref a :: .int sp :: .ref a0 :: rest)) := by
  have nn : ∀ z : Int32, ¬ z < 0 → z.toInt = (z.toNatClampNeg : Int) := by
    intro z hz
    have hz0 : (0 : Int) ≤ z.toInt := by
      have := Int32.not_lt.mp hz
      simpa using Int32.le_iff_toInt_le.mp this
    show z.toInt = ((z.toInt.toNat : Nat) : Int)
    omega
  intro T hT X
  obtain ⟨-, k0, hk0, cm0, hkk0⟩ := hAr N0 (fun j => .int (f j))
  obtain ⟨-, k1, hk1, cm1, hkk1⟩ := hAr N1 (fun j => .int (g j))
  obtain ⟨vm', X', step⟩ := X.arraycopy hexec hown hlink hnat hstat hini (src := a0) (dst := a) (cs := vp_cell c0 (N0, .inl f)) (cd := vp_cell c0 (N1, .inl g)) (srcPos := sp) (destPos := dp) (n := n) (by rw [hT]; exact hc0) (by rw [hT]; exact hc1)
    (fun _ h => by cases h) (fun _ h => by cases h) (fun h => by cases h) (fun h => by cases h) hk0 hk1 hkk0 hkk1 (by simp [refKind]) h1 h2 h3
    (by rw [nn sp h1, nn n h3]; show ¬ _ > ((arrV c0 N0 (fun j => .int (f j))).slots.size : Int); rw [arrV_size]; omega)
    (by rw [nn dp h2, nn n h3]; show ¬ _ > ((arrV c0 N1 (fun j => .int (g j))).slots.size : Int); rw [arrV_size]; omega)
    (fun vm₁ _ i hi => by
      have e9 : (vp_cell c0 (N0, .inl f)).slots.getD (sp.toNatClampNeg + i) .null = .int (f (sp.toNatClampNeg + i)) := by
        show (arrV c0 N0 (fun j => .int (f j))).slots.getD _ _ = _
        rw [Array.getD_eq_getD_getElem?, arrV_read _ _ (by omega)]
        rfl
      refine ⟨?_, ?_⟩
      · rw [e9]
        rfl
      · rw [e9]
        exact trivial)
    (g := F0 m pc ls (.int n :: .int dp :: .ref a :: .int sp :: .ref a0 :: rest)) rfl (by rw [hml]) (rest := rest) rfl (by rw [hb]; exact hdg) hframes (by show 2 * 0 + _ + _ ≤ _; exact Nat.le_trans (by rw [show nativeFrameWords "java/lang/System" "arraycopy" 5 = 7 from by decide +kernel]; omega) hlocals)
  have e1 : copied (vp_cell c0 (N0, .inl f)) (vp_cell c0 (N1, .inl g)) sp dp n = vp_cell c0 (N1, .inl (va_cpy f g sp.toNatClampNeg dp.toNatClampNeg n.toNatClampNeg)) := va_copied (fun z => .int z) c0 c0 f g h4
  rw [e1] at X' step
  have hl : a < H.size := (Array.getElem?_eq_some_iff.mp hc1).1
  have hheap : ((T.setVm vm').setCell a (vp_cell c0 (N1, .inl (va_cpy f g sp.toNatClampNeg dp.toNatClampNeg n.toNatClampNeg)))).heap = H.setIfInBounds a (vp_cell c0 (N1, .inl (va_cpy f g sp.toNatClampNeg dp.toNatClampNeg n.toNatClampNeg))) := by rw [← hT]; rfl
  obtain ⟨t, a1, b1⟩ := kk _ _ (show (H.setIfInBounds a _)[a]? = some _ by simp [Array.getElem?_setIfInBounds, hl]) (by simp) (fun q hq => by simp [Array.getElem?_setIfInBounds, Ne.symm hq]) (fun q hq => by
      rcases List.mem_append.mp hq with h | h
      · exact Or.inl h
      · obtain ⟨z, -, hz⟩ := List.mem_map.mp h
        exact Or.inr (by rw [← hz])) _ hheap X'
  exact ⟨t, step t a1, b1⟩
set_option maxHeartbeats 4000000 in
theorem pv_h2_ok (X : pv_cx y p s m args meth c D ca) (hP : pv_P b D ca A H) (hS : va_S (pv_A b) H0 H locs) {i : Instr} {n cu su cu' su' : Nat} {st st' : List Value} {A' : pv_H} (hls : ls.size = pv_ml y) (hd : decode (pv_cd y) pc = .ok (i, n)) (h : pv_h2 y i n st A cu su = some (st', A', cu', su'))
    (kk : ∀ (H1 : Heap) (locs1 : List Loc), pv_P b D ca A' H1 → va_S (pv_A b) H0 H1 locs1 → W p l e (pv_room y) s m args below meth c H1 locs1 cu' su' Q (F0 m (pc + n) ls (st'.map (pv_t b)))) : W p l e (pv_room y) s m args below meth c H locs cu su Q (F0 m pc ls (st.map (pv_t b))) := by
  have X0 := X
  obtain ⟨hx, hb, hml, hr, hlk, hnm, hown, hts, hK⟩ := X0
  unfold pv_h2 at h
  split at h
  · split at h
    · next x st0 e0 he =>
      split at h
      · next q hq =>
        split at h
        · next hroom =>
          cases h
          have hm := List.mem_of_find?_eq_some he
          have hp := List.find?_some he
          simp only [Bool.and_eq_true, beq_iff_eq] at hp
          have hw := pv_LW_ok e0 hm
          unfold pv_wOk at hw
          rw [hq] at hw
          simp only [Bool.and_eq_true, decide_eq_true_eq] at hw
          obtain ⟨⟨hw1, hw2⟩, hw3⟩ := hw
          rw [hp.1, hp.2] at hw1
          obtain ⟨hin, hty, hnn, hsm⟩ := pv_cl hq
          have hKn := hK.1.1 e0.2.2.1 q hq
          refine W.newcK hx hb hown (hts _ (pv_mem _ hw1 rfl)) (hts _ (pv_mem _ hw2 rfl)) (hts _ (pv_mem _ hw3 rfl)) rfl hd hroom.1 hroom.2 hKn.2.1 hP.1 fun H1 kC hkC e1 z1 o1 => ?_
          have z1' : H1.size = H.size + 1 := by rw [z1, hP.1]
          have o1' : ∀ q : Nat, q < H.size → H1[q]? = H[q]? := fun q hq' => o1 q (by rw [← hP.1]; exact hq')
          refine kk H1 locs (hP.push ?_ z1' o1') (pv_S_push hS z1' o1')
          refine ⟨_, hq, (u_born (pv_ty e0.2.2.1) hts hin hKn hkC e1 hty).to fun j hj => ?_⟩
          unfold vp_V pv_blank
          rw [List.getD_eq_getElem?_getD, List.getElem?_map, List.getElem?_map, List.getElem?_range hj]
          exact (pv_dfltb b _).symm
        · cases h
      · cases h
    · cases h
  · split at h
    · cases h
    · next k st0 hc =>
      cases h
      have hc1 : ¬ k < 0 := fun q => hc (Or.inl q)
      have hc2 : k.toNatClampNeg * 4 ≤ 536870912 := Classical.byContradiction fun q => hc (Or.inr (Or.inl q))
      have hc3 : cu + 1 ≤ pv_mc y := Classical.byContradiction fun q => hc (Or.inr (Or.inr (Or.inl q)))
      have hc4 : su + k.toNatClampNeg ≤ pv_ms y := Classical.byContradiction fun q => hc (Or.inr (Or.inr (Or.inr q)))
      refine va_newaK hx hb (hts _ (pv_mem _ pv_al.2.2.2.2.1 rfl)) rfl hd rfl hc1 rfl hc2 hc3 hc4 hP.1 fun H1 cA e1 z1 o1 hAr hNm => ?_
      have z1' : H1.size = H.size + 1 := by rw [z1, hP.1]
      have o1' : ∀ q : Nat, q < H.size → H1[q]? = H[q]? := fun q hq' => o1 q (by rw [← hP.1]; exact hq')
      have hcA := pv_newA (t := 0) hNm hK.1 pv_ty0 (Or.inl rfl)
      subst hcA
      exact kk H1 locs (hP.push e1 z1' o1') (pv_S_push hS z1' o1')
  · split at h
    · cases h
    · next k st0 hc =>
      cases h
      have hc1 : ¬ k < 0 := fun q => hc (Or.inl q)
      have hc2 : k.toNatClampNeg * 1 ≤ 536870912 := Classical.byContradiction fun q => hc (Or.inr (Or.inl q))
      have hc3 : cu + 1 ≤ pv_mc y := Classical.byContradiction fun q => hc (Or.inr (Or.inr (Or.inl q)))
      have hc4 : su + k.toNatClampNeg ≤ pv_ms y := Classical.byContradiction fun q => hc (Or.inr (Or.inr (Or.inr q)))
      refine va_newaK hx hb (hts _ (pv_mem _ pv_al.2.2.2.2.2 rfl)) rfl hd rfl hc1 rfl hc2 hc3 hc4 hP.1 fun H1 cA e1 z1 o1 hAr hNm => ?_
      have z1' : H1.size = H.size + 1 := by rw [z1, hP.1]
      have o1' : ∀ q : Nat, q < H.size → H1[q]? = H[q]? := fun q hq' => o1 q (by rw [← hP.1]; exact hq')
      have hcA := pv_newA (t := 1) hNm hK.1 pv_ty1 (Or.inr rfl)
      subst hcA
      exact kk H1 locs (hP.push e1 z1' o1') (pv_S_push hS z1' o1')
  · split at h
    · next x a st0 e0 he =>
      split at h
      · next hroom =>
        cases h
        have hm := List.mem_of_find?_eq_some he
        have hp := List.find?_some he
        simp only [Bool.and_eq_true, beq_iff_eq] at hp
        have hw := pv_LO_ok e0 hm
        rw [hp.1, hp.2] at hw
        refine W.objInit hx hb hown (hts _ (pv_mem _ hw rfl)) (hts _ (pv_mem _ pv_oi rfl)) (hts _ (pv_mem _ pv_oc rfl)) rfl (by rw [hml]; exact hls) rfl hd hroom.1 ?_ (kk H locs hP hS)
        show 2 * 0 + _ + 12 ≤ _
        rw [pv_sum_t]
        have := hroom.2
        show 2 * 0 + pv_sum _ + 12 ≤ pv_lc y
        omega
      · cases h
    · cases h
  · split at h
    · next k dp a sp a0 st0 hc =>
      obtain ⟨hcn, rfl, ha, ha0, hfr, hlc⟩ := hc
      split at h
      · next N0 f N1 g hA0 hA =>
        split at h
        · cases h
        · next hc =>
          cases h
          have h1 : ¬ sp < 0 := fun q => hc (Or.inl q)
          have h2 : ¬ dp < 0 := fun q => hc (Or.inr (Or.inl q))
          have h3 : ¬ k < 0 := fun q => hc (Or.inr (Or.inr (Or.inl q)))
          have h4 : sp.toNatClampNeg + k.toNatClampNeg ≤ N0 := Classical.byContradiction fun q => hc (Or.inr (Or.inr (Or.inr (Or.inl q))))
          have h5 : dp.toNatClampNeg + k.toNatClampNeg ≤ N1 := Classical.byContradiction fun q => hc (Or.inr (Or.inr (Or.inr (Or.inr q))))
          rw [hcn] at hown
          have w0 := hP.2 a0 _ (pv_wi ha0 hA0)
          have w1 := hP.2 a _ (pv_wi ha hA)
          refine pv_copy hx hb (hml.trans hls.symm) hown (hts _ (pv_mem _ pv_al.1 rfl)) (hts _ (pv_mem _ pv_al.2.1 rfl)) (hts _ (pv_mem _ pv_al.2.2.1 rfl)) (hts _ (pv_mem _ pv_al.2.2.2.1 rfl)) ((hK.1.2 0 _ pv_ty0).1) w0 w1 h1 h2 h3 h4 h5 hfr (by rw [pv_sum_t]; exact hlc) hd fun H1 locs1 e1 z1 oq hL => ?_
          refine kk H1 _ (hP.set ha e1 z1 oq) ⟨by rw [z1]; exact hS.1, fun q g1 g2 => ?_, fun q hq => ?_⟩
          · rw [oq q (fun e9 => g2 (by rw [e9]; exact Nat.le_add_right b a))]
            exact hS.2.1 q g1 g2
          · rcases hL q hq with h9 | h9
            · exact hS.2.2 q h9
            · rw [h9]
              exact Nat.le_add_right b a
      · cases h
    · cases h
  · cases h
end PV4
