/-! ===== new int[n][k] over the machine ===== -/
section PV5
variable {p : Program} {l : Launch} {e : Env} {s : State} {m : MethodId} {args : Array Value} {below : List Frame} {meth : Method} {c : Code} {H : Heap} {locs : List Loc} {Q : State → Prop}
variable {pc : Nat} {ls : Array Slot} {b : Nat} {y : pv_Y} {D : va_G} {ca : Nat → ClassId} {A : pv_H} {H0 : Heap}
/-- the row of rows when i of its N rows stand, and a row of K noughts -/
def pv_fo (c9 : ClassId) (N h0 i : Nat) : Cell := arrV c9 N (fun j => va_rf (if j < i then some (h0 + 1 + j) else none))
def pv_fi (c9 : ClassId) (K : Nat) : Cell := arrV c9 K (fun _ => .int 0)
theorem pv_fo_size (c9 : ClassId) (N h0 i : Nat) : (pv_fo c9 N h0 i).slots.size = N := arrV_size _ _ _
theorem pv_fi_size (c9 : ClassId) (K : Nat) : (pv_fi c9 K).slots.size = K := arrV_size _ _ _
theorem pv_fo_set (c9 : ClassId) (N h0 i : Nat) : (pv_fo c9 N h0 i).setSlot i (.ref (h0 + 1 + i)) = pv_fo c9 N h0 (i + 1) := by
  unfold pv_fo
  rw [arrV_store]
  refine congrArg (arrV c9 N) (funext fun j => ?_)
  unfold updV
  by_cases q : j = i
  · subst q
    simp [va_rf]
  · by_cases q2 : j < i
    · simp [q, q2, Nat.lt_succ_of_lt q2]
    · simp [q, q2, show ¬ j < i + 1 by omega]
theorem pv_fo_zero (c9 : ClassId) (N h0 : Nat) : ({ cls := c9, slots := Array.replicate N .null, vm := .none } : Cell) = pv_fo c9 N h0 0 := by
  rw [arrV_new]
  exact congrArg (arrV c9 N) (funext fun j => by simp [va_rf])
theorem pv_fi_new (c9 : ClassId) (K : Nat) : ({ cls := c9, slots := Array.replicate K (.int 0), vm := .none } : Cell) = pv_fi c9 K := arrV_new _ _ _
/-- the machine when i rows stand -/
def pv_fs (T : State) (c2 c0 : ClassId) (N K : Nat) : Nat → State
  | 0 => T.pushCell (pv_fo c2 N T.heap.size 0)
  | i + 1 => ((pv_fs T c2 c0 N K i).pushCell (pv_fi c0 K)).setCell T.heap.size (pv_fo c2 N T.heap.size (i + 1))
theorem pv_fs_at (T : State) (c2 c0 : ClassId) (N K : Nat) : ∀ i, (pv_fs T c2 c0 N K i).heap.size = T.heap.size + 1 + i ∧ (pv_fs T c2 c0 N K i).heap[T.heap.size]? = some (pv_fo c2 N T.heap.size i) ∧ (pv_fs T c2 c0 N K i).vm = T.vm ∧ (pv_fs T c2 c0 N K i).slotsUsed = T.slotsUsed + N + i * K
  | 0 => ⟨by simp [pv_fs], by simp [pv_fs], rfl, by simp [pv_fs, pv_fo_size]⟩
  | i + 1 => by
    obtain ⟨g1, g2, g3, g4⟩ := pv_fs_at T c2 c0 N K i
    have hlt : T.heap.size < (pv_fs T c2 c0 N K i).heap.size := by omega
    have h1 : ((pv_fs T c2 c0 N K i).pushCell (pv_fi c0 K)).heap[T.heap.size]? = some (pv_fo c2 N T.heap.size i) := by rw [State.heap_pushCell_of_lt (h := hlt)]; exact g2
    refine ⟨?_, State.heap_setCell_self h1, by simp [pv_fs, g3], ?_⟩
    · simp [pv_fs, State.setCell, g1]; omega
    · simp [pv_fs, g4, pv_fi_size, Nat.succ_mul]; omega
theorem pv_fs_old (T : State) (c2 c0 : ClassId) (N K : Nat) {a : Addr} (ha : a < T.heap.size) : ∀ i, (pv_fs T c2 c0 N K i).heap[a]? = T.heap[a]?
  | 0 => State.heap_pushCell_of_lt _ _ ha
  | i + 1 => by
    have g1 := (pv_fs_at T c2 c0 N K i).1
    show (((pv_fs T c2 c0 N K i).pushCell (pv_fi c0 K)).setCell T.heap.size _).heap[a]? = _
    rw [State.heap_setCell_other (Nat.ne_of_gt ha), State.heap_pushCell_of_lt (h := Nat.lt_of_lt_of_le ha (by rw [g1]; omega))]
    exact pv_fs_old T c2 c0 N K ha i
theorem pv_fs_row (T : State) (c2 c0 : ClassId) (N K : Nat) : ∀ i j, j < i → (pv_fs T c2 c0 N K i).heap[T.heap.size + 1 + j]? = some (pv_fi c0 K)
  | 0, _, h => absurd h (Nat.not_lt_zero _)
  | i + 1, j, h => by
    have g1 := (pv_fs_at T c2 c0 N K i).1
    show (((pv_fs T c2 c0 N K i).pushCell (pv_fi c0 K)).setCell T.heap.size _).heap[T.heap.size + 1 + j]? = _
    rw [State.heap_setCell_other (show T.heap.size ≠ T.heap.size + 1 + j by omega)]
    by_cases q : j < i
    · rw [State.heap_pushCell_of_lt (h := show T.heap.size + 1 + j < (pv_fs T c2 c0 N K i).heap.size by omega)]
      exact pv_fs_row T c2 c0 N K i j q
    · have q2 : j = i := by omega
      subst q2
      rw [← g1]
      exact State.heap_pushCell_size _ _
theorem pv_fs_top (T : State) (f : JFrame) (c2 c0 : ClassId) (N K : Nat) : ∀ i, pv_fs (T.setTop f) c2 c0 N K i = (pv_fs T c2 c0 N K i).setTop f
  | 0 => rfl
  | i + 1 => by simp only [pv_fs, pv_fs_top T f c2 c0 N K i, State.heap_setTop, State.pushCell_setTop, State.setCell_setTop]
theorem pv_fs_stand {R : Room} {T : State} {cells slots : Nat} (X : Stand p l e R s m args below meth c T locs cells slots) (c2 c0 : ClassId) (N K : Nat) :
    ∀ i, Stand p l e R s m args below meth c (pv_fs T c2 c0 N K i) (locs ++ (List.range i).map fun j => ⟨T.heap.size, j⟩) (cells + 1 + i) (slots + N + i * K)
  | 0 => by
    have h := X.pushed (pv_fo c2 N T.heap.size 0)
    rw [pv_fo_size] at h
    simpa [pv_fs] using h
  | i + 1 => by
    have Xi := pv_fs_stand X c2 c0 N K i
    obtain ⟨g1, g2, -, -⟩ := pv_fs_at T c2 c0 N K i
    have hcell : ((pv_fs T c2 c0 N K i).pushCell (pv_fi c0 K)).heap[T.heap.size]? = some (pv_fo c2 N T.heap.size i) := by rw [State.heap_pushCell_of_lt (h := show T.heap.size < (pv_fs T c2 c0 N K i).heap.size by omega)]; exact g2
    have h := (Xi.pushed (pv_fi c0 K)).stored hcell i (.ref (T.heap.size + 1 + i))
    rw [pv_fi_size, pv_fo_set] at h
    have q2 : (locs ++ (List.range (i + 1)).map fun j => (⟨T.heap.size, j⟩ : Loc)) = (locs ++ (List.range i).map fun j => (⟨T.heap.size, j⟩ : Loc)) ++ [⟨T.heap.size, i⟩] := by simp [List.range_succ, List.append_assoc]
    rw [q2, show slots + N + (i + 1) * K = slots + N + i * K + K by rw [Nat.succ_mul]; omega]
    exact h
theorem pv_wpA {E : CtlPost} {e : Env} {d : Bool} {acts : List Action} {T : State} {c9 comp : ClassId} {k : Class} {ty : FieldType} {N : Nat} {v : Value} (hk : T.vm.classes[c9]? = some k) (hkind : k.kind = .array comp ty) (h1 : ¬ N > e.platform.arrayLengthLimit) (h2 : ¬ N * componentBytes ty > e.platform.maxHeapBytes) (hf : fits ty v = true) (hd : v.isDefault = true) {Q : Addr → Pre} (h3 : T.heap.size < e.platform.maxCells) (h4 : T.slotsUsed + N ≤ e.platform.maxSlots)
    (hq : Q T.heap.size d acts (T.pushCell { cls := c9, slots := Array.replicate N v, vm := .none })) : wp (Jvm.newArray c9 N v) Q E e d acts T := by
  have hfits : ∀ i w, (Array.replicate N v)[i]? = some w → T.fitsSlot c9 .none i w = true := by
    intro i w hw
    rw [Array.getElem?_replicate] at hw
    split at hw
    · cases hw; simp [State.fitsSlot, State.slotType?, hk, hkind, hf]
    · cases hw
  have hda : allocActs (Array.replicate N v) T.heap.size acts = acts := by
    have hall : ((Array.replicate N v).all (·.isDefault)) = true := by
      rw [Array.all_replicate]; split <;> simp [hd]
    unfold allocActs; rw [if_pos hall]
  simp only [Jvm.newArray, Jvm.arrayFits, wp_bind', W.ask, W.ite, h1, if_false, wp_pure', W.theClass, hk, hkind, h2, W.alloc, W.stop, Option.some.injEq, exists_eq_left', Array.size_replicate, hda]
  rw [if_neg (by omega)]
  exact ⟨h3, h4, hfits, hq⟩
theorem pv_wp1 {E : CtlPost} {e : Env} {d : Bool} {acts : List Action} {T : State} {c0 cc : ClassId} {kc : Class} {k : Int32} (hkc : T.vm.classes[c0]? = some kc) (hkind : kc.kind = .array cc .int) (hk : ¬ k < 0) (h1 : ¬ k.toNatClampNeg > e.platform.arrayLengthLimit) (h2 : ¬ k.toNatClampNeg * 4 > e.platform.maxHeapBytes) (h3 : T.heap.size < e.platform.maxCells) (h4 : T.slotsUsed + k.toNatClampNeg ≤ e.platform.maxSlots) {Q : Addr → Pre} (hq : Q T.heap.size d acts (T.pushCell (pv_fi c0 k.toNatClampNeg))) : wp (multianewarray.make c0 [k]) Q E e d acts T := by
  rw [multianewarray.make]
  simp only [wp_bind', W.ite, hk, if_false, wp_pure', W.theClass, hkc, hkind, Option.some.injEq, exists_eq_left']
  exact pv_wpA hkc hkind h1 h2 rfl rfl h3 h4 (by rw [show defaultValue .int = Value.int 0 from rfl, pv_fi_new]; exact hq)
theorem pv_wp2 {E : CtlPost} {e : Env} {d : Bool} {acts : List Action} {T : State} {c2 c0 cc : ClassId} {k2 kc : Class} {n k : Int32} (hk2 : T.vm.classes[c2]? = some k2) (hkind2 : k2.kind = .array c0 (.array .int)) (hkc : T.vm.classes[c0]? = some kc) (hkind : kc.kind = .array cc .int) (hn : ¬ n < 0) (hk : ¬ k < 0)
    (h1 : ¬ n.toNatClampNeg > e.platform.arrayLengthLimit) (h2 : ¬ n.toNatClampNeg * 4 > e.platform.maxHeapBytes) (h3 : ¬ k.toNatClampNeg > e.platform.arrayLengthLimit) (h4 : ¬ k.toNatClampNeg * 4 > e.platform.maxHeapBytes)
    (h5 : T.heap.size + 1 + n.toNatClampNeg ≤ e.platform.maxCells) (h6 : T.slotsUsed + n.toNatClampNeg + n.toNatClampNeg * k.toNatClampNeg ≤ e.platform.maxSlots) {Q : Addr → Pre} (hq : ∀ d' acts', Q T.heap.size d' acts' (pv_fs T c2 c0 n.toNatClampNeg k.toNatClampNeg n.toNatClampNeg)) : wp (multianewarray.make c2 [n, k]) Q E e d acts T := by
  have hfind : ([k].find? (· < 0)) = none := by simp [hk]
  rw [multianewarray.make]
  simp only [wp_bind', W.ite, hn, if_false, wp_pure', W.theClass, hk2, hkind2, Option.some.injEq, exists_eq_left']
  refine pv_wpA hk2 hkind2 h1 h2 rfl rfl (by omega) (by have := Nat.zero_le (n.toNatClampNeg * k.toNatClampNeg); omega) ?_
  rw [pv_fo_zero _ _ T.heap.size]
  simp only [hfind]
  rw [ite_self, wp_bind', Std.Legacy.Range.forIn_eq_forIn_range', show ([:n.toNatClampNeg] : Std.Legacy.Range).size = n.toNatClampNeg by simp [Std.Legacy.Range.size]]
  show wp (forIn (List.range' 0 n.toNatClampNeg 1) PUnit.unit _) _ E e d acts _
  refine wp_forIn_inv (fun todo U => ∃ i, i ≤ n.toNatClampNeg ∧ todo = List.range' i (n.toNatClampNeg - i) ∧ U = pv_fs T c2 c0 n.toNatClampNeg k.toNatClampNeg i) _ _ ⟨0, Nat.zero_le _, rfl, rfl⟩ ?_ ?_
  · rintro x todo U d' acts' Q' ⟨i, hi, hl, rfl⟩ hnext
    have hlt : i < n.toNatClampNeg := by
      rcases Nat.lt_or_ge i n.toNatClampNeg with h | h
      · exact h
      · rw [show n.toNatClampNeg - i = 0 by omega] at hl; simp at hl
    obtain ⟨rfl, htodo⟩ : x = i ∧ todo = List.range' (i + 1) (n.toNatClampNeg - (i + 1)) := by
      rw [show n.toNatClampNeg - i = (n.toNatClampNeg - (i + 1)) + 1 by omega, List.range'_succ] at hl
      exact ⟨(List.cons.inj hl).1, (List.cons.inj hl).2⟩
    obtain ⟨g1, g2, g3, g4⟩ := pv_fs_at T c2 c0 n.toNatClampNeg k.toNatClampNeg x
    have hmul : x * k.toNatClampNeg + k.toNatClampNeg ≤ n.toNatClampNeg * k.toNatClampNeg := by
      have := Nat.mul_le_mul_right k.toNatClampNeg (show x + 1 ≤ n.toNatClampNeg from hlt)
      rw [Nat.succ_mul] at this; exact this
    simp only [wp_bind']
    refine pv_wp1 (by rw [g3]; exact hkc) hkind hk h3 h4 (by rw [g1]; omega) (by rw [g4]; omega) ?_
    simp only [wp_bind', W.writeLoc, wp_pure']
    refine ⟨pv_fo c2 n.toNatClampNeg T.heap.size x, by rw [State.heap_pushCell_of_lt (h := show T.heap.size < (pv_fs T c2 c0 n.toNatClampNeg k.toNatClampNeg x).heap.size by omega)]; exact g2, fun z => (by cases z), by rw [pv_fo_size]; exact hlt, ?_, hnext _ _ _ ⟨x + 1, hlt, htodo, ?_⟩⟩
    · show State.fitsSlot _ c2 .none _ _ = true
      simp [State.fitsSlot, State.slotType?, g3, hk2, hkind2]
      rfl
    · rw [g1, pv_fo_set]; rfl
  · rintro U d' acts' ⟨i, hi, hl, rfl⟩
    have hiN : i = n.toNatClampNeg := by
      rcases Nat.lt_or_ge i n.toNatClampNeg with h | h
      · rw [show n.toNatClampNeg - i = (n.toNatClampNeg - (i + 1)) + 1 by omega, List.range'_succ] at hl; cases hl
      · omega
    subst hiN
    simp only [wp_pure']
    exact hq _ _
/-- new int[n][k]: the step -/
theorem pv_multi {R : Room} {T : State} {cells slots : Nat} (X : Stand p l e R s m args below meth c T locs cells slots) (hexec : p.tables.exec = Jvm.exec) {own : String} {index : Nat} (hown : s.vm.findClass own = some m.cls) (hclink : (Cond.classLink own index "[[I").before args s = true) {c2 c0 : ClassId} (hn2 : s.vm.findClass "[[I" = some c2) (hk2 : ∃ k2 : Class, s.vm.classes[c2]? = some k2 ∧ k2.kind = .array c0 (.array .int)) (hk0 : ∃ (kc : Class) (cc : ClassId), s.vm.classes[c0]? = some kc ∧ kc.kind = .array cc .int)
    {g : JFrame} (hg : g.method = m) (hdg : decode c.code g.pc = .ok (.multianewarray index 2, 4)) {n k : Int32} {rest : List Value} (hstack : g.stack = .int k :: .int n :: rest) (hn : ¬ n < 0) (hk : ¬ k < 0) (hb1 : n.toNatClampNeg * 4 ≤ 536870912) (hb2 : k.toNatClampNeg * 4 ≤ 536870912) (hcells : cells + (1 + n.toNatClampNeg) ≤ R.cells) (hslots : slots + (n.toNatClampNeg + n.toNatClampNeg * k.toNatClampNeg) ≤ R.slots) :
    ∃ vm₁ : Vm, Stand p l e R s m args below meth c (pv_fs (T.setVm vm₁) c2 c0 n.toNatClampNeg k.toNatClampNeg n.toNatClampNeg) (locs ++ (List.range n.toNatClampNeg).map fun j => ⟨T.heap.size, j⟩) (cells + 1 + n.toNatClampNeg) (slots + n.toNatClampNeg + n.toNatClampNeg * k.toNatClampNeg) ∧
      ∀ target, Steps p.tables e below ((pv_fs (T.setVm vm₁) c2 c0 n.toNatClampNeg k.toNatClampNeg n.toNatClampNeg).setTop { g with pc := g.pc + 4, stack := .ref T.heap.size :: rest }) target → Steps p.tables e below (T.setTop g) target := by
  subst hg
  have hpl : e.platform.magicAccessors = ({} : Platform).magicAccessors := by rw [X.admits.platform]
  obtain ⟨k2, hk2, hkind2⟩ := hk2
  obtain ⟨kc, cc, hkc, hkindc⟩ := hk0
  obtain ⟨c9, hfc9, hcl⟩ := Cond.classLink_spec hown hclink e.platform hpl
  cases hn2.symm.trans hfc9
  obtain ⟨hg₁, hwarm₁, hready₁⟩ := State.classEntry (e := e) X.warmed hcl
  generalize T.vm.noted g.method.cls index (.cls c2) = vm₁ at hg₁ hwarm₁ hready₁
  have hal : s.vm.Alike vm₁ := hwarm₁.alike
  obtain ⟨k2', hk2', he2⟩ := hal.2.2 _ _ hk2
  obtain ⟨kc', hkc', hec⟩ := hal.2.2 _ _ hkc
  have X₁ := X.noted hwarm₁
  obtain ⟨hr1, hr2⟩ := X.roomAbove hcells hslots
  have XF := pv_fs_stand X₁ c2 c0 n.toNatClampNeg k.toNatClampNeg n.toNatClampNeg
  refine ⟨vm₁, XF, fun target hrest => ?_⟩
  have h1 : ¬ n.toNatClampNeg > e.platform.arrayLengthLimit := by rw [Launch.admits_arrayLengthLimit X.admits]; omega
  have h2 : ¬ n.toNatClampNeg * 4 > e.platform.maxHeapBytes := by rw [Launch.admits_maxHeapBytes X.admits]; omega
  have h3 : ¬ k.toNatClampNeg > e.platform.arrayLengthLimit := by rw [Launch.admits_arrayLengthLimit X.admits]; omega
  have h4 : ¬ k.toNatClampNeg * 4 > e.platform.maxHeapBytes := by rw [Launch.admits_maxHeapBytes X.admits]; omega
  jvm_step X.here [hexec, hdg]
  simp only [multianewarray.sem, wp_bind', W.resolveClassAt_links (State.method?_setTop g X.here.top) hg₁]
  rw [W.popN, if_neg (by decide)]
  refine ⟨g, State.topJava?_setTop' (s := T.setVm vm₁) g X.here.top, [.int n, .int k], rest, rfl, hstack, ?_⟩
  simp only [List.mapM_cons, List.mapM_nil, wp_bind', wp_pure']
  refine pv_wp2 (k2 := k2') (kc := kc') (c0 := c0) (cc := cc) hk2' (by rw [he2]; exact hkind2) hkc' (by rw [hec]; exact hkindc) hn hk h1 h2 h3 h4 (by show T.heap.size + 1 + _ ≤ _; omega) (by show T.slotsUsed + _ + _ ≤ _; omega) (fun d' acts' => ?_)
  have eS : ((T.setTop g).setVm vm₁).setTop { g with stack := rest } = (T.setVm vm₁).setTop { g with stack := rest } := by
    show ((T.setVm vm₁).setTop g).setTop _ = _
    rw [State.setTop_setTop]
  rw [eS, pv_fs_top]
  simp only [wp_bind', W.mark, W.pushRef, State.topJava?_setTop' _ XF.here.top, Option.some.injEq, exists_eq_left', State.setTop_setTop, State.heap_setTop]
  intro acts
  simp [jvm, XF.here.top]
  exact hrest
set_option maxRecDepth 100000 in
theorem pv_ml3 : lw_tbl[85]? = some (.classLink (pv_own 3) 17 "[[I") ∧ lw_tbl[135]? = some (.classLink (pv_own 5) 30 "[[I") := by decide +kernel
theorem pv_h3_ok (X : pv_cx y p s m args meth c D ca) (hP : pv_P b D ca A H) (hS : va_S (pv_A b) H0 H locs) {i : Instr} {n cu su cu' su' : Nat} {st st' : List Value} {A' : pv_H} (hd : decode (pv_cd y) pc = .ok (i, n)) (h : pv_h3 y i n st A cu su = some (st', A', cu', su'))
    (kk : ∀ (H1 : Heap) (locs1 : List Loc), pv_P b D ca A' H1 → va_S (pv_A b) H0 H1 locs1 → W p l e (pv_room y) s m args below meth c H1 locs1 cu' su' Q (F0 m (pc + n) ls (st'.map (pv_t b)))) : W p l e (pv_room y) s m args below meth c H locs cu su Q (F0 m pc ls (st.map (pv_t b))) := by
  obtain ⟨hx, hb, hml, hr, hlk, hnm, hown, hts, hK⟩ := X
  unfold pv_h3 at h
  split at h
  · next x k j st0 =>
    split at h
    · next hc =>
      cases h
      obtain ⟨hlink, hj, hk, hb1, hb2, hcu, hsu⟩ := hc
      have hcl : (Cond.classLink (pv_own (pv_cn y)) x "[[I").before args s = true := by
        rcases hlink with ⟨q1, q2⟩ | ⟨q1, q2⟩
        · rw [q1, q2]; exact hts _ (pv_mem _ pv_ml3.1 rfl)
        · rw [q1, q2]; exact hts _ (pv_mem _ pv_ml3.2 rfl)
      have hn2 : s.vm.findClass "[[I" = some (ca 2) := (hK.1.2 2 _ pv_ty2).2
      obtain ⟨-, kc, hkc, cc, hkkc⟩ := (hK.1.2 0 _ pv_ty0).1 0 (fun _ => .null)
      intro T hT X
      obtain ⟨vm₁, X', step⟩ := pv_multi X hx hown hcl hn2 hK.2.2.2 ⟨kc, cc, hkc, hkkc⟩ (g := F0 m pc ls (.int k :: .int j :: st0.map (pv_t b))) rfl (by rw [hb]; exact hd) rfl hj hk hb1 hb2 hcu hsu
      have hTh : (T.setVm vm₁).heap = H := hT
      have hsz : T.heap.size = b + A.1 := by rw [hT]; exact hP.1
      generalize hF : pv_fs (T.setVm vm₁) (ca 2) (ca 0) j.toNatClampNeg k.toNatClampNeg j.toNatClampNeg = F at X' step
      obtain ⟨g1, g2, -, -⟩ := pv_fs_at (T.setVm vm₁) (ca 2) (ca 0) j.toNatClampNeg k.toNatClampNeg j.toNatClampNeg
      rw [hF, hTh] at g1 g2
      have hold : ∀ q : Nat, q < H.size → F.heap[q]? = H[q]? := fun q hq => by
        have := pv_fs_old (T.setVm vm₁) (ca 2) (ca 0) j.toNatClampNeg k.toNatClampNeg (a := q) (by rw [hTh]; exact hq) j.toNatClampNeg
        rw [hF, hTh] at this
        exact this
      have hrow : ∀ r : Nat, r < j.toNatClampNeg → F.heap[H.size + 1 + r]? = some (pv_fi (ca 0) k.toNatClampNeg) := fun r hr9 => by
        have := pv_fs_row (T.setVm vm₁) (ca 2) (ca 0) j.toNatClampNeg k.toNatClampNeg j.toNatClampNeg r hr9
        rw [hF, hTh] at this
        exact this
      have hP' : pv_P b D ca (A.1 + 1 + j.toNatClampNeg, pv_mu A j.toNatClampNeg k.toNatClampNeg) F.heap := by
        refine ⟨by rw [g1, hP.1]; show b + A.1 + 1 + _ = b + (A.1 + 1 + _); omega, fun q9 w hw => ?_⟩
        obtain ⟨hl9, rfl⟩ := pv_w_some hw
        have hl9 : q9 < A.1 + 1 + j.toNatClampNeg := hl9
        show va_at D vwCl (b + q9, pv_e b ca (pv_mu A j.toNatClampNeg k.toNatClampNeg q9)) F.heap
        unfold pv_mu
        by_cases e1 : q9 = A.1
        · rw [if_pos e1, e1, ← hP.1]
          show F.heap[H.size]? = some (vp_cell _ _)
          rw [g2]
          show some (pv_fo (ca 2) j.toNatClampNeg H.size j.toNatClampNeg) = some (vp_cell (ca 2) (j.toNatClampNeg, .inr (.inr (.inr (.inr (fun i => if i < j.toNatClampNeg then some (b + (A.1 + 1 + i)) else none))))))
          rw [vp_cell_q]
          unfold pv_fo
          rw [hP.1]
          refine congrArg some (congrArg (arrV _ _) (funext fun j9 => ?_))
          show va_rf _ = va_rf _
          by_cases e2 : j9 < j.toNatClampNeg
          · rw [if_pos e2, if_pos e2]
            congr 2
            omega
          · rw [if_neg e2, if_neg e2]
        · rw [if_neg e1]
          by_cases e2 : A.1 < q9 ∧ q9 < A.1 + 1 + j.toNatClampNeg
          · rw [if_pos e2]
            show F.heap[b + q9]? = some (vp_cell _ _)
            have h9 := hrow (q9 - (A.1 + 1)) (by omega)
            rw [hP.1, show b + A.1 + 1 + (q9 - (A.1 + 1)) = b + q9 by omega] at h9
            rw [h9]
            rfl
          · rw [if_neg e2]
            have h9 := hP.2 q9 _ (pv_w_get (show q9 < A.1 by omega))
            exact h9.kept (hold _ (by rw [hP.1]; show b + q9 < b + A.1; omega))
      have hS' : va_S (pv_A b) H0 F.heap (locs ++ (List.range j.toNatClampNeg).map fun j9 => ⟨T.heap.size, j9⟩) := by
        refine ⟨by rw [g1]; exact Nat.le_trans hS.1 (by omega), fun q h1 h2 => (hold q (Nat.lt_of_lt_of_le h1 hS.1)).trans (hS.2.1 q h1 h2), fun q hq => ?_⟩
        rcases List.mem_append.mp hq with h9 | h9
        · exact hS.2.2 q h9
        · obtain ⟨z, -, hz⟩ := List.mem_map.mp h9
          rw [← hz]
          show b ≤ T.heap.size
          omega
      have X'' : Stand p l e (pv_room y) s m args below meth c F (locs ++ (List.range j.toNatClampNeg).map fun j9 => ⟨T.heap.size, j9⟩) (cu + (1 + j.toNatClampNeg)) (su + (j.toNatClampNeg + j.toNatClampNeg * k.toNatClampNeg)) := by
        rw [show cu + (1 + j.toNatClampNeg) = cu + 1 + j.toNatClampNeg by omega, show su + (j.toNatClampNeg + j.toNatClampNeg * k.toNatClampNeg) = su + j.toNatClampNeg + j.toNatClampNeg * k.toNatClampNeg by omega]
        exact X'
      obtain ⟨t, a1, b1⟩ := kk F.heap _ hP' hS' F rfl X''
      refine ⟨t, step t ?_, b1⟩
      rw [hsz]
      exact a1
    · cases h
  · cases h
theorem pv_h2_cu {y : pv_Y} {i : Instr} {n cu su cu' su' : Nat} {st st' : List Value} {A A' : pv_H} (h : pv_h2 y i n st A cu su = some (st', A', cu', su')) (hcu : cu ≤ pv_mc y) (hsu : su ≤ pv_ms y) : cu' ≤ pv_mc y ∧ su' ≤ pv_ms y := by
  unfold pv_h2 at h
  split at h
  · split at h
    · split at h
      · split at h
        · next hr => cases h; exact hr
        · cases h
      · cases h
    · cases h
  · split at h
    · cases h
    · next hc => cases h; exact ⟨Classical.byContradiction fun q => hc (Or.inr (Or.inr (Or.inl q))), Classical.byContradiction fun q => hc (Or.inr (Or.inr (Or.inr q)))⟩
  · split at h
    · cases h
    · next hc => cases h; exact ⟨Classical.byContradiction fun q => hc (Or.inr (Or.inr (Or.inl q))), Classical.byContradiction fun q => hc (Or.inr (Or.inr (Or.inr q)))⟩
  · split at h
    · split at h
      · cases h; exact ⟨hcu, hsu⟩
      · cases h
    · cases h
  · split at h
    · split at h
      · split at h
        · cases h
        · cases h; exact ⟨hcu, hsu⟩
      · cases h
    · cases h
  · cases h
theorem pv_h3_cu {y : pv_Y} {i : Instr} {n cu su cu' su' : Nat} {st st' : List Value} {A A' : pv_H} (h : pv_h3 y i n st A cu su = some (st', A', cu', su')) : cu' ≤ pv_mc y ∧ su' ≤ pv_ms y := by
  unfold pv_h3 at h
  split at h
  · split at h
    · next hc => cases h; exact ⟨hc.2.2.2.2.2.1, hc.2.2.2.2.2.2⟩
    · cases h
  · cases h
set_option maxHeartbeats 1000000 in
theorem pv_mx_ok (X : pv_cx y p s m args meth c D ca) {i : Instr} {n cu su : Nat} {st st' : List Value} (hls : ls.size = pv_ml y) (hd : decode (pv_cd y) pc = .ok (i, n)) (h : pv_mx y i n st = some st') (hcu : cu ≤ pv_mc y) (hsu : su ≤ pv_ms y)
    (k : W p l e (pv_room y) s m args below meth c H locs cu su Q (F0 m (pc + n) ls (st'.map (pv_t b)))) : W p l e (pv_room y) s m args below meth c H locs cu su Q (F0 m pc ls (st.map (pv_t b))) := by
  obtain ⟨hx, hb, hml, hr, hlk, hnm, hown, hts, hK⟩ := X
  unfold pv_mx at h
  split at h
  · split at h
    · next x v st0 e0 he =>
      have hm := List.mem_of_find?_eq_some he
      have hp := List.find?_some he
      simp only [Bool.and_eq_true, beq_iff_eq] at hp
      have hw := pv_LX_ok e0 hm
      rw [hp.1, hp.2] at hw
      have hw := hts _ (pv_mem _ hw rfl)
      split at h
      · next hroom =>
        obtain ⟨hf, hlc⟩ := hroom
        split at h
        · next a st1 h0 =>
          cases h
          rw [h0] at hw
          exact va_mmax hx hb (hml.trans hls.symm) hown hw (hts _ (pv_mem _ pv_xs.1 rfl)) (hts _ (pv_mem _ pv_xs.2.2.2 rfl)) (hts _ (pv_mem _ pv_xc.1 rfl)) hf (by rw [pv_sum_t]; exact Nat.le_trans (by unfold pv_sum; simp) hlc) hcu hsu hd k
        · next a st1 h0 =>
          cases h
          rw [h0] at hw
          exact va_mmin hx hb (hml.trans hls.symm) hown hw (hts _ (pv_mem _ pv_xs.2.1 rfl)) (hts _ (pv_mem _ pv_xs.2.2.2 rfl)) (hts _ (pv_mem _ pv_xc.2.1 rfl)) hf (by rw [pv_sum_t]; exact Nat.le_trans (by unfold pv_sum; simp) hlc) hcu hsu hd k
        · next h0 =>
          cases h
          rw [h0] at hw
          exact va_mabs hx hb (hml.trans hls.symm) hown hw (hts _ (pv_mem _ pv_xs.2.2.1 rfl)) (hts _ (pv_mem _ pv_xs.2.2.2 rfl)) (hts _ (pv_mem _ pv_xc.2.2 rfl)) hf (by rw [pv_sum_t]; exact hlc) hcu hsu hd k
        · cases h
      · cases h
    · cases h
  · cases h
end PV5
