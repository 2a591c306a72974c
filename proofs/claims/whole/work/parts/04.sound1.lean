/-! ===== the engine's steps over the machine: stack, locals, branches ===== -/
section PV1
variable {p : Program} {l : Launch} {e : Env} {R : Room} {s : State} {m : MethodId} {args : Array Value} {below : List Frame} {meth : Method} {c : Code} {H : Heap} {locs : List Loc} {cells slots : Nat} {Q : State → Prop}
variable {cc : ByteArray} {pc : Nat} {ls : Array Slot} {b : Nat}
set_option maxHeartbeats 4000000 in
theorem pv_s_ok (hx : p.tables.exec = Jvm.exec) (hb : c.code = cc) {i : Instr} {n : Nat} {st st' : List Value} (hd : decode cc pc = .ok (i, n)) (h : pv_s i n st = some st')
    (k : W p l e R s m args below meth c H locs cells slots Q (F0 m (pc + n) ls (st'.map (pv_t b)))) : W p l e R s m args below meth c H locs cells slots Q (F0 m pc ls (st.map (pv_t b))) := by
  unfold pv_s at h
  split at h
  · cases h; exact lv_iconst hx hb hd rfl k
  · cases h; exact lv_bipush hx hb hd rfl k
  · cases h; exact lv_sipush hx hb hd rfl k
  · cases h; exact lv_lconst hx hb hd rfl k
  · cases h; exact lv_iadd hx hb hd k
  · cases h; exact lv_isub hx hb hd k
  · cases h; exact lv_imul hx hb hd k
  · cases h; exact lv_iand hx hb hd k
  · cases h; exact lv_ior hx hb hd k
  · cases h; exact lv_ixor hx hb hd k
  · split at h
    · cases h
    · cases h; exact lv_idiv hx hb hd (by assumption) k
  · split at h
    · cases h
    · cases h; exact lv_irem hx hb hd (by assumption) k
  · cases h; exact lv_ineg hx hb hd k
  · cases h; exact lv_ladd hx hb hd k
  · cases h; exact lv_lmul hx hb hd k
  · split at h
    · cases h
    · cases h; exact lv_ldiv hx hb hd (by assumption) k
  · split at h
    · cases h
    · cases h; exact lv_lrem hx hb hd (by assumption) k
  · cases h; exact lv_ishl hx hb hd k
  · cases h; exact lv_ishr hx hb hd k
  · cases h; exact lv_i2l hx hb hd rfl k
  · cases h; exact lv_l2i hx hb hd rfl k
  · cases h; exact lv_i2b hx hb hd rfl k
  · cases h; exact W.lcmp hx hb hd k
  · split at h
    · cases h; exact lv_dup hx hb hd (by rw [pv_cat]; assumption) k
    · cases h
  · split at h
    · next hc => cases h; exact lv_dup2_11 hx hb hd (by rw [pv_cat]; exact hc.1) (by rw [pv_cat]; exact hc.2) k
    · cases h
  · cases h
theorem pv_tgt {pc : Nat} {o : Int} (h : 0 ≤ (pc : Int) + o) : (pc : Int) + o = ((((pc : Int) + o).toNat : Nat) : Int) := by omega
set_option maxHeartbeats 4000000 in
theorem pv_b_ok (hx : p.tables.exec = Jvm.exec) (hb : c.code = cc) {i : Instr} {n : Nat} {st st' : List Value} {o : Int} {t : Bool} (hd : decode cc pc = .ok (i, n)) (h : pv_b i n st = some (o, t, st')) (ho : 0 ≤ (pc : Int) + o)
    (k : W p l e R s m args below meth c H locs cells slots Q (F0 m (pv_pc pc o t) ls (st'.map (pv_t b)))) : W p l e R s m args below meth c H locs cells slots Q (F0 m pc ls (st.map (pv_t b))) := by
  unfold pv_b at h
  split at h
  · cases h
    exact lv_if_eq hx hb hd (pv_tgt ho) (fun w => by rw [pv_pc, if_pos (decide_eq_true w)] at k; exact k) (fun w => by rw [pv_pc, if_neg (fun z => w (of_decide_eq_true z))] at k; exact k)
  · cases h
    exact lv_if_ne hx hb hd (pv_tgt ho) (fun w => by rw [pv_pc, if_pos (decide_eq_true w)] at k; exact k) (fun w => by rw [pv_pc, if_neg (fun z => (of_decide_eq_true z : ¬ _) w)] at k; exact k)
  · cases h
    exact lv_if_lt hx hb hd (pv_tgt ho) (fun w => by rw [pv_pc, if_pos (decide_eq_true w)] at k; exact k) (fun w => by rw [pv_pc, if_neg (fun z => w (of_decide_eq_true z))] at k; exact k)
  · cases h
    exact lv_if_ge hx hb hd (pv_tgt ho) (fun w => by rw [pv_pc, if_pos (decide_eq_true w)] at k; exact k) (fun w => by rw [pv_pc, if_neg (fun z => w (of_decide_eq_true z))] at k; exact k)
  · cases h
    exact lv_if_gt hx hb hd (pv_tgt ho) (fun w => by rw [pv_pc, if_pos (decide_eq_true w)] at k; exact k) (fun w => by rw [pv_pc, if_neg (fun z => w (of_decide_eq_true z))] at k; exact k)
  · cases h
    exact lv_if_le hx hb hd (pv_tgt ho) (fun w => by rw [pv_pc, if_pos (decide_eq_true w)] at k; exact k) (fun w => by rw [pv_pc, if_neg (fun z => w (of_decide_eq_true z))] at k; exact k)
  · cases h
    exact lv_icmp_eq hx hb hd (pv_tgt ho) (fun w => by rw [pv_pc, if_pos (decide_eq_true w)] at k; exact k) (fun w => by rw [pv_pc, if_neg (fun z => w (of_decide_eq_true z))] at k; exact k)
  · cases h
    exact lv_icmp_ne hx hb hd (pv_tgt ho) (fun w => by rw [pv_pc, if_pos (decide_eq_true w)] at k; exact k) (fun w => by rw [pv_pc, if_neg (fun z => (of_decide_eq_true z : ¬ _) w)] at k; exact k)
  · cases h
    exact lv_icmp_lt hx hb hd (pv_tgt ho) (fun w => by rw [pv_pc, if_pos (decide_eq_true w)] at k; exact k) (fun w => by rw [pv_pc, if_neg (fun z => w (of_decide_eq_true z))] at k; exact k)
  · cases h
    exact lv_icmp_ge hx hb hd (pv_tgt ho) (fun w => by rw [pv_pc, if_pos (decide_eq_true w)] at k; exact k) (fun w => by rw [pv_pc, if_neg (fun z => w (of_decide_eq_true z))] at k; exact k)
  · cases h
    exact lv_icmp_gt hx hb hd (pv_tgt ho) (fun w => by rw [pv_pc, if_pos (decide_eq_true w)] at k; exact k) (fun w => by rw [pv_pc, if_neg (fun z => w (of_decide_eq_true z))] at k; exact k)
  · cases h
    exact lv_icmp_le hx hb hd (pv_tgt ho) (fun w => by rw [pv_pc, if_pos (decide_eq_true w)] at k; exact k) (fun w => by rw [pv_pc, if_neg (fun z => w (of_decide_eq_true z))] at k; exact k)
  · cases h
    exact lv_goto hx hb hd (pv_tgt ho) k
  · split at h
    · next w => cases h; exact lv_tableOut hx hb hd w (pv_tgt ho) k
    · next d lo hi os x st w =>
      cases ho2 : os[(x.toInt - lo).toNat]? with
      | none => rw [ho2] at h; cases h
      | some o2 =>
        rw [ho2] at h; cases h
        exact lv_tableIn hx hb hd (fun z => w (Or.inl z)) (fun z => w (Or.inr z)) ho2 (pv_tgt ho) k
  · split at h
    · next w => cases h; exact lv_lookup hx hb hd w rfl (pv_tgt ho) k
    · cases h
  · cases h
/-- the locals as the engine has them -/
def pv_lh (b : Nat) (ls : Array Slot) (nL : Nat) (loc : pv_L) : Prop := ls.size = nL ∧ lv_wf ls ∧ loc.length ≤ nL ∧ ∀ (i : Nat) (v : Value), loc[i]? = some (some v) → ls[i]? = some (.val (pv_t b v))
def pv_ll (b : Nat) (loc : pv_L) : List (Nat × Value) := (List.range loc.length).filterMap (fun j => match loc[j]? with
  | some (some v) => some (j, pv_t b v)
  | _ => none)
theorem pv_ll_mem {b : Nat} {loc : pv_L} {j : Nat} {w : Value} : (j, w) ∈ pv_ll b loc ↔ ∃ v, loc[j]? = some (some v) ∧ w = pv_t b v := by
  unfold pv_ll
  rw [List.mem_filterMap]
  constructor
  · rintro ⟨k, -, hk⟩
    split at hk
    · next v hv => cases hk; exact ⟨v, hv, rfl⟩
    · cases hk
  · rintro ⟨v, hv, rfl⟩
    have hl : j < loc.length := (List.getElem?_eq_some_iff.mp hv).1
    exact ⟨j, List.mem_range.mpr hl, by rw [hv]⟩
theorem pv_lh.has {b : Nat} {ls : Array Slot} {nL : Nat} {loc : pv_L} (h : pv_lh b ls nL loc) : lv_has ls nL (pv_ll b loc) := ⟨h.1, h.2.1, fun q hq => by
  obtain ⟨j, w⟩ := q
  obtain ⟨v, hv, rfl⟩ := pv_ll_mem.mp hq
  exact h.2.2.2 j v hv⟩
theorem pv_md_len : ∀ (loc : pv_L) (i : Nat), (pv_md loc i).length = loc.length
  | [], _ => rfl
  | _ :: _, 0 => rfl
  | _ :: l, j + 1 => congrArg (· + 1) (pv_md_len l j)
theorem pv_md_get : ∀ (loc : pv_L) (i j : Nat), (pv_md loc i)[j]? = if j = i then (loc[j]?).map pv_nl else loc[j]?
  | [], i, j => by simp [pv_md]
  | a :: l, 0, 0 => rfl
  | a :: l, 0, j + 1 => by simp [pv_md]
  | a :: l, i + 1, 0 => by simp [pv_md]
  | a :: l, i + 1, j + 1 => by
    have h := pv_md_get l i j
    simp only [pv_md, List.getElem?_cons_succ]
    rw [h]
    simp
theorem pv_k_len (loc : pv_L) (i : Nat) : (pv_k loc i).length = loc.length := by
  unfold pv_k
  split
  · rfl
  · exact pv_md_len _ _
theorem pv_nl_some {a : Option Value} {v : Value} (h : pv_nl a = some v) : a = some v ∧ ¬ v.category = 2 := by
  unfold pv_nl at h
  split at h
  · cases h
  · cases h
  · next h1 h2 =>
    refine ⟨h, fun q => ?_⟩
    subst h
    cases v <;> simp [Value.category] at q
    · exact h1 _ rfl
    · exact h2 _ rfl
theorem pv_k_get {loc : pv_L} {i j : Nat} {v : Value} (h : (pv_k loc i)[j]? = some (some v)) : loc[j]? = some (some v) ∧ ¬ (j + 1 = i ∧ v.category = 2) := by
  unfold pv_k at h
  split at h
  · exact ⟨h, fun q => by omega⟩
  · next i' =>
    rw [pv_md_get] at h
    split at h
    · next e =>
      subst e
      cases ha : loc[j]? with
      | none => rw [ha] at h; cases h
      | some a =>
        rw [ha] at h
        have h1 : pv_nl a = some v := Option.some.inj h
        obtain ⟨h2, h3⟩ := pv_nl_some h1
        exact ⟨by rw [h2], fun q => h3 q.2⟩
    · next e => exact ⟨h, fun q => by omega⟩
theorem pv_st1_ok {b : Nat} {ls ls' : Array Slot} {nL : Nat} {loc : pv_L} {i : Nat} {v : Value} (h : pv_lh b ls nL loc) (h' : lv_has ls' nL ((i, pv_t b v) :: (pv_ll b loc).filter (fun q => !(q.1 == i) && !(q.1 + 1 == i && q.2.category == 2)))) : pv_lh b ls' nL (pv_st1 loc i v) := by
  refine ⟨h'.1, h'.2.1, by unfold pv_st1; rw [List.length_set, pv_k_len]; exact h.2.2.1, fun j w hw => ?_⟩
  unfold pv_st1 at hw
  rw [List.getElem?_set] at hw
  split at hw
  · next e =>
    subst e
    split at hw
    · cases hw; exact h'.2.2 (_, _) (List.mem_cons_self)
    · cases hw
  · next e =>
    obtain ⟨h1, h2⟩ := pv_k_get hw
    refine h'.2.2 (j, pv_t b w) (List.mem_cons_of_mem _ (List.mem_filter.mpr ⟨pv_ll_mem.mpr ⟨w, h1, rfl⟩, ?_⟩))
    simp only [pv_cat, Bool.and_eq_true, Bool.not_eq_true', beq_eq_false_iff_ne, ne_eq, Bool.and_eq_false_iff]
    refine ⟨fun q => e q.symm, ?_⟩
    by_cases q : j + 1 = i
    · exact Or.inr (fun z => h2 ⟨q, z⟩)
    · exact Or.inl q
theorem pv_st2_ok {b : Nat} {ls ls' : Array Slot} {nL : Nat} {loc : pv_L} {i : Nat} {v : Value} (h : pv_lh b ls nL loc) (h' : lv_has ls' nL ((i, pv_t b v) :: (pv_ll b loc).filter (fun q => !(q.1 == i) && (!(q.1 == i + 1) && !(q.1 + 1 == i && q.2.category == 2))))) : pv_lh b ls' nL (pv_st2 loc i v) := by
  refine ⟨h'.1, h'.2.1, by unfold pv_st2; rw [List.length_set, List.length_set, pv_k_len]; exact h.2.2.1, fun j w hw => ?_⟩
  unfold pv_st2 at hw
  rw [List.getElem?_set] at hw
  split at hw
  · split at hw <;> cases hw
  · next e1 =>
    rw [List.getElem?_set] at hw
    split at hw
    · next e =>
      subst e
      split at hw
      · cases hw; exact h'.2.2 (_, _) (List.mem_cons_self)
      · cases hw
    · next e =>
      obtain ⟨h1, h2⟩ := pv_k_get hw
      refine h'.2.2 (j, pv_t b w) (List.mem_cons_of_mem _ (List.mem_filter.mpr ⟨pv_ll_mem.mpr ⟨w, h1, rfl⟩, ?_⟩))
      simp only [pv_cat, Bool.and_eq_true, Bool.not_eq_true', beq_eq_false_iff_ne, ne_eq, Bool.and_eq_false_iff]
      refine ⟨fun q => e q.symm, fun q => e1 q.symm, ?_⟩
      by_cases q : j + 1 = i
      · exact Or.inr (fun z => h2 ⟨q, z⟩)
      · exact Or.inl q
set_option maxHeartbeats 4000000 in
theorem pv_l_ok (hx : p.tables.exec = Jvm.exec) (hb : c.code = cc) {i : Instr} {n nL : Nat} {loc loc' : pv_L} {st st' : List Value} (hd : decode cc pc = .ok (i, n)) (h : pv_l i n loc st = some (loc', st')) (hl : pv_lh b ls nL loc)
    (k : ∀ ls' : Array Slot, pv_lh b ls' nL loc' → W p l e R s m args below meth c H locs cells slots Q (F0 m (pc + n) ls' (st'.map (pv_t b)))) : W p l e R s m args below meth c H locs cells slots Q (F0 m pc ls (st.map (pv_t b))) := by
  unfold pv_l at h
  split at h
  · split at h
    · next hv => cases h; exact lv_iload_n hx hb hd rfl (hl.2.2.2 _ _ hv) (k ls hl)
    · cases h
  · split at h
    · next hv => cases h; exact lv_iload hx hb hd (hl.2.2.2 _ _ hv) (k ls hl)
    · cases h
  · split at h
    · next hv => cases h; exact lv_lload_n hx hb hd rfl (hl.2.2.2 _ _ hv) (k ls hl)
    · cases h
  · split at h
    · next hv => cases h; exact lv_lload hx hb hd (hl.2.2.2 _ _ hv) (k ls hl)
    · cases h
  · split at h
    · next hv => cases h; exact lv_aload_n hx hb hd rfl (hl.2.2.2 _ _ hv) (k ls hl)
    · cases h
  · split at h
    · next hv => cases h; exact lv_istore_n hx hb hd rfl hl.has (Nat.lt_of_lt_of_le hv hl.2.2.1) rfl (fun ls' h' => k ls' (pv_st1_ok hl h'))
    · cases h
  · split at h
    · next hv => cases h; exact lv_istore hx hb hd hl.has (Nat.lt_of_lt_of_le hv hl.2.2.1) rfl (fun ls' h' => k ls' (pv_st1_ok hl h'))
    · cases h
  · split at h
    · next x _ hv => cases h; exact lv_astore_n (x := b + x) hx hb hd rfl hl.has (Nat.lt_of_lt_of_le hv hl.2.2.1) rfl (fun ls' h' => k ls' (pv_st1_ok (v := .ref x) hl h'))
    · cases h
  · split at h
    · next hv => cases h; exact lv_lstore_n hx hb hd rfl hl.has (Nat.lt_of_lt_of_le hv hl.2.2.1) rfl (fun ls' h' => k ls' (pv_st2_ok hl h'))
    · cases h
  · split at h
    · next hv => cases h; exact lv_lstore hx hb hd hl.has (Nat.lt_of_lt_of_le hv hl.2.2.1) rfl (fun ls' h' => k ls' (pv_st2_ok hl h'))
    · cases h
  · split at h
    · next k0 c0 x hv =>
      split at h
      · next hlt =>
        cases h
        obtain ⟨q, hq⟩ := List.getElem?_of_mem (pv_ll_mem (b := b).mpr ⟨_, hv, rfl⟩)
        exact lv_iinc hx hb hd hl.has hq rfl (Nat.lt_of_lt_of_le hlt hl.2.2.1) rfl (fun ls' h' => k ls' (pv_st1_ok hl h'))
      · cases h
    · cases h
  · cases h
/-- a method's locals as it begins -/
theorem pv_sl_lg (b : Nat) : ∀ (vs : List Value) (i : Nat) (v : Value), (pv_sl vs)[i]? = some (some v) → (lg_sl (vs.map (pv_t b)))[i]? = some (.val (pv_t b v))
  | [], i, v, h => by simp [pv_sl] at h
  | w :: vs, i, v, h => by
    have ih := pv_sl_lg b vs
    cases w <;> (simp only [pv_sl] at h; simp only [lg_sl, List.map_cons, List.flatMap_cons, pv_t, Value.category] at ih ⊢) <;>
      first
      | (match i with
         | 0 => (simp at h; subst h; rfl)
         | 1 => (simp at h)
         | i + 2 => (simp at h; exact ih i v h))
      | (match i with
         | 0 => (simp at h; subst h; rfl)
         | i + 1 => (simp at h; exact ih i v h))
theorem pv_sl_len (b : Nat) : ∀ vs : List Value, (lg_sl (vs.map (pv_t b))).length = (pv_sl vs).length
  | [] => rfl
  | w :: vs => by
    have ih := pv_sl_len b vs
    cases w <;> simp [pv_sl, lg_sl, pv_t, Value.category] at ih ⊢ <;> omega
theorem pv_entry (b : Nat) (vs : List Value) {n : Nat} (h : (pv_sl vs).length ≤ n) : pv_lh b ((lg_sl (vs.map (pv_t b)) ++ List.replicate (n - (lg_sl (vs.map (pv_t b))).length) Slot.unset).toArray) n (pv_ent vs n) := by
  have hl := lv_entry (vs.map (pv_t b)) (n := n) (by rw [pv_sl_len]; exact h)
  refine ⟨hl.1, hl.2.1, by unfold pv_ent; simp; omega, fun i v hv => ?_⟩
  unfold pv_ent at hv
  have hi : i < (pv_sl vs).length := by
    rcases Nat.lt_or_ge i (pv_sl vs).length with q | q
    · exact q
    · rw [List.getElem?_append_right q, List.getElem?_replicate] at hv
      split at hv <;> cases hv
  rw [List.getElem?_append_left hi] at hv
  have h2 := pv_sl_lg b vs i v hv
  simp only [List.getElem?_toArray]
  rw [List.getElem?_append_left (by rw [pv_sl_len]; exact hi)]
  exact h2
end PV1
