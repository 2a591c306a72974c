/-! ===== more steps as equations ===== -/
def pv_swt (z lo : Int) (tg : List Nat) (dt : Nat) : Nat := if z < lo ∨ lo + tg.length ≤ z then dt else tg.getD (z - lo).toNat dt
def pv_lkt (z : Int) : List (Int × Nat) → Nat → Nat
  | [], dt => dt
  | (a, t) :: r, dt => if z = a then t else pv_lkt z r dt
section PV9
variable {y : pv_Y} {pc : Nat} {loc : pv_L} {st : List Value} {A : pv_H} {i : Instr} {n : Nat}
theorem pv_Ric {v : Int} {w : Int32} (hd : decode (pv_cd y) pc = .ok (.iconst v, 1)) (hv : Int32.ofInt v = w) : pv_R y pc loc st A = pv_R y (pc + 1) loc (.int w :: st) A := by
  subst hv
  exact pv_Rstp hd rfl rfl rfl
theorem pv_Rbp {v : Int} {w : Int32} (hd : decode (pv_cd y) pc = .ok (.bipush v, 2)) (hv : (Int8.ofInt v).toInt32 = w) : pv_R y pc loc st A = pv_R y (pc + 2) loc (.int w :: st) A := by
  subst hv
  exact pv_Rstp hd rfl rfl rfl
theorem pv_Rsp {v : Int} {w : Int32} (hd : decode (pv_cd y) pc = .ok (.sipush v, 3)) (hv : (Int16.ofInt v).toInt32 = w) : pv_R y pc loc st A = pv_R y (pc + 3) loc (.int w :: st) A := by
  subst hv
  exact pv_Rstp hd rfl rfl rfl
theorem pv_Rlc {v : Fin 2} {w : Int64} (hd : decode (pv_cd y) pc = .ok (.lconst v, 1)) (hv : Int64.ofNat (v : Nat) = w) : pv_R y pc loc st A = pv_R y (pc + 1) loc (.long w :: st) A := by
  subst hv
  exact pv_Rstp hd rfl rfl rfl
theorem pv_Rinc {k : Nat} {c : Int} {x w : Int32} {loc' : pv_L} (hd : decode (pv_cd y) pc = .ok (.iinc k c, 3)) (hx : loc[k]? = some (some (.int x))) (hk : k < loc.length) (hc : Int32.ofInt c = w) (hl : pv_st1 loc k (.int (x + w)) = loc') : pv_R y pc loc st A = pv_R y (pc + 3) loc' st A := by
  subst hc
  subst hl
  refine pv_Rstp hd rfl rfl ?_
  have e1 : pv_s (.iinc k c) 3 st = none := rfl
  have e2 : pv_l (.iinc k c) 3 loc st = some (pv_st1 loc k (.int (x + Int32.ofInt c)), st) := by simp only [pv_l, hx, if_pos hk]
  unfold pv_stp
  rw [e1, e2]
theorem pv_Rdiv {a b : Int32} (hd : decode (pv_cd y) pc = .ok (.idiv, 1)) : pv_R y pc loc (.int b :: .int a :: st) A = if b = 0 then none else pv_R y (pc + 1) loc (.int (a / b) :: st) A := by
  by_cases q : b = 0
  · rw [if_pos q]
    refine pv_Rerr hd rfl rfl ?_
    have e1 : pv_s .idiv 1 (.int b :: .int a :: st) = none := by simp only [pv_s, if_pos q]
    unfold pv_stp
    rw [e1]
    rfl
  · rw [if_neg q]
    refine pv_Rstp hd rfl rfl ?_
    have e1 : pv_s .idiv 1 (.int b :: .int a :: st) = some (.int (a / b) :: st) := by simp only [pv_s, if_neg q]
    unfold pv_stp
    rw [e1]
theorem pv_Rrem {a b : Int32} (hd : decode (pv_cd y) pc = .ok (.irem, 1)) : pv_R y pc loc (.int b :: .int a :: st) A = if b = 0 then none else pv_R y (pc + 1) loc (.int (a - a / b * b) :: st) A := by
  by_cases q : b = 0
  · rw [if_pos q]
    refine pv_Rerr hd rfl rfl ?_
    have e1 : pv_s .irem 1 (.int b :: .int a :: st) = none := by simp only [pv_s, if_pos q]
    unfold pv_stp
    rw [e1]
    rfl
  · rw [if_neg q]
    refine pv_Rstp hd rfl rfl ?_
    have e1 : pv_s .irem 1 (.int b :: .int a :: st) = some (.int (a - a / b * b) :: st) := by simp only [pv_s, if_neg q]
    unfold pv_stp
    rw [e1]
theorem pv_Rldiv {a b : Int64} (hd : decode (pv_cd y) pc = .ok (.ldiv, 1)) : pv_R y pc loc (.long b :: .long a :: st) A = if b = 0 then none else pv_R y (pc + 1) loc (.long (a / b) :: st) A := by
  by_cases q : b = 0
  · rw [if_pos q]
    refine pv_Rerr hd rfl rfl ?_
    have e1 : pv_s .ldiv 1 (.long b :: .long a :: st) = none := by simp only [pv_s, if_pos q]
    unfold pv_stp
    rw [e1]
    rfl
  · rw [if_neg q]
    refine pv_Rstp hd rfl rfl ?_
    have e1 : pv_s .ldiv 1 (.long b :: .long a :: st) = some (.long (a / b) :: st) := by simp only [pv_s, if_neg q]
    unfold pv_stp
    rw [e1]
theorem pv_Rlrem {a b : Int64} (hd : decode (pv_cd y) pc = .ok (.lrem, 1)) : pv_R y pc loc (.long b :: .long a :: st) A = if b = 0 then none else pv_R y (pc + 1) loc (.long (a - a / b * b) :: st) A := by
  by_cases q : b = 0
  · rw [if_pos q]
    refine pv_Rerr hd rfl rfl ?_
    have e1 : pv_s .lrem 1 (.long b :: .long a :: st) = none := by simp only [pv_s, if_pos q]
    unfold pv_stp
    rw [e1]
    rfl
  · rw [if_neg q]
    refine pv_Rstp hd rfl rfl ?_
    have e1 : pv_s .lrem 1 (.long b :: .long a :: st) = some (.long (a - a / b * b) :: st) := by simp only [pv_s, if_neg q]
    unfold pv_stp
    rw [e1]
theorem pv_Rbr {c : Prop} {dc : Decidable c} {o : Int} {st' : List Value} {tgt : Nat} (hd : decode (pv_cd y) pc = .ok (i, n)) (hr : pv_r y i n st = none) (hi : pv_inv y i n st A 0 0 = none) (hs : pv_s i n st = none) (hl : pv_l i n loc st = none) (hb : pv_b i n st = some (o, @decide c dc, st')) (ht : (pc : Int) + o = (tgt : Int)) : pv_R y pc loc st A = if c then pv_R y tgt loc st' A else pv_R y (pc + 3) loc st' A := by
  have h0 : 0 ≤ (pc : Int) + o := by rw [ht]; exact Int.natCast_nonneg tgt
  have h1 : pv_stp y i n pc loc st A 0 0 = some (pv_pc pc o (@decide c dc), loc, st', A, 0, 0) := by
    unfold pv_stp
    rw [hs, hl, hb]
    simp only [if_pos h0]
  rw [pv_Rstp hd hr hi h1]
  unfold pv_pc
  by_cases q : c
  · rw [if_pos q, if_pos (decide_eq_true q), ht, Int.toNat_natCast]
  · rw [if_neg q, if_neg (fun z => q (of_decide_eq_true z))]
theorem pv_Rgo {o : Int} {tgt : Nat} (hd : decode (pv_cd y) pc = .ok (.goto o, 3)) (hu : (0 : Nat) = 0) (ht : (pc : Int) + o = (tgt : Int)) : pv_R y pc loc st A = pv_R y tgt loc st A := by
  have h0 : 0 ≤ (pc : Int) + o := by rw [ht]; exact Int.natCast_nonneg tgt
  refine pv_Rstp hd rfl rfl ?_
  have e1 : pv_s (.goto o) 3 st = none := rfl
  have e2 : pv_l (.goto o) 3 loc st = none := rfl
  have e3 : pv_b (.goto o) 3 st = some (o, true, st) := rfl
  unfold pv_stp
  rw [e1, e2, e3]
  simp only [if_pos h0, pv_pc, ht, Int.toNat_natCast]
  rfl
theorem pv_Rzret {v : Int32} (hd : decode (pv_cd y) pc = .ok (.ireturn, 1)) (hr : pv_rt y = some .boolean) : pv_R y pc loc [.int v] A = if vp_nar .boolean v = v then some (some (.int v), A) else none := by
  by_cases q : vp_nar .boolean v = v
  · rw [if_pos q]
    refine pv_Rret hd ?_
    simp only [pv_r, hr, if_pos q]
  · rw [if_neg q]
    refine pv_Rerr hd ?_ rfl rfl
    simp only [pv_r, hr, if_neg q]
theorem pv_Rmx {x : Nat} {st' : List Value} (hd : decode (pv_cd y) pc = .ok (.invokestatic x, 3)) (hm : pv_mf (pv_cn y) x = none) (h : pv_mx y (.invokestatic x) 3 st = some st') (h2 : pv_h2 y (.invokestatic x) 3 st A 0 0 = none) : pv_R y pc loc st A = pv_R y (pc + 3) loc st' A := by
  refine pv_Rstp hd rfl ?_ ?_
  · unfold pv_inv
    show (match pv_mf (pv_cn y) x with
      | some (kk, z) => _
      | none => none) = none
    rw [hm]
  · have e1 : pv_s (.invokestatic x) 3 st = none := rfl
    have e2 : pv_l (.invokestatic x) 3 loc st = none := rfl
    have e3 : pv_b (.invokestatic x) 3 st = none := rfl
    have e4 : pv_h1 y (.invokestatic x) 3 st A = none := rfl
    have e6 : pv_h3 y (.invokestatic x) 3 st A 0 0 = none := rfl
    unfold pv_stp
    rw [e1, e2, e3, e4, h2, e6, h]
theorem pv_Rcall {k x kk : Nat} {z : pv_Y} {As rest : List Value} {ent : pv_L} (hd : decode (pv_cd y) pc = .ok (i, 3)) (hv : pv_iv i 3 = some (k, x)) (hm : pv_mf (pv_cn y) x = some (kk, z)) (hst : As.reverse ++ rest = st) (hna : As.length = pv_na kk z) (hck : pv_ck y z k kk 0 0 As rest A = true) (hz : (pv_mc z, pv_ms z) = (0, 0)) (hent : pv_ent As (pv_ml z) = ent) : pv_R y pc loc st A = pv_cc (pv_R z 0 ent [] A) y (pc + 3) loc rest := by
  subst hst
  subst hent
  have e0 : (pv_mc z, pv_ms z) = (0, 0) := hz
  have ht : (As.reverse ++ rest).take (pv_na kk z) = As.reverse := by rw [← hna, ← List.length_reverse, List.take_left]
  have hdp : (As.reverse ++ rest).drop (pv_na kk z) = rest := by rw [← hna, ← List.length_reverse, List.drop_left]
  refine pv_Rinv hd ?_ ?_ (congrArg Prod.fst e0) (congrArg Prod.snd e0)
  · unfold pv_iv at hv
    split at hv
    · rfl
    · rfl
    · rfl
    · cases hv
  · unfold pv_inv
    rw [hv]
    dsimp only
    rw [hm]
    dsimp only
    rw [ht, hdp, List.reverse_reverse, if_pos hck]
theorem pv_Rtab {d lo hi : Int} {os : Array Int} {x : Int32} {tg : List Nat} {dt : Nat} (hd : decode (pv_cd y) pc = .ok (.tableswitch d lo hi os, n)) (hc : (pc : Int) + d = (dt : Int) ∧ os.toList.map (fun o => (pc : Int) + o) = tg.map (fun t : Nat => (t : Int)) ∧ hi + 1 = lo + tg.length) : pv_R y pc loc (.int x :: st) A = pv_R y (pv_swt x.toInt lo tg dt) loc st A := by
  obtain ⟨h1, h2, h3⟩ := hc
  refine pv_Rstp hd rfl rfl ?_
  have e1 : pv_s (.tableswitch d lo hi os) n (.int x :: st) = none := rfl
  have e2 : pv_l (.tableswitch d lo hi os) n loc (.int x :: st) = none := rfl
  by_cases q : x.toInt < lo ∨ hi < x.toInt
  · have e3 : pv_b (.tableswitch d lo hi os) n (.int x :: st) = some (d, true, st) := by simp only [pv_b, if_pos q]
    unfold pv_stp
    rw [e1, e2, e3]
    have h0 : 0 ≤ (pc : Int) + d := by rw [h1]; exact Int.natCast_nonneg dt
    have q' : x.toInt < lo ∨ lo + tg.length ≤ x.toInt := by omega
    simp only [if_pos h0, pv_pc, h1, Int.toNat_natCast, pv_swt, if_pos q']
    rfl
  · have q' : ¬ (x.toInt < lo ∨ lo + tg.length ≤ x.toInt) := by omega
    have hlt : (x.toInt - lo).toNat < tg.length := by omega
    obtain ⟨t, ht⟩ : ∃ t, tg[(x.toInt - lo).toNat]? = some t := ⟨_, List.getElem?_eq_getElem hlt⟩
    have h4 : (os.toList.map (fun o => (pc : Int) + o))[(x.toInt - lo).toNat]? = some (t : Int) := by rw [h2, List.getElem?_map, ht]; rfl
    rw [List.getElem?_map] at h4
    cases ho : os.toList[(x.toInt - lo).toNat]? with
    | none => rw [ho] at h4; cases h4
    | some o =>
      rw [ho] at h4
      have h5 : (pc : Int) + o = (t : Int) := Option.some.inj h4
      have ho' : os[(x.toInt - lo).toNat]? = some o := by rw [← Array.getElem?_toList]; exact ho
      have e3 : pv_b (.tableswitch d lo hi os) n (.int x :: st) = some (o, true, st) := by
        simp only [pv_b, if_neg q, ho']
        rfl
      unfold pv_stp
      rw [e1, e2, e3]
      have h0 : 0 ≤ (pc : Int) + o := by rw [h5]; exact Int.natCast_nonneg t
      simp only [if_pos h0, pv_pc, h5, Int.toNat_natCast, pv_swt, if_neg q', List.getD_eq_getElem?_getD, ht]
      rfl
theorem pv_lko (pc : Nat) (z : Int) {d : Int} {dt : Nat} (h1 : (pc : Int) + d = (dt : Int)) : ∀ (ps : List (Int × Int)) (tg : List (Int × Nat)), ps.map (fun q => (q.1, (pc : Int) + q.2)) = tg.map (fun q : Int × Nat => (q.1, (q.2 : Int))) → (pc : Int) + Op.lookupswitch.offset ps d z = ((pv_lkt z tg dt : Nat) : Int)
  | [], [], _ => by simpa [Op.lookupswitch.offset, pv_lkt] using h1
  | [], _ :: _, h => by simp at h
  | _ :: _, [], h => by simp at h
  | (a, o) :: ps, (b, t) :: tg, h => by
    have ih := pv_lko pc z h1 ps tg
    simp only [List.map_cons, List.cons.injEq, Prod.mk.injEq] at h
    obtain ⟨⟨h2, h3⟩, h4⟩ := h
    subst h2
    by_cases q : z = a
    · simp [Op.lookupswitch.offset, pv_lkt, q, h3]
    · have q' : ¬ a = z := fun w => q w.symm
      simpa [Op.lookupswitch.offset, pv_lkt, q, q'] using ih h4
theorem pv_Rlook {d : Int} {ps : Array (Int × Int)} {x : Int32} {tg : List (Int × Nat)} {dt : Nat} (hd : decode (pv_cd y) pc = .ok (.lookupswitch d ps, n)) (hs : (ps.toList.zip (ps.toList.drop 1)).all (fun (a, next) => a.1 < next.1) = true) (hc : (pc : Int) + d = (dt : Int) ∧ ps.toList.map (fun q => (q.1, (pc : Int) + q.2)) = tg.map (fun q : Int × Nat => (q.1, (q.2 : Int)))) : pv_R y pc loc (.int x :: st) A = pv_R y (pv_lkt x.toInt tg dt) loc st A := by
  refine pv_Rstp hd rfl rfl ?_
  have e1 : pv_s (.lookupswitch d ps) n (.int x :: st) = none := rfl
  have e2 : pv_l (.lookupswitch d ps) n loc (.int x :: st) = none := rfl
  have e3 : pv_b (.lookupswitch d ps) n (.int x :: st) = some (Op.lookupswitch.offset ps.toList d x.toInt, true, st) := by simp only [pv_b, if_pos hs]
  have h5 := pv_lko pc x.toInt hc.1 ps.toList tg hc.2
  have h0 : 0 ≤ (pc : Int) + Op.lookupswitch.offset ps.toList d x.toInt := by rw [h5]; exact Int.natCast_nonneg _
  unfold pv_stp
  rw [e1, e2, e3]
  simp only [if_pos h0, pv_pc, h5, Int.toNat_natCast]
  rfl
theorem pv_cc_some {v : Value} {rest : List Value} : pv_cc (some (some v, A)) y pc loc rest = pv_R y pc loc (v :: rest) A := rfl
theorem pv_cc_void {rest : List Value} : pv_cc (some (none, A)) y pc loc rest = pv_R y pc loc rest A := rfl
theorem pv_cc_none {rest : List Value} : pv_cc none y pc loc rest = none := rfl
theorem pv_cc_ite {c : Prop} {dc : Decidable c} {a b : Option (Option Value × pv_H)} {rest : List Value} : pv_cc (if c then a else b) y pc loc rest = if c then pv_cc a y pc loc rest else pv_cc b y pc loc rest := by
  by_cases q : c
  · rw [if_pos q, if_pos q]
  · rw [if_neg q, if_neg q]
end PV9
