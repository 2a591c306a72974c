/-! ===== longs; lots ===== -/
theorem sb_l {a b : Int64} (h : -9223372036854775808 ≤ a.toInt - b.toInt) (h2 : a.toInt - b.toInt < 9223372036854775808) : (a - b).toInt = a.toInt - b.toInt := by
  rw [Int64.toInt_sub]
  exact Int.bmod_eq_of_le (by omega) (by omega)
theorem ad_l {a b : Int64} (h : -9223372036854775808 ≤ a.toInt + b.toInt) (h2 : a.toInt + b.toInt < 9223372036854775808) : (a + b).toInt = a.toInt + b.toInt := by
  rw [Int64.toInt_add]
  exact Int.bmod_eq_of_le (by omega) (by omega)
theorem ml_l {a b : Int64} (h : -9223372036854775808 ≤ a.toInt * b.toInt) (h2 : a.toInt * b.toInt < 9223372036854775808) : (a * b).toInt = a.toInt * b.toInt := by
  rw [Int64.toInt_mul]
  exact Int.bmod_eq_of_le (by omega) (by omega)
theorem dv_l {a b : Int64} (ha : 0 ≤ a.toInt) (hb : 0 < b.toInt) : (a / b).toInt = a.toInt / b.toInt := by
  rw [Int64.toInt_div_of_ne_right _ _ (fun q => by rw [q, show (-1 : Int64).toInt = -1 from by decide] at hb; omega), Int.tdiv_eq_ediv_of_nonneg ha]
theorem rm_l {a b : Int64} (ha : 0 ≤ a.toInt) (hb : 0 < b.toInt) : (a - a / b * b).toInt = a.toInt % b.toInt := by
  have h64 := a.toInt_lt
  have e1 := dv_l ha hb
  have l1 : a.toInt / b.toInt * b.toInt ≤ a.toInt := Int.ediv_mul_le _ (by omega)
  have l0 : 0 ≤ a.toInt / b.toInt * b.toInt := Int.mul_nonneg (Int.ediv_nonneg ha (by omega)) (by omega)
  have e2 : (a / b * b).toInt = a.toInt / b.toInt * b.toInt := by rw [ml_l (by rw [e1]; omega) (by rw [e1]; omega), e1]
  rw [sb_l (by rw [e2]; omega) (by rw [e2]; omega), e2]
  have := Int.emod_add_mul_ediv a.toInt b.toInt
  rw [Int.mul_comm] at this
  omega
theorem to32 {a : Int64} (h : -2147483648 ≤ a.toInt) (h2 : a.toInt < 2147483648) : (Int64.toInt32 a).toInt = a.toInt := by
  rw [Int64.toInt_toInt32]
  exact Int.bmod_eq_of_le (by omega) (by omega)
/-- the next lot; the deed that it draws -/
def lt_x (x : Int64) : Int64 := 48271 * x - 48271 * x / 2147483647 * 2147483647
def lt_w (x : Int64) : Int32 := Int64.toInt32 (x / 8 - x / 8 / 4 * 4)
def lt_c (n : Nat) (x : Int64) : Int32 := Int64.toInt32 (x - x / Int32.toInt64 (nI n) * Int32.toInt64 (nI n))
def lt_d (n : Nat) (N : Nat → Int32) (x : Int64) : Int32 := if lt_w x = 0 then 10 + lt_c n x else if lt_w x = 1 then 21 else if lt_w x = 2 ∧ N (N 9).toNatClampNeg ≤ N 8 then 31 else 0
theorem lt_in {x : Int64} (h0 : 0 ≤ x.toInt) (h1 : x.toInt < 2147483648) : 0 ≤ (lt_x x).toInt ∧ (lt_x x).toInt < 2147483648 := by
  have k1 : (48271 : Int64).toInt = 48271 := by decide
  have k2 : (2147483647 : Int64).toInt = 2147483647 := by decide
  have e1 : (48271 * x).toInt = 48271 * x.toInt := by rw [ml_l (by rw [k1]; omega) (by rw [k1]; omega), k1]
  unfold lt_x
  rw [rm_l (by rw [e1]; omega) (by rw [k2]; omega), k2]
  omega
theorem lt_cc {n : Nat} {x : Int64} (hn : n ≤ 6) (h : n ≠ 0) (h0 : 0 ≤ x.toInt) : ∃ p, p < n ∧ lt_c n x = nI p := by
  have k1 : (Int32.toInt64 (nI n)).toInt = n := by rw [Int32.toInt_toInt64, nIt (by omega)]
  have e : (x - x / Int32.toInt64 (nI n) * Int32.toInt64 (nI n)).toInt = x.toInt % n := by rw [rm_l h0 (by rw [k1]; omega), k1]
  have m0 := Int.emod_nonneg x.toInt (show (n : Int) ≠ 0 by omega)
  have m1 := Int.emod_lt_of_pos x.toInt (show (0 : Int) < n by omega)
  have e2 : (lt_c n x).toInt = x.toInt % n := by
    unfold lt_c
    rw [to32 (by rw [e]; omega) (by rw [e]; omega), e]
  obtain ⟨p, e3, hp⟩ := nIex (x := lt_c n x) (by rw [e2]; exact m0)
  exact ⟨p, by omega, e3⟩
theorem lt_ok {n : Nat} {N : Nat → Int32} {x : Int64} (hn : n ≤ 6) (h : n ≠ 0) (h0 : 0 ≤ x.toInt) : tw_ok n (lt_d n N x) := by
  unfold lt_d
  by_cases q1 : lt_w x = 0
  · rw [if_pos q1]
    obtain ⟨p, hp, e⟩ := lt_cc hn h h0
    rw [e, show (10 : Int32) = nI 10 from rfl, nIadd]
    exact Or.inr (Or.inl (by rw [nIt (by omega)]; omega))
  rw [if_neg q1]
  by_cases q2 : lt_w x = 1
  · rw [if_pos q2]; exact Or.inr (Or.inr (Or.inl (by decide)))
  rw [if_neg q2]
  by_cases q3 : lt_w x = 2 ∧ N (N 9).toNatClampNeg ≤ N 8
  · rw [if_pos q3]; exact Or.inr (Or.inr (Or.inr (Or.inl (by decide))))
  rw [if_neg q3]; exact Or.inl rfl
/-- deeds and lot behind k draws -/
def lq (rp : (Nat → Int32) → Nat → Nat → Int32) (n c : Nat) (dl : Nat → Int32) (x : Int64) : Nat → (Nat → Int32) × Int64
  | 0 => (dl, x)
  | k + 1 => (upd (lq rp n c dl x k).1 (c + k) (lt_d n (rp (lq rp n c dl x k).1 (c + k)) (lt_x (lq rp n c dl x k).2)), lt_x (lq rp n c dl x k).2)
theorem lq_in {rp : (Nat → Int32) → Nat → Nat → Int32} {n c : Nat} {dl : Nat → Int32} {x : Int64} (h0 : 0 ≤ x.toInt) (h1 : x.toInt < 2147483648) : ∀ k, 0 ≤ (lq rp n c dl x k).2.toInt ∧ (lq rp n c dl x k).2.toInt < 2147483648
  | 0 => ⟨h0, h1⟩
  | k + 1 => lt_in (lq_in h0 h1 k).1 (lq_in h0 h1 k).2
theorem lq_ok {rp : (Nat → Int32) → Nat → Nat → Int32} {n c : Nat} {dl : Nat → Int32} {x : Int64} (hn : n ≤ 6) (h : n ≠ 0) (h0 : 0 ≤ x.toInt) (h1 : x.toInt < 2147483648) (ok : ∀ d, d < c → tw_ok n (dl d)) : ∀ k d, d < c + k → tw_ok n ((lq rp n c dl x k).1 d)
  | 0, d, hd => ok d hd
  | k + 1, d, hd => ok_upd (c' := c + k) (lq_ok hn h h0 h1 ok k) (lt_ok hn h (lt_in (lq_in h0 h1 k).1 (lq_in h0 h1 k).2).1) d (by omega)
section LT
variable {S S1 S2 Z : pv_S} {n c c' : Nat} {dl : Nat → Int32}
theorem x_goodsC {x : Int32} (B : Bs S n) (C : Cst S n c' dl Z) (hc : c' ≤ 40) (ok : ∀ d, d < c' → tw_ok n (dl d)) : pv_R mX5_hasGoodsFor 0 [some (.ref 21), some (.int x)] [] (pv_em Z) = some (some (.int (bI (x * tw_rp n (S.1 22) (S.1 23) (S.1 24) dl c' (tw_rp n (S.1 22) (S.1 23) (S.1 24) dl c' 9).toNatClampNeg ≤ tw_rp n (S.1 22) (S.1 23) (S.1 24) dl c' 8))), pv_em Z) := by
  simp only [bX5_hasGoodsFor_0, bX5_hasGoodsFor_9, bX5_hasGoodsFor_13, bX5_hasGoodsFor_17, bX5_hasGoodsFor_18, x_poundC B C hc ok, pv_cc_some, vn0, vn1, if_true, C.2.2.2.2.2.2.2.2.2.1]
  by_cases q : x * tw_rp n (S.1 22) (S.1 23) (S.1 24) dl c' (tw_rp n (S.1 22) (S.1 23) (S.1 24) dl c' 9).toNatClampNeg ≤ tw_rp n (S.1 22) (S.1 23) (S.1 24) dl c' 8
  · rw [bI_t q, if_neg (Int32.not_lt.mpr q)]
  · rw [bI_f q, if_pos (Int32.not_le.mp q)]
theorem x_byLot {x : Int64} (B : Bs S n) (h : n ≠ 0) (C : Cst S n c' dl Z) (hc : c' ≤ 40) (ok : ∀ d, d < c' → tw_ok n (dl d)) {a : Option Value} : pv_R mX6_deedByLot 0 [some (.ref 0), some (.long x), none, a] [] (pv_em Z) = some (some (.int (lt_d n (tw_rp n (S.1 22) (S.1 23) (S.1 24) dl c') x)), pv_em Z) := by
  have h7 : Z.1 21 7 = nI n := C.2.2.1.trans B.2.1
  have hn := B.1
  unfold lt_d
  rw [bX6_deedByLot_0]
  show (if ¬ lt_w x = 0 then pv_R mX6_deedByLot 40 [some (.ref 0), some (.long x), none, some (.int (lt_w x))] [] (pv_em Z) else pv_R mX6_deedByLot 15 [some (.ref 0), some (.long x), none, some (.int (lt_w x))] [] (pv_em Z)) = _
  by_cases q1 : lt_w x = 0
  · rw [if_neg (fun q => q q1), if_pos q1, bX6_deedByLot_15, h7, if_neg (by rw [show (0 : Int32) = nI 0 from rfl, nIle (by omega) (by omega)]; omega), bX6_deedByLot_25, h7, if_neg]
    · rfl
    · intro q
      have := congrArg Int64.toInt q
      rw [Int32.toInt_toInt64, nIt (by omega), j0] at this
      omega
  rw [if_pos q1, if_neg q1, bX6_deedByLot_40]
  by_cases q2 : lt_w x = 1
  · rw [if_neg (fun q => q q2), if_pos q2, bX6_deedByLot_45]
  rw [if_pos q2, if_neg q2, bX6_deedByLot_48]
  by_cases q3 : lt_w x = 2
  · rw [if_neg (fun q => q q3), bX6_deedByLot_53, x_goodsC B C hc ok, pv_cc_some, bX6_deedByLot_61, Int32.one_mul]
    by_cases q4 : tw_rp n (S.1 22) (S.1 23) (S.1 24) dl c' (tw_rp n (S.1 22) (S.1 23) (S.1 24) dl c' 9).toNatClampNeg ≤ tw_rp n (S.1 22) (S.1 23) (S.1 24) dl c' 8
    · rw [bI_t q4, if_neg (by decide), if_pos ⟨q3, q4⟩, bX6_deedByLot_64]
    · rw [bI_f q4, if_pos rfl, if_neg (fun q => q4 q.2), bX6_deedByLot_67]
  · rw [if_pos q3, if_neg (fun q => q3 q.1), bX6_deedByLot_67]
theorem m_plays {x : Int64} (B : Bs S n) (h : n ≠ 0) (M : Mst S n c' dl Z) (hc : c' < 40) (ok : ∀ d, d < c' → tw_ok n (dl d)) (h0 : 0 ≤ x.toInt) : ∃ Z', pv_R mX7_plays 0 [some (.ref 37), some (.int (lt_w x)), some (.int (lt_c n x))] [] (pv_em Z) = some (none, pv_em Z') ∧ Mst S n (c' + 1) (upd dl c' (lt_d n (tw_rp n (S.1 22) (S.1 23) (S.1 24) dl c') x)) Z' := by
  have hn := B.1
  obtain ⟨p, hp, ep⟩ := lt_cc (n := n) (x := x) hn h h0
  unfold lt_d
  rw [bX7_plays_0]
  by_cases q1 : lt_w x = 0
  · obtain ⟨Z', e, M'⟩ := m_eats B M hc (i := p) hp
    refine ⟨Z', ?_, ?_⟩
    · rw [if_neg (fun q => q q1), bX7_plays_4, ep, e, pv_cc_void, bX7_plays_9, bX7_plays_56]
    · rw [if_pos q1, ep, show (10 : Int32) = nI 10 from rfl, nIadd]; exact M'
  rw [if_pos q1, if_neg q1, bX7_plays_12]
  by_cases q2 : lt_w x = 1
  · obtain ⟨Z', e, M'⟩ := m_buys B M hc ok (x := 1) (deed := 21) (by decide)
    refine ⟨Z', ?_, ?_⟩
    · rw [if_neg (fun q => q q2), bX7_plays_17, e, pv_cc_void, bX7_plays_22, bX7_plays_56]
    · rw [if_pos q2]; exact M'
  rw [if_pos q2, if_neg q2, bX7_plays_25]
  by_cases q3 : lt_w x = 2
  · rw [if_neg (fun q => q q3), bX7_plays_30, m_poundM B M (by omega) ok, pv_cc_some, bX7_plays_41, show (8 : Int32).toNatClampNeg = 8 from by decide, M.2.2.2.2.1 8 (by omega)]
    by_cases q4 : tw_rp n (S.1 22) (S.1 23) (S.1 24) dl c' (tw_rp n (S.1 22) (S.1 23) (S.1 24) dl c' 9).toNatClampNeg ≤ tw_rp n (S.1 22) (S.1 23) (S.1 24) dl c' 8
    · obtain ⟨Z', e, M'⟩ := m_buys B M hc ok (x := -1) (deed := 31) (by decide)
      refine ⟨Z', ?_, ?_⟩
      · rw [if_neg (Int32.not_lt.mpr q4), bX7_plays_44, e, pv_cc_void, bX7_plays_49, bX7_plays_56]
      · rw [if_pos ⟨q3, q4⟩]; exact M'
    · obtain ⟨Z', e, M'⟩ := m_hourGoes B M hc ok (a := none)
      refine ⟨Z', ?_, ?_⟩
      · rw [if_pos (Int32.not_le.mp q4), bX7_plays_52, e, pv_cc_void, bX7_plays_56]
      · rw [if_neg (fun q => q4 q.2)]; exact M'
  · obtain ⟨Z', e, M'⟩ := m_hourGoes B M hc ok (a := none)
    refine ⟨Z', ?_, ?_⟩
    · rw [if_pos q3, bX7_plays_52, e, pv_cc_void, bX7_plays_56]
    · rw [if_neg (fun q => q3 q.1)]; exact M'
theorem tq_lots (I : Inv S) (w s : Int32) : pv_goI Inv S mX6_lots mX7_lots [.int w, .int s] := by
  obtain ⟨n, c, T⟩ := tw_of I
  have hn := tw_n T
  have hc := tw_c T
  have k1 : (2147483646 : Int32).toInt = 2147483646 := by decide
  have k2 : (2147483646 : Int64).toInt = 2147483646 := by decide
  by_cases hw : 1 ≤ w.toInt ∧ w.toInt ≤ 20
  · by_cases hs : 1 ≤ s.toInt ∧ s.toInt ≤ 2147483646
    · by_cases h : n = 0
      · subst h
        refine ⟨-4, S, S, ?_, ?_, I⟩
        · show pv_R mX6_lots 0 [some (.ref 0), some (.int w), some (.int s), none, none, none] [] (pv_em S) = _
          simp only [bX6_lots_0, bX6_lots_7, bX6_lots_10, bX6_lots_18, bX6_lots_21, bX6_lots_23, bX6_lots_33, bX6_lots_36, bX6_lots_44, bX6_lots_47, bX6_lots_50, bX6_lots_62, bX6_lots_81, bX6_lots_84, bX6_lots_90, bX6_lots_97, x_within, hw, hs, i1, i20, k1, tw_x7 T, show nI 0 = 0 from rfl, pv_cc_some, bI_0, and_self, not_true_eq_false, not_false_eq_true, if_true, if_false]
        · show pv_R mX7_lots 0 [some (.ref 37), some (.int w), some (.int s), none, none, none] [] (pv_em S) = _
          simp only [bX7_lots_0, bX7_lots_9, bX7_lots_12, bX7_lots_21, bX7_lots_24, bX7_lots_26, bX7_lots_33, bX7_lots_36, bX7_lots_47, bX7_lots_50, bX7_lots_62, bX7_lots_94, bX7_lots_100, bX7_lots_104, c_in, hw, hs, j1, j20, k2, Int32.toInt_toInt64, tw_m4 T, show nI 0 = 0 from rfl, pv_cc_some, bI_0, and_self, not_true_eq_false, not_false_eq_true, if_true, if_false]
      · have z := nI0 hn h
        obtain ⟨m, e, hm⟩ := nIex (x := w) (by omega)
        subst e
        have lm : (nI c + nI m ≤ 40) = (c + m ≤ 40) := by rw [nIadd, show (40 : Int32) = nI 40 from rfl, nIle (by omega) (by omega)]
        by_cases f : c + m ≤ 40
        · have fx : ((c : Int) + (nI m).toInt ≤ 40) = True := eq_true (by omega)
          have fm : (nI c + nI m ≤ 40) = True := eq_true (lm.mpr f)
          have B := Bs_Tw T
          have ok : ∀ d, d < c → tw_ok n (S.1 26 d) := fun d hd => tw_dd T hd
          have s0 : 0 ≤ (Int32.toInt64 s).toInt := by rw [Int32.toInt_toInt64]; omega
          have s1 : (Int32.toInt64 s).toInt < 2147483648 := by rw [Int32.toInt_toInt64]; omega
          have okq := fun k => lq_ok (rp := tw_rp n (S.1 22) (S.1 23) (S.1 24)) (c := c) (dl := S.1 26) hn h s0 s1 ok k
          have inq := fun k => lq_in (rp := tw_rp n (S.1 22) (S.1 23) (S.1 24)) (n := n) (c := c) (dl := S.1 26) s0 s1 k
          obtain ⟨⟨x1, S1⟩, e1, hx1, C⟩ := lpE (R := fun k (q : Int64 × pv_S) => pv_R mX6_lots 56 [some (.ref 0), some (.int (nI m)), some (.int s), some (.long q.1), none, some (.int (nI k))] [] (pv_em q.2)) (N := m) (fun k q => q.1 = (lq (tw_rp n (S.1 22) (S.1 23) (S.1 24)) n c (S.1 26) (Int32.toInt64 s) k).2 ∧ Cst S n (c + k) (lq (tw_rp n (S.1 22) (S.1 23) (S.1 24)) n c (S.1 26) (Int32.toInt64 s) k).1 q.2) (fun k q hk hP => by
            obtain ⟨x, Z⟩ := q
            obtain ⟨h1, C⟩ := hP
            have h1 : x = (lq (tw_rp n (S.1 22) (S.1 23) (S.1 24)) n c (S.1 26) (Int32.toInt64 s) k).2 := h1
            have C : Cst S n (c + k) (lq (tw_rp n (S.1 22) (S.1 23) (S.1 24)) n c (S.1 26) (Int32.toInt64 s) k).1 Z := C
            have okd : tw_ok n (lt_d n (tw_rp n (S.1 22) (S.1 23) (S.1 24) (lq (tw_rp n (S.1 22) (S.1 23) (S.1 24)) n c (S.1 26) (Int32.toInt64 s) k).1 (c + k)) (lt_x x)) := lt_ok hn h (by rw [h1]; exact (lt_in (inq k).1 (inq k).2).1)
            obtain ⟨Z', e, C'⟩ := x_doDeed B C (by omega) (okq k) okd
            refine ⟨(lt_x x, Z'), ?_, by rw [h1]; rfl, by rw [h1] at C'; exact C'⟩
            refine Eq.trans bX6_lots_56 ?_
            rw [if_neg (by rw [nIle (by omega) (by omega)]; omega), bX6_lots_62]
            show pv_cc (pv_R mX6_deedByLot 0 [some (.ref 0), some (.long (lt_x x)), none, none] [] (pv_em Z)) mX6_lots 81 [some (.ref 0), some (.int (nI m)), some (.int s), some (.long (lt_x x)), none, some (.int (nI k))] [.ref 21] = _
            rw [x_byLot B h C (by omega) (okq k), pv_cc_some, bX6_lots_81, e, pv_cc_void, bX6_lots_84, nIs]; rfl) m 0 (Int32.toInt64 s, S) (by omega) ⟨rfl, Cst_0 T⟩
          have C : Cst S n (c + m) (lq (tw_rp n (S.1 22) (S.1 23) (S.1 24)) n c (S.1 26) (Int32.toInt64 s) m).1 S1 := C
          have B1 := Bs_C B C
          have rp := C_rp C
          obtain ⟨⟨x2, S2⟩, e2, hx2, M⟩ := lpE (R := fun k (q : Int64 × pv_S) => pv_R mX7_lots 56 [some (.ref 37), some (.int (nI m)), some (.int s), some (.long q.1), none, some (.int (nI k))] [] (pv_em q.2)) (N := m) (fun k q => q.1 = (lq (tw_rp n (S.1 22) (S.1 23) (S.1 24)) n c (S.1 26) (Int32.toInt64 s) k).2 ∧ Mst S1 n (c + k) (lq (tw_rp n (S.1 22) (S.1 23) (S.1 24)) n c (S.1 26) (Int32.toInt64 s) k).1 q.2) (fun k q hk hP => by
            obtain ⟨x, Z⟩ := q
            obtain ⟨h1, M⟩ := hP
            have h1 : x = (lq (tw_rp n (S.1 22) (S.1 23) (S.1 24)) n c (S.1 26) (Int32.toInt64 s) k).2 := h1
            have M : Mst S1 n (c + k) (lq (tw_rp n (S.1 22) (S.1 23) (S.1 24)) n c (S.1 26) (Int32.toInt64 s) k).1 Z := M
            obtain ⟨Z', e, M'⟩ := m_plays B1 h M (by omega) (okq k) (x := lt_x x) (by rw [h1]; exact (lt_in (inq k).1 (inq k).2).1)
            refine ⟨(lt_x x, Z'), ?_, by rw [h1]; rfl, by rw [h1, rp] at M'; exact M'⟩
            refine Eq.trans bX7_lots_56 ?_
            have e4 : Z.1 37 4 = nI n := (M.2.2.1 4 (by decide)).trans B1.2.2.1
            rw [if_neg (by rw [nIle (by omega) (by omega)]; omega), bX7_lots_62, e4, if_neg (fun q => by
              have := congrArg Int64.toInt q
              rw [Int32.toInt_toInt64, nIt (by omega), j0] at this
              omega)]
            show pv_cc (pv_R mX7_plays 0 [some (.ref 37), some (.int (lt_w (lt_x x))), some (.int (lt_c n (lt_x x)))] [] (pv_em Z)) mX7_lots 94 [some (.ref 37), some (.int (nI m)), some (.int s), some (.long (lt_x x)), none, some (.int (nI k))] [] = _
            rw [e, pv_cc_void, bX7_lots_94, nIs]; rfl) m 0 (Int32.toInt64 s, S1) (by omega) ⟨rfl, Mst_0 T C⟩
          have M : Mst S1 n (c + m) (lq (tw_rp n (S.1 22) (S.1 23) (S.1 24)) n c (S.1 26) (Int32.toInt64 s) m).1 S2 := M
          have okm := okq m
          generalize (lq (tw_rp n (S.1 22) (S.1 23) (S.1 24)) n c (S.1 26) (Int32.toInt64 s) m).1 = dl at C M okm
          refine ⟨tw_rp n (S.1 22) (S.1 23) (S.1 24) dl (c + m) (tw_rp n (S.1 22) (S.1 23) (S.1 24) dl (c + m) 9).toNatClampNeg, S1, S2, ?_, ?_, (Inv_st I T C M (by omega) okm).1⟩
          · show pv_R mX6_lots 0 [some (.ref 0), some (.int (nI m)), some (.int s), none, none, none] [] (pv_em S) = _
            have el : pv_R mX6_lots 56 [some (.ref 0), some (.int (nI m)), some (.int s), some (.long (Int32.toInt64 s)), none, some (.int 0)] [] (pv_em S) = some (some (.int (tw_rp n (S.1 22) (S.1 23) (S.1 24) dl (c + m) (tw_rp n (S.1 22) (S.1 23) (S.1 24) dl (c + m) 9).toNatClampNeg)), pv_em S1) := by
              refine Eq.trans e1 ?_
              show pv_R mX6_lots 56 _ _ _ = _
              rw [bX6_lots_56, if_pos (Int32.le_refl _), bX6_lots_90, x_poundC B C (by omega) okm, pv_cc_some, bX6_lots_97]
            simp only [bX6_lots_0, bX6_lots_7, bX6_lots_10, bX6_lots_18, bX6_lots_21, bX6_lots_23, bX6_lots_33, bX6_lots_36, bX6_lots_44, bX6_lots_47, bX6_lots_50, bX6_lots_62, bX6_lots_81, bX6_lots_84, bX6_lots_90, bX6_lots_97, x_within, hw, hs, i1, i20, k1, tw_x7 T, z, x_room (tw_x13 T) hc (x := nI m) (by omega) (by omega), fx, el, pv_cc_some, pv_cc_void, bI_0, and_self, not_true_eq_false, not_false_eq_true, if_true, if_false]
          · show pv_R mX7_lots 0 [some (.ref 37), some (.int (nI m)), some (.int s), none, none, none] [] (pv_em S1) = _
            have el : pv_R mX7_lots 56 [some (.ref 37), some (.int (nI m)), some (.int s), some (.long (Int32.toInt64 s)), none, some (.int 0)] [] (pv_em S1) = some (some (.int (tw_rp n (S.1 22) (S.1 23) (S.1 24) dl (c + m) (tw_rp n (S.1 22) (S.1 23) (S.1 24) dl (c + m) 9).toNatClampNeg)), pv_em S2) := by
              refine Eq.trans e2 ?_
              show pv_R mX7_lots 56 _ _ _ = _
              rw [bX7_lots_56, if_pos (Int32.le_refl _), bX7_lots_100, m_poundM B1 M (by omega) okm, pv_cc_some, bX7_lots_104, rp]
            have h9 : S1.1 37 9 = nI c := by rw [C.1 37 (by decide) (by decide) (by decide)]; exact tw_m9 T
            simp only [bX7_lots_0, bX7_lots_9, bX7_lots_12, bX7_lots_21, bX7_lots_24, bX7_lots_26, bX7_lots_33, bX7_lots_36, bX7_lots_47, bX7_lots_50, bX7_lots_62, bX7_lots_94, bX7_lots_100, bX7_lots_104, c_in, hw, hs, j1, j20, k2, Int32.toInt_toInt64, B1.2.2.1, z, h9, fm, el, pv_cc_some, pv_cc_void, bI_0, and_self, not_true_eq_false, not_false_eq_true, if_true, if_false]
        · have fx : ((c : Int) + (nI m).toInt ≤ 40) = False := eq_false (by omega)
          have fm : (nI c + nI m ≤ 40) = False := eq_false (fun q => f (lm.mp q))
          refine ⟨-2, S, S, ?_, ?_, I⟩
          · show pv_R mX6_lots 0 [some (.ref 0), some (.int (nI m)), some (.int s), none, none, none] [] (pv_em S) = _
            simp only [bX6_lots_0, bX6_lots_7, bX6_lots_10, bX6_lots_18, bX6_lots_21, bX6_lots_23, bX6_lots_33, bX6_lots_36, bX6_lots_44, bX6_lots_47, bX6_lots_50, bX6_lots_62, bX6_lots_81, bX6_lots_84, bX6_lots_90, bX6_lots_97, x_within, hw, hs, i1, i20, k1, tw_x7 T, z, x_room (tw_x13 T) hc (x := nI m) (by omega) (by omega), fx, pv_cc_some, bI_0, and_self, not_true_eq_false, not_false_eq_true, if_true, if_false]
          · show pv_R mX7_lots 0 [some (.ref 37), some (.int (nI m)), some (.int s), none, none, none] [] (pv_em S) = _
            simp only [bX7_lots_0, bX7_lots_9, bX7_lots_12, bX7_lots_21, bX7_lots_24, bX7_lots_26, bX7_lots_33, bX7_lots_36, bX7_lots_47, bX7_lots_50, bX7_lots_62, bX7_lots_94, bX7_lots_100, bX7_lots_104, c_in, hw, hs, j1, j20, k2, Int32.toInt_toInt64, tw_m4 T, z, tw_m9 T, fm, pv_cc_some, bI_0, and_self, not_true_eq_false, not_false_eq_true, if_true, if_false]
    · refine ⟨-1, S, S, ?_, ?_, I⟩
      · show pv_R mX6_lots 0 [some (.ref 0), some (.int w), some (.int s), none, none, none] [] (pv_em S) = _
        simp only [bX6_lots_0, bX6_lots_7, bX6_lots_10, bX6_lots_18, bX6_lots_21, bX6_lots_23, bX6_lots_33, bX6_lots_36, bX6_lots_44, bX6_lots_47, bX6_lots_50, bX6_lots_62, bX6_lots_81, bX6_lots_84, bX6_lots_90, bX6_lots_97, x_within, hw, hs, i1, i20, k1, pv_cc_some, bI_0, and_self, not_true_eq_false, not_false_eq_true, if_true, if_false]
      · show pv_R mX7_lots 0 [some (.ref 37), some (.int w), some (.int s), none, none, none] [] (pv_em S) = _
        simp only [bX7_lots_0, bX7_lots_9, bX7_lots_12, bX7_lots_21, bX7_lots_24, bX7_lots_26, bX7_lots_33, bX7_lots_36, bX7_lots_47, bX7_lots_50, bX7_lots_62, bX7_lots_94, bX7_lots_100, bX7_lots_104, c_in, hw, hs, j1, j20, k2, Int32.toInt_toInt64, pv_cc_some, bI_0, and_self, not_true_eq_false, not_false_eq_true, if_true, if_false]
  · refine ⟨-1, S, S, ?_, ?_, I⟩
    · show pv_R mX6_lots 0 [some (.ref 0), some (.int w), some (.int s), none, none, none] [] (pv_em S) = _
      simp only [bX6_lots_0, bX6_lots_7, bX6_lots_10, bX6_lots_18, bX6_lots_21, bX6_lots_23, bX6_lots_33, bX6_lots_36, bX6_lots_44, bX6_lots_47, bX6_lots_50, bX6_lots_62, bX6_lots_81, bX6_lots_84, bX6_lots_90, bX6_lots_97, x_within, hw, i1, i20, pv_cc_some, bI_0, not_true_eq_false, not_false_eq_true, if_true, if_false]
    · show pv_R mX7_lots 0 [some (.ref 37), some (.int w), some (.int s), none, none, none] [] (pv_em S) = _
      simp only [bX7_lots_0, bX7_lots_9, bX7_lots_12, bX7_lots_21, bX7_lots_24, bX7_lots_26, bX7_lots_33, bX7_lots_36, bX7_lots_47, bX7_lots_50, bX7_lots_62, bX7_lots_94, bX7_lots_100, bX7_lots_104, c_in, hw, j1, j20, Int32.toInt_toInt64, pv_cc_some, bI_0, not_true_eq_false, not_false_eq_true, if_true, if_false]
end LT
