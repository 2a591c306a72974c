/-! ===== mean ===== -/
theorem if_c {α : Type} {c d : Prop} {ic : Decidable c} {id : Decidable d} {x y : α} (h : c = d) : @ite α c ic x y = @ite α d id x y := by
  subst h
  congr
theorem nIne {a b : Nat} (ha : a < 100000) (hb : b < 100000) : (¬ nI a = nI b) = ¬ a = b := congrArg Not (nIeq ha hb)
theorem nIz {a : Nat} (ha : a < 100000) : (¬ nI a = 0) = ¬ a = 0 := nIne (b := 0) ha (by omega)
theorem nIp {a : Nat} (ha : a < 100000) : 0 ≤ nI a := by
  rw [show (0 : Int32) = nI 0 from rfl, nIle (by omega) ha]
  exact Nat.zero_le _
theorem ltI {a b : Int32} : (a < b) = (a.toInt < b.toInt) := propext Int32.lt_iff_toInt_lt
theorem leI {a b : Int32} : (a ≤ b) = (a.toInt ≤ b.toInt) := propext Int32.le_iff_toInt_le
def smL (g : Nat → Int32) (N : Nat) : Int64 := itf (fun i (a : Int64) => a + Int32.toInt64 (g i)) N 0 0
theorem smL_congr {g h : Nat → Int32} {N : Nat} (e : ∀ i, i < N → g i = h i) : smL g N = smL h N :=
  itf_congr N 0 0 fun j a _ hj => by rw [e j (by omega)]
theorem nI64 {N : Nat} (h : 0 < N) (hN : N < 100000) : ¬ Int32.toInt64 (nI N) = 0 := fun z => by
  have := congrArg Int64.toInt z
  rw [Int32.toInt_toInt64, nIt hN, j0] at this
  omega
section MN
variable {S : pv_S} {q N : Nat}
theorem x_sum (hq : q < 6) (hN : N ≤ 40) (hs : S.1 2 q = nI N) {a b d : Option Value} : pv_R mX3_sumOf 0 [some (.ref 1), some (.int (nI q)), a, b, d] [] (pv_em S) = some (some (.long (smL (S.1 (4 + q)) N)), pv_em S) := by
  rw [bX3_sumOfr_0]
  refine itf_run (R := fun k (a : Int64) => pv_R mX3_sumOf 5 [some (.ref 1), some (.int (nI q)), some (.long a), none, some (.int (nI k))] [] (pv_em S)) (F := fun a => some (some (.long a), pv_em S)) (N := N) (fun k a h => ?_) (fun a => ?_) N 0 0 (by omega)
  · refine Eq.trans bX3_sumOfr_5 ?_
    rw [if_neg (gx (by omega) (by omega)), nIc (by omega), hs, if_neg (by rw [nIle (by omega) (by omega)]; omega), bX3_sumOfr_16, if_neg (gx (by omega) (by omega)), if_neg (gx (by omega) (by omega)), nIc (by omega), nIc (by omega), nIs]
  · show pv_R mX3_sumOf 5 _ _ _ = _
    rw [bX3_sumOfr_5, if_neg (gx (by omega) (by omega)), nIc (by omega), hs, if_pos (Int32.le_refl _), bX3_sumOfr_35]
theorem m_sum (hq : q < 6) (hN : N ≤ 40) (h0 : 0 < N) (hs : S.1 38 q = nI N) {a b d : Option Value} : pv_R mX7_mean 39 [some (.ref 37), some (.int (nI q)), a, b, d] [] (pv_em S) = some (some (.int 1), pv_em (pv_si S 37 13 (Int64.toInt32 (smL (fun i => S.1 39 (40 * q + i)) N / Int32.toInt64 (nI N))))) := by
  rw [bX7_mean_39]
  refine itf_run (R := fun k (a : Int64) => pv_R mX7_mean 44 [some (.ref 37), some (.int (nI q)), some (.long a), none, some (.int (nI k))] [] (pv_em S)) (F := fun a => some (some (.int 1), pv_em (pv_si S 37 13 (Int64.toInt32 (a / Int32.toInt64 (nI N)))))) (N := N) (fun k a h => ?_) (fun a => ?_) N 0 0 (by omega)
  · refine Eq.trans bX7_mean_44 ?_
    rw [if_neg (gx (by omega) (by omega)), nIc (by omega), hs, if_neg (by rw [nIle (by omega) (by omega)]; omega), bX7_mean_55, e40m (by omega), nIadd, if_neg (gx (by omega) (by omega)), nIc (by omega), nIs]
  · show pv_R mX7_mean 44 _ _ _ = _
    rw [bX7_mean_44, if_neg (gx (by omega) (by omega)), nIc (by omega), hs, if_pos (Int32.le_refl _), bX7_mean_77, if_neg (gx (by omega) (by omega)), nIc (by omega), hs, if_neg (nI64 h0 (by omega)), bX7_tell_0, pv_cc_some, bX7_mean_91]
theorem tq_mean (I : Inv S) (r : Int32) : pv_goI Inv S mX6_mean mX7_mean [.int r] := by
  by_cases hr : 0 ≤ r.toInt ∧ r.toInt ≤ 5
  · obtain ⟨q, rfl, hq'⟩ := nIex hr.1
    have hq : q < 6 := by omega
    have hc : (nI q).toNatClampNeg = q := nIc (by omega)
    have hx := gx (k := q) (N := 6) hq (by omega)
    obtain ⟨g1, g2, g3, g4⟩ := I.1 q hq
    by_cases hs : 0 ≤ (S.1 2 q).toInt
    · have hs' : 0 ≤ (S.1 2 (nI q).toNatClampNeg).toInt := by rw [hc]; exact hs
      obtain ⟨N, eN, hN⟩ := nIex hs
      have hN40 : N ≤ 40 := by omega
      by_cases h0 : N = 0
      · subst h0
        refine ⟨-3, xf S 4, _, ?_, ?_, Inv_find (f := 4) I (by omega) (by omega)⟩
        · show pv_R mX6_mean 0 [some (.ref 0), some (.int (nI q)), none, none] [] (pv_em S) = _
          rw [bX6_mean_0, x_miss_r2 hr hs', pv_cc_some, bX6_mean_9, if_pos rfl, bX6_mean_16, x_size hq, pv_cc_some, eN, bX6_mean_24, if_neg (by decide), bX6_mean_30, x_find_4, pv_cc_some, bX6_mean_38]
        · show pv_R mX7_mean 0 [some (.ref 37), some (.int (nI q)), none, none, none] [] (pv_em _) = _
          rw [bX7_mean_0, c_isRow, pv_cc_some, bX7_mean_4, bI_t hr, if_pos (by decide), bX7_mean_9, if_neg hx, hc, xf_ne (by decide) (by decide), g1, eN, if_pos (by decide), bX7_mean_24, if_neg hx, hc, xf_ne (by decide) (by decide), g1, eN, if_neg (fun z => z rfl), bX7_mean_33, m_find_4, pv_cc_some, bX7_mean_38]
      · have v := smL_congr (N := N) (g := fun i => S.1 39 (40 * q + i)) (h := S.1 (4 + q)) (fun i hi => g4 i (by omega))
        refine ⟨1, pv_si S 35 1 (Int64.toInt32 (smL (S.1 (4 + q)) N / Int32.toInt64 (nI N))), _, ?_, ?_, Inv_asked (v := Int64.toInt32 (smL (S.1 (4 + q)) N / Int32.toInt64 (nI N))) I⟩
        · show pv_R mX6_mean 0 [some (.ref 0), some (.int (nI q)), none, none] [] (pv_em S) = _
          rw [bX6_mean_0, x_miss_r2 hr hs', pv_cc_some, bX6_mean_9, if_pos rfl, bX6_mean_16, x_size hq, pv_cc_some, eN, bX6_mean_24, if_pos (by rw [show (1 : Int32) = nI 1 from rfl, nIle (by omega) (by omega)]; omega), bX6_mean_39, x_sum hq hN40 eN, pv_cc_some, bX6_mean_51, if_neg (nI64 (by omega) (by omega))]
        · show pv_R mX7_mean 0 [some (.ref 37), some (.int (nI q)), none, none, none] [] (pv_em _) = _
          rw [bX7_mean_0, c_isRow, pv_cc_some, bX7_mean_4, bI_t hr, if_pos (by decide), bX7_mean_9, if_neg hx, hc, si_ne (by decide), g1, if_pos (by rw [Int32.le_iff_toInt_le, i0]; exact hs), bX7_mean_24, if_neg hx, hc, si_ne (by decide), g1, eN, if_pos (by rw [show (0 : Int32) = nI 0 from rfl, nIeq (by omega) (by omega)]; exact h0), m_sum hq hN40 (by omega) (by rw [si_ne (by decide), g1, eN]), si_ne (by decide), v]
    · have hs' : ¬ 0 ≤ (S.1 2 (nI q).toNatClampNeg).toInt := by rw [hc]; exact hs
      refine ⟨-3, xf S 1, _, ?_, ?_, Inv_find (f := 1) I (by omega) (by omega)⟩
      · show pv_R mX6_mean 0 [some (.ref 0), some (.int (nI q)), none, none] [] (pv_em S) = _
        rw [bX6_mean_0, x_miss_r1 hr hs', pv_cc_some, bX6_mean_9, if_neg (by decide), bX6_mean_14]
      · show pv_R mX7_mean 0 [some (.ref 37), some (.int (nI q)), none, none, none] [] (pv_em _) = _
        rw [bX7_mean_0, c_isRow, pv_cc_some, bX7_mean_4, bI_t hr, if_pos (by decide), bX7_mean_9, if_neg hx, hc, xf_ne (by decide) (by decide), g1, if_neg (by rw [Int32.le_iff_toInt_le, i0]; exact hs), bX7_mean_18, m_find_1, pv_cc_some, bX7_mean_23]
  · refine ⟨-1, S, S, ?_, ?_, I⟩
    · show pv_R mX6_mean 0 [some (.ref 0), some (.int r), none, none] [] (pv_em S) = _
      rw [bX6_mean_0, x_miss_r0 hr, pv_cc_some, bX6_mean_9, if_neg (by decide), bX6_mean_14]
    · show pv_R mX7_mean 0 [some (.ref 37), some (.int r), none, none, none] [] (pv_em _) = _
      rw [bX7_mean_0, c_isRow, pv_cc_some, bX7_mean_4, bI_f hr, if_neg (fun z => z rfl), bX7_mean_7]
end MN
