/-! ===== blocks: model3 ===== -/
theorem dX7_remember_0 : decode cX7_remember 0 = .ok (.aload_n 0, 1) := by decide +kernel
theorem dX7_remember_1 : decode cX7_remember 1 = .ok (.getfield 28, 3) := by decide +kernel
theorem dX7_remember_4 : decode cX7_remember 4 = .ok (.iconst 0, 1) := by decide +kernel
theorem dX7_remember_5 : decode cX7_remember 5 = .ok (.aload_n 0, 1) := by decide +kernel
theorem dX7_remember_6 : decode cX7_remember 6 = .ok (.getfield 31, 3) := by decide +kernel
theorem dX7_remember_9 : decode cX7_remember 9 = .ok (.bipush 10, 2) := by decide +kernel
theorem dX7_remember_11 : decode cX7_remember 11 = .ok (.aload_n 0, 1) := by decide +kernel
theorem dX7_remember_12 : decode cX7_remember 12 = .ok (.getfield 144, 3) := by decide +kernel
theorem dX7_remember_15 : decode cX7_remember 15 = .ok (.imul, 1) := by decide +kernel
theorem dX7_remember_16 : decode cX7_remember 16 = .ok (.bipush 10, 2) := by decide +kernel
theorem dX7_remember_18 : decode cX7_remember 18 = .ok (.invokestatic 179, 3) := by decide +kernel
theorem dX7_remember_21 : decode cX7_remember 21 = .ok (.aload_n 0, 1) := by decide +kernel
theorem dX7_remember_22 : decode cX7_remember 22 = .ok (.dup, 1) := by decide +kernel
theorem dX7_remember_23 : decode cX7_remember 23 = .ok (.getfield 144, 3) := by decide +kernel
theorem dX7_remember_26 : decode cX7_remember 26 = .ok (.iconst 1, 1) := by decide +kernel
theorem dX7_remember_27 : decode cX7_remember 27 = .ok (.iadd, 1) := by decide +kernel
theorem dX7_remember_28 : decode cX7_remember 28 = .ok (.putfield 144, 3) := by decide +kernel
theorem dX7_remember_31 : decode cX7_remember 31 = .ok (.return_, 1) := by decide +kernel
set_option maxHeartbeats 200000 in
theorem bX7_remember_0 {S : pv_S} : pv_R mX7_remember 0 [some (.ref 37)] [] (pv_em S) = pv_cc (pv_R mX7_copies 0 [some (.ref 44), some (.int 0), some (.ref 45), some (.int (10 * (S.1 37 9))), some (.int 10), none] [] (pv_em S)) mX7_remember 21 [some (.ref 37)] [] := Eq.trans (pv_Rstp dX7_remember_0 rfl rfl rfl) (Eq.trans (pv_Rget dX7_remember_1 ffX7_28 (by decide) (pv_ce_37 _ _) rfl) (Eq.trans (pv_Ric dX7_remember_4 ki_0) (Eq.trans (pv_Rstp dX7_remember_5 rfl rfl rfl) (Eq.trans (pv_Rget dX7_remember_6 ffX7_31 (by decide) (pv_ce_37 _ _) rfl) (Eq.trans (pv_Rbp dX7_remember_9 kb_10) (Eq.trans (pv_Rstp dX7_remember_11 rfl rfl rfl) (Eq.trans (pv_Rget dX7_remember_12 ffX7_144 (by decide) (pv_ce_37 _ _) rfl) (Eq.trans (pv_Rstp dX7_remember_15 rfl rfl rfl) (Eq.trans (pv_Rbp dX7_remember_16 kb_10) (pv_Rcall (As := [.ref 44, .int 0, .ref 45, .int (10 * (S.1 37 9)), .int 10]) (rest := []) dX7_remember_18 rfl mfX7_179 rfl rfl rfl rfl rfl))))))))))
set_option maxHeartbeats 200000 in
theorem bX7_remember_21 {S : pv_S} : pv_R mX7_remember 21 [some (.ref 37)] [] (pv_em S) = some (none, pv_em (pv_si S 37 9 ((S.1 37 9) + 1))) := Eq.trans (pv_Rstp dX7_remember_21 rfl rfl rfl) (Eq.trans (pv_Rstp dX7_remember_22 rfl rfl rfl) (Eq.trans (pv_Rget dX7_remember_23 ffX7_144 (by decide) (pv_ce_37 _ _) rfl) (Eq.trans (pv_Ric dX7_remember_26 ki_1) (Eq.trans (pv_Rstp dX7_remember_27 rfl rfl rfl) (Eq.trans (pv_Rput dX7_remember_28 ffX7_144 rfl rfl rfl (by decide) (pv_ce_37 _ _) (Nat.le_of_ble_eq_true rfl) (pv_em_si rfl)) (pv_Rret dX7_remember_31 rfl))))))
theorem dX7_copies_0 : decode cX7_copies 0 = .ok (.iconst 0, 1) := by decide +kernel
theorem dX7_copies_1 : decode cX7_copies 1 = .ok (.istore 5, 2) := by decide +kernel
theorem dX7_copies_3 : decode cX7_copies 3 = .ok (.iload 5, 2) := by decide +kernel
theorem dX7_copies_5 : decode cX7_copies 5 = .ok (.iload 4, 2) := by decide +kernel
theorem dX7_copies_7 : decode cX7_copies 7 = .ok (.if_icmp .ge 21, 3) := by decide +kernel
theorem dX7_copies_10 : decode cX7_copies 10 = .ok (.aload_n 2, 1) := by decide +kernel
theorem dX7_copies_11 : decode cX7_copies 11 = .ok (.iload_n 3, 1) := by decide +kernel
theorem dX7_copies_12 : decode cX7_copies 12 = .ok (.iload 5, 2) := by decide +kernel
theorem dX7_copies_14 : decode cX7_copies 14 = .ok (.iadd, 1) := by decide +kernel
theorem dX7_copies_15 : decode cX7_copies 15 = .ok (.aload_n 0, 1) := by decide +kernel
theorem dX7_copies_16 : decode cX7_copies 16 = .ok (.iload_n 1, 1) := by decide +kernel
theorem dX7_copies_17 : decode cX7_copies 17 = .ok (.iload 5, 2) := by decide +kernel
theorem dX7_copies_19 : decode cX7_copies 19 = .ok (.iadd, 1) := by decide +kernel
theorem dX7_copies_20 : decode cX7_copies 20 = .ok (.iaload, 1) := by decide +kernel
theorem dX7_copies_21 : decode cX7_copies 21 = .ok (.iastore, 1) := by decide +kernel
theorem dX7_copies_22 : decode cX7_copies 22 = .ok (.iinc 5 1, 3) := by decide +kernel
theorem dX7_copies_25 : decode cX7_copies 25 = .ok (.goto (-22), 3) := by decide +kernel
theorem dX7_copies_28 : decode cX7_copies 28 = .ok (.return_, 1) := by decide +kernel
set_option maxHeartbeats 200000 in
theorem bX7_copies_45_44_0 {S : pv_S} {x1 x3 x4 : Int32} {a5 : Option Value} : pv_R mX7_copies 0 [some (.ref 45), some (.int x1), some (.ref 44), some (.int x3), some (.int x4), a5] [] (pv_em S) = pv_R mX7_copies 3 [some (.ref 45), some (.int x1), some (.ref 44), some (.int x3), some (.int x4), some (.int 0)] [] (pv_em S) := Eq.trans (pv_Ric dX7_copies_0 ki_0) (pv_Rstp dX7_copies_1 rfl rfl rfl)
set_option maxHeartbeats 200000 in
theorem bX7_copies_45_44_3 {S : pv_S} {x1 x3 x4 x5 : Int32} : pv_R mX7_copies 3 [some (.ref 45), some (.int x1), some (.ref 44), some (.int x3), some (.int x4), some (.int x5)] [] (pv_em S) = if x4 ≤ x5 then pv_R mX7_copies 28 [some (.ref 45), some (.int x1), some (.ref 44), some (.int x3), some (.int x4), some (.int x5)] [] (pv_em S) else pv_R mX7_copies 10 [some (.ref 45), some (.int x1), some (.ref 44), some (.int x3), some (.int x4), some (.int x5)] [] (pv_em S) := Eq.trans (pv_Rstp dX7_copies_3 rfl rfl rfl) (Eq.trans (pv_Rstp dX7_copies_5 rfl rfl rfl) (pv_Rbr (tgt := 28) dX7_copies_7 rfl rfl rfl rfl rfl (by decide)))
set_option maxHeartbeats 200000 in
theorem bX7_copies_45_44_10 {S : pv_S} {x1 x3 x4 x5 : Int32} : pv_R mX7_copies 10 [some (.ref 45), some (.int x1), some (.ref 44), some (.int x3), some (.int x4), some (.int x5)] [] (pv_em S) = if (x1 + x5) < 0 ∨ 400 ≤ (x1 + x5).toNatClampNeg then none else if (x3 + x5) < 0 ∨ 10 ≤ (x3 + x5).toNatClampNeg then none else pv_R mX7_copies 3 [some (.ref 45), some (.int x1), some (.ref 44), some (.int x3), some (.int x4), some (.int (x5 + 1))] [] (pv_em (pv_si S 44 (x3 + x5).toNatClampNeg (S.1 45 (x1 + x5).toNatClampNeg))) := Eq.trans (pv_Rstp dX7_copies_10 rfl rfl rfl) (Eq.trans (pv_Rstp dX7_copies_11 rfl rfl rfl) (Eq.trans (pv_Rstp dX7_copies_12 rfl rfl rfl) (Eq.trans (pv_Rstp dX7_copies_14 rfl rfl rfl) (Eq.trans (pv_Rstp dX7_copies_15 rfl rfl rfl) (Eq.trans (pv_Rstp dX7_copies_16 rfl rfl rfl) (Eq.trans (pv_Rstp dX7_copies_17 rfl rfl rfl) (Eq.trans (pv_Rstp dX7_copies_19 rfl rfl rfl) (Eq.trans (pv_Rald dX7_copies_20 (by decide) (pv_ce_45 _ _)) (pv_iteN (fun h1 => Eq.trans (pv_Rast dX7_copies_21 (by decide) (pv_ce_44 _ _) (pv_em_si rfl)) (pv_iteN (fun h2 => Eq.trans (pv_Rinc dX7_copies_22 rfl (Nat.le_of_ble_eq_true rfl) ki_1 rfl) (pv_Rgo (tgt := 3) dX7_copies_25 rfl (by decide))))))))))))))
set_option maxHeartbeats 200000 in
theorem bX7_copies_45_44_28 {S : pv_S} {x1 x3 x4 x5 : Int32} : pv_R mX7_copies 28 [some (.ref 45), some (.int x1), some (.ref 44), some (.int x3), some (.int x4), some (.int x5)] [] (pv_em S) = some (none, pv_em S) := pv_Rret dX7_copies_28 rfl
set_option maxHeartbeats 200000 in
theorem bX7_copies_44_46_0 {S : pv_S} {x1 x3 x4 : Int32} {a5 : Option Value} : pv_R mX7_copies 0 [some (.ref 44), some (.int x1), some (.ref 46), some (.int x3), some (.int x4), a5] [] (pv_em S) = pv_R mX7_copies 3 [some (.ref 44), some (.int x1), some (.ref 46), some (.int x3), some (.int x4), some (.int 0)] [] (pv_em S) := Eq.trans (pv_Ric dX7_copies_0 ki_0) (pv_Rstp dX7_copies_1 rfl rfl rfl)
set_option maxHeartbeats 200000 in
theorem bX7_copies_44_46_3 {S : pv_S} {x1 x3 x4 x5 : Int32} : pv_R mX7_copies 3 [some (.ref 44), some (.int x1), some (.ref 46), some (.int x3), some (.int x4), some (.int x5)] [] (pv_em S) = if x4 ≤ x5 then pv_R mX7_copies 28 [some (.ref 44), some (.int x1), some (.ref 46), some (.int x3), some (.int x4), some (.int x5)] [] (pv_em S) else pv_R mX7_copies 10 [some (.ref 44), some (.int x1), some (.ref 46), some (.int x3), some (.int x4), some (.int x5)] [] (pv_em S) := Eq.trans (pv_Rstp dX7_copies_3 rfl rfl rfl) (Eq.trans (pv_Rstp dX7_copies_5 rfl rfl rfl) (pv_Rbr (tgt := 28) dX7_copies_7 rfl rfl rfl rfl rfl (by decide)))
set_option maxHeartbeats 200000 in
theorem bX7_copies_44_46_10 {S : pv_S} {x1 x3 x4 x5 : Int32} : pv_R mX7_copies 10 [some (.ref 44), some (.int x1), some (.ref 46), some (.int x3), some (.int x4), some (.int x5)] [] (pv_em S) = if (x1 + x5) < 0 ∨ 10 ≤ (x1 + x5).toNatClampNeg then none else if (x3 + x5) < 0 ∨ 1233 ≤ (x3 + x5).toNatClampNeg then none else pv_R mX7_copies 3 [some (.ref 44), some (.int x1), some (.ref 46), some (.int x3), some (.int x4), some (.int (x5 + 1))] [] (pv_em (pv_si S 46 (x3 + x5).toNatClampNeg (S.1 44 (x1 + x5).toNatClampNeg))) := Eq.trans (pv_Rstp dX7_copies_10 rfl rfl rfl) (Eq.trans (pv_Rstp dX7_copies_11 rfl rfl rfl) (Eq.trans (pv_Rstp dX7_copies_12 rfl rfl rfl) (Eq.trans (pv_Rstp dX7_copies_14 rfl rfl rfl) (Eq.trans (pv_Rstp dX7_copies_15 rfl rfl rfl) (Eq.trans (pv_Rstp dX7_copies_16 rfl rfl rfl) (Eq.trans (pv_Rstp dX7_copies_17 rfl rfl rfl) (Eq.trans (pv_Rstp dX7_copies_19 rfl rfl rfl) (Eq.trans (pv_Rald dX7_copies_20 (by decide) (pv_ce_44 _ _)) (pv_iteN (fun h1 => Eq.trans (pv_Rast dX7_copies_21 (by decide) (pv_ce_46 _ _) (pv_em_si rfl)) (pv_iteN (fun h2 => Eq.trans (pv_Rinc dX7_copies_22 rfl (Nat.le_of_ble_eq_true rfl) ki_1 rfl) (pv_Rgo (tgt := 3) dX7_copies_25 rfl (by decide))))))))))))))
set_option maxHeartbeats 200000 in
theorem bX7_copies_44_46_28 {S : pv_S} {x1 x3 x4 x5 : Int32} : pv_R mX7_copies 28 [some (.ref 44), some (.int x1), some (.ref 46), some (.int x3), some (.int x4), some (.int x5)] [] (pv_em S) = some (none, pv_em S) := pv_Rret dX7_copies_28 rfl
set_option maxHeartbeats 200000 in
theorem bX7_copies_45_46_0 {S : pv_S} {x1 x3 x4 : Int32} {a5 : Option Value} : pv_R mX7_copies 0 [some (.ref 45), some (.int x1), some (.ref 46), some (.int x3), some (.int x4), a5] [] (pv_em S) = pv_R mX7_copies 3 [some (.ref 45), some (.int x1), some (.ref 46), some (.int x3), some (.int x4), some (.int 0)] [] (pv_em S) := Eq.trans (pv_Ric dX7_copies_0 ki_0) (pv_Rstp dX7_copies_1 rfl rfl rfl)
set_option maxHeartbeats 200000 in
theorem bX7_copies_45_46_3 {S : pv_S} {x1 x3 x4 x5 : Int32} : pv_R mX7_copies 3 [some (.ref 45), some (.int x1), some (.ref 46), some (.int x3), some (.int x4), some (.int x5)] [] (pv_em S) = if x4 ≤ x5 then pv_R mX7_copies 28 [some (.ref 45), some (.int x1), some (.ref 46), some (.int x3), some (.int x4), some (.int x5)] [] (pv_em S) else pv_R mX7_copies 10 [some (.ref 45), some (.int x1), some (.ref 46), some (.int x3), some (.int x4), some (.int x5)] [] (pv_em S) := Eq.trans (pv_Rstp dX7_copies_3 rfl rfl rfl) (Eq.trans (pv_Rstp dX7_copies_5 rfl rfl rfl) (pv_Rbr (tgt := 28) dX7_copies_7 rfl rfl rfl rfl rfl (by decide)))
set_option maxHeartbeats 200000 in
theorem bX7_copies_45_46_10 {S : pv_S} {x1 x3 x4 x5 : Int32} : pv_R mX7_copies 10 [some (.ref 45), some (.int x1), some (.ref 46), some (.int x3), some (.int x4), some (.int x5)] [] (pv_em S) = if (x1 + x5) < 0 ∨ 400 ≤ (x1 + x5).toNatClampNeg then none else if (x3 + x5) < 0 ∨ 1233 ≤ (x3 + x5).toNatClampNeg then none else pv_R mX7_copies 3 [some (.ref 45), some (.int x1), some (.ref 46), some (.int x3), some (.int x4), some (.int (x5 + 1))] [] (pv_em (pv_si S 46 (x3 + x5).toNatClampNeg (S.1 45 (x1 + x5).toNatClampNeg))) := Eq.trans (pv_Rstp dX7_copies_10 rfl rfl rfl) (Eq.trans (pv_Rstp dX7_copies_11 rfl rfl rfl) (Eq.trans (pv_Rstp dX7_copies_12 rfl rfl rfl) (Eq.trans (pv_Rstp dX7_copies_14 rfl rfl rfl) (Eq.trans (pv_Rstp dX7_copies_15 rfl rfl rfl) (Eq.trans (pv_Rstp dX7_copies_16 rfl rfl rfl) (Eq.trans (pv_Rstp dX7_copies_17 rfl rfl rfl) (Eq.trans (pv_Rstp dX7_copies_19 rfl rfl rfl) (Eq.trans (pv_Rald dX7_copies_20 (by decide) (pv_ce_45 _ _)) (pv_iteN (fun h1 => Eq.trans (pv_Rast dX7_copies_21 (by decide) (pv_ce_46 _ _) (pv_em_si rfl)) (pv_iteN (fun h2 => Eq.trans (pv_Rinc dX7_copies_22 rfl (Nat.le_of_ble_eq_true rfl) ki_1 rfl) (pv_Rgo (tgt := 3) dX7_copies_25 rfl (by decide))))))))))))))
set_option maxHeartbeats 200000 in
theorem bX7_copies_45_46_28 {S : pv_S} {x1 x3 x4 x5 : Int32} : pv_R mX7_copies 28 [some (.ref 45), some (.int x1), some (.ref 46), some (.int x3), some (.int x4), some (.int x5)] [] (pv_em S) = some (none, pv_em S) := pv_Rret dX7_copies_28 rfl
set_option maxHeartbeats 200000 in
theorem bX7_copies_46_44_0 {S : pv_S} {x1 x3 x4 : Int32} {a5 : Option Value} : pv_R mX7_copies 0 [some (.ref 46), some (.int x1), some (.ref 44), some (.int x3), some (.int x4), a5] [] (pv_em S) = pv_R mX7_copies 3 [some (.ref 46), some (.int x1), some (.ref 44), some (.int x3), some (.int x4), some (.int 0)] [] (pv_em S) := Eq.trans (pv_Ric dX7_copies_0 ki_0) (pv_Rstp dX7_copies_1 rfl rfl rfl)
set_option maxHeartbeats 200000 in
theorem bX7_copies_46_44_3 {S : pv_S} {x1 x3 x4 x5 : Int32} : pv_R mX7_copies 3 [some (.ref 46), some (.int x1), some (.ref 44), some (.int x3), some (.int x4), some (.int x5)] [] (pv_em S) = if x4 ≤ x5 then pv_R mX7_copies 28 [some (.ref 46), some (.int x1), some (.ref 44), some (.int x3), some (.int x4), some (.int x5)] [] (pv_em S) else pv_R mX7_copies 10 [some (.ref 46), some (.int x1), some (.ref 44), some (.int x3), some (.int x4), some (.int x5)] [] (pv_em S) := Eq.trans (pv_Rstp dX7_copies_3 rfl rfl rfl) (Eq.trans (pv_Rstp dX7_copies_5 rfl rfl rfl) (pv_Rbr (tgt := 28) dX7_copies_7 rfl rfl rfl rfl rfl (by decide)))
set_option maxHeartbeats 200000 in
theorem bX7_copies_46_44_10 {S : pv_S} {x1 x3 x4 x5 : Int32} : pv_R mX7_copies 10 [some (.ref 46), some (.int x1), some (.ref 44), some (.int x3), some (.int x4), some (.int x5)] [] (pv_em S) = if (x1 + x5) < 0 ∨ 1233 ≤ (x1 + x5).toNatClampNeg then none else if (x3 + x5) < 0 ∨ 10 ≤ (x3 + x5).toNatClampNeg then none else pv_R mX7_copies 3 [some (.ref 46), some (.int x1), some (.ref 44), some (.int x3), some (.int x4), some (.int (x5 + 1))] [] (pv_em (pv_si S 44 (x3 + x5).toNatClampNeg (S.1 46 (x1 + x5).toNatClampNeg))) := Eq.trans (pv_Rstp dX7_copies_10 rfl rfl rfl) (Eq.trans (pv_Rstp dX7_copies_11 rfl rfl rfl) (Eq.trans (pv_Rstp dX7_copies_12 rfl rfl rfl) (Eq.trans (pv_Rstp dX7_copies_14 rfl rfl rfl) (Eq.trans (pv_Rstp dX7_copies_15 rfl rfl rfl) (Eq.trans (pv_Rstp dX7_copies_16 rfl rfl rfl) (Eq.trans (pv_Rstp dX7_copies_17 rfl rfl rfl) (Eq.trans (pv_Rstp dX7_copies_19 rfl rfl rfl) (Eq.trans (pv_Rald dX7_copies_20 (by decide) (pv_ce_46 _ _)) (pv_iteN (fun h1 => Eq.trans (pv_Rast dX7_copies_21 (by decide) (pv_ce_44 _ _) (pv_em_si rfl)) (pv_iteN (fun h2 => Eq.trans (pv_Rinc dX7_copies_22 rfl (Nat.le_of_ble_eq_true rfl) ki_1 rfl) (pv_Rgo (tgt := 3) dX7_copies_25 rfl (by decide))))))))))))))
set_option maxHeartbeats 200000 in
theorem bX7_copies_46_44_28 {S : pv_S} {x1 x3 x4 x5 : Int32} : pv_R mX7_copies 28 [some (.ref 46), some (.int x1), some (.ref 44), some (.int x3), some (.int x4), some (.int x5)] [] (pv_em S) = some (none, pv_em S) := pv_Rret dX7_copies_28 rfl
set_option maxHeartbeats 200000 in
theorem bX7_copies_46_45_0 {S : pv_S} {x1 x3 x4 : Int32} {a5 : Option Value} : pv_R mX7_copies 0 [some (.ref 46), some (.int x1), some (.ref 45), some (.int x3), some (.int x4), a5] [] (pv_em S) = pv_R mX7_copies 3 [some (.ref 46), some (.int x1), some (.ref 45), some (.int x3), some (.int x4), some (.int 0)] [] (pv_em S) := Eq.trans (pv_Ric dX7_copies_0 ki_0) (pv_Rstp dX7_copies_1 rfl rfl rfl)
set_option maxHeartbeats 200000 in
theorem bX7_copies_46_45_3 {S : pv_S} {x1 x3 x4 x5 : Int32} : pv_R mX7_copies 3 [some (.ref 46), some (.int x1), some (.ref 45), some (.int x3), some (.int x4), some (.int x5)] [] (pv_em S) = if x4 ≤ x5 then pv_R mX7_copies 28 [some (.ref 46), some (.int x1), some (.ref 45), some (.int x3), some (.int x4), some (.int x5)] [] (pv_em S) else pv_R mX7_copies 10 [some (.ref 46), some (.int x1), some (.ref 45), some (.int x3), some (.int x4), some (.int x5)] [] (pv_em S) := Eq.trans (pv_Rstp dX7_copies_3 rfl rfl rfl) (Eq.trans (pv_Rstp dX7_copies_5 rfl rfl rfl) (pv_Rbr (tgt := 28) dX7_copies_7 rfl rfl rfl rfl rfl (by decide)))
set_option maxHeartbeats 200000 in
theorem bX7_copies_46_45_10 {S : pv_S} {x1 x3 x4 x5 : Int32} : pv_R mX7_copies 10 [some (.ref 46), some (.int x1), some (.ref 45), some (.int x3), some (.int x4), some (.int x5)] [] (pv_em S) = if (x1 + x5) < 0 ∨ 1233 ≤ (x1 + x5).toNatClampNeg then none else if (x3 + x5) < 0 ∨ 400 ≤ (x3 + x5).toNatClampNeg then none else pv_R mX7_copies 3 [some (.ref 46), some (.int x1), some (.ref 45), some (.int x3), some (.int x4), some (.int (x5 + 1))] [] (pv_em (pv_si S 45 (x3 + x5).toNatClampNeg (S.1 46 (x1 + x5).toNatClampNeg))) := Eq.trans (pv_Rstp dX7_copies_10 rfl rfl rfl) (Eq.trans (pv_Rstp dX7_copies_11 rfl rfl rfl) (Eq.trans (pv_Rstp dX7_copies_12 rfl rfl rfl) (Eq.trans (pv_Rstp dX7_copies_14 rfl rfl rfl) (Eq.trans (pv_Rstp dX7_copies_15 rfl rfl rfl) (Eq.trans (pv_Rstp dX7_copies_16 rfl rfl rfl) (Eq.trans (pv_Rstp dX7_copies_17 rfl rfl rfl) (Eq.trans (pv_Rstp dX7_copies_19 rfl rfl rfl) (Eq.trans (pv_Rald dX7_copies_20 (by decide) (pv_ce_46 _ _)) (pv_iteN (fun h1 => Eq.trans (pv_Rast dX7_copies_21 (by decide) (pv_ce_45 _ _) (pv_em_si rfl)) (pv_iteN (fun h2 => Eq.trans (pv_Rinc dX7_copies_22 rfl (Nat.le_of_ble_eq_true rfl) ki_1 rfl) (pv_Rgo (tgt := 3) dX7_copies_25 rfl (by decide))))))))))))))
set_option maxHeartbeats 200000 in
theorem bX7_copies_46_45_28 {S : pv_S} {x1 x3 x4 x5 : Int32} : pv_R mX7_copies 28 [some (.ref 46), some (.int x1), some (.ref 45), some (.int x3), some (.int x4), some (.int x5)] [] (pv_em S) = some (none, pv_em S) := pv_Rret dX7_copies_28 rfl
theorem dX7_afterOf_0 : decode cX7_afterOf 0 = .ok (.aload_n 0, 1) := by decide +kernel
theorem dX7_afterOf_1 : decode cX7_afterOf 1 = .ok (.aload_n 0, 1) := by decide +kernel
theorem dX7_afterOf_2 : decode cX7_afterOf 2 = .ok (.getfield 22, 3) := by decide +kernel
theorem dX7_afterOf_5 : decode cX7_afterOf 5 = .ok (.iload_n 1, 1) := by decide +kernel
theorem dX7_afterOf_6 : decode cX7_afterOf 6 = .ok (.iaload, 1) := by decide +kernel
theorem dX7_afterOf_7 : decode cX7_afterOf 7 = .ok (.aload_n 0, 1) := by decide +kernel
theorem dX7_afterOf_8 : decode cX7_afterOf 8 = .ok (.getfield 28, 3) := by decide +kernel
theorem dX7_afterOf_11 : decode cX7_afterOf 11 = .ok (.iconst 0, 1) := by decide +kernel
theorem dX7_afterOf_12 : decode cX7_afterOf 12 = .ok (.iload_n 1, 1) := by decide +kernel
theorem dX7_afterOf_13 : decode cX7_afterOf 13 = .ok (.iadd, 1) := by decide +kernel
theorem dX7_afterOf_14 : decode cX7_afterOf 14 = .ok (.iaload, 1) := by decide +kernel
theorem dX7_afterOf_15 : decode cX7_afterOf 15 = .ok (.iload_n 2, 1) := by decide +kernel
theorem dX7_afterOf_16 : decode cX7_afterOf 16 = .ok (.invokevirtual 154, 3) := by decide +kernel
theorem dX7_afterOf_19 : decode cX7_afterOf 19 = .ok (.ireturn, 1) := by decide +kernel
set_option maxHeartbeats 200000 in
theorem bX7_afterOf_0 {S : pv_S} {x1 x2 : Int32} : pv_R mX7_afterOf 0 [some (.ref 37), some (.int x1), some (.int x2)] [] (pv_em S) = if x1 < 0 ∨ 6 ≤ x1.toNatClampNeg then none else if (0 + x1) < 0 ∨ 10 ≤ (0 + x1).toNatClampNeg then none else pv_cc (pv_R mX7_after 0 [some (.ref 37), some (.int (S.1 42 x1.toNatClampNeg)), some (.int (S.1 44 (0 + x1).toNatClampNeg)), some (.int x2), none, none] [] (pv_em S)) mX7_afterOf 19 [some (.ref 37), some (.int x1), some (.int x2)] [] := Eq.trans (pv_Rstp dX7_afterOf_0 rfl rfl rfl) (Eq.trans (pv_Rstp dX7_afterOf_1 rfl rfl rfl) (Eq.trans (pv_Rget dX7_afterOf_2 ffX7_22 (by decide) (pv_ce_37 _ _) rfl) (Eq.trans (pv_Rstp dX7_afterOf_5 rfl rfl rfl) (Eq.trans (pv_Rald dX7_afterOf_6 (by decide) (pv_ce_42 _ _)) (pv_iteN (fun h1 => Eq.trans (pv_Rstp dX7_afterOf_7 rfl rfl rfl) (Eq.trans (pv_Rget dX7_afterOf_8 ffX7_28 (by decide) (pv_ce_37 _ _) rfl) (Eq.trans (pv_Ric dX7_afterOf_11 ki_0) (Eq.trans (pv_Rstp dX7_afterOf_12 rfl rfl rfl) (Eq.trans (pv_Rstp dX7_afterOf_13 rfl rfl rfl) (Eq.trans (pv_Rald dX7_afterOf_14 (by decide) (pv_ce_44 _ _)) (pv_iteN (fun h2 => Eq.trans (pv_Rstp dX7_afterOf_15 rfl rfl rfl) (pv_Rcall (As := [.ref 37, .int (S.1 42 x1.toNatClampNeg), .int (S.1 44 (0 + x1).toNatClampNeg), .int x2]) (rest := []) dX7_afterOf_16 rfl mfX7_154 rfl rfl rfl rfl rfl))))))))))))))
set_option maxHeartbeats 200000 in
theorem bX7_afterOf_19 {S : pv_S} {x1 x2 u0 : Int32} : pv_R mX7_afterOf 19 [some (.ref 37), some (.int x1), some (.int x2)] [.int u0] (pv_em S) = some (some (.int u0), pv_em S) := pv_Rret dX7_afterOf_19 rfl
theorem dX7_answer_0 : decode cX7_answer 0 = .ok (.aload_n 0, 1) := by decide +kernel
theorem dX7_answer_1 : decode cX7_answer 1 = .ok (.iload_n 2, 1) := by decide +kernel
theorem dX7_answer_2 : decode cX7_answer 2 = .ok (.putfield 70, 3) := by decide +kernel
theorem dX7_answer_5 : decode cX7_answer 5 = .ok (.iload_n 1, 1) := by decide +kernel
theorem dX7_answer_6 : decode cX7_answer 6 = .ok (.ireturn, 1) := by decide +kernel
set_option maxHeartbeats 200000 in
theorem bX7_answer_0 {S : pv_S} {x1 x2 : Int32} : pv_R mX7_answer 0 [some (.ref 37), some (.int x1), some (.int x2)] [] (pv_em S) = some (some (.int x1), pv_em (pv_si S 37 13 x2)) := Eq.trans (pv_Rstp dX7_answer_0 rfl rfl rfl) (Eq.trans (pv_Rstp dX7_answer_1 rfl rfl rfl) (Eq.trans (pv_Rput dX7_answer_2 ffX7_70 rfl rfl rfl (by decide) (pv_ce_37 _ _) (Nat.le_of_ble_eq_true rfl) (pv_em_si rfl)) (Eq.trans (pv_Rstp dX7_answer_5 rfl rfl rfl) (pv_Rret dX7_answer_6 rfl))))
theorem dX7_after_0 : decode cX7_after 0 = .ok (.iload_n 2, 1) := by decide +kernel
theorem dX7_after_1 : decode cX7_after 1 = .ok (.istore 4, 2) := by decide +kernel
theorem dX7_after_3 : decode cX7_after 3 = .ok (.iconst 0, 1) := by decide +kernel
theorem dX7_after_4 : decode cX7_after 4 = .ok (.istore 5, 2) := by decide +kernel
theorem dX7_after_6 : decode cX7_after 6 = .ok (.iload 5, 2) := by decide +kernel
theorem dX7_after_8 : decode cX7_after 8 = .ok (.iload_n 3, 1) := by decide +kernel
theorem dX7_after_9 : decode cX7_after 9 = .ok (.if_icmp .ge 32, 3) := by decide +kernel
theorem dX7_after_12 : decode cX7_after 12 = .ok (.iload 4, 2) := by decide +kernel
theorem dX7_after_14 : decode cX7_after 14 = .ok (.iload_n 1, 1) := by decide +kernel
theorem dX7_after_15 : decode cX7_after 15 = .ok (.aload_n 0, 1) := by decide +kernel
theorem dX7_after_16 : decode cX7_after 16 = .ok (.getfield 28, 3) := by decide +kernel
theorem dX7_after_19 : decode cX7_after 19 = .ok (.bipush 6, 2) := by decide +kernel
theorem dX7_after_21 : decode cX7_after 21 = .ok (.iaload, 1) := by decide +kernel
theorem dX7_after_22 : decode cX7_after 22 = .ok (.iload 5, 2) := by decide +kernel
theorem dX7_after_24 : decode cX7_after 24 = .ok (.iadd, 1) := by decide +kernel
theorem dX7_after_25 : decode cX7_after 25 = .ok (.iconst 1, 1) := by decide +kernel
theorem dX7_after_26 : decode cX7_after 26 = .ok (.invokestatic 147, 3) := by decide +kernel
theorem dX7_after_29 : decode cX7_after 29 = .ok (.iadd, 1) := by decide +kernel
theorem dX7_after_30 : decode cX7_after 30 = .ok (.invokestatic 151, 3) := by decide +kernel
theorem dX7_after_33 : decode cX7_after 33 = .ok (.istore 4, 2) := by decide +kernel
theorem dX7_after_35 : decode cX7_after 35 = .ok (.iinc 5 1, 3) := by decide +kernel
theorem dX7_after_38 : decode cX7_after 38 = .ok (.goto (-32), 3) := by decide +kernel
theorem dX7_after_41 : decode cX7_after 41 = .ok (.iload 4, 2) := by decide +kernel
theorem dX7_after_43 : decode cX7_after 43 = .ok (.ireturn, 1) := by decide +kernel
set_option maxHeartbeats 200000 in
theorem bX7_after_0 {S : pv_S} {x1 x2 x3 : Int32} {a4 a5 : Option Value} : pv_R mX7_after 0 [some (.ref 37), some (.int x1), some (.int x2), some (.int x3), a4, a5] [] (pv_em S) = pv_R mX7_after 6 [some (.ref 37), some (.int x1), some (.int x2), some (.int x3), some (.int x2), some (.int 0)] [] (pv_em S) := Eq.trans (pv_Rstp dX7_after_0 rfl rfl rfl) (Eq.trans (pv_Rstp dX7_after_1 rfl rfl rfl) (Eq.trans (pv_Ric dX7_after_3 ki_0) (pv_Rstp dX7_after_4 rfl rfl rfl)))
set_option maxHeartbeats 200000 in
theorem bX7_after_6 {S : pv_S} {x1 x2 x3 x4 x5 : Int32} : pv_R mX7_after 6 [some (.ref 37), some (.int x1), some (.int x2), some (.int x3), some (.int x4), some (.int x5)] [] (pv_em S) = if x3 ≤ x5 then pv_R mX7_after 41 [some (.ref 37), some (.int x1), some (.int x2), some (.int x3), some (.int x4), some (.int x5)] [] (pv_em S) else pv_R mX7_after 12 [some (.ref 37), some (.int x1), some (.int x2), some (.int x3), some (.int x4), some (.int x5)] [] (pv_em S) := Eq.trans (pv_Rstp dX7_after_6 rfl rfl rfl) (Eq.trans (pv_Rstp dX7_after_8 rfl rfl rfl) (pv_Rbr (tgt := 41) dX7_after_9 rfl rfl rfl rfl rfl (by decide)))
set_option maxHeartbeats 200000 in
theorem bX7_after_12 {S : pv_S} {x1 x2 x3 x4 x5 : Int32} : pv_R mX7_after 12 [some (.ref 37), some (.int x1), some (.int x2), some (.int x3), some (.int x4), some (.int x5)] [] (pv_em S) = pv_cc (pv_R mX7_changes 0 [some (.int x1), some (.int ((S.1 44 (6 : Int32).toNatClampNeg) + x5)), some (.int 1)] [] (pv_em S)) mX7_after 29 [some (.ref 37), some (.int x1), some (.int x2), some (.int x3), some (.int x4), some (.int x5)] [.int x4] := Eq.trans (pv_Rstp dX7_after_12 rfl rfl rfl) (Eq.trans (pv_Rstp dX7_after_14 rfl rfl rfl) (Eq.trans (pv_Rstp dX7_after_15 rfl rfl rfl) (Eq.trans (pv_Rget dX7_after_16 ffX7_28 (by decide) (pv_ce_37 _ _) rfl) (Eq.trans (pv_Rbp dX7_after_19 kb_6) (Eq.trans (pv_Rald dX7_after_21 (by decide) (pv_ce_44 _ _)) (Eq.trans (if_neg (by decide +kernel)) (Eq.trans (pv_Rstp dX7_after_22 rfl rfl rfl) (Eq.trans (pv_Rstp dX7_after_24 rfl rfl rfl) (Eq.trans (pv_Ric dX7_after_25 ki_1) (pv_Rcall (As := [.int x1, .int ((S.1 44 (6 : Int32).toNatClampNeg) + x5), .int 1]) (rest := [.int x4]) dX7_after_26 rfl mfX7_147 rfl rfl rfl rfl rfl))))))))))
set_option maxHeartbeats 200000 in
theorem bX7_after_29 {S : pv_S} {x1 x2 x3 x4 x5 u0 u1 : Int32} : pv_R mX7_after 29 [some (.ref 37), some (.int x1), some (.int x2), some (.int x3), some (.int x4), some (.int x5)] [.int u0, .int u1] (pv_em S) = pv_cc (pv_R mX7_bound 0 [some (.int (u1 + u0))] [] (pv_em S)) mX7_after 33 [some (.ref 37), some (.int x1), some (.int x2), some (.int x3), some (.int x4), some (.int x5)] [] := Eq.trans (pv_Rstp dX7_after_29 rfl rfl rfl) (pv_Rcall (As := [.int (u1 + u0)]) (rest := []) dX7_after_30 rfl mfX7_151 rfl rfl rfl rfl rfl)
set_option maxHeartbeats 200000 in
theorem bX7_after_33 {S : pv_S} {x1 x2 x3 x4 x5 u0 : Int32} : pv_R mX7_after 33 [some (.ref 37), some (.int x1), some (.int x2), some (.int x3), some (.int x4), some (.int x5)] [.int u0] (pv_em S) = pv_R mX7_after 6 [some (.ref 37), some (.int x1), some (.int x2), some (.int x3), some (.int u0), some (.int (x5 + 1))] [] (pv_em S) := Eq.trans (pv_Rstp dX7_after_33 rfl rfl rfl) (Eq.trans (pv_Rinc dX7_after_35 rfl (Nat.le_of_ble_eq_true rfl) ki_1 rfl) (pv_Rgo (tgt := 6) dX7_after_38 rfl (by decide)))
set_option maxHeartbeats 200000 in
theorem bX7_after_41 {S : pv_S} {x1 x2 x3 x4 x5 : Int32} : pv_R mX7_after 41 [some (.ref 37), some (.int x1), some (.int x2), some (.int x3), some (.int x4), some (.int x5)] [] (pv_em S) = some (some (.int x4), pv_em S) := Eq.trans (pv_Rstp dX7_after_41 rfl rfl rfl) (pv_Rret dX7_after_43 rfl)
theorem dX7_bound_0 : decode cX7_bound 0 = .ok (.iload_n 0, 1) := by decide +kernel
theorem dX7_bound_1 : decode cX7_bound 1 = .ok (.iconst 1, 1) := by decide +kernel
theorem dX7_bound_2 : decode cX7_bound 2 = .ok (.if_icmp .ge 7, 3) := by decide +kernel
theorem dX7_bound_5 : decode cX7_bound 5 = .ok (.iconst 1, 1) := by decide +kernel
theorem dX7_bound_6 : decode cX7_bound 6 = .ok (.goto 17, 3) := by decide +kernel
theorem dX7_bound_9 : decode cX7_bound 9 = .ok (.iload_n 0, 1) := by decide +kernel
theorem dX7_bound_10 : decode cX7_bound 10 = .ok (.sipush 200, 3) := by decide +kernel
theorem dX7_bound_13 : decode cX7_bound 13 = .ok (.if_icmp .le 9, 3) := by decide +kernel
theorem dX7_bound_16 : decode cX7_bound 16 = .ok (.sipush 200, 3) := by decide +kernel
theorem dX7_bound_19 : decode cX7_bound 19 = .ok (.goto 4, 3) := by decide +kernel
theorem dX7_bound_22 : decode cX7_bound 22 = .ok (.iload_n 0, 1) := by decide +kernel
theorem dX7_bound_23 : decode cX7_bound 23 = .ok (.ireturn, 1) := by decide +kernel
set_option maxHeartbeats 200000 in
theorem bX7_bound_0 {S : pv_S} {x0 : Int32} : pv_R mX7_bound 0 [some (.int x0)] [] (pv_em S) = if 1 ≤ x0 then pv_R mX7_bound 9 [some (.int x0)] [] (pv_em S) else pv_R mX7_bound 5 [some (.int x0)] [] (pv_em S) := Eq.trans (pv_Rstp dX7_bound_0 rfl rfl rfl) (Eq.trans (pv_Ric dX7_bound_1 ki_1) (pv_Rbr (tgt := 9) dX7_bound_2 rfl rfl rfl rfl rfl (by decide)))
set_option maxHeartbeats 200000 in
theorem bX7_bound_5 {S : pv_S} {x0 : Int32} : pv_R mX7_bound 5 [some (.int x0)] [] (pv_em S) = pv_R mX7_bound 23 [some (.int x0)] [.int 1] (pv_em S) := Eq.trans (pv_Ric dX7_bound_5 ki_1) (pv_Rgo (tgt := 23) dX7_bound_6 rfl (by decide))
set_option maxHeartbeats 200000 in
theorem bX7_bound_9 {S : pv_S} {x0 : Int32} : pv_R mX7_bound 9 [some (.int x0)] [] (pv_em S) = if x0 ≤ 200 then pv_R mX7_bound 22 [some (.int x0)] [] (pv_em S) else pv_R mX7_bound 16 [some (.int x0)] [] (pv_em S) := Eq.trans (pv_Rstp dX7_bound_9 rfl rfl rfl) (Eq.trans (pv_Rsp dX7_bound_10 ks_200) (pv_Rbr (tgt := 22) dX7_bound_13 rfl rfl rfl rfl rfl (by decide)))
set_option maxHeartbeats 200000 in
theorem bX7_bound_16 {S : pv_S} {x0 : Int32} : pv_R mX7_bound 16 [some (.int x0)] [] (pv_em S) = pv_R mX7_bound 23 [some (.int x0)] [.int 200] (pv_em S) := Eq.trans (pv_Rsp dX7_bound_16 ks_200) (pv_Rgo (tgt := 23) dX7_bound_19 rfl (by decide))
set_option maxHeartbeats 200000 in
theorem bX7_bound_22 {S : pv_S} {x0 : Int32} : pv_R mX7_bound 22 [some (.int x0)] [] (pv_em S) = pv_R mX7_bound 23 [some (.int x0)] [.int x0] (pv_em S) := pv_Rstp dX7_bound_22 rfl rfl rfl
set_option maxHeartbeats 200000 in
theorem bX7_bound_23 {S : pv_S} {x0 u0 : Int32} : pv_R mX7_bound 23 [some (.int x0)] [.int u0] (pv_em S) = some (some (.int u0), pv_em S) := pv_Rret dX7_bound_23 rfl
theorem dX7_poundIn_0 : decode cX7_poundIn 0 = .ok (.aload_n 0, 1) := by decide +kernel
theorem dX7_poundIn_1 : decode cX7_poundIn 1 = .ok (.aload_n 0, 1) := by decide +kernel
theorem dX7_poundIn_2 : decode cX7_poundIn 2 = .ok (.getfield 28, 3) := by decide +kernel
theorem dX7_poundIn_5 : decode cX7_poundIn 5 = .ok (.bipush 9, 2) := by decide +kernel
theorem dX7_poundIn_7 : decode cX7_poundIn 7 = .ok (.iaload, 1) := by decide +kernel
theorem dX7_poundIn_8 : decode cX7_poundIn 8 = .ok (.iload_n 1, 1) := by decide +kernel
theorem dX7_poundIn_9 : decode cX7_poundIn 9 = .ok (.invokevirtual 158, 3) := by decide +kernel
theorem dX7_poundIn_12 : decode cX7_poundIn 12 = .ok (.ireturn, 1) := by decide +kernel
set_option maxHeartbeats 200000 in
theorem bX7_poundIn_0 {S : pv_S} {x1 : Int32} : pv_R mX7_poundIn 0 [some (.ref 37), some (.int x1)] [] (pv_em S) = pv_cc (pv_R mX7_afterOf 0 [some (.ref 37), some (.int (S.1 44 (9 : Int32).toNatClampNeg)), some (.int x1)] [] (pv_em S)) mX7_poundIn 12 [some (.ref 37), some (.int x1)] [] := Eq.trans (pv_Rstp dX7_poundIn_0 rfl rfl rfl) (Eq.trans (pv_Rstp dX7_poundIn_1 rfl rfl rfl) (Eq.trans (pv_Rget dX7_poundIn_2 ffX7_28 (by decide) (pv_ce_37 _ _) rfl) (Eq.trans (pv_Rbp dX7_poundIn_5 kb_9) (Eq.trans (pv_Rald dX7_poundIn_7 (by decide) (pv_ce_44 _ _)) (Eq.trans (if_neg (by decide +kernel)) (Eq.trans (pv_Rstp dX7_poundIn_8 rfl rfl rfl) (pv_Rcall (As := [.ref 37, .int (S.1 44 (9 : Int32).toNatClampNeg), .int x1]) (rest := []) dX7_poundIn_9 rfl mfX7_158 rfl rfl rfl rfl rfl)))))))
set_option maxHeartbeats 200000 in
theorem bX7_poundIn_12 {S : pv_S} {x1 u0 : Int32} : pv_R mX7_poundIn 12 [some (.ref 37), some (.int x1)] [.int u0] (pv_em S) = some (some (.int u0), pv_em S) := pv_Rret dX7_poundIn_12 rfl
theorem dX7_abs_0 : decode cX7_abs 0 = .ok (.iload_n 0, 1) := by decide +kernel
theorem dX7_abs_1 : decode cX7_abs 1 = .ok (.ifCond .ge 8, 3) := by decide +kernel
theorem dX7_abs_4 : decode cX7_abs 4 = .ok (.iload_n 0, 1) := by decide +kernel
theorem dX7_abs_5 : decode cX7_abs 5 = .ok (.ineg, 1) := by decide +kernel
theorem dX7_abs_6 : decode cX7_abs 6 = .ok (.goto 4, 3) := by decide +kernel
theorem dX7_abs_9 : decode cX7_abs 9 = .ok (.iload_n 0, 1) := by decide +kernel
theorem dX7_abs_10 : decode cX7_abs 10 = .ok (.ireturn, 1) := by decide +kernel
set_option maxHeartbeats 200000 in
theorem bX7_abs_0 {S : pv_S} {x0 : Int32} : pv_R mX7_abs 0 [some (.int x0)] [] (pv_em S) = if 0 ≤ x0 then pv_R mX7_abs 9 [some (.int x0)] [] (pv_em S) else pv_R mX7_abs 4 [some (.int x0)] [] (pv_em S) := Eq.trans (pv_Rstp dX7_abs_0 rfl rfl rfl) (pv_Rbr (tgt := 9) dX7_abs_1 rfl rfl rfl rfl rfl (by decide))
set_option maxHeartbeats 200000 in
theorem bX7_abs_4 {S : pv_S} {x0 : Int32} : pv_R mX7_abs 4 [some (.int x0)] [] (pv_em S) = pv_R mX7_abs 10 [some (.int x0)] [.int (-x0)] (pv_em S) := Eq.trans (pv_Rstp dX7_abs_4 rfl rfl rfl) (Eq.trans (pv_Rstp dX7_abs_5 rfl rfl rfl) (pv_Rgo (tgt := 10) dX7_abs_6 rfl (by decide)))
set_option maxHeartbeats 200000 in
theorem bX7_abs_9 {S : pv_S} {x0 : Int32} : pv_R mX7_abs 9 [some (.int x0)] [] (pv_em S) = pv_R mX7_abs 10 [some (.int x0)] [.int x0] (pv_em S) := pv_Rstp dX7_abs_9 rfl rfl rfl
set_option maxHeartbeats 200000 in
theorem bX7_abs_10 {S : pv_S} {x0 u0 : Int32} : pv_R mX7_abs 10 [some (.int x0)] [.int u0] (pv_em S) = some (some (.int u0), pv_em S) := pv_Rret dX7_abs_10 rfl
set_option maxHeartbeats 200000 in
theorem bX7_copies_50_51_0 {S : pv_S} {x1 x3 x4 : Int32} {a5 : Option Value} : pv_R mX7_copies 0 [some (.ref 50), some (.int x1), some (.ref 51), some (.int x3), some (.int x4), a5] [] (pv_em S) = pv_R mX7_copies 3 [some (.ref 50), some (.int x1), some (.ref 51), some (.int x3), some (.int x4), some (.int 0)] [] (pv_em S) := Eq.trans (pv_Ric dX7_copies_0 ki_0) (pv_Rstp dX7_copies_1 rfl rfl rfl)
set_option maxHeartbeats 200000 in
theorem bX7_copies_50_51_3 {S : pv_S} {x1 x3 x4 x5 : Int32} : pv_R mX7_copies 3 [some (.ref 50), some (.int x1), some (.ref 51), some (.int x3), some (.int x4), some (.int x5)] [] (pv_em S) = if x4 ≤ x5 then pv_R mX7_copies 28 [some (.ref 50), some (.int x1), some (.ref 51), some (.int x3), some (.int x4), some (.int x5)] [] (pv_em S) else pv_R mX7_copies 10 [some (.ref 50), some (.int x1), some (.ref 51), some (.int x3), some (.int x4), some (.int x5)] [] (pv_em S) := Eq.trans (pv_Rstp dX7_copies_3 rfl rfl rfl) (Eq.trans (pv_Rstp dX7_copies_5 rfl rfl rfl) (pv_Rbr (tgt := 28) dX7_copies_7 rfl rfl rfl rfl rfl (by decide)))
set_option maxHeartbeats 200000 in
theorem bX7_copies_50_51_10 {S : pv_S} {x1 x3 x4 x5 : Int32} : pv_R mX7_copies 10 [some (.ref 50), some (.int x1), some (.ref 51), some (.int x3), some (.int x4), some (.int x5)] [] (pv_em S) = if (x1 + x5) < 0 ∨ 3 ≤ (x1 + x5).toNatClampNeg then none else if (x3 + x5) < 0 ∨ 3 ≤ (x3 + x5).toNatClampNeg then none else pv_R mX7_copies 3 [some (.ref 50), some (.int x1), some (.ref 51), some (.int x3), some (.int x4), some (.int (x5 + 1))] [] (pv_em (pv_si S 51 (x3 + x5).toNatClampNeg (S.1 50 (x1 + x5).toNatClampNeg))) := Eq.trans (pv_Rstp dX7_copies_10 rfl rfl rfl) (Eq.trans (pv_Rstp dX7_copies_11 rfl rfl rfl) (Eq.trans (pv_Rstp dX7_copies_12 rfl rfl rfl) (Eq.trans (pv_Rstp dX7_copies_14 rfl rfl rfl) (Eq.trans (pv_Rstp dX7_copies_15 rfl rfl rfl) (Eq.trans (pv_Rstp dX7_copies_16 rfl rfl rfl) (Eq.trans (pv_Rstp dX7_copies_17 rfl rfl rfl) (Eq.trans (pv_Rstp dX7_copies_19 rfl rfl rfl) (Eq.trans (pv_Rald dX7_copies_20 (by decide) (pv_ce_50 _ _)) (pv_iteN (fun h1 => Eq.trans (pv_Rast dX7_copies_21 (by decide) (pv_ce_51 _ _) (pv_em_si rfl)) (pv_iteN (fun h2 => Eq.trans (pv_Rinc dX7_copies_22 rfl (Nat.le_of_ble_eq_true rfl) ki_1 rfl) (pv_Rgo (tgt := 3) dX7_copies_25 rfl (by decide))))))))))))))
set_option maxHeartbeats 200000 in
theorem bX7_copies_50_51_28 {S : pv_S} {x1 x3 x4 x5 : Int32} : pv_R mX7_copies 28 [some (.ref 50), some (.int x1), some (.ref 51), some (.int x3), some (.int x4), some (.int x5)] [] (pv_em S) = some (none, pv_em S) := pv_Rret dX7_copies_28 rfl
set_option maxHeartbeats 200000 in
theorem bX7_copies_51_39_0 {S : pv_S} {x1 x3 x4 : Int32} {a5 : Option Value} : pv_R mX7_copies 0 [some (.ref 51), some (.int x1), some (.ref 39), some (.int x3), some (.int x4), a5] [] (pv_em S) = pv_R mX7_copies 3 [some (.ref 51), some (.int x1), some (.ref 39), some (.int x3), some (.int x4), some (.int 0)] [] (pv_em S) := Eq.trans (pv_Ric dX7_copies_0 ki_0) (pv_Rstp dX7_copies_1 rfl rfl rfl)
set_option maxHeartbeats 200000 in
theorem bX7_copies_51_39_3 {S : pv_S} {x1 x3 x4 x5 : Int32} : pv_R mX7_copies 3 [some (.ref 51), some (.int x1), some (.ref 39), some (.int x3), some (.int x4), some (.int x5)] [] (pv_em S) = if x4 ≤ x5 then pv_R mX7_copies 28 [some (.ref 51), some (.int x1), some (.ref 39), some (.int x3), some (.int x4), some (.int x5)] [] (pv_em S) else pv_R mX7_copies 10 [some (.ref 51), some (.int x1), some (.ref 39), some (.int x3), some (.int x4), some (.int x5)] [] (pv_em S) := Eq.trans (pv_Rstp dX7_copies_3 rfl rfl rfl) (Eq.trans (pv_Rstp dX7_copies_5 rfl rfl rfl) (pv_Rbr (tgt := 28) dX7_copies_7 rfl rfl rfl rfl rfl (by decide)))
set_option maxHeartbeats 200000 in
theorem bX7_copies_51_39_10 {S : pv_S} {x1 x3 x4 x5 : Int32} : pv_R mX7_copies 10 [some (.ref 51), some (.int x1), some (.ref 39), some (.int x3), some (.int x4), some (.int x5)] [] (pv_em S) = if (x1 + x5) < 0 ∨ 3 ≤ (x1 + x5).toNatClampNeg then none else if (x3 + x5) < 0 ∨ 240 ≤ (x3 + x5).toNatClampNeg then none else pv_R mX7_copies 3 [some (.ref 51), some (.int x1), some (.ref 39), some (.int x3), some (.int x4), some (.int (x5 + 1))] [] (pv_em (pv_si S 39 (x3 + x5).toNatClampNeg (S.1 51 (x1 + x5).toNatClampNeg))) := Eq.trans (pv_Rstp dX7_copies_10 rfl rfl rfl) (Eq.trans (pv_Rstp dX7_copies_11 rfl rfl rfl) (Eq.trans (pv_Rstp dX7_copies_12 rfl rfl rfl) (Eq.trans (pv_Rstp dX7_copies_14 rfl rfl rfl) (Eq.trans (pv_Rstp dX7_copies_15 rfl rfl rfl) (Eq.trans (pv_Rstp dX7_copies_16 rfl rfl rfl) (Eq.trans (pv_Rstp dX7_copies_17 rfl rfl rfl) (Eq.trans (pv_Rstp dX7_copies_19 rfl rfl rfl) (Eq.trans (pv_Rald dX7_copies_20 (by decide) (pv_ce_51 _ _)) (pv_iteN (fun h1 => Eq.trans (pv_Rast dX7_copies_21 (by decide) (pv_ce_39 _ _) (pv_em_si rfl)) (pv_iteN (fun h2 => Eq.trans (pv_Rinc dX7_copies_22 rfl (Nat.le_of_ble_eq_true rfl) ki_1 rfl) (pv_Rgo (tgt := 3) dX7_copies_25 rfl (by decide))))))))))))))
set_option maxHeartbeats 200000 in
theorem bX7_copies_51_39_28 {S : pv_S} {x1 x3 x4 x5 : Int32} : pv_R mX7_copies 28 [some (.ref 51), some (.int x1), some (.ref 39), some (.int x3), some (.int x4), some (.int x5)] [] (pv_em S) = some (none, pv_em S) := pv_Rret dX7_copies_28 rfl
theorem dX7_planned_0 : decode cX7_planned 0 = .ok (.iload_n 1, 1) := by decide +kernel
theorem dX7_planned_1 : decode cX7_planned 1 = .ok (.istore_n 3, 1) := by decide +kernel
theorem dX7_planned_2 : decode cX7_planned 2 = .ok (.aload_n 0, 1) := by decide +kernel
theorem dX7_planned_3 : decode cX7_planned 3 = .ok (.getfield 28, 3) := by decide +kernel
theorem dX7_planned_6 : decode cX7_planned 6 = .ok (.bipush 9, 2) := by decide +kernel
theorem dX7_planned_8 : decode cX7_planned 8 = .ok (.iaload, 1) := by decide +kernel
theorem dX7_planned_9 : decode cX7_planned 9 = .ok (.istore 4, 2) := by decide +kernel
theorem dX7_planned_11 : decode cX7_planned 11 = .ok (.iload_n 2, 1) := by decide +kernel
theorem dX7_planned_12 : decode cX7_planned 12 = .ok (.iconst 1, 1) := by decide +kernel
theorem dX7_planned_13 : decode cX7_planned 13 = .ok (.isub, 1) := by decide +kernel
theorem dX7_planned_14 : decode cX7_planned 14 = .ok (.istore 5, 2) := by decide +kernel
theorem dX7_planned_16 : decode cX7_planned 16 = .ok (.iload 5, 2) := by decide +kernel
theorem dX7_planned_18 : decode cX7_planned 18 = .ok (.ifCond .lt 51, 3) := by decide +kernel
theorem dX7_planned_21 : decode cX7_planned 21 = .ok (.aload_n 0, 1) := by decide +kernel
theorem dX7_planned_22 : decode cX7_planned 22 = .ok (.getfield 51, 3) := by decide +kernel
theorem dX7_planned_25 : decode cX7_planned 25 = .ok (.iload 5, 2) := by decide +kernel
theorem dX7_planned_27 : decode cX7_planned 27 = .ok (.iload_n 3, 1) := by decide +kernel
theorem dX7_planned_28 : decode cX7_planned 28 = .ok (.aload_n 0, 1) := by decide +kernel
theorem dX7_planned_29 : decode cX7_planned 29 = .ok (.getfield 138, 3) := by decide +kernel
theorem dX7_planned_32 : decode cX7_planned 32 = .ok (.iconst 1, 1) := by decide +kernel
theorem dX7_planned_33 : decode cX7_planned 33 = .ok (.iadd, 1) := by decide +kernel
theorem dX7_planned_34 : decode cX7_planned 34 = .ok (.irem, 1) := by decide +kernel
theorem dX7_planned_35 : decode cX7_planned 35 = .ok (.ifCond .ne 8, 3) := by decide +kernel
theorem dX7_planned_38 : decode cX7_planned 38 = .ok (.bipush (-9), 2) := by decide +kernel
theorem dX7_planned_40 : decode cX7_planned 40 = .ok (.goto 13, 3) := by decide +kernel
theorem dX7_planned_43 : decode cX7_planned 43 = .ok (.iload_n 3, 1) := by decide +kernel
theorem dX7_planned_44 : decode cX7_planned 44 = .ok (.aload_n 0, 1) := by decide +kernel
theorem dX7_planned_45 : decode cX7_planned 45 = .ok (.getfield 138, 3) := by decide +kernel
theorem dX7_planned_48 : decode cX7_planned 48 = .ok (.iconst 1, 1) := by decide +kernel
theorem dX7_planned_49 : decode cX7_planned 49 = .ok (.iadd, 1) := by decide +kernel
theorem dX7_planned_50 : decode cX7_planned 50 = .ok (.irem, 1) := by decide +kernel
theorem dX7_planned_51 : decode cX7_planned 51 = .ok (.iconst 1, 1) := by decide +kernel
theorem dX7_planned_52 : decode cX7_planned 52 = .ok (.isub, 1) := by decide +kernel
theorem dX7_planned_53 : decode cX7_planned 53 = .ok (.iastore, 1) := by decide +kernel
theorem dX7_planned_54 : decode cX7_planned 54 = .ok (.iload_n 3, 1) := by decide +kernel
theorem dX7_planned_55 : decode cX7_planned 55 = .ok (.aload_n 0, 1) := by decide +kernel
theorem dX7_planned_56 : decode cX7_planned 56 = .ok (.getfield 138, 3) := by decide +kernel
theorem dX7_planned_59 : decode cX7_planned 59 = .ok (.iconst 1, 1) := by decide +kernel
theorem dX7_planned_60 : decode cX7_planned 60 = .ok (.iadd, 1) := by decide +kernel
theorem dX7_planned_61 : decode cX7_planned 61 = .ok (.idiv, 1) := by decide +kernel
theorem dX7_planned_62 : decode cX7_planned 62 = .ok (.istore_n 3, 1) := by decide +kernel
theorem dX7_planned_63 : decode cX7_planned 63 = .ok (.iinc 5 (-1), 3) := by decide +kernel
theorem dX7_planned_66 : decode cX7_planned 66 = .ok (.goto (-50), 3) := by decide +kernel
theorem dX7_planned_69 : decode cX7_planned 69 = .ok (.aload_n 0, 1) := by decide +kernel
theorem dX7_planned_70 : decode cX7_planned 70 = .ok (.getfield 28, 3) := by decide +kernel
theorem dX7_planned_73 : decode cX7_planned 73 = .ok (.iconst 0, 1) := by decide +kernel
theorem dX7_planned_74 : decode cX7_planned 74 = .ok (.iload 4, 2) := by decide +kernel
theorem dX7_planned_76 : decode cX7_planned 76 = .ok (.iadd, 1) := by decide +kernel
theorem dX7_planned_77 : decode cX7_planned 77 = .ok (.iaload, 1) := by decide +kernel
theorem dX7_planned_78 : decode cX7_planned 78 = .ok (.istore 5, 2) := by decide +kernel
theorem dX7_planned_80 : decode cX7_planned 80 = .ok (.iconst 0, 1) := by decide +kernel
theorem dX7_planned_81 : decode cX7_planned 81 = .ok (.istore 6, 2) := by decide +kernel
theorem dX7_planned_83 : decode cX7_planned 83 = .ok (.iconst 0, 1) := by decide +kernel
theorem dX7_planned_84 : decode cX7_planned 84 = .ok (.istore 7, 2) := by decide +kernel
theorem dX7_planned_86 : decode cX7_planned 86 = .ok (.iload 7, 2) := by decide +kernel
theorem dX7_planned_88 : decode cX7_planned 88 = .ok (.iload_n 2, 1) := by decide +kernel
theorem dX7_planned_89 : decode cX7_planned 89 = .ok (.if_icmp .ge 105, 3) := by decide +kernel
theorem dX7_planned_92 : decode cX7_planned 92 = .ok (.aload_n 0, 1) := by decide +kernel
theorem dX7_planned_93 : decode cX7_planned 93 = .ok (.getfield 51, 3) := by decide +kernel
theorem dX7_planned_96 : decode cX7_planned 96 = .ok (.iload 7, 2) := by decide +kernel
theorem dX7_planned_98 : decode cX7_planned 98 = .ok (.iaload, 1) := by decide +kernel
theorem dX7_planned_99 : decode cX7_planned 99 = .ok (.iload 4, 2) := by decide +kernel
theorem dX7_planned_101 : decode cX7_planned 101 = .ok (.if_icmp .ne 29, 3) := by decide +kernel
theorem dX7_planned_104 : decode cX7_planned 104 = .ok (.iload 5, 2) := by decide +kernel
theorem dX7_planned_106 : decode cX7_planned 106 = .ok (.aload_n 0, 1) := by decide +kernel
theorem dX7_planned_107 : decode cX7_planned 107 = .ok (.getfield 22, 3) := by decide +kernel
theorem dX7_planned_110 : decode cX7_planned 110 = .ok (.iload 4, 2) := by decide +kernel
theorem dX7_planned_112 : decode cX7_planned 112 = .ok (.iaload, 1) := by decide +kernel
theorem dX7_planned_113 : decode cX7_planned 113 = .ok (.aload_n 0, 1) := by decide +kernel
theorem dX7_planned_114 : decode cX7_planned 114 = .ok (.getfield 25, 3) := by decide +kernel
theorem dX7_planned_117 : decode cX7_planned 117 = .ok (.iload 4, 2) := by decide +kernel
theorem dX7_planned_119 : decode cX7_planned 119 = .ok (.iaload, 1) := by decide +kernel
theorem dX7_planned_120 : decode cX7_planned 120 = .ok (.invokestatic 162, 3) := by decide +kernel
theorem dX7_planned_123 : decode cX7_planned 123 = .ok (.iadd, 1) := by decide +kernel
theorem dX7_planned_124 : decode cX7_planned 124 = .ok (.invokestatic 151, 3) := by decide +kernel
theorem dX7_planned_127 : decode cX7_planned 127 = .ok (.goto 5, 3) := by decide +kernel
theorem dX7_planned_130 : decode cX7_planned 130 = .ok (.iload 5, 2) := by decide +kernel
theorem dX7_planned_132 : decode cX7_planned 132 = .ok (.istore 5, 2) := by decide +kernel
theorem dX7_planned_134 : decode cX7_planned 134 = .ok (.iload 5, 2) := by decide +kernel
theorem dX7_planned_136 : decode cX7_planned 136 = .ok (.aload_n 0, 1) := by decide +kernel
theorem dX7_planned_137 : decode cX7_planned 137 = .ok (.getfield 22, 3) := by decide +kernel
theorem dX7_planned_140 : decode cX7_planned 140 = .ok (.iload 4, 2) := by decide +kernel
theorem dX7_planned_142 : decode cX7_planned 142 = .ok (.iaload, 1) := by decide +kernel
theorem dX7_planned_143 : decode cX7_planned 143 = .ok (.aload_n 0, 1) := by decide +kernel
theorem dX7_planned_144 : decode cX7_planned 144 = .ok (.getfield 28, 3) := by decide +kernel
theorem dX7_planned_147 : decode cX7_planned 147 = .ok (.bipush 6, 2) := by decide +kernel
theorem dX7_planned_149 : decode cX7_planned 149 = .ok (.iaload, 1) := by decide +kernel
theorem dX7_planned_150 : decode cX7_planned 150 = .ok (.iload 7, 2) := by decide +kernel
theorem dX7_planned_152 : decode cX7_planned 152 = .ok (.iadd, 1) := by decide +kernel
theorem dX7_planned_153 : decode cX7_planned 153 = .ok (.iconst 1, 1) := by decide +kernel
theorem dX7_planned_154 : decode cX7_planned 154 = .ok (.invokestatic 147, 3) := by decide +kernel
theorem dX7_planned_157 : decode cX7_planned 157 = .ok (.iadd, 1) := by decide +kernel
theorem dX7_planned_158 : decode cX7_planned 158 = .ok (.invokestatic 151, 3) := by decide +kernel
theorem dX7_planned_161 : decode cX7_planned 161 = .ok (.istore 5, 2) := by decide +kernel
theorem dX7_planned_163 : decode cX7_planned 163 = .ok (.iload 6, 2) := by decide +kernel
theorem dX7_planned_165 : decode cX7_planned 165 = .ok (.iload 5, 2) := by decide +kernel
theorem dX7_planned_167 : decode cX7_planned 167 = .ok (.aload_n 0, 1) := by decide +kernel
theorem dX7_planned_168 : decode cX7_planned 168 = .ok (.getfield 51, 3) := by decide +kernel
theorem dX7_planned_171 : decode cX7_planned 171 = .ok (.iload 7, 2) := by decide +kernel
theorem dX7_planned_173 : decode cX7_planned 173 = .ok (.iaload, 1) := by decide +kernel
theorem dX7_planned_174 : decode cX7_planned 174 = .ok (.bipush (-9), 2) := by decide +kernel
theorem dX7_planned_176 : decode cX7_planned 176 = .ok (.if_icmp .ne 7, 3) := by decide +kernel
theorem dX7_planned_179 : decode cX7_planned 179 = .ok (.iconst 0, 1) := by decide +kernel
theorem dX7_planned_180 : decode cX7_planned 180 = .ok (.goto 4, 3) := by decide +kernel
theorem dX7_planned_183 : decode cX7_planned 183 = .ok (.iconst 3, 1) := by decide +kernel
theorem dX7_planned_184 : decode cX7_planned 184 = .ok (.isub, 1) := by decide +kernel
theorem dX7_planned_185 : decode cX7_planned 185 = .ok (.iadd, 1) := by decide +kernel
theorem dX7_planned_186 : decode cX7_planned 186 = .ok (.istore 6, 2) := by decide +kernel
theorem dX7_planned_188 : decode cX7_planned 188 = .ok (.iinc 7 1, 3) := by decide +kernel
theorem dX7_planned_191 : decode cX7_planned 191 = .ok (.goto (-105), 3) := by decide +kernel
theorem dX7_planned_194 : decode cX7_planned 194 = .ok (.iload 6, 2) := by decide +kernel
theorem dX7_planned_196 : decode cX7_planned 196 = .ok (.ireturn, 1) := by decide +kernel
set_option maxHeartbeats 200000 in
theorem bX7_planned_0 {S : pv_S} {x1 x2 : Int32} {a3 a4 a5 a6 a7 : Option Value} : pv_R mX7_planned 0 [some (.ref 37), some (.int x1), some (.int x2), a3, a4, a5, a6, a7] [] (pv_em S) = pv_R mX7_planned 16 [some (.ref 37), some (.int x1), some (.int x2), some (.int x1), some (.int (S.1 44 (9 : Int32).toNatClampNeg)), some (.int (x2 - 1)), a6, a7] [] (pv_em S) := Eq.trans (pv_Rstp dX7_planned_0 rfl rfl rfl) (Eq.trans (pv_Rstp dX7_planned_1 rfl rfl rfl) (Eq.trans (pv_Rstp dX7_planned_2 rfl rfl rfl) (Eq.trans (pv_Rget dX7_planned_3 ffX7_28 (by decide) (pv_ce_37 _ _) rfl) (Eq.trans (pv_Rbp dX7_planned_6 kb_9) (Eq.trans (pv_Rald dX7_planned_8 (by decide) (pv_ce_44 _ _)) (Eq.trans (if_neg (by decide +kernel)) (Eq.trans (pv_Rstp dX7_planned_9 rfl rfl rfl) (Eq.trans (pv_Rstp dX7_planned_11 rfl rfl rfl) (Eq.trans (pv_Ric dX7_planned_12 ki_1) (Eq.trans (pv_Rstp dX7_planned_13 rfl rfl rfl) (pv_Rstp dX7_planned_14 rfl rfl rfl)))))))))))
set_option maxHeartbeats 200000 in
theorem bX7_planned_16 {S : pv_S} {x1 x2 x3 x4 x5 : Int32} {a6 a7 : Option Value} : pv_R mX7_planned 16 [some (.ref 37), some (.int x1), some (.int x2), some (.int x3), some (.int x4), some (.int x5), a6, a7] [] (pv_em S) = if x5 < 0 then pv_R mX7_planned 69 [some (.ref 37), some (.int x1), some (.int x2), some (.int x3), some (.int x4), some (.int x5), a6, a7] [] (pv_em S) else pv_R mX7_planned 21 [some (.ref 37), some (.int x1), some (.int x2), some (.int x3), some (.int x4), some (.int x5), a6, a7] [] (pv_em S) := Eq.trans (pv_Rstp dX7_planned_16 rfl rfl rfl) (pv_Rbr (tgt := 69) dX7_planned_18 rfl rfl rfl rfl rfl (by decide))
set_option maxHeartbeats 200000 in
theorem bX7_planned_21 {S : pv_S} {x1 x2 x3 x4 x5 : Int32} {a6 a7 : Option Value} : pv_R mX7_planned 21 [some (.ref 37), some (.int x1), some (.int x2), some (.int x3), some (.int x4), some (.int x5), a6, a7] [] (pv_em S) = if ((S.1 37 4) + 1) = 0 then none else if ¬ (x3 - x3 / ((S.1 37 4) + 1) * ((S.1 37 4) + 1)) = 0 then pv_R mX7_planned 43 [some (.ref 37), some (.int x1), some (.int x2), some (.int x3), some (.int x4), some (.int x5), a6, a7] [.int x5, .ref 50] (pv_em S) else pv_R mX7_planned 38 [some (.ref 37), some (.int x1), some (.int x2), some (.int x3), some (.int x4), some (.int x5), a6, a7] [.int x5, .ref 50] (pv_em S) := Eq.trans (pv_Rstp dX7_planned_21 rfl rfl rfl) (Eq.trans (pv_Rget dX7_planned_22 ffX7_51 (by decide) (pv_ce_37 _ _) rfl) (Eq.trans (pv_Rstp dX7_planned_25 rfl rfl rfl) (Eq.trans (pv_Rstp dX7_planned_27 rfl rfl rfl) (Eq.trans (pv_Rstp dX7_planned_28 rfl rfl rfl) (Eq.trans (pv_Rget dX7_planned_29 ffX7_138 (by decide) (pv_ce_37 _ _) rfl) (Eq.trans (pv_Ric dX7_planned_32 ki_1) (Eq.trans (pv_Rstp dX7_planned_33 rfl rfl rfl) (Eq.trans (pv_Rrem dX7_planned_34) (pv_iteN (fun h1 => pv_Rbr (tgt := 43) dX7_planned_35 rfl rfl rfl rfl rfl (by decide)))))))))))
set_option maxHeartbeats 200000 in
theorem bX7_planned_38 {S : pv_S} {x1 x2 x3 x4 x5 u0 : Int32} {a6 a7 : Option Value} : pv_R mX7_planned 38 [some (.ref 37), some (.int x1), some (.int x2), some (.int x3), some (.int x4), some (.int x5), a6, a7] [.int u0, .ref 50] (pv_em S) = pv_R mX7_planned 53 [some (.ref 37), some (.int x1), some (.int x2), some (.int x3), some (.int x4), some (.int x5), a6, a7] [.int (-9), .int u0, .ref 50] (pv_em S) := Eq.trans (pv_Rbp dX7_planned_38 kb_m9) (pv_Rgo (tgt := 53) dX7_planned_40 rfl (by decide))
set_option maxHeartbeats 200000 in
theorem bX7_planned_43 {S : pv_S} {x1 x2 x3 x4 x5 u0 : Int32} {a6 a7 : Option Value} : pv_R mX7_planned 43 [some (.ref 37), some (.int x1), some (.int x2), some (.int x3), some (.int x4), some (.int x5), a6, a7] [.int u0, .ref 50] (pv_em S) = if ((S.1 37 4) + 1) = 0 then none else pv_R mX7_planned 53 [some (.ref 37), some (.int x1), some (.int x2), some (.int x3), some (.int x4), some (.int x5), a6, a7] [.int ((x3 - x3 / ((S.1 37 4) + 1) * ((S.1 37 4) + 1)) - 1), .int u0, .ref 50] (pv_em S) := Eq.trans (pv_Rstp dX7_planned_43 rfl rfl rfl) (Eq.trans (pv_Rstp dX7_planned_44 rfl rfl rfl) (Eq.trans (pv_Rget dX7_planned_45 ffX7_138 (by decide) (pv_ce_37 _ _) rfl) (Eq.trans (pv_Ric dX7_planned_48 ki_1) (Eq.trans (pv_Rstp dX7_planned_49 rfl rfl rfl) (Eq.trans (pv_Rrem dX7_planned_50) (pv_iteN (fun h1 => Eq.trans (pv_Ric dX7_planned_51 ki_1) (pv_Rstp dX7_planned_52 rfl rfl rfl))))))))
set_option maxHeartbeats 200000 in
theorem bX7_planned_53 {S : pv_S} {x1 x2 x3 x4 x5 u0 u1 : Int32} {a6 a7 : Option Value} : pv_R mX7_planned 53 [some (.ref 37), some (.int x1), some (.int x2), some (.int x3), some (.int x4), some (.int x5), a6, a7] [.int u0, .int u1, .ref 50] (pv_em S) = if u1 < 0 ∨ 3 ≤ u1.toNatClampNeg then none else if (((pv_si S 50 u1.toNatClampNeg u0).1 37 4) + 1) = 0 then none else pv_R mX7_planned 16 [some (.ref 37), some (.int x1), some (.int x2), some (.int (x3 / (((pv_si S 50 u1.toNatClampNeg u0).1 37 4) + 1))), some (.int x4), some (.int (x5 + (-1))), a6, a7] [] (pv_em (pv_si S 50 u1.toNatClampNeg u0)) := Eq.trans (pv_Rast dX7_planned_53 (by decide) (pv_ce_50 _ _) (pv_em_si rfl)) (pv_iteN (fun h1 => Eq.trans (pv_Rstp dX7_planned_54 rfl rfl rfl) (Eq.trans (pv_Rstp dX7_planned_55 rfl rfl rfl) (Eq.trans (pv_Rget dX7_planned_56 ffX7_138 (by decide) (pv_ce_37 _ _) rfl) (Eq.trans (pv_Ric dX7_planned_59 ki_1) (Eq.trans (pv_Rstp dX7_planned_60 rfl rfl rfl) (Eq.trans (pv_Rdiv dX7_planned_61) (pv_iteN (fun h2 => Eq.trans (pv_Rstp dX7_planned_62 rfl rfl rfl) (Eq.trans (pv_Rinc dX7_planned_63 rfl (Nat.le_of_ble_eq_true rfl) ki_m1 rfl) (pv_Rgo (tgt := 16) dX7_planned_66 rfl (by decide))))))))))))
set_option maxHeartbeats 200000 in
theorem bX7_planned_69 {S : pv_S} {x1 x2 x3 x4 x5 : Int32} {a6 a7 : Option Value} : pv_R mX7_planned 69 [some (.ref 37), some (.int x1), some (.int x2), some (.int x3), some (.int x4), some (.int x5), a6, a7] [] (pv_em S) = if (0 + x4) < 0 ∨ 10 ≤ (0 + x4).toNatClampNeg then none else pv_R mX7_planned 86 [some (.ref 37), some (.int x1), some (.int x2), some (.int x3), some (.int x4), some (.int (S.1 44 (0 + x4).toNatClampNeg)), some (.int 0), some (.int 0)] [] (pv_em S) := Eq.trans (pv_Rstp dX7_planned_69 rfl rfl rfl) (Eq.trans (pv_Rget dX7_planned_70 ffX7_28 (by decide) (pv_ce_37 _ _) rfl) (Eq.trans (pv_Ric dX7_planned_73 ki_0) (Eq.trans (pv_Rstp dX7_planned_74 rfl rfl rfl) (Eq.trans (pv_Rstp dX7_planned_76 rfl rfl rfl) (Eq.trans (pv_Rald dX7_planned_77 (by decide) (pv_ce_44 _ _)) (pv_iteN (fun h1 => Eq.trans (pv_Rstp dX7_planned_78 rfl rfl rfl) (Eq.trans (pv_Ric dX7_planned_80 ki_0) (Eq.trans (pv_Rstp dX7_planned_81 rfl rfl rfl) (Eq.trans (pv_Ric dX7_planned_83 ki_0) (pv_Rstp dX7_planned_84 rfl rfl rfl)))))))))))
set_option maxHeartbeats 200000 in
theorem bX7_planned_86 {S : pv_S} {x1 x2 x3 x4 x5 x6 x7 : Int32} : pv_R mX7_planned 86 [some (.ref 37), some (.int x1), some (.int x2), some (.int x3), some (.int x4), some (.int x5), some (.int x6), some (.int x7)] [] (pv_em S) = if x2 ≤ x7 then pv_R mX7_planned 194 [some (.ref 37), some (.int x1), some (.int x2), some (.int x3), some (.int x4), some (.int x5), some (.int x6), some (.int x7)] [] (pv_em S) else pv_R mX7_planned 92 [some (.ref 37), some (.int x1), some (.int x2), some (.int x3), some (.int x4), some (.int x5), some (.int x6), some (.int x7)] [] (pv_em S) := Eq.trans (pv_Rstp dX7_planned_86 rfl rfl rfl) (Eq.trans (pv_Rstp dX7_planned_88 rfl rfl rfl) (pv_Rbr (tgt := 194) dX7_planned_89 rfl rfl rfl rfl rfl (by decide)))
set_option maxHeartbeats 200000 in
theorem bX7_planned_92 {S : pv_S} {x1 x2 x3 x4 x5 x6 x7 : Int32} : pv_R mX7_planned 92 [some (.ref 37), some (.int x1), some (.int x2), some (.int x3), some (.int x4), some (.int x5), some (.int x6), some (.int x7)] [] (pv_em S) = if x7 < 0 ∨ 3 ≤ x7.toNatClampNeg then none else if ¬ (S.1 50 x7.toNatClampNeg) = x4 then pv_R mX7_planned 130 [some (.ref 37), some (.int x1), some (.int x2), some (.int x3), some (.int x4), some (.int x5), some (.int x6), some (.int x7)] [] (pv_em S) else pv_R mX7_planned 104 [some (.ref 37), some (.int x1), some (.int x2), some (.int x3), some (.int x4), some (.int x5), some (.int x6), some (.int x7)] [] (pv_em S) := Eq.trans (pv_Rstp dX7_planned_92 rfl rfl rfl) (Eq.trans (pv_Rget dX7_planned_93 ffX7_51 (by decide) (pv_ce_37 _ _) rfl) (Eq.trans (pv_Rstp dX7_planned_96 rfl rfl rfl) (Eq.trans (pv_Rald dX7_planned_98 (by decide) (pv_ce_50 _ _)) (pv_iteN (fun h1 => Eq.trans (pv_Rstp dX7_planned_99 rfl rfl rfl) (pv_Rbr (tgt := 130) dX7_planned_101 rfl rfl rfl rfl rfl (by decide)))))))
set_option maxHeartbeats 200000 in
theorem bX7_planned_104 {S : pv_S} {x1 x2 x3 x4 x5 x6 x7 : Int32} : pv_R mX7_planned 104 [some (.ref 37), some (.int x1), some (.int x2), some (.int x3), some (.int x4), some (.int x5), some (.int x6), some (.int x7)] [] (pv_em S) = if x4 < 0 ∨ 6 ≤ x4.toNatClampNeg then none else if x4 < 0 ∨ 6 ≤ x4.toNatClampNeg then none else pv_cc (pv_R mX7_meal 0 [some (.int (S.1 42 x4.toNatClampNeg)), some (.int (S.1 43 x4.toNatClampNeg))] [] (pv_em S)) mX7_planned 123 [some (.ref 37), some (.int x1), some (.int x2), some (.int x3), some (.int x4), some (.int x5), some (.int x6), some (.int x7)] [.int x5] := Eq.trans (pv_Rstp dX7_planned_104 rfl rfl rfl) (Eq.trans (pv_Rstp dX7_planned_106 rfl rfl rfl) (Eq.trans (pv_Rget dX7_planned_107 ffX7_22 (by decide) (pv_ce_37 _ _) rfl) (Eq.trans (pv_Rstp dX7_planned_110 rfl rfl rfl) (Eq.trans (pv_Rald dX7_planned_112 (by decide) (pv_ce_42 _ _)) (pv_iteN (fun h1 => Eq.trans (pv_Rstp dX7_planned_113 rfl rfl rfl) (Eq.trans (pv_Rget dX7_planned_114 ffX7_25 (by decide) (pv_ce_37 _ _) rfl) (Eq.trans (pv_Rstp dX7_planned_117 rfl rfl rfl) (Eq.trans (pv_Rald dX7_planned_119 (by decide) (pv_ce_43 _ _)) (pv_iteN (fun h2 => pv_Rcall (As := [.int (S.1 42 x4.toNatClampNeg), .int (S.1 43 x4.toNatClampNeg)]) (rest := [.int x5]) dX7_planned_120 rfl mfX7_162 rfl rfl rfl rfl rfl)))))))))))
set_option maxHeartbeats 200000 in
theorem bX7_planned_123 {S : pv_S} {x1 x2 x3 x4 x5 x6 x7 u0 u1 : Int32} : pv_R mX7_planned 123 [some (.ref 37), some (.int x1), some (.int x2), some (.int x3), some (.int x4), some (.int x5), some (.int x6), some (.int x7)] [.int u0, .int u1] (pv_em S) = pv_cc (pv_R mX7_bound 0 [some (.int (u1 + u0))] [] (pv_em S)) mX7_planned 127 [some (.ref 37), some (.int x1), some (.int x2), some (.int x3), some (.int x4), some (.int x5), some (.int x6), some (.int x7)] [] := Eq.trans (pv_Rstp dX7_planned_123 rfl rfl rfl) (pv_Rcall (As := [.int (u1 + u0)]) (rest := []) dX7_planned_124 rfl mfX7_151 rfl rfl rfl rfl rfl)
set_option maxHeartbeats 200000 in
theorem bX7_planned_127 {S : pv_S} {x1 x2 x3 x4 x5 x6 x7 u0 : Int32} : pv_R mX7_planned 127 [some (.ref 37), some (.int x1), some (.int x2), some (.int x3), some (.int x4), some (.int x5), some (.int x6), some (.int x7)] [.int u0] (pv_em S) = pv_R mX7_planned 132 [some (.ref 37), some (.int x1), some (.int x2), some (.int x3), some (.int x4), some (.int x5), some (.int x6), some (.int x7)] [.int u0] (pv_em S) := pv_Rgo (tgt := 132) dX7_planned_127 rfl (by decide)
set_option maxHeartbeats 200000 in
theorem bX7_planned_130 {S : pv_S} {x1 x2 x3 x4 x5 x6 x7 : Int32} : pv_R mX7_planned 130 [some (.ref 37), some (.int x1), some (.int x2), some (.int x3), some (.int x4), some (.int x5), some (.int x6), some (.int x7)] [] (pv_em S) = pv_R mX7_planned 132 [some (.ref 37), some (.int x1), some (.int x2), some (.int x3), some (.int x4), some (.int x5), some (.int x6), some (.int x7)] [.int x5] (pv_em S) := pv_Rstp dX7_planned_130 rfl rfl rfl
set_option maxHeartbeats 200000 in
theorem bX7_planned_132 {S : pv_S} {x1 x2 x3 x4 x5 x6 x7 u0 : Int32} : pv_R mX7_planned 132 [some (.ref 37), some (.int x1), some (.int x2), some (.int x3), some (.int x4), some (.int x5), some (.int x6), some (.int x7)] [.int u0] (pv_em S) = if x4 < 0 ∨ 6 ≤ x4.toNatClampNeg then none else pv_cc (pv_R mX7_changes 0 [some (.int (S.1 42 x4.toNatClampNeg)), some (.int ((S.1 44 (6 : Int32).toNatClampNeg) + x7)), some (.int 1)] [] (pv_em S)) mX7_planned 157 [some (.ref 37), some (.int x1), some (.int x2), some (.int x3), some (.int x4), some (.int u0), some (.int x6), some (.int x7)] [.int u0] := Eq.trans (pv_Rstp dX7_planned_132 rfl rfl rfl) (Eq.trans (pv_Rstp dX7_planned_134 rfl rfl rfl) (Eq.trans (pv_Rstp dX7_planned_136 rfl rfl rfl) (Eq.trans (pv_Rget dX7_planned_137 ffX7_22 (by decide) (pv_ce_37 _ _) rfl) (Eq.trans (pv_Rstp dX7_planned_140 rfl rfl rfl) (Eq.trans (pv_Rald dX7_planned_142 (by decide) (pv_ce_42 _ _)) (pv_iteN (fun h1 => Eq.trans (pv_Rstp dX7_planned_143 rfl rfl rfl) (Eq.trans (pv_Rget dX7_planned_144 ffX7_28 (by decide) (pv_ce_37 _ _) rfl) (Eq.trans (pv_Rbp dX7_planned_147 kb_6) (Eq.trans (pv_Rald dX7_planned_149 (by decide) (pv_ce_44 _ _)) (Eq.trans (if_neg (by decide +kernel)) (Eq.trans (pv_Rstp dX7_planned_150 rfl rfl rfl) (Eq.trans (pv_Rstp dX7_planned_152 rfl rfl rfl) (Eq.trans (pv_Ric dX7_planned_153 ki_1) (pv_Rcall (As := [.int (S.1 42 x4.toNatClampNeg), .int ((S.1 44 (6 : Int32).toNatClampNeg) + x7), .int 1]) (rest := [.int u0]) dX7_planned_154 rfl mfX7_147 rfl rfl rfl rfl rfl)))))))))))))))
set_option maxHeartbeats 200000 in
theorem bX7_planned_157 {S : pv_S} {x1 x2 x3 x4 x5 x6 x7 u0 u1 : Int32} : pv_R mX7_planned 157 [some (.ref 37), some (.int x1), some (.int x2), some (.int x3), some (.int x4), some (.int x5), some (.int x6), some (.int x7)] [.int u0, .int u1] (pv_em S) = pv_cc (pv_R mX7_bound 0 [some (.int (u1 + u0))] [] (pv_em S)) mX7_planned 161 [some (.ref 37), some (.int x1), some (.int x2), some (.int x3), some (.int x4), some (.int x5), some (.int x6), some (.int x7)] [] := Eq.trans (pv_Rstp dX7_planned_157 rfl rfl rfl) (pv_Rcall (As := [.int (u1 + u0)]) (rest := []) dX7_planned_158 rfl mfX7_151 rfl rfl rfl rfl rfl)
set_option maxHeartbeats 200000 in
theorem bX7_planned_161 {S : pv_S} {x1 x2 x3 x4 x5 x6 x7 u0 : Int32} : pv_R mX7_planned 161 [some (.ref 37), some (.int x1), some (.int x2), some (.int x3), some (.int x4), some (.int x5), some (.int x6), some (.int x7)] [.int u0] (pv_em S) = if x7 < 0 ∨ 3 ≤ x7.toNatClampNeg then none else if ¬ (S.1 50 x7.toNatClampNeg) = (-9) then pv_R mX7_planned 183 [some (.ref 37), some (.int x1), some (.int x2), some (.int x3), some (.int x4), some (.int u0), some (.int x6), some (.int x7)] [.int u0, .int x6] (pv_em S) else pv_R mX7_planned 179 [some (.ref 37), some (.int x1), some (.int x2), some (.int x3), some (.int x4), some (.int u0), some (.int x6), some (.int x7)] [.int u0, .int x6] (pv_em S) := Eq.trans (pv_Rstp dX7_planned_161 rfl rfl rfl) (Eq.trans (pv_Rstp dX7_planned_163 rfl rfl rfl) (Eq.trans (pv_Rstp dX7_planned_165 rfl rfl rfl) (Eq.trans (pv_Rstp dX7_planned_167 rfl rfl rfl) (Eq.trans (pv_Rget dX7_planned_168 ffX7_51 (by decide) (pv_ce_37 _ _) rfl) (Eq.trans (pv_Rstp dX7_planned_171 rfl rfl rfl) (Eq.trans (pv_Rald dX7_planned_173 (by decide) (pv_ce_50 _ _)) (pv_iteN (fun h1 => Eq.trans (pv_Rbp dX7_planned_174 kb_m9) (pv_Rbr (tgt := 183) dX7_planned_176 rfl rfl rfl rfl rfl (by decide))))))))))
set_option maxHeartbeats 200000 in
theorem bX7_planned_179 {S : pv_S} {x1 x2 x3 x4 x5 x6 x7 u0 u1 : Int32} : pv_R mX7_planned 179 [some (.ref 37), some (.int x1), some (.int x2), some (.int x3), some (.int x4), some (.int x5), some (.int x6), some (.int x7)] [.int u0, .int u1] (pv_em S) = pv_R mX7_planned 184 [some (.ref 37), some (.int x1), some (.int x2), some (.int x3), some (.int x4), some (.int x5), some (.int x6), some (.int x7)] [.int 0, .int u0, .int u1] (pv_em S) := Eq.trans (pv_Ric dX7_planned_179 ki_0) (pv_Rgo (tgt := 184) dX7_planned_180 rfl (by decide))
set_option maxHeartbeats 200000 in
theorem bX7_planned_183 {S : pv_S} {x1 x2 x3 x4 x5 x6 x7 u0 u1 : Int32} : pv_R mX7_planned 183 [some (.ref 37), some (.int x1), some (.int x2), some (.int x3), some (.int x4), some (.int x5), some (.int x6), some (.int x7)] [.int u0, .int u1] (pv_em S) = pv_R mX7_planned 184 [some (.ref 37), some (.int x1), some (.int x2), some (.int x3), some (.int x4), some (.int x5), some (.int x6), some (.int x7)] [.int 3, .int u0, .int u1] (pv_em S) := pv_Ric dX7_planned_183 ki_3
set_option maxHeartbeats 200000 in
theorem bX7_planned_184 {S : pv_S} {x1 x2 x3 x4 x5 x6 x7 u0 u1 u2 : Int32} : pv_R mX7_planned 184 [some (.ref 37), some (.int x1), some (.int x2), some (.int x3), some (.int x4), some (.int x5), some (.int x6), some (.int x7)] [.int u0, .int u1, .int u2] (pv_em S) = pv_R mX7_planned 86 [some (.ref 37), some (.int x1), some (.int x2), some (.int x3), some (.int x4), some (.int x5), some (.int (u2 + (u1 - u0))), some (.int (x7 + 1))] [] (pv_em S) := Eq.trans (pv_Rstp dX7_planned_184 rfl rfl rfl) (Eq.trans (pv_Rstp dX7_planned_185 rfl rfl rfl) (Eq.trans (pv_Rstp dX7_planned_186 rfl rfl rfl) (Eq.trans (pv_Rinc dX7_planned_188 rfl (Nat.le_of_ble_eq_true rfl) ki_1 rfl) (pv_Rgo (tgt := 86) dX7_planned_191 rfl (by decide)))))
set_option maxHeartbeats 200000 in
theorem bX7_planned_194 {S : pv_S} {x1 x2 x3 x4 x5 x6 x7 : Int32} : pv_R mX7_planned 194 [some (.ref 37), some (.int x1), some (.int x2), some (.int x3), some (.int x4), some (.int x5), some (.int x6), some (.int x7)] [] (pv_em S) = some (some (.int x6), pv_em S) := Eq.trans (pv_Rstp dX7_planned_194 rfl rfl rfl) (pv_Rret dX7_planned_196 rfl)
theorem dX7_fraction_0 : decode cX7_fraction 0 = .ok (.lload_n 1, 1) := by decide +kernel
theorem dX7_fraction_1 : decode cX7_fraction 1 = .ok (.lstore 5, 2) := by decide +kernel
theorem dX7_fraction_3 : decode cX7_fraction 3 = .ok (.lload_n 3, 1) := by decide +kernel
theorem dX7_fraction_4 : decode cX7_fraction 4 = .ok (.lstore 7, 2) := by decide +kernel
theorem dX7_fraction_6 : decode cX7_fraction 6 = .ok (.lload 7, 2) := by decide +kernel
theorem dX7_fraction_8 : decode cX7_fraction 8 = .ok (.lconst 0, 1) := by decide +kernel
theorem dX7_fraction_9 : decode cX7_fraction 9 = .ok (.lcmp, 1) := by decide +kernel
theorem dX7_fraction_10 : decode cX7_fraction 10 = .ok (.ifCond .eq 21, 3) := by decide +kernel
theorem dX7_fraction_13 : decode cX7_fraction 13 = .ok (.lload 5, 2) := by decide +kernel
theorem dX7_fraction_15 : decode cX7_fraction 15 = .ok (.lload 7, 2) := by decide +kernel
theorem dX7_fraction_17 : decode cX7_fraction 17 = .ok (.lrem, 1) := by decide +kernel
theorem dX7_fraction_18 : decode cX7_fraction 18 = .ok (.lstore 9, 2) := by decide +kernel
theorem dX7_fraction_20 : decode cX7_fraction 20 = .ok (.lload 7, 2) := by decide +kernel
theorem dX7_fraction_22 : decode cX7_fraction 22 = .ok (.lstore 5, 2) := by decide +kernel
theorem dX7_fraction_24 : decode cX7_fraction 24 = .ok (.lload 9, 2) := by decide +kernel
theorem dX7_fraction_26 : decode cX7_fraction 26 = .ok (.lstore 7, 2) := by decide +kernel
theorem dX7_fraction_28 : decode cX7_fraction 28 = .ok (.goto (-22), 3) := by decide +kernel
theorem dX7_fraction_31 : decode cX7_fraction 31 = .ok (.aload_n 0, 1) := by decide +kernel
theorem dX7_fraction_32 : decode cX7_fraction 32 = .ok (.lload_n 1, 1) := by decide +kernel
theorem dX7_fraction_33 : decode cX7_fraction 33 = .ok (.lload 5, 2) := by decide +kernel
theorem dX7_fraction_35 : decode cX7_fraction 35 = .ok (.ldiv, 1) := by decide +kernel
theorem dX7_fraction_36 : decode cX7_fraction 36 = .ok (.putfield 224, 3) := by decide +kernel
theorem dX7_fraction_39 : decode cX7_fraction 39 = .ok (.aload_n 0, 1) := by decide +kernel
theorem dX7_fraction_40 : decode cX7_fraction 40 = .ok (.lload_n 3, 1) := by decide +kernel
theorem dX7_fraction_41 : decode cX7_fraction 41 = .ok (.lload 5, 2) := by decide +kernel
theorem dX7_fraction_43 : decode cX7_fraction 43 = .ok (.ldiv, 1) := by decide +kernel
theorem dX7_fraction_44 : decode cX7_fraction 44 = .ok (.putfield 41, 3) := by decide +kernel
theorem dX7_fraction_47 : decode cX7_fraction 47 = .ok (.iconst 1, 1) := by decide +kernel
theorem dX7_fraction_48 : decode cX7_fraction 48 = .ok (.ireturn, 1) := by decide +kernel
set_option maxHeartbeats 200000 in
theorem bX7_fraction_0 {S : pv_S} {x1 x3 : Int64} {a2 a4 a5 a6 a7 a8 a9 a10 : Option Value} : pv_R mX7_fraction 0 [some (.ref 37), some (.long x1), a2, some (.long x3), a4, a5, a6, a7, a8, a9, a10] [] (pv_em S) = pv_R mX7_fraction 6 [some (.ref 37), some (.long x1), a2, some (.long x3), (pv_nl a4), some (.long x1), none, some (.long x3), none, a9, a10] [] (pv_em S) := Eq.trans (pv_Rstp dX7_fraction_0 rfl rfl rfl) (Eq.trans (pv_Rstp dX7_fraction_1 rfl rfl rfl) (Eq.trans (pv_Rstp dX7_fraction_3 rfl rfl rfl) (pv_Rstp dX7_fraction_4 rfl rfl rfl)))
set_option maxHeartbeats 200000 in
theorem bX7_fraction_6 {S : pv_S} {x1 x3 x5 x7 : Int64} {a2 a4 a6 a8 a9 a10 : Option Value} : pv_R mX7_fraction 6 [some (.ref 37), some (.long x1), a2, some (.long x3), a4, some (.long x5), a6, some (.long x7), a8, a9, a10] [] (pv_em S) = if (lg_cmp x7 0) = 0 then pv_R mX7_fraction 31 [some (.ref 37), some (.long x1), a2, some (.long x3), a4, some (.long x5), a6, some (.long x7), a8, a9, a10] [] (pv_em S) else pv_R mX7_fraction 13 [some (.ref 37), some (.long x1), a2, some (.long x3), a4, some (.long x5), a6, some (.long x7), a8, a9, a10] [] (pv_em S) := Eq.trans (pv_Rstp dX7_fraction_6 rfl rfl rfl) (Eq.trans (pv_Rlc dX7_fraction_8 kl_0) (Eq.trans (pv_Rstp dX7_fraction_9 rfl rfl rfl) (pv_Rbr (tgt := 31) dX7_fraction_10 rfl rfl rfl rfl rfl (by decide))))
set_option maxHeartbeats 200000 in
theorem bX7_fraction_13 {S : pv_S} {x1 x3 x5 x7 : Int64} {a2 a4 a6 a8 a9 a10 : Option Value} : pv_R mX7_fraction 13 [some (.ref 37), some (.long x1), a2, some (.long x3), a4, some (.long x5), a6, some (.long x7), a8, a9, a10] [] (pv_em S) = if x7 = 0 then none else pv_R mX7_fraction 6 [some (.ref 37), some (.long x1), a2, some (.long x3), (pv_nl a4), some (.long x7), none, some (.long (x5 - x5 / x7 * x7)), none, some (.long (x5 - x5 / x7 * x7)), none] [] (pv_em S) := Eq.trans (pv_Rstp dX7_fraction_13 rfl rfl rfl) (Eq.trans (pv_Rstp dX7_fraction_15 rfl rfl rfl) (Eq.trans (pv_Rlrem dX7_fraction_17) (pv_iteN (fun h1 => Eq.trans (pv_Rstp dX7_fraction_18 rfl rfl rfl) (Eq.trans (pv_Rstp dX7_fraction_20 rfl rfl rfl) (Eq.trans (pv_Rstp dX7_fraction_22 rfl rfl rfl) (Eq.trans (pv_Rstp dX7_fraction_24 rfl rfl rfl) (Eq.trans (pv_Rstp dX7_fraction_26 rfl rfl rfl) (pv_Rgo (tgt := 6) dX7_fraction_28 rfl (by decide))))))))))
set_option maxHeartbeats 200000 in
theorem bX7_fraction_31 {S : pv_S} {x1 x3 x5 x7 : Int64} {a2 a4 a6 a8 a9 a10 : Option Value} : pv_R mX7_fraction 31 [some (.ref 37), some (.long x1), a2, some (.long x3), a4, some (.long x5), a6, some (.long x7), a8, a9, a10] [] (pv_em S) = if x5 = 0 then none else if x5 = 0 then none else some (some (.int 1), pv_em (pv_sj (pv_sj S 37 14 (x1 / x5)) 37 15 (x3 / x5))) := Eq.trans (pv_Rstp dX7_fraction_31 rfl rfl rfl) (Eq.trans (pv_Rstp dX7_fraction_32 rfl rfl rfl) (Eq.trans (pv_Rstp dX7_fraction_33 rfl rfl rfl) (Eq.trans (pv_Rldiv dX7_fraction_35) (pv_iteN (fun h1 => Eq.trans (pv_Rput dX7_fraction_36 ffX7_224 rfl rfl rfl (by decide) (pv_ce_37 _ _) (Nat.le_of_ble_eq_true rfl) (pv_em_sj rfl)) (Eq.trans (pv_Rstp dX7_fraction_39 rfl rfl rfl) (Eq.trans (pv_Rstp dX7_fraction_40 rfl rfl rfl) (Eq.trans (pv_Rstp dX7_fraction_41 rfl rfl rfl) (Eq.trans (pv_Rldiv dX7_fraction_43) (pv_iteN (fun h2 => Eq.trans (pv_Rput dX7_fraction_44 ffX7_41 rfl rfl rfl (by decide) (pv_ce_37 _ _) (Nat.le_of_ble_eq_true rfl) (pv_em_sj rfl)) (Eq.trans (pv_Ric dX7_fraction_47 ki_1) (pv_Rret dX7_fraction_48 rfl)))))))))))))
theorem dX7_isSack_0 : decode cX7_isSack 0 = .ok (.iconst 0, 1) := by decide +kernel
theorem dX7_isSack_1 : decode cX7_isSack 1 = .ok (.istore_n 3, 1) := by decide +kernel
theorem dX7_isSack_2 : decode cX7_isSack 2 = .ok (.iconst 0, 1) := by decide +kernel
theorem dX7_isSack_3 : decode cX7_isSack 3 = .ok (.istore 4, 2) := by decide +kernel
theorem dX7_isSack_5 : decode cX7_isSack 5 = .ok (.iload 4, 2) := by decide +kernel
theorem dX7_isSack_7 : decode cX7_isSack 7 = .ok (.aload_n 0, 1) := by decide +kernel
theorem dX7_isSack_8 : decode cX7_isSack 8 = .ok (.getfield 138, 3) := by decide +kernel
theorem dX7_isSack_11 : decode cX7_isSack 11 = .ok (.if_icmp .ge 34, 3) := by decide +kernel
theorem dX7_isSack_14 : decode cX7_isSack 14 = .ok (.iload_n 3, 1) := by decide +kernel
theorem dX7_isSack_15 : decode cX7_isSack 15 = .ok (.iload_n 1, 1) := by decide +kernel
theorem dX7_isSack_16 : decode cX7_isSack 16 = .ok (.iload 4, 2) := by decide +kernel
theorem dX7_isSack_18 : decode cX7_isSack 18 = .ok (.invokestatic 221, 3) := by decide +kernel
theorem dX7_isSack_21 : decode cX7_isSack 21 = .ok (.ifCond .eq 15, 3) := by decide +kernel
theorem dX7_isSack_24 : decode cX7_isSack 24 = .ok (.aload_n 0, 1) := by decide +kernel
theorem dX7_isSack_25 : decode cX7_isSack 25 = .ok (.getfield 28, 3) := by decide +kernel
theorem dX7_isSack_28 : decode cX7_isSack 28 = .ok (.iconst 0, 1) := by decide +kernel
theorem dX7_isSack_29 : decode cX7_isSack 29 = .ok (.iload 4, 2) := by decide +kernel
theorem dX7_isSack_31 : decode cX7_isSack 31 = .ok (.iadd, 1) := by decide +kernel
theorem dX7_isSack_32 : decode cX7_isSack 32 = .ok (.iaload, 1) := by decide +kernel
theorem dX7_isSack_33 : decode cX7_isSack 33 = .ok (.goto 4, 3) := by decide +kernel
theorem dX7_isSack_36 : decode cX7_isSack 36 = .ok (.iconst 0, 1) := by decide +kernel
theorem dX7_isSack_37 : decode cX7_isSack 37 = .ok (.iadd, 1) := by decide +kernel
theorem dX7_isSack_38 : decode cX7_isSack 38 = .ok (.istore_n 3, 1) := by decide +kernel
theorem dX7_isSack_39 : decode cX7_isSack 39 = .ok (.iinc 4 1, 3) := by decide +kernel
theorem dX7_isSack_42 : decode cX7_isSack 42 = .ok (.goto (-37), 3) := by decide +kernel
theorem dX7_isSack_45 : decode cX7_isSack 45 = .ok (.iload_n 3, 1) := by decide +kernel
theorem dX7_isSack_46 : decode cX7_isSack 46 = .ok (.iload_n 2, 1) := by decide +kernel
theorem dX7_isSack_47 : decode cX7_isSack 47 = .ok (.if_icmp .ne 7, 3) := by decide +kernel
theorem dX7_isSack_50 : decode cX7_isSack 50 = .ok (.iconst 1, 1) := by decide +kernel
theorem dX7_isSack_51 : decode cX7_isSack 51 = .ok (.goto 4, 3) := by decide +kernel
theorem dX7_isSack_54 : decode cX7_isSack 54 = .ok (.iconst 0, 1) := by decide +kernel
theorem dX7_isSack_55 : decode cX7_isSack 55 = .ok (.ireturn, 1) := by decide +kernel
set_option maxHeartbeats 200000 in
theorem bX7_isSack_0 {S : pv_S} {x1 x2 : Int32} {a3 a4 : Option Value} : pv_R mX7_isSack 0 [some (.ref 37), some (.int x1), some (.int x2), a3, a4] [] (pv_em S) = pv_R mX7_isSack 5 [some (.ref 37), some (.int x1), some (.int x2), some (.int 0), some (.int 0)] [] (pv_em S) := Eq.trans (pv_Ric dX7_isSack_0 ki_0) (Eq.trans (pv_Rstp dX7_isSack_1 rfl rfl rfl) (Eq.trans (pv_Ric dX7_isSack_2 ki_0) (pv_Rstp dX7_isSack_3 rfl rfl rfl)))
set_option maxHeartbeats 200000 in
theorem bX7_isSack_5 {S : pv_S} {x1 x2 x3 x4 : Int32} : pv_R mX7_isSack 5 [some (.ref 37), some (.int x1), some (.int x2), some (.int x3), some (.int x4)] [] (pv_em S) = if (S.1 37 4) ≤ x4 then pv_R mX7_isSack 45 [some (.ref 37), some (.int x1), some (.int x2), some (.int x3), some (.int x4)] [] (pv_em S) else pv_R mX7_isSack 14 [some (.ref 37), some (.int x1), some (.int x2), some (.int x3), some (.int x4)] [] (pv_em S) := Eq.trans (pv_Rstp dX7_isSack_5 rfl rfl rfl) (Eq.trans (pv_Rstp dX7_isSack_7 rfl rfl rfl) (Eq.trans (pv_Rget dX7_isSack_8 ffX7_138 (by decide) (pv_ce_37 _ _) rfl) (pv_Rbr (tgt := 45) dX7_isSack_11 rfl rfl rfl rfl rfl (by decide))))
set_option maxHeartbeats 200000 in
theorem bX7_isSack_14 {S : pv_S} {x1 x2 x3 x4 : Int32} : pv_R mX7_isSack 14 [some (.ref 37), some (.int x1), some (.int x2), some (.int x3), some (.int x4)] [] (pv_em S) = pv_cc (pv_R mX7_has 0 [some (.int x1), some (.int x4)] [] (pv_em S)) mX7_isSack 21 [some (.ref 37), some (.int x1), some (.int x2), some (.int x3), some (.int x4)] [.int x3] := Eq.trans (pv_Rstp dX7_isSack_14 rfl rfl rfl) (Eq.trans (pv_Rstp dX7_isSack_15 rfl rfl rfl) (Eq.trans (pv_Rstp dX7_isSack_16 rfl rfl rfl) (pv_Rcall (As := [.int x1, .int x4]) (rest := [.int x3]) dX7_isSack_18 rfl mfX7_221 rfl rfl rfl rfl rfl)))
set_option maxHeartbeats 200000 in
theorem bX7_isSack_21 {S : pv_S} {x1 x2 x3 x4 u0 u1 : Int32} : pv_R mX7_isSack 21 [some (.ref 37), some (.int x1), some (.int x2), some (.int x3), some (.int x4)] [.int u0, .int u1] (pv_em S) = if u0 = 0 then pv_R mX7_isSack 36 [some (.ref 37), some (.int x1), some (.int x2), some (.int x3), some (.int x4)] [.int u1] (pv_em S) else pv_R mX7_isSack 24 [some (.ref 37), some (.int x1), some (.int x2), some (.int x3), some (.int x4)] [.int u1] (pv_em S) := pv_Rbr (tgt := 36) dX7_isSack_21 rfl rfl rfl rfl rfl (by decide)
set_option maxHeartbeats 200000 in
theorem bX7_isSack_24 {S : pv_S} {x1 x2 x3 x4 u0 : Int32} : pv_R mX7_isSack 24 [some (.ref 37), some (.int x1), some (.int x2), some (.int x3), some (.int x4)] [.int u0] (pv_em S) = if (0 + x4) < 0 ∨ 10 ≤ (0 + x4).toNatClampNeg then none else pv_R mX7_isSack 37 [some (.ref 37), some (.int x1), some (.int x2), some (.int x3), some (.int x4)] [.int (S.1 44 (0 + x4).toNatClampNeg), .int u0] (pv_em S) := Eq.trans (pv_Rstp dX7_isSack_24 rfl rfl rfl) (Eq.trans (pv_Rget dX7_isSack_25 ffX7_28 (by decide) (pv_ce_37 _ _) rfl) (Eq.trans (pv_Ric dX7_isSack_28 ki_0) (Eq.trans (pv_Rstp dX7_isSack_29 rfl rfl rfl) (Eq.trans (pv_Rstp dX7_isSack_31 rfl rfl rfl) (Eq.trans (pv_Rald dX7_isSack_32 (by decide) (pv_ce_44 _ _)) (pv_iteN (fun h1 => pv_Rgo (tgt := 37) dX7_isSack_33 rfl (by decide))))))))
set_option maxHeartbeats 200000 in
theorem bX7_isSack_36 {S : pv_S} {x1 x2 x3 x4 u0 : Int32} : pv_R mX7_isSack 36 [some (.ref 37), some (.int x1), some (.int x2), some (.int x3), some (.int x4)] [.int u0] (pv_em S) = pv_R mX7_isSack 37 [some (.ref 37), some (.int x1), some (.int x2), some (.int x3), some (.int x4)] [.int 0, .int u0] (pv_em S) := pv_Ric dX7_isSack_36 ki_0
set_option maxHeartbeats 200000 in
theorem bX7_isSack_37 {S : pv_S} {x1 x2 x3 x4 u0 u1 : Int32} : pv_R mX7_isSack 37 [some (.ref 37), some (.int x1), some (.int x2), some (.int x3), some (.int x4)] [.int u0, .int u1] (pv_em S) = pv_R mX7_isSack 5 [some (.ref 37), some (.int x1), some (.int x2), some (.int (u1 + u0)), some (.int (x4 + 1))] [] (pv_em S) := Eq.trans (pv_Rstp dX7_isSack_37 rfl rfl rfl) (Eq.trans (pv_Rstp dX7_isSack_38 rfl rfl rfl) (Eq.trans (pv_Rinc dX7_isSack_39 rfl (Nat.le_of_ble_eq_true rfl) ki_1 rfl) (pv_Rgo (tgt := 5) dX7_isSack_42 rfl (by decide))))
set_option maxHeartbeats 200000 in
theorem bX7_isSack_45 {S : pv_S} {x1 x2 x3 x4 : Int32} : pv_R mX7_isSack 45 [some (.ref 37), some (.int x1), some (.int x2), some (.int x3), some (.int x4)] [] (pv_em S) = if ¬ x3 = x2 then pv_R mX7_isSack 54 [some (.ref 37), some (.int x1), some (.int x2), some (.int x3), some (.int x4)] [] (pv_em S) else pv_R mX7_isSack 50 [some (.ref 37), some (.int x1), some (.int x2), some (.int x3), some (.int x4)] [] (pv_em S) := Eq.trans (pv_Rstp dX7_isSack_45 rfl rfl rfl) (Eq.trans (pv_Rstp dX7_isSack_46 rfl rfl rfl) (pv_Rbr (tgt := 54) dX7_isSack_47 rfl rfl rfl rfl rfl (by decide)))
set_option maxHeartbeats 200000 in
theorem bX7_isSack_50 {S : pv_S} {x1 x2 x3 x4 : Int32} : pv_R mX7_isSack 50 [some (.ref 37), some (.int x1), some (.int x2), some (.int x3), some (.int x4)] [] (pv_em S) = pv_R mX7_isSack 55 [some (.ref 37), some (.int x1), some (.int x2), some (.int x3), some (.int x4)] [.int 1] (pv_em S) := Eq.trans (pv_Ric dX7_isSack_50 ki_1) (pv_Rgo (tgt := 55) dX7_isSack_51 rfl (by decide))
set_option maxHeartbeats 200000 in
theorem bX7_isSack_54 {S : pv_S} {x1 x2 x3 x4 : Int32} : pv_R mX7_isSack 54 [some (.ref 37), some (.int x1), some (.int x2), some (.int x3), some (.int x4)] [] (pv_em S) = pv_R mX7_isSack 55 [some (.ref 37), some (.int x1), some (.int x2), some (.int x3), some (.int x4)] [.int 0] (pv_em S) := pv_Ric dX7_isSack_54 ki_0
set_option maxHeartbeats 200000 in
theorem bX7_isSack_55 {S : pv_S} {x1 x2 x3 x4 u0 : Int32} : pv_R mX7_isSack 55 [some (.ref 37), some (.int x1), some (.int x2), some (.int x3), some (.int x4)] [.int u0] (pv_em S) = if vp_nar .boolean u0 = u0 then some (some (.int u0), pv_em S) else none := pv_Rzret dX7_isSack_55 rfl
theorem dX7_refuses_0 : decode cX7_refuses 0 = .ok (.iload_n 1, 1) := by decide +kernel
theorem dX7_refuses_1 : decode cX7_refuses 1 = .ok (.i2l, 1) := by decide +kernel
theorem dX7_refuses_2 : decode cX7_refuses 2 = .ok (.lconst 0, 1) := by decide +kernel
theorem dX7_refuses_3 : decode cX7_refuses 3 = .ok (.ldc2_w 227, 3) := by decide +kernel
theorem dX7_refuses_6 : decode cX7_refuses 6 = .ok (.invokestatic 75, 3) := by decide +kernel
theorem dX7_refuses_9 : decode cX7_refuses 9 = .ok (.ifCond .ne 7, 3) := by decide +kernel
theorem dX7_refuses_12 : decode cX7_refuses 12 = .ok (.iconst (-1), 1) := by decide +kernel
theorem dX7_refuses_13 : decode cX7_refuses 13 = .ok (.goto 16, 3) := by decide +kernel
theorem dX7_refuses_16 : decode cX7_refuses 16 = .ok (.aload_n 0, 1) := by decide +kernel
theorem dX7_refuses_17 : decode cX7_refuses 17 = .ok (.getfield 138, 3) := by decide +kernel
theorem dX7_refuses_20 : decode cX7_refuses 20 = .ok (.ifCond .ne 8, 3) := by decide +kernel
theorem dX7_refuses_23 : decode cX7_refuses 23 = .ok (.bipush (-4), 2) := by decide +kernel
theorem dX7_refuses_25 : decode cX7_refuses 25 = .ok (.goto 4, 3) := by decide +kernel
theorem dX7_refuses_28 : decode cX7_refuses 28 = .ok (.iconst 0, 1) := by decide +kernel
theorem dX7_refuses_29 : decode cX7_refuses 29 = .ok (.ireturn, 1) := by decide +kernel
set_option maxHeartbeats 200000 in
theorem bX7_refuses_0 {S : pv_S} {x1 : Int32} : pv_R mX7_refuses 0 [some (.ref 37), some (.int x1)] [] (pv_em S) = pv_cc (pv_R mX7_in 0 [some (.long (Int32.toInt64 x1)), none, some (.long 0), none, some (.long 1200), none] [] (pv_em S)) mX7_refuses 9 [some (.ref 37), some (.int x1)] [] := Eq.trans (pv_Rstp dX7_refuses_0 rfl rfl rfl) (Eq.trans (pv_Rstp dX7_refuses_1 rfl rfl rfl) (Eq.trans (pv_Rlc dX7_refuses_2 kl_0) (Eq.trans (pv_Rstp dX7_refuses_3 rfl rfl rfl) (pv_Rcall (As := [.long (Int32.toInt64 x1), .long 0, .long 1200]) (rest := []) dX7_refuses_6 rfl mfX7_75 rfl rfl rfl rfl rfl))))
set_option maxHeartbeats 200000 in
theorem bX7_refuses_9 {S : pv_S} {x1 u0 : Int32} : pv_R mX7_refuses 9 [some (.ref 37), some (.int x1)] [.int u0] (pv_em S) = if ¬ u0 = 0 then pv_R mX7_refuses 16 [some (.ref 37), some (.int x1)] [] (pv_em S) else pv_R mX7_refuses 12 [some (.ref 37), some (.int x1)] [] (pv_em S) := pv_Rbr (tgt := 16) dX7_refuses_9 rfl rfl rfl rfl rfl (by decide)
set_option maxHeartbeats 200000 in
theorem bX7_refuses_12 {S : pv_S} {x1 : Int32} : pv_R mX7_refuses 12 [some (.ref 37), some (.int x1)] [] (pv_em S) = pv_R mX7_refuses 29 [some (.ref 37), some (.int x1)] [.int (-1)] (pv_em S) := Eq.trans (pv_Ric dX7_refuses_12 ki_m1) (pv_Rgo (tgt := 29) dX7_refuses_13 rfl (by decide))
set_option maxHeartbeats 200000 in
theorem bX7_refuses_16 {S : pv_S} {x1 : Int32} : pv_R mX7_refuses 16 [some (.ref 37), some (.int x1)] [] (pv_em S) = if ¬ (S.1 37 4) = 0 then pv_R mX7_refuses 28 [some (.ref 37), some (.int x1)] [] (pv_em S) else pv_R mX7_refuses 23 [some (.ref 37), some (.int x1)] [] (pv_em S) := Eq.trans (pv_Rstp dX7_refuses_16 rfl rfl rfl) (Eq.trans (pv_Rget dX7_refuses_17 ffX7_138 (by decide) (pv_ce_37 _ _) rfl) (pv_Rbr (tgt := 28) dX7_refuses_20 rfl rfl rfl rfl rfl (by decide)))
set_option maxHeartbeats 200000 in
theorem bX7_refuses_23 {S : pv_S} {x1 : Int32} : pv_R mX7_refuses 23 [some (.ref 37), some (.int x1)] [] (pv_em S) = pv_R mX7_refuses 29 [some (.ref 37), some (.int x1)] [.int (-4)] (pv_em S) := Eq.trans (pv_Rbp dX7_refuses_23 kb_m4) (pv_Rgo (tgt := 29) dX7_refuses_25 rfl (by decide))
set_option maxHeartbeats 200000 in
theorem bX7_refuses_28 {S : pv_S} {x1 : Int32} : pv_R mX7_refuses 28 [some (.ref 37), some (.int x1)] [] (pv_em S) = pv_R mX7_refuses 29 [some (.ref 37), some (.int x1)] [.int 0] (pv_em S) := pv_Ric dX7_refuses_28 ki_0
set_option maxHeartbeats 200000 in
theorem bX7_refuses_29 {S : pv_S} {x1 u0 : Int32} : pv_R mX7_refuses 29 [some (.ref 37), some (.int x1)] [.int u0] (pv_em S) = some (some (.int u0), pv_em S) := pv_Rret dX7_refuses_29 rfl
theorem dX7_has_0 : decode cX7_has 0 = .ok (.iload_n 0, 1) := by decide +kernel
theorem dX7_has_1 : decode cX7_has 1 = .ok (.iload_n 1, 1) := by decide +kernel
theorem dX7_has_2 : decode cX7_has 2 = .ok (.ishr, 1) := by decide +kernel
theorem dX7_has_3 : decode cX7_has 3 = .ok (.iconst 1, 1) := by decide +kernel
theorem dX7_has_4 : decode cX7_has 4 = .ok (.iand, 1) := by decide +kernel
theorem dX7_has_5 : decode cX7_has 5 = .ok (.iconst 1, 1) := by decide +kernel
theorem dX7_has_6 : decode cX7_has 6 = .ok (.if_icmp .ne 7, 3) := by decide +kernel
theorem dX7_has_9 : decode cX7_has 9 = .ok (.iconst 1, 1) := by decide +kernel
theorem dX7_has_10 : decode cX7_has 10 = .ok (.goto 4, 3) := by decide +kernel
theorem dX7_has_13 : decode cX7_has 13 = .ok (.iconst 0, 1) := by decide +kernel
theorem dX7_has_14 : decode cX7_has 14 = .ok (.ireturn, 1) := by decide +kernel
set_option maxHeartbeats 200000 in
theorem bX7_has_0 {S : pv_S} {x0 x1 : Int32} : pv_R mX7_has 0 [some (.int x0), some (.int x1)] [] (pv_em S) = if ¬ ((x0 >>> (x1 &&& 31)) &&& 1) = 1 then pv_R mX7_has 13 [some (.int x0), some (.int x1)] [] (pv_em S) else pv_R mX7_has 9 [some (.int x0), some (.int x1)] [] (pv_em S) := Eq.trans (pv_Rstp dX7_has_0 rfl rfl rfl) (Eq.trans (pv_Rstp dX7_has_1 rfl rfl rfl) (Eq.trans (pv_Rstp dX7_has_2 rfl rfl rfl) (Eq.trans (pv_Ric dX7_has_3 ki_1) (Eq.trans (pv_Rstp dX7_has_4 rfl rfl rfl) (Eq.trans (pv_Ric dX7_has_5 ki_1) (pv_Rbr (tgt := 13) dX7_has_6 rfl rfl rfl rfl rfl (by decide)))))))
set_option maxHeartbeats 200000 in
theorem bX7_has_9 {S : pv_S} {x0 x1 : Int32} : pv_R mX7_has 9 [some (.int x0), some (.int x1)] [] (pv_em S) = pv_R mX7_has 14 [some (.int x0), some (.int x1)] [.int 1] (pv_em S) := Eq.trans (pv_Ric dX7_has_9 ki_1) (pv_Rgo (tgt := 14) dX7_has_10 rfl (by decide))
set_option maxHeartbeats 200000 in
theorem bX7_has_13 {S : pv_S} {x0 x1 : Int32} : pv_R mX7_has 13 [some (.int x0), some (.int x1)] [] (pv_em S) = pv_R mX7_has 14 [some (.int x0), some (.int x1)] [.int 0] (pv_em S) := pv_Ric dX7_has_13 ki_0
set_option maxHeartbeats 200000 in
theorem bX7_has_14 {S : pv_S} {x0 x1 u0 : Int32} : pv_R mX7_has 14 [some (.int x0), some (.int x1)] [.int u0] (pv_em S) = if vp_nar .boolean u0 = u0 then some (some (.int u0), pv_em S) else none := pv_Rzret dX7_has_14 rfl
theorem dX7_kindsBy_0 : decode cX7_kindsBy 0 = .ok (.iconst 0, 1) := by decide +kernel
theorem dX7_kindsBy_1 : decode cX7_kindsBy 1 = .ok (.istore_n 3, 1) := by decide +kernel
theorem dX7_kindsBy_2 : decode cX7_kindsBy 2 = .ok (.iconst 0, 1) := by decide +kernel
theorem dX7_kindsBy_3 : decode cX7_kindsBy 3 = .ok (.istore 4, 2) := by decide +kernel
theorem dX7_kindsBy_5 : decode cX7_kindsBy 5 = .ok (.iload 4, 2) := by decide +kernel
theorem dX7_kindsBy_7 : decode cX7_kindsBy 7 = .ok (.bipush 6, 2) := by decide +kernel
theorem dX7_kindsBy_9 : decode cX7_kindsBy 9 = .ok (.if_icmp .ge 38, 3) := by decide +kernel
theorem dX7_kindsBy_12 : decode cX7_kindsBy 12 = .ok (.iload_n 3, 1) := by decide +kernel
theorem dX7_kindsBy_13 : decode cX7_kindsBy 13 = .ok (.aload_n 0, 1) := by decide +kernel
theorem dX7_kindsBy_14 : decode cX7_kindsBy 14 = .ok (.iload_n 2, 1) := by decide +kernel
theorem dX7_kindsBy_15 : decode cX7_kindsBy 15 = .ok (.iload 4, 2) := by decide +kernel
theorem dX7_kindsBy_17 : decode cX7_kindsBy 17 = .ok (.aload_n 0, 1) := by decide +kernel
theorem dX7_kindsBy_18 : decode cX7_kindsBy 18 = .ok (.getfield 28, 3) := by decide +kernel
theorem dX7_kindsBy_21 : decode cX7_kindsBy 21 = .ok (.iconst 0, 1) := by decide +kernel
theorem dX7_kindsBy_22 : decode cX7_kindsBy 22 = .ok (.iload_n 1, 1) := by decide +kernel
theorem dX7_kindsBy_23 : decode cX7_kindsBy 23 = .ok (.iadd, 1) := by decide +kernel
theorem dX7_kindsBy_24 : decode cX7_kindsBy 24 = .ok (.iaload, 1) := by decide +kernel
theorem dX7_kindsBy_25 : decode cX7_kindsBy 25 = .ok (.invokevirtual 241, 3) := by decide +kernel
theorem dX7_kindsBy_28 : decode cX7_kindsBy 28 = .ok (.ifCond .eq 10, 3) := by decide +kernel
theorem dX7_kindsBy_31 : decode cX7_kindsBy 31 = .ok (.iconst 1, 1) := by decide +kernel
theorem dX7_kindsBy_32 : decode cX7_kindsBy 32 = .ok (.iload 4, 2) := by decide +kernel
theorem dX7_kindsBy_34 : decode cX7_kindsBy 34 = .ok (.ishl, 1) := by decide +kernel
theorem dX7_kindsBy_35 : decode cX7_kindsBy 35 = .ok (.goto 4, 3) := by decide +kernel
theorem dX7_kindsBy_38 : decode cX7_kindsBy 38 = .ok (.iconst 0, 1) := by decide +kernel
theorem dX7_kindsBy_39 : decode cX7_kindsBy 39 = .ok (.ior, 1) := by decide +kernel
theorem dX7_kindsBy_40 : decode cX7_kindsBy 40 = .ok (.istore_n 3, 1) := by decide +kernel
theorem dX7_kindsBy_41 : decode cX7_kindsBy 41 = .ok (.iinc 4 1, 3) := by decide +kernel
theorem dX7_kindsBy_44 : decode cX7_kindsBy 44 = .ok (.goto (-39), 3) := by decide +kernel
theorem dX7_kindsBy_47 : decode cX7_kindsBy 47 = .ok (.iload_n 3, 1) := by decide +kernel
theorem dX7_kindsBy_48 : decode cX7_kindsBy 48 = .ok (.ireturn, 1) := by decide +kernel
set_option maxHeartbeats 200000 in
theorem bX7_kindsBy_0 {S : pv_S} {x1 x2 : Int32} {a3 a4 : Option Value} : pv_R mX7_kindsBy 0 [some (.ref 37), some (.int x1), some (.int x2), a3, a4] [] (pv_em S) = pv_R mX7_kindsBy 5 [some (.ref 37), some (.int x1), some (.int x2), some (.int 0), some (.int 0)] [] (pv_em S) := Eq.trans (pv_Ric dX7_kindsBy_0 ki_0) (Eq.trans (pv_Rstp dX7_kindsBy_1 rfl rfl rfl) (Eq.trans (pv_Ric dX7_kindsBy_2 ki_0) (pv_Rstp dX7_kindsBy_3 rfl rfl rfl)))
set_option maxHeartbeats 200000 in
theorem bX7_kindsBy_5 {S : pv_S} {x1 x2 x3 x4 : Int32} : pv_R mX7_kindsBy 5 [some (.ref 37), some (.int x1), some (.int x2), some (.int x3), some (.int x4)] [] (pv_em S) = if 6 ≤ x4 then pv_R mX7_kindsBy 47 [some (.ref 37), some (.int x1), some (.int x2), some (.int x3), some (.int x4)] [] (pv_em S) else pv_R mX7_kindsBy 12 [some (.ref 37), some (.int x1), some (.int x2), some (.int x3), some (.int x4)] [] (pv_em S) := Eq.trans (pv_Rstp dX7_kindsBy_5 rfl rfl rfl) (Eq.trans (pv_Rbp dX7_kindsBy_7 kb_6) (pv_Rbr (tgt := 47) dX7_kindsBy_9 rfl rfl rfl rfl rfl (by decide)))
set_option maxHeartbeats 200000 in
theorem bX7_kindsBy_12 {S : pv_S} {x1 x2 x3 x4 : Int32} : pv_R mX7_kindsBy 12 [some (.ref 37), some (.int x1), some (.int x2), some (.int x3), some (.int x4)] [] (pv_em S) = if (0 + x1) < 0 ∨ 10 ≤ (0 + x1).toNatClampNeg then none else pv_cc (pv_R mX7_isSo 0 [some (.ref 37), some (.int x2), some (.int x4), some (.int (S.1 44 (0 + x1).toNatClampNeg)), none, none] [] (pv_em S)) mX7_kindsBy 28 [some (.ref 37), some (.int x1), some (.int x2), some (.int x3), some (.int x4)] [.int x3] := Eq.trans (pv_Rstp dX7_kindsBy_12 rfl rfl rfl) (Eq.trans (pv_Rstp dX7_kindsBy_13 rfl rfl rfl) (Eq.trans (pv_Rstp dX7_kindsBy_14 rfl rfl rfl) (Eq.trans (pv_Rstp dX7_kindsBy_15 rfl rfl rfl) (Eq.trans (pv_Rstp dX7_kindsBy_17 rfl rfl rfl) (Eq.trans (pv_Rget dX7_kindsBy_18 ffX7_28 (by decide) (pv_ce_37 _ _) rfl) (Eq.trans (pv_Ric dX7_kindsBy_21 ki_0) (Eq.trans (pv_Rstp dX7_kindsBy_22 rfl rfl rfl) (Eq.trans (pv_Rstp dX7_kindsBy_23 rfl rfl rfl) (Eq.trans (pv_Rald dX7_kindsBy_24 (by decide) (pv_ce_44 _ _)) (pv_iteN (fun h1 => pv_Rcall (As := [.ref 37, .int x2, .int x4, .int (S.1 44 (0 + x1).toNatClampNeg)]) (rest := [.int x3]) dX7_kindsBy_25 rfl mfX7_241 rfl rfl rfl rfl rfl)))))))))))
set_option maxHeartbeats 200000 in
theorem bX7_kindsBy_28 {S : pv_S} {x1 x2 x3 x4 u0 u1 : Int32} : pv_R mX7_kindsBy 28 [some (.ref 37), some (.int x1), some (.int x2), some (.int x3), some (.int x4)] [.int u0, .int u1] (pv_em S) = if u0 = 0 then pv_R mX7_kindsBy 38 [some (.ref 37), some (.int x1), some (.int x2), some (.int x3), some (.int x4)] [.int u1] (pv_em S) else pv_R mX7_kindsBy 31 [some (.ref 37), some (.int x1), some (.int x2), some (.int x3), some (.int x4)] [.int u1] (pv_em S) := pv_Rbr (tgt := 38) dX7_kindsBy_28 rfl rfl rfl rfl rfl (by decide)
set_option maxHeartbeats 200000 in
theorem bX7_kindsBy_31 {S : pv_S} {x1 x2 x3 x4 u0 : Int32} : pv_R mX7_kindsBy 31 [some (.ref 37), some (.int x1), some (.int x2), some (.int x3), some (.int x4)] [.int u0] (pv_em S) = pv_R mX7_kindsBy 39 [some (.ref 37), some (.int x1), some (.int x2), some (.int x3), some (.int x4)] [.int (1 <<< (x4 &&& 31)), .int u0] (pv_em S) := Eq.trans (pv_Ric dX7_kindsBy_31 ki_1) (Eq.trans (pv_Rstp dX7_kindsBy_32 rfl rfl rfl) (Eq.trans (pv_Rstp dX7_kindsBy_34 rfl rfl rfl) (pv_Rgo (tgt := 39) dX7_kindsBy_35 rfl (by decide))))
set_option maxHeartbeats 200000 in
theorem bX7_kindsBy_38 {S : pv_S} {x1 x2 x3 x4 u0 : Int32} : pv_R mX7_kindsBy 38 [some (.ref 37), some (.int x1), some (.int x2), some (.int x3), some (.int x4)] [.int u0] (pv_em S) = pv_R mX7_kindsBy 39 [some (.ref 37), some (.int x1), some (.int x2), some (.int x3), some (.int x4)] [.int 0, .int u0] (pv_em S) := pv_Ric dX7_kindsBy_38 ki_0
set_option maxHeartbeats 200000 in
theorem bX7_kindsBy_39 {S : pv_S} {x1 x2 x3 x4 u0 u1 : Int32} : pv_R mX7_kindsBy 39 [some (.ref 37), some (.int x1), some (.int x2), some (.int x3), some (.int x4)] [.int u0, .int u1] (pv_em S) = pv_R mX7_kindsBy 5 [some (.ref 37), some (.int x1), some (.int x2), some (.int (u1 ||| u0)), some (.int (x4 + 1))] [] (pv_em S) := Eq.trans (pv_Rstp dX7_kindsBy_39 rfl rfl rfl) (Eq.trans (pv_Rstp dX7_kindsBy_40 rfl rfl rfl) (Eq.trans (pv_Rinc dX7_kindsBy_41 rfl (Nat.le_of_ble_eq_true rfl) ki_1 rfl) (pv_Rgo (tgt := 5) dX7_kindsBy_44 rfl (by decide))))
set_option maxHeartbeats 200000 in
theorem bX7_kindsBy_47 {S : pv_S} {x1 x2 x3 x4 : Int32} : pv_R mX7_kindsBy 47 [some (.ref 37), some (.int x1), some (.int x2), some (.int x3), some (.int x4)] [] (pv_em S) = some (some (.int x3), pv_em S) := Eq.trans (pv_Rstp dX7_kindsBy_47 rfl rfl rfl) (pv_Rret dX7_kindsBy_48 rfl)
