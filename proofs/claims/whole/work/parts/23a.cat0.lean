/-! ===== blocks: cat0 ===== -/
theorem dX6_row_0 : decode cX6_row 0 = .ok (.aload_n 0, 1) := by decide +kernel
theorem dX6_row_1 : decode cX6_row 1 = .ok (.aload_n 0, 1) := by decide +kernel
theorem dX6_row_2 : decode cX6_row 2 = .ok (.getfield 14, 3) := by decide +kernel
theorem dX6_row_5 : decode cX6_row 5 = .ok (.iload_n 1, 1) := by decide +kernel
theorem dX6_row_6 : decode cX6_row 6 = .ok (.iload_n 2, 1) := by decide +kernel
theorem dX6_row_7 : decode cX6_row 7 = .ok (.iconst 0, 1) := by decide +kernel
theorem dX6_row_8 : decode cX6_row 8 = .ok (.invokevirtual 49, 3) := by decide +kernel
theorem dX6_row_11 : decode cX6_row 11 = .ok (.ireturn, 1) := by decide +kernel
set_option maxHeartbeats 200000 in
theorem bX6_row_0 {S : pv_S} {x1 x2 : Int32} : pv_R mX6_row 0 [some (.ref 0), some (.int x1), some (.int x2)] [] (pv_em S) = pv_cc (pv_R mX6_makeAnew 0 [some (.ref 0), some (.ref 1), some (.int x1), some (.int x2), some (.int 0)] [] (pv_em S)) mX6_row 11 [some (.ref 0), some (.int x1), some (.int x2)] [] := Eq.trans (pv_Rstp dX6_row_0 rfl rfl rfl) (Eq.trans (pv_Rstp dX6_row_1 rfl rfl rfl) (Eq.trans (pv_Rget dX6_row_2 ffX6_14 (by decide) (pv_ce_0 _ _) rfl) (Eq.trans (pv_Rstp dX6_row_5 rfl rfl rfl) (Eq.trans (pv_Rstp dX6_row_6 rfl rfl rfl) (Eq.trans (pv_Ric dX6_row_7 ki_0) (pv_Rcall (As := [.ref 0, .ref 1, .int x1, .int x2, .int 0]) (rest := []) dX6_row_8 rfl mfX6_49 rfl rfl rfl rfl rfl))))))
set_option maxHeartbeats 200000 in
theorem bX6_row_11 {S : pv_S} {x1 x2 u0 : Int32} : pv_R mX6_row 11 [some (.ref 0), some (.int x1), some (.int x2)] [.int u0] (pv_em S) = some (some (.int u0), pv_em S) := pv_Rret dX6_row_11 rfl
theorem dX6_lay_0 : decode cX6_lay 0 = .ok (.aload_n 0, 1) := by decide +kernel
theorem dX6_lay_1 : decode cX6_lay 1 = .ok (.aload_n 0, 1) := by decide +kernel
theorem dX6_lay_2 : decode cX6_lay 2 = .ok (.getfield 14, 3) := by decide +kernel
theorem dX6_lay_5 : decode cX6_lay 5 = .ok (.iload_n 1, 1) := by decide +kernel
theorem dX6_lay_6 : decode cX6_lay 6 = .ok (.iload_n 2, 1) := by decide +kernel
theorem dX6_lay_7 : decode cX6_lay 7 = .ok (.invokevirtual 53, 3) := by decide +kernel
theorem dX6_lay_10 : decode cX6_lay 10 = .ok (.istore 4, 2) := by decide +kernel
theorem dX6_lay_12 : decode cX6_lay 12 = .ok (.iload 4, 2) := by decide +kernel
theorem dX6_lay_14 : decode cX6_lay 14 = .ok (.ifCond .eq 6, 3) := by decide +kernel
theorem dX6_lay_17 : decode cX6_lay 17 = .ok (.iload 4, 2) := by decide +kernel
theorem dX6_lay_19 : decode cX6_lay 19 = .ok (.ireturn, 1) := by decide +kernel
theorem dX6_lay_20 : decode cX6_lay 20 = .ok (.aload_n 0, 1) := by decide +kernel
theorem dX6_lay_21 : decode cX6_lay 21 = .ok (.getfield 45, 3) := by decide +kernel
theorem dX6_lay_24 : decode cX6_lay 24 = .ok (.aload_n 0, 1) := by decide +kernel
theorem dX6_lay_25 : decode cX6_lay 25 = .ok (.getfield 14, 3) := by decide +kernel
theorem dX6_lay_28 : decode cX6_lay 28 = .ok (.iload_n 1, 1) := by decide +kernel
theorem dX6_lay_29 : decode cX6_lay 29 = .ok (.iload_n 2, 1) := by decide +kernel
theorem dX6_lay_30 : decode cX6_lay 30 = .ok (.invokevirtual 57, 3) := by decide +kernel
theorem dX6_lay_33 : decode cX6_lay 33 = .ok (.putfield 61, 3) := by decide +kernel
theorem dX6_lay_36 : decode cX6_lay 36 = .ok (.aload_n 0, 1) := by decide +kernel
theorem dX6_lay_37 : decode cX6_lay 37 = .ok (.getfield 14, 3) := by decide +kernel
theorem dX6_lay_40 : decode cX6_lay 40 = .ok (.iload_n 1, 1) := by decide +kernel
theorem dX6_lay_41 : decode cX6_lay 41 = .ok (.iload_n 2, 1) := by decide +kernel
theorem dX6_lay_42 : decode cX6_lay 42 = .ok (.iload_n 3, 1) := by decide +kernel
theorem dX6_lay_43 : decode cX6_lay 43 = .ok (.invokevirtual 65, 3) := by decide +kernel
theorem dX6_lay_46 : decode cX6_lay 46 = .ok (.iconst 1, 1) := by decide +kernel
theorem dX6_lay_47 : decode cX6_lay 47 = .ok (.ireturn, 1) := by decide +kernel
set_option maxHeartbeats 200000 in
theorem bX6_lay_0 {S : pv_S} {x1 x2 x3 : Int32} {a4 : Option Value} : pv_R mX6_lay 0 [some (.ref 0), some (.int x1), some (.int x2), some (.int x3), a4] [] (pv_em S) = pv_cc (pv_R mX6_refusePlace 0 [some (.ref 0), some (.ref 1), some (.int x1), some (.int x2), none] [] (pv_em S)) mX6_lay 10 [some (.ref 0), some (.int x1), some (.int x2), some (.int x3), a4] [] := Eq.trans (pv_Rstp dX6_lay_0 rfl rfl rfl) (Eq.trans (pv_Rstp dX6_lay_1 rfl rfl rfl) (Eq.trans (pv_Rget dX6_lay_2 ffX6_14 (by decide) (pv_ce_0 _ _) rfl) (Eq.trans (pv_Rstp dX6_lay_5 rfl rfl rfl) (Eq.trans (pv_Rstp dX6_lay_6 rfl rfl rfl) (pv_Rcall (As := [.ref 0, .ref 1, .int x1, .int x2]) (rest := []) dX6_lay_7 rfl mfX6_53 rfl rfl rfl rfl rfl)))))
set_option maxHeartbeats 200000 in
theorem bX6_lay_10 {S : pv_S} {x1 x2 x3 u0 : Int32} {a4 : Option Value} : pv_R mX6_lay 10 [some (.ref 0), some (.int x1), some (.int x2), some (.int x3), a4] [.int u0] (pv_em S) = if u0 = 0 then pv_R mX6_lay 20 [some (.ref 0), some (.int x1), some (.int x2), some (.int x3), some (.int u0)] [] (pv_em S) else pv_R mX6_lay 17 [some (.ref 0), some (.int x1), some (.int x2), some (.int x3), some (.int u0)] [] (pv_em S) := Eq.trans (pv_Rstp dX6_lay_10 rfl rfl rfl) (Eq.trans (pv_Rstp dX6_lay_12 rfl rfl rfl) (pv_Rbr (tgt := 20) dX6_lay_14 rfl rfl rfl rfl rfl (by decide)))
set_option maxHeartbeats 200000 in
theorem bX6_lay_17 {S : pv_S} {x1 x2 x3 x4 : Int32} : pv_R mX6_lay 17 [some (.ref 0), some (.int x1), some (.int x2), some (.int x3), some (.int x4)] [] (pv_em S) = some (some (.int x4), pv_em S) := Eq.trans (pv_Rstp dX6_lay_17 rfl rfl rfl) (pv_Rret dX6_lay_19 rfl)
set_option maxHeartbeats 200000 in
theorem bX6_lay_20 {S : pv_S} {x1 x2 x3 x4 : Int32} : pv_R mX6_lay 20 [some (.ref 0), some (.int x1), some (.int x2), some (.int x3), some (.int x4)] [] (pv_em S) = pv_cc (pv_R mX3_get 0 [some (.ref 1), some (.int x1), some (.int x2)] [] (pv_em S)) mX6_lay 33 [some (.ref 0), some (.int x1), some (.int x2), some (.int x3), some (.int x4)] [.ref 35] := Eq.trans (pv_Rstp dX6_lay_20 rfl rfl rfl) (Eq.trans (pv_Rget dX6_lay_21 ffX6_45 (by decide) (pv_ce_0 _ _) rfl) (Eq.trans (pv_Rstp dX6_lay_24 rfl rfl rfl) (Eq.trans (pv_Rget dX6_lay_25 ffX6_14 (by decide) (pv_ce_0 _ _) rfl) (Eq.trans (pv_Rstp dX6_lay_28 rfl rfl rfl) (Eq.trans (pv_Rstp dX6_lay_29 rfl rfl rfl) (pv_Rcall (As := [.ref 1, .int x1, .int x2]) (rest := [.ref 35]) dX6_lay_30 rfl mfX6_57 rfl rfl rfl rfl rfl))))))
set_option maxHeartbeats 200000 in
theorem bX6_lay_33 {S : pv_S} {x1 x2 x3 x4 u0 : Int32} : pv_R mX6_lay 33 [some (.ref 0), some (.int x1), some (.int x2), some (.int x3), some (.int x4)] [.int u0, .ref 35] (pv_em S) = pv_cc (pv_R mX3_set 0 [some (.ref 1), some (.int x1), some (.int x2), some (.int x3)] [] (pv_em (pv_si S 35 1 u0))) mX6_lay 46 [some (.ref 0), some (.int x1), some (.int x2), some (.int x3), some (.int x4)] [] := Eq.trans (pv_Rput dX6_lay_33 ffX6_61 rfl rfl rfl (by decide) (pv_ce_35 _ _) (Nat.le_of_ble_eq_true rfl) (pv_em_si rfl)) (Eq.trans (pv_Rstp dX6_lay_36 rfl rfl rfl) (Eq.trans (pv_Rget dX6_lay_37 ffX6_14 (by decide) (pv_ce_0 _ _) rfl) (Eq.trans (pv_Rstp dX6_lay_40 rfl rfl rfl) (Eq.trans (pv_Rstp dX6_lay_41 rfl rfl rfl) (Eq.trans (pv_Rstp dX6_lay_42 rfl rfl rfl) (pv_Rcall (As := [.ref 1, .int x1, .int x2, .int x3]) (rest := []) dX6_lay_43 rfl mfX6_65 rfl rfl rfl rfl rfl))))))
set_option maxHeartbeats 200000 in
theorem bX6_lay_46 {S : pv_S} {x1 x2 x3 x4 : Int32} : pv_R mX6_lay 46 [some (.ref 0), some (.int x1), some (.int x2), some (.int x3), some (.int x4)] [] (pv_em S) = some (some (.int 1), pv_em S) := Eq.trans (pv_Ric dX6_lay_46 ki_1) (pv_Rret dX6_lay_47 rfl)
theorem dX6_at_0 : decode cX6_at 0 = .ok (.aload_n 0, 1) := by decide +kernel
theorem dX6_at_1 : decode cX6_at 1 = .ok (.aload_n 0, 1) := by decide +kernel
theorem dX6_at_2 : decode cX6_at 2 = .ok (.getfield 14, 3) := by decide +kernel
theorem dX6_at_5 : decode cX6_at 5 = .ok (.iload_n 1, 1) := by decide +kernel
theorem dX6_at_6 : decode cX6_at 6 = .ok (.iload_n 2, 1) := by decide +kernel
theorem dX6_at_7 : decode cX6_at 7 = .ok (.invokevirtual 53, 3) := by decide +kernel
theorem dX6_at_10 : decode cX6_at 10 = .ok (.istore_n 3, 1) := by decide +kernel
theorem dX6_at_11 : decode cX6_at 11 = .ok (.iload_n 3, 1) := by decide +kernel
theorem dX6_at_12 : decode cX6_at 12 = .ok (.ifCond .eq 5, 3) := by decide +kernel
theorem dX6_at_15 : decode cX6_at 15 = .ok (.iload_n 3, 1) := by decide +kernel
theorem dX6_at_16 : decode cX6_at 16 = .ok (.ireturn, 1) := by decide +kernel
theorem dX6_at_17 : decode cX6_at 17 = .ok (.aload_n 0, 1) := by decide +kernel
theorem dX6_at_18 : decode cX6_at 18 = .ok (.getfield 45, 3) := by decide +kernel
theorem dX6_at_21 : decode cX6_at 21 = .ok (.aload_n 0, 1) := by decide +kernel
theorem dX6_at_22 : decode cX6_at 22 = .ok (.getfield 14, 3) := by decide +kernel
theorem dX6_at_25 : decode cX6_at 25 = .ok (.iload_n 1, 1) := by decide +kernel
theorem dX6_at_26 : decode cX6_at 26 = .ok (.iload_n 2, 1) := by decide +kernel
theorem dX6_at_27 : decode cX6_at 27 = .ok (.invokevirtual 57, 3) := by decide +kernel
theorem dX6_at_30 : decode cX6_at 30 = .ok (.putfield 61, 3) := by decide +kernel
theorem dX6_at_33 : decode cX6_at 33 = .ok (.iconst 1, 1) := by decide +kernel
theorem dX6_at_34 : decode cX6_at 34 = .ok (.ireturn, 1) := by decide +kernel
set_option maxHeartbeats 200000 in
theorem bX6_at_0 {S : pv_S} {x1 x2 : Int32} {a3 : Option Value} : pv_R mX6_at 0 [some (.ref 0), some (.int x1), some (.int x2), a3] [] (pv_em S) = pv_cc (pv_R mX6_refusePlace 0 [some (.ref 0), some (.ref 1), some (.int x1), some (.int x2), none] [] (pv_em S)) mX6_at 10 [some (.ref 0), some (.int x1), some (.int x2), a3] [] := Eq.trans (pv_Rstp dX6_at_0 rfl rfl rfl) (Eq.trans (pv_Rstp dX6_at_1 rfl rfl rfl) (Eq.trans (pv_Rget dX6_at_2 ffX6_14 (by decide) (pv_ce_0 _ _) rfl) (Eq.trans (pv_Rstp dX6_at_5 rfl rfl rfl) (Eq.trans (pv_Rstp dX6_at_6 rfl rfl rfl) (pv_Rcall (As := [.ref 0, .ref 1, .int x1, .int x2]) (rest := []) dX6_at_7 rfl mfX6_53 rfl rfl rfl rfl rfl)))))
set_option maxHeartbeats 200000 in
theorem bX6_at_10 {S : pv_S} {x1 x2 u0 : Int32} {a3 : Option Value} : pv_R mX6_at 10 [some (.ref 0), some (.int x1), some (.int x2), a3] [.int u0] (pv_em S) = if u0 = 0 then pv_R mX6_at 17 [some (.ref 0), some (.int x1), some (.int x2), some (.int u0)] [] (pv_em S) else pv_R mX6_at 15 [some (.ref 0), some (.int x1), some (.int x2), some (.int u0)] [] (pv_em S) := Eq.trans (pv_Rstp dX6_at_10 rfl rfl rfl) (Eq.trans (pv_Rstp dX6_at_11 rfl rfl rfl) (pv_Rbr (tgt := 17) dX6_at_12 rfl rfl rfl rfl rfl (by decide)))
set_option maxHeartbeats 200000 in
theorem bX6_at_15 {S : pv_S} {x1 x2 x3 : Int32} : pv_R mX6_at 15 [some (.ref 0), some (.int x1), some (.int x2), some (.int x3)] [] (pv_em S) = some (some (.int x3), pv_em S) := Eq.trans (pv_Rstp dX6_at_15 rfl rfl rfl) (pv_Rret dX6_at_16 rfl)
set_option maxHeartbeats 200000 in
theorem bX6_at_17 {S : pv_S} {x1 x2 x3 : Int32} : pv_R mX6_at 17 [some (.ref 0), some (.int x1), some (.int x2), some (.int x3)] [] (pv_em S) = pv_cc (pv_R mX3_get 0 [some (.ref 1), some (.int x1), some (.int x2)] [] (pv_em S)) mX6_at 30 [some (.ref 0), some (.int x1), some (.int x2), some (.int x3)] [.ref 35] := Eq.trans (pv_Rstp dX6_at_17 rfl rfl rfl) (Eq.trans (pv_Rget dX6_at_18 ffX6_45 (by decide) (pv_ce_0 _ _) rfl) (Eq.trans (pv_Rstp dX6_at_21 rfl rfl rfl) (Eq.trans (pv_Rget dX6_at_22 ffX6_14 (by decide) (pv_ce_0 _ _) rfl) (Eq.trans (pv_Rstp dX6_at_25 rfl rfl rfl) (Eq.trans (pv_Rstp dX6_at_26 rfl rfl rfl) (pv_Rcall (As := [.ref 1, .int x1, .int x2]) (rest := [.ref 35]) dX6_at_27 rfl mfX6_57 rfl rfl rfl rfl rfl))))))
set_option maxHeartbeats 200000 in
theorem bX6_at_30 {S : pv_S} {x1 x2 x3 u0 : Int32} : pv_R mX6_at 30 [some (.ref 0), some (.int x1), some (.int x2), some (.int x3)] [.int u0, .ref 35] (pv_em S) = some (some (.int 1), pv_em (pv_si S 35 1 u0)) := Eq.trans (pv_Rput dX6_at_30 ffX6_61 rfl rfl rfl (by decide) (pv_ce_35 _ _) (Nat.le_of_ble_eq_true rfl) (pv_em_si rfl)) (Eq.trans (pv_Ric dX6_at_33 ki_1) (pv_Rret dX6_at_34 rfl))
theorem dX6_tear_0 : decode cX6_tear 0 = .ok (.aload_n 0, 1) := by decide +kernel
theorem dX6_tear_1 : decode cX6_tear 1 = .ok (.aload_n 0, 1) := by decide +kernel
theorem dX6_tear_2 : decode cX6_tear 2 = .ok (.getfield 14, 3) := by decide +kernel
theorem dX6_tear_5 : decode cX6_tear 5 = .ok (.iload_n 1, 1) := by decide +kernel
theorem dX6_tear_6 : decode cX6_tear 6 = .ok (.invokevirtual 69, 3) := by decide +kernel
theorem dX6_tear_9 : decode cX6_tear 9 = .ok (.istore_n 2, 1) := by decide +kernel
theorem dX6_tear_10 : decode cX6_tear 10 = .ok (.iload_n 2, 1) := by decide +kernel
theorem dX6_tear_11 : decode cX6_tear 11 = .ok (.ifCond .eq 5, 3) := by decide +kernel
theorem dX6_tear_14 : decode cX6_tear 14 = .ok (.iload_n 2, 1) := by decide +kernel
theorem dX6_tear_15 : decode cX6_tear 15 = .ok (.ireturn, 1) := by decide +kernel
theorem dX6_tear_16 : decode cX6_tear 16 = .ok (.aload_n 0, 1) := by decide +kernel
theorem dX6_tear_17 : decode cX6_tear 17 = .ok (.getfield 14, 3) := by decide +kernel
theorem dX6_tear_20 : decode cX6_tear 20 = .ok (.iload_n 1, 1) := by decide +kernel
theorem dX6_tear_21 : decode cX6_tear 21 = .ok (.invokevirtual 73, 3) := by decide +kernel
theorem dX6_tear_24 : decode cX6_tear 24 = .ok (.iconst 1, 1) := by decide +kernel
theorem dX6_tear_25 : decode cX6_tear 25 = .ok (.ireturn, 1) := by decide +kernel
set_option maxHeartbeats 200000 in
theorem bX6_tear_0 {S : pv_S} {x1 : Int32} {a2 : Option Value} : pv_R mX6_tear 0 [some (.ref 0), some (.int x1), a2] [] (pv_em S) = pv_cc (pv_R mX6_refuseMissing 0 [some (.ref 0), some (.ref 1), some (.int x1)] [] (pv_em S)) mX6_tear 9 [some (.ref 0), some (.int x1), a2] [] := Eq.trans (pv_Rstp dX6_tear_0 rfl rfl rfl) (Eq.trans (pv_Rstp dX6_tear_1 rfl rfl rfl) (Eq.trans (pv_Rget dX6_tear_2 ffX6_14 (by decide) (pv_ce_0 _ _) rfl) (Eq.trans (pv_Rstp dX6_tear_5 rfl rfl rfl) (pv_Rcall (As := [.ref 0, .ref 1, .int x1]) (rest := []) dX6_tear_6 rfl mfX6_69 rfl rfl rfl rfl rfl))))
set_option maxHeartbeats 200000 in
theorem bX6_tear_9 {S : pv_S} {x1 u0 : Int32} {a2 : Option Value} : pv_R mX6_tear 9 [some (.ref 0), some (.int x1), a2] [.int u0] (pv_em S) = if u0 = 0 then pv_R mX6_tear 16 [some (.ref 0), some (.int x1), some (.int u0)] [] (pv_em S) else pv_R mX6_tear 14 [some (.ref 0), some (.int x1), some (.int u0)] [] (pv_em S) := Eq.trans (pv_Rstp dX6_tear_9 rfl rfl rfl) (Eq.trans (pv_Rstp dX6_tear_10 rfl rfl rfl) (pv_Rbr (tgt := 16) dX6_tear_11 rfl rfl rfl rfl rfl (by decide)))
set_option maxHeartbeats 200000 in
theorem bX6_tear_14 {S : pv_S} {x1 x2 : Int32} : pv_R mX6_tear 14 [some (.ref 0), some (.int x1), some (.int x2)] [] (pv_em S) = some (some (.int x2), pv_em S) := Eq.trans (pv_Rstp dX6_tear_14 rfl rfl rfl) (pv_Rret dX6_tear_15 rfl)
set_option maxHeartbeats 200000 in
theorem bX6_tear_16 {S : pv_S} {x1 x2 : Int32} : pv_R mX6_tear 16 [some (.ref 0), some (.int x1), some (.int x2)] [] (pv_em S) = pv_cc (pv_R mX3_remove 0 [some (.ref 1), some (.int x1)] [] (pv_em S)) mX6_tear 24 [some (.ref 0), some (.int x1), some (.int x2)] [] := Eq.trans (pv_Rstp dX6_tear_16 rfl rfl rfl) (Eq.trans (pv_Rget dX6_tear_17 ffX6_14 (by decide) (pv_ce_0 _ _) rfl) (Eq.trans (pv_Rstp dX6_tear_20 rfl rfl rfl) (pv_Rcall (As := [.ref 1, .int x1]) (rest := []) dX6_tear_21 rfl mfX6_73 rfl rfl rfl rfl rfl)))
set_option maxHeartbeats 200000 in
theorem bX6_tear_24 {S : pv_S} {x1 x2 : Int32} : pv_R mX6_tear 24 [some (.ref 0), some (.int x1), some (.int x2)] [] (pv_em S) = some (some (.int 1), pv_em S) := Eq.trans (pv_Ric dX6_tear_24 ki_1) (pv_Rret dX6_tear_25 rfl)
theorem dX6_copy_0 : decode cX6_copy 0 = .ok (.aload_n 0, 1) := by decide +kernel
theorem dX6_copy_1 : decode cX6_copy 1 = .ok (.getfield 14, 3) := by decide +kernel
theorem dX6_copy_4 : decode cX6_copy 4 = .ok (.iload_n 1, 1) := by decide +kernel
theorem dX6_copy_5 : decode cX6_copy 5 = .ok (.invokevirtual 77, 3) := by decide +kernel
theorem dX6_copy_8 : decode cX6_copy 8 = .ok (.ifCond .eq 14, 3) := by decide +kernel
theorem dX6_copy_11 : decode cX6_copy 11 = .ok (.aload_n 0, 1) := by decide +kernel
theorem dX6_copy_12 : decode cX6_copy 12 = .ok (.getfield 14, 3) := by decide +kernel
theorem dX6_copy_15 : decode cX6_copy 15 = .ok (.iload_n 3, 1) := by decide +kernel
theorem dX6_copy_16 : decode cX6_copy 16 = .ok (.invokevirtual 77, 3) := by decide +kernel
theorem dX6_copy_19 : decode cX6_copy 19 = .ok (.ifCond .ne 5, 3) := by decide +kernel
theorem dX6_copy_22 : decode cX6_copy 22 = .ok (.iconst (-1), 1) := by decide +kernel
theorem dX6_copy_23 : decode cX6_copy 23 = .ok (.ireturn, 1) := by decide +kernel
theorem dX6_copy_24 : decode cX6_copy 24 = .ok (.iload 5, 2) := by decide +kernel
theorem dX6_copy_26 : decode cX6_copy 26 = .ok (.ifCond .ge 12, 3) := by decide +kernel
theorem dX6_copy_29 : decode cX6_copy 29 = .ok (.aload_n 0, 1) := by decide +kernel
theorem dX6_copy_30 : decode cX6_copy 30 = .ok (.getfield 45, 3) := by decide +kernel
theorem dX6_copy_33 : decode cX6_copy 33 = .ok (.iconst 5, 1) := by decide +kernel
theorem dX6_copy_34 : decode cX6_copy 34 = .ok (.invokevirtual 81, 3) := by decide +kernel
theorem dX6_copy_37 : decode cX6_copy 37 = .ok (.ireturn, 1) := by decide +kernel
theorem dX6_copy_38 : decode cX6_copy 38 = .ok (.aload_n 0, 1) := by decide +kernel
theorem dX6_copy_39 : decode cX6_copy 39 = .ok (.getfield 14, 3) := by decide +kernel
theorem dX6_copy_42 : decode cX6_copy 42 = .ok (.iload_n 1, 1) := by decide +kernel
theorem dX6_copy_43 : decode cX6_copy 43 = .ok (.invokevirtual 85, 3) := by decide +kernel
theorem dX6_copy_46 : decode cX6_copy 46 = .ok (.ifCond .eq 14, 3) := by decide +kernel
theorem dX6_copy_49 : decode cX6_copy 49 = .ok (.aload_n 0, 1) := by decide +kernel
theorem dX6_copy_50 : decode cX6_copy 50 = .ok (.getfield 14, 3) := by decide +kernel
theorem dX6_copy_53 : decode cX6_copy 53 = .ok (.iload_n 3, 1) := by decide +kernel
theorem dX6_copy_54 : decode cX6_copy 54 = .ok (.invokevirtual 85, 3) := by decide +kernel
theorem dX6_copy_57 : decode cX6_copy 57 = .ok (.ifCond .ne 12, 3) := by decide +kernel
theorem dX6_copy_60 : decode cX6_copy 60 = .ok (.aload_n 0, 1) := by decide +kernel
theorem dX6_copy_61 : decode cX6_copy 61 = .ok (.getfield 45, 3) := by decide +kernel
theorem dX6_copy_64 : decode cX6_copy 64 = .ok (.iconst 1, 1) := by decide +kernel
theorem dX6_copy_65 : decode cX6_copy 65 = .ok (.invokevirtual 81, 3) := by decide +kernel
theorem dX6_copy_68 : decode cX6_copy 68 = .ok (.ireturn, 1) := by decide +kernel
theorem dX6_copy_69 : decode cX6_copy 69 = .ok (.aload_n 0, 1) := by decide +kernel
theorem dX6_copy_70 : decode cX6_copy 70 = .ok (.getfield 14, 3) := by decide +kernel
theorem dX6_copy_73 : decode cX6_copy 73 = .ok (.iload_n 1, 1) := by decide +kernel
theorem dX6_copy_74 : decode cX6_copy 74 = .ok (.iload_n 2, 1) := by decide +kernel
theorem dX6_copy_75 : decode cX6_copy 75 = .ok (.iload 5, 2) := by decide +kernel
theorem dX6_copy_77 : decode cX6_copy 77 = .ok (.invokevirtual 88, 3) := by decide +kernel
theorem dX6_copy_80 : decode cX6_copy 80 = .ok (.ifCond .eq 18, 3) := by decide +kernel
theorem dX6_copy_83 : decode cX6_copy 83 = .ok (.aload_n 0, 1) := by decide +kernel
theorem dX6_copy_84 : decode cX6_copy 84 = .ok (.getfield 14, 3) := by decide +kernel
theorem dX6_copy_87 : decode cX6_copy 87 = .ok (.iload_n 3, 1) := by decide +kernel
theorem dX6_copy_88 : decode cX6_copy 88 = .ok (.iload 4, 2) := by decide +kernel
theorem dX6_copy_90 : decode cX6_copy 90 = .ok (.iload 5, 2) := by decide +kernel
theorem dX6_copy_92 : decode cX6_copy 92 = .ok (.invokevirtual 88, 3) := by decide +kernel
theorem dX6_copy_95 : decode cX6_copy 95 = .ok (.ifCond .ne 12, 3) := by decide +kernel
theorem dX6_copy_98 : decode cX6_copy 98 = .ok (.aload_n 0, 1) := by decide +kernel
theorem dX6_copy_99 : decode cX6_copy 99 = .ok (.getfield 45, 3) := by decide +kernel
theorem dX6_copy_102 : decode cX6_copy 102 = .ok (.iconst 2, 1) := by decide +kernel
theorem dX6_copy_103 : decode cX6_copy 103 = .ok (.invokevirtual 81, 3) := by decide +kernel
theorem dX6_copy_106 : decode cX6_copy 106 = .ok (.ireturn, 1) := by decide +kernel
theorem dX6_copy_107 : decode cX6_copy 107 = .ok (.aload_n 0, 1) := by decide +kernel
theorem dX6_copy_108 : decode cX6_copy 108 = .ok (.getfield 14, 3) := by decide +kernel
theorem dX6_copy_111 : decode cX6_copy 111 = .ok (.iload_n 1, 1) := by decide +kernel
theorem dX6_copy_112 : decode cX6_copy 112 = .ok (.iload_n 2, 1) := by decide +kernel
theorem dX6_copy_113 : decode cX6_copy 113 = .ok (.iload_n 3, 1) := by decide +kernel
theorem dX6_copy_114 : decode cX6_copy 114 = .ok (.iload 4, 2) := by decide +kernel
theorem dX6_copy_116 : decode cX6_copy 116 = .ok (.iload 5, 2) := by decide +kernel
theorem dX6_copy_118 : decode cX6_copy 118 = .ok (.invokevirtual 92, 3) := by decide +kernel
theorem dX6_copy_121 : decode cX6_copy 121 = .ok (.iconst 1, 1) := by decide +kernel
theorem dX6_copy_122 : decode cX6_copy 122 = .ok (.ireturn, 1) := by decide +kernel
set_option maxHeartbeats 200000 in
theorem bX6_copy_0 {S : pv_S} {x1 x2 x3 x4 x5 : Int32} : pv_R mX6_copy 0 [some (.ref 0), some (.int x1), some (.int x2), some (.int x3), some (.int x4), some (.int x5)] [] (pv_em S) = pv_cc (pv_R mX3_hasNumber 0 [some (.ref 1), some (.int x1)] [] (pv_em S)) mX6_copy 8 [some (.ref 0), some (.int x1), some (.int x2), some (.int x3), some (.int x4), some (.int x5)] [] := Eq.trans (pv_Rstp dX6_copy_0 rfl rfl rfl) (Eq.trans (pv_Rget dX6_copy_1 ffX6_14 (by decide) (pv_ce_0 _ _) rfl) (Eq.trans (pv_Rstp dX6_copy_4 rfl rfl rfl) (pv_Rcall (As := [.ref 1, .int x1]) (rest := []) dX6_copy_5 rfl mfX6_77 rfl rfl rfl rfl rfl)))
set_option maxHeartbeats 200000 in
theorem bX6_copy_8 {S : pv_S} {x1 x2 x3 x4 x5 u0 : Int32} : pv_R mX6_copy 8 [some (.ref 0), some (.int x1), some (.int x2), some (.int x3), some (.int x4), some (.int x5)] [.int u0] (pv_em S) = if u0 = 0 then pv_R mX6_copy 22 [some (.ref 0), some (.int x1), some (.int x2), some (.int x3), some (.int x4), some (.int x5)] [] (pv_em S) else pv_R mX6_copy 11 [some (.ref 0), some (.int x1), some (.int x2), some (.int x3), some (.int x4), some (.int x5)] [] (pv_em S) := pv_Rbr (tgt := 22) dX6_copy_8 rfl rfl rfl rfl rfl (by decide)
set_option maxHeartbeats 200000 in
theorem bX6_copy_11 {S : pv_S} {x1 x2 x3 x4 x5 : Int32} : pv_R mX6_copy 11 [some (.ref 0), some (.int x1), some (.int x2), some (.int x3), some (.int x4), some (.int x5)] [] (pv_em S) = pv_cc (pv_R mX3_hasNumber 0 [some (.ref 1), some (.int x3)] [] (pv_em S)) mX6_copy 19 [some (.ref 0), some (.int x1), some (.int x2), some (.int x3), some (.int x4), some (.int x5)] [] := Eq.trans (pv_Rstp dX6_copy_11 rfl rfl rfl) (Eq.trans (pv_Rget dX6_copy_12 ffX6_14 (by decide) (pv_ce_0 _ _) rfl) (Eq.trans (pv_Rstp dX6_copy_15 rfl rfl rfl) (pv_Rcall (As := [.ref 1, .int x3]) (rest := []) dX6_copy_16 rfl mfX6_77 rfl rfl rfl rfl rfl)))
set_option maxHeartbeats 200000 in
theorem bX6_copy_19 {S : pv_S} {x1 x2 x3 x4 x5 u0 : Int32} : pv_R mX6_copy 19 [some (.ref 0), some (.int x1), some (.int x2), some (.int x3), some (.int x4), some (.int x5)] [.int u0] (pv_em S) = if ¬ u0 = 0 then pv_R mX6_copy 24 [some (.ref 0), some (.int x1), some (.int x2), some (.int x3), some (.int x4), some (.int x5)] [] (pv_em S) else pv_R mX6_copy 22 [some (.ref 0), some (.int x1), some (.int x2), some (.int x3), some (.int x4), some (.int x5)] [] (pv_em S) := pv_Rbr (tgt := 24) dX6_copy_19 rfl rfl rfl rfl rfl (by decide)
set_option maxHeartbeats 200000 in
theorem bX6_copy_22 {S : pv_S} {x1 x2 x3 x4 x5 : Int32} : pv_R mX6_copy 22 [some (.ref 0), some (.int x1), some (.int x2), some (.int x3), some (.int x4), some (.int x5)] [] (pv_em S) = some (some (.int (-1)), pv_em S) := Eq.trans (pv_Ric dX6_copy_22 ki_m1) (pv_Rret dX6_copy_23 rfl)
set_option maxHeartbeats 200000 in
theorem bX6_copy_24 {S : pv_S} {x1 x2 x3 x4 x5 : Int32} : pv_R mX6_copy 24 [some (.ref 0), some (.int x1), some (.int x2), some (.int x3), some (.int x4), some (.int x5)] [] (pv_em S) = if 0 ≤ x5 then pv_R mX6_copy 38 [some (.ref 0), some (.int x1), some (.int x2), some (.int x3), some (.int x4), some (.int x5)] [] (pv_em S) else pv_R mX6_copy 29 [some (.ref 0), some (.int x1), some (.int x2), some (.int x3), some (.int x4), some (.int x5)] [] (pv_em S) := Eq.trans (pv_Rstp dX6_copy_24 rfl rfl rfl) (pv_Rbr (tgt := 38) dX6_copy_26 rfl rfl rfl rfl rfl (by decide))
set_option maxHeartbeats 200000 in
theorem bX6_copy_29 {S : pv_S} {x1 x2 x3 x4 x5 : Int32} : pv_R mX6_copy 29 [some (.ref 0), some (.int x1), some (.int x2), some (.int x3), some (.int x4), some (.int x5)] [] (pv_em S) = pv_cc (pv_R mX4_answerFinding 0 [some (.ref 35), some (.int 5)] [] (pv_em S)) mX6_copy 37 [some (.ref 0), some (.int x1), some (.int x2), some (.int x3), some (.int x4), some (.int x5)] [] := Eq.trans (pv_Rstp dX6_copy_29 rfl rfl rfl) (Eq.trans (pv_Rget dX6_copy_30 ffX6_45 (by decide) (pv_ce_0 _ _) rfl) (Eq.trans (pv_Ric dX6_copy_33 ki_5) (pv_Rcall (As := [.ref 35, .int 5]) (rest := []) dX6_copy_34 rfl mfX6_81 rfl rfl rfl rfl rfl)))
set_option maxHeartbeats 200000 in
theorem bX6_copy_37 {S : pv_S} {x1 x2 x3 x4 x5 u0 : Int32} : pv_R mX6_copy 37 [some (.ref 0), some (.int x1), some (.int x2), some (.int x3), some (.int x4), some (.int x5)] [.int u0] (pv_em S) = some (some (.int u0), pv_em S) := pv_Rret dX6_copy_37 rfl
set_option maxHeartbeats 200000 in
theorem bX6_copy_38 {S : pv_S} {x1 x2 x3 x4 x5 : Int32} : pv_R mX6_copy 38 [some (.ref 0), some (.int x1), some (.int x2), some (.int x3), some (.int x4), some (.int x5)] [] (pv_em S) = pv_cc (pv_R mX3_isThere 0 [some (.ref 1), some (.int x1)] [] (pv_em S)) mX6_copy 46 [some (.ref 0), some (.int x1), some (.int x2), some (.int x3), some (.int x4), some (.int x5)] [] := Eq.trans (pv_Rstp dX6_copy_38 rfl rfl rfl) (Eq.trans (pv_Rget dX6_copy_39 ffX6_14 (by decide) (pv_ce_0 _ _) rfl) (Eq.trans (pv_Rstp dX6_copy_42 rfl rfl rfl) (pv_Rcall (As := [.ref 1, .int x1]) (rest := []) dX6_copy_43 rfl mfX6_85 rfl rfl rfl rfl rfl)))
set_option maxHeartbeats 200000 in
theorem bX6_copy_46 {S : pv_S} {x1 x2 x3 x4 x5 u0 : Int32} : pv_R mX6_copy 46 [some (.ref 0), some (.int x1), some (.int x2), some (.int x3), some (.int x4), some (.int x5)] [.int u0] (pv_em S) = if u0 = 0 then pv_R mX6_copy 60 [some (.ref 0), some (.int x1), some (.int x2), some (.int x3), some (.int x4), some (.int x5)] [] (pv_em S) else pv_R mX6_copy 49 [some (.ref 0), some (.int x1), some (.int x2), some (.int x3), some (.int x4), some (.int x5)] [] (pv_em S) := pv_Rbr (tgt := 60) dX6_copy_46 rfl rfl rfl rfl rfl (by decide)
set_option maxHeartbeats 200000 in
theorem bX6_copy_49 {S : pv_S} {x1 x2 x3 x4 x5 : Int32} : pv_R mX6_copy 49 [some (.ref 0), some (.int x1), some (.int x2), some (.int x3), some (.int x4), some (.int x5)] [] (pv_em S) = pv_cc (pv_R mX3_isThere 0 [some (.ref 1), some (.int x3)] [] (pv_em S)) mX6_copy 57 [some (.ref 0), some (.int x1), some (.int x2), some (.int x3), some (.int x4), some (.int x5)] [] := Eq.trans (pv_Rstp dX6_copy_49 rfl rfl rfl) (Eq.trans (pv_Rget dX6_copy_50 ffX6_14 (by decide) (pv_ce_0 _ _) rfl) (Eq.trans (pv_Rstp dX6_copy_53 rfl rfl rfl) (pv_Rcall (As := [.ref 1, .int x3]) (rest := []) dX6_copy_54 rfl mfX6_85 rfl rfl rfl rfl rfl)))
set_option maxHeartbeats 200000 in
theorem bX6_copy_57 {S : pv_S} {x1 x2 x3 x4 x5 u0 : Int32} : pv_R mX6_copy 57 [some (.ref 0), some (.int x1), some (.int x2), some (.int x3), some (.int x4), some (.int x5)] [.int u0] (pv_em S) = if ¬ u0 = 0 then pv_R mX6_copy 69 [some (.ref 0), some (.int x1), some (.int x2), some (.int x3), some (.int x4), some (.int x5)] [] (pv_em S) else pv_R mX6_copy 60 [some (.ref 0), some (.int x1), some (.int x2), some (.int x3), some (.int x4), some (.int x5)] [] (pv_em S) := pv_Rbr (tgt := 69) dX6_copy_57 rfl rfl rfl rfl rfl (by decide)
set_option maxHeartbeats 200000 in
theorem bX6_copy_60 {S : pv_S} {x1 x2 x3 x4 x5 : Int32} : pv_R mX6_copy 60 [some (.ref 0), some (.int x1), some (.int x2), some (.int x3), some (.int x4), some (.int x5)] [] (pv_em S) = pv_cc (pv_R mX4_answerFinding 0 [some (.ref 35), some (.int 1)] [] (pv_em S)) mX6_copy 68 [some (.ref 0), some (.int x1), some (.int x2), some (.int x3), some (.int x4), some (.int x5)] [] := Eq.trans (pv_Rstp dX6_copy_60 rfl rfl rfl) (Eq.trans (pv_Rget dX6_copy_61 ffX6_45 (by decide) (pv_ce_0 _ _) rfl) (Eq.trans (pv_Ric dX6_copy_64 ki_1) (pv_Rcall (As := [.ref 35, .int 1]) (rest := []) dX6_copy_65 rfl mfX6_81 rfl rfl rfl rfl rfl)))
set_option maxHeartbeats 200000 in
theorem bX6_copy_68 {S : pv_S} {x1 x2 x3 x4 x5 u0 : Int32} : pv_R mX6_copy 68 [some (.ref 0), some (.int x1), some (.int x2), some (.int x3), some (.int x4), some (.int x5)] [.int u0] (pv_em S) = some (some (.int u0), pv_em S) := pv_Rret dX6_copy_68 rfl
set_option maxHeartbeats 200000 in
theorem bX6_copy_69 {S : pv_S} {x1 x2 x3 x4 x5 : Int32} : pv_R mX6_copy 69 [some (.ref 0), some (.int x1), some (.int x2), some (.int x3), some (.int x4), some (.int x5)] [] (pv_em S) = pv_cc (pv_R mX3_hasRun 0 [some (.ref 1), some (.int x1), some (.int x2), some (.int x5)] [] (pv_em S)) mX6_copy 80 [some (.ref 0), some (.int x1), some (.int x2), some (.int x3), some (.int x4), some (.int x5)] [] := Eq.trans (pv_Rstp dX6_copy_69 rfl rfl rfl) (Eq.trans (pv_Rget dX6_copy_70 ffX6_14 (by decide) (pv_ce_0 _ _) rfl) (Eq.trans (pv_Rstp dX6_copy_73 rfl rfl rfl) (Eq.trans (pv_Rstp dX6_copy_74 rfl rfl rfl) (Eq.trans (pv_Rstp dX6_copy_75 rfl rfl rfl) (pv_Rcall (As := [.ref 1, .int x1, .int x2, .int x5]) (rest := []) dX6_copy_77 rfl mfX6_88 rfl rfl rfl rfl rfl)))))
set_option maxHeartbeats 200000 in
theorem bX6_copy_80 {S : pv_S} {x1 x2 x3 x4 x5 u0 : Int32} : pv_R mX6_copy 80 [some (.ref 0), some (.int x1), some (.int x2), some (.int x3), some (.int x4), some (.int x5)] [.int u0] (pv_em S) = if u0 = 0 then pv_R mX6_copy 98 [some (.ref 0), some (.int x1), some (.int x2), some (.int x3), some (.int x4), some (.int x5)] [] (pv_em S) else pv_R mX6_copy 83 [some (.ref 0), some (.int x1), some (.int x2), some (.int x3), some (.int x4), some (.int x5)] [] (pv_em S) := pv_Rbr (tgt := 98) dX6_copy_80 rfl rfl rfl rfl rfl (by decide)
set_option maxHeartbeats 200000 in
theorem bX6_copy_83 {S : pv_S} {x1 x2 x3 x4 x5 : Int32} : pv_R mX6_copy 83 [some (.ref 0), some (.int x1), some (.int x2), some (.int x3), some (.int x4), some (.int x5)] [] (pv_em S) = pv_cc (pv_R mX3_hasRun 0 [some (.ref 1), some (.int x3), some (.int x4), some (.int x5)] [] (pv_em S)) mX6_copy 95 [some (.ref 0), some (.int x1), some (.int x2), some (.int x3), some (.int x4), some (.int x5)] [] := Eq.trans (pv_Rstp dX6_copy_83 rfl rfl rfl) (Eq.trans (pv_Rget dX6_copy_84 ffX6_14 (by decide) (pv_ce_0 _ _) rfl) (Eq.trans (pv_Rstp dX6_copy_87 rfl rfl rfl) (Eq.trans (pv_Rstp dX6_copy_88 rfl rfl rfl) (Eq.trans (pv_Rstp dX6_copy_90 rfl rfl rfl) (pv_Rcall (As := [.ref 1, .int x3, .int x4, .int x5]) (rest := []) dX6_copy_92 rfl mfX6_88 rfl rfl rfl rfl rfl)))))
set_option maxHeartbeats 200000 in
theorem bX6_copy_95 {S : pv_S} {x1 x2 x3 x4 x5 u0 : Int32} : pv_R mX6_copy 95 [some (.ref 0), some (.int x1), some (.int x2), some (.int x3), some (.int x4), some (.int x5)] [.int u0] (pv_em S) = if ¬ u0 = 0 then pv_R mX6_copy 107 [some (.ref 0), some (.int x1), some (.int x2), some (.int x3), some (.int x4), some (.int x5)] [] (pv_em S) else pv_R mX6_copy 98 [some (.ref 0), some (.int x1), some (.int x2), some (.int x3), some (.int x4), some (.int x5)] [] (pv_em S) := pv_Rbr (tgt := 107) dX6_copy_95 rfl rfl rfl rfl rfl (by decide)
set_option maxHeartbeats 200000 in
theorem bX6_copy_98 {S : pv_S} {x1 x2 x3 x4 x5 : Int32} : pv_R mX6_copy 98 [some (.ref 0), some (.int x1), some (.int x2), some (.int x3), some (.int x4), some (.int x5)] [] (pv_em S) = pv_cc (pv_R mX4_answerFinding 0 [some (.ref 35), some (.int 2)] [] (pv_em S)) mX6_copy 106 [some (.ref 0), some (.int x1), some (.int x2), some (.int x3), some (.int x4), some (.int x5)] [] := Eq.trans (pv_Rstp dX6_copy_98 rfl rfl rfl) (Eq.trans (pv_Rget dX6_copy_99 ffX6_45 (by decide) (pv_ce_0 _ _) rfl) (Eq.trans (pv_Ric dX6_copy_102 ki_2) (pv_Rcall (As := [.ref 35, .int 2]) (rest := []) dX6_copy_103 rfl mfX6_81 rfl rfl rfl rfl rfl)))
set_option maxHeartbeats 200000 in
theorem bX6_copy_106 {S : pv_S} {x1 x2 x3 x4 x5 u0 : Int32} : pv_R mX6_copy 106 [some (.ref 0), some (.int x1), some (.int x2), some (.int x3), some (.int x4), some (.int x5)] [.int u0] (pv_em S) = some (some (.int u0), pv_em S) := pv_Rret dX6_copy_106 rfl
set_option maxHeartbeats 200000 in
theorem bX6_copy_107 {S : pv_S} {x1 x2 x3 x4 x5 : Int32} : pv_R mX6_copy 107 [some (.ref 0), some (.int x1), some (.int x2), some (.int x3), some (.int x4), some (.int x5)] [] (pv_em S) = pv_cc (pv_R mX3_move 0 [some (.ref 1), some (.int x1), some (.int x2), some (.int x3), some (.int x4), some (.int x5)] [] (pv_em S)) mX6_copy 121 [some (.ref 0), some (.int x1), some (.int x2), some (.int x3), some (.int x4), some (.int x5)] [] := Eq.trans (pv_Rstp dX6_copy_107 rfl rfl rfl) (Eq.trans (pv_Rget dX6_copy_108 ffX6_14 (by decide) (pv_ce_0 _ _) rfl) (Eq.trans (pv_Rstp dX6_copy_111 rfl rfl rfl) (Eq.trans (pv_Rstp dX6_copy_112 rfl rfl rfl) (Eq.trans (pv_Rstp dX6_copy_113 rfl rfl rfl) (Eq.trans (pv_Rstp dX6_copy_114 rfl rfl rfl) (Eq.trans (pv_Rstp dX6_copy_116 rfl rfl rfl) (pv_Rcall (As := [.ref 1, .int x1, .int x2, .int x3, .int x4, .int x5]) (rest := []) dX6_copy_118 rfl mfX6_92 rfl rfl rfl rfl rfl)))))))
set_option maxHeartbeats 200000 in
theorem bX6_copy_121 {S : pv_S} {x1 x2 x3 x4 x5 : Int32} : pv_R mX6_copy 121 [some (.ref 0), some (.int x1), some (.int x2), some (.int x3), some (.int x4), some (.int x5)] [] (pv_em S) = some (some (.int 1), pv_em S) := Eq.trans (pv_Ric dX6_copy_121 ki_1) (pv_Rret dX6_copy_122 rfl)
theorem dX6_mean_0 : decode cX6_mean 0 = .ok (.aload_n 0, 1) := by decide +kernel
theorem dX6_mean_1 : decode cX6_mean 1 = .ok (.aload_n 0, 1) := by decide +kernel
theorem dX6_mean_2 : decode cX6_mean 2 = .ok (.getfield 14, 3) := by decide +kernel
theorem dX6_mean_5 : decode cX6_mean 5 = .ok (.iload_n 1, 1) := by decide +kernel
theorem dX6_mean_6 : decode cX6_mean 6 = .ok (.invokevirtual 69, 3) := by decide +kernel
theorem dX6_mean_9 : decode cX6_mean 9 = .ok (.istore_n 2, 1) := by decide +kernel
theorem dX6_mean_10 : decode cX6_mean 10 = .ok (.iload_n 2, 1) := by decide +kernel
theorem dX6_mean_11 : decode cX6_mean 11 = .ok (.ifCond .eq 5, 3) := by decide +kernel
theorem dX6_mean_14 : decode cX6_mean 14 = .ok (.iload_n 2, 1) := by decide +kernel
theorem dX6_mean_15 : decode cX6_mean 15 = .ok (.ireturn, 1) := by decide +kernel
theorem dX6_mean_16 : decode cX6_mean 16 = .ok (.aload_n 0, 1) := by decide +kernel
theorem dX6_mean_17 : decode cX6_mean 17 = .ok (.getfield 14, 3) := by decide +kernel
theorem dX6_mean_20 : decode cX6_mean 20 = .ok (.iload_n 1, 1) := by decide +kernel
theorem dX6_mean_21 : decode cX6_mean 21 = .ok (.invokevirtual 96, 3) := by decide +kernel
theorem dX6_mean_24 : decode cX6_mean 24 = .ok (.istore_n 3, 1) := by decide +kernel
theorem dX6_mean_25 : decode cX6_mean 25 = .ok (.iload_n 3, 1) := by decide +kernel
theorem dX6_mean_26 : decode cX6_mean 26 = .ok (.iconst 1, 1) := by decide +kernel
theorem dX6_mean_27 : decode cX6_mean 27 = .ok (.if_icmp .ge 12, 3) := by decide +kernel
theorem dX6_mean_30 : decode cX6_mean 30 = .ok (.aload_n 0, 1) := by decide +kernel
theorem dX6_mean_31 : decode cX6_mean 31 = .ok (.getfield 45, 3) := by decide +kernel
theorem dX6_mean_34 : decode cX6_mean 34 = .ok (.iconst 4, 1) := by decide +kernel
theorem dX6_mean_35 : decode cX6_mean 35 = .ok (.invokevirtual 81, 3) := by decide +kernel
theorem dX6_mean_38 : decode cX6_mean 38 = .ok (.ireturn, 1) := by decide +kernel
theorem dX6_mean_39 : decode cX6_mean 39 = .ok (.aload_n 0, 1) := by decide +kernel
theorem dX6_mean_40 : decode cX6_mean 40 = .ok (.getfield 45, 3) := by decide +kernel
theorem dX6_mean_43 : decode cX6_mean 43 = .ok (.aload_n 0, 1) := by decide +kernel
theorem dX6_mean_44 : decode cX6_mean 44 = .ok (.getfield 14, 3) := by decide +kernel
theorem dX6_mean_47 : decode cX6_mean 47 = .ok (.iload_n 1, 1) := by decide +kernel
theorem dX6_mean_48 : decode cX6_mean 48 = .ok (.invokevirtual 99, 3) := by decide +kernel
theorem dX6_mean_51 : decode cX6_mean 51 = .ok (.iload_n 3, 1) := by decide +kernel
theorem dX6_mean_52 : decode cX6_mean 52 = .ok (.i2l, 1) := by decide +kernel
theorem dX6_mean_53 : decode cX6_mean 53 = .ok (.ldiv, 1) := by decide +kernel
theorem dX6_mean_54 : decode cX6_mean 54 = .ok (.l2i, 1) := by decide +kernel
theorem dX6_mean_55 : decode cX6_mean 55 = .ok (.putfield 61, 3) := by decide +kernel
theorem dX6_mean_58 : decode cX6_mean 58 = .ok (.iconst 1, 1) := by decide +kernel
theorem dX6_mean_59 : decode cX6_mean 59 = .ok (.ireturn, 1) := by decide +kernel
set_option maxHeartbeats 200000 in
theorem bX6_mean_0 {S : pv_S} {x1 : Int32} {a2 a3 : Option Value} : pv_R mX6_mean 0 [some (.ref 0), some (.int x1), a2, a3] [] (pv_em S) = pv_cc (pv_R mX6_refuseMissing 0 [some (.ref 0), some (.ref 1), some (.int x1)] [] (pv_em S)) mX6_mean 9 [some (.ref 0), some (.int x1), a2, a3] [] := Eq.trans (pv_Rstp dX6_mean_0 rfl rfl rfl) (Eq.trans (pv_Rstp dX6_mean_1 rfl rfl rfl) (Eq.trans (pv_Rget dX6_mean_2 ffX6_14 (by decide) (pv_ce_0 _ _) rfl) (Eq.trans (pv_Rstp dX6_mean_5 rfl rfl rfl) (pv_Rcall (As := [.ref 0, .ref 1, .int x1]) (rest := []) dX6_mean_6 rfl mfX6_69 rfl rfl rfl rfl rfl))))
set_option maxHeartbeats 200000 in
theorem bX6_mean_9 {S : pv_S} {x1 u0 : Int32} {a2 a3 : Option Value} : pv_R mX6_mean 9 [some (.ref 0), some (.int x1), a2, a3] [.int u0] (pv_em S) = if u0 = 0 then pv_R mX6_mean 16 [some (.ref 0), some (.int x1), some (.int u0), a3] [] (pv_em S) else pv_R mX6_mean 14 [some (.ref 0), some (.int x1), some (.int u0), a3] [] (pv_em S) := Eq.trans (pv_Rstp dX6_mean_9 rfl rfl rfl) (Eq.trans (pv_Rstp dX6_mean_10 rfl rfl rfl) (pv_Rbr (tgt := 16) dX6_mean_11 rfl rfl rfl rfl rfl (by decide)))
set_option maxHeartbeats 200000 in
theorem bX6_mean_14 {S : pv_S} {x1 x2 : Int32} {a3 : Option Value} : pv_R mX6_mean 14 [some (.ref 0), some (.int x1), some (.int x2), a3] [] (pv_em S) = some (some (.int x2), pv_em S) := Eq.trans (pv_Rstp dX6_mean_14 rfl rfl rfl) (pv_Rret dX6_mean_15 rfl)
set_option maxHeartbeats 200000 in
theorem bX6_mean_16 {S : pv_S} {x1 x2 : Int32} {a3 : Option Value} : pv_R mX6_mean 16 [some (.ref 0), some (.int x1), some (.int x2), a3] [] (pv_em S) = pv_cc (pv_R mX3_sizeOf 0 [some (.ref 1), some (.int x1)] [] (pv_em S)) mX6_mean 24 [some (.ref 0), some (.int x1), some (.int x2), a3] [] := Eq.trans (pv_Rstp dX6_mean_16 rfl rfl rfl) (Eq.trans (pv_Rget dX6_mean_17 ffX6_14 (by decide) (pv_ce_0 _ _) rfl) (Eq.trans (pv_Rstp dX6_mean_20 rfl rfl rfl) (pv_Rcall (As := [.ref 1, .int x1]) (rest := []) dX6_mean_21 rfl mfX6_96 rfl rfl rfl rfl rfl)))
set_option maxHeartbeats 200000 in
theorem bX6_mean_24 {S : pv_S} {x1 x2 u0 : Int32} {a3 : Option Value} : pv_R mX6_mean 24 [some (.ref 0), some (.int x1), some (.int x2), a3] [.int u0] (pv_em S) = if 1 ≤ u0 then pv_R mX6_mean 39 [some (.ref 0), some (.int x1), some (.int x2), some (.int u0)] [] (pv_em S) else pv_R mX6_mean 30 [some (.ref 0), some (.int x1), some (.int x2), some (.int u0)] [] (pv_em S) := Eq.trans (pv_Rstp dX6_mean_24 rfl rfl rfl) (Eq.trans (pv_Rstp dX6_mean_25 rfl rfl rfl) (Eq.trans (pv_Ric dX6_mean_26 ki_1) (pv_Rbr (tgt := 39) dX6_mean_27 rfl rfl rfl rfl rfl (by decide))))
set_option maxHeartbeats 200000 in
theorem bX6_mean_30 {S : pv_S} {x1 x2 x3 : Int32} : pv_R mX6_mean 30 [some (.ref 0), some (.int x1), some (.int x2), some (.int x3)] [] (pv_em S) = pv_cc (pv_R mX4_answerFinding 0 [some (.ref 35), some (.int 4)] [] (pv_em S)) mX6_mean 38 [some (.ref 0), some (.int x1), some (.int x2), some (.int x3)] [] := Eq.trans (pv_Rstp dX6_mean_30 rfl rfl rfl) (Eq.trans (pv_Rget dX6_mean_31 ffX6_45 (by decide) (pv_ce_0 _ _) rfl) (Eq.trans (pv_Ric dX6_mean_34 ki_4) (pv_Rcall (As := [.ref 35, .int 4]) (rest := []) dX6_mean_35 rfl mfX6_81 rfl rfl rfl rfl rfl)))
set_option maxHeartbeats 200000 in
theorem bX6_mean_38 {S : pv_S} {x1 x2 x3 u0 : Int32} : pv_R mX6_mean 38 [some (.ref 0), some (.int x1), some (.int x2), some (.int x3)] [.int u0] (pv_em S) = some (some (.int u0), pv_em S) := pv_Rret dX6_mean_38 rfl
set_option maxHeartbeats 200000 in
theorem bX6_mean_39 {S : pv_S} {x1 x2 x3 : Int32} : pv_R mX6_mean 39 [some (.ref 0), some (.int x1), some (.int x2), some (.int x3)] [] (pv_em S) = pv_cc (pv_R mX3_sumOf 0 [some (.ref 1), some (.int x1), none, none, none] [] (pv_em S)) mX6_mean 51 [some (.ref 0), some (.int x1), some (.int x2), some (.int x3)] [.ref 35] := Eq.trans (pv_Rstp dX6_mean_39 rfl rfl rfl) (Eq.trans (pv_Rget dX6_mean_40 ffX6_45 (by decide) (pv_ce_0 _ _) rfl) (Eq.trans (pv_Rstp dX6_mean_43 rfl rfl rfl) (Eq.trans (pv_Rget dX6_mean_44 ffX6_14 (by decide) (pv_ce_0 _ _) rfl) (Eq.trans (pv_Rstp dX6_mean_47 rfl rfl rfl) (pv_Rcall (As := [.ref 1, .int x1]) (rest := [.ref 35]) dX6_mean_48 rfl mfX6_99 rfl rfl rfl rfl rfl)))))
set_option maxHeartbeats 200000 in
theorem bX6_mean_51 {S : pv_S} {x1 x2 x3 : Int32} {u0 : Int64} : pv_R mX6_mean 51 [some (.ref 0), some (.int x1), some (.int x2), some (.int x3)] [.long u0, .ref 35] (pv_em S) = if (Int32.toInt64 x3) = 0 then none else some (some (.int 1), pv_em (pv_si S 35 1 (Int64.toInt32 (u0 / (Int32.toInt64 x3))))) := Eq.trans (pv_Rstp dX6_mean_51 rfl rfl rfl) (Eq.trans (pv_Rstp dX6_mean_52 rfl rfl rfl) (Eq.trans (pv_Rldiv dX6_mean_53) (pv_iteN (fun h1 => Eq.trans (pv_Rstp dX6_mean_54 rfl rfl rfl) (Eq.trans (pv_Rput dX6_mean_55 ffX6_61 rfl rfl rfl (by decide) (pv_ce_35 _ _) (Nat.le_of_ble_eq_true rfl) (pv_em_si rfl)) (Eq.trans (pv_Ric dX6_mean_58 ki_1) (pv_Rret dX6_mean_59 rfl)))))))
theorem dX6_text_0 : decode cX6_text 0 = .ok (.aload_n 0, 1) := by decide +kernel
theorem dX6_text_1 : decode cX6_text 1 = .ok (.aload_n 0, 1) := by decide +kernel
theorem dX6_text_2 : decode cX6_text 2 = .ok (.getfield 18, 3) := by decide +kernel
theorem dX6_text_5 : decode cX6_text 5 = .ok (.iload_n 1, 1) := by decide +kernel
theorem dX6_text_6 : decode cX6_text 6 = .ok (.iload_n 2, 1) := by decide +kernel
theorem dX6_text_7 : decode cX6_text 7 = .ok (.bipush 32, 2) := by decide +kernel
theorem dX6_text_9 : decode cX6_text 9 = .ok (.invokevirtual 49, 3) := by decide +kernel
theorem dX6_text_12 : decode cX6_text 12 = .ok (.ireturn, 1) := by decide +kernel
set_option maxHeartbeats 200000 in
theorem bX6_text_0 {S : pv_S} {x1 x2 : Int32} : pv_R mX6_text 0 [some (.ref 0), some (.int x1), some (.int x2)] [] (pv_em S) = pv_cc (pv_R mX6_makeAnew 0 [some (.ref 0), some (.ref 10), some (.int x1), some (.int x2), some (.int 32)] [] (pv_em S)) mX6_text 12 [some (.ref 0), some (.int x1), some (.int x2)] [] := Eq.trans (pv_Rstp dX6_text_0 rfl rfl rfl) (Eq.trans (pv_Rstp dX6_text_1 rfl rfl rfl) (Eq.trans (pv_Rget dX6_text_2 ffX6_18 (by decide) (pv_ce_0 _ _) rfl) (Eq.trans (pv_Rstp dX6_text_5 rfl rfl rfl) (Eq.trans (pv_Rstp dX6_text_6 rfl rfl rfl) (Eq.trans (pv_Rbp dX6_text_7 kb_32) (pv_Rcall (As := [.ref 0, .ref 10, .int x1, .int x2, .int 32]) (rest := []) dX6_text_9 rfl mfX6_49 rfl rfl rfl rfl rfl))))))
set_option maxHeartbeats 200000 in
theorem bX6_text_12 {S : pv_S} {x1 x2 u0 : Int32} : pv_R mX6_text 12 [some (.ref 0), some (.int x1), some (.int x2)] [.int u0] (pv_em S) = some (some (.int u0), pv_em S) := pv_Rret dX6_text_12 rfl
theorem dX6_put_0 : decode cX6_put 0 = .ok (.aload_n 0, 1) := by decide +kernel
theorem dX6_put_1 : decode cX6_put 1 = .ok (.aload_n 0, 1) := by decide +kernel
theorem dX6_put_2 : decode cX6_put 2 = .ok (.getfield 18, 3) := by decide +kernel
theorem dX6_put_5 : decode cX6_put 5 = .ok (.iload_n 1, 1) := by decide +kernel
theorem dX6_put_6 : decode cX6_put 6 = .ok (.iload_n 2, 1) := by decide +kernel
theorem dX6_put_7 : decode cX6_put 7 = .ok (.invokevirtual 53, 3) := by decide +kernel
theorem dX6_put_10 : decode cX6_put 10 = .ok (.istore 4, 2) := by decide +kernel
theorem dX6_put_12 : decode cX6_put 12 = .ok (.iload 4, 2) := by decide +kernel
theorem dX6_put_14 : decode cX6_put 14 = .ok (.ifCond .eq 6, 3) := by decide +kernel
theorem dX6_put_17 : decode cX6_put 17 = .ok (.iload 4, 2) := by decide +kernel
theorem dX6_put_19 : decode cX6_put 19 = .ok (.ireturn, 1) := by decide +kernel
theorem dX6_put_20 : decode cX6_put 20 = .ok (.aload_n 0, 1) := by decide +kernel
theorem dX6_put_21 : decode cX6_put 21 = .ok (.getfield 18, 3) := by decide +kernel
theorem dX6_put_24 : decode cX6_put 24 = .ok (.iload_n 1, 1) := by decide +kernel
theorem dX6_put_25 : decode cX6_put 25 = .ok (.iload_n 2, 1) := by decide +kernel
theorem dX6_put_26 : decode cX6_put 26 = .ok (.invokevirtual 57, 3) := by decide +kernel
theorem dX6_put_29 : decode cX6_put 29 = .ok (.istore 5, 2) := by decide +kernel
theorem dX6_put_31 : decode cX6_put 31 = .ok (.aload_n 0, 1) := by decide +kernel
theorem dX6_put_32 : decode cX6_put 32 = .ok (.getfield 18, 3) := by decide +kernel
theorem dX6_put_35 : decode cX6_put 35 = .ok (.iload_n 1, 1) := by decide +kernel
theorem dX6_put_36 : decode cX6_put 36 = .ok (.iload_n 2, 1) := by decide +kernel
theorem dX6_put_37 : decode cX6_put 37 = .ok (.iload_n 3, 1) := by decide +kernel
theorem dX6_put_38 : decode cX6_put 38 = .ok (.i2b, 1) := by decide +kernel
theorem dX6_put_39 : decode cX6_put 39 = .ok (.invokevirtual 65, 3) := by decide +kernel
theorem dX6_put_42 : decode cX6_put 42 = .ok (.sipush 1000, 3) := by decide +kernel
theorem dX6_put_45 : decode cX6_put 45 = .ok (.iload 5, 2) := by decide +kernel
theorem dX6_put_47 : decode cX6_put 47 = .ok (.iadd, 1) := by decide +kernel
theorem dX6_put_48 : decode cX6_put 48 = .ok (.ireturn, 1) := by decide +kernel
set_option maxHeartbeats 200000 in
theorem bX6_put_0 {S : pv_S} {x1 x2 x3 : Int32} {a4 a5 : Option Value} : pv_R mX6_put 0 [some (.ref 0), some (.int x1), some (.int x2), some (.int x3), a4, a5] [] (pv_em S) = pv_cc (pv_R mX6_refusePlace 0 [some (.ref 0), some (.ref 10), some (.int x1), some (.int x2), none] [] (pv_em S)) mX6_put 10 [some (.ref 0), some (.int x1), some (.int x2), some (.int x3), a4, a5] [] := Eq.trans (pv_Rstp dX6_put_0 rfl rfl rfl) (Eq.trans (pv_Rstp dX6_put_1 rfl rfl rfl) (Eq.trans (pv_Rget dX6_put_2 ffX6_18 (by decide) (pv_ce_0 _ _) rfl) (Eq.trans (pv_Rstp dX6_put_5 rfl rfl rfl) (Eq.trans (pv_Rstp dX6_put_6 rfl rfl rfl) (pv_Rcall (As := [.ref 0, .ref 10, .int x1, .int x2]) (rest := []) dX6_put_7 rfl mfX6_53 rfl rfl rfl rfl rfl)))))
set_option maxHeartbeats 200000 in
theorem bX6_put_10 {S : pv_S} {x1 x2 x3 u0 : Int32} {a4 a5 : Option Value} : pv_R mX6_put 10 [some (.ref 0), some (.int x1), some (.int x2), some (.int x3), a4, a5] [.int u0] (pv_em S) = if u0 = 0 then pv_R mX6_put 20 [some (.ref 0), some (.int x1), some (.int x2), some (.int x3), some (.int u0), a5] [] (pv_em S) else pv_R mX6_put 17 [some (.ref 0), some (.int x1), some (.int x2), some (.int x3), some (.int u0), a5] [] (pv_em S) := Eq.trans (pv_Rstp dX6_put_10 rfl rfl rfl) (Eq.trans (pv_Rstp dX6_put_12 rfl rfl rfl) (pv_Rbr (tgt := 20) dX6_put_14 rfl rfl rfl rfl rfl (by decide)))
set_option maxHeartbeats 200000 in
theorem bX6_put_17 {S : pv_S} {x1 x2 x3 x4 : Int32} {a5 : Option Value} : pv_R mX6_put 17 [some (.ref 0), some (.int x1), some (.int x2), some (.int x3), some (.int x4), a5] [] (pv_em S) = some (some (.int x4), pv_em S) := Eq.trans (pv_Rstp dX6_put_17 rfl rfl rfl) (pv_Rret dX6_put_19 rfl)
set_option maxHeartbeats 200000 in
theorem bX6_put_20 {S : pv_S} {x1 x2 x3 x4 : Int32} {a5 : Option Value} : pv_R mX6_put 20 [some (.ref 0), some (.int x1), some (.int x2), some (.int x3), some (.int x4), a5] [] (pv_em S) = pv_cc (pv_R mX3_get 0 [some (.ref 10), some (.int x1), some (.int x2)] [] (pv_em S)) mX6_put 29 [some (.ref 0), some (.int x1), some (.int x2), some (.int x3), some (.int x4), a5] [] := Eq.trans (pv_Rstp dX6_put_20 rfl rfl rfl) (Eq.trans (pv_Rget dX6_put_21 ffX6_18 (by decide) (pv_ce_0 _ _) rfl) (Eq.trans (pv_Rstp dX6_put_24 rfl rfl rfl) (Eq.trans (pv_Rstp dX6_put_25 rfl rfl rfl) (pv_Rcall (As := [.ref 10, .int x1, .int x2]) (rest := []) dX6_put_26 rfl mfX6_57 rfl rfl rfl rfl rfl))))
set_option maxHeartbeats 200000 in
theorem bX6_put_29 {S : pv_S} {x1 x2 x3 x4 u0 : Int32} {a5 : Option Value} : pv_R mX6_put 29 [some (.ref 0), some (.int x1), some (.int x2), some (.int x3), some (.int x4), a5] [.int u0] (pv_em S) = pv_cc (pv_R mX3_set 0 [some (.ref 10), some (.int x1), some (.int x2), some (.int (Int8.toInt32 (Int32.toInt8 x3)))] [] (pv_em S)) mX6_put 42 [some (.ref 0), some (.int x1), some (.int x2), some (.int x3), some (.int x4), some (.int u0)] [] := Eq.trans (pv_Rstp dX6_put_29 rfl rfl rfl) (Eq.trans (pv_Rstp dX6_put_31 rfl rfl rfl) (Eq.trans (pv_Rget dX6_put_32 ffX6_18 (by decide) (pv_ce_0 _ _) rfl) (Eq.trans (pv_Rstp dX6_put_35 rfl rfl rfl) (Eq.trans (pv_Rstp dX6_put_36 rfl rfl rfl) (Eq.trans (pv_Rstp dX6_put_37 rfl rfl rfl) (Eq.trans (pv_Rstp dX6_put_38 rfl rfl rfl) (pv_Rcall (As := [.ref 10, .int x1, .int x2, .int (Int8.toInt32 (Int32.toInt8 x3))]) (rest := []) dX6_put_39 rfl mfX6_65 rfl rfl rfl rfl rfl)))))))
set_option maxHeartbeats 200000 in
theorem bX6_put_42 {S : pv_S} {x1 x2 x3 x4 x5 : Int32} : pv_R mX6_put 42 [some (.ref 0), some (.int x1), some (.int x2), some (.int x3), some (.int x4), some (.int x5)] [] (pv_em S) = some (some (.int (1000 + x5)), pv_em S) := Eq.trans (pv_Rsp dX6_put_42 ks_1000) (Eq.trans (pv_Rstp dX6_put_45 rfl rfl rfl) (Eq.trans (pv_Rstp dX6_put_47 rfl rfl rfl) (pv_Rret dX6_put_48 rfl)))
theorem dX6_fault_0 : decode cX6_fault 0 = .ok (.aload_n 0, 1) := by decide +kernel
theorem dX6_fault_1 : decode cX6_fault 1 = .ok (.aload_n 0, 1) := by decide +kernel
theorem dX6_fault_2 : decode cX6_fault 2 = .ok (.getfield 18, 3) := by decide +kernel
theorem dX6_fault_5 : decode cX6_fault 5 = .ok (.iload_n 1, 1) := by decide +kernel
theorem dX6_fault_6 : decode cX6_fault 6 = .ok (.invokevirtual 69, 3) := by decide +kernel
theorem dX6_fault_9 : decode cX6_fault 9 = .ok (.istore_n 2, 1) := by decide +kernel
theorem dX6_fault_10 : decode cX6_fault 10 = .ok (.iload_n 2, 1) := by decide +kernel
theorem dX6_fault_11 : decode cX6_fault 11 = .ok (.ifCond .eq 5, 3) := by decide +kernel
theorem dX6_fault_14 : decode cX6_fault 14 = .ok (.iload_n 2, 1) := by decide +kernel
theorem dX6_fault_15 : decode cX6_fault 15 = .ok (.ireturn, 1) := by decide +kernel
theorem dX6_fault_16 : decode cX6_fault 16 = .ok (.aload_n 0, 1) := by decide +kernel
theorem dX6_fault_17 : decode cX6_fault 17 = .ok (.getfield 24, 3) := by decide +kernel
theorem dX6_fault_20 : decode cX6_fault 20 = .ok (.aload_n 0, 1) := by decide +kernel
theorem dX6_fault_21 : decode cX6_fault 21 = .ok (.getfield 18, 3) := by decide +kernel
theorem dX6_fault_24 : decode cX6_fault 24 = .ok (.iload_n 1, 1) := by decide +kernel
theorem dX6_fault_25 : decode cX6_fault 25 = .ok (.invokevirtual 103, 3) := by decide +kernel
theorem dX6_fault_28 : decode cX6_fault 28 = .ok (.ireturn, 1) := by decide +kernel
set_option maxHeartbeats 200000 in
theorem bX6_fault_0 {S : pv_S} {x1 : Int32} {a2 : Option Value} : pv_R mX6_fault 0 [some (.ref 0), some (.int x1), a2] [] (pv_em S) = pv_cc (pv_R mX6_refuseMissing 0 [some (.ref 0), some (.ref 10), some (.int x1)] [] (pv_em S)) mX6_fault 9 [some (.ref 0), some (.int x1), a2] [] := Eq.trans (pv_Rstp dX6_fault_0 rfl rfl rfl) (Eq.trans (pv_Rstp dX6_fault_1 rfl rfl rfl) (Eq.trans (pv_Rget dX6_fault_2 ffX6_18 (by decide) (pv_ce_0 _ _) rfl) (Eq.trans (pv_Rstp dX6_fault_5 rfl rfl rfl) (pv_Rcall (As := [.ref 0, .ref 10, .int x1]) (rest := []) dX6_fault_6 rfl mfX6_69 rfl rfl rfl rfl rfl))))
set_option maxHeartbeats 200000 in
theorem bX6_fault_9 {S : pv_S} {x1 u0 : Int32} {a2 : Option Value} : pv_R mX6_fault 9 [some (.ref 0), some (.int x1), a2] [.int u0] (pv_em S) = if u0 = 0 then pv_R mX6_fault 16 [some (.ref 0), some (.int x1), some (.int u0)] [] (pv_em S) else pv_R mX6_fault 14 [some (.ref 0), some (.int x1), some (.int u0)] [] (pv_em S) := Eq.trans (pv_Rstp dX6_fault_9 rfl rfl rfl) (Eq.trans (pv_Rstp dX6_fault_10 rfl rfl rfl) (pv_Rbr (tgt := 16) dX6_fault_11 rfl rfl rfl rfl rfl (by decide)))
set_option maxHeartbeats 200000 in
theorem bX6_fault_14 {S : pv_S} {x1 x2 : Int32} : pv_R mX6_fault 14 [some (.ref 0), some (.int x1), some (.int x2)] [] (pv_em S) = some (some (.int x2), pv_em S) := Eq.trans (pv_Rstp dX6_fault_14 rfl rfl rfl) (pv_Rret dX6_fault_15 rfl)
set_option maxHeartbeats 200000 in
theorem bX6_fault_16 {S : pv_S} {x1 x2 : Int32} : pv_R mX6_fault 16 [some (.ref 0), some (.int x1), some (.int x2)] [] (pv_em S) = pv_cc (pv_R mX2_faultOf 0 [some (.ref 17), some (.ref 10), some (.int x1), none, none] [] (pv_em S)) mX6_fault 28 [some (.ref 0), some (.int x1), some (.int x2)] [] := Eq.trans (pv_Rstp dX6_fault_16 rfl rfl rfl) (Eq.trans (pv_Rget dX6_fault_17 ffX6_24 (by decide) (pv_ce_0 _ _) rfl) (Eq.trans (pv_Rstp dX6_fault_20 rfl rfl rfl) (Eq.trans (pv_Rget dX6_fault_21 ffX6_18 (by decide) (pv_ce_0 _ _) rfl) (Eq.trans (pv_Rstp dX6_fault_24 rfl rfl rfl) (pv_Rcall (As := [.ref 17, .ref 10, .int x1]) (rest := []) dX6_fault_25 rfl mfX6_103 rfl rfl rfl rfl rfl)))))
set_option maxHeartbeats 200000 in
theorem bX6_fault_28 {S : pv_S} {x1 x2 u0 : Int32} : pv_R mX6_fault 28 [some (.ref 0), some (.int x1), some (.int x2)] [.int u0] (pv_em S) = some (some (.int u0), pv_em S) := pv_Rret dX6_fault_28 rfl
theorem dX6_town_0 : decode cX6_town 0 = .ok (.aload_n 0, 1) := by decide +kernel
theorem dX6_town_1 : decode cX6_town 1 = .ok (.aload_n 0, 1) := by decide +kernel
theorem dX6_town_2 : decode cX6_town 2 = .ok (.getfield 18, 3) := by decide +kernel
theorem dX6_town_5 : decode cX6_town 5 = .ok (.iload_n 1, 1) := by decide +kernel
theorem dX6_town_6 : decode cX6_town 6 = .ok (.invokevirtual 69, 3) := by decide +kernel
theorem dX6_town_9 : decode cX6_town 9 = .ok (.istore_n 2, 1) := by decide +kernel
theorem dX6_town_10 : decode cX6_town 10 = .ok (.iload_n 2, 1) := by decide +kernel
theorem dX6_town_11 : decode cX6_town 11 = .ok (.ifCond .eq 5, 3) := by decide +kernel
theorem dX6_town_14 : decode cX6_town 14 = .ok (.iload_n 2, 1) := by decide +kernel
theorem dX6_town_15 : decode cX6_town 15 = .ok (.ireturn, 1) := by decide +kernel
theorem dX6_town_16 : decode cX6_town 16 = .ok (.aload_n 0, 1) := by decide +kernel
theorem dX6_town_17 : decode cX6_town 17 = .ok (.getfield 24, 3) := by decide +kernel
theorem dX6_town_20 : decode cX6_town 20 = .ok (.aload_n 0, 1) := by decide +kernel
theorem dX6_town_21 : decode cX6_town 21 = .ok (.getfield 18, 3) := by decide +kernel
theorem dX6_town_24 : decode cX6_town 24 = .ok (.iload_n 1, 1) := by decide +kernel
theorem dX6_town_25 : decode cX6_town 25 = .ok (.invokevirtual 103, 3) := by decide +kernel
theorem dX6_town_28 : decode cX6_town 28 = .ok (.bipush (-9), 2) := by decide +kernel
theorem dX6_town_30 : decode cX6_town 30 = .ok (.if_icmp .eq 6, 3) := by decide +kernel
theorem dX6_town_33 : decode cX6_town 33 = .ok (.bipush (-4), 2) := by decide +kernel
theorem dX6_town_35 : decode cX6_town 35 = .ok (.ireturn, 1) := by decide +kernel
theorem dX6_town_36 : decode cX6_town 36 = .ok (.aload_n 0, 1) := by decide +kernel
theorem dX6_town_37 : decode cX6_town 37 = .ok (.getfield 31, 3) := by decide +kernel
theorem dX6_town_40 : decode cX6_town 40 = .ok (.aload_n 0, 1) := by decide +kernel
theorem dX6_town_41 : decode cX6_town 41 = .ok (.getfield 24, 3) := by decide +kernel
theorem dX6_town_44 : decode cX6_town 44 = .ok (.invokevirtual 106, 3) := by decide +kernel
theorem dX6_town_47 : decode cX6_town 47 = .ok (.aload_n 0, 1) := by decide +kernel
theorem dX6_town_48 : decode cX6_town 48 = .ok (.getfield 31, 3) := by decide +kernel
theorem dX6_town_51 : decode cX6_town 51 = .ok (.getfield 110, 3) := by decide +kernel
theorem dX6_town_54 : decode cX6_town 54 = .ok (.ireturn, 1) := by decide +kernel
set_option maxHeartbeats 200000 in
theorem bX6_town_0 {S : pv_S} {x1 : Int32} {a2 : Option Value} : pv_R mX6_town 0 [some (.ref 0), some (.int x1), a2] [] (pv_em S) = pv_cc (pv_R mX6_refuseMissing 0 [some (.ref 0), some (.ref 10), some (.int x1)] [] (pv_em S)) mX6_town 9 [some (.ref 0), some (.int x1), a2] [] := Eq.trans (pv_Rstp dX6_town_0 rfl rfl rfl) (Eq.trans (pv_Rstp dX6_town_1 rfl rfl rfl) (Eq.trans (pv_Rget dX6_town_2 ffX6_18 (by decide) (pv_ce_0 _ _) rfl) (Eq.trans (pv_Rstp dX6_town_5 rfl rfl rfl) (pv_Rcall (As := [.ref 0, .ref 10, .int x1]) (rest := []) dX6_town_6 rfl mfX6_69 rfl rfl rfl rfl rfl))))
set_option maxHeartbeats 200000 in
theorem bX6_town_9 {S : pv_S} {x1 u0 : Int32} {a2 : Option Value} : pv_R mX6_town 9 [some (.ref 0), some (.int x1), a2] [.int u0] (pv_em S) = if u0 = 0 then pv_R mX6_town 16 [some (.ref 0), some (.int x1), some (.int u0)] [] (pv_em S) else pv_R mX6_town 14 [some (.ref 0), some (.int x1), some (.int u0)] [] (pv_em S) := Eq.trans (pv_Rstp dX6_town_9 rfl rfl rfl) (Eq.trans (pv_Rstp dX6_town_10 rfl rfl rfl) (pv_Rbr (tgt := 16) dX6_town_11 rfl rfl rfl rfl rfl (by decide)))
set_option maxHeartbeats 200000 in
theorem bX6_town_14 {S : pv_S} {x1 x2 : Int32} : pv_R mX6_town 14 [some (.ref 0), some (.int x1), some (.int x2)] [] (pv_em S) = some (some (.int x2), pv_em S) := Eq.trans (pv_Rstp dX6_town_14 rfl rfl rfl) (pv_Rret dX6_town_15 rfl)
set_option maxHeartbeats 200000 in
theorem bX6_town_16 {S : pv_S} {x1 x2 : Int32} : pv_R mX6_town 16 [some (.ref 0), some (.int x1), some (.int x2)] [] (pv_em S) = pv_cc (pv_R mX2_faultOf 0 [some (.ref 17), some (.ref 10), some (.int x1), none, none] [] (pv_em S)) mX6_town 28 [some (.ref 0), some (.int x1), some (.int x2)] [] := Eq.trans (pv_Rstp dX6_town_16 rfl rfl rfl) (Eq.trans (pv_Rget dX6_town_17 ffX6_24 (by decide) (pv_ce_0 _ _) rfl) (Eq.trans (pv_Rstp dX6_town_20 rfl rfl rfl) (Eq.trans (pv_Rget dX6_town_21 ffX6_18 (by decide) (pv_ce_0 _ _) rfl) (Eq.trans (pv_Rstp dX6_town_24 rfl rfl rfl) (pv_Rcall (As := [.ref 17, .ref 10, .int x1]) (rest := []) dX6_town_25 rfl mfX6_103 rfl rfl rfl rfl rfl)))))
set_option maxHeartbeats 200000 in
theorem bX6_town_28 {S : pv_S} {x1 x2 u0 : Int32} : pv_R mX6_town 28 [some (.ref 0), some (.int x1), some (.int x2)] [.int u0] (pv_em S) = if u0 = (-9) then pv_R mX6_town 36 [some (.ref 0), some (.int x1), some (.int x2)] [] (pv_em S) else pv_R mX6_town 33 [some (.ref 0), some (.int x1), some (.int x2)] [] (pv_em S) := Eq.trans (pv_Rbp dX6_town_28 kb_m9) (pv_Rbr (tgt := 36) dX6_town_30 rfl rfl rfl rfl rfl (by decide))
set_option maxHeartbeats 200000 in
theorem bX6_town_33 {S : pv_S} {x1 x2 : Int32} : pv_R mX6_town 33 [some (.ref 0), some (.int x1), some (.int x2)] [] (pv_em S) = some (some (.int (-4)), pv_em S) := Eq.trans (pv_Rbp dX6_town_33 kb_m4) (pv_Rret dX6_town_35 rfl)
set_option maxHeartbeats 200000 in
theorem bX6_town_36 {S : pv_S} {x1 x2 : Int32} : pv_R mX6_town 36 [some (.ref 0), some (.int x1), some (.int x2)] [] (pv_em S) = pv_cc (pv_R mX5_begin 0 [some (.ref 21), some (.ref 17), none] [] (pv_em S)) mX6_town 47 [some (.ref 0), some (.int x1), some (.int x2)] [] := Eq.trans (pv_Rstp dX6_town_36 rfl rfl rfl) (Eq.trans (pv_Rget dX6_town_37 ffX6_31 (by decide) (pv_ce_0 _ _) rfl) (Eq.trans (pv_Rstp dX6_town_40 rfl rfl rfl) (Eq.trans (pv_Rget dX6_town_41 ffX6_24 (by decide) (pv_ce_0 _ _) rfl) (pv_Rcall (As := [.ref 21, .ref 17]) (rest := []) dX6_town_44 rfl mfX6_106 rfl rfl rfl rfl rfl))))
set_option maxHeartbeats 200000 in
theorem bX6_town_47 {S : pv_S} {x1 x2 : Int32} : pv_R mX6_town 47 [some (.ref 0), some (.int x1), some (.int x2)] [] (pv_em S) = some (some (.int (S.1 21 7)), pv_em S) := Eq.trans (pv_Rstp dX6_town_47 rfl rfl rfl) (Eq.trans (pv_Rget dX6_town_48 ffX6_31 (by decide) (pv_ce_0 _ _) rfl) (Eq.trans (pv_Rget dX6_town_51 ffX6_110 (by decide) (pv_ce_21 _ _) rfl) (pv_Rret dX6_town_54 rfl)))
theorem dX6_cat_0 : decode cX6_cat 0 = .ok (.aload_n 0, 1) := by decide +kernel
theorem dX6_cat_1 : decode cX6_cat 1 = .ok (.getfield 31, 3) := by decide +kernel
theorem dX6_cat_4 : decode cX6_cat 4 = .ok (.iload_n 1, 1) := by decide +kernel
theorem dX6_cat_5 : decode cX6_cat 5 = .ok (.invokevirtual 113, 3) := by decide +kernel
theorem dX6_cat_8 : decode cX6_cat 8 = .ok (.ifCond .eq 12, 3) := by decide +kernel
theorem dX6_cat_11 : decode cX6_cat 11 = .ok (.iload_n 2, 1) := by decide +kernel
theorem dX6_cat_12 : decode cX6_cat 12 = .ok (.iconst 0, 1) := by decide +kernel
theorem dX6_cat_13 : decode cX6_cat 13 = .ok (.iconst 4, 1) := by decide +kernel
theorem dX6_cat_14 : decode cX6_cat 14 = .ok (.invokestatic 116, 3) := by decide +kernel
theorem dX6_cat_17 : decode cX6_cat 17 = .ok (.ifCond .ne 5, 3) := by decide +kernel
theorem dX6_cat_20 : decode cX6_cat 20 = .ok (.iconst (-1), 1) := by decide +kernel
theorem dX6_cat_21 : decode cX6_cat 21 = .ok (.ireturn, 1) := by decide +kernel
theorem dX6_cat_22 : decode cX6_cat 22 = .ok (.aload_n 0, 1) := by decide +kernel
theorem dX6_cat_23 : decode cX6_cat 23 = .ok (.getfield 45, 3) := by decide +kernel
theorem dX6_cat_26 : decode cX6_cat 26 = .ok (.aload_n 0, 1) := by decide +kernel
theorem dX6_cat_27 : decode cX6_cat 27 = .ok (.getfield 31, 3) := by decide +kernel
theorem dX6_cat_30 : decode cX6_cat 30 = .ok (.iload_n 1, 1) := by decide +kernel
theorem dX6_cat_31 : decode cX6_cat 31 = .ok (.iload_n 2, 1) := by decide +kernel
theorem dX6_cat_32 : decode cX6_cat 32 = .ok (.invokevirtual 119, 3) := by decide +kernel
theorem dX6_cat_35 : decode cX6_cat 35 = .ok (.putfield 61, 3) := by decide +kernel
theorem dX6_cat_38 : decode cX6_cat 38 = .ok (.iconst 1, 1) := by decide +kernel
theorem dX6_cat_39 : decode cX6_cat 39 = .ok (.ireturn, 1) := by decide +kernel
set_option maxHeartbeats 200000 in
theorem bX6_cat_0 {S : pv_S} {x1 x2 : Int32} : pv_R mX6_cat 0 [some (.ref 0), some (.int x1), some (.int x2)] [] (pv_em S) = pv_cc (pv_R mX5_isCat 0 [some (.ref 21), some (.int x1)] [] (pv_em S)) mX6_cat 8 [some (.ref 0), some (.int x1), some (.int x2)] [] := Eq.trans (pv_Rstp dX6_cat_0 rfl rfl rfl) (Eq.trans (pv_Rget dX6_cat_1 ffX6_31 (by decide) (pv_ce_0 _ _) rfl) (Eq.trans (pv_Rstp dX6_cat_4 rfl rfl rfl) (pv_Rcall (As := [.ref 21, .int x1]) (rest := []) dX6_cat_5 rfl mfX6_113 rfl rfl rfl rfl rfl)))
set_option maxHeartbeats 200000 in
theorem bX6_cat_8 {S : pv_S} {x1 x2 u0 : Int32} : pv_R mX6_cat 8 [some (.ref 0), some (.int x1), some (.int x2)] [.int u0] (pv_em S) = if u0 = 0 then pv_R mX6_cat 20 [some (.ref 0), some (.int x1), some (.int x2)] [] (pv_em S) else pv_R mX6_cat 11 [some (.ref 0), some (.int x1), some (.int x2)] [] (pv_em S) := pv_Rbr (tgt := 20) dX6_cat_8 rfl rfl rfl rfl rfl (by decide)
set_option maxHeartbeats 200000 in
theorem bX6_cat_11 {S : pv_S} {x1 x2 : Int32} : pv_R mX6_cat 11 [some (.ref 0), some (.int x1), some (.int x2)] [] (pv_em S) = pv_cc (pv_R mX6_isWithin 0 [some (.int x2), some (.int 0), some (.int 4)] [] (pv_em S)) mX6_cat 17 [some (.ref 0), some (.int x1), some (.int x2)] [] := Eq.trans (pv_Rstp dX6_cat_11 rfl rfl rfl) (Eq.trans (pv_Ric dX6_cat_12 ki_0) (Eq.trans (pv_Ric dX6_cat_13 ki_4) (pv_Rcall (As := [.int x2, .int 0, .int 4]) (rest := []) dX6_cat_14 rfl mfX6_116 rfl rfl rfl rfl rfl)))
set_option maxHeartbeats 200000 in
theorem bX6_cat_17 {S : pv_S} {x1 x2 u0 : Int32} : pv_R mX6_cat 17 [some (.ref 0), some (.int x1), some (.int x2)] [.int u0] (pv_em S) = if ¬ u0 = 0 then pv_R mX6_cat 22 [some (.ref 0), some (.int x1), some (.int x2)] [] (pv_em S) else pv_R mX6_cat 20 [some (.ref 0), some (.int x1), some (.int x2)] [] (pv_em S) := pv_Rbr (tgt := 22) dX6_cat_17 rfl rfl rfl rfl rfl (by decide)
set_option maxHeartbeats 200000 in
theorem bX6_cat_20 {S : pv_S} {x1 x2 : Int32} : pv_R mX6_cat 20 [some (.ref 0), some (.int x1), some (.int x2)] [] (pv_em S) = some (some (.int (-1)), pv_em S) := Eq.trans (pv_Ric dX6_cat_20 ki_m1) (pv_Rret dX6_cat_21 rfl)
set_option maxHeartbeats 200000 in
theorem bX6_cat_22 {S : pv_S} {x1 x2 : Int32} : pv_R mX6_cat 22 [some (.ref 0), some (.int x1), some (.int x2)] [] (pv_em S) = pv_cc (pv_R mX5_trait 0 [some (.ref 21), some (.int x1), some (.int x2)] [] (pv_em S)) mX6_cat 35 [some (.ref 0), some (.int x1), some (.int x2)] [.ref 35] := Eq.trans (pv_Rstp dX6_cat_22 rfl rfl rfl) (Eq.trans (pv_Rget dX6_cat_23 ffX6_45 (by decide) (pv_ce_0 _ _) rfl) (Eq.trans (pv_Rstp dX6_cat_26 rfl rfl rfl) (Eq.trans (pv_Rget dX6_cat_27 ffX6_31 (by decide) (pv_ce_0 _ _) rfl) (Eq.trans (pv_Rstp dX6_cat_30 rfl rfl rfl) (Eq.trans (pv_Rstp dX6_cat_31 rfl rfl rfl) (pv_Rcall (As := [.ref 21, .int x1, .int x2]) (rest := [.ref 35]) dX6_cat_32 rfl mfX6_119 rfl rfl rfl rfl rfl))))))
set_option maxHeartbeats 200000 in
theorem bX6_cat_35 {S : pv_S} {x1 x2 u0 : Int32} : pv_R mX6_cat 35 [some (.ref 0), some (.int x1), some (.int x2)] [.int u0, .ref 35] (pv_em S) = some (some (.int 1), pv_em (pv_si S 35 1 u0)) := Eq.trans (pv_Rput dX6_cat_35 ffX6_61 rfl rfl rfl (by decide) (pv_ce_35 _ _) (Nat.le_of_ble_eq_true rfl) (pv_em_si rfl)) (Eq.trans (pv_Ric dX6_cat_38 ki_1) (pv_Rret dX6_cat_39 rfl))
theorem dX6_mark_0 : decode cX6_mark 0 = .ok (.aload_n 0, 1) := by decide +kernel
theorem dX6_mark_1 : decode cX6_mark 1 = .ok (.getfield 31, 3) := by decide +kernel
theorem dX6_mark_4 : decode cX6_mark 4 = .ok (.iload_n 1, 1) := by decide +kernel
theorem dX6_mark_5 : decode cX6_mark 5 = .ok (.invokevirtual 113, 3) := by decide +kernel
theorem dX6_mark_8 : decode cX6_mark 8 = .ok (.ifCond .eq 12, 3) := by decide +kernel
theorem dX6_mark_11 : decode cX6_mark 11 = .ok (.iload_n 2, 1) := by decide +kernel
theorem dX6_mark_12 : decode cX6_mark 12 = .ok (.iconst 1, 1) := by decide +kernel
theorem dX6_mark_13 : decode cX6_mark 13 = .ok (.iconst 5, 1) := by decide +kernel
theorem dX6_mark_14 : decode cX6_mark 14 = .ok (.invokestatic 116, 3) := by decide +kernel
theorem dX6_mark_17 : decode cX6_mark 17 = .ok (.ifCond .ne 5, 3) := by decide +kernel
theorem dX6_mark_20 : decode cX6_mark 20 = .ok (.iconst (-1), 1) := by decide +kernel
theorem dX6_mark_21 : decode cX6_mark 21 = .ok (.ireturn, 1) := by decide +kernel
theorem dX6_mark_22 : decode cX6_mark 22 = .ok (.aload_n 0, 1) := by decide +kernel
theorem dX6_mark_23 : decode cX6_mark 23 = .ok (.getfield 31, 3) := by decide +kernel
theorem dX6_mark_26 : decode cX6_mark 26 = .ok (.getfield 122, 3) := by decide +kernel
theorem dX6_mark_29 : decode cX6_mark 29 = .ok (.iload_n 1, 1) := by decide +kernel
theorem dX6_mark_30 : decode cX6_mark 30 = .ok (.iaload, 1) := by decide +kernel
theorem dX6_mark_31 : decode cX6_mark 31 = .ok (.iload_n 2, 1) := by decide +kernel
theorem dX6_mark_32 : decode cX6_mark 32 = .ok (.invokestatic 126, 3) := by decide +kernel
theorem dX6_mark_35 : decode cX6_mark 35 = .ok (.ifCond .ne 12, 3) := by decide +kernel
theorem dX6_mark_38 : decode cX6_mark 38 = .ok (.aload_n 0, 1) := by decide +kernel
theorem dX6_mark_39 : decode cX6_mark 39 = .ok (.getfield 45, 3) := by decide +kernel
theorem dX6_mark_42 : decode cX6_mark 42 = .ok (.iconst 3, 1) := by decide +kernel
theorem dX6_mark_43 : decode cX6_mark 43 = .ok (.invokevirtual 81, 3) := by decide +kernel
theorem dX6_mark_46 : decode cX6_mark 46 = .ok (.ireturn, 1) := by decide +kernel
theorem dX6_mark_47 : decode cX6_mark 47 = .ok (.iload_n 2, 1) := by decide +kernel
theorem dX6_mark_48 : decode cX6_mark 48 = .ok (.tableswitch 104 1 4 #[32, 51, 62, 81], 32) := by decide +kernel
theorem dX6_mark_80 : decode cX6_mark 80 = .ok (.aload_n 0, 1) := by decide +kernel
theorem dX6_mark_81 : decode cX6_mark 81 = .ok (.getfield 31, 3) := by decide +kernel
theorem dX6_mark_84 : decode cX6_mark 84 = .ok (.getfield 132, 3) := by decide +kernel
theorem dX6_mark_87 : decode cX6_mark 87 = .ok (.invokestatic 135, 3) := by decide +kernel
theorem dX6_mark_90 : decode cX6_mark 90 = .ok (.ifCond .eq 7, 3) := by decide +kernel
theorem dX6_mark_93 : decode cX6_mark 93 = .ok (.iconst 0, 1) := by decide +kernel
theorem dX6_mark_94 : decode cX6_mark 94 = .ok (.goto 4, 3) := by decide +kernel
theorem dX6_mark_97 : decode cX6_mark 97 = .ok (.iconst 1, 1) := by decide +kernel
theorem dX6_mark_98 : decode cX6_mark 98 = .ok (.ireturn, 1) := by decide +kernel
theorem dX6_mark_99 : decode cX6_mark 99 = .ok (.aload_n 0, 1) := by decide +kernel
theorem dX6_mark_100 : decode cX6_mark 100 = .ok (.getfield 31, 3) := by decide +kernel
theorem dX6_mark_103 : decode cX6_mark 103 = .ok (.getfield 132, 3) := by decide +kernel
theorem dX6_mark_106 : decode cX6_mark 106 = .ok (.invokestatic 138, 3) := by decide +kernel
theorem dX6_mark_109 : decode cX6_mark 109 = .ok (.ireturn, 1) := by decide +kernel
theorem dX6_mark_110 : decode cX6_mark 110 = .ok (.aload_n 0, 1) := by decide +kernel
theorem dX6_mark_111 : decode cX6_mark 111 = .ok (.getfield 31, 3) := by decide +kernel
theorem dX6_mark_114 : decode cX6_mark 114 = .ok (.getfield 141, 3) := by decide +kernel
theorem dX6_mark_117 : decode cX6_mark 117 = .ok (.iload_n 1, 1) := by decide +kernel
theorem dX6_mark_118 : decode cX6_mark 118 = .ok (.iaload, 1) := by decide +kernel
theorem dX6_mark_119 : decode cX6_mark 119 = .ok (.aload_n 0, 1) := by decide +kernel
theorem dX6_mark_120 : decode cX6_mark 120 = .ok (.getfield 31, 3) := by decide +kernel
theorem dX6_mark_123 : decode cX6_mark 123 = .ok (.iload_n 1, 1) := by decide +kernel
theorem dX6_mark_124 : decode cX6_mark 124 = .ok (.invokevirtual 144, 3) := by decide +kernel
theorem dX6_mark_127 : decode cX6_mark 127 = .ok (.isub, 1) := by decide +kernel
theorem dX6_mark_128 : decode cX6_mark 128 = .ok (.ireturn, 1) := by decide +kernel
theorem dX6_mark_129 : decode cX6_mark 129 = .ok (.aload_n 0, 1) := by decide +kernel
theorem dX6_mark_130 : decode cX6_mark 130 = .ok (.getfield 31, 3) := by decide +kernel
theorem dX6_mark_133 : decode cX6_mark 133 = .ok (.iload_n 1, 1) := by decide +kernel
theorem dX6_mark_134 : decode cX6_mark 134 = .ok (.invokevirtual 144, 3) := by decide +kernel
theorem dX6_mark_137 : decode cX6_mark 137 = .ok (.iconst 1, 1) := by decide +kernel
theorem dX6_mark_138 : decode cX6_mark 138 = .ok (.aload_n 0, 1) := by decide +kernel
theorem dX6_mark_139 : decode cX6_mark 139 = .ok (.getfield 31, 3) := by decide +kernel
theorem dX6_mark_142 : decode cX6_mark 142 = .ok (.getfield 141, 3) := by decide +kernel
theorem dX6_mark_145 : decode cX6_mark 145 = .ok (.iload_n 1, 1) := by decide +kernel
theorem dX6_mark_146 : decode cX6_mark 146 = .ok (.iaload, 1) := by decide +kernel
theorem dX6_mark_147 : decode cX6_mark 147 = .ok (.invokestatic 147, 3) := by decide +kernel
theorem dX6_mark_150 : decode cX6_mark 150 = .ok (.isub, 1) := by decide +kernel
theorem dX6_mark_151 : decode cX6_mark 151 = .ok (.ireturn, 1) := by decide +kernel
theorem dX6_mark_152 : decode cX6_mark 152 = .ok (.aload_n 0, 1) := by decide +kernel
theorem dX6_mark_153 : decode cX6_mark 153 = .ok (.getfield 31, 3) := by decide +kernel
theorem dX6_mark_156 : decode cX6_mark 156 = .ok (.iconst 3, 1) := by decide +kernel
theorem dX6_mark_157 : decode cX6_mark 157 = .ok (.invokevirtual 149, 3) := by decide +kernel
theorem dX6_mark_160 : decode cX6_mark 160 = .ok (.iconst 1, 1) := by decide +kernel
theorem dX6_mark_161 : decode cX6_mark 161 = .ok (.isub, 1) := by decide +kernel
theorem dX6_mark_162 : decode cX6_mark 162 = .ok (.ireturn, 1) := by decide +kernel
set_option maxHeartbeats 200000 in
theorem bX6_mark_0 {S : pv_S} {x1 x2 : Int32} : pv_R mX6_mark 0 [some (.ref 0), some (.int x1), some (.int x2)] [] (pv_em S) = pv_cc (pv_R mX5_isCat 0 [some (.ref 21), some (.int x1)] [] (pv_em S)) mX6_mark 8 [some (.ref 0), some (.int x1), some (.int x2)] [] := Eq.trans (pv_Rstp dX6_mark_0 rfl rfl rfl) (Eq.trans (pv_Rget dX6_mark_1 ffX6_31 (by decide) (pv_ce_0 _ _) rfl) (Eq.trans (pv_Rstp dX6_mark_4 rfl rfl rfl) (pv_Rcall (As := [.ref 21, .int x1]) (rest := []) dX6_mark_5 rfl mfX6_113 rfl rfl rfl rfl rfl)))
set_option maxHeartbeats 200000 in
theorem bX6_mark_8 {S : pv_S} {x1 x2 u0 : Int32} : pv_R mX6_mark 8 [some (.ref 0), some (.int x1), some (.int x2)] [.int u0] (pv_em S) = if u0 = 0 then pv_R mX6_mark 20 [some (.ref 0), some (.int x1), some (.int x2)] [] (pv_em S) else pv_R mX6_mark 11 [some (.ref 0), some (.int x1), some (.int x2)] [] (pv_em S) := pv_Rbr (tgt := 20) dX6_mark_8 rfl rfl rfl rfl rfl (by decide)
set_option maxHeartbeats 200000 in
theorem bX6_mark_11 {S : pv_S} {x1 x2 : Int32} : pv_R mX6_mark 11 [some (.ref 0), some (.int x1), some (.int x2)] [] (pv_em S) = pv_cc (pv_R mX6_isWithin 0 [some (.int x2), some (.int 1), some (.int 5)] [] (pv_em S)) mX6_mark 17 [some (.ref 0), some (.int x1), some (.int x2)] [] := Eq.trans (pv_Rstp dX6_mark_11 rfl rfl rfl) (Eq.trans (pv_Ric dX6_mark_12 ki_1) (Eq.trans (pv_Ric dX6_mark_13 ki_5) (pv_Rcall (As := [.int x2, .int 1, .int 5]) (rest := []) dX6_mark_14 rfl mfX6_116 rfl rfl rfl rfl rfl)))
set_option maxHeartbeats 200000 in
theorem bX6_mark_17 {S : pv_S} {x1 x2 u0 : Int32} : pv_R mX6_mark 17 [some (.ref 0), some (.int x1), some (.int x2)] [.int u0] (pv_em S) = if ¬ u0 = 0 then pv_R mX6_mark 22 [some (.ref 0), some (.int x1), some (.int x2)] [] (pv_em S) else pv_R mX6_mark 20 [some (.ref 0), some (.int x1), some (.int x2)] [] (pv_em S) := pv_Rbr (tgt := 22) dX6_mark_17 rfl rfl rfl rfl rfl (by decide)
set_option maxHeartbeats 200000 in
theorem bX6_mark_20 {S : pv_S} {x1 x2 : Int32} : pv_R mX6_mark 20 [some (.ref 0), some (.int x1), some (.int x2)] [] (pv_em S) = some (some (.int (-1)), pv_em S) := Eq.trans (pv_Ric dX6_mark_20 ki_m1) (pv_Rret dX6_mark_21 rfl)
set_option maxHeartbeats 200000 in
theorem bX6_mark_22 {S : pv_S} {x1 x2 : Int32} : pv_R mX6_mark 22 [some (.ref 0), some (.int x1), some (.int x2)] [] (pv_em S) = if x1 < 0 ∨ 6 ≤ x1.toNatClampNeg then none else pv_cc (pv_R mX0_isOf 0 [some (.int (S.1 22 x1.toNatClampNeg)), some (.int x2)] [] (pv_em S)) mX6_mark 35 [some (.ref 0), some (.int x1), some (.int x2)] [] := Eq.trans (pv_Rstp dX6_mark_22 rfl rfl rfl) (Eq.trans (pv_Rget dX6_mark_23 ffX6_31 (by decide) (pv_ce_0 _ _) rfl) (Eq.trans (pv_Rget dX6_mark_26 ffX6_122 (by decide) (pv_ce_21 _ _) rfl) (Eq.trans (pv_Rstp dX6_mark_29 rfl rfl rfl) (Eq.trans (pv_Rald dX6_mark_30 (by decide) (pv_ce_22 _ _)) (pv_iteN (fun h1 => Eq.trans (pv_Rstp dX6_mark_31 rfl rfl rfl) (pv_Rcall (As := [.int (S.1 22 x1.toNatClampNeg), .int x2]) (rest := []) dX6_mark_32 rfl mfX6_126 rfl rfl rfl rfl rfl)))))))
set_option maxHeartbeats 200000 in
theorem bX6_mark_35 {S : pv_S} {x1 x2 u0 : Int32} : pv_R mX6_mark 35 [some (.ref 0), some (.int x1), some (.int x2)] [.int u0] (pv_em S) = if ¬ u0 = 0 then pv_R mX6_mark 47 [some (.ref 0), some (.int x1), some (.int x2)] [] (pv_em S) else pv_R mX6_mark 38 [some (.ref 0), some (.int x1), some (.int x2)] [] (pv_em S) := pv_Rbr (tgt := 47) dX6_mark_35 rfl rfl rfl rfl rfl (by decide)
set_option maxHeartbeats 200000 in
theorem bX6_mark_38 {S : pv_S} {x1 x2 : Int32} : pv_R mX6_mark 38 [some (.ref 0), some (.int x1), some (.int x2)] [] (pv_em S) = pv_cc (pv_R mX4_answerFinding 0 [some (.ref 35), some (.int 3)] [] (pv_em S)) mX6_mark 46 [some (.ref 0), some (.int x1), some (.int x2)] [] := Eq.trans (pv_Rstp dX6_mark_38 rfl rfl rfl) (Eq.trans (pv_Rget dX6_mark_39 ffX6_45 (by decide) (pv_ce_0 _ _) rfl) (Eq.trans (pv_Ric dX6_mark_42 ki_3) (pv_Rcall (As := [.ref 35, .int 3]) (rest := []) dX6_mark_43 rfl mfX6_81 rfl rfl rfl rfl rfl)))
set_option maxHeartbeats 200000 in
theorem bX6_mark_46 {S : pv_S} {x1 x2 u0 : Int32} : pv_R mX6_mark 46 [some (.ref 0), some (.int x1), some (.int x2)] [.int u0] (pv_em S) = some (some (.int u0), pv_em S) := pv_Rret dX6_mark_46 rfl
set_option maxHeartbeats 200000 in
theorem bX6_mark_47 {S : pv_S} {x1 x2 : Int32} : pv_R mX6_mark 47 [some (.ref 0), some (.int x1), some (.int x2)] [] (pv_em S) = pv_R mX6_mark (pv_swt (Int32.toInt x2) 1 [80, 99, 110, 129] 152) [some (.ref 0), some (.int x1), some (.int x2)] [] (pv_em S) := Eq.trans (pv_Rstp dX6_mark_47 rfl rfl rfl) (pv_Rtab (lo := 1) (tg := [80, 99, 110, 129]) (dt := 152) dX6_mark_48 (by decide))
set_option maxHeartbeats 200000 in
theorem bX6_mark_80 {S : pv_S} {x1 x2 : Int32} : pv_R mX6_mark 80 [some (.ref 0), some (.int x1), some (.int x2)] [] (pv_em S) = pv_cc (pv_R mX0_hasMice 0 [some (.int (S.1 21 9))] [] (pv_em S)) mX6_mark 90 [some (.ref 0), some (.int x1), some (.int x2)] [] := Eq.trans (pv_Rstp dX6_mark_80 rfl rfl rfl) (Eq.trans (pv_Rget dX6_mark_81 ffX6_31 (by decide) (pv_ce_0 _ _) rfl) (Eq.trans (pv_Rget dX6_mark_84 ffX6_132 (by decide) (pv_ce_21 _ _) rfl) (pv_Rcall (As := [.int (S.1 21 9)]) (rest := []) dX6_mark_87 rfl mfX6_135 rfl rfl rfl rfl rfl)))
set_option maxHeartbeats 200000 in
theorem bX6_mark_90 {S : pv_S} {x1 x2 u0 : Int32} : pv_R mX6_mark 90 [some (.ref 0), some (.int x1), some (.int x2)] [.int u0] (pv_em S) = if u0 = 0 then pv_R mX6_mark 97 [some (.ref 0), some (.int x1), some (.int x2)] [] (pv_em S) else pv_R mX6_mark 93 [some (.ref 0), some (.int x1), some (.int x2)] [] (pv_em S) := pv_Rbr (tgt := 97) dX6_mark_90 rfl rfl rfl rfl rfl (by decide)
set_option maxHeartbeats 200000 in
theorem bX6_mark_93 {S : pv_S} {x1 x2 : Int32} : pv_R mX6_mark 93 [some (.ref 0), some (.int x1), some (.int x2)] [] (pv_em S) = pv_R mX6_mark 98 [some (.ref 0), some (.int x1), some (.int x2)] [.int 0] (pv_em S) := Eq.trans (pv_Ric dX6_mark_93 ki_0) (pv_Rgo (tgt := 98) dX6_mark_94 rfl (by decide))
set_option maxHeartbeats 200000 in
theorem bX6_mark_97 {S : pv_S} {x1 x2 : Int32} : pv_R mX6_mark 97 [some (.ref 0), some (.int x1), some (.int x2)] [] (pv_em S) = pv_R mX6_mark 98 [some (.ref 0), some (.int x1), some (.int x2)] [.int 1] (pv_em S) := pv_Ric dX6_mark_97 ki_1
set_option maxHeartbeats 200000 in
theorem bX6_mark_98 {S : pv_S} {x1 x2 u0 : Int32} : pv_R mX6_mark 98 [some (.ref 0), some (.int x1), some (.int x2)] [.int u0] (pv_em S) = some (some (.int u0), pv_em S) := pv_Rret dX6_mark_98 rfl
set_option maxHeartbeats 200000 in
theorem bX6_mark_99 {S : pv_S} {x1 x2 : Int32} : pv_R mX6_mark 99 [some (.ref 0), some (.int x1), some (.int x2)] [] (pv_em S) = pv_cc (pv_R mX0_hoursToMoult 0 [some (.int (S.1 21 9))] [] (pv_em S)) mX6_mark 109 [some (.ref 0), some (.int x1), some (.int x2)] [] := Eq.trans (pv_Rstp dX6_mark_99 rfl rfl rfl) (Eq.trans (pv_Rget dX6_mark_100 ffX6_31 (by decide) (pv_ce_0 _ _) rfl) (Eq.trans (pv_Rget dX6_mark_103 ffX6_132 (by decide) (pv_ce_21 _ _) rfl) (pv_Rcall (As := [.int (S.1 21 9)]) (rest := []) dX6_mark_106 rfl mfX6_138 rfl rfl rfl rfl rfl)))
set_option maxHeartbeats 200000 in
theorem bX6_mark_109 {S : pv_S} {x1 x2 u0 : Int32} : pv_R mX6_mark 109 [some (.ref 0), some (.int x1), some (.int x2)] [.int u0] (pv_em S) = some (some (.int u0), pv_em S) := pv_Rret dX6_mark_109 rfl
set_option maxHeartbeats 200000 in
theorem bX6_mark_110 {S : pv_S} {x1 x2 : Int32} : pv_R mX6_mark 110 [some (.ref 0), some (.int x1), some (.int x2)] [] (pv_em S) = if x1 < 0 ∨ 6 ≤ x1.toNatClampNeg then none else pv_cc (pv_R mX5_mealAdds 0 [some (.ref 21), some (.int x1)] [] (pv_em S)) mX6_mark 127 [some (.ref 0), some (.int x1), some (.int x2)] [.int (S.1 23 x1.toNatClampNeg)] := Eq.trans (pv_Rstp dX6_mark_110 rfl rfl rfl) (Eq.trans (pv_Rget dX6_mark_111 ffX6_31 (by decide) (pv_ce_0 _ _) rfl) (Eq.trans (pv_Rget dX6_mark_114 ffX6_141 (by decide) (pv_ce_21 _ _) rfl) (Eq.trans (pv_Rstp dX6_mark_117 rfl rfl rfl) (Eq.trans (pv_Rald dX6_mark_118 (by decide) (pv_ce_23 _ _)) (pv_iteN (fun h1 => Eq.trans (pv_Rstp dX6_mark_119 rfl rfl rfl) (Eq.trans (pv_Rget dX6_mark_120 ffX6_31 (by decide) (pv_ce_0 _ _) rfl) (Eq.trans (pv_Rstp dX6_mark_123 rfl rfl rfl) (pv_Rcall (As := [.ref 21, .int x1]) (rest := [.int (S.1 23 x1.toNatClampNeg)]) dX6_mark_124 rfl mfX6_144 rfl rfl rfl rfl rfl)))))))))
set_option maxHeartbeats 200000 in
theorem bX6_mark_127 {S : pv_S} {x1 x2 u0 u1 : Int32} : pv_R mX6_mark 127 [some (.ref 0), some (.int x1), some (.int x2)] [.int u0, .int u1] (pv_em S) = some (some (.int (u1 - u0)), pv_em S) := Eq.trans (pv_Rstp dX6_mark_127 rfl rfl rfl) (pv_Rret dX6_mark_128 rfl)
set_option maxHeartbeats 200000 in
theorem bX6_mark_129 {S : pv_S} {x1 x2 : Int32} : pv_R mX6_mark 129 [some (.ref 0), some (.int x1), some (.int x2)] [] (pv_em S) = pv_cc (pv_R mX5_mealAdds 0 [some (.ref 21), some (.int x1)] [] (pv_em S)) mX6_mark 137 [some (.ref 0), some (.int x1), some (.int x2)] [] := Eq.trans (pv_Rstp dX6_mark_129 rfl rfl rfl) (Eq.trans (pv_Rget dX6_mark_130 ffX6_31 (by decide) (pv_ce_0 _ _) rfl) (Eq.trans (pv_Rstp dX6_mark_133 rfl rfl rfl) (pv_Rcall (As := [.ref 21, .int x1]) (rest := []) dX6_mark_134 rfl mfX6_144 rfl rfl rfl rfl rfl)))
set_option maxHeartbeats 200000 in
theorem bX6_mark_137 {S : pv_S} {x1 x2 u0 : Int32} : pv_R mX6_mark 137 [some (.ref 0), some (.int x1), some (.int x2)] [.int u0] (pv_em S) = if x1 < 0 ∨ 6 ≤ x1.toNatClampNeg then none else pv_cc (pv_R mX0_mealAdds 0 [some (.int 1), some (.int (S.1 23 x1.toNatClampNeg))] [] (pv_em S)) mX6_mark 150 [some (.ref 0), some (.int x1), some (.int x2)] [.int u0] := Eq.trans (pv_Ric dX6_mark_137 ki_1) (Eq.trans (pv_Rstp dX6_mark_138 rfl rfl rfl) (Eq.trans (pv_Rget dX6_mark_139 ffX6_31 (by decide) (pv_ce_0 _ _) rfl) (Eq.trans (pv_Rget dX6_mark_142 ffX6_141 (by decide) (pv_ce_21 _ _) rfl) (Eq.trans (pv_Rstp dX6_mark_145 rfl rfl rfl) (Eq.trans (pv_Rald dX6_mark_146 (by decide) (pv_ce_23 _ _)) (pv_iteN (fun h1 => pv_Rcall (As := [.int 1, .int (S.1 23 x1.toNatClampNeg)]) (rest := [.int u0]) dX6_mark_147 rfl mfX6_147 rfl rfl rfl rfl rfl)))))))
set_option maxHeartbeats 200000 in
theorem bX6_mark_150 {S : pv_S} {x1 x2 u0 u1 : Int32} : pv_R mX6_mark 150 [some (.ref 0), some (.int x1), some (.int x2)] [.int u0, .int u1] (pv_em S) = some (some (.int (u1 - u0)), pv_em S) := Eq.trans (pv_Rstp dX6_mark_150 rfl rfl rfl) (pv_Rret dX6_mark_151 rfl)
set_option maxHeartbeats 200000 in
theorem bX6_mark_152 {S : pv_S} {x1 x2 : Int32} : pv_R mX6_mark 152 [some (.ref 0), some (.int x1), some (.int x2)] [] (pv_em S) = pv_cc (pv_R mX5_countOf 0 [some (.ref 21), some (.int 3), none, none] [] (pv_em S)) mX6_mark 160 [some (.ref 0), some (.int x1), some (.int x2)] [] := Eq.trans (pv_Rstp dX6_mark_152 rfl rfl rfl) (Eq.trans (pv_Rget dX6_mark_153 ffX6_31 (by decide) (pv_ce_0 _ _) rfl) (Eq.trans (pv_Ric dX6_mark_156 ki_3) (pv_Rcall (As := [.ref 21, .int 3]) (rest := []) dX6_mark_157 rfl mfX6_149 rfl rfl rfl rfl rfl)))
set_option maxHeartbeats 200000 in
theorem bX6_mark_160 {S : pv_S} {x1 x2 u0 : Int32} : pv_R mX6_mark 160 [some (.ref 0), some (.int x1), some (.int x2)] [.int u0] (pv_em S) = some (some (.int (u0 - 1)), pv_em S) := Eq.trans (pv_Ric dX6_mark_160 ki_1) (Eq.trans (pv_Rstp dX6_mark_161 rfl rfl rfl) (pv_Rret dX6_mark_162 rfl))
theorem dX6_hour_0 : decode cX6_hour 0 = .ok (.aload_n 0, 1) := by decide +kernel
theorem dX6_hour_1 : decode cX6_hour 1 = .ok (.getfield 31, 3) := by decide +kernel
theorem dX6_hour_4 : decode cX6_hour 4 = .ok (.getfield 110, 3) := by decide +kernel
theorem dX6_hour_7 : decode cX6_hour 7 = .ok (.ifCond .ne 6, 3) := by decide +kernel
theorem dX6_hour_10 : decode cX6_hour 10 = .ok (.bipush (-4), 2) := by decide +kernel
theorem dX6_hour_12 : decode cX6_hour 12 = .ok (.ireturn, 1) := by decide +kernel
theorem dX6_hour_13 : decode cX6_hour 13 = .ok (.aload_n 0, 1) := by decide +kernel
theorem dX6_hour_14 : decode cX6_hour 14 = .ok (.getfield 31, 3) := by decide +kernel
theorem dX6_hour_17 : decode cX6_hour 17 = .ok (.iconst 1, 1) := by decide +kernel
theorem dX6_hour_18 : decode cX6_hour 18 = .ok (.invokevirtual 152, 3) := by decide +kernel
theorem dX6_hour_21 : decode cX6_hour 21 = .ok (.ifCond .ne 6, 3) := by decide +kernel
theorem dX6_hour_24 : decode cX6_hour 24 = .ok (.bipush (-2), 2) := by decide +kernel
theorem dX6_hour_26 : decode cX6_hour 26 = .ok (.ireturn, 1) := by decide +kernel
theorem dX6_hour_27 : decode cX6_hour 27 = .ok (.aload_n 0, 1) := by decide +kernel
theorem dX6_hour_28 : decode cX6_hour 28 = .ok (.getfield 31, 3) := by decide +kernel
theorem dX6_hour_31 : decode cX6_hour 31 = .ok (.iconst 0, 1) := by decide +kernel
theorem dX6_hour_32 : decode cX6_hour 32 = .ok (.invokevirtual 155, 3) := by decide +kernel
theorem dX6_hour_35 : decode cX6_hour 35 = .ok (.aload_n 0, 1) := by decide +kernel
theorem dX6_hour_36 : decode cX6_hour 36 = .ok (.getfield 31, 3) := by decide +kernel
theorem dX6_hour_39 : decode cX6_hour 39 = .ok (.invokevirtual 158, 3) := by decide +kernel
theorem dX6_hour_42 : decode cX6_hour 42 = .ok (.ireturn, 1) := by decide +kernel
set_option maxHeartbeats 200000 in
theorem bX6_hour_0 {S : pv_S} : pv_R mX6_hour 0 [some (.ref 0)] [] (pv_em S) = if ¬ (S.1 21 7) = 0 then pv_R mX6_hour 13 [some (.ref 0)] [] (pv_em S) else pv_R mX6_hour 10 [some (.ref 0)] [] (pv_em S) := Eq.trans (pv_Rstp dX6_hour_0 rfl rfl rfl) (Eq.trans (pv_Rget dX6_hour_1 ffX6_31 (by decide) (pv_ce_0 _ _) rfl) (Eq.trans (pv_Rget dX6_hour_4 ffX6_110 (by decide) (pv_ce_21 _ _) rfl) (pv_Rbr (tgt := 13) dX6_hour_7 rfl rfl rfl rfl rfl (by decide))))
set_option maxHeartbeats 200000 in
theorem bX6_hour_10 {S : pv_S} : pv_R mX6_hour 10 [some (.ref 0)] [] (pv_em S) = some (some (.int (-4)), pv_em S) := Eq.trans (pv_Rbp dX6_hour_10 kb_m4) (pv_Rret dX6_hour_12 rfl)
set_option maxHeartbeats 200000 in
theorem bX6_hour_13 {S : pv_S} : pv_R mX6_hour 13 [some (.ref 0)] [] (pv_em S) = pv_cc (pv_R mX5_hasRoomFor 0 [some (.ref 21), some (.int 1)] [] (pv_em S)) mX6_hour 21 [some (.ref 0)] [] := Eq.trans (pv_Rstp dX6_hour_13 rfl rfl rfl) (Eq.trans (pv_Rget dX6_hour_14 ffX6_31 (by decide) (pv_ce_0 _ _) rfl) (Eq.trans (pv_Ric dX6_hour_17 ki_1) (pv_Rcall (As := [.ref 21, .int 1]) (rest := []) dX6_hour_18 rfl mfX6_152 rfl rfl rfl rfl rfl)))
set_option maxHeartbeats 200000 in
theorem bX6_hour_21 {S : pv_S} {u0 : Int32} : pv_R mX6_hour 21 [some (.ref 0)] [.int u0] (pv_em S) = if ¬ u0 = 0 then pv_R mX6_hour 27 [some (.ref 0)] [] (pv_em S) else pv_R mX6_hour 24 [some (.ref 0)] [] (pv_em S) := pv_Rbr (tgt := 27) dX6_hour_21 rfl rfl rfl rfl rfl (by decide)
set_option maxHeartbeats 200000 in
theorem bX6_hour_24 {S : pv_S} : pv_R mX6_hour 24 [some (.ref 0)] [] (pv_em S) = some (some (.int (-2)), pv_em S) := Eq.trans (pv_Rbp dX6_hour_24 kb_m2) (pv_Rret dX6_hour_26 rfl)
set_option maxHeartbeats 200000 in
theorem bX6_hour_27 {S : pv_S} : pv_R mX6_hour 27 [some (.ref 0)] [] (pv_em S) = pv_cc (pv_R mX5_doDeed 0 [some (.ref 21), some (.int 0)] [] (pv_em S)) mX6_hour 35 [some (.ref 0)] [] := Eq.trans (pv_Rstp dX6_hour_27 rfl rfl rfl) (Eq.trans (pv_Rget dX6_hour_28 ffX6_31 (by decide) (pv_ce_0 _ _) rfl) (Eq.trans (pv_Ric dX6_hour_31 ki_0) (pv_Rcall (As := [.ref 21, .int 0]) (rest := []) dX6_hour_32 rfl mfX6_155 rfl rfl rfl rfl rfl)))
set_option maxHeartbeats 200000 in
theorem bX6_hour_35 {S : pv_S} : pv_R mX6_hour 35 [some (.ref 0)] [] (pv_em S) = pv_cc (pv_R mX5_pound 0 [some (.ref 21)] [] (pv_em S)) mX6_hour 42 [some (.ref 0)] [] := Eq.trans (pv_Rstp dX6_hour_35 rfl rfl rfl) (Eq.trans (pv_Rget dX6_hour_36 ffX6_31 (by decide) (pv_ce_0 _ _) rfl) (pv_Rcall (As := [.ref 21]) (rest := []) dX6_hour_39 rfl mfX6_158 rfl rfl rfl rfl rfl))
set_option maxHeartbeats 200000 in
theorem bX6_hour_42 {S : pv_S} {u0 : Int32} : pv_R mX6_hour 42 [some (.ref 0)] [.int u0] (pv_em S) = some (some (.int u0), pv_em S) := pv_Rret dX6_hour_42 rfl
theorem dX6_feed_0 : decode cX6_feed 0 = .ok (.aload_n 0, 1) := by decide +kernel
theorem dX6_feed_1 : decode cX6_feed 1 = .ok (.getfield 31, 3) := by decide +kernel
theorem dX6_feed_4 : decode cX6_feed 4 = .ok (.iload_n 1, 1) := by decide +kernel
theorem dX6_feed_5 : decode cX6_feed 5 = .ok (.invokevirtual 113, 3) := by decide +kernel
theorem dX6_feed_8 : decode cX6_feed 8 = .ok (.ifCond .ne 5, 3) := by decide +kernel
theorem dX6_feed_11 : decode cX6_feed 11 = .ok (.iconst (-1), 1) := by decide +kernel
theorem dX6_feed_12 : decode cX6_feed 12 = .ok (.ireturn, 1) := by decide +kernel
theorem dX6_feed_13 : decode cX6_feed 13 = .ok (.aload_n 0, 1) := by decide +kernel
theorem dX6_feed_14 : decode cX6_feed 14 = .ok (.getfield 31, 3) := by decide +kernel
theorem dX6_feed_17 : decode cX6_feed 17 = .ok (.iconst 1, 1) := by decide +kernel
theorem dX6_feed_18 : decode cX6_feed 18 = .ok (.invokevirtual 152, 3) := by decide +kernel
theorem dX6_feed_21 : decode cX6_feed 21 = .ok (.ifCond .ne 6, 3) := by decide +kernel
theorem dX6_feed_24 : decode cX6_feed 24 = .ok (.bipush (-2), 2) := by decide +kernel
theorem dX6_feed_26 : decode cX6_feed 26 = .ok (.ireturn, 1) := by decide +kernel
theorem dX6_feed_27 : decode cX6_feed 27 = .ok (.aload_n 0, 1) := by decide +kernel
theorem dX6_feed_28 : decode cX6_feed 28 = .ok (.getfield 31, 3) := by decide +kernel
theorem dX6_feed_31 : decode cX6_feed 31 = .ok (.bipush 10, 2) := by decide +kernel
theorem dX6_feed_33 : decode cX6_feed 33 = .ok (.iload_n 1, 1) := by decide +kernel
theorem dX6_feed_34 : decode cX6_feed 34 = .ok (.iadd, 1) := by decide +kernel
theorem dX6_feed_35 : decode cX6_feed 35 = .ok (.invokevirtual 155, 3) := by decide +kernel
theorem dX6_feed_38 : decode cX6_feed 38 = .ok (.aload_n 0, 1) := by decide +kernel
theorem dX6_feed_39 : decode cX6_feed 39 = .ok (.getfield 31, 3) := by decide +kernel
theorem dX6_feed_42 : decode cX6_feed 42 = .ok (.getfield 162, 3) := by decide +kernel
theorem dX6_feed_45 : decode cX6_feed 45 = .ok (.iload_n 1, 1) := by decide +kernel
theorem dX6_feed_46 : decode cX6_feed 46 = .ok (.iaload, 1) := by decide +kernel
theorem dX6_feed_47 : decode cX6_feed 47 = .ok (.ireturn, 1) := by decide +kernel
set_option maxHeartbeats 200000 in
theorem bX6_feed_0 {S : pv_S} {x1 : Int32} : pv_R mX6_feed 0 [some (.ref 0), some (.int x1)] [] (pv_em S) = pv_cc (pv_R mX5_isCat 0 [some (.ref 21), some (.int x1)] [] (pv_em S)) mX6_feed 8 [some (.ref 0), some (.int x1)] [] := Eq.trans (pv_Rstp dX6_feed_0 rfl rfl rfl) (Eq.trans (pv_Rget dX6_feed_1 ffX6_31 (by decide) (pv_ce_0 _ _) rfl) (Eq.trans (pv_Rstp dX6_feed_4 rfl rfl rfl) (pv_Rcall (As := [.ref 21, .int x1]) (rest := []) dX6_feed_5 rfl mfX6_113 rfl rfl rfl rfl rfl)))
set_option maxHeartbeats 200000 in
theorem bX6_feed_8 {S : pv_S} {x1 u0 : Int32} : pv_R mX6_feed 8 [some (.ref 0), some (.int x1)] [.int u0] (pv_em S) = if ¬ u0 = 0 then pv_R mX6_feed 13 [some (.ref 0), some (.int x1)] [] (pv_em S) else pv_R mX6_feed 11 [some (.ref 0), some (.int x1)] [] (pv_em S) := pv_Rbr (tgt := 13) dX6_feed_8 rfl rfl rfl rfl rfl (by decide)
set_option maxHeartbeats 200000 in
theorem bX6_feed_11 {S : pv_S} {x1 : Int32} : pv_R mX6_feed 11 [some (.ref 0), some (.int x1)] [] (pv_em S) = some (some (.int (-1)), pv_em S) := Eq.trans (pv_Ric dX6_feed_11 ki_m1) (pv_Rret dX6_feed_12 rfl)
set_option maxHeartbeats 200000 in
theorem bX6_feed_13 {S : pv_S} {x1 : Int32} : pv_R mX6_feed 13 [some (.ref 0), some (.int x1)] [] (pv_em S) = pv_cc (pv_R mX5_hasRoomFor 0 [some (.ref 21), some (.int 1)] [] (pv_em S)) mX6_feed 21 [some (.ref 0), some (.int x1)] [] := Eq.trans (pv_Rstp dX6_feed_13 rfl rfl rfl) (Eq.trans (pv_Rget dX6_feed_14 ffX6_31 (by decide) (pv_ce_0 _ _) rfl) (Eq.trans (pv_Ric dX6_feed_17 ki_1) (pv_Rcall (As := [.ref 21, .int 1]) (rest := []) dX6_feed_18 rfl mfX6_152 rfl rfl rfl rfl rfl)))
set_option maxHeartbeats 200000 in
theorem bX6_feed_21 {S : pv_S} {x1 u0 : Int32} : pv_R mX6_feed 21 [some (.ref 0), some (.int x1)] [.int u0] (pv_em S) = if ¬ u0 = 0 then pv_R mX6_feed 27 [some (.ref 0), some (.int x1)] [] (pv_em S) else pv_R mX6_feed 24 [some (.ref 0), some (.int x1)] [] (pv_em S) := pv_Rbr (tgt := 27) dX6_feed_21 rfl rfl rfl rfl rfl (by decide)
set_option maxHeartbeats 200000 in
theorem bX6_feed_24 {S : pv_S} {x1 : Int32} : pv_R mX6_feed 24 [some (.ref 0), some (.int x1)] [] (pv_em S) = some (some (.int (-2)), pv_em S) := Eq.trans (pv_Rbp dX6_feed_24 kb_m2) (pv_Rret dX6_feed_26 rfl)
set_option maxHeartbeats 200000 in
theorem bX6_feed_27 {S : pv_S} {x1 : Int32} : pv_R mX6_feed 27 [some (.ref 0), some (.int x1)] [] (pv_em S) = pv_cc (pv_R mX5_doDeed 0 [some (.ref 21), some (.int (10 + x1))] [] (pv_em S)) mX6_feed 38 [some (.ref 0), some (.int x1)] [] := Eq.trans (pv_Rstp dX6_feed_27 rfl rfl rfl) (Eq.trans (pv_Rget dX6_feed_28 ffX6_31 (by decide) (pv_ce_0 _ _) rfl) (Eq.trans (pv_Rbp dX6_feed_31 kb_10) (Eq.trans (pv_Rstp dX6_feed_33 rfl rfl rfl) (Eq.trans (pv_Rstp dX6_feed_34 rfl rfl rfl) (pv_Rcall (As := [.ref 21, .int (10 + x1)]) (rest := []) dX6_feed_35 rfl mfX6_155 rfl rfl rfl rfl rfl)))))
set_option maxHeartbeats 200000 in
theorem bX6_feed_38 {S : pv_S} {x1 : Int32} : pv_R mX6_feed 38 [some (.ref 0), some (.int x1)] [] (pv_em S) = if x1 < 0 ∨ 6 ≤ x1.toNatClampNeg then none else some (some (.int (S.1 25 x1.toNatClampNeg)), pv_em S) := Eq.trans (pv_Rstp dX6_feed_38 rfl rfl rfl) (Eq.trans (pv_Rget dX6_feed_39 ffX6_31 (by decide) (pv_ce_0 _ _) rfl) (Eq.trans (pv_Rget dX6_feed_42 ffX6_162 (by decide) (pv_ce_21 _ _) rfl) (Eq.trans (pv_Rstp dX6_feed_45 rfl rfl rfl) (Eq.trans (pv_Rald dX6_feed_46 (by decide) (pv_ce_25 _ _)) (pv_iteN (fun h1 => pv_Rret dX6_feed_47 rfl))))))
theorem dX6_buy_0 : decode cX6_buy 0 = .ok (.iload_n 1, 1) := by decide +kernel
theorem dX6_buy_1 : decode cX6_buy 1 = .ok (.iconst 1, 1) := by decide +kernel
theorem dX6_buy_2 : decode cX6_buy 2 = .ok (.bipush 9, 2) := by decide +kernel
theorem dX6_buy_4 : decode cX6_buy 4 = .ok (.invokestatic 116, 3) := by decide +kernel
theorem dX6_buy_7 : decode cX6_buy 7 = .ok (.ifCond .ne 5, 3) := by decide +kernel
theorem dX6_buy_10 : decode cX6_buy 10 = .ok (.iconst (-1), 1) := by decide +kernel
theorem dX6_buy_11 : decode cX6_buy 11 = .ok (.ireturn, 1) := by decide +kernel
theorem dX6_buy_12 : decode cX6_buy 12 = .ok (.aload_n 0, 1) := by decide +kernel
theorem dX6_buy_13 : decode cX6_buy 13 = .ok (.getfield 31, 3) := by decide +kernel
theorem dX6_buy_16 : decode cX6_buy 16 = .ok (.getfield 110, 3) := by decide +kernel
theorem dX6_buy_19 : decode cX6_buy 19 = .ok (.ifCond .ne 6, 3) := by decide +kernel
theorem dX6_buy_22 : decode cX6_buy 22 = .ok (.bipush (-4), 2) := by decide +kernel
theorem dX6_buy_24 : decode cX6_buy 24 = .ok (.ireturn, 1) := by decide +kernel
theorem dX6_buy_25 : decode cX6_buy 25 = .ok (.aload_n 0, 1) := by decide +kernel
theorem dX6_buy_26 : decode cX6_buy 26 = .ok (.getfield 31, 3) := by decide +kernel
theorem dX6_buy_29 : decode cX6_buy 29 = .ok (.iconst 1, 1) := by decide +kernel
theorem dX6_buy_30 : decode cX6_buy 30 = .ok (.invokevirtual 152, 3) := by decide +kernel
theorem dX6_buy_33 : decode cX6_buy 33 = .ok (.ifCond .ne 6, 3) := by decide +kernel
theorem dX6_buy_36 : decode cX6_buy 36 = .ok (.bipush (-2), 2) := by decide +kernel
theorem dX6_buy_38 : decode cX6_buy 38 = .ok (.ireturn, 1) := by decide +kernel
theorem dX6_buy_39 : decode cX6_buy 39 = .ok (.aload_n 0, 1) := by decide +kernel
theorem dX6_buy_40 : decode cX6_buy 40 = .ok (.getfield 31, 3) := by decide +kernel
theorem dX6_buy_43 : decode cX6_buy 43 = .ok (.bipush 20, 2) := by decide +kernel
theorem dX6_buy_45 : decode cX6_buy 45 = .ok (.iload_n 1, 1) := by decide +kernel
theorem dX6_buy_46 : decode cX6_buy 46 = .ok (.iadd, 1) := by decide +kernel
theorem dX6_buy_47 : decode cX6_buy 47 = .ok (.invokevirtual 155, 3) := by decide +kernel
theorem dX6_buy_50 : decode cX6_buy 50 = .ok (.aload_n 0, 1) := by decide +kernel
theorem dX6_buy_51 : decode cX6_buy 51 = .ok (.getfield 31, 3) := by decide +kernel
theorem dX6_buy_54 : decode cX6_buy 54 = .ok (.getfield 165, 3) := by decide +kernel
theorem dX6_buy_57 : decode cX6_buy 57 = .ok (.ireturn, 1) := by decide +kernel
set_option maxHeartbeats 200000 in
theorem bX6_buy_0 {S : pv_S} {x1 : Int32} : pv_R mX6_buy 0 [some (.ref 0), some (.int x1)] [] (pv_em S) = pv_cc (pv_R mX6_isWithin 0 [some (.int x1), some (.int 1), some (.int 9)] [] (pv_em S)) mX6_buy 7 [some (.ref 0), some (.int x1)] [] := Eq.trans (pv_Rstp dX6_buy_0 rfl rfl rfl) (Eq.trans (pv_Ric dX6_buy_1 ki_1) (Eq.trans (pv_Rbp dX6_buy_2 kb_9) (pv_Rcall (As := [.int x1, .int 1, .int 9]) (rest := []) dX6_buy_4 rfl mfX6_116 rfl rfl rfl rfl rfl)))
set_option maxHeartbeats 200000 in
theorem bX6_buy_7 {S : pv_S} {x1 u0 : Int32} : pv_R mX6_buy 7 [some (.ref 0), some (.int x1)] [.int u0] (pv_em S) = if ¬ u0 = 0 then pv_R mX6_buy 12 [some (.ref 0), some (.int x1)] [] (pv_em S) else pv_R mX6_buy 10 [some (.ref 0), some (.int x1)] [] (pv_em S) := pv_Rbr (tgt := 12) dX6_buy_7 rfl rfl rfl rfl rfl (by decide)
set_option maxHeartbeats 200000 in
theorem bX6_buy_10 {S : pv_S} {x1 : Int32} : pv_R mX6_buy 10 [some (.ref 0), some (.int x1)] [] (pv_em S) = some (some (.int (-1)), pv_em S) := Eq.trans (pv_Ric dX6_buy_10 ki_m1) (pv_Rret dX6_buy_11 rfl)
set_option maxHeartbeats 200000 in
theorem bX6_buy_12 {S : pv_S} {x1 : Int32} : pv_R mX6_buy 12 [some (.ref 0), some (.int x1)] [] (pv_em S) = if ¬ (S.1 21 7) = 0 then pv_R mX6_buy 25 [some (.ref 0), some (.int x1)] [] (pv_em S) else pv_R mX6_buy 22 [some (.ref 0), some (.int x1)] [] (pv_em S) := Eq.trans (pv_Rstp dX6_buy_12 rfl rfl rfl) (Eq.trans (pv_Rget dX6_buy_13 ffX6_31 (by decide) (pv_ce_0 _ _) rfl) (Eq.trans (pv_Rget dX6_buy_16 ffX6_110 (by decide) (pv_ce_21 _ _) rfl) (pv_Rbr (tgt := 25) dX6_buy_19 rfl rfl rfl rfl rfl (by decide))))
set_option maxHeartbeats 200000 in
theorem bX6_buy_22 {S : pv_S} {x1 : Int32} : pv_R mX6_buy 22 [some (.ref 0), some (.int x1)] [] (pv_em S) = some (some (.int (-4)), pv_em S) := Eq.trans (pv_Rbp dX6_buy_22 kb_m4) (pv_Rret dX6_buy_24 rfl)
set_option maxHeartbeats 200000 in
theorem bX6_buy_25 {S : pv_S} {x1 : Int32} : pv_R mX6_buy 25 [some (.ref 0), some (.int x1)] [] (pv_em S) = pv_cc (pv_R mX5_hasRoomFor 0 [some (.ref 21), some (.int 1)] [] (pv_em S)) mX6_buy 33 [some (.ref 0), some (.int x1)] [] := Eq.trans (pv_Rstp dX6_buy_25 rfl rfl rfl) (Eq.trans (pv_Rget dX6_buy_26 ffX6_31 (by decide) (pv_ce_0 _ _) rfl) (Eq.trans (pv_Ric dX6_buy_29 ki_1) (pv_Rcall (As := [.ref 21, .int 1]) (rest := []) dX6_buy_30 rfl mfX6_152 rfl rfl rfl rfl rfl)))
set_option maxHeartbeats 200000 in
theorem bX6_buy_33 {S : pv_S} {x1 u0 : Int32} : pv_R mX6_buy 33 [some (.ref 0), some (.int x1)] [.int u0] (pv_em S) = if ¬ u0 = 0 then pv_R mX6_buy 39 [some (.ref 0), some (.int x1)] [] (pv_em S) else pv_R mX6_buy 36 [some (.ref 0), some (.int x1)] [] (pv_em S) := pv_Rbr (tgt := 39) dX6_buy_33 rfl rfl rfl rfl rfl (by decide)
set_option maxHeartbeats 200000 in
theorem bX6_buy_36 {S : pv_S} {x1 : Int32} : pv_R mX6_buy 36 [some (.ref 0), some (.int x1)] [] (pv_em S) = some (some (.int (-2)), pv_em S) := Eq.trans (pv_Rbp dX6_buy_36 kb_m2) (pv_Rret dX6_buy_38 rfl)
set_option maxHeartbeats 200000 in
theorem bX6_buy_39 {S : pv_S} {x1 : Int32} : pv_R mX6_buy 39 [some (.ref 0), some (.int x1)] [] (pv_em S) = pv_cc (pv_R mX5_doDeed 0 [some (.ref 21), some (.int (20 + x1))] [] (pv_em S)) mX6_buy 50 [some (.ref 0), some (.int x1)] [] := Eq.trans (pv_Rstp dX6_buy_39 rfl rfl rfl) (Eq.trans (pv_Rget dX6_buy_40 ffX6_31 (by decide) (pv_ce_0 _ _) rfl) (Eq.trans (pv_Rbp dX6_buy_43 kb_20) (Eq.trans (pv_Rstp dX6_buy_45 rfl rfl rfl) (Eq.trans (pv_Rstp dX6_buy_46 rfl rfl rfl) (pv_Rcall (As := [.ref 21, .int (20 + x1)]) (rest := []) dX6_buy_47 rfl mfX6_155 rfl rfl rfl rfl rfl)))))
set_option maxHeartbeats 200000 in
theorem bX6_buy_50 {S : pv_S} {x1 : Int32} : pv_R mX6_buy 50 [some (.ref 0), some (.int x1)] [] (pv_em S) = some (some (.int (S.1 21 12)), pv_em S) := Eq.trans (pv_Rstp dX6_buy_50 rfl rfl rfl) (Eq.trans (pv_Rget dX6_buy_51 ffX6_31 (by decide) (pv_ce_0 _ _) rfl) (Eq.trans (pv_Rget dX6_buy_54 ffX6_165 (by decide) (pv_ce_21 _ _) rfl) (pv_Rret dX6_buy_57 rfl)))
theorem dX6_sell_0 : decode cX6_sell 0 = .ok (.iload_n 1, 1) := by decide +kernel
theorem dX6_sell_1 : decode cX6_sell 1 = .ok (.iconst 1, 1) := by decide +kernel
theorem dX6_sell_2 : decode cX6_sell 2 = .ok (.bipush 9, 2) := by decide +kernel
theorem dX6_sell_4 : decode cX6_sell 4 = .ok (.invokestatic 116, 3) := by decide +kernel
theorem dX6_sell_7 : decode cX6_sell 7 = .ok (.ifCond .ne 5, 3) := by decide +kernel
theorem dX6_sell_10 : decode cX6_sell 10 = .ok (.iconst (-1), 1) := by decide +kernel
theorem dX6_sell_11 : decode cX6_sell 11 = .ok (.ireturn, 1) := by decide +kernel
theorem dX6_sell_12 : decode cX6_sell 12 = .ok (.aload_n 0, 1) := by decide +kernel
theorem dX6_sell_13 : decode cX6_sell 13 = .ok (.getfield 31, 3) := by decide +kernel
theorem dX6_sell_16 : decode cX6_sell 16 = .ok (.getfield 110, 3) := by decide +kernel
theorem dX6_sell_19 : decode cX6_sell 19 = .ok (.ifCond .ne 6, 3) := by decide +kernel
theorem dX6_sell_22 : decode cX6_sell 22 = .ok (.bipush (-4), 2) := by decide +kernel
theorem dX6_sell_24 : decode cX6_sell 24 = .ok (.ireturn, 1) := by decide +kernel
theorem dX6_sell_25 : decode cX6_sell 25 = .ok (.aload_n 0, 1) := by decide +kernel
theorem dX6_sell_26 : decode cX6_sell 26 = .ok (.getfield 31, 3) := by decide +kernel
theorem dX6_sell_29 : decode cX6_sell 29 = .ok (.iload_n 1, 1) := by decide +kernel
theorem dX6_sell_30 : decode cX6_sell 30 = .ok (.invokevirtual 168, 3) := by decide +kernel
theorem dX6_sell_33 : decode cX6_sell 33 = .ok (.ifCond .ne 6, 3) := by decide +kernel
theorem dX6_sell_36 : decode cX6_sell 36 = .ok (.bipush (-6), 2) := by decide +kernel
theorem dX6_sell_38 : decode cX6_sell 38 = .ok (.ireturn, 1) := by decide +kernel
theorem dX6_sell_39 : decode cX6_sell 39 = .ok (.aload_n 0, 1) := by decide +kernel
theorem dX6_sell_40 : decode cX6_sell 40 = .ok (.getfield 31, 3) := by decide +kernel
theorem dX6_sell_43 : decode cX6_sell 43 = .ok (.iconst 1, 1) := by decide +kernel
theorem dX6_sell_44 : decode cX6_sell 44 = .ok (.invokevirtual 152, 3) := by decide +kernel
theorem dX6_sell_47 : decode cX6_sell 47 = .ok (.ifCond .ne 6, 3) := by decide +kernel
theorem dX6_sell_50 : decode cX6_sell 50 = .ok (.bipush (-2), 2) := by decide +kernel
theorem dX6_sell_52 : decode cX6_sell 52 = .ok (.ireturn, 1) := by decide +kernel
theorem dX6_sell_53 : decode cX6_sell 53 = .ok (.aload_n 0, 1) := by decide +kernel
theorem dX6_sell_54 : decode cX6_sell 54 = .ok (.getfield 31, 3) := by decide +kernel
theorem dX6_sell_57 : decode cX6_sell 57 = .ok (.bipush 30, 2) := by decide +kernel
theorem dX6_sell_59 : decode cX6_sell 59 = .ok (.iload_n 1, 1) := by decide +kernel
theorem dX6_sell_60 : decode cX6_sell 60 = .ok (.iadd, 1) := by decide +kernel
theorem dX6_sell_61 : decode cX6_sell 61 = .ok (.invokevirtual 155, 3) := by decide +kernel
theorem dX6_sell_64 : decode cX6_sell 64 = .ok (.aload_n 0, 1) := by decide +kernel
theorem dX6_sell_65 : decode cX6_sell 65 = .ok (.getfield 31, 3) := by decide +kernel
theorem dX6_sell_68 : decode cX6_sell 68 = .ok (.getfield 165, 3) := by decide +kernel
theorem dX6_sell_71 : decode cX6_sell 71 = .ok (.ireturn, 1) := by decide +kernel
set_option maxHeartbeats 200000 in
theorem bX6_sell_0 {S : pv_S} {x1 : Int32} : pv_R mX6_sell 0 [some (.ref 0), some (.int x1)] [] (pv_em S) = pv_cc (pv_R mX6_isWithin 0 [some (.int x1), some (.int 1), some (.int 9)] [] (pv_em S)) mX6_sell 7 [some (.ref 0), some (.int x1)] [] := Eq.trans (pv_Rstp dX6_sell_0 rfl rfl rfl) (Eq.trans (pv_Ric dX6_sell_1 ki_1) (Eq.trans (pv_Rbp dX6_sell_2 kb_9) (pv_Rcall (As := [.int x1, .int 1, .int 9]) (rest := []) dX6_sell_4 rfl mfX6_116 rfl rfl rfl rfl rfl)))
set_option maxHeartbeats 200000 in
theorem bX6_sell_7 {S : pv_S} {x1 u0 : Int32} : pv_R mX6_sell 7 [some (.ref 0), some (.int x1)] [.int u0] (pv_em S) = if ¬ u0 = 0 then pv_R mX6_sell 12 [some (.ref 0), some (.int x1)] [] (pv_em S) else pv_R mX6_sell 10 [some (.ref 0), some (.int x1)] [] (pv_em S) := pv_Rbr (tgt := 12) dX6_sell_7 rfl rfl rfl rfl rfl (by decide)
set_option maxHeartbeats 200000 in
theorem bX6_sell_10 {S : pv_S} {x1 : Int32} : pv_R mX6_sell 10 [some (.ref 0), some (.int x1)] [] (pv_em S) = some (some (.int (-1)), pv_em S) := Eq.trans (pv_Ric dX6_sell_10 ki_m1) (pv_Rret dX6_sell_11 rfl)
set_option maxHeartbeats 200000 in
theorem bX6_sell_12 {S : pv_S} {x1 : Int32} : pv_R mX6_sell 12 [some (.ref 0), some (.int x1)] [] (pv_em S) = if ¬ (S.1 21 7) = 0 then pv_R mX6_sell 25 [some (.ref 0), some (.int x1)] [] (pv_em S) else pv_R mX6_sell 22 [some (.ref 0), some (.int x1)] [] (pv_em S) := Eq.trans (pv_Rstp dX6_sell_12 rfl rfl rfl) (Eq.trans (pv_Rget dX6_sell_13 ffX6_31 (by decide) (pv_ce_0 _ _) rfl) (Eq.trans (pv_Rget dX6_sell_16 ffX6_110 (by decide) (pv_ce_21 _ _) rfl) (pv_Rbr (tgt := 25) dX6_sell_19 rfl rfl rfl rfl rfl (by decide))))
set_option maxHeartbeats 200000 in
theorem bX6_sell_22 {S : pv_S} {x1 : Int32} : pv_R mX6_sell 22 [some (.ref 0), some (.int x1)] [] (pv_em S) = some (some (.int (-4)), pv_em S) := Eq.trans (pv_Rbp dX6_sell_22 kb_m4) (pv_Rret dX6_sell_24 rfl)
set_option maxHeartbeats 200000 in
theorem bX6_sell_25 {S : pv_S} {x1 : Int32} : pv_R mX6_sell 25 [some (.ref 0), some (.int x1)] [] (pv_em S) = pv_cc (pv_R mX5_hasGoodsFor 0 [some (.ref 21), some (.int x1)] [] (pv_em S)) mX6_sell 33 [some (.ref 0), some (.int x1)] [] := Eq.trans (pv_Rstp dX6_sell_25 rfl rfl rfl) (Eq.trans (pv_Rget dX6_sell_26 ffX6_31 (by decide) (pv_ce_0 _ _) rfl) (Eq.trans (pv_Rstp dX6_sell_29 rfl rfl rfl) (pv_Rcall (As := [.ref 21, .int x1]) (rest := []) dX6_sell_30 rfl mfX6_168 rfl rfl rfl rfl rfl)))
set_option maxHeartbeats 200000 in
theorem bX6_sell_33 {S : pv_S} {x1 u0 : Int32} : pv_R mX6_sell 33 [some (.ref 0), some (.int x1)] [.int u0] (pv_em S) = if ¬ u0 = 0 then pv_R mX6_sell 39 [some (.ref 0), some (.int x1)] [] (pv_em S) else pv_R mX6_sell 36 [some (.ref 0), some (.int x1)] [] (pv_em S) := pv_Rbr (tgt := 39) dX6_sell_33 rfl rfl rfl rfl rfl (by decide)
set_option maxHeartbeats 200000 in
theorem bX6_sell_36 {S : pv_S} {x1 : Int32} : pv_R mX6_sell 36 [some (.ref 0), some (.int x1)] [] (pv_em S) = some (some (.int (-6)), pv_em S) := Eq.trans (pv_Rbp dX6_sell_36 kb_m6) (pv_Rret dX6_sell_38 rfl)
set_option maxHeartbeats 200000 in
theorem bX6_sell_39 {S : pv_S} {x1 : Int32} : pv_R mX6_sell 39 [some (.ref 0), some (.int x1)] [] (pv_em S) = pv_cc (pv_R mX5_hasRoomFor 0 [some (.ref 21), some (.int 1)] [] (pv_em S)) mX6_sell 47 [some (.ref 0), some (.int x1)] [] := Eq.trans (pv_Rstp dX6_sell_39 rfl rfl rfl) (Eq.trans (pv_Rget dX6_sell_40 ffX6_31 (by decide) (pv_ce_0 _ _) rfl) (Eq.trans (pv_Ric dX6_sell_43 ki_1) (pv_Rcall (As := [.ref 21, .int 1]) (rest := []) dX6_sell_44 rfl mfX6_152 rfl rfl rfl rfl rfl)))
set_option maxHeartbeats 200000 in
theorem bX6_sell_47 {S : pv_S} {x1 u0 : Int32} : pv_R mX6_sell 47 [some (.ref 0), some (.int x1)] [.int u0] (pv_em S) = if ¬ u0 = 0 then pv_R mX6_sell 53 [some (.ref 0), some (.int x1)] [] (pv_em S) else pv_R mX6_sell 50 [some (.ref 0), some (.int x1)] [] (pv_em S) := pv_Rbr (tgt := 53) dX6_sell_47 rfl rfl rfl rfl rfl (by decide)
set_option maxHeartbeats 200000 in
theorem bX6_sell_50 {S : pv_S} {x1 : Int32} : pv_R mX6_sell 50 [some (.ref 0), some (.int x1)] [] (pv_em S) = some (some (.int (-2)), pv_em S) := Eq.trans (pv_Rbp dX6_sell_50 kb_m2) (pv_Rret dX6_sell_52 rfl)
set_option maxHeartbeats 200000 in
theorem bX6_sell_53 {S : pv_S} {x1 : Int32} : pv_R mX6_sell 53 [some (.ref 0), some (.int x1)] [] (pv_em S) = pv_cc (pv_R mX5_doDeed 0 [some (.ref 21), some (.int (30 + x1))] [] (pv_em S)) mX6_sell 64 [some (.ref 0), some (.int x1)] [] := Eq.trans (pv_Rstp dX6_sell_53 rfl rfl rfl) (Eq.trans (pv_Rget dX6_sell_54 ffX6_31 (by decide) (pv_ce_0 _ _) rfl) (Eq.trans (pv_Rbp dX6_sell_57 kb_30) (Eq.trans (pv_Rstp dX6_sell_59 rfl rfl rfl) (Eq.trans (pv_Rstp dX6_sell_60 rfl rfl rfl) (pv_Rcall (As := [.ref 21, .int (30 + x1)]) (rest := []) dX6_sell_61 rfl mfX6_155 rfl rfl rfl rfl rfl)))))
set_option maxHeartbeats 200000 in
theorem bX6_sell_64 {S : pv_S} {x1 : Int32} : pv_R mX6_sell 64 [some (.ref 0), some (.int x1)] [] (pv_em S) = some (some (.int (S.1 21 12)), pv_em S) := Eq.trans (pv_Rstp dX6_sell_64 rfl rfl rfl) (Eq.trans (pv_Rget dX6_sell_65 ffX6_31 (by decide) (pv_ce_0 _ _) rfl) (Eq.trans (pv_Rget dX6_sell_68 ffX6_165 (by decide) (pv_ce_21 _ _) rfl) (pv_Rret dX6_sell_71 rfl)))
theorem dX6_rule_0 : decode cX6_rule 0 = .ok (.aload_n 0, 1) := by decide +kernel
theorem dX6_rule_1 : decode cX6_rule 1 = .ok (.getfield 31, 3) := by decide +kernel
theorem dX6_rule_4 : decode cX6_rule 4 = .ok (.iload_n 1, 1) := by decide +kernel
theorem dX6_rule_5 : decode cX6_rule 5 = .ok (.invokevirtual 113, 3) := by decide +kernel
theorem dX6_rule_8 : decode cX6_rule 8 = .ok (.ifCond .ne 5, 3) := by decide +kernel
theorem dX6_rule_11 : decode cX6_rule 11 = .ok (.iconst (-1), 1) := by decide +kernel
theorem dX6_rule_12 : decode cX6_rule 12 = .ok (.ireturn, 1) := by decide +kernel
theorem dX6_rule_13 : decode cX6_rule 13 = .ok (.aload_n 0, 1) := by decide +kernel
theorem dX6_rule_14 : decode cX6_rule 14 = .ok (.getfield 31, 3) := by decide +kernel
theorem dX6_rule_17 : decode cX6_rule 17 = .ok (.getfield 171, 3) := by decide +kernel
theorem dX6_rule_20 : decode cX6_rule 20 = .ok (.iload_n 1, 1) := by decide +kernel
theorem dX6_rule_21 : decode cX6_rule 21 = .ok (.if_icmp .ne 6, 3) := by decide +kernel
theorem dX6_rule_24 : decode cX6_rule 24 = .ok (.bipush (-4), 2) := by decide +kernel
theorem dX6_rule_26 : decode cX6_rule 26 = .ok (.ireturn, 1) := by decide +kernel
theorem dX6_rule_27 : decode cX6_rule 27 = .ok (.aload_n 0, 1) := by decide +kernel
theorem dX6_rule_28 : decode cX6_rule 28 = .ok (.getfield 31, 3) := by decide +kernel
theorem dX6_rule_31 : decode cX6_rule 31 = .ok (.iconst 1, 1) := by decide +kernel
theorem dX6_rule_32 : decode cX6_rule 32 = .ok (.invokevirtual 152, 3) := by decide +kernel
theorem dX6_rule_35 : decode cX6_rule 35 = .ok (.ifCond .ne 6, 3) := by decide +kernel
theorem dX6_rule_38 : decode cX6_rule 38 = .ok (.bipush (-2), 2) := by decide +kernel
theorem dX6_rule_40 : decode cX6_rule 40 = .ok (.ireturn, 1) := by decide +kernel
theorem dX6_rule_41 : decode cX6_rule 41 = .ok (.aload_n 0, 1) := by decide +kernel
theorem dX6_rule_42 : decode cX6_rule 42 = .ok (.getfield 31, 3) := by decide +kernel
theorem dX6_rule_45 : decode cX6_rule 45 = .ok (.bipush 40, 2) := by decide +kernel
theorem dX6_rule_47 : decode cX6_rule 47 = .ok (.iload_n 1, 1) := by decide +kernel
theorem dX6_rule_48 : decode cX6_rule 48 = .ok (.iadd, 1) := by decide +kernel
theorem dX6_rule_49 : decode cX6_rule 49 = .ok (.invokevirtual 155, 3) := by decide +kernel
theorem dX6_rule_52 : decode cX6_rule 52 = .ok (.aload_n 0, 1) := by decide +kernel
theorem dX6_rule_53 : decode cX6_rule 53 = .ok (.getfield 31, 3) := by decide +kernel
theorem dX6_rule_56 : decode cX6_rule 56 = .ok (.invokevirtual 158, 3) := by decide +kernel
theorem dX6_rule_59 : decode cX6_rule 59 = .ok (.ireturn, 1) := by decide +kernel
set_option maxHeartbeats 200000 in
theorem bX6_rule_0 {S : pv_S} {x1 : Int32} : pv_R mX6_rule 0 [some (.ref 0), some (.int x1)] [] (pv_em S) = pv_cc (pv_R mX5_isCat 0 [some (.ref 21), some (.int x1)] [] (pv_em S)) mX6_rule 8 [some (.ref 0), some (.int x1)] [] := Eq.trans (pv_Rstp dX6_rule_0 rfl rfl rfl) (Eq.trans (pv_Rget dX6_rule_1 ffX6_31 (by decide) (pv_ce_0 _ _) rfl) (Eq.trans (pv_Rstp dX6_rule_4 rfl rfl rfl) (pv_Rcall (As := [.ref 21, .int x1]) (rest := []) dX6_rule_5 rfl mfX6_113 rfl rfl rfl rfl rfl)))
set_option maxHeartbeats 200000 in
theorem bX6_rule_8 {S : pv_S} {x1 u0 : Int32} : pv_R mX6_rule 8 [some (.ref 0), some (.int x1)] [.int u0] (pv_em S) = if ¬ u0 = 0 then pv_R mX6_rule 13 [some (.ref 0), some (.int x1)] [] (pv_em S) else pv_R mX6_rule 11 [some (.ref 0), some (.int x1)] [] (pv_em S) := pv_Rbr (tgt := 13) dX6_rule_8 rfl rfl rfl rfl rfl (by decide)
set_option maxHeartbeats 200000 in
theorem bX6_rule_11 {S : pv_S} {x1 : Int32} : pv_R mX6_rule 11 [some (.ref 0), some (.int x1)] [] (pv_em S) = some (some (.int (-1)), pv_em S) := Eq.trans (pv_Ric dX6_rule_11 ki_m1) (pv_Rret dX6_rule_12 rfl)
set_option maxHeartbeats 200000 in
theorem bX6_rule_13 {S : pv_S} {x1 : Int32} : pv_R mX6_rule 13 [some (.ref 0), some (.int x1)] [] (pv_em S) = if ¬ (S.1 21 10) = x1 then pv_R mX6_rule 27 [some (.ref 0), some (.int x1)] [] (pv_em S) else pv_R mX6_rule 24 [some (.ref 0), some (.int x1)] [] (pv_em S) := Eq.trans (pv_Rstp dX6_rule_13 rfl rfl rfl) (Eq.trans (pv_Rget dX6_rule_14 ffX6_31 (by decide) (pv_ce_0 _ _) rfl) (Eq.trans (pv_Rget dX6_rule_17 ffX6_171 (by decide) (pv_ce_21 _ _) rfl) (Eq.trans (pv_Rstp dX6_rule_20 rfl rfl rfl) (pv_Rbr (tgt := 27) dX6_rule_21 rfl rfl rfl rfl rfl (by decide)))))
set_option maxHeartbeats 200000 in
theorem bX6_rule_24 {S : pv_S} {x1 : Int32} : pv_R mX6_rule 24 [some (.ref 0), some (.int x1)] [] (pv_em S) = some (some (.int (-4)), pv_em S) := Eq.trans (pv_Rbp dX6_rule_24 kb_m4) (pv_Rret dX6_rule_26 rfl)
set_option maxHeartbeats 200000 in
theorem bX6_rule_27 {S : pv_S} {x1 : Int32} : pv_R mX6_rule 27 [some (.ref 0), some (.int x1)] [] (pv_em S) = pv_cc (pv_R mX5_hasRoomFor 0 [some (.ref 21), some (.int 1)] [] (pv_em S)) mX6_rule 35 [some (.ref 0), some (.int x1)] [] := Eq.trans (pv_Rstp dX6_rule_27 rfl rfl rfl) (Eq.trans (pv_Rget dX6_rule_28 ffX6_31 (by decide) (pv_ce_0 _ _) rfl) (Eq.trans (pv_Ric dX6_rule_31 ki_1) (pv_Rcall (As := [.ref 21, .int 1]) (rest := []) dX6_rule_32 rfl mfX6_152 rfl rfl rfl rfl rfl)))
set_option maxHeartbeats 200000 in
theorem bX6_rule_35 {S : pv_S} {x1 u0 : Int32} : pv_R mX6_rule 35 [some (.ref 0), some (.int x1)] [.int u0] (pv_em S) = if ¬ u0 = 0 then pv_R mX6_rule 41 [some (.ref 0), some (.int x1)] [] (pv_em S) else pv_R mX6_rule 38 [some (.ref 0), some (.int x1)] [] (pv_em S) := pv_Rbr (tgt := 41) dX6_rule_35 rfl rfl rfl rfl rfl (by decide)
set_option maxHeartbeats 200000 in
theorem bX6_rule_38 {S : pv_S} {x1 : Int32} : pv_R mX6_rule 38 [some (.ref 0), some (.int x1)] [] (pv_em S) = some (some (.int (-2)), pv_em S) := Eq.trans (pv_Rbp dX6_rule_38 kb_m2) (pv_Rret dX6_rule_40 rfl)
set_option maxHeartbeats 200000 in
theorem bX6_rule_41 {S : pv_S} {x1 : Int32} : pv_R mX6_rule 41 [some (.ref 0), some (.int x1)] [] (pv_em S) = pv_cc (pv_R mX5_doDeed 0 [some (.ref 21), some (.int (40 + x1))] [] (pv_em S)) mX6_rule 52 [some (.ref 0), some (.int x1)] [] := Eq.trans (pv_Rstp dX6_rule_41 rfl rfl rfl) (Eq.trans (pv_Rget dX6_rule_42 ffX6_31 (by decide) (pv_ce_0 _ _) rfl) (Eq.trans (pv_Rbp dX6_rule_45 kb_40) (Eq.trans (pv_Rstp dX6_rule_47 rfl rfl rfl) (Eq.trans (pv_Rstp dX6_rule_48 rfl rfl rfl) (pv_Rcall (As := [.ref 21, .int (40 + x1)]) (rest := []) dX6_rule_49 rfl mfX6_155 rfl rfl rfl rfl rfl)))))
set_option maxHeartbeats 200000 in
theorem bX6_rule_52 {S : pv_S} {x1 : Int32} : pv_R mX6_rule 52 [some (.ref 0), some (.int x1)] [] (pv_em S) = pv_cc (pv_R mX5_pound 0 [some (.ref 21)] [] (pv_em S)) mX6_rule 59 [some (.ref 0), some (.int x1)] [] := Eq.trans (pv_Rstp dX6_rule_52 rfl rfl rfl) (Eq.trans (pv_Rget dX6_rule_53 ffX6_31 (by decide) (pv_ce_0 _ _) rfl) (pv_Rcall (As := [.ref 21]) (rest := []) dX6_rule_56 rfl mfX6_158 rfl rfl rfl rfl rfl))
set_option maxHeartbeats 200000 in
theorem bX6_rule_59 {S : pv_S} {x1 u0 : Int32} : pv_R mX6_rule 59 [some (.ref 0), some (.int x1)] [.int u0] (pv_em S) = some (some (.int u0), pv_em S) := pv_Rret dX6_rule_59 rfl
theorem dX6_undo_0 : decode cX6_undo 0 = .ok (.iload_n 1, 1) := by decide +kernel
theorem dX6_undo_1 : decode cX6_undo 1 = .ok (.iconst 0, 1) := by decide +kernel
theorem dX6_undo_2 : decode cX6_undo 2 = .ok (.aload_n 0, 1) := by decide +kernel
theorem dX6_undo_3 : decode cX6_undo 3 = .ok (.getfield 31, 3) := by decide +kernel
theorem dX6_undo_6 : decode cX6_undo 6 = .ok (.getfield 174, 3) := by decide +kernel
theorem dX6_undo_9 : decode cX6_undo 9 = .ok (.invokestatic 116, 3) := by decide +kernel
theorem dX6_undo_12 : decode cX6_undo 12 = .ok (.ifCond .ne 5, 3) := by decide +kernel
theorem dX6_undo_15 : decode cX6_undo 15 = .ok (.iconst (-1), 1) := by decide +kernel
theorem dX6_undo_16 : decode cX6_undo 16 = .ok (.ireturn, 1) := by decide +kernel
theorem dX6_undo_17 : decode cX6_undo 17 = .ok (.aload_n 0, 1) := by decide +kernel
theorem dX6_undo_18 : decode cX6_undo 18 = .ok (.getfield 31, 3) := by decide +kernel
theorem dX6_undo_21 : decode cX6_undo 21 = .ok (.getfield 174, 3) := by decide +kernel
theorem dX6_undo_24 : decode cX6_undo 24 = .ok (.iload_n 1, 1) := by decide +kernel
theorem dX6_undo_25 : decode cX6_undo 25 = .ok (.isub, 1) := by decide +kernel
theorem dX6_undo_26 : decode cX6_undo 26 = .ok (.istore_n 2, 1) := by decide +kernel
theorem dX6_undo_27 : decode cX6_undo 27 = .ok (.aload_n 0, 1) := by decide +kernel
theorem dX6_undo_28 : decode cX6_undo 28 = .ok (.getfield 31, 3) := by decide +kernel
theorem dX6_undo_31 : decode cX6_undo 31 = .ok (.iload_n 1, 1) := by decide +kernel
theorem dX6_undo_32 : decode cX6_undo 32 = .ok (.invokevirtual 177, 3) := by decide +kernel
theorem dX6_undo_35 : decode cX6_undo 35 = .ok (.iload_n 2, 1) := by decide +kernel
theorem dX6_undo_36 : decode cX6_undo 36 = .ok (.ireturn, 1) := by decide +kernel
set_option maxHeartbeats 200000 in
theorem bX6_undo_0 {S : pv_S} {x1 : Int32} {a2 : Option Value} : pv_R mX6_undo 0 [some (.ref 0), some (.int x1), a2] [] (pv_em S) = pv_cc (pv_R mX6_isWithin 0 [some (.int x1), some (.int 0), some (.int (S.1 21 13))] [] (pv_em S)) mX6_undo 12 [some (.ref 0), some (.int x1), a2] [] := Eq.trans (pv_Rstp dX6_undo_0 rfl rfl rfl) (Eq.trans (pv_Ric dX6_undo_1 ki_0) (Eq.trans (pv_Rstp dX6_undo_2 rfl rfl rfl) (Eq.trans (pv_Rget dX6_undo_3 ffX6_31 (by decide) (pv_ce_0 _ _) rfl) (Eq.trans (pv_Rget dX6_undo_6 ffX6_174 (by decide) (pv_ce_21 _ _) rfl) (pv_Rcall (As := [.int x1, .int 0, .int (S.1 21 13)]) (rest := []) dX6_undo_9 rfl mfX6_116 rfl rfl rfl rfl rfl)))))
set_option maxHeartbeats 200000 in
theorem bX6_undo_12 {S : pv_S} {x1 u0 : Int32} {a2 : Option Value} : pv_R mX6_undo 12 [some (.ref 0), some (.int x1), a2] [.int u0] (pv_em S) = if ¬ u0 = 0 then pv_R mX6_undo 17 [some (.ref 0), some (.int x1), a2] [] (pv_em S) else pv_R mX6_undo 15 [some (.ref 0), some (.int x1), a2] [] (pv_em S) := pv_Rbr (tgt := 17) dX6_undo_12 rfl rfl rfl rfl rfl (by decide)
set_option maxHeartbeats 200000 in
theorem bX6_undo_15 {S : pv_S} {x1 : Int32} {a2 : Option Value} : pv_R mX6_undo 15 [some (.ref 0), some (.int x1), a2] [] (pv_em S) = some (some (.int (-1)), pv_em S) := Eq.trans (pv_Ric dX6_undo_15 ki_m1) (pv_Rret dX6_undo_16 rfl)
set_option maxHeartbeats 200000 in
theorem bX6_undo_17 {S : pv_S} {x1 : Int32} {a2 : Option Value} : pv_R mX6_undo 17 [some (.ref 0), some (.int x1), a2] [] (pv_em S) = pv_cc (pv_R mX5_replay 0 [some (.ref 21), some (.int x1), none] [] (pv_em S)) mX6_undo 35 [some (.ref 0), some (.int x1), some (.int ((S.1 21 13) - x1))] [] := Eq.trans (pv_Rstp dX6_undo_17 rfl rfl rfl) (Eq.trans (pv_Rget dX6_undo_18 ffX6_31 (by decide) (pv_ce_0 _ _) rfl) (Eq.trans (pv_Rget dX6_undo_21 ffX6_174 (by decide) (pv_ce_21 _ _) rfl) (Eq.trans (pv_Rstp dX6_undo_24 rfl rfl rfl) (Eq.trans (pv_Rstp dX6_undo_25 rfl rfl rfl) (Eq.trans (pv_Rstp dX6_undo_26 rfl rfl rfl) (Eq.trans (pv_Rstp dX6_undo_27 rfl rfl rfl) (Eq.trans (pv_Rget dX6_undo_28 ffX6_31 (by decide) (pv_ce_0 _ _) rfl) (Eq.trans (pv_Rstp dX6_undo_31 rfl rfl rfl) (pv_Rcall (As := [.ref 21, .int x1]) (rest := []) dX6_undo_32 rfl mfX6_177 rfl rfl rfl rfl rfl)))))))))
set_option maxHeartbeats 200000 in
theorem bX6_undo_35 {S : pv_S} {x1 x2 : Int32} : pv_R mX6_undo 35 [some (.ref 0), some (.int x1), some (.int x2)] [] (pv_em S) = some (some (.int x2), pv_em S) := Eq.trans (pv_Rstp dX6_undo_35 rfl rfl rfl) (pv_Rret dX6_undo_36 rfl)
theorem dX6_keep_0 : decode cX6_keep 0 = .ok (.aload_n 0, 1) := by decide +kernel
theorem dX6_keep_1 : decode cX6_keep 1 = .ok (.getfield 31, 3) := by decide +kernel
theorem dX6_keep_4 : decode cX6_keep 4 = .ok (.iload_n 1, 1) := by decide +kernel
theorem dX6_keep_5 : decode cX6_keep 5 = .ok (.invokevirtual 180, 3) := by decide +kernel
theorem dX6_keep_8 : decode cX6_keep 8 = .ok (.ifCond .ne 5, 3) := by decide +kernel
theorem dX6_keep_11 : decode cX6_keep 11 = .ok (.iconst (-1), 1) := by decide +kernel
theorem dX6_keep_12 : decode cX6_keep 12 = .ok (.ireturn, 1) := by decide +kernel
theorem dX6_keep_13 : decode cX6_keep 13 = .ok (.aload_n 0, 1) := by decide +kernel
theorem dX6_keep_14 : decode cX6_keep 14 = .ok (.getfield 31, 3) := by decide +kernel
theorem dX6_keep_17 : decode cX6_keep 17 = .ok (.getfield 110, 3) := by decide +kernel
theorem dX6_keep_20 : decode cX6_keep 20 = .ok (.ifCond .ne 6, 3) := by decide +kernel
theorem dX6_keep_23 : decode cX6_keep 23 = .ok (.bipush (-4), 2) := by decide +kernel
theorem dX6_keep_25 : decode cX6_keep 25 = .ok (.ireturn, 1) := by decide +kernel
theorem dX6_keep_26 : decode cX6_keep 26 = .ok (.aload_n 0, 1) := by decide +kernel
theorem dX6_keep_27 : decode cX6_keep 27 = .ok (.getfield 31, 3) := by decide +kernel
theorem dX6_keep_30 : decode cX6_keep 30 = .ok (.iload_n 1, 1) := by decide +kernel
theorem dX6_keep_31 : decode cX6_keep 31 = .ok (.invokevirtual 183, 3) := by decide +kernel
theorem dX6_keep_34 : decode cX6_keep 34 = .ok (.aload_n 0, 1) := by decide +kernel
theorem dX6_keep_35 : decode cX6_keep 35 = .ok (.getfield 31, 3) := by decide +kernel
theorem dX6_keep_38 : decode cX6_keep 38 = .ok (.getfield 174, 3) := by decide +kernel
theorem dX6_keep_41 : decode cX6_keep 41 = .ok (.ireturn, 1) := by decide +kernel
set_option maxHeartbeats 200000 in
theorem bX6_keep_0 {S : pv_S} {x1 : Int32} : pv_R mX6_keep 0 [some (.ref 0), some (.int x1)] [] (pv_em S) = pv_cc (pv_R mX5_hasKeptNumber 0 [some (.ref 21), some (.int x1)] [] (pv_em S)) mX6_keep 8 [some (.ref 0), some (.int x1)] [] := Eq.trans (pv_Rstp dX6_keep_0 rfl rfl rfl) (Eq.trans (pv_Rget dX6_keep_1 ffX6_31 (by decide) (pv_ce_0 _ _) rfl) (Eq.trans (pv_Rstp dX6_keep_4 rfl rfl rfl) (pv_Rcall (As := [.ref 21, .int x1]) (rest := []) dX6_keep_5 rfl mfX6_180 rfl rfl rfl rfl rfl)))
set_option maxHeartbeats 200000 in
theorem bX6_keep_8 {S : pv_S} {x1 u0 : Int32} : pv_R mX6_keep 8 [some (.ref 0), some (.int x1)] [.int u0] (pv_em S) = if ¬ u0 = 0 then pv_R mX6_keep 13 [some (.ref 0), some (.int x1)] [] (pv_em S) else pv_R mX6_keep 11 [some (.ref 0), some (.int x1)] [] (pv_em S) := pv_Rbr (tgt := 13) dX6_keep_8 rfl rfl rfl rfl rfl (by decide)
set_option maxHeartbeats 200000 in
theorem bX6_keep_11 {S : pv_S} {x1 : Int32} : pv_R mX6_keep 11 [some (.ref 0), some (.int x1)] [] (pv_em S) = some (some (.int (-1)), pv_em S) := Eq.trans (pv_Ric dX6_keep_11 ki_m1) (pv_Rret dX6_keep_12 rfl)
set_option maxHeartbeats 200000 in
theorem bX6_keep_13 {S : pv_S} {x1 : Int32} : pv_R mX6_keep 13 [some (.ref 0), some (.int x1)] [] (pv_em S) = if ¬ (S.1 21 7) = 0 then pv_R mX6_keep 26 [some (.ref 0), some (.int x1)] [] (pv_em S) else pv_R mX6_keep 23 [some (.ref 0), some (.int x1)] [] (pv_em S) := Eq.trans (pv_Rstp dX6_keep_13 rfl rfl rfl) (Eq.trans (pv_Rget dX6_keep_14 ffX6_31 (by decide) (pv_ce_0 _ _) rfl) (Eq.trans (pv_Rget dX6_keep_17 ffX6_110 (by decide) (pv_ce_21 _ _) rfl) (pv_Rbr (tgt := 26) dX6_keep_20 rfl rfl rfl rfl rfl (by decide))))
set_option maxHeartbeats 200000 in
theorem bX6_keep_23 {S : pv_S} {x1 : Int32} : pv_R mX6_keep 23 [some (.ref 0), some (.int x1)] [] (pv_em S) = some (some (.int (-4)), pv_em S) := Eq.trans (pv_Rbp dX6_keep_23 kb_m4) (pv_Rret dX6_keep_25 rfl)
set_option maxHeartbeats 200000 in
theorem bX6_keep_26 {S : pv_S} {x1 : Int32} : pv_R mX6_keep 26 [some (.ref 0), some (.int x1)] [] (pv_em S) = pv_cc (pv_R mX5_store 0 [some (.ref 21), some (.int x1), none] [] (pv_em S)) mX6_keep 34 [some (.ref 0), some (.int x1)] [] := Eq.trans (pv_Rstp dX6_keep_26 rfl rfl rfl) (Eq.trans (pv_Rget dX6_keep_27 ffX6_31 (by decide) (pv_ce_0 _ _) rfl) (Eq.trans (pv_Rstp dX6_keep_30 rfl rfl rfl) (pv_Rcall (As := [.ref 21, .int x1]) (rest := []) dX6_keep_31 rfl mfX6_183 rfl rfl rfl rfl rfl)))
set_option maxHeartbeats 200000 in
theorem bX6_keep_34 {S : pv_S} {x1 : Int32} : pv_R mX6_keep 34 [some (.ref 0), some (.int x1)] [] (pv_em S) = some (some (.int (S.1 21 13)), pv_em S) := Eq.trans (pv_Rstp dX6_keep_34 rfl rfl rfl) (Eq.trans (pv_Rget dX6_keep_35 ffX6_31 (by decide) (pv_ce_0 _ _) rfl) (Eq.trans (pv_Rget dX6_keep_38 ffX6_174 (by decide) (pv_ce_21 _ _) rfl) (pv_Rret dX6_keep_41 rfl)))
theorem dX6_on_0 : decode cX6_on 0 = .ok (.aload_n 0, 1) := by decide +kernel
theorem dX6_on_1 : decode cX6_on 1 = .ok (.getfield 31, 3) := by decide +kernel
theorem dX6_on_4 : decode cX6_on 4 = .ok (.iload_n 1, 1) := by decide +kernel
theorem dX6_on_5 : decode cX6_on 5 = .ok (.invokevirtual 180, 3) := by decide +kernel
theorem dX6_on_8 : decode cX6_on 8 = .ok (.ifCond .ne 5, 3) := by decide +kernel
theorem dX6_on_11 : decode cX6_on 11 = .ok (.iconst (-1), 1) := by decide +kernel
theorem dX6_on_12 : decode cX6_on 12 = .ok (.ireturn, 1) := by decide +kernel
theorem dX6_on_13 : decode cX6_on 13 = .ok (.aload_n 0, 1) := by decide +kernel
theorem dX6_on_14 : decode cX6_on 14 = .ok (.getfield 31, 3) := by decide +kernel
theorem dX6_on_17 : decode cX6_on 17 = .ok (.getfield 186, 3) := by decide +kernel
theorem dX6_on_20 : decode cX6_on 20 = .ok (.iload_n 1, 1) := by decide +kernel
theorem dX6_on_21 : decode cX6_on 21 = .ok (.iaload, 1) := by decide +kernel
theorem dX6_on_22 : decode cX6_on 22 = .ok (.ifCond .ge 12, 3) := by decide +kernel
theorem dX6_on_25 : decode cX6_on 25 = .ok (.aload_n 0, 1) := by decide +kernel
theorem dX6_on_26 : decode cX6_on 26 = .ok (.getfield 45, 3) := by decide +kernel
theorem dX6_on_29 : decode cX6_on 29 = .ok (.iconst 1, 1) := by decide +kernel
theorem dX6_on_30 : decode cX6_on 30 = .ok (.invokevirtual 81, 3) := by decide +kernel
theorem dX6_on_33 : decode cX6_on 33 = .ok (.ireturn, 1) := by decide +kernel
theorem dX6_on_34 : decode cX6_on 34 = .ok (.aload_n 0, 1) := by decide +kernel
theorem dX6_on_35 : decode cX6_on 35 = .ok (.getfield 31, 3) := by decide +kernel
theorem dX6_on_38 : decode cX6_on 38 = .ok (.iload_n 1, 1) := by decide +kernel
theorem dX6_on_39 : decode cX6_on 39 = .ok (.invokevirtual 189, 3) := by decide +kernel
theorem dX6_on_42 : decode cX6_on 42 = .ok (.aload_n 0, 1) := by decide +kernel
theorem dX6_on_43 : decode cX6_on 43 = .ok (.getfield 31, 3) := by decide +kernel
theorem dX6_on_46 : decode cX6_on 46 = .ok (.getfield 174, 3) := by decide +kernel
theorem dX6_on_49 : decode cX6_on 49 = .ok (.ireturn, 1) := by decide +kernel
set_option maxHeartbeats 200000 in
theorem bX6_on_0 {S : pv_S} {x1 : Int32} : pv_R mX6_on 0 [some (.ref 0), some (.int x1)] [] (pv_em S) = pv_cc (pv_R mX5_hasKeptNumber 0 [some (.ref 21), some (.int x1)] [] (pv_em S)) mX6_on 8 [some (.ref 0), some (.int x1)] [] := Eq.trans (pv_Rstp dX6_on_0 rfl rfl rfl) (Eq.trans (pv_Rget dX6_on_1 ffX6_31 (by decide) (pv_ce_0 _ _) rfl) (Eq.trans (pv_Rstp dX6_on_4 rfl rfl rfl) (pv_Rcall (As := [.ref 21, .int x1]) (rest := []) dX6_on_5 rfl mfX6_180 rfl rfl rfl rfl rfl)))
set_option maxHeartbeats 200000 in
theorem bX6_on_8 {S : pv_S} {x1 u0 : Int32} : pv_R mX6_on 8 [some (.ref 0), some (.int x1)] [.int u0] (pv_em S) = if ¬ u0 = 0 then pv_R mX6_on 13 [some (.ref 0), some (.int x1)] [] (pv_em S) else pv_R mX6_on 11 [some (.ref 0), some (.int x1)] [] (pv_em S) := pv_Rbr (tgt := 13) dX6_on_8 rfl rfl rfl rfl rfl (by decide)
set_option maxHeartbeats 200000 in
theorem bX6_on_11 {S : pv_S} {x1 : Int32} : pv_R mX6_on 11 [some (.ref 0), some (.int x1)] [] (pv_em S) = some (some (.int (-1)), pv_em S) := Eq.trans (pv_Ric dX6_on_11 ki_m1) (pv_Rret dX6_on_12 rfl)
set_option maxHeartbeats 200000 in
theorem bX6_on_13 {S : pv_S} {x1 : Int32} : pv_R mX6_on 13 [some (.ref 0), some (.int x1)] [] (pv_em S) = if x1 < 0 ∨ 3 ≤ x1.toNatClampNeg then none else if 0 ≤ (S.1 27 x1.toNatClampNeg) then pv_R mX6_on 34 [some (.ref 0), some (.int x1)] [] (pv_em S) else pv_R mX6_on 25 [some (.ref 0), some (.int x1)] [] (pv_em S) := Eq.trans (pv_Rstp dX6_on_13 rfl rfl rfl) (Eq.trans (pv_Rget dX6_on_14 ffX6_31 (by decide) (pv_ce_0 _ _) rfl) (Eq.trans (pv_Rget dX6_on_17 ffX6_186 (by decide) (pv_ce_21 _ _) rfl) (Eq.trans (pv_Rstp dX6_on_20 rfl rfl rfl) (Eq.trans (pv_Rald dX6_on_21 (by decide) (pv_ce_27 _ _)) (pv_iteN (fun h1 => pv_Rbr (tgt := 34) dX6_on_22 rfl rfl rfl rfl rfl (by decide)))))))
set_option maxHeartbeats 200000 in
theorem bX6_on_25 {S : pv_S} {x1 : Int32} : pv_R mX6_on 25 [some (.ref 0), some (.int x1)] [] (pv_em S) = pv_cc (pv_R mX4_answerFinding 0 [some (.ref 35), some (.int 1)] [] (pv_em S)) mX6_on 33 [some (.ref 0), some (.int x1)] [] := Eq.trans (pv_Rstp dX6_on_25 rfl rfl rfl) (Eq.trans (pv_Rget dX6_on_26 ffX6_45 (by decide) (pv_ce_0 _ _) rfl) (Eq.trans (pv_Ric dX6_on_29 ki_1) (pv_Rcall (As := [.ref 35, .int 1]) (rest := []) dX6_on_30 rfl mfX6_81 rfl rfl rfl rfl rfl)))
set_option maxHeartbeats 200000 in
theorem bX6_on_33 {S : pv_S} {x1 u0 : Int32} : pv_R mX6_on 33 [some (.ref 0), some (.int x1)] [.int u0] (pv_em S) = some (some (.int u0), pv_em S) := pv_Rret dX6_on_33 rfl
set_option maxHeartbeats 200000 in
theorem bX6_on_34 {S : pv_S} {x1 : Int32} : pv_R mX6_on 34 [some (.ref 0), some (.int x1)] [] (pv_em S) = pv_cc (pv_R mX5_restore 0 [some (.ref 21), some (.int x1), none, none] [] (pv_em S)) mX6_on 42 [some (.ref 0), some (.int x1)] [] := Eq.trans (pv_Rstp dX6_on_34 rfl rfl rfl) (Eq.trans (pv_Rget dX6_on_35 ffX6_31 (by decide) (pv_ce_0 _ _) rfl) (Eq.trans (pv_Rstp dX6_on_38 rfl rfl rfl) (pv_Rcall (As := [.ref 21, .int x1]) (rest := []) dX6_on_39 rfl mfX6_189 rfl rfl rfl rfl rfl)))
set_option maxHeartbeats 200000 in
theorem bX6_on_42 {S : pv_S} {x1 : Int32} : pv_R mX6_on 42 [some (.ref 0), some (.int x1)] [] (pv_em S) = some (some (.int (S.1 21 13)), pv_em S) := Eq.trans (pv_Rstp dX6_on_42 rfl rfl rfl) (Eq.trans (pv_Rget dX6_on_43 ffX6_31 (by decide) (pv_ce_0 _ _) rfl) (Eq.trans (pv_Rget dX6_on_46 ffX6_174 (by decide) (pv_ce_21 _ _) rfl) (pv_Rret dX6_on_49 rfl)))
theorem dX6_weighs_0 : decode cX6_weighs 0 = .ok (.aload_n 0, 1) := by decide +kernel
theorem dX6_weighs_1 : decode cX6_weighs 1 = .ok (.getfield 31, 3) := by decide +kernel
theorem dX6_weighs_4 : decode cX6_weighs 4 = .ok (.iload_n 1, 1) := by decide +kernel
theorem dX6_weighs_5 : decode cX6_weighs 5 = .ok (.invokevirtual 113, 3) := by decide +kernel
theorem dX6_weighs_8 : decode cX6_weighs 8 = .ok (.ifCond .eq 13, 3) := by decide +kernel
theorem dX6_weighs_11 : decode cX6_weighs 11 = .ok (.iload_n 2, 1) := by decide +kernel
theorem dX6_weighs_12 : decode cX6_weighs 12 = .ok (.iconst 0, 1) := by decide +kernel
theorem dX6_weighs_13 : decode cX6_weighs 13 = .ok (.bipush 60, 2) := by decide +kernel
theorem dX6_weighs_15 : decode cX6_weighs 15 = .ok (.invokestatic 116, 3) := by decide +kernel
theorem dX6_weighs_18 : decode cX6_weighs 18 = .ok (.ifCond .ne 5, 3) := by decide +kernel
theorem dX6_weighs_21 : decode cX6_weighs 21 = .ok (.iconst (-1), 1) := by decide +kernel
theorem dX6_weighs_22 : decode cX6_weighs 22 = .ok (.ireturn, 1) := by decide +kernel
theorem dX6_weighs_23 : decode cX6_weighs 23 = .ok (.aload_n 0, 1) := by decide +kernel
theorem dX6_weighs_24 : decode cX6_weighs 24 = .ok (.iload_n 1, 1) := by decide +kernel
theorem dX6_weighs_25 : decode cX6_weighs 25 = .ok (.iload_n 2, 1) := by decide +kernel
theorem dX6_weighs_26 : decode cX6_weighs 26 = .ok (.invokevirtual 192, 3) := by decide +kernel
theorem dX6_weighs_29 : decode cX6_weighs 29 = .ok (.aload_n 0, 1) := by decide +kernel
theorem dX6_weighs_30 : decode cX6_weighs 30 = .ok (.getfield 38, 3) := by decide +kernel
theorem dX6_weighs_33 : decode cX6_weighs 33 = .ok (.iload_n 2, 1) := by decide +kernel
theorem dX6_weighs_34 : decode cX6_weighs 34 = .ok (.invokevirtual 195, 3) := by decide +kernel
theorem dX6_weighs_37 : decode cX6_weighs 37 = .ok (.ireturn, 1) := by decide +kernel
set_option maxHeartbeats 200000 in
theorem bX6_weighs_0 {S : pv_S} {x1 x2 : Int32} : pv_R mX6_weighs 0 [some (.ref 0), some (.int x1), some (.int x2)] [] (pv_em S) = pv_cc (pv_R mX5_isCat 0 [some (.ref 21), some (.int x1)] [] (pv_em S)) mX6_weighs 8 [some (.ref 0), some (.int x1), some (.int x2)] [] := Eq.trans (pv_Rstp dX6_weighs_0 rfl rfl rfl) (Eq.trans (pv_Rget dX6_weighs_1 ffX6_31 (by decide) (pv_ce_0 _ _) rfl) (Eq.trans (pv_Rstp dX6_weighs_4 rfl rfl rfl) (pv_Rcall (As := [.ref 21, .int x1]) (rest := []) dX6_weighs_5 rfl mfX6_113 rfl rfl rfl rfl rfl)))
set_option maxHeartbeats 200000 in
theorem bX6_weighs_8 {S : pv_S} {x1 x2 u0 : Int32} : pv_R mX6_weighs 8 [some (.ref 0), some (.int x1), some (.int x2)] [.int u0] (pv_em S) = if u0 = 0 then pv_R mX6_weighs 21 [some (.ref 0), some (.int x1), some (.int x2)] [] (pv_em S) else pv_R mX6_weighs 11 [some (.ref 0), some (.int x1), some (.int x2)] [] (pv_em S) := pv_Rbr (tgt := 21) dX6_weighs_8 rfl rfl rfl rfl rfl (by decide)
set_option maxHeartbeats 200000 in
theorem bX6_weighs_11 {S : pv_S} {x1 x2 : Int32} : pv_R mX6_weighs 11 [some (.ref 0), some (.int x1), some (.int x2)] [] (pv_em S) = pv_cc (pv_R mX6_isWithin 0 [some (.int x2), some (.int 0), some (.int 60)] [] (pv_em S)) mX6_weighs 18 [some (.ref 0), some (.int x1), some (.int x2)] [] := Eq.trans (pv_Rstp dX6_weighs_11 rfl rfl rfl) (Eq.trans (pv_Ric dX6_weighs_12 ki_0) (Eq.trans (pv_Rbp dX6_weighs_13 kb_60) (pv_Rcall (As := [.int x2, .int 0, .int 60]) (rest := []) dX6_weighs_15 rfl mfX6_116 rfl rfl rfl rfl rfl)))
set_option maxHeartbeats 200000 in
theorem bX6_weighs_18 {S : pv_S} {x1 x2 u0 : Int32} : pv_R mX6_weighs 18 [some (.ref 0), some (.int x1), some (.int x2)] [.int u0] (pv_em S) = if ¬ u0 = 0 then pv_R mX6_weighs 23 [some (.ref 0), some (.int x1), some (.int x2)] [] (pv_em S) else pv_R mX6_weighs 21 [some (.ref 0), some (.int x1), some (.int x2)] [] (pv_em S) := pv_Rbr (tgt := 23) dX6_weighs_18 rfl rfl rfl rfl rfl (by decide)
set_option maxHeartbeats 200000 in
theorem bX6_weighs_21 {S : pv_S} {x1 x2 : Int32} : pv_R mX6_weighs 21 [some (.ref 0), some (.int x1), some (.int x2)] [] (pv_em S) = some (some (.int (-1)), pv_em S) := Eq.trans (pv_Ric dX6_weighs_21 ki_m1) (pv_Rret dX6_weighs_22 rfl)
set_option maxHeartbeats 200000 in
theorem bX6_weighs_23 {S : pv_S} {x1 x2 : Int32} : pv_R mX6_weighs 23 [some (.ref 0), some (.int x1), some (.int x2)] [] (pv_em S) = pv_cc (pv_R mX6_lookAhead 0 [some (.ref 0), some (.int x1), some (.int x2)] [] (pv_em S)) mX6_weighs 29 [some (.ref 0), some (.int x1), some (.int x2)] [] := Eq.trans (pv_Rstp dX6_weighs_23 rfl rfl rfl) (Eq.trans (pv_Rstp dX6_weighs_24 rfl rfl rfl) (Eq.trans (pv_Rstp dX6_weighs_25 rfl rfl rfl) (pv_Rcall (As := [.ref 0, .int x1, .int x2]) (rest := []) dX6_weighs_26 rfl mfX6_192 rfl rfl rfl rfl rfl)))
set_option maxHeartbeats 200000 in
theorem bX6_weighs_29 {S : pv_S} {x1 x2 : Int32} : pv_R mX6_weighs 29 [some (.ref 0), some (.int x1), some (.int x2)] [] (pv_em S) = pv_cc (pv_R mX1_weightIn 0 [some (.ref 32), some (.int x2)] [] (pv_em S)) mX6_weighs 37 [some (.ref 0), some (.int x1), some (.int x2)] [] := Eq.trans (pv_Rstp dX6_weighs_29 rfl rfl rfl) (Eq.trans (pv_Rget dX6_weighs_30 ffX6_38 (by decide) (pv_ce_0 _ _) rfl) (Eq.trans (pv_Rstp dX6_weighs_33 rfl rfl rfl) (pv_Rcall (As := [.ref 32, .int x2]) (rest := []) dX6_weighs_34 rfl mfX6_195 rfl rfl rfl rfl rfl)))
set_option maxHeartbeats 200000 in
theorem bX6_weighs_37 {S : pv_S} {x1 x2 u0 : Int32} : pv_R mX6_weighs 37 [some (.ref 0), some (.int x1), some (.int x2)] [.int u0] (pv_em S) = some (some (.int u0), pv_em S) := pv_Rret dX6_weighs_37 rfl
theorem dX6_when_0 : decode cX6_when 0 = .ok (.aload_n 0, 1) := by decide +kernel
theorem dX6_when_1 : decode cX6_when 1 = .ok (.getfield 31, 3) := by decide +kernel
theorem dX6_when_4 : decode cX6_when 4 = .ok (.iload_n 1, 1) := by decide +kernel
theorem dX6_when_5 : decode cX6_when 5 = .ok (.invokevirtual 113, 3) := by decide +kernel
theorem dX6_when_8 : decode cX6_when 8 = .ok (.ifCond .eq 14, 3) := by decide +kernel
theorem dX6_when_11 : decode cX6_when 11 = .ok (.iload_n 2, 1) := by decide +kernel
theorem dX6_when_12 : decode cX6_when 12 = .ok (.iconst 1, 1) := by decide +kernel
theorem dX6_when_13 : decode cX6_when 13 = .ok (.sipush 200, 3) := by decide +kernel
theorem dX6_when_16 : decode cX6_when 16 = .ok (.invokestatic 116, 3) := by decide +kernel
theorem dX6_when_19 : decode cX6_when 19 = .ok (.ifCond .ne 5, 3) := by decide +kernel
theorem dX6_when_22 : decode cX6_when 22 = .ok (.iconst (-1), 1) := by decide +kernel
theorem dX6_when_23 : decode cX6_when 23 = .ok (.ireturn, 1) := by decide +kernel
theorem dX6_when_24 : decode cX6_when 24 = .ok (.aload_n 0, 1) := by decide +kernel
theorem dX6_when_25 : decode cX6_when 25 = .ok (.iload_n 1, 1) := by decide +kernel
theorem dX6_when_26 : decode cX6_when 26 = .ok (.bipush 60, 2) := by decide +kernel
theorem dX6_when_28 : decode cX6_when 28 = .ok (.invokevirtual 192, 3) := by decide +kernel
theorem dX6_when_31 : decode cX6_when 31 = .ok (.aload_n 0, 1) := by decide +kernel
theorem dX6_when_32 : decode cX6_when 32 = .ok (.getfield 38, 3) := by decide +kernel
theorem dX6_when_35 : decode cX6_when 35 = .ok (.iload_n 2, 1) := by decide +kernel
theorem dX6_when_36 : decode cX6_when 36 = .ok (.invokevirtual 198, 3) := by decide +kernel
theorem dX6_when_39 : decode cX6_when 39 = .ok (.ireturn, 1) := by decide +kernel
set_option maxHeartbeats 200000 in
theorem bX6_when_0 {S : pv_S} {x1 x2 : Int32} : pv_R mX6_when 0 [some (.ref 0), some (.int x1), some (.int x2)] [] (pv_em S) = pv_cc (pv_R mX5_isCat 0 [some (.ref 21), some (.int x1)] [] (pv_em S)) mX6_when 8 [some (.ref 0), some (.int x1), some (.int x2)] [] := Eq.trans (pv_Rstp dX6_when_0 rfl rfl rfl) (Eq.trans (pv_Rget dX6_when_1 ffX6_31 (by decide) (pv_ce_0 _ _) rfl) (Eq.trans (pv_Rstp dX6_when_4 rfl rfl rfl) (pv_Rcall (As := [.ref 21, .int x1]) (rest := []) dX6_when_5 rfl mfX6_113 rfl rfl rfl rfl rfl)))
set_option maxHeartbeats 200000 in
theorem bX6_when_8 {S : pv_S} {x1 x2 u0 : Int32} : pv_R mX6_when 8 [some (.ref 0), some (.int x1), some (.int x2)] [.int u0] (pv_em S) = if u0 = 0 then pv_R mX6_when 22 [some (.ref 0), some (.int x1), some (.int x2)] [] (pv_em S) else pv_R mX6_when 11 [some (.ref 0), some (.int x1), some (.int x2)] [] (pv_em S) := pv_Rbr (tgt := 22) dX6_when_8 rfl rfl rfl rfl rfl (by decide)
set_option maxHeartbeats 200000 in
theorem bX6_when_11 {S : pv_S} {x1 x2 : Int32} : pv_R mX6_when 11 [some (.ref 0), some (.int x1), some (.int x2)] [] (pv_em S) = pv_cc (pv_R mX6_isWithin 0 [some (.int x2), some (.int 1), some (.int 200)] [] (pv_em S)) mX6_when 19 [some (.ref 0), some (.int x1), some (.int x2)] [] := Eq.trans (pv_Rstp dX6_when_11 rfl rfl rfl) (Eq.trans (pv_Ric dX6_when_12 ki_1) (Eq.trans (pv_Rsp dX6_when_13 ks_200) (pv_Rcall (As := [.int x2, .int 1, .int 200]) (rest := []) dX6_when_16 rfl mfX6_116 rfl rfl rfl rfl rfl)))
set_option maxHeartbeats 200000 in
theorem bX6_when_19 {S : pv_S} {x1 x2 u0 : Int32} : pv_R mX6_when 19 [some (.ref 0), some (.int x1), some (.int x2)] [.int u0] (pv_em S) = if ¬ u0 = 0 then pv_R mX6_when 24 [some (.ref 0), some (.int x1), some (.int x2)] [] (pv_em S) else pv_R mX6_when 22 [some (.ref 0), some (.int x1), some (.int x2)] [] (pv_em S) := pv_Rbr (tgt := 24) dX6_when_19 rfl rfl rfl rfl rfl (by decide)
set_option maxHeartbeats 200000 in
theorem bX6_when_22 {S : pv_S} {x1 x2 : Int32} : pv_R mX6_when 22 [some (.ref 0), some (.int x1), some (.int x2)] [] (pv_em S) = some (some (.int (-1)), pv_em S) := Eq.trans (pv_Ric dX6_when_22 ki_m1) (pv_Rret dX6_when_23 rfl)
set_option maxHeartbeats 200000 in
theorem bX6_when_24 {S : pv_S} {x1 x2 : Int32} : pv_R mX6_when 24 [some (.ref 0), some (.int x1), some (.int x2)] [] (pv_em S) = pv_cc (pv_R mX6_lookAhead 0 [some (.ref 0), some (.int x1), some (.int 60)] [] (pv_em S)) mX6_when 31 [some (.ref 0), some (.int x1), some (.int x2)] [] := Eq.trans (pv_Rstp dX6_when_24 rfl rfl rfl) (Eq.trans (pv_Rstp dX6_when_25 rfl rfl rfl) (Eq.trans (pv_Rbp dX6_when_26 kb_60) (pv_Rcall (As := [.ref 0, .int x1, .int 60]) (rest := []) dX6_when_28 rfl mfX6_192 rfl rfl rfl rfl rfl)))
set_option maxHeartbeats 200000 in
theorem bX6_when_31 {S : pv_S} {x1 x2 : Int32} : pv_R mX6_when 31 [some (.ref 0), some (.int x1), some (.int x2)] [] (pv_em S) = pv_cc (pv_R mX1_firstWith 0 [some (.ref 32), some (.int x2), none] [] (pv_em S)) mX6_when 39 [some (.ref 0), some (.int x1), some (.int x2)] [] := Eq.trans (pv_Rstp dX6_when_31 rfl rfl rfl) (Eq.trans (pv_Rget dX6_when_32 ffX6_38 (by decide) (pv_ce_0 _ _) rfl) (Eq.trans (pv_Rstp dX6_when_35 rfl rfl rfl) (pv_Rcall (As := [.ref 32, .int x2]) (rest := []) dX6_when_36 rfl mfX6_198 rfl rfl rfl rfl rfl)))
set_option maxHeartbeats 200000 in
theorem bX6_when_39 {S : pv_S} {x1 x2 u0 : Int32} : pv_R mX6_when 39 [some (.ref 0), some (.int x1), some (.int x2)] [.int u0] (pv_em S) = some (some (.int u0), pv_em S) := pv_Rret dX6_when_39 rfl
