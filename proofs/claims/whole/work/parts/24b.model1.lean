/-! ===== blocks: model1 ===== -/
theorem dX7_weighs_0 : decode cX7_weighs 0 = .ok (.aload_n 0, 1) := by decide +kernel
theorem dX7_weighs_1 : decode cX7_weighs 1 = .ok (.iload_n 1, 1) := by decide +kernel
theorem dX7_weighs_2 : decode cX7_weighs 2 = .ok (.invokevirtual 165, 3) := by decide +kernel
theorem dX7_weighs_5 : decode cX7_weighs 5 = .ok (.ifCond .eq 24, 3) := by decide +kernel
theorem dX7_weighs_8 : decode cX7_weighs 8 = .ok (.iload_n 2, 1) := by decide +kernel
theorem dX7_weighs_9 : decode cX7_weighs 9 = .ok (.i2l, 1) := by decide +kernel
theorem dX7_weighs_10 : decode cX7_weighs 10 = .ok (.lconst 0, 1) := by decide +kernel
theorem dX7_weighs_11 : decode cX7_weighs 11 = .ok (.ldc2_w 201, 3) := by decide +kernel
theorem dX7_weighs_14 : decode cX7_weighs 14 = .ok (.invokestatic 75, 3) := by decide +kernel
theorem dX7_weighs_17 : decode cX7_weighs 17 = .ok (.ifCond .eq 12, 3) := by decide +kernel
theorem dX7_weighs_20 : decode cX7_weighs 20 = .ok (.aload_n 0, 1) := by decide +kernel
theorem dX7_weighs_21 : decode cX7_weighs 21 = .ok (.iload_n 1, 1) := by decide +kernel
theorem dX7_weighs_22 : decode cX7_weighs 22 = .ok (.iload_n 2, 1) := by decide +kernel
theorem dX7_weighs_23 : decode cX7_weighs 23 = .ok (.invokevirtual 158, 3) := by decide +kernel
theorem dX7_weighs_26 : decode cX7_weighs 26 = .ok (.goto 4, 3) := by decide +kernel
theorem dX7_weighs_29 : decode cX7_weighs 29 = .ok (.iconst (-1), 1) := by decide +kernel
theorem dX7_weighs_30 : decode cX7_weighs 30 = .ok (.ireturn, 1) := by decide +kernel
set_option maxHeartbeats 200000 in
theorem bX7_weighs_0 {S : pv_S} {x1 x2 : Int32} : pv_R mX7_weighs 0 [some (.ref 37), some (.int x1), some (.int x2)] [] (pv_em S) = pv_cc (pv_R mX7_isCat 0 [some (.ref 37), some (.int x1)] [] (pv_em S)) mX7_weighs 5 [some (.ref 37), some (.int x1), some (.int x2)] [] := Eq.trans (pv_Rstp dX7_weighs_0 rfl rfl rfl) (Eq.trans (pv_Rstp dX7_weighs_1 rfl rfl rfl) (pv_Rcall (As := [.ref 37, .int x1]) (rest := []) dX7_weighs_2 rfl mfX7_165 rfl rfl rfl rfl rfl))
set_option maxHeartbeats 200000 in
theorem bX7_weighs_5 {S : pv_S} {x1 x2 u0 : Int32} : pv_R mX7_weighs 5 [some (.ref 37), some (.int x1), some (.int x2)] [.int u0] (pv_em S) = if u0 = 0 then pv_R mX7_weighs 29 [some (.ref 37), some (.int x1), some (.int x2)] [] (pv_em S) else pv_R mX7_weighs 8 [some (.ref 37), some (.int x1), some (.int x2)] [] (pv_em S) := pv_Rbr (tgt := 29) dX7_weighs_5 rfl rfl rfl rfl rfl (by decide)
set_option maxHeartbeats 200000 in
theorem bX7_weighs_8 {S : pv_S} {x1 x2 : Int32} : pv_R mX7_weighs 8 [some (.ref 37), some (.int x1), some (.int x2)] [] (pv_em S) = pv_cc (pv_R mX7_in 0 [some (.long (Int32.toInt64 x2)), none, some (.long 0), none, some (.long 60), none] [] (pv_em S)) mX7_weighs 17 [some (.ref 37), some (.int x1), some (.int x2)] [] := Eq.trans (pv_Rstp dX7_weighs_8 rfl rfl rfl) (Eq.trans (pv_Rstp dX7_weighs_9 rfl rfl rfl) (Eq.trans (pv_Rlc dX7_weighs_10 kl_0) (Eq.trans (pv_Rstp dX7_weighs_11 rfl rfl rfl) (pv_Rcall (As := [.long (Int32.toInt64 x2), .long 0, .long 60]) (rest := []) dX7_weighs_14 rfl mfX7_75 rfl rfl rfl rfl rfl))))
set_option maxHeartbeats 200000 in
theorem bX7_weighs_17 {S : pv_S} {x1 x2 u0 : Int32} : pv_R mX7_weighs 17 [some (.ref 37), some (.int x1), some (.int x2)] [.int u0] (pv_em S) = if u0 = 0 then pv_R mX7_weighs 29 [some (.ref 37), some (.int x1), some (.int x2)] [] (pv_em S) else pv_R mX7_weighs 20 [some (.ref 37), some (.int x1), some (.int x2)] [] (pv_em S) := pv_Rbr (tgt := 29) dX7_weighs_17 rfl rfl rfl rfl rfl (by decide)
set_option maxHeartbeats 200000 in
theorem bX7_weighs_20 {S : pv_S} {x1 x2 : Int32} : pv_R mX7_weighs 20 [some (.ref 37), some (.int x1), some (.int x2)] [] (pv_em S) = pv_cc (pv_R mX7_afterOf 0 [some (.ref 37), some (.int x1), some (.int x2)] [] (pv_em S)) mX7_weighs 26 [some (.ref 37), some (.int x1), some (.int x2)] [] := Eq.trans (pv_Rstp dX7_weighs_20 rfl rfl rfl) (Eq.trans (pv_Rstp dX7_weighs_21 rfl rfl rfl) (Eq.trans (pv_Rstp dX7_weighs_22 rfl rfl rfl) (pv_Rcall (As := [.ref 37, .int x1, .int x2]) (rest := []) dX7_weighs_23 rfl mfX7_158 rfl rfl rfl rfl rfl)))
set_option maxHeartbeats 200000 in
theorem bX7_weighs_26 {S : pv_S} {x1 x2 u0 : Int32} : pv_R mX7_weighs 26 [some (.ref 37), some (.int x1), some (.int x2)] [.int u0] (pv_em S) = pv_R mX7_weighs 30 [some (.ref 37), some (.int x1), some (.int x2)] [.int u0] (pv_em S) := pv_Rgo (tgt := 30) dX7_weighs_26 rfl (by decide)
set_option maxHeartbeats 200000 in
theorem bX7_weighs_29 {S : pv_S} {x1 x2 : Int32} : pv_R mX7_weighs 29 [some (.ref 37), some (.int x1), some (.int x2)] [] (pv_em S) = pv_R mX7_weighs 30 [some (.ref 37), some (.int x1), some (.int x2)] [.int (-1)] (pv_em S) := pv_Ric dX7_weighs_29 ki_m1
set_option maxHeartbeats 200000 in
theorem bX7_weighs_30 {S : pv_S} {x1 x2 u0 : Int32} : pv_R mX7_weighs 30 [some (.ref 37), some (.int x1), some (.int x2)] [.int u0] (pv_em S) = some (some (.int u0), pv_em S) := pv_Rret dX7_weighs_30 rfl
theorem dX7_when_0 : decode cX7_when 0 = .ok (.aload_n 0, 1) := by decide +kernel
theorem dX7_when_1 : decode cX7_when 1 = .ok (.iload_n 1, 1) := by decide +kernel
theorem dX7_when_2 : decode cX7_when 2 = .ok (.invokevirtual 165, 3) := by decide +kernel
theorem dX7_when_5 : decode cX7_when 5 = .ok (.ifCond .eq 15, 3) := by decide +kernel
theorem dX7_when_8 : decode cX7_when 8 = .ok (.iload_n 2, 1) := by decide +kernel
theorem dX7_when_9 : decode cX7_when 9 = .ok (.i2l, 1) := by decide +kernel
theorem dX7_when_10 : decode cX7_when 10 = .ok (.lconst 1, 1) := by decide +kernel
theorem dX7_when_11 : decode cX7_when 11 = .ok (.ldc2_w 203, 3) := by decide +kernel
theorem dX7_when_14 : decode cX7_when 14 = .ok (.invokestatic 75, 3) := by decide +kernel
theorem dX7_when_17 : decode cX7_when 17 = .ok (.ifCond .ne 5, 3) := by decide +kernel
theorem dX7_when_20 : decode cX7_when 20 = .ok (.iconst (-1), 1) := by decide +kernel
theorem dX7_when_21 : decode cX7_when 21 = .ok (.ireturn, 1) := by decide +kernel
theorem dX7_when_22 : decode cX7_when 22 = .ok (.iconst 0, 1) := by decide +kernel
theorem dX7_when_23 : decode cX7_when 23 = .ok (.istore_n 3, 1) := by decide +kernel
theorem dX7_when_24 : decode cX7_when 24 = .ok (.iload_n 3, 1) := by decide +kernel
theorem dX7_when_25 : decode cX7_when 25 = .ok (.bipush 61, 2) := by decide +kernel
theorem dX7_when_27 : decode cX7_when 27 = .ok (.if_icmp .ge 21, 3) := by decide +kernel
theorem dX7_when_30 : decode cX7_when 30 = .ok (.aload_n 0, 1) := by decide +kernel
theorem dX7_when_31 : decode cX7_when 31 = .ok (.iload_n 1, 1) := by decide +kernel
theorem dX7_when_32 : decode cX7_when 32 = .ok (.iload_n 3, 1) := by decide +kernel
theorem dX7_when_33 : decode cX7_when 33 = .ok (.invokevirtual 158, 3) := by decide +kernel
theorem dX7_when_36 : decode cX7_when 36 = .ok (.iload_n 2, 1) := by decide +kernel
theorem dX7_when_37 : decode cX7_when 37 = .ok (.if_icmp .ne 5, 3) := by decide +kernel
theorem dX7_when_40 : decode cX7_when 40 = .ok (.iload_n 3, 1) := by decide +kernel
theorem dX7_when_41 : decode cX7_when 41 = .ok (.ireturn, 1) := by decide +kernel
theorem dX7_when_42 : decode cX7_when 42 = .ok (.iinc 3 1, 3) := by decide +kernel
theorem dX7_when_45 : decode cX7_when 45 = .ok (.goto (-21), 3) := by decide +kernel
theorem dX7_when_48 : decode cX7_when 48 = .ok (.bipush (-9), 2) := by decide +kernel
theorem dX7_when_50 : decode cX7_when 50 = .ok (.ireturn, 1) := by decide +kernel
set_option maxHeartbeats 200000 in
theorem bX7_when_0 {S : pv_S} {x1 x2 : Int32} {a3 : Option Value} : pv_R mX7_when 0 [some (.ref 37), some (.int x1), some (.int x2), a3] [] (pv_em S) = pv_cc (pv_R mX7_isCat 0 [some (.ref 37), some (.int x1)] [] (pv_em S)) mX7_when 5 [some (.ref 37), some (.int x1), some (.int x2), a3] [] := Eq.trans (pv_Rstp dX7_when_0 rfl rfl rfl) (Eq.trans (pv_Rstp dX7_when_1 rfl rfl rfl) (pv_Rcall (As := [.ref 37, .int x1]) (rest := []) dX7_when_2 rfl mfX7_165 rfl rfl rfl rfl rfl))
set_option maxHeartbeats 200000 in
theorem bX7_when_5 {S : pv_S} {x1 x2 u0 : Int32} {a3 : Option Value} : pv_R mX7_when 5 [some (.ref 37), some (.int x1), some (.int x2), a3] [.int u0] (pv_em S) = if u0 = 0 then pv_R mX7_when 20 [some (.ref 37), some (.int x1), some (.int x2), a3] [] (pv_em S) else pv_R mX7_when 8 [some (.ref 37), some (.int x1), some (.int x2), a3] [] (pv_em S) := pv_Rbr (tgt := 20) dX7_when_5 rfl rfl rfl rfl rfl (by decide)
set_option maxHeartbeats 200000 in
theorem bX7_when_8 {S : pv_S} {x1 x2 : Int32} {a3 : Option Value} : pv_R mX7_when 8 [some (.ref 37), some (.int x1), some (.int x2), a3] [] (pv_em S) = pv_cc (pv_R mX7_in 0 [some (.long (Int32.toInt64 x2)), none, some (.long 1), none, some (.long 200), none] [] (pv_em S)) mX7_when 17 [some (.ref 37), some (.int x1), some (.int x2), a3] [] := Eq.trans (pv_Rstp dX7_when_8 rfl rfl rfl) (Eq.trans (pv_Rstp dX7_when_9 rfl rfl rfl) (Eq.trans (pv_Rlc dX7_when_10 kl_1) (Eq.trans (pv_Rstp dX7_when_11 rfl rfl rfl) (pv_Rcall (As := [.long (Int32.toInt64 x2), .long 1, .long 200]) (rest := []) dX7_when_14 rfl mfX7_75 rfl rfl rfl rfl rfl))))
set_option maxHeartbeats 200000 in
theorem bX7_when_17 {S : pv_S} {x1 x2 u0 : Int32} {a3 : Option Value} : pv_R mX7_when 17 [some (.ref 37), some (.int x1), some (.int x2), a3] [.int u0] (pv_em S) = if ¬ u0 = 0 then pv_R mX7_when 22 [some (.ref 37), some (.int x1), some (.int x2), a3] [] (pv_em S) else pv_R mX7_when 20 [some (.ref 37), some (.int x1), some (.int x2), a3] [] (pv_em S) := pv_Rbr (tgt := 22) dX7_when_17 rfl rfl rfl rfl rfl (by decide)
set_option maxHeartbeats 200000 in
theorem bX7_when_20 {S : pv_S} {x1 x2 : Int32} {a3 : Option Value} : pv_R mX7_when 20 [some (.ref 37), some (.int x1), some (.int x2), a3] [] (pv_em S) = some (some (.int (-1)), pv_em S) := Eq.trans (pv_Ric dX7_when_20 ki_m1) (pv_Rret dX7_when_21 rfl)
set_option maxHeartbeats 200000 in
theorem bX7_when_22 {S : pv_S} {x1 x2 : Int32} {a3 : Option Value} : pv_R mX7_when 22 [some (.ref 37), some (.int x1), some (.int x2), a3] [] (pv_em S) = pv_R mX7_when 24 [some (.ref 37), some (.int x1), some (.int x2), some (.int 0)] [] (pv_em S) := Eq.trans (pv_Ric dX7_when_22 ki_0) (pv_Rstp dX7_when_23 rfl rfl rfl)
set_option maxHeartbeats 200000 in
theorem bX7_when_24 {S : pv_S} {x1 x2 x3 : Int32} : pv_R mX7_when 24 [some (.ref 37), some (.int x1), some (.int x2), some (.int x3)] [] (pv_em S) = if 61 ≤ x3 then pv_R mX7_when 48 [some (.ref 37), some (.int x1), some (.int x2), some (.int x3)] [] (pv_em S) else pv_R mX7_when 30 [some (.ref 37), some (.int x1), some (.int x2), some (.int x3)] [] (pv_em S) := Eq.trans (pv_Rstp dX7_when_24 rfl rfl rfl) (Eq.trans (pv_Rbp dX7_when_25 kb_61) (pv_Rbr (tgt := 48) dX7_when_27 rfl rfl rfl rfl rfl (by decide)))
set_option maxHeartbeats 200000 in
theorem bX7_when_30 {S : pv_S} {x1 x2 x3 : Int32} : pv_R mX7_when 30 [some (.ref 37), some (.int x1), some (.int x2), some (.int x3)] [] (pv_em S) = pv_cc (pv_R mX7_afterOf 0 [some (.ref 37), some (.int x1), some (.int x3)] [] (pv_em S)) mX7_when 36 [some (.ref 37), some (.int x1), some (.int x2), some (.int x3)] [] := Eq.trans (pv_Rstp dX7_when_30 rfl rfl rfl) (Eq.trans (pv_Rstp dX7_when_31 rfl rfl rfl) (Eq.trans (pv_Rstp dX7_when_32 rfl rfl rfl) (pv_Rcall (As := [.ref 37, .int x1, .int x3]) (rest := []) dX7_when_33 rfl mfX7_158 rfl rfl rfl rfl rfl)))
set_option maxHeartbeats 200000 in
theorem bX7_when_36 {S : pv_S} {x1 x2 x3 u0 : Int32} : pv_R mX7_when 36 [some (.ref 37), some (.int x1), some (.int x2), some (.int x3)] [.int u0] (pv_em S) = if ¬ u0 = x2 then pv_R mX7_when 42 [some (.ref 37), some (.int x1), some (.int x2), some (.int x3)] [] (pv_em S) else pv_R mX7_when 40 [some (.ref 37), some (.int x1), some (.int x2), some (.int x3)] [] (pv_em S) := Eq.trans (pv_Rstp dX7_when_36 rfl rfl rfl) (pv_Rbr (tgt := 42) dX7_when_37 rfl rfl rfl rfl rfl (by decide))
set_option maxHeartbeats 200000 in
theorem bX7_when_40 {S : pv_S} {x1 x2 x3 : Int32} : pv_R mX7_when 40 [some (.ref 37), some (.int x1), some (.int x2), some (.int x3)] [] (pv_em S) = some (some (.int x3), pv_em S) := Eq.trans (pv_Rstp dX7_when_40 rfl rfl rfl) (pv_Rret dX7_when_41 rfl)
set_option maxHeartbeats 200000 in
theorem bX7_when_42 {S : pv_S} {x1 x2 x3 : Int32} : pv_R mX7_when 42 [some (.ref 37), some (.int x1), some (.int x2), some (.int x3)] [] (pv_em S) = pv_R mX7_when 24 [some (.ref 37), some (.int x1), some (.int x2), some (.int (x3 + 1))] [] (pv_em S) := Eq.trans (pv_Rinc dX7_when_42 rfl (Nat.le_of_ble_eq_true rfl) ki_1 rfl) (pv_Rgo (tgt := 24) dX7_when_45 rfl (by decide))
set_option maxHeartbeats 200000 in
theorem bX7_when_48 {S : pv_S} {x1 x2 x3 : Int32} : pv_R mX7_when 48 [some (.ref 37), some (.int x1), some (.int x2), some (.int x3)] [] (pv_em S) = some (some (.int (-9)), pv_em S) := Eq.trans (pv_Rbp dX7_when_48 kb_m9) (pv_Rret dX7_when_50 rfl)
theorem dX7_steady_0 : decode cX7_steady 0 = .ok (.iload_n 1, 1) := by decide +kernel
theorem dX7_steady_1 : decode cX7_steady 1 = .ok (.i2l, 1) := by decide +kernel
theorem dX7_steady_2 : decode cX7_steady 2 = .ok (.lconst 0, 1) := by decide +kernel
theorem dX7_steady_3 : decode cX7_steady 3 = .ok (.ldc2_w 201, 3) := by decide +kernel
theorem dX7_steady_6 : decode cX7_steady 6 = .ok (.invokestatic 75, 3) := by decide +kernel
theorem dX7_steady_9 : decode cX7_steady 9 = .ok (.ifCond .ne 5, 3) := by decide +kernel
theorem dX7_steady_12 : decode cX7_steady 12 = .ok (.iconst (-1), 1) := by decide +kernel
theorem dX7_steady_13 : decode cX7_steady 13 = .ok (.ireturn, 1) := by decide +kernel
theorem dX7_steady_14 : decode cX7_steady 14 = .ok (.aload_n 0, 1) := by decide +kernel
theorem dX7_steady_15 : decode cX7_steady 15 = .ok (.getfield 138, 3) := by decide +kernel
theorem dX7_steady_18 : decode cX7_steady 18 = .ok (.ifCond .ne 6, 3) := by decide +kernel
theorem dX7_steady_21 : decode cX7_steady 21 = .ok (.bipush (-4), 2) := by decide +kernel
theorem dX7_steady_23 : decode cX7_steady 23 = .ok (.ireturn, 1) := by decide +kernel
theorem dX7_steady_24 : decode cX7_steady 24 = .ok (.bipush (-9), 2) := by decide +kernel
theorem dX7_steady_26 : decode cX7_steady 26 = .ok (.istore_n 2, 1) := by decide +kernel
theorem dX7_steady_27 : decode cX7_steady 27 = .ok (.ldc 205, 2) := by decide +kernel
theorem dX7_steady_29 : decode cX7_steady 29 = .ok (.istore_n 3, 1) := by decide +kernel
theorem dX7_steady_30 : decode cX7_steady 30 = .ok (.iconst 0, 1) := by decide +kernel
theorem dX7_steady_31 : decode cX7_steady 31 = .ok (.istore 4, 2) := by decide +kernel
theorem dX7_steady_33 : decode cX7_steady 33 = .ok (.iload 4, 2) := by decide +kernel
theorem dX7_steady_35 : decode cX7_steady 35 = .ok (.aload_n 0, 1) := by decide +kernel
theorem dX7_steady_36 : decode cX7_steady 36 = .ok (.getfield 138, 3) := by decide +kernel
theorem dX7_steady_39 : decode cX7_steady 39 = .ok (.if_icmp .ge 108, 3) := by decide +kernel
theorem dX7_steady_42 : decode cX7_steady 42 = .ok (.ldc 205, 2) := by decide +kernel
theorem dX7_steady_44 : decode cX7_steady 44 = .ok (.istore 5, 2) := by decide +kernel
theorem dX7_steady_46 : decode cX7_steady 46 = .ok (.iconst 0, 1) := by decide +kernel
theorem dX7_steady_47 : decode cX7_steady 47 = .ok (.istore 6, 2) := by decide +kernel
theorem dX7_steady_49 : decode cX7_steady 49 = .ok (.iconst 0, 1) := by decide +kernel
theorem dX7_steady_50 : decode cX7_steady 50 = .ok (.istore 7, 2) := by decide +kernel
theorem dX7_steady_52 : decode cX7_steady 52 = .ok (.iload 7, 2) := by decide +kernel
theorem dX7_steady_54 : decode cX7_steady 54 = .ok (.iload_n 1, 1) := by decide +kernel
theorem dX7_steady_55 : decode cX7_steady 55 = .ok (.if_icmp .gt 51, 3) := by decide +kernel
theorem dX7_steady_58 : decode cX7_steady 58 = .ok (.aload_n 0, 1) := by decide +kernel
theorem dX7_steady_59 : decode cX7_steady 59 = .ok (.iload 4, 2) := by decide +kernel
theorem dX7_steady_61 : decode cX7_steady 61 = .ok (.iload 7, 2) := by decide +kernel
theorem dX7_steady_63 : decode cX7_steady 63 = .ok (.invokevirtual 158, 3) := by decide +kernel
theorem dX7_steady_66 : decode cX7_steady 66 = .ok (.istore 8, 2) := by decide +kernel
theorem dX7_steady_68 : decode cX7_steady 68 = .ok (.iload 8, 2) := by decide +kernel
theorem dX7_steady_70 : decode cX7_steady 70 = .ok (.iload 5, 2) := by decide +kernel
theorem dX7_steady_72 : decode cX7_steady 72 = .ok (.if_icmp .ge 8, 3) := by decide +kernel
theorem dX7_steady_75 : decode cX7_steady 75 = .ok (.iload 8, 2) := by decide +kernel
theorem dX7_steady_77 : decode cX7_steady 77 = .ok (.goto 5, 3) := by decide +kernel
theorem dX7_steady_80 : decode cX7_steady 80 = .ok (.iload 5, 2) := by decide +kernel
theorem dX7_steady_82 : decode cX7_steady 82 = .ok (.istore 5, 2) := by decide +kernel
theorem dX7_steady_84 : decode cX7_steady 84 = .ok (.iload 8, 2) := by decide +kernel
theorem dX7_steady_86 : decode cX7_steady 86 = .ok (.iload 6, 2) := by decide +kernel
theorem dX7_steady_88 : decode cX7_steady 88 = .ok (.if_icmp .le 8, 3) := by decide +kernel
theorem dX7_steady_91 : decode cX7_steady 91 = .ok (.iload 8, 2) := by decide +kernel
theorem dX7_steady_93 : decode cX7_steady 93 = .ok (.goto 5, 3) := by decide +kernel
theorem dX7_steady_96 : decode cX7_steady 96 = .ok (.iload 6, 2) := by decide +kernel
theorem dX7_steady_98 : decode cX7_steady 98 = .ok (.istore 6, 2) := by decide +kernel
theorem dX7_steady_100 : decode cX7_steady 100 = .ok (.iinc 7 1, 3) := by decide +kernel
theorem dX7_steady_103 : decode cX7_steady 103 = .ok (.goto (-51), 3) := by decide +kernel
theorem dX7_steady_106 : decode cX7_steady 106 = .ok (.iload 6, 2) := by decide +kernel
theorem dX7_steady_108 : decode cX7_steady 108 = .ok (.iload 5, 2) := by decide +kernel
theorem dX7_steady_110 : decode cX7_steady 110 = .ok (.isub, 1) := by decide +kernel
theorem dX7_steady_111 : decode cX7_steady 111 = .ok (.iload_n 3, 1) := by decide +kernel
theorem dX7_steady_112 : decode cX7_steady 112 = .ok (.if_icmp .ge 8, 3) := by decide +kernel
theorem dX7_steady_115 : decode cX7_steady 115 = .ok (.iload 4, 2) := by decide +kernel
theorem dX7_steady_117 : decode cX7_steady 117 = .ok (.goto 4, 3) := by decide +kernel
theorem dX7_steady_120 : decode cX7_steady 120 = .ok (.iload_n 2, 1) := by decide +kernel
theorem dX7_steady_121 : decode cX7_steady 121 = .ok (.istore_n 2, 1) := by decide +kernel
theorem dX7_steady_122 : decode cX7_steady 122 = .ok (.iload 6, 2) := by decide +kernel
theorem dX7_steady_124 : decode cX7_steady 124 = .ok (.iload 5, 2) := by decide +kernel
theorem dX7_steady_126 : decode cX7_steady 126 = .ok (.isub, 1) := by decide +kernel
theorem dX7_steady_127 : decode cX7_steady 127 = .ok (.iload_n 3, 1) := by decide +kernel
theorem dX7_steady_128 : decode cX7_steady 128 = .ok (.if_icmp .ge 11, 3) := by decide +kernel
theorem dX7_steady_131 : decode cX7_steady 131 = .ok (.iload 6, 2) := by decide +kernel
theorem dX7_steady_133 : decode cX7_steady 133 = .ok (.iload 5, 2) := by decide +kernel
theorem dX7_steady_135 : decode cX7_steady 135 = .ok (.isub, 1) := by decide +kernel
theorem dX7_steady_136 : decode cX7_steady 136 = .ok (.goto 4, 3) := by decide +kernel
theorem dX7_steady_139 : decode cX7_steady 139 = .ok (.iload_n 3, 1) := by decide +kernel
theorem dX7_steady_140 : decode cX7_steady 140 = .ok (.istore_n 3, 1) := by decide +kernel
theorem dX7_steady_141 : decode cX7_steady 141 = .ok (.iinc 4 1, 3) := by decide +kernel
theorem dX7_steady_144 : decode cX7_steady 144 = .ok (.goto (-111), 3) := by decide +kernel
theorem dX7_steady_147 : decode cX7_steady 147 = .ok (.aload_n 0, 1) := by decide +kernel
theorem dX7_steady_148 : decode cX7_steady 148 = .ok (.iload_n 2, 1) := by decide +kernel
theorem dX7_steady_149 : decode cX7_steady 149 = .ok (.iload_n 3, 1) := by decide +kernel
theorem dX7_steady_150 : decode cX7_steady 150 = .ok (.invokevirtual 206, 3) := by decide +kernel
theorem dX7_steady_153 : decode cX7_steady 153 = .ok (.ireturn, 1) := by decide +kernel
set_option maxHeartbeats 200000 in
theorem bX7_steady_0 {S : pv_S} {x1 : Int32} {a2 a3 a4 a5 a6 a7 a8 : Option Value} : pv_R mX7_steady 0 [some (.ref 37), some (.int x1), a2, a3, a4, a5, a6, a7, a8] [] (pv_em S) = pv_cc (pv_R mX7_in 0 [some (.long (Int32.toInt64 x1)), none, some (.long 0), none, some (.long 60), none] [] (pv_em S)) mX7_steady 9 [some (.ref 37), some (.int x1), a2, a3, a4, a5, a6, a7, a8] [] := Eq.trans (pv_Rstp dX7_steady_0 rfl rfl rfl) (Eq.trans (pv_Rstp dX7_steady_1 rfl rfl rfl) (Eq.trans (pv_Rlc dX7_steady_2 kl_0) (Eq.trans (pv_Rstp dX7_steady_3 rfl rfl rfl) (pv_Rcall (As := [.long (Int32.toInt64 x1), .long 0, .long 60]) (rest := []) dX7_steady_6 rfl mfX7_75 rfl rfl rfl rfl rfl))))
set_option maxHeartbeats 200000 in
theorem bX7_steady_9 {S : pv_S} {x1 u0 : Int32} {a2 a3 a4 a5 a6 a7 a8 : Option Value} : pv_R mX7_steady 9 [some (.ref 37), some (.int x1), a2, a3, a4, a5, a6, a7, a8] [.int u0] (pv_em S) = if ¬ u0 = 0 then pv_R mX7_steady 14 [some (.ref 37), some (.int x1), a2, a3, a4, a5, a6, a7, a8] [] (pv_em S) else pv_R mX7_steady 12 [some (.ref 37), some (.int x1), a2, a3, a4, a5, a6, a7, a8] [] (pv_em S) := pv_Rbr (tgt := 14) dX7_steady_9 rfl rfl rfl rfl rfl (by decide)
set_option maxHeartbeats 200000 in
theorem bX7_steady_12 {S : pv_S} {x1 : Int32} {a2 a3 a4 a5 a6 a7 a8 : Option Value} : pv_R mX7_steady 12 [some (.ref 37), some (.int x1), a2, a3, a4, a5, a6, a7, a8] [] (pv_em S) = some (some (.int (-1)), pv_em S) := Eq.trans (pv_Ric dX7_steady_12 ki_m1) (pv_Rret dX7_steady_13 rfl)
set_option maxHeartbeats 200000 in
theorem bX7_steady_14 {S : pv_S} {x1 : Int32} {a2 a3 a4 a5 a6 a7 a8 : Option Value} : pv_R mX7_steady 14 [some (.ref 37), some (.int x1), a2, a3, a4, a5, a6, a7, a8] [] (pv_em S) = if ¬ (S.1 37 4) = 0 then pv_R mX7_steady 24 [some (.ref 37), some (.int x1), a2, a3, a4, a5, a6, a7, a8] [] (pv_em S) else pv_R mX7_steady 21 [some (.ref 37), some (.int x1), a2, a3, a4, a5, a6, a7, a8] [] (pv_em S) := Eq.trans (pv_Rstp dX7_steady_14 rfl rfl rfl) (Eq.trans (pv_Rget dX7_steady_15 ffX7_138 (by decide) (pv_ce_37 _ _) rfl) (pv_Rbr (tgt := 24) dX7_steady_18 rfl rfl rfl rfl rfl (by decide)))
set_option maxHeartbeats 200000 in
theorem bX7_steady_21 {S : pv_S} {x1 : Int32} {a2 a3 a4 a5 a6 a7 a8 : Option Value} : pv_R mX7_steady 21 [some (.ref 37), some (.int x1), a2, a3, a4, a5, a6, a7, a8] [] (pv_em S) = some (some (.int (-4)), pv_em S) := Eq.trans (pv_Rbp dX7_steady_21 kb_m4) (pv_Rret dX7_steady_23 rfl)
set_option maxHeartbeats 200000 in
theorem bX7_steady_24 {S : pv_S} {x1 : Int32} {a2 a3 a4 a5 a6 a7 a8 : Option Value} : pv_R mX7_steady 24 [some (.ref 37), some (.int x1), a2, a3, a4, a5, a6, a7, a8] [] (pv_em S) = pv_R mX7_steady 33 [some (.ref 37), some (.int x1), some (.int (-9)), some (.int 1000000), some (.int 0), a5, a6, a7, a8] [] (pv_em S) := Eq.trans (pv_Rbp dX7_steady_24 kb_m9) (Eq.trans (pv_Rstp dX7_steady_26 rfl rfl rfl) (Eq.trans (pv_Rstp dX7_steady_27 rfl rfl rfl) (Eq.trans (pv_Rstp dX7_steady_29 rfl rfl rfl) (Eq.trans (pv_Ric dX7_steady_30 ki_0) (pv_Rstp dX7_steady_31 rfl rfl rfl)))))
set_option maxHeartbeats 200000 in
theorem bX7_steady_33 {S : pv_S} {x1 x2 x3 x4 : Int32} {a5 a6 a7 a8 : Option Value} : pv_R mX7_steady 33 [some (.ref 37), some (.int x1), some (.int x2), some (.int x3), some (.int x4), a5, a6, a7, a8] [] (pv_em S) = if (S.1 37 4) ≤ x4 then pv_R mX7_steady 147 [some (.ref 37), some (.int x1), some (.int x2), some (.int x3), some (.int x4), a5, a6, a7, a8] [] (pv_em S) else pv_R mX7_steady 42 [some (.ref 37), some (.int x1), some (.int x2), some (.int x3), some (.int x4), a5, a6, a7, a8] [] (pv_em S) := Eq.trans (pv_Rstp dX7_steady_33 rfl rfl rfl) (Eq.trans (pv_Rstp dX7_steady_35 rfl rfl rfl) (Eq.trans (pv_Rget dX7_steady_36 ffX7_138 (by decide) (pv_ce_37 _ _) rfl) (pv_Rbr (tgt := 147) dX7_steady_39 rfl rfl rfl rfl rfl (by decide))))
set_option maxHeartbeats 200000 in
theorem bX7_steady_42 {S : pv_S} {x1 x2 x3 x4 : Int32} {a5 a6 a7 a8 : Option Value} : pv_R mX7_steady 42 [some (.ref 37), some (.int x1), some (.int x2), some (.int x3), some (.int x4), a5, a6, a7, a8] [] (pv_em S) = pv_R mX7_steady 52 [some (.ref 37), some (.int x1), some (.int x2), some (.int x3), some (.int x4), some (.int 1000000), some (.int 0), some (.int 0), a8] [] (pv_em S) := Eq.trans (pv_Rstp dX7_steady_42 rfl rfl rfl) (Eq.trans (pv_Rstp dX7_steady_44 rfl rfl rfl) (Eq.trans (pv_Ric dX7_steady_46 ki_0) (Eq.trans (pv_Rstp dX7_steady_47 rfl rfl rfl) (Eq.trans (pv_Ric dX7_steady_49 ki_0) (pv_Rstp dX7_steady_50 rfl rfl rfl)))))
set_option maxHeartbeats 200000 in
theorem bX7_steady_52 {S : pv_S} {x1 x2 x3 x4 x5 x6 x7 : Int32} {a8 : Option Value} : pv_R mX7_steady 52 [some (.ref 37), some (.int x1), some (.int x2), some (.int x3), some (.int x4), some (.int x5), some (.int x6), some (.int x7), a8] [] (pv_em S) = if x1 < x7 then pv_R mX7_steady 106 [some (.ref 37), some (.int x1), some (.int x2), some (.int x3), some (.int x4), some (.int x5), some (.int x6), some (.int x7), a8] [] (pv_em S) else pv_R mX7_steady 58 [some (.ref 37), some (.int x1), some (.int x2), some (.int x3), some (.int x4), some (.int x5), some (.int x6), some (.int x7), a8] [] (pv_em S) := Eq.trans (pv_Rstp dX7_steady_52 rfl rfl rfl) (Eq.trans (pv_Rstp dX7_steady_54 rfl rfl rfl) (pv_Rbr (tgt := 106) dX7_steady_55 rfl rfl rfl rfl rfl (by decide)))
set_option maxHeartbeats 200000 in
theorem bX7_steady_58 {S : pv_S} {x1 x2 x3 x4 x5 x6 x7 : Int32} {a8 : Option Value} : pv_R mX7_steady 58 [some (.ref 37), some (.int x1), some (.int x2), some (.int x3), some (.int x4), some (.int x5), some (.int x6), some (.int x7), a8] [] (pv_em S) = pv_cc (pv_R mX7_afterOf 0 [some (.ref 37), some (.int x4), some (.int x7)] [] (pv_em S)) mX7_steady 66 [some (.ref 37), some (.int x1), some (.int x2), some (.int x3), some (.int x4), some (.int x5), some (.int x6), some (.int x7), a8] [] := Eq.trans (pv_Rstp dX7_steady_58 rfl rfl rfl) (Eq.trans (pv_Rstp dX7_steady_59 rfl rfl rfl) (Eq.trans (pv_Rstp dX7_steady_61 rfl rfl rfl) (pv_Rcall (As := [.ref 37, .int x4, .int x7]) (rest := []) dX7_steady_63 rfl mfX7_158 rfl rfl rfl rfl rfl)))
set_option maxHeartbeats 200000 in
theorem bX7_steady_66 {S : pv_S} {x1 x2 x3 x4 x5 x6 x7 u0 : Int32} {a8 : Option Value} : pv_R mX7_steady 66 [some (.ref 37), some (.int x1), some (.int x2), some (.int x3), some (.int x4), some (.int x5), some (.int x6), some (.int x7), a8] [.int u0] (pv_em S) = if x5 ≤ u0 then pv_R mX7_steady 80 [some (.ref 37), some (.int x1), some (.int x2), some (.int x3), some (.int x4), some (.int x5), some (.int x6), some (.int x7), some (.int u0)] [] (pv_em S) else pv_R mX7_steady 75 [some (.ref 37), some (.int x1), some (.int x2), some (.int x3), some (.int x4), some (.int x5), some (.int x6), some (.int x7), some (.int u0)] [] (pv_em S) := Eq.trans (pv_Rstp dX7_steady_66 rfl rfl rfl) (Eq.trans (pv_Rstp dX7_steady_68 rfl rfl rfl) (Eq.trans (pv_Rstp dX7_steady_70 rfl rfl rfl) (pv_Rbr (tgt := 80) dX7_steady_72 rfl rfl rfl rfl rfl (by decide))))
set_option maxHeartbeats 200000 in
theorem bX7_steady_75 {S : pv_S} {x1 x2 x3 x4 x5 x6 x7 x8 : Int32} : pv_R mX7_steady 75 [some (.ref 37), some (.int x1), some (.int x2), some (.int x3), some (.int x4), some (.int x5), some (.int x6), some (.int x7), some (.int x8)] [] (pv_em S) = pv_R mX7_steady 82 [some (.ref 37), some (.int x1), some (.int x2), some (.int x3), some (.int x4), some (.int x5), some (.int x6), some (.int x7), some (.int x8)] [.int x8] (pv_em S) := Eq.trans (pv_Rstp dX7_steady_75 rfl rfl rfl) (pv_Rgo (tgt := 82) dX7_steady_77 rfl (by decide))
set_option maxHeartbeats 200000 in
theorem bX7_steady_80 {S : pv_S} {x1 x2 x3 x4 x5 x6 x7 x8 : Int32} : pv_R mX7_steady 80 [some (.ref 37), some (.int x1), some (.int x2), some (.int x3), some (.int x4), some (.int x5), some (.int x6), some (.int x7), some (.int x8)] [] (pv_em S) = pv_R mX7_steady 82 [some (.ref 37), some (.int x1), some (.int x2), some (.int x3), some (.int x4), some (.int x5), some (.int x6), some (.int x7), some (.int x8)] [.int x5] (pv_em S) := pv_Rstp dX7_steady_80 rfl rfl rfl
set_option maxHeartbeats 200000 in
theorem bX7_steady_82 {S : pv_S} {x1 x2 x3 x4 x5 x6 x7 x8 u0 : Int32} : pv_R mX7_steady 82 [some (.ref 37), some (.int x1), some (.int x2), some (.int x3), some (.int x4), some (.int x5), some (.int x6), some (.int x7), some (.int x8)] [.int u0] (pv_em S) = if x8 ≤ x6 then pv_R mX7_steady 96 [some (.ref 37), some (.int x1), some (.int x2), some (.int x3), some (.int x4), some (.int u0), some (.int x6), some (.int x7), some (.int x8)] [] (pv_em S) else pv_R mX7_steady 91 [some (.ref 37), some (.int x1), some (.int x2), some (.int x3), some (.int x4), some (.int u0), some (.int x6), some (.int x7), some (.int x8)] [] (pv_em S) := Eq.trans (pv_Rstp dX7_steady_82 rfl rfl rfl) (Eq.trans (pv_Rstp dX7_steady_84 rfl rfl rfl) (Eq.trans (pv_Rstp dX7_steady_86 rfl rfl rfl) (pv_Rbr (tgt := 96) dX7_steady_88 rfl rfl rfl rfl rfl (by decide))))
set_option maxHeartbeats 200000 in
theorem bX7_steady_91 {S : pv_S} {x1 x2 x3 x4 x5 x6 x7 x8 : Int32} : pv_R mX7_steady 91 [some (.ref 37), some (.int x1), some (.int x2), some (.int x3), some (.int x4), some (.int x5), some (.int x6), some (.int x7), some (.int x8)] [] (pv_em S) = pv_R mX7_steady 98 [some (.ref 37), some (.int x1), some (.int x2), some (.int x3), some (.int x4), some (.int x5), some (.int x6), some (.int x7), some (.int x8)] [.int x8] (pv_em S) := Eq.trans (pv_Rstp dX7_steady_91 rfl rfl rfl) (pv_Rgo (tgt := 98) dX7_steady_93 rfl (by decide))
set_option maxHeartbeats 200000 in
theorem bX7_steady_96 {S : pv_S} {x1 x2 x3 x4 x5 x6 x7 x8 : Int32} : pv_R mX7_steady 96 [some (.ref 37), some (.int x1), some (.int x2), some (.int x3), some (.int x4), some (.int x5), some (.int x6), some (.int x7), some (.int x8)] [] (pv_em S) = pv_R mX7_steady 98 [some (.ref 37), some (.int x1), some (.int x2), some (.int x3), some (.int x4), some (.int x5), some (.int x6), some (.int x7), some (.int x8)] [.int x6] (pv_em S) := pv_Rstp dX7_steady_96 rfl rfl rfl
set_option maxHeartbeats 200000 in
theorem bX7_steady_98 {S : pv_S} {x1 x2 x3 x4 x5 x6 x7 x8 u0 : Int32} : pv_R mX7_steady 98 [some (.ref 37), some (.int x1), some (.int x2), some (.int x3), some (.int x4), some (.int x5), some (.int x6), some (.int x7), some (.int x8)] [.int u0] (pv_em S) = pv_R mX7_steady 52 [some (.ref 37), some (.int x1), some (.int x2), some (.int x3), some (.int x4), some (.int x5), some (.int u0), some (.int (x7 + 1)), some (.int x8)] [] (pv_em S) := Eq.trans (pv_Rstp dX7_steady_98 rfl rfl rfl) (Eq.trans (pv_Rinc dX7_steady_100 rfl (Nat.le_of_ble_eq_true rfl) ki_1 rfl) (pv_Rgo (tgt := 52) dX7_steady_103 rfl (by decide)))
set_option maxHeartbeats 200000 in
theorem bX7_steady_106 {S : pv_S} {x1 x2 x3 x4 x5 x6 x7 : Int32} {a8 : Option Value} : pv_R mX7_steady 106 [some (.ref 37), some (.int x1), some (.int x2), some (.int x3), some (.int x4), some (.int x5), some (.int x6), some (.int x7), a8] [] (pv_em S) = if x3 ≤ (x6 - x5) then pv_R mX7_steady 120 [some (.ref 37), some (.int x1), some (.int x2), some (.int x3), some (.int x4), some (.int x5), some (.int x6), some (.int x7), a8] [] (pv_em S) else pv_R mX7_steady 115 [some (.ref 37), some (.int x1), some (.int x2), some (.int x3), some (.int x4), some (.int x5), some (.int x6), some (.int x7), a8] [] (pv_em S) := Eq.trans (pv_Rstp dX7_steady_106 rfl rfl rfl) (Eq.trans (pv_Rstp dX7_steady_108 rfl rfl rfl) (Eq.trans (pv_Rstp dX7_steady_110 rfl rfl rfl) (Eq.trans (pv_Rstp dX7_steady_111 rfl rfl rfl) (pv_Rbr (tgt := 120) dX7_steady_112 rfl rfl rfl rfl rfl (by decide)))))
set_option maxHeartbeats 200000 in
theorem bX7_steady_115 {S : pv_S} {x1 x2 x3 x4 x5 x6 x7 : Int32} {a8 : Option Value} : pv_R mX7_steady 115 [some (.ref 37), some (.int x1), some (.int x2), some (.int x3), some (.int x4), some (.int x5), some (.int x6), some (.int x7), a8] [] (pv_em S) = pv_R mX7_steady 121 [some (.ref 37), some (.int x1), some (.int x2), some (.int x3), some (.int x4), some (.int x5), some (.int x6), some (.int x7), a8] [.int x4] (pv_em S) := Eq.trans (pv_Rstp dX7_steady_115 rfl rfl rfl) (pv_Rgo (tgt := 121) dX7_steady_117 rfl (by decide))
set_option maxHeartbeats 200000 in
theorem bX7_steady_120 {S : pv_S} {x1 x2 x3 x4 x5 x6 x7 : Int32} {a8 : Option Value} : pv_R mX7_steady 120 [some (.ref 37), some (.int x1), some (.int x2), some (.int x3), some (.int x4), some (.int x5), some (.int x6), some (.int x7), a8] [] (pv_em S) = pv_R mX7_steady 121 [some (.ref 37), some (.int x1), some (.int x2), some (.int x3), some (.int x4), some (.int x5), some (.int x6), some (.int x7), a8] [.int x2] (pv_em S) := pv_Rstp dX7_steady_120 rfl rfl rfl
set_option maxHeartbeats 200000 in
theorem bX7_steady_121 {S : pv_S} {x1 x2 x3 x4 x5 x6 x7 u0 : Int32} {a8 : Option Value} : pv_R mX7_steady 121 [some (.ref 37), some (.int x1), some (.int x2), some (.int x3), some (.int x4), some (.int x5), some (.int x6), some (.int x7), a8] [.int u0] (pv_em S) = if x3 ≤ (x6 - x5) then pv_R mX7_steady 139 [some (.ref 37), some (.int x1), some (.int u0), some (.int x3), some (.int x4), some (.int x5), some (.int x6), some (.int x7), a8] [] (pv_em S) else pv_R mX7_steady 131 [some (.ref 37), some (.int x1), some (.int u0), some (.int x3), some (.int x4), some (.int x5), some (.int x6), some (.int x7), a8] [] (pv_em S) := Eq.trans (pv_Rstp dX7_steady_121 rfl rfl rfl) (Eq.trans (pv_Rstp dX7_steady_122 rfl rfl rfl) (Eq.trans (pv_Rstp dX7_steady_124 rfl rfl rfl) (Eq.trans (pv_Rstp dX7_steady_126 rfl rfl rfl) (Eq.trans (pv_Rstp dX7_steady_127 rfl rfl rfl) (pv_Rbr (tgt := 139) dX7_steady_128 rfl rfl rfl rfl rfl (by decide))))))
set_option maxHeartbeats 200000 in
theorem bX7_steady_131 {S : pv_S} {x1 x2 x3 x4 x5 x6 x7 : Int32} {a8 : Option Value} : pv_R mX7_steady 131 [some (.ref 37), some (.int x1), some (.int x2), some (.int x3), some (.int x4), some (.int x5), some (.int x6), some (.int x7), a8] [] (pv_em S) = pv_R mX7_steady 140 [some (.ref 37), some (.int x1), some (.int x2), some (.int x3), some (.int x4), some (.int x5), some (.int x6), some (.int x7), a8] [.int (x6 - x5)] (pv_em S) := Eq.trans (pv_Rstp dX7_steady_131 rfl rfl rfl) (Eq.trans (pv_Rstp dX7_steady_133 rfl rfl rfl) (Eq.trans (pv_Rstp dX7_steady_135 rfl rfl rfl) (pv_Rgo (tgt := 140) dX7_steady_136 rfl (by decide))))
set_option maxHeartbeats 200000 in
theorem bX7_steady_139 {S : pv_S} {x1 x2 x3 x4 x5 x6 x7 : Int32} {a8 : Option Value} : pv_R mX7_steady 139 [some (.ref 37), some (.int x1), some (.int x2), some (.int x3), some (.int x4), some (.int x5), some (.int x6), some (.int x7), a8] [] (pv_em S) = pv_R mX7_steady 140 [some (.ref 37), some (.int x1), some (.int x2), some (.int x3), some (.int x4), some (.int x5), some (.int x6), some (.int x7), a8] [.int x3] (pv_em S) := pv_Rstp dX7_steady_139 rfl rfl rfl
set_option maxHeartbeats 200000 in
theorem bX7_steady_140 {S : pv_S} {x1 x2 x3 x4 x5 x6 x7 u0 : Int32} {a8 : Option Value} : pv_R mX7_steady 140 [some (.ref 37), some (.int x1), some (.int x2), some (.int x3), some (.int x4), some (.int x5), some (.int x6), some (.int x7), a8] [.int u0] (pv_em S) = pv_R mX7_steady 33 [some (.ref 37), some (.int x1), some (.int x2), some (.int u0), some (.int (x4 + 1)), some (.int x5), some (.int x6), some (.int x7), a8] [] (pv_em S) := Eq.trans (pv_Rstp dX7_steady_140 rfl rfl rfl) (Eq.trans (pv_Rinc dX7_steady_141 rfl (Nat.le_of_ble_eq_true rfl) ki_1 rfl) (pv_Rgo (tgt := 33) dX7_steady_144 rfl (by decide)))
set_option maxHeartbeats 200000 in
theorem bX7_steady_147 {S : pv_S} {x1 x2 x3 x4 : Int32} {a5 a6 a7 a8 : Option Value} : pv_R mX7_steady 147 [some (.ref 37), some (.int x1), some (.int x2), some (.int x3), some (.int x4), a5, a6, a7, a8] [] (pv_em S) = pv_cc (pv_R mX7_answer 0 [some (.ref 37), some (.int x2), some (.int x3)] [] (pv_em S)) mX7_steady 153 [some (.ref 37), some (.int x1), some (.int x2), some (.int x3), some (.int x4), a5, a6, a7, a8] [] := Eq.trans (pv_Rstp dX7_steady_147 rfl rfl rfl) (Eq.trans (pv_Rstp dX7_steady_148 rfl rfl rfl) (Eq.trans (pv_Rstp dX7_steady_149 rfl rfl rfl) (pv_Rcall (As := [.ref 37, .int x2, .int x3]) (rest := []) dX7_steady_150 rfl mfX7_206 rfl rfl rfl rfl rfl)))
set_option maxHeartbeats 200000 in
theorem bX7_steady_153 {S : pv_S} {x1 x2 x3 x4 u0 : Int32} {a5 a6 a7 a8 : Option Value} : pv_R mX7_steady 153 [some (.ref 37), some (.int x1), some (.int x2), some (.int x3), some (.int x4), a5, a6, a7, a8] [.int u0] (pv_em S) = some (some (.int u0), pv_em S) := pv_Rret dX7_steady_153 rfl
theorem dX7_meals_0 : decode cX7_meals 0 = .ok (.aload_n 0, 1) := by decide +kernel
theorem dX7_meals_1 : decode cX7_meals 1 = .ok (.iload_n 1, 1) := by decide +kernel
theorem dX7_meals_2 : decode cX7_meals 2 = .ok (.invokevirtual 165, 3) := by decide +kernel
theorem dX7_meals_5 : decode cX7_meals 5 = .ok (.ifCond .eq 27, 3) := by decide +kernel
theorem dX7_meals_8 : decode cX7_meals 8 = .ok (.iload_n 2, 1) := by decide +kernel
theorem dX7_meals_9 : decode cX7_meals 9 = .ok (.i2l, 1) := by decide +kernel
theorem dX7_meals_10 : decode cX7_meals 10 = .ok (.lconst 1, 1) := by decide +kernel
theorem dX7_meals_11 : decode cX7_meals 11 = .ok (.ldc2_w 203, 3) := by decide +kernel
theorem dX7_meals_14 : decode cX7_meals 14 = .ok (.invokestatic 75, 3) := by decide +kernel
theorem dX7_meals_17 : decode cX7_meals 17 = .ok (.ifCond .eq 15, 3) := by decide +kernel
theorem dX7_meals_20 : decode cX7_meals 20 = .ok (.iload_n 3, 1) := by decide +kernel
theorem dX7_meals_21 : decode cX7_meals 21 = .ok (.i2l, 1) := by decide +kernel
theorem dX7_meals_22 : decode cX7_meals 22 = .ok (.lconst 0, 1) := by decide +kernel
theorem dX7_meals_23 : decode cX7_meals 23 = .ok (.ldc2_w 209, 3) := by decide +kernel
theorem dX7_meals_26 : decode cX7_meals 26 = .ok (.invokestatic 75, 3) := by decide +kernel
theorem dX7_meals_29 : decode cX7_meals 29 = .ok (.ifCond .ne 5, 3) := by decide +kernel
theorem dX7_meals_32 : decode cX7_meals 32 = .ok (.iconst (-1), 1) := by decide +kernel
theorem dX7_meals_33 : decode cX7_meals 33 = .ok (.ireturn, 1) := by decide +kernel
theorem dX7_meals_34 : decode cX7_meals 34 = .ok (.aload_n 0, 1) := by decide +kernel
theorem dX7_meals_35 : decode cX7_meals 35 = .ok (.getfield 28, 3) := by decide +kernel
theorem dX7_meals_38 : decode cX7_meals 38 = .ok (.iconst 0, 1) := by decide +kernel
theorem dX7_meals_39 : decode cX7_meals 39 = .ok (.iload_n 1, 1) := by decide +kernel
theorem dX7_meals_40 : decode cX7_meals 40 = .ok (.iadd, 1) := by decide +kernel
theorem dX7_meals_41 : decode cX7_meals 41 = .ok (.iaload, 1) := by decide +kernel
theorem dX7_meals_42 : decode cX7_meals 42 = .ok (.istore 4, 2) := by decide +kernel
theorem dX7_meals_44 : decode cX7_meals 44 = .ok (.iconst 0, 1) := by decide +kernel
theorem dX7_meals_45 : decode cX7_meals 45 = .ok (.istore 5, 2) := by decide +kernel
theorem dX7_meals_47 : decode cX7_meals 47 = .ok (.iload 5, 2) := by decide +kernel
theorem dX7_meals_49 : decode cX7_meals 49 = .ok (.bipush 21, 2) := by decide +kernel
theorem dX7_meals_51 : decode cX7_meals 51 = .ok (.if_icmp .ge 52, 3) := by decide +kernel
theorem dX7_meals_54 : decode cX7_meals 54 = .ok (.aload_n 0, 1) := by decide +kernel
theorem dX7_meals_55 : decode cX7_meals 55 = .ok (.aload_n 0, 1) := by decide +kernel
theorem dX7_meals_56 : decode cX7_meals 56 = .ok (.getfield 22, 3) := by decide +kernel
theorem dX7_meals_59 : decode cX7_meals 59 = .ok (.iload_n 1, 1) := by decide +kernel
theorem dX7_meals_60 : decode cX7_meals 60 = .ok (.iaload, 1) := by decide +kernel
theorem dX7_meals_61 : decode cX7_meals 61 = .ok (.iload 4, 2) := by decide +kernel
theorem dX7_meals_63 : decode cX7_meals 63 = .ok (.iload_n 3, 1) := by decide +kernel
theorem dX7_meals_64 : decode cX7_meals 64 = .ok (.invokevirtual 154, 3) := by decide +kernel
theorem dX7_meals_67 : decode cX7_meals 67 = .ok (.iload_n 2, 1) := by decide +kernel
theorem dX7_meals_68 : decode cX7_meals 68 = .ok (.if_icmp .lt 6, 3) := by decide +kernel
theorem dX7_meals_71 : decode cX7_meals 71 = .ok (.iload 5, 2) := by decide +kernel
theorem dX7_meals_73 : decode cX7_meals 73 = .ok (.ireturn, 1) := by decide +kernel
theorem dX7_meals_74 : decode cX7_meals 74 = .ok (.iload 4, 2) := by decide +kernel
theorem dX7_meals_76 : decode cX7_meals 76 = .ok (.aload_n 0, 1) := by decide +kernel
theorem dX7_meals_77 : decode cX7_meals 77 = .ok (.getfield 22, 3) := by decide +kernel
theorem dX7_meals_80 : decode cX7_meals 80 = .ok (.iload_n 1, 1) := by decide +kernel
theorem dX7_meals_81 : decode cX7_meals 81 = .ok (.iaload, 1) := by decide +kernel
theorem dX7_meals_82 : decode cX7_meals 82 = .ok (.aload_n 0, 1) := by decide +kernel
theorem dX7_meals_83 : decode cX7_meals 83 = .ok (.getfield 25, 3) := by decide +kernel
theorem dX7_meals_86 : decode cX7_meals 86 = .ok (.iload_n 1, 1) := by decide +kernel
theorem dX7_meals_87 : decode cX7_meals 87 = .ok (.iaload, 1) := by decide +kernel
theorem dX7_meals_88 : decode cX7_meals 88 = .ok (.invokestatic 162, 3) := by decide +kernel
theorem dX7_meals_91 : decode cX7_meals 91 = .ok (.iadd, 1) := by decide +kernel
theorem dX7_meals_92 : decode cX7_meals 92 = .ok (.invokestatic 151, 3) := by decide +kernel
theorem dX7_meals_95 : decode cX7_meals 95 = .ok (.istore 4, 2) := by decide +kernel
theorem dX7_meals_97 : decode cX7_meals 97 = .ok (.iinc 5 1, 3) := by decide +kernel
theorem dX7_meals_100 : decode cX7_meals 100 = .ok (.goto (-53), 3) := by decide +kernel
theorem dX7_meals_103 : decode cX7_meals 103 = .ok (.bipush (-9), 2) := by decide +kernel
theorem dX7_meals_105 : decode cX7_meals 105 = .ok (.ireturn, 1) := by decide +kernel
set_option maxHeartbeats 200000 in
theorem bX7_meals_0 {S : pv_S} {x1 x2 x3 : Int32} {a4 a5 : Option Value} : pv_R mX7_meals 0 [some (.ref 37), some (.int x1), some (.int x2), some (.int x3), a4, a5] [] (pv_em S) = pv_cc (pv_R mX7_isCat 0 [some (.ref 37), some (.int x1)] [] (pv_em S)) mX7_meals 5 [some (.ref 37), some (.int x1), some (.int x2), some (.int x3), a4, a5] [] := Eq.trans (pv_Rstp dX7_meals_0 rfl rfl rfl) (Eq.trans (pv_Rstp dX7_meals_1 rfl rfl rfl) (pv_Rcall (As := [.ref 37, .int x1]) (rest := []) dX7_meals_2 rfl mfX7_165 rfl rfl rfl rfl rfl))
set_option maxHeartbeats 200000 in
theorem bX7_meals_5 {S : pv_S} {x1 x2 x3 u0 : Int32} {a4 a5 : Option Value} : pv_R mX7_meals 5 [some (.ref 37), some (.int x1), some (.int x2), some (.int x3), a4, a5] [.int u0] (pv_em S) = if u0 = 0 then pv_R mX7_meals 32 [some (.ref 37), some (.int x1), some (.int x2), some (.int x3), a4, a5] [] (pv_em S) else pv_R mX7_meals 8 [some (.ref 37), some (.int x1), some (.int x2), some (.int x3), a4, a5] [] (pv_em S) := pv_Rbr (tgt := 32) dX7_meals_5 rfl rfl rfl rfl rfl (by decide)
set_option maxHeartbeats 200000 in
theorem bX7_meals_8 {S : pv_S} {x1 x2 x3 : Int32} {a4 a5 : Option Value} : pv_R mX7_meals 8 [some (.ref 37), some (.int x1), some (.int x2), some (.int x3), a4, a5] [] (pv_em S) = pv_cc (pv_R mX7_in 0 [some (.long (Int32.toInt64 x2)), none, some (.long 1), none, some (.long 200), none] [] (pv_em S)) mX7_meals 17 [some (.ref 37), some (.int x1), some (.int x2), some (.int x3), a4, a5] [] := Eq.trans (pv_Rstp dX7_meals_8 rfl rfl rfl) (Eq.trans (pv_Rstp dX7_meals_9 rfl rfl rfl) (Eq.trans (pv_Rlc dX7_meals_10 kl_1) (Eq.trans (pv_Rstp dX7_meals_11 rfl rfl rfl) (pv_Rcall (As := [.long (Int32.toInt64 x2), .long 1, .long 200]) (rest := []) dX7_meals_14 rfl mfX7_75 rfl rfl rfl rfl rfl))))
set_option maxHeartbeats 200000 in
theorem bX7_meals_17 {S : pv_S} {x1 x2 x3 u0 : Int32} {a4 a5 : Option Value} : pv_R mX7_meals 17 [some (.ref 37), some (.int x1), some (.int x2), some (.int x3), a4, a5] [.int u0] (pv_em S) = if u0 = 0 then pv_R mX7_meals 32 [some (.ref 37), some (.int x1), some (.int x2), some (.int x3), a4, a5] [] (pv_em S) else pv_R mX7_meals 20 [some (.ref 37), some (.int x1), some (.int x2), some (.int x3), a4, a5] [] (pv_em S) := pv_Rbr (tgt := 32) dX7_meals_17 rfl rfl rfl rfl rfl (by decide)
set_option maxHeartbeats 200000 in
theorem bX7_meals_20 {S : pv_S} {x1 x2 x3 : Int32} {a4 a5 : Option Value} : pv_R mX7_meals 20 [some (.ref 37), some (.int x1), some (.int x2), some (.int x3), a4, a5] [] (pv_em S) = pv_cc (pv_R mX7_in 0 [some (.long (Int32.toInt64 x3)), none, some (.long 0), none, some (.long 20), none] [] (pv_em S)) mX7_meals 29 [some (.ref 37), some (.int x1), some (.int x2), some (.int x3), a4, a5] [] := Eq.trans (pv_Rstp dX7_meals_20 rfl rfl rfl) (Eq.trans (pv_Rstp dX7_meals_21 rfl rfl rfl) (Eq.trans (pv_Rlc dX7_meals_22 kl_0) (Eq.trans (pv_Rstp dX7_meals_23 rfl rfl rfl) (pv_Rcall (As := [.long (Int32.toInt64 x3), .long 0, .long 20]) (rest := []) dX7_meals_26 rfl mfX7_75 rfl rfl rfl rfl rfl))))
set_option maxHeartbeats 200000 in
theorem bX7_meals_29 {S : pv_S} {x1 x2 x3 u0 : Int32} {a4 a5 : Option Value} : pv_R mX7_meals 29 [some (.ref 37), some (.int x1), some (.int x2), some (.int x3), a4, a5] [.int u0] (pv_em S) = if ¬ u0 = 0 then pv_R mX7_meals 34 [some (.ref 37), some (.int x1), some (.int x2), some (.int x3), a4, a5] [] (pv_em S) else pv_R mX7_meals 32 [some (.ref 37), some (.int x1), some (.int x2), some (.int x3), a4, a5] [] (pv_em S) := pv_Rbr (tgt := 34) dX7_meals_29 rfl rfl rfl rfl rfl (by decide)
set_option maxHeartbeats 200000 in
theorem bX7_meals_32 {S : pv_S} {x1 x2 x3 : Int32} {a4 a5 : Option Value} : pv_R mX7_meals 32 [some (.ref 37), some (.int x1), some (.int x2), some (.int x3), a4, a5] [] (pv_em S) = some (some (.int (-1)), pv_em S) := Eq.trans (pv_Ric dX7_meals_32 ki_m1) (pv_Rret dX7_meals_33 rfl)
set_option maxHeartbeats 200000 in
theorem bX7_meals_34 {S : pv_S} {x1 x2 x3 : Int32} {a4 a5 : Option Value} : pv_R mX7_meals 34 [some (.ref 37), some (.int x1), some (.int x2), some (.int x3), a4, a5] [] (pv_em S) = if (0 + x1) < 0 ∨ 10 ≤ (0 + x1).toNatClampNeg then none else pv_R mX7_meals 47 [some (.ref 37), some (.int x1), some (.int x2), some (.int x3), some (.int (S.1 44 (0 + x1).toNatClampNeg)), some (.int 0)] [] (pv_em S) := Eq.trans (pv_Rstp dX7_meals_34 rfl rfl rfl) (Eq.trans (pv_Rget dX7_meals_35 ffX7_28 (by decide) (pv_ce_37 _ _) rfl) (Eq.trans (pv_Ric dX7_meals_38 ki_0) (Eq.trans (pv_Rstp dX7_meals_39 rfl rfl rfl) (Eq.trans (pv_Rstp dX7_meals_40 rfl rfl rfl) (Eq.trans (pv_Rald dX7_meals_41 (by decide) (pv_ce_44 _ _)) (pv_iteN (fun h1 => Eq.trans (pv_Rstp dX7_meals_42 rfl rfl rfl) (Eq.trans (pv_Ric dX7_meals_44 ki_0) (pv_Rstp dX7_meals_45 rfl rfl rfl)))))))))
set_option maxHeartbeats 200000 in
theorem bX7_meals_47 {S : pv_S} {x1 x2 x3 x4 x5 : Int32} : pv_R mX7_meals 47 [some (.ref 37), some (.int x1), some (.int x2), some (.int x3), some (.int x4), some (.int x5)] [] (pv_em S) = if 21 ≤ x5 then pv_R mX7_meals 103 [some (.ref 37), some (.int x1), some (.int x2), some (.int x3), some (.int x4), some (.int x5)] [] (pv_em S) else pv_R mX7_meals 54 [some (.ref 37), some (.int x1), some (.int x2), some (.int x3), some (.int x4), some (.int x5)] [] (pv_em S) := Eq.trans (pv_Rstp dX7_meals_47 rfl rfl rfl) (Eq.trans (pv_Rbp dX7_meals_49 kb_21) (pv_Rbr (tgt := 103) dX7_meals_51 rfl rfl rfl rfl rfl (by decide)))
set_option maxHeartbeats 200000 in
theorem bX7_meals_54 {S : pv_S} {x1 x2 x3 x4 x5 : Int32} : pv_R mX7_meals 54 [some (.ref 37), some (.int x1), some (.int x2), some (.int x3), some (.int x4), some (.int x5)] [] (pv_em S) = if x1 < 0 ∨ 6 ≤ x1.toNatClampNeg then none else pv_cc (pv_R mX7_after 0 [some (.ref 37), some (.int (S.1 42 x1.toNatClampNeg)), some (.int x4), some (.int x3), none, none] [] (pv_em S)) mX7_meals 67 [some (.ref 37), some (.int x1), some (.int x2), some (.int x3), some (.int x4), some (.int x5)] [] := Eq.trans (pv_Rstp dX7_meals_54 rfl rfl rfl) (Eq.trans (pv_Rstp dX7_meals_55 rfl rfl rfl) (Eq.trans (pv_Rget dX7_meals_56 ffX7_22 (by decide) (pv_ce_37 _ _) rfl) (Eq.trans (pv_Rstp dX7_meals_59 rfl rfl rfl) (Eq.trans (pv_Rald dX7_meals_60 (by decide) (pv_ce_42 _ _)) (pv_iteN (fun h1 => Eq.trans (pv_Rstp dX7_meals_61 rfl rfl rfl) (Eq.trans (pv_Rstp dX7_meals_63 rfl rfl rfl) (pv_Rcall (As := [.ref 37, .int (S.1 42 x1.toNatClampNeg), .int x4, .int x3]) (rest := []) dX7_meals_64 rfl mfX7_154 rfl rfl rfl rfl rfl))))))))
set_option maxHeartbeats 200000 in
theorem bX7_meals_67 {S : pv_S} {x1 x2 x3 x4 x5 u0 : Int32} : pv_R mX7_meals 67 [some (.ref 37), some (.int x1), some (.int x2), some (.int x3), some (.int x4), some (.int x5)] [.int u0] (pv_em S) = if u0 < x2 then pv_R mX7_meals 74 [some (.ref 37), some (.int x1), some (.int x2), some (.int x3), some (.int x4), some (.int x5)] [] (pv_em S) else pv_R mX7_meals 71 [some (.ref 37), some (.int x1), some (.int x2), some (.int x3), some (.int x4), some (.int x5)] [] (pv_em S) := Eq.trans (pv_Rstp dX7_meals_67 rfl rfl rfl) (pv_Rbr (tgt := 74) dX7_meals_68 rfl rfl rfl rfl rfl (by decide))
set_option maxHeartbeats 200000 in
theorem bX7_meals_71 {S : pv_S} {x1 x2 x3 x4 x5 : Int32} : pv_R mX7_meals 71 [some (.ref 37), some (.int x1), some (.int x2), some (.int x3), some (.int x4), some (.int x5)] [] (pv_em S) = some (some (.int x5), pv_em S) := Eq.trans (pv_Rstp dX7_meals_71 rfl rfl rfl) (pv_Rret dX7_meals_73 rfl)
set_option maxHeartbeats 200000 in
theorem bX7_meals_74 {S : pv_S} {x1 x2 x3 x4 x5 : Int32} : pv_R mX7_meals 74 [some (.ref 37), some (.int x1), some (.int x2), some (.int x3), some (.int x4), some (.int x5)] [] (pv_em S) = if x1 < 0 ∨ 6 ≤ x1.toNatClampNeg then none else if x1 < 0 ∨ 6 ≤ x1.toNatClampNeg then none else pv_cc (pv_R mX7_meal 0 [some (.int (S.1 42 x1.toNatClampNeg)), some (.int (S.1 43 x1.toNatClampNeg))] [] (pv_em S)) mX7_meals 91 [some (.ref 37), some (.int x1), some (.int x2), some (.int x3), some (.int x4), some (.int x5)] [.int x4] := Eq.trans (pv_Rstp dX7_meals_74 rfl rfl rfl) (Eq.trans (pv_Rstp dX7_meals_76 rfl rfl rfl) (Eq.trans (pv_Rget dX7_meals_77 ffX7_22 (by decide) (pv_ce_37 _ _) rfl) (Eq.trans (pv_Rstp dX7_meals_80 rfl rfl rfl) (Eq.trans (pv_Rald dX7_meals_81 (by decide) (pv_ce_42 _ _)) (pv_iteN (fun h1 => Eq.trans (pv_Rstp dX7_meals_82 rfl rfl rfl) (Eq.trans (pv_Rget dX7_meals_83 ffX7_25 (by decide) (pv_ce_37 _ _) rfl) (Eq.trans (pv_Rstp dX7_meals_86 rfl rfl rfl) (Eq.trans (pv_Rald dX7_meals_87 (by decide) (pv_ce_43 _ _)) (pv_iteN (fun h2 => pv_Rcall (As := [.int (S.1 42 x1.toNatClampNeg), .int (S.1 43 x1.toNatClampNeg)]) (rest := [.int x4]) dX7_meals_88 rfl mfX7_162 rfl rfl rfl rfl rfl)))))))))))
set_option maxHeartbeats 200000 in
theorem bX7_meals_91 {S : pv_S} {x1 x2 x3 x4 x5 u0 u1 : Int32} : pv_R mX7_meals 91 [some (.ref 37), some (.int x1), some (.int x2), some (.int x3), some (.int x4), some (.int x5)] [.int u0, .int u1] (pv_em S) = pv_cc (pv_R mX7_bound 0 [some (.int (u1 + u0))] [] (pv_em S)) mX7_meals 95 [some (.ref 37), some (.int x1), some (.int x2), some (.int x3), some (.int x4), some (.int x5)] [] := Eq.trans (pv_Rstp dX7_meals_91 rfl rfl rfl) (pv_Rcall (As := [.int (u1 + u0)]) (rest := []) dX7_meals_92 rfl mfX7_151 rfl rfl rfl rfl rfl)
set_option maxHeartbeats 200000 in
theorem bX7_meals_95 {S : pv_S} {x1 x2 x3 x4 x5 u0 : Int32} : pv_R mX7_meals 95 [some (.ref 37), some (.int x1), some (.int x2), some (.int x3), some (.int x4), some (.int x5)] [.int u0] (pv_em S) = pv_R mX7_meals 47 [some (.ref 37), some (.int x1), some (.int x2), some (.int x3), some (.int u0), some (.int (x5 + 1))] [] (pv_em S) := Eq.trans (pv_Rstp dX7_meals_95 rfl rfl rfl) (Eq.trans (pv_Rinc dX7_meals_97 rfl (Nat.le_of_ble_eq_true rfl) ki_1 rfl) (pv_Rgo (tgt := 47) dX7_meals_100 rfl (by decide)))
set_option maxHeartbeats 200000 in
theorem bX7_meals_103 {S : pv_S} {x1 x2 x3 x4 x5 : Int32} : pv_R mX7_meals 103 [some (.ref 37), some (.int x1), some (.int x2), some (.int x3), some (.int x4), some (.int x5)] [] (pv_em S) = some (some (.int (-9)), pv_em S) := Eq.trans (pv_Rbp dX7_meals_103 kb_m9) (pv_Rret dX7_meals_105 rfl)
theorem dX7_gain_0 : decode cX7_gain 0 = .ok (.iload_n 1, 1) := by decide +kernel
theorem dX7_gain_1 : decode cX7_gain 1 = .ok (.i2l, 1) := by decide +kernel
theorem dX7_gain_2 : decode cX7_gain 2 = .ok (.lconst 1, 1) := by decide +kernel
theorem dX7_gain_3 : decode cX7_gain 3 = .ok (.ldc2_w 104, 3) := by decide +kernel
theorem dX7_gain_6 : decode cX7_gain 6 = .ok (.invokestatic 75, 3) := by decide +kernel
theorem dX7_gain_9 : decode cX7_gain 9 = .ok (.ifCond .eq 15, 3) := by decide +kernel
theorem dX7_gain_12 : decode cX7_gain 12 = .ok (.iload_n 2, 1) := by decide +kernel
theorem dX7_gain_13 : decode cX7_gain 13 = .ok (.i2l, 1) := by decide +kernel
theorem dX7_gain_14 : decode cX7_gain 14 = .ok (.lconst 0, 1) := by decide +kernel
theorem dX7_gain_15 : decode cX7_gain 15 = .ok (.ldc2_w 209, 3) := by decide +kernel
theorem dX7_gain_18 : decode cX7_gain 18 = .ok (.invokestatic 75, 3) := by decide +kernel
theorem dX7_gain_21 : decode cX7_gain 21 = .ok (.ifCond .ne 5, 3) := by decide +kernel
theorem dX7_gain_24 : decode cX7_gain 24 = .ok (.iconst (-1), 1) := by decide +kernel
theorem dX7_gain_25 : decode cX7_gain 25 = .ok (.ireturn, 1) := by decide +kernel
theorem dX7_gain_26 : decode cX7_gain 26 = .ok (.aload_n 0, 1) := by decide +kernel
theorem dX7_gain_27 : decode cX7_gain 27 = .ok (.getfield 138, 3) := by decide +kernel
theorem dX7_gain_30 : decode cX7_gain 30 = .ok (.ifCond .ne 6, 3) := by decide +kernel
theorem dX7_gain_33 : decode cX7_gain 33 = .ok (.bipush (-4), 2) := by decide +kernel
theorem dX7_gain_35 : decode cX7_gain 35 = .ok (.ireturn, 1) := by decide +kernel
theorem dX7_gain_36 : decode cX7_gain 36 = .ok (.iconst 0, 1) := by decide +kernel
theorem dX7_gain_37 : decode cX7_gain 37 = .ok (.istore_n 3, 1) := by decide +kernel
theorem dX7_gain_38 : decode cX7_gain 38 = .ok (.bipush (-9), 2) := by decide +kernel
theorem dX7_gain_40 : decode cX7_gain 40 = .ok (.istore 4, 2) := by decide +kernel
theorem dX7_gain_42 : decode cX7_gain 42 = .ok (.iconst 0, 1) := by decide +kernel
theorem dX7_gain_43 : decode cX7_gain 43 = .ok (.istore 5, 2) := by decide +kernel
theorem dX7_gain_45 : decode cX7_gain 45 = .ok (.iload 5, 2) := by decide +kernel
theorem dX7_gain_47 : decode cX7_gain 47 = .ok (.iload_n 2, 1) := by decide +kernel
theorem dX7_gain_48 : decode cX7_gain 48 = .ok (.if_icmp .gt 84, 3) := by decide +kernel
theorem dX7_gain_51 : decode cX7_gain 51 = .ok (.iload 5, 2) := by decide +kernel
theorem dX7_gain_53 : decode cX7_gain 53 = .ok (.istore 6, 2) := by decide +kernel
theorem dX7_gain_55 : decode cX7_gain 55 = .ok (.iload 6, 2) := by decide +kernel
theorem dX7_gain_57 : decode cX7_gain 57 = .ok (.iload_n 2, 1) := by decide +kernel
theorem dX7_gain_58 : decode cX7_gain 58 = .ok (.if_icmp .gt 68, 3) := by decide +kernel
theorem dX7_gain_61 : decode cX7_gain 61 = .ok (.bipush 10, 2) := by decide +kernel
theorem dX7_gain_63 : decode cX7_gain 63 = .ok (.iload_n 1, 1) := by decide +kernel
theorem dX7_gain_64 : decode cX7_gain 64 = .ok (.aload_n 0, 1) := by decide +kernel
theorem dX7_gain_65 : decode cX7_gain 65 = .ok (.iload 5, 2) := by decide +kernel
theorem dX7_gain_67 : decode cX7_gain 67 = .ok (.invokevirtual 211, 3) := by decide +kernel
theorem dX7_gain_70 : decode cX7_gain 70 = .ok (.imul, 1) := by decide +kernel
theorem dX7_gain_71 : decode cX7_gain 71 = .ok (.aload_n 0, 1) := by decide +kernel
theorem dX7_gain_72 : decode cX7_gain 72 = .ok (.iload 6, 2) := by decide +kernel
theorem dX7_gain_74 : decode cX7_gain 74 = .ok (.invokevirtual 211, 3) := by decide +kernel
theorem dX7_gain_77 : decode cX7_gain 77 = .ok (.idiv, 1) := by decide +kernel
theorem dX7_gain_78 : decode cX7_gain 78 = .ok (.imul, 1) := by decide +kernel
theorem dX7_gain_79 : decode cX7_gain 79 = .ok (.bipush 10, 2) := by decide +kernel
theorem dX7_gain_81 : decode cX7_gain 81 = .ok (.iload_n 1, 1) := by decide +kernel
theorem dX7_gain_82 : decode cX7_gain 82 = .ok (.imul, 1) := by decide +kernel
theorem dX7_gain_83 : decode cX7_gain 83 = .ok (.isub, 1) := by decide +kernel
theorem dX7_gain_84 : decode cX7_gain 84 = .ok (.istore 7, 2) := by decide +kernel
theorem dX7_gain_86 : decode cX7_gain 86 = .ok (.iload 7, 2) := by decide +kernel
theorem dX7_gain_88 : decode cX7_gain 88 = .ok (.iload_n 3, 1) := by decide +kernel
theorem dX7_gain_89 : decode cX7_gain 89 = .ok (.if_icmp .le 14, 3) := by decide +kernel
theorem dX7_gain_92 : decode cX7_gain 92 = .ok (.bipush 100, 2) := by decide +kernel
theorem dX7_gain_94 : decode cX7_gain 94 = .ok (.iload 5, 2) := by decide +kernel
theorem dX7_gain_96 : decode cX7_gain 96 = .ok (.imul, 1) := by decide +kernel
theorem dX7_gain_97 : decode cX7_gain 97 = .ok (.iload 6, 2) := by decide +kernel
theorem dX7_gain_99 : decode cX7_gain 99 = .ok (.iadd, 1) := by decide +kernel
theorem dX7_gain_100 : decode cX7_gain 100 = .ok (.goto 5, 3) := by decide +kernel
theorem dX7_gain_103 : decode cX7_gain 103 = .ok (.iload 4, 2) := by decide +kernel
theorem dX7_gain_105 : decode cX7_gain 105 = .ok (.istore 4, 2) := by decide +kernel
theorem dX7_gain_107 : decode cX7_gain 107 = .ok (.iload 7, 2) := by decide +kernel
theorem dX7_gain_109 : decode cX7_gain 109 = .ok (.iload_n 3, 1) := by decide +kernel
theorem dX7_gain_110 : decode cX7_gain 110 = .ok (.if_icmp .le 8, 3) := by decide +kernel
theorem dX7_gain_113 : decode cX7_gain 113 = .ok (.iload 7, 2) := by decide +kernel
theorem dX7_gain_115 : decode cX7_gain 115 = .ok (.goto 4, 3) := by decide +kernel
theorem dX7_gain_118 : decode cX7_gain 118 = .ok (.iload_n 3, 1) := by decide +kernel
theorem dX7_gain_119 : decode cX7_gain 119 = .ok (.istore_n 3, 1) := by decide +kernel
theorem dX7_gain_120 : decode cX7_gain 120 = .ok (.iinc 6 1, 3) := by decide +kernel
theorem dX7_gain_123 : decode cX7_gain 123 = .ok (.goto (-68), 3) := by decide +kernel
theorem dX7_gain_126 : decode cX7_gain 126 = .ok (.iinc 5 1, 3) := by decide +kernel
theorem dX7_gain_129 : decode cX7_gain 129 = .ok (.goto (-84), 3) := by decide +kernel
theorem dX7_gain_132 : decode cX7_gain 132 = .ok (.aload_n 0, 1) := by decide +kernel
theorem dX7_gain_133 : decode cX7_gain 133 = .ok (.iload_n 3, 1) := by decide +kernel
theorem dX7_gain_134 : decode cX7_gain 134 = .ok (.iload 4, 2) := by decide +kernel
theorem dX7_gain_136 : decode cX7_gain 136 = .ok (.invokevirtual 206, 3) := by decide +kernel
theorem dX7_gain_139 : decode cX7_gain 139 = .ok (.ireturn, 1) := by decide +kernel
set_option maxHeartbeats 200000 in
theorem bX7_gain_0 {S : pv_S} {x1 x2 : Int32} {a3 a4 a5 a6 a7 : Option Value} : pv_R mX7_gain 0 [some (.ref 37), some (.int x1), some (.int x2), a3, a4, a5, a6, a7] [] (pv_em S) = pv_cc (pv_R mX7_in 0 [some (.long (Int32.toInt64 x1)), none, some (.long 1), none, some (.long 9), none] [] (pv_em S)) mX7_gain 9 [some (.ref 37), some (.int x1), some (.int x2), a3, a4, a5, a6, a7] [] := Eq.trans (pv_Rstp dX7_gain_0 rfl rfl rfl) (Eq.trans (pv_Rstp dX7_gain_1 rfl rfl rfl) (Eq.trans (pv_Rlc dX7_gain_2 kl_1) (Eq.trans (pv_Rstp dX7_gain_3 rfl rfl rfl) (pv_Rcall (As := [.long (Int32.toInt64 x1), .long 1, .long 9]) (rest := []) dX7_gain_6 rfl mfX7_75 rfl rfl rfl rfl rfl))))
set_option maxHeartbeats 200000 in
theorem bX7_gain_9 {S : pv_S} {x1 x2 u0 : Int32} {a3 a4 a5 a6 a7 : Option Value} : pv_R mX7_gain 9 [some (.ref 37), some (.int x1), some (.int x2), a3, a4, a5, a6, a7] [.int u0] (pv_em S) = if u0 = 0 then pv_R mX7_gain 24 [some (.ref 37), some (.int x1), some (.int x2), a3, a4, a5, a6, a7] [] (pv_em S) else pv_R mX7_gain 12 [some (.ref 37), some (.int x1), some (.int x2), a3, a4, a5, a6, a7] [] (pv_em S) := pv_Rbr (tgt := 24) dX7_gain_9 rfl rfl rfl rfl rfl (by decide)
set_option maxHeartbeats 200000 in
theorem bX7_gain_12 {S : pv_S} {x1 x2 : Int32} {a3 a4 a5 a6 a7 : Option Value} : pv_R mX7_gain 12 [some (.ref 37), some (.int x1), some (.int x2), a3, a4, a5, a6, a7] [] (pv_em S) = pv_cc (pv_R mX7_in 0 [some (.long (Int32.toInt64 x2)), none, some (.long 0), none, some (.long 20), none] [] (pv_em S)) mX7_gain 21 [some (.ref 37), some (.int x1), some (.int x2), a3, a4, a5, a6, a7] [] := Eq.trans (pv_Rstp dX7_gain_12 rfl rfl rfl) (Eq.trans (pv_Rstp dX7_gain_13 rfl rfl rfl) (Eq.trans (pv_Rlc dX7_gain_14 kl_0) (Eq.trans (pv_Rstp dX7_gain_15 rfl rfl rfl) (pv_Rcall (As := [.long (Int32.toInt64 x2), .long 0, .long 20]) (rest := []) dX7_gain_18 rfl mfX7_75 rfl rfl rfl rfl rfl))))
set_option maxHeartbeats 200000 in
theorem bX7_gain_21 {S : pv_S} {x1 x2 u0 : Int32} {a3 a4 a5 a6 a7 : Option Value} : pv_R mX7_gain 21 [some (.ref 37), some (.int x1), some (.int x2), a3, a4, a5, a6, a7] [.int u0] (pv_em S) = if ¬ u0 = 0 then pv_R mX7_gain 26 [some (.ref 37), some (.int x1), some (.int x2), a3, a4, a5, a6, a7] [] (pv_em S) else pv_R mX7_gain 24 [some (.ref 37), some (.int x1), some (.int x2), a3, a4, a5, a6, a7] [] (pv_em S) := pv_Rbr (tgt := 26) dX7_gain_21 rfl rfl rfl rfl rfl (by decide)
set_option maxHeartbeats 200000 in
theorem bX7_gain_24 {S : pv_S} {x1 x2 : Int32} {a3 a4 a5 a6 a7 : Option Value} : pv_R mX7_gain 24 [some (.ref 37), some (.int x1), some (.int x2), a3, a4, a5, a6, a7] [] (pv_em S) = some (some (.int (-1)), pv_em S) := Eq.trans (pv_Ric dX7_gain_24 ki_m1) (pv_Rret dX7_gain_25 rfl)
set_option maxHeartbeats 200000 in
theorem bX7_gain_26 {S : pv_S} {x1 x2 : Int32} {a3 a4 a5 a6 a7 : Option Value} : pv_R mX7_gain 26 [some (.ref 37), some (.int x1), some (.int x2), a3, a4, a5, a6, a7] [] (pv_em S) = if ¬ (S.1 37 4) = 0 then pv_R mX7_gain 36 [some (.ref 37), some (.int x1), some (.int x2), a3, a4, a5, a6, a7] [] (pv_em S) else pv_R mX7_gain 33 [some (.ref 37), some (.int x1), some (.int x2), a3, a4, a5, a6, a7] [] (pv_em S) := Eq.trans (pv_Rstp dX7_gain_26 rfl rfl rfl) (Eq.trans (pv_Rget dX7_gain_27 ffX7_138 (by decide) (pv_ce_37 _ _) rfl) (pv_Rbr (tgt := 36) dX7_gain_30 rfl rfl rfl rfl rfl (by decide)))
set_option maxHeartbeats 200000 in
theorem bX7_gain_33 {S : pv_S} {x1 x2 : Int32} {a3 a4 a5 a6 a7 : Option Value} : pv_R mX7_gain 33 [some (.ref 37), some (.int x1), some (.int x2), a3, a4, a5, a6, a7] [] (pv_em S) = some (some (.int (-4)), pv_em S) := Eq.trans (pv_Rbp dX7_gain_33 kb_m4) (pv_Rret dX7_gain_35 rfl)
set_option maxHeartbeats 200000 in
theorem bX7_gain_36 {S : pv_S} {x1 x2 : Int32} {a3 a4 a5 a6 a7 : Option Value} : pv_R mX7_gain 36 [some (.ref 37), some (.int x1), some (.int x2), a3, a4, a5, a6, a7] [] (pv_em S) = pv_R mX7_gain 45 [some (.ref 37), some (.int x1), some (.int x2), some (.int 0), some (.int (-9)), some (.int 0), a6, a7] [] (pv_em S) := Eq.trans (pv_Ric dX7_gain_36 ki_0) (Eq.trans (pv_Rstp dX7_gain_37 rfl rfl rfl) (Eq.trans (pv_Rbp dX7_gain_38 kb_m9) (Eq.trans (pv_Rstp dX7_gain_40 rfl rfl rfl) (Eq.trans (pv_Ric dX7_gain_42 ki_0) (pv_Rstp dX7_gain_43 rfl rfl rfl)))))
set_option maxHeartbeats 200000 in
theorem bX7_gain_45 {S : pv_S} {x1 x2 x3 x4 x5 : Int32} {a6 a7 : Option Value} : pv_R mX7_gain 45 [some (.ref 37), some (.int x1), some (.int x2), some (.int x3), some (.int x4), some (.int x5), a6, a7] [] (pv_em S) = if x2 < x5 then pv_R mX7_gain 132 [some (.ref 37), some (.int x1), some (.int x2), some (.int x3), some (.int x4), some (.int x5), a6, a7] [] (pv_em S) else pv_R mX7_gain 51 [some (.ref 37), some (.int x1), some (.int x2), some (.int x3), some (.int x4), some (.int x5), a6, a7] [] (pv_em S) := Eq.trans (pv_Rstp dX7_gain_45 rfl rfl rfl) (Eq.trans (pv_Rstp dX7_gain_47 rfl rfl rfl) (pv_Rbr (tgt := 132) dX7_gain_48 rfl rfl rfl rfl rfl (by decide)))
set_option maxHeartbeats 200000 in
theorem bX7_gain_51 {S : pv_S} {x1 x2 x3 x4 x5 : Int32} {a6 a7 : Option Value} : pv_R mX7_gain 51 [some (.ref 37), some (.int x1), some (.int x2), some (.int x3), some (.int x4), some (.int x5), a6, a7] [] (pv_em S) = pv_R mX7_gain 55 [some (.ref 37), some (.int x1), some (.int x2), some (.int x3), some (.int x4), some (.int x5), some (.int x5), a7] [] (pv_em S) := Eq.trans (pv_Rstp dX7_gain_51 rfl rfl rfl) (pv_Rstp dX7_gain_53 rfl rfl rfl)
set_option maxHeartbeats 200000 in
theorem bX7_gain_55 {S : pv_S} {x1 x2 x3 x4 x5 x6 : Int32} {a7 : Option Value} : pv_R mX7_gain 55 [some (.ref 37), some (.int x1), some (.int x2), some (.int x3), some (.int x4), some (.int x5), some (.int x6), a7] [] (pv_em S) = if x2 < x6 then pv_R mX7_gain 126 [some (.ref 37), some (.int x1), some (.int x2), some (.int x3), some (.int x4), some (.int x5), some (.int x6), a7] [] (pv_em S) else pv_R mX7_gain 61 [some (.ref 37), some (.int x1), some (.int x2), some (.int x3), some (.int x4), some (.int x5), some (.int x6), a7] [] (pv_em S) := Eq.trans (pv_Rstp dX7_gain_55 rfl rfl rfl) (Eq.trans (pv_Rstp dX7_gain_57 rfl rfl rfl) (pv_Rbr (tgt := 126) dX7_gain_58 rfl rfl rfl rfl rfl (by decide)))
set_option maxHeartbeats 200000 in
theorem bX7_gain_61 {S : pv_S} {x1 x2 x3 x4 x5 x6 : Int32} {a7 : Option Value} : pv_R mX7_gain 61 [some (.ref 37), some (.int x1), some (.int x2), some (.int x3), some (.int x4), some (.int x5), some (.int x6), a7] [] (pv_em S) = pv_cc (pv_R mX7_poundIn 0 [some (.ref 37), some (.int x5)] [] (pv_em S)) mX7_gain 70 [some (.ref 37), some (.int x1), some (.int x2), some (.int x3), some (.int x4), some (.int x5), some (.int x6), a7] [.int x1, .int 10] := Eq.trans (pv_Rbp dX7_gain_61 kb_10) (Eq.trans (pv_Rstp dX7_gain_63 rfl rfl rfl) (Eq.trans (pv_Rstp dX7_gain_64 rfl rfl rfl) (Eq.trans (pv_Rstp dX7_gain_65 rfl rfl rfl) (pv_Rcall (As := [.ref 37, .int x5]) (rest := [.int x1, .int 10]) dX7_gain_67 rfl mfX7_211 rfl rfl rfl rfl rfl))))
set_option maxHeartbeats 200000 in
theorem bX7_gain_70 {S : pv_S} {x1 x2 x3 x4 x5 x6 u0 u1 u2 : Int32} {a7 : Option Value} : pv_R mX7_gain 70 [some (.ref 37), some (.int x1), some (.int x2), some (.int x3), some (.int x4), some (.int x5), some (.int x6), a7] [.int u0, .int u1, .int u2] (pv_em S) = pv_cc (pv_R mX7_poundIn 0 [some (.ref 37), some (.int x6)] [] (pv_em S)) mX7_gain 77 [some (.ref 37), some (.int x1), some (.int x2), some (.int x3), some (.int x4), some (.int x5), some (.int x6), a7] [.int (u1 * u0), .int u2] := Eq.trans (pv_Rstp dX7_gain_70 rfl rfl rfl) (Eq.trans (pv_Rstp dX7_gain_71 rfl rfl rfl) (Eq.trans (pv_Rstp dX7_gain_72 rfl rfl rfl) (pv_Rcall (As := [.ref 37, .int x6]) (rest := [.int (u1 * u0), .int u2]) dX7_gain_74 rfl mfX7_211 rfl rfl rfl rfl rfl)))
set_option maxHeartbeats 200000 in
theorem bX7_gain_77 {S : pv_S} {x1 x2 x3 x4 x5 x6 u0 u1 u2 : Int32} {a7 : Option Value} : pv_R mX7_gain 77 [some (.ref 37), some (.int x1), some (.int x2), some (.int x3), some (.int x4), some (.int x5), some (.int x6), a7] [.int u0, .int u1, .int u2] (pv_em S) = if u0 = 0 then none else if ((u2 * (u1 / u0)) - (10 * x1)) ≤ x3 then pv_R mX7_gain 103 [some (.ref 37), some (.int x1), some (.int x2), some (.int x3), some (.int x4), some (.int x5), some (.int x6), some (.int ((u2 * (u1 / u0)) - (10 * x1)))] [] (pv_em S) else pv_R mX7_gain 92 [some (.ref 37), some (.int x1), some (.int x2), some (.int x3), some (.int x4), some (.int x5), some (.int x6), some (.int ((u2 * (u1 / u0)) - (10 * x1)))] [] (pv_em S) := Eq.trans (pv_Rdiv dX7_gain_77) (pv_iteN (fun h1 => Eq.trans (pv_Rstp dX7_gain_78 rfl rfl rfl) (Eq.trans (pv_Rbp dX7_gain_79 kb_10) (Eq.trans (pv_Rstp dX7_gain_81 rfl rfl rfl) (Eq.trans (pv_Rstp dX7_gain_82 rfl rfl rfl) (Eq.trans (pv_Rstp dX7_gain_83 rfl rfl rfl) (Eq.trans (pv_Rstp dX7_gain_84 rfl rfl rfl) (Eq.trans (pv_Rstp dX7_gain_86 rfl rfl rfl) (Eq.trans (pv_Rstp dX7_gain_88 rfl rfl rfl) (pv_Rbr (tgt := 103) dX7_gain_89 rfl rfl rfl rfl rfl (by decide)))))))))))
set_option maxHeartbeats 200000 in
theorem bX7_gain_92 {S : pv_S} {x1 x2 x3 x4 x5 x6 x7 : Int32} : pv_R mX7_gain 92 [some (.ref 37), some (.int x1), some (.int x2), some (.int x3), some (.int x4), some (.int x5), some (.int x6), some (.int x7)] [] (pv_em S) = pv_R mX7_gain 105 [some (.ref 37), some (.int x1), some (.int x2), some (.int x3), some (.int x4), some (.int x5), some (.int x6), some (.int x7)] [.int ((100 * x5) + x6)] (pv_em S) := Eq.trans (pv_Rbp dX7_gain_92 kb_100) (Eq.trans (pv_Rstp dX7_gain_94 rfl rfl rfl) (Eq.trans (pv_Rstp dX7_gain_96 rfl rfl rfl) (Eq.trans (pv_Rstp dX7_gain_97 rfl rfl rfl) (Eq.trans (pv_Rstp dX7_gain_99 rfl rfl rfl) (pv_Rgo (tgt := 105) dX7_gain_100 rfl (by decide))))))
set_option maxHeartbeats 200000 in
theorem bX7_gain_103 {S : pv_S} {x1 x2 x3 x4 x5 x6 x7 : Int32} : pv_R mX7_gain 103 [some (.ref 37), some (.int x1), some (.int x2), some (.int x3), some (.int x4), some (.int x5), some (.int x6), some (.int x7)] [] (pv_em S) = pv_R mX7_gain 105 [some (.ref 37), some (.int x1), some (.int x2), some (.int x3), some (.int x4), some (.int x5), some (.int x6), some (.int x7)] [.int x4] (pv_em S) := pv_Rstp dX7_gain_103 rfl rfl rfl
set_option maxHeartbeats 200000 in
theorem bX7_gain_105 {S : pv_S} {x1 x2 x3 x4 x5 x6 x7 u0 : Int32} : pv_R mX7_gain 105 [some (.ref 37), some (.int x1), some (.int x2), some (.int x3), some (.int x4), some (.int x5), some (.int x6), some (.int x7)] [.int u0] (pv_em S) = if x7 ≤ x3 then pv_R mX7_gain 118 [some (.ref 37), some (.int x1), some (.int x2), some (.int x3), some (.int u0), some (.int x5), some (.int x6), some (.int x7)] [] (pv_em S) else pv_R mX7_gain 113 [some (.ref 37), some (.int x1), some (.int x2), some (.int x3), some (.int u0), some (.int x5), some (.int x6), some (.int x7)] [] (pv_em S) := Eq.trans (pv_Rstp dX7_gain_105 rfl rfl rfl) (Eq.trans (pv_Rstp dX7_gain_107 rfl rfl rfl) (Eq.trans (pv_Rstp dX7_gain_109 rfl rfl rfl) (pv_Rbr (tgt := 118) dX7_gain_110 rfl rfl rfl rfl rfl (by decide))))
set_option maxHeartbeats 200000 in
theorem bX7_gain_113 {S : pv_S} {x1 x2 x3 x4 x5 x6 x7 : Int32} : pv_R mX7_gain 113 [some (.ref 37), some (.int x1), some (.int x2), some (.int x3), some (.int x4), some (.int x5), some (.int x6), some (.int x7)] [] (pv_em S) = pv_R mX7_gain 119 [some (.ref 37), some (.int x1), some (.int x2), some (.int x3), some (.int x4), some (.int x5), some (.int x6), some (.int x7)] [.int x7] (pv_em S) := Eq.trans (pv_Rstp dX7_gain_113 rfl rfl rfl) (pv_Rgo (tgt := 119) dX7_gain_115 rfl (by decide))
set_option maxHeartbeats 200000 in
theorem bX7_gain_118 {S : pv_S} {x1 x2 x3 x4 x5 x6 x7 : Int32} : pv_R mX7_gain 118 [some (.ref 37), some (.int x1), some (.int x2), some (.int x3), some (.int x4), some (.int x5), some (.int x6), some (.int x7)] [] (pv_em S) = pv_R mX7_gain 119 [some (.ref 37), some (.int x1), some (.int x2), some (.int x3), some (.int x4), some (.int x5), some (.int x6), some (.int x7)] [.int x3] (pv_em S) := pv_Rstp dX7_gain_118 rfl rfl rfl
set_option maxHeartbeats 200000 in
theorem bX7_gain_119 {S : pv_S} {x1 x2 x3 x4 x5 x6 x7 u0 : Int32} : pv_R mX7_gain 119 [some (.ref 37), some (.int x1), some (.int x2), some (.int x3), some (.int x4), some (.int x5), some (.int x6), some (.int x7)] [.int u0] (pv_em S) = pv_R mX7_gain 55 [some (.ref 37), some (.int x1), some (.int x2), some (.int u0), some (.int x4), some (.int x5), some (.int (x6 + 1)), some (.int x7)] [] (pv_em S) := Eq.trans (pv_Rstp dX7_gain_119 rfl rfl rfl) (Eq.trans (pv_Rinc dX7_gain_120 rfl (Nat.le_of_ble_eq_true rfl) ki_1 rfl) (pv_Rgo (tgt := 55) dX7_gain_123 rfl (by decide)))
set_option maxHeartbeats 200000 in
theorem bX7_gain_126 {S : pv_S} {x1 x2 x3 x4 x5 x6 : Int32} {a7 : Option Value} : pv_R mX7_gain 126 [some (.ref 37), some (.int x1), some (.int x2), some (.int x3), some (.int x4), some (.int x5), some (.int x6), a7] [] (pv_em S) = pv_R mX7_gain 45 [some (.ref 37), some (.int x1), some (.int x2), some (.int x3), some (.int x4), some (.int (x5 + 1)), some (.int x6), a7] [] (pv_em S) := Eq.trans (pv_Rinc dX7_gain_126 rfl (Nat.le_of_ble_eq_true rfl) ki_1 rfl) (pv_Rgo (tgt := 45) dX7_gain_129 rfl (by decide))
set_option maxHeartbeats 200000 in
theorem bX7_gain_132 {S : pv_S} {x1 x2 x3 x4 x5 : Int32} {a6 a7 : Option Value} : pv_R mX7_gain 132 [some (.ref 37), some (.int x1), some (.int x2), some (.int x3), some (.int x4), some (.int x5), a6, a7] [] (pv_em S) = pv_cc (pv_R mX7_answer 0 [some (.ref 37), some (.int x3), some (.int x4)] [] (pv_em S)) mX7_gain 139 [some (.ref 37), some (.int x1), some (.int x2), some (.int x3), some (.int x4), some (.int x5), a6, a7] [] := Eq.trans (pv_Rstp dX7_gain_132 rfl rfl rfl) (Eq.trans (pv_Rstp dX7_gain_133 rfl rfl rfl) (Eq.trans (pv_Rstp dX7_gain_134 rfl rfl rfl) (pv_Rcall (As := [.ref 37, .int x3, .int x4]) (rest := []) dX7_gain_136 rfl mfX7_206 rfl rfl rfl rfl rfl)))
set_option maxHeartbeats 200000 in
theorem bX7_gain_139 {S : pv_S} {x1 x2 x3 x4 x5 u0 : Int32} {a6 a7 : Option Value} : pv_R mX7_gain 139 [some (.ref 37), some (.int x1), some (.int x2), some (.int x3), some (.int x4), some (.int x5), a6, a7] [.int u0] (pv_em S) = some (some (.int u0), pv_em S) := pv_Rret dX7_gain_139 rfl
theorem dX7_ring_0 : decode cX7_ring 0 = .ok (.iload_n 1, 1) := by decide +kernel
theorem dX7_ring_1 : decode cX7_ring 1 = .ok (.i2l, 1) := by decide +kernel
theorem dX7_ring_2 : decode cX7_ring 2 = .ok (.lconst 0, 1) := by decide +kernel
theorem dX7_ring_3 : decode cX7_ring 3 = .ok (.ldc2_w 201, 3) := by decide +kernel
theorem dX7_ring_6 : decode cX7_ring 6 = .ok (.invokestatic 75, 3) := by decide +kernel
theorem dX7_ring_9 : decode cX7_ring 9 = .ok (.ifCond .ne 5, 3) := by decide +kernel
theorem dX7_ring_12 : decode cX7_ring 12 = .ok (.iconst (-1), 1) := by decide +kernel
theorem dX7_ring_13 : decode cX7_ring 13 = .ok (.ireturn, 1) := by decide +kernel
theorem dX7_ring_14 : decode cX7_ring 14 = .ok (.aload_n 0, 1) := by decide +kernel
theorem dX7_ring_15 : decode cX7_ring 15 = .ok (.getfield 138, 3) := by decide +kernel
theorem dX7_ring_18 : decode cX7_ring 18 = .ok (.ifCond .ne 6, 3) := by decide +kernel
theorem dX7_ring_21 : decode cX7_ring 21 = .ok (.bipush (-4), 2) := by decide +kernel
theorem dX7_ring_23 : decode cX7_ring 23 = .ok (.ireturn, 1) := by decide +kernel
theorem dX7_ring_24 : decode cX7_ring 24 = .ok (.iconst (-1), 1) := by decide +kernel
theorem dX7_ring_25 : decode cX7_ring 25 = .ok (.istore_n 2, 1) := by decide +kernel
theorem dX7_ring_26 : decode cX7_ring 26 = .ok (.iconst 0, 1) := by decide +kernel
theorem dX7_ring_27 : decode cX7_ring 27 = .ok (.istore_n 3, 1) := by decide +kernel
theorem dX7_ring_28 : decode cX7_ring 28 = .ok (.iconst 0, 1) := by decide +kernel
theorem dX7_ring_29 : decode cX7_ring 29 = .ok (.istore 4, 2) := by decide +kernel
theorem dX7_ring_31 : decode cX7_ring 31 = .ok (.iload 4, 2) := by decide +kernel
theorem dX7_ring_33 : decode cX7_ring 33 = .ok (.iload_n 1, 1) := by decide +kernel
theorem dX7_ring_34 : decode cX7_ring 34 = .ok (.if_icmp .gt 51, 3) := by decide +kernel
theorem dX7_ring_37 : decode cX7_ring 37 = .ok (.aload_n 0, 1) := by decide +kernel
theorem dX7_ring_38 : decode cX7_ring 38 = .ok (.iload 4, 2) := by decide +kernel
theorem dX7_ring_40 : decode cX7_ring 40 = .ok (.invokevirtual 211, 3) := by decide +kernel
theorem dX7_ring_43 : decode cX7_ring 43 = .ok (.aload_n 0, 1) := by decide +kernel
theorem dX7_ring_44 : decode cX7_ring 44 = .ok (.getfield 141, 3) := by decide +kernel
theorem dX7_ring_47 : decode cX7_ring 47 = .ok (.isub, 1) := by decide +kernel
theorem dX7_ring_48 : decode cX7_ring 48 = .ok (.invokestatic 214, 3) := by decide +kernel
theorem dX7_ring_51 : decode cX7_ring 51 = .ok (.istore 5, 2) := by decide +kernel
theorem dX7_ring_53 : decode cX7_ring 53 = .ok (.iload 5, 2) := by decide +kernel
theorem dX7_ring_55 : decode cX7_ring 55 = .ok (.iload_n 2, 1) := by decide +kernel
theorem dX7_ring_56 : decode cX7_ring 56 = .ok (.if_icmp .le 8, 3) := by decide +kernel
theorem dX7_ring_59 : decode cX7_ring 59 = .ok (.iload 4, 2) := by decide +kernel
theorem dX7_ring_61 : decode cX7_ring 61 = .ok (.goto 4, 3) := by decide +kernel
theorem dX7_ring_64 : decode cX7_ring 64 = .ok (.iload_n 3, 1) := by decide +kernel
theorem dX7_ring_65 : decode cX7_ring 65 = .ok (.istore_n 3, 1) := by decide +kernel
theorem dX7_ring_66 : decode cX7_ring 66 = .ok (.iload 5, 2) := by decide +kernel
theorem dX7_ring_68 : decode cX7_ring 68 = .ok (.iload_n 2, 1) := by decide +kernel
theorem dX7_ring_69 : decode cX7_ring 69 = .ok (.if_icmp .le 8, 3) := by decide +kernel
theorem dX7_ring_72 : decode cX7_ring 72 = .ok (.iload 5, 2) := by decide +kernel
theorem dX7_ring_74 : decode cX7_ring 74 = .ok (.goto 4, 3) := by decide +kernel
theorem dX7_ring_77 : decode cX7_ring 77 = .ok (.iload_n 2, 1) := by decide +kernel
theorem dX7_ring_78 : decode cX7_ring 78 = .ok (.istore_n 2, 1) := by decide +kernel
theorem dX7_ring_79 : decode cX7_ring 79 = .ok (.iinc 4 1, 3) := by decide +kernel
theorem dX7_ring_82 : decode cX7_ring 82 = .ok (.goto (-51), 3) := by decide +kernel
theorem dX7_ring_85 : decode cX7_ring 85 = .ok (.aload_n 0, 1) := by decide +kernel
theorem dX7_ring_86 : decode cX7_ring 86 = .ok (.iload_n 2, 1) := by decide +kernel
theorem dX7_ring_87 : decode cX7_ring 87 = .ok (.iload_n 3, 1) := by decide +kernel
theorem dX7_ring_88 : decode cX7_ring 88 = .ok (.invokevirtual 206, 3) := by decide +kernel
theorem dX7_ring_91 : decode cX7_ring 91 = .ok (.ireturn, 1) := by decide +kernel
set_option maxHeartbeats 200000 in
theorem bX7_ring_0 {S : pv_S} {x1 : Int32} {a2 a3 a4 a5 : Option Value} : pv_R mX7_ring 0 [some (.ref 37), some (.int x1), a2, a3, a4, a5] [] (pv_em S) = pv_cc (pv_R mX7_in 0 [some (.long (Int32.toInt64 x1)), none, some (.long 0), none, some (.long 60), none] [] (pv_em S)) mX7_ring 9 [some (.ref 37), some (.int x1), a2, a3, a4, a5] [] := Eq.trans (pv_Rstp dX7_ring_0 rfl rfl rfl) (Eq.trans (pv_Rstp dX7_ring_1 rfl rfl rfl) (Eq.trans (pv_Rlc dX7_ring_2 kl_0) (Eq.trans (pv_Rstp dX7_ring_3 rfl rfl rfl) (pv_Rcall (As := [.long (Int32.toInt64 x1), .long 0, .long 60]) (rest := []) dX7_ring_6 rfl mfX7_75 rfl rfl rfl rfl rfl))))
set_option maxHeartbeats 200000 in
theorem bX7_ring_9 {S : pv_S} {x1 u0 : Int32} {a2 a3 a4 a5 : Option Value} : pv_R mX7_ring 9 [some (.ref 37), some (.int x1), a2, a3, a4, a5] [.int u0] (pv_em S) = if ¬ u0 = 0 then pv_R mX7_ring 14 [some (.ref 37), some (.int x1), a2, a3, a4, a5] [] (pv_em S) else pv_R mX7_ring 12 [some (.ref 37), some (.int x1), a2, a3, a4, a5] [] (pv_em S) := pv_Rbr (tgt := 14) dX7_ring_9 rfl rfl rfl rfl rfl (by decide)
set_option maxHeartbeats 200000 in
theorem bX7_ring_12 {S : pv_S} {x1 : Int32} {a2 a3 a4 a5 : Option Value} : pv_R mX7_ring 12 [some (.ref 37), some (.int x1), a2, a3, a4, a5] [] (pv_em S) = some (some (.int (-1)), pv_em S) := Eq.trans (pv_Ric dX7_ring_12 ki_m1) (pv_Rret dX7_ring_13 rfl)
set_option maxHeartbeats 200000 in
theorem bX7_ring_14 {S : pv_S} {x1 : Int32} {a2 a3 a4 a5 : Option Value} : pv_R mX7_ring 14 [some (.ref 37), some (.int x1), a2, a3, a4, a5] [] (pv_em S) = if ¬ (S.1 37 4) = 0 then pv_R mX7_ring 24 [some (.ref 37), some (.int x1), a2, a3, a4, a5] [] (pv_em S) else pv_R mX7_ring 21 [some (.ref 37), some (.int x1), a2, a3, a4, a5] [] (pv_em S) := Eq.trans (pv_Rstp dX7_ring_14 rfl rfl rfl) (Eq.trans (pv_Rget dX7_ring_15 ffX7_138 (by decide) (pv_ce_37 _ _) rfl) (pv_Rbr (tgt := 24) dX7_ring_18 rfl rfl rfl rfl rfl (by decide)))
set_option maxHeartbeats 200000 in
theorem bX7_ring_21 {S : pv_S} {x1 : Int32} {a2 a3 a4 a5 : Option Value} : pv_R mX7_ring 21 [some (.ref 37), some (.int x1), a2, a3, a4, a5] [] (pv_em S) = some (some (.int (-4)), pv_em S) := Eq.trans (pv_Rbp dX7_ring_21 kb_m4) (pv_Rret dX7_ring_23 rfl)
set_option maxHeartbeats 200000 in
theorem bX7_ring_24 {S : pv_S} {x1 : Int32} {a2 a3 a4 a5 : Option Value} : pv_R mX7_ring 24 [some (.ref 37), some (.int x1), a2, a3, a4, a5] [] (pv_em S) = pv_R mX7_ring 31 [some (.ref 37), some (.int x1), some (.int (-1)), some (.int 0), some (.int 0), a5] [] (pv_em S) := Eq.trans (pv_Ric dX7_ring_24 ki_m1) (Eq.trans (pv_Rstp dX7_ring_25 rfl rfl rfl) (Eq.trans (pv_Ric dX7_ring_26 ki_0) (Eq.trans (pv_Rstp dX7_ring_27 rfl rfl rfl) (Eq.trans (pv_Ric dX7_ring_28 ki_0) (pv_Rstp dX7_ring_29 rfl rfl rfl)))))
set_option maxHeartbeats 200000 in
theorem bX7_ring_31 {S : pv_S} {x1 x2 x3 x4 : Int32} {a5 : Option Value} : pv_R mX7_ring 31 [some (.ref 37), some (.int x1), some (.int x2), some (.int x3), some (.int x4), a5] [] (pv_em S) = if x1 < x4 then pv_R mX7_ring 85 [some (.ref 37), some (.int x1), some (.int x2), some (.int x3), some (.int x4), a5] [] (pv_em S) else pv_R mX7_ring 37 [some (.ref 37), some (.int x1), some (.int x2), some (.int x3), some (.int x4), a5] [] (pv_em S) := Eq.trans (pv_Rstp dX7_ring_31 rfl rfl rfl) (Eq.trans (pv_Rstp dX7_ring_33 rfl rfl rfl) (pv_Rbr (tgt := 85) dX7_ring_34 rfl rfl rfl rfl rfl (by decide)))
set_option maxHeartbeats 200000 in
theorem bX7_ring_37 {S : pv_S} {x1 x2 x3 x4 : Int32} {a5 : Option Value} : pv_R mX7_ring 37 [some (.ref 37), some (.int x1), some (.int x2), some (.int x3), some (.int x4), a5] [] (pv_em S) = pv_cc (pv_R mX7_poundIn 0 [some (.ref 37), some (.int x4)] [] (pv_em S)) mX7_ring 43 [some (.ref 37), some (.int x1), some (.int x2), some (.int x3), some (.int x4), a5] [] := Eq.trans (pv_Rstp dX7_ring_37 rfl rfl rfl) (Eq.trans (pv_Rstp dX7_ring_38 rfl rfl rfl) (pv_Rcall (As := [.ref 37, .int x4]) (rest := []) dX7_ring_40 rfl mfX7_211 rfl rfl rfl rfl rfl))
set_option maxHeartbeats 200000 in
theorem bX7_ring_43 {S : pv_S} {x1 x2 x3 x4 u0 : Int32} {a5 : Option Value} : pv_R mX7_ring 43 [some (.ref 37), some (.int x1), some (.int x2), some (.int x3), some (.int x4), a5] [.int u0] (pv_em S) = pv_cc (pv_R mX7_abs 0 [some (.int (u0 - (S.1 37 5)))] [] (pv_em S)) mX7_ring 51 [some (.ref 37), some (.int x1), some (.int x2), some (.int x3), some (.int x4), a5] [] := Eq.trans (pv_Rstp dX7_ring_43 rfl rfl rfl) (Eq.trans (pv_Rget dX7_ring_44 ffX7_141 (by decide) (pv_ce_37 _ _) rfl) (Eq.trans (pv_Rstp dX7_ring_47 rfl rfl rfl) (pv_Rcall (As := [.int (u0 - (S.1 37 5))]) (rest := []) dX7_ring_48 rfl mfX7_214 rfl rfl rfl rfl rfl)))
set_option maxHeartbeats 200000 in
theorem bX7_ring_51 {S : pv_S} {x1 x2 x3 x4 u0 : Int32} {a5 : Option Value} : pv_R mX7_ring 51 [some (.ref 37), some (.int x1), some (.int x2), some (.int x3), some (.int x4), a5] [.int u0] (pv_em S) = if u0 ≤ x2 then pv_R mX7_ring 64 [some (.ref 37), some (.int x1), some (.int x2), some (.int x3), some (.int x4), some (.int u0)] [] (pv_em S) else pv_R mX7_ring 59 [some (.ref 37), some (.int x1), some (.int x2), some (.int x3), some (.int x4), some (.int u0)] [] (pv_em S) := Eq.trans (pv_Rstp dX7_ring_51 rfl rfl rfl) (Eq.trans (pv_Rstp dX7_ring_53 rfl rfl rfl) (Eq.trans (pv_Rstp dX7_ring_55 rfl rfl rfl) (pv_Rbr (tgt := 64) dX7_ring_56 rfl rfl rfl rfl rfl (by decide))))
set_option maxHeartbeats 200000 in
theorem bX7_ring_59 {S : pv_S} {x1 x2 x3 x4 x5 : Int32} : pv_R mX7_ring 59 [some (.ref 37), some (.int x1), some (.int x2), some (.int x3), some (.int x4), some (.int x5)] [] (pv_em S) = pv_R mX7_ring 65 [some (.ref 37), some (.int x1), some (.int x2), some (.int x3), some (.int x4), some (.int x5)] [.int x4] (pv_em S) := Eq.trans (pv_Rstp dX7_ring_59 rfl rfl rfl) (pv_Rgo (tgt := 65) dX7_ring_61 rfl (by decide))
set_option maxHeartbeats 200000 in
theorem bX7_ring_64 {S : pv_S} {x1 x2 x3 x4 x5 : Int32} : pv_R mX7_ring 64 [some (.ref 37), some (.int x1), some (.int x2), some (.int x3), some (.int x4), some (.int x5)] [] (pv_em S) = pv_R mX7_ring 65 [some (.ref 37), some (.int x1), some (.int x2), some (.int x3), some (.int x4), some (.int x5)] [.int x3] (pv_em S) := pv_Rstp dX7_ring_64 rfl rfl rfl
set_option maxHeartbeats 200000 in
theorem bX7_ring_65 {S : pv_S} {x1 x2 x3 x4 x5 u0 : Int32} : pv_R mX7_ring 65 [some (.ref 37), some (.int x1), some (.int x2), some (.int x3), some (.int x4), some (.int x5)] [.int u0] (pv_em S) = if x5 ≤ x2 then pv_R mX7_ring 77 [some (.ref 37), some (.int x1), some (.int x2), some (.int u0), some (.int x4), some (.int x5)] [] (pv_em S) else pv_R mX7_ring 72 [some (.ref 37), some (.int x1), some (.int x2), some (.int u0), some (.int x4), some (.int x5)] [] (pv_em S) := Eq.trans (pv_Rstp dX7_ring_65 rfl rfl rfl) (Eq.trans (pv_Rstp dX7_ring_66 rfl rfl rfl) (Eq.trans (pv_Rstp dX7_ring_68 rfl rfl rfl) (pv_Rbr (tgt := 77) dX7_ring_69 rfl rfl rfl rfl rfl (by decide))))
set_option maxHeartbeats 200000 in
theorem bX7_ring_72 {S : pv_S} {x1 x2 x3 x4 x5 : Int32} : pv_R mX7_ring 72 [some (.ref 37), some (.int x1), some (.int x2), some (.int x3), some (.int x4), some (.int x5)] [] (pv_em S) = pv_R mX7_ring 78 [some (.ref 37), some (.int x1), some (.int x2), some (.int x3), some (.int x4), some (.int x5)] [.int x5] (pv_em S) := Eq.trans (pv_Rstp dX7_ring_72 rfl rfl rfl) (pv_Rgo (tgt := 78) dX7_ring_74 rfl (by decide))
set_option maxHeartbeats 200000 in
theorem bX7_ring_77 {S : pv_S} {x1 x2 x3 x4 x5 : Int32} : pv_R mX7_ring 77 [some (.ref 37), some (.int x1), some (.int x2), some (.int x3), some (.int x4), some (.int x5)] [] (pv_em S) = pv_R mX7_ring 78 [some (.ref 37), some (.int x1), some (.int x2), some (.int x3), some (.int x4), some (.int x5)] [.int x2] (pv_em S) := pv_Rstp dX7_ring_77 rfl rfl rfl
set_option maxHeartbeats 200000 in
theorem bX7_ring_78 {S : pv_S} {x1 x2 x3 x4 x5 u0 : Int32} : pv_R mX7_ring 78 [some (.ref 37), some (.int x1), some (.int x2), some (.int x3), some (.int x4), some (.int x5)] [.int u0] (pv_em S) = pv_R mX7_ring 31 [some (.ref 37), some (.int x1), some (.int u0), some (.int x3), some (.int (x4 + 1)), some (.int x5)] [] (pv_em S) := Eq.trans (pv_Rstp dX7_ring_78 rfl rfl rfl) (Eq.trans (pv_Rinc dX7_ring_79 rfl (Nat.le_of_ble_eq_true rfl) ki_1 rfl) (pv_Rgo (tgt := 31) dX7_ring_82 rfl (by decide)))
set_option maxHeartbeats 200000 in
theorem bX7_ring_85 {S : pv_S} {x1 x2 x3 x4 : Int32} {a5 : Option Value} : pv_R mX7_ring 85 [some (.ref 37), some (.int x1), some (.int x2), some (.int x3), some (.int x4), a5] [] (pv_em S) = pv_cc (pv_R mX7_answer 0 [some (.ref 37), some (.int x2), some (.int x3)] [] (pv_em S)) mX7_ring 91 [some (.ref 37), some (.int x1), some (.int x2), some (.int x3), some (.int x4), a5] [] := Eq.trans (pv_Rstp dX7_ring_85 rfl rfl rfl) (Eq.trans (pv_Rstp dX7_ring_86 rfl rfl rfl) (Eq.trans (pv_Rstp dX7_ring_87 rfl rfl rfl) (pv_Rcall (As := [.ref 37, .int x2, .int x3]) (rest := []) dX7_ring_88 rfl mfX7_206 rfl rfl rfl rfl rfl)))
set_option maxHeartbeats 200000 in
theorem bX7_ring_91 {S : pv_S} {x1 x2 x3 x4 u0 : Int32} {a5 : Option Value} : pv_R mX7_ring 91 [some (.ref 37), some (.int x1), some (.int x2), some (.int x3), some (.int x4), a5] [.int u0] (pv_em S) = some (some (.int u0), pv_em S) := pv_Rret dX7_ring_91 rfl
theorem dX7_plan_0 : decode cX7_plan 0 = .ok (.iload_n 1, 1) := by decide +kernel
theorem dX7_plan_1 : decode cX7_plan 1 = .ok (.i2l, 1) := by decide +kernel
theorem dX7_plan_2 : decode cX7_plan 2 = .ok (.lconst 0, 1) := by decide +kernel
theorem dX7_plan_3 : decode cX7_plan 3 = .ok (.ldc2_w 79, 3) := by decide +kernel
theorem dX7_plan_6 : decode cX7_plan 6 = .ok (.invokestatic 75, 3) := by decide +kernel
theorem dX7_plan_9 : decode cX7_plan 9 = .ok (.ifCond .eq 10, 3) := by decide +kernel
theorem dX7_plan_12 : decode cX7_plan 12 = .ok (.iload_n 2, 1) := by decide +kernel
theorem dX7_plan_13 : decode cX7_plan 13 = .ok (.invokestatic 81, 3) := by decide +kernel
theorem dX7_plan_16 : decode cX7_plan 16 = .ok (.ifCond .ne 5, 3) := by decide +kernel
theorem dX7_plan_19 : decode cX7_plan 19 = .ok (.iconst (-1), 1) := by decide +kernel
theorem dX7_plan_20 : decode cX7_plan 20 = .ok (.ireturn, 1) := by decide +kernel
theorem dX7_plan_21 : decode cX7_plan 21 = .ok (.aload_n 0, 1) := by decide +kernel
theorem dX7_plan_22 : decode cX7_plan 22 = .ok (.getfield 138, 3) := by decide +kernel
theorem dX7_plan_25 : decode cX7_plan 25 = .ok (.ifCond .ne 6, 3) := by decide +kernel
theorem dX7_plan_28 : decode cX7_plan 28 = .ok (.bipush (-4), 2) := by decide +kernel
theorem dX7_plan_30 : decode cX7_plan 30 = .ok (.ireturn, 1) := by decide +kernel
theorem dX7_plan_31 : decode cX7_plan 31 = .ok (.iconst 1, 1) := by decide +kernel
theorem dX7_plan_32 : decode cX7_plan 32 = .ok (.istore_n 3, 1) := by decide +kernel
theorem dX7_plan_33 : decode cX7_plan 33 = .ok (.iconst 0, 1) := by decide +kernel
theorem dX7_plan_34 : decode cX7_plan 34 = .ok (.istore 4, 2) := by decide +kernel
theorem dX7_plan_36 : decode cX7_plan 36 = .ok (.iload 4, 2) := by decide +kernel
theorem dX7_plan_38 : decode cX7_plan 38 = .ok (.iload_n 1, 1) := by decide +kernel
theorem dX7_plan_39 : decode cX7_plan 39 = .ok (.if_icmp .ge 18, 3) := by decide +kernel
theorem dX7_plan_42 : decode cX7_plan 42 = .ok (.iload_n 3, 1) := by decide +kernel
theorem dX7_plan_43 : decode cX7_plan 43 = .ok (.aload_n 0, 1) := by decide +kernel
theorem dX7_plan_44 : decode cX7_plan 44 = .ok (.getfield 138, 3) := by decide +kernel
theorem dX7_plan_47 : decode cX7_plan 47 = .ok (.iconst 1, 1) := by decide +kernel
theorem dX7_plan_48 : decode cX7_plan 48 = .ok (.iadd, 1) := by decide +kernel
theorem dX7_plan_49 : decode cX7_plan 49 = .ok (.imul, 1) := by decide +kernel
theorem dX7_plan_50 : decode cX7_plan 50 = .ok (.istore_n 3, 1) := by decide +kernel
theorem dX7_plan_51 : decode cX7_plan 51 = .ok (.iinc 4 1, 3) := by decide +kernel
theorem dX7_plan_54 : decode cX7_plan 54 = .ok (.goto (-18), 3) := by decide +kernel
theorem dX7_plan_57 : decode cX7_plan 57 = .ok (.ldc 217, 2) := by decide +kernel
theorem dX7_plan_59 : decode cX7_plan 59 = .ok (.istore 4, 2) := by decide +kernel
theorem dX7_plan_61 : decode cX7_plan 61 = .ok (.iconst 0, 1) := by decide +kernel
theorem dX7_plan_62 : decode cX7_plan 62 = .ok (.istore 5, 2) := by decide +kernel
theorem dX7_plan_64 : decode cX7_plan 64 = .ok (.iload 5, 2) := by decide +kernel
theorem dX7_plan_66 : decode cX7_plan 66 = .ok (.iload_n 3, 1) := by decide +kernel
theorem dX7_plan_67 : decode cX7_plan 67 = .ok (.if_icmp .ge 43, 3) := by decide +kernel
theorem dX7_plan_70 : decode cX7_plan 70 = .ok (.aload_n 0, 1) := by decide +kernel
theorem dX7_plan_71 : decode cX7_plan 71 = .ok (.iload 5, 2) := by decide +kernel
theorem dX7_plan_73 : decode cX7_plan 73 = .ok (.iload_n 1, 1) := by decide +kernel
theorem dX7_plan_74 : decode cX7_plan 74 = .ok (.invokevirtual 218, 3) := by decide +kernel
theorem dX7_plan_77 : decode cX7_plan 77 = .ok (.istore 6, 2) := by decide +kernel
theorem dX7_plan_79 : decode cX7_plan 79 = .ok (.iload 6, 2) := by decide +kernel
theorem dX7_plan_81 : decode cX7_plan 81 = .ok (.iload 4, 2) := by decide +kernel
theorem dX7_plan_83 : decode cX7_plan 83 = .ok (.if_icmp .le 21, 3) := by decide +kernel
theorem dX7_plan_86 : decode cX7_plan 86 = .ok (.iload 6, 2) := by decide +kernel
theorem dX7_plan_88 : decode cX7_plan 88 = .ok (.istore 4, 2) := by decide +kernel
theorem dX7_plan_90 : decode cX7_plan 90 = .ok (.aload_n 0, 1) := by decide +kernel
theorem dX7_plan_91 : decode cX7_plan 91 = .ok (.getfield 51, 3) := by decide +kernel
theorem dX7_plan_94 : decode cX7_plan 94 = .ok (.iconst 0, 1) := by decide +kernel
theorem dX7_plan_95 : decode cX7_plan 95 = .ok (.aload_n 0, 1) := by decide +kernel
theorem dX7_plan_96 : decode cX7_plan 96 = .ok (.getfield 54, 3) := by decide +kernel
theorem dX7_plan_99 : decode cX7_plan 99 = .ok (.iconst 0, 1) := by decide +kernel
theorem dX7_plan_100 : decode cX7_plan 100 = .ok (.iconst 3, 1) := by decide +kernel
theorem dX7_plan_101 : decode cX7_plan 101 = .ok (.invokestatic 179, 3) := by decide +kernel
theorem dX7_plan_104 : decode cX7_plan 104 = .ok (.iinc 5 1, 3) := by decide +kernel
theorem dX7_plan_107 : decode cX7_plan 107 = .ok (.goto (-43), 3) := by decide +kernel
theorem dX7_plan_110 : decode cX7_plan 110 = .ok (.aload_n 0, 1) := by decide +kernel
theorem dX7_plan_111 : decode cX7_plan 111 = .ok (.getfield 54, 3) := by decide +kernel
theorem dX7_plan_114 : decode cX7_plan 114 = .ok (.iconst 0, 1) := by decide +kernel
theorem dX7_plan_115 : decode cX7_plan 115 = .ok (.aload_n 0, 1) := by decide +kernel
theorem dX7_plan_116 : decode cX7_plan 116 = .ok (.getfield 13, 3) := by decide +kernel
theorem dX7_plan_119 : decode cX7_plan 119 = .ok (.bipush 40, 2) := by decide +kernel
theorem dX7_plan_121 : decode cX7_plan 121 = .ok (.iload_n 2, 1) := by decide +kernel
theorem dX7_plan_122 : decode cX7_plan 122 = .ok (.imul, 1) := by decide +kernel
theorem dX7_plan_123 : decode cX7_plan 123 = .ok (.iload_n 1, 1) := by decide +kernel
theorem dX7_plan_124 : decode cX7_plan 124 = .ok (.invokestatic 179, 3) := by decide +kernel
theorem dX7_plan_127 : decode cX7_plan 127 = .ok (.aload_n 0, 1) := by decide +kernel
theorem dX7_plan_128 : decode cX7_plan 128 = .ok (.getfield 7, 3) := by decide +kernel
theorem dX7_plan_131 : decode cX7_plan 131 = .ok (.iload_n 2, 1) := by decide +kernel
theorem dX7_plan_132 : decode cX7_plan 132 = .ok (.iload_n 1, 1) := by decide +kernel
theorem dX7_plan_133 : decode cX7_plan 133 = .ok (.iastore, 1) := by decide +kernel
theorem dX7_plan_134 : decode cX7_plan 134 = .ok (.iload 4, 2) := by decide +kernel
theorem dX7_plan_136 : decode cX7_plan 136 = .ok (.ireturn, 1) := by decide +kernel
set_option maxHeartbeats 200000 in
theorem bX7_plan_0 {S : pv_S} {x1 x2 : Int32} {a3 a4 a5 a6 : Option Value} : pv_R mX7_plan 0 [some (.ref 37), some (.int x1), some (.int x2), a3, a4, a5, a6] [] (pv_em S) = pv_cc (pv_R mX7_in 0 [some (.long (Int32.toInt64 x1)), none, some (.long 0), none, some (.long 3), none] [] (pv_em S)) mX7_plan 9 [some (.ref 37), some (.int x1), some (.int x2), a3, a4, a5, a6] [] := Eq.trans (pv_Rstp dX7_plan_0 rfl rfl rfl) (Eq.trans (pv_Rstp dX7_plan_1 rfl rfl rfl) (Eq.trans (pv_Rlc dX7_plan_2 kl_0) (Eq.trans (pv_Rstp dX7_plan_3 rfl rfl rfl) (pv_Rcall (As := [.long (Int32.toInt64 x1), .long 0, .long 3]) (rest := []) dX7_plan_6 rfl mfX7_75 rfl rfl rfl rfl rfl))))
set_option maxHeartbeats 200000 in
theorem bX7_plan_9 {S : pv_S} {x1 x2 u0 : Int32} {a3 a4 a5 a6 : Option Value} : pv_R mX7_plan 9 [some (.ref 37), some (.int x1), some (.int x2), a3, a4, a5, a6] [.int u0] (pv_em S) = if u0 = 0 then pv_R mX7_plan 19 [some (.ref 37), some (.int x1), some (.int x2), a3, a4, a5, a6] [] (pv_em S) else pv_R mX7_plan 12 [some (.ref 37), some (.int x1), some (.int x2), a3, a4, a5, a6] [] (pv_em S) := pv_Rbr (tgt := 19) dX7_plan_9 rfl rfl rfl rfl rfl (by decide)
set_option maxHeartbeats 200000 in
theorem bX7_plan_12 {S : pv_S} {x1 x2 : Int32} {a3 a4 a5 a6 : Option Value} : pv_R mX7_plan 12 [some (.ref 37), some (.int x1), some (.int x2), a3, a4, a5, a6] [] (pv_em S) = pv_cc (pv_R mX7_isRow 0 [some (.int x2)] [] (pv_em S)) mX7_plan 16 [some (.ref 37), some (.int x1), some (.int x2), a3, a4, a5, a6] [] := Eq.trans (pv_Rstp dX7_plan_12 rfl rfl rfl) (pv_Rcall (As := [.int x2]) (rest := []) dX7_plan_13 rfl mfX7_81 rfl rfl rfl rfl rfl)
set_option maxHeartbeats 200000 in
theorem bX7_plan_16 {S : pv_S} {x1 x2 u0 : Int32} {a3 a4 a5 a6 : Option Value} : pv_R mX7_plan 16 [some (.ref 37), some (.int x1), some (.int x2), a3, a4, a5, a6] [.int u0] (pv_em S) = if ¬ u0 = 0 then pv_R mX7_plan 21 [some (.ref 37), some (.int x1), some (.int x2), a3, a4, a5, a6] [] (pv_em S) else pv_R mX7_plan 19 [some (.ref 37), some (.int x1), some (.int x2), a3, a4, a5, a6] [] (pv_em S) := pv_Rbr (tgt := 21) dX7_plan_16 rfl rfl rfl rfl rfl (by decide)
set_option maxHeartbeats 200000 in
theorem bX7_plan_19 {S : pv_S} {x1 x2 : Int32} {a3 a4 a5 a6 : Option Value} : pv_R mX7_plan 19 [some (.ref 37), some (.int x1), some (.int x2), a3, a4, a5, a6] [] (pv_em S) = some (some (.int (-1)), pv_em S) := Eq.trans (pv_Ric dX7_plan_19 ki_m1) (pv_Rret dX7_plan_20 rfl)
set_option maxHeartbeats 200000 in
theorem bX7_plan_21 {S : pv_S} {x1 x2 : Int32} {a3 a4 a5 a6 : Option Value} : pv_R mX7_plan 21 [some (.ref 37), some (.int x1), some (.int x2), a3, a4, a5, a6] [] (pv_em S) = if ¬ (S.1 37 4) = 0 then pv_R mX7_plan 31 [some (.ref 37), some (.int x1), some (.int x2), a3, a4, a5, a6] [] (pv_em S) else pv_R mX7_plan 28 [some (.ref 37), some (.int x1), some (.int x2), a3, a4, a5, a6] [] (pv_em S) := Eq.trans (pv_Rstp dX7_plan_21 rfl rfl rfl) (Eq.trans (pv_Rget dX7_plan_22 ffX7_138 (by decide) (pv_ce_37 _ _) rfl) (pv_Rbr (tgt := 31) dX7_plan_25 rfl rfl rfl rfl rfl (by decide)))
set_option maxHeartbeats 200000 in
theorem bX7_plan_28 {S : pv_S} {x1 x2 : Int32} {a3 a4 a5 a6 : Option Value} : pv_R mX7_plan 28 [some (.ref 37), some (.int x1), some (.int x2), a3, a4, a5, a6] [] (pv_em S) = some (some (.int (-4)), pv_em S) := Eq.trans (pv_Rbp dX7_plan_28 kb_m4) (pv_Rret dX7_plan_30 rfl)
set_option maxHeartbeats 200000 in
theorem bX7_plan_31 {S : pv_S} {x1 x2 : Int32} {a3 a4 a5 a6 : Option Value} : pv_R mX7_plan 31 [some (.ref 37), some (.int x1), some (.int x2), a3, a4, a5, a6] [] (pv_em S) = pv_R mX7_plan 36 [some (.ref 37), some (.int x1), some (.int x2), some (.int 1), some (.int 0), a5, a6] [] (pv_em S) := Eq.trans (pv_Ric dX7_plan_31 ki_1) (Eq.trans (pv_Rstp dX7_plan_32 rfl rfl rfl) (Eq.trans (pv_Ric dX7_plan_33 ki_0) (pv_Rstp dX7_plan_34 rfl rfl rfl)))
set_option maxHeartbeats 200000 in
theorem bX7_plan_36 {S : pv_S} {x1 x2 x3 x4 : Int32} {a5 a6 : Option Value} : pv_R mX7_plan 36 [some (.ref 37), some (.int x1), some (.int x2), some (.int x3), some (.int x4), a5, a6] [] (pv_em S) = if x1 ≤ x4 then pv_R mX7_plan 57 [some (.ref 37), some (.int x1), some (.int x2), some (.int x3), some (.int x4), a5, a6] [] (pv_em S) else pv_R mX7_plan 42 [some (.ref 37), some (.int x1), some (.int x2), some (.int x3), some (.int x4), a5, a6] [] (pv_em S) := Eq.trans (pv_Rstp dX7_plan_36 rfl rfl rfl) (Eq.trans (pv_Rstp dX7_plan_38 rfl rfl rfl) (pv_Rbr (tgt := 57) dX7_plan_39 rfl rfl rfl rfl rfl (by decide)))
set_option maxHeartbeats 200000 in
theorem bX7_plan_42 {S : pv_S} {x1 x2 x3 x4 : Int32} {a5 a6 : Option Value} : pv_R mX7_plan 42 [some (.ref 37), some (.int x1), some (.int x2), some (.int x3), some (.int x4), a5, a6] [] (pv_em S) = pv_R mX7_plan 36 [some (.ref 37), some (.int x1), some (.int x2), some (.int (x3 * ((S.1 37 4) + 1))), some (.int (x4 + 1)), a5, a6] [] (pv_em S) := Eq.trans (pv_Rstp dX7_plan_42 rfl rfl rfl) (Eq.trans (pv_Rstp dX7_plan_43 rfl rfl rfl) (Eq.trans (pv_Rget dX7_plan_44 ffX7_138 (by decide) (pv_ce_37 _ _) rfl) (Eq.trans (pv_Ric dX7_plan_47 ki_1) (Eq.trans (pv_Rstp dX7_plan_48 rfl rfl rfl) (Eq.trans (pv_Rstp dX7_plan_49 rfl rfl rfl) (Eq.trans (pv_Rstp dX7_plan_50 rfl rfl rfl) (Eq.trans (pv_Rinc dX7_plan_51 rfl (Nat.le_of_ble_eq_true rfl) ki_1 rfl) (pv_Rgo (tgt := 36) dX7_plan_54 rfl (by decide)))))))))
set_option maxHeartbeats 200000 in
theorem bX7_plan_57 {S : pv_S} {x1 x2 x3 x4 : Int32} {a5 a6 : Option Value} : pv_R mX7_plan 57 [some (.ref 37), some (.int x1), some (.int x2), some (.int x3), some (.int x4), a5, a6] [] (pv_em S) = pv_R mX7_plan 64 [some (.ref 37), some (.int x1), some (.int x2), some (.int x3), some (.int (-1000000)), some (.int 0), a6] [] (pv_em S) := Eq.trans (pv_Rstp dX7_plan_57 rfl rfl rfl) (Eq.trans (pv_Rstp dX7_plan_59 rfl rfl rfl) (Eq.trans (pv_Ric dX7_plan_61 ki_0) (pv_Rstp dX7_plan_62 rfl rfl rfl)))
set_option maxHeartbeats 200000 in
theorem bX7_plan_64 {S : pv_S} {x1 x2 x3 x4 x5 : Int32} {a6 : Option Value} : pv_R mX7_plan 64 [some (.ref 37), some (.int x1), some (.int x2), some (.int x3), some (.int x4), some (.int x5), a6] [] (pv_em S) = if x3 ≤ x5 then pv_R mX7_plan 110 [some (.ref 37), some (.int x1), some (.int x2), some (.int x3), some (.int x4), some (.int x5), a6] [] (pv_em S) else pv_R mX7_plan 70 [some (.ref 37), some (.int x1), some (.int x2), some (.int x3), some (.int x4), some (.int x5), a6] [] (pv_em S) := Eq.trans (pv_Rstp dX7_plan_64 rfl rfl rfl) (Eq.trans (pv_Rstp dX7_plan_66 rfl rfl rfl) (pv_Rbr (tgt := 110) dX7_plan_67 rfl rfl rfl rfl rfl (by decide)))
set_option maxHeartbeats 200000 in
theorem bX7_plan_70 {S : pv_S} {x1 x2 x3 x4 x5 : Int32} {a6 : Option Value} : pv_R mX7_plan 70 [some (.ref 37), some (.int x1), some (.int x2), some (.int x3), some (.int x4), some (.int x5), a6] [] (pv_em S) = pv_cc (pv_R mX7_planned 0 [some (.ref 37), some (.int x5), some (.int x1), none, none, none, none, none] [] (pv_em S)) mX7_plan 77 [some (.ref 37), some (.int x1), some (.int x2), some (.int x3), some (.int x4), some (.int x5), a6] [] := Eq.trans (pv_Rstp dX7_plan_70 rfl rfl rfl) (Eq.trans (pv_Rstp dX7_plan_71 rfl rfl rfl) (Eq.trans (pv_Rstp dX7_plan_73 rfl rfl rfl) (pv_Rcall (As := [.ref 37, .int x5, .int x1]) (rest := []) dX7_plan_74 rfl mfX7_218 rfl rfl rfl rfl rfl)))
set_option maxHeartbeats 200000 in
theorem bX7_plan_77 {S : pv_S} {x1 x2 x3 x4 x5 u0 : Int32} {a6 : Option Value} : pv_R mX7_plan 77 [some (.ref 37), some (.int x1), some (.int x2), some (.int x3), some (.int x4), some (.int x5), a6] [.int u0] (pv_em S) = if u0 ≤ x4 then pv_R mX7_plan 104 [some (.ref 37), some (.int x1), some (.int x2), some (.int x3), some (.int x4), some (.int x5), some (.int u0)] [] (pv_em S) else pv_R mX7_plan 86 [some (.ref 37), some (.int x1), some (.int x2), some (.int x3), some (.int x4), some (.int x5), some (.int u0)] [] (pv_em S) := Eq.trans (pv_Rstp dX7_plan_77 rfl rfl rfl) (Eq.trans (pv_Rstp dX7_plan_79 rfl rfl rfl) (Eq.trans (pv_Rstp dX7_plan_81 rfl rfl rfl) (pv_Rbr (tgt := 104) dX7_plan_83 rfl rfl rfl rfl rfl (by decide))))
set_option maxHeartbeats 200000 in
theorem bX7_plan_86 {S : pv_S} {x1 x2 x3 x4 x5 x6 : Int32} : pv_R mX7_plan 86 [some (.ref 37), some (.int x1), some (.int x2), some (.int x3), some (.int x4), some (.int x5), some (.int x6)] [] (pv_em S) = pv_cc (pv_R mX7_copies 0 [some (.ref 50), some (.int 0), some (.ref 51), some (.int 0), some (.int 3), none] [] (pv_em S)) mX7_plan 104 [some (.ref 37), some (.int x1), some (.int x2), some (.int x3), some (.int x6), some (.int x5), some (.int x6)] [] := Eq.trans (pv_Rstp dX7_plan_86 rfl rfl rfl) (Eq.trans (pv_Rstp dX7_plan_88 rfl rfl rfl) (Eq.trans (pv_Rstp dX7_plan_90 rfl rfl rfl) (Eq.trans (pv_Rget dX7_plan_91 ffX7_51 (by decide) (pv_ce_37 _ _) rfl) (Eq.trans (pv_Ric dX7_plan_94 ki_0) (Eq.trans (pv_Rstp dX7_plan_95 rfl rfl rfl) (Eq.trans (pv_Rget dX7_plan_96 ffX7_54 (by decide) (pv_ce_37 _ _) rfl) (Eq.trans (pv_Ric dX7_plan_99 ki_0) (Eq.trans (pv_Ric dX7_plan_100 ki_3) (pv_Rcall (As := [.ref 50, .int 0, .ref 51, .int 0, .int 3]) (rest := []) dX7_plan_101 rfl mfX7_179 rfl rfl rfl rfl rfl)))))))))
set_option maxHeartbeats 200000 in
theorem bX7_plan_104 {S : pv_S} {x1 x2 x3 x4 x5 x6 : Int32} : pv_R mX7_plan 104 [some (.ref 37), some (.int x1), some (.int x2), some (.int x3), some (.int x4), some (.int x5), some (.int x6)] [] (pv_em S) = pv_R mX7_plan 64 [some (.ref 37), some (.int x1), some (.int x2), some (.int x3), some (.int x4), some (.int (x5 + 1)), some (.int x6)] [] (pv_em S) := Eq.trans (pv_Rinc dX7_plan_104 rfl (Nat.le_of_ble_eq_true rfl) ki_1 rfl) (pv_Rgo (tgt := 64) dX7_plan_107 rfl (by decide))
set_option maxHeartbeats 200000 in
theorem bX7_plan_110 {S : pv_S} {x1 x2 x3 x4 x5 : Int32} {a6 : Option Value} : pv_R mX7_plan 110 [some (.ref 37), some (.int x1), some (.int x2), some (.int x3), some (.int x4), some (.int x5), a6] [] (pv_em S) = pv_cc (pv_R mX7_copies 0 [some (.ref 51), some (.int 0), some (.ref 39), some (.int (40 * x2)), some (.int x1), none] [] (pv_em S)) mX7_plan 127 [some (.ref 37), some (.int x1), some (.int x2), some (.int x3), some (.int x4), some (.int x5), a6] [] := Eq.trans (pv_Rstp dX7_plan_110 rfl rfl rfl) (Eq.trans (pv_Rget dX7_plan_111 ffX7_54 (by decide) (pv_ce_37 _ _) rfl) (Eq.trans (pv_Ric dX7_plan_114 ki_0) (Eq.trans (pv_Rstp dX7_plan_115 rfl rfl rfl) (Eq.trans (pv_Rget dX7_plan_116 ffX7_13 (by decide) (pv_ce_37 _ _) rfl) (Eq.trans (pv_Rbp dX7_plan_119 kb_40) (Eq.trans (pv_Rstp dX7_plan_121 rfl rfl rfl) (Eq.trans (pv_Rstp dX7_plan_122 rfl rfl rfl) (Eq.trans (pv_Rstp dX7_plan_123 rfl rfl rfl) (pv_Rcall (As := [.ref 51, .int 0, .ref 39, .int (40 * x2), .int x1]) (rest := []) dX7_plan_124 rfl mfX7_179 rfl rfl rfl rfl rfl)))))))))
set_option maxHeartbeats 200000 in
theorem bX7_plan_127 {S : pv_S} {x1 x2 x3 x4 x5 : Int32} {a6 : Option Value} : pv_R mX7_plan 127 [some (.ref 37), some (.int x1), some (.int x2), some (.int x3), some (.int x4), some (.int x5), a6] [] (pv_em S) = if x2 < 0 ∨ 6 ≤ x2.toNatClampNeg then none else some (some (.int x4), pv_em (pv_si S 38 x2.toNatClampNeg x1)) := Eq.trans (pv_Rstp dX7_plan_127 rfl rfl rfl) (Eq.trans (pv_Rget dX7_plan_128 ffX7_7 (by decide) (pv_ce_37 _ _) rfl) (Eq.trans (pv_Rstp dX7_plan_131 rfl rfl rfl) (Eq.trans (pv_Rstp dX7_plan_132 rfl rfl rfl) (Eq.trans (pv_Rast dX7_plan_133 (by decide) (pv_ce_38 _ _) (pv_em_si rfl)) (pv_iteN (fun h1 => Eq.trans (pv_Rstp dX7_plan_134 rfl rfl rfl) (pv_Rret dX7_plan_136 rfl)))))))
theorem dX7_sacks_0 : decode cX7_sacks 0 = .ok (.aload_n 0, 1) := by decide +kernel
theorem dX7_sacks_1 : decode cX7_sacks 1 = .ok (.iload_n 1, 1) := by decide +kernel
theorem dX7_sacks_2 : decode cX7_sacks 2 = .ok (.invokevirtual 229, 3) := by decide +kernel
theorem dX7_sacks_5 : decode cX7_sacks 5 = .ok (.istore_n 2, 1) := by decide +kernel
theorem dX7_sacks_6 : decode cX7_sacks 6 = .ok (.iload_n 2, 1) := by decide +kernel
theorem dX7_sacks_7 : decode cX7_sacks 7 = .ok (.ifCond .eq 5, 3) := by decide +kernel
theorem dX7_sacks_10 : decode cX7_sacks 10 = .ok (.iload_n 2, 1) := by decide +kernel
theorem dX7_sacks_11 : decode cX7_sacks 11 = .ok (.ireturn, 1) := by decide +kernel
theorem dX7_sacks_12 : decode cX7_sacks 12 = .ok (.iconst 0, 1) := by decide +kernel
theorem dX7_sacks_13 : decode cX7_sacks 13 = .ok (.istore_n 3, 1) := by decide +kernel
theorem dX7_sacks_14 : decode cX7_sacks 14 = .ok (.bipush (-9), 2) := by decide +kernel
theorem dX7_sacks_16 : decode cX7_sacks 16 = .ok (.istore 4, 2) := by decide +kernel
theorem dX7_sacks_18 : decode cX7_sacks 18 = .ok (.iconst 0, 1) := by decide +kernel
theorem dX7_sacks_19 : decode cX7_sacks 19 = .ok (.istore 5, 2) := by decide +kernel
theorem dX7_sacks_21 : decode cX7_sacks 21 = .ok (.iload 5, 2) := by decide +kernel
theorem dX7_sacks_23 : decode cX7_sacks 23 = .ok (.iconst 1, 1) := by decide +kernel
theorem dX7_sacks_24 : decode cX7_sacks 24 = .ok (.aload_n 0, 1) := by decide +kernel
theorem dX7_sacks_25 : decode cX7_sacks 25 = .ok (.getfield 138, 3) := by decide +kernel
theorem dX7_sacks_28 : decode cX7_sacks 28 = .ok (.ishl, 1) := by decide +kernel
theorem dX7_sacks_29 : decode cX7_sacks 29 = .ok (.if_icmp .ge 38, 3) := by decide +kernel
theorem dX7_sacks_32 : decode cX7_sacks 32 = .ok (.aload_n 0, 1) := by decide +kernel
theorem dX7_sacks_33 : decode cX7_sacks 33 = .ok (.iload 5, 2) := by decide +kernel
theorem dX7_sacks_35 : decode cX7_sacks 35 = .ok (.iload_n 1, 1) := by decide +kernel
theorem dX7_sacks_36 : decode cX7_sacks 36 = .ok (.invokevirtual 232, 3) := by decide +kernel
theorem dX7_sacks_39 : decode cX7_sacks 39 = .ok (.ifCond .eq 22, 3) := by decide +kernel
theorem dX7_sacks_42 : decode cX7_sacks 42 = .ok (.iinc 3 1, 3) := by decide +kernel
theorem dX7_sacks_45 : decode cX7_sacks 45 = .ok (.iload 4, 2) := by decide +kernel
theorem dX7_sacks_47 : decode cX7_sacks 47 = .ok (.bipush (-9), 2) := by decide +kernel
theorem dX7_sacks_49 : decode cX7_sacks 49 = .ok (.if_icmp .ne 8, 3) := by decide +kernel
theorem dX7_sacks_52 : decode cX7_sacks 52 = .ok (.iload 5, 2) := by decide +kernel
theorem dX7_sacks_54 : decode cX7_sacks 54 = .ok (.goto 5, 3) := by decide +kernel
theorem dX7_sacks_57 : decode cX7_sacks 57 = .ok (.iload 4, 2) := by decide +kernel
theorem dX7_sacks_59 : decode cX7_sacks 59 = .ok (.istore 4, 2) := by decide +kernel
theorem dX7_sacks_61 : decode cX7_sacks 61 = .ok (.iinc 5 1, 3) := by decide +kernel
theorem dX7_sacks_64 : decode cX7_sacks 64 = .ok (.goto (-43), 3) := by decide +kernel
theorem dX7_sacks_67 : decode cX7_sacks 67 = .ok (.aload_n 0, 1) := by decide +kernel
theorem dX7_sacks_68 : decode cX7_sacks 68 = .ok (.iload 4, 2) := by decide +kernel
theorem dX7_sacks_70 : decode cX7_sacks 70 = .ok (.putfield 70, 3) := by decide +kernel
theorem dX7_sacks_73 : decode cX7_sacks 73 = .ok (.aload_n 0, 1) := by decide +kernel
theorem dX7_sacks_74 : decode cX7_sacks 74 = .ok (.iload_n 3, 1) := by decide +kernel
theorem dX7_sacks_75 : decode cX7_sacks 75 = .ok (.i2l, 1) := by decide +kernel
theorem dX7_sacks_76 : decode cX7_sacks 76 = .ok (.lconst 1, 1) := by decide +kernel
theorem dX7_sacks_77 : decode cX7_sacks 77 = .ok (.invokevirtual 235, 3) := by decide +kernel
theorem dX7_sacks_80 : decode cX7_sacks 80 = .ok (.ireturn, 1) := by decide +kernel
set_option maxHeartbeats 200000 in
theorem bX7_sacks_0 {S : pv_S} {x1 : Int32} {a2 a3 a4 a5 : Option Value} : pv_R mX7_sacks 0 [some (.ref 37), some (.int x1), a2, a3, a4, a5] [] (pv_em S) = pv_cc (pv_R mX7_refuses 0 [some (.ref 37), some (.int x1)] [] (pv_em S)) mX7_sacks 5 [some (.ref 37), some (.int x1), a2, a3, a4, a5] [] := Eq.trans (pv_Rstp dX7_sacks_0 rfl rfl rfl) (Eq.trans (pv_Rstp dX7_sacks_1 rfl rfl rfl) (pv_Rcall (As := [.ref 37, .int x1]) (rest := []) dX7_sacks_2 rfl mfX7_229 rfl rfl rfl rfl rfl))
set_option maxHeartbeats 200000 in
theorem bX7_sacks_5 {S : pv_S} {x1 u0 : Int32} {a2 a3 a4 a5 : Option Value} : pv_R mX7_sacks 5 [some (.ref 37), some (.int x1), a2, a3, a4, a5] [.int u0] (pv_em S) = if u0 = 0 then pv_R mX7_sacks 12 [some (.ref 37), some (.int x1), some (.int u0), a3, a4, a5] [] (pv_em S) else pv_R mX7_sacks 10 [some (.ref 37), some (.int x1), some (.int u0), a3, a4, a5] [] (pv_em S) := Eq.trans (pv_Rstp dX7_sacks_5 rfl rfl rfl) (Eq.trans (pv_Rstp dX7_sacks_6 rfl rfl rfl) (pv_Rbr (tgt := 12) dX7_sacks_7 rfl rfl rfl rfl rfl (by decide)))
set_option maxHeartbeats 200000 in
theorem bX7_sacks_10 {S : pv_S} {x1 x2 : Int32} {a3 a4 a5 : Option Value} : pv_R mX7_sacks 10 [some (.ref 37), some (.int x1), some (.int x2), a3, a4, a5] [] (pv_em S) = some (some (.int x2), pv_em S) := Eq.trans (pv_Rstp dX7_sacks_10 rfl rfl rfl) (pv_Rret dX7_sacks_11 rfl)
set_option maxHeartbeats 200000 in
theorem bX7_sacks_12 {S : pv_S} {x1 x2 : Int32} {a3 a4 a5 : Option Value} : pv_R mX7_sacks 12 [some (.ref 37), some (.int x1), some (.int x2), a3, a4, a5] [] (pv_em S) = pv_R mX7_sacks 21 [some (.ref 37), some (.int x1), some (.int x2), some (.int 0), some (.int (-9)), some (.int 0)] [] (pv_em S) := Eq.trans (pv_Ric dX7_sacks_12 ki_0) (Eq.trans (pv_Rstp dX7_sacks_13 rfl rfl rfl) (Eq.trans (pv_Rbp dX7_sacks_14 kb_m9) (Eq.trans (pv_Rstp dX7_sacks_16 rfl rfl rfl) (Eq.trans (pv_Ric dX7_sacks_18 ki_0) (pv_Rstp dX7_sacks_19 rfl rfl rfl)))))
set_option maxHeartbeats 200000 in
theorem bX7_sacks_21 {S : pv_S} {x1 x2 x3 x4 x5 : Int32} : pv_R mX7_sacks 21 [some (.ref 37), some (.int x1), some (.int x2), some (.int x3), some (.int x4), some (.int x5)] [] (pv_em S) = if (1 <<< ((S.1 37 4) &&& 31)) ≤ x5 then pv_R mX7_sacks 67 [some (.ref 37), some (.int x1), some (.int x2), some (.int x3), some (.int x4), some (.int x5)] [] (pv_em S) else pv_R mX7_sacks 32 [some (.ref 37), some (.int x1), some (.int x2), some (.int x3), some (.int x4), some (.int x5)] [] (pv_em S) := Eq.trans (pv_Rstp dX7_sacks_21 rfl rfl rfl) (Eq.trans (pv_Ric dX7_sacks_23 ki_1) (Eq.trans (pv_Rstp dX7_sacks_24 rfl rfl rfl) (Eq.trans (pv_Rget dX7_sacks_25 ffX7_138 (by decide) (pv_ce_37 _ _) rfl) (Eq.trans (pv_Rstp dX7_sacks_28 rfl rfl rfl) (pv_Rbr (tgt := 67) dX7_sacks_29 rfl rfl rfl rfl rfl (by decide))))))
set_option maxHeartbeats 200000 in
theorem bX7_sacks_32 {S : pv_S} {x1 x2 x3 x4 x5 : Int32} : pv_R mX7_sacks 32 [some (.ref 37), some (.int x1), some (.int x2), some (.int x3), some (.int x4), some (.int x5)] [] (pv_em S) = pv_cc (pv_R mX7_isSack 0 [some (.ref 37), some (.int x5), some (.int x1), none, none] [] (pv_em S)) mX7_sacks 39 [some (.ref 37), some (.int x1), some (.int x2), some (.int x3), some (.int x4), some (.int x5)] [] := Eq.trans (pv_Rstp dX7_sacks_32 rfl rfl rfl) (Eq.trans (pv_Rstp dX7_sacks_33 rfl rfl rfl) (Eq.trans (pv_Rstp dX7_sacks_35 rfl rfl rfl) (pv_Rcall (As := [.ref 37, .int x5, .int x1]) (rest := []) dX7_sacks_36 rfl mfX7_232 rfl rfl rfl rfl rfl)))
set_option maxHeartbeats 200000 in
theorem bX7_sacks_39 {S : pv_S} {x1 x2 x3 x4 x5 u0 : Int32} : pv_R mX7_sacks 39 [some (.ref 37), some (.int x1), some (.int x2), some (.int x3), some (.int x4), some (.int x5)] [.int u0] (pv_em S) = if u0 = 0 then pv_R mX7_sacks 61 [some (.ref 37), some (.int x1), some (.int x2), some (.int x3), some (.int x4), some (.int x5)] [] (pv_em S) else pv_R mX7_sacks 42 [some (.ref 37), some (.int x1), some (.int x2), some (.int x3), some (.int x4), some (.int x5)] [] (pv_em S) := pv_Rbr (tgt := 61) dX7_sacks_39 rfl rfl rfl rfl rfl (by decide)
set_option maxHeartbeats 200000 in
theorem bX7_sacks_42 {S : pv_S} {x1 x2 x3 x4 x5 : Int32} : pv_R mX7_sacks 42 [some (.ref 37), some (.int x1), some (.int x2), some (.int x3), some (.int x4), some (.int x5)] [] (pv_em S) = if ¬ x4 = (-9) then pv_R mX7_sacks 57 [some (.ref 37), some (.int x1), some (.int x2), some (.int (x3 + 1)), some (.int x4), some (.int x5)] [] (pv_em S) else pv_R mX7_sacks 52 [some (.ref 37), some (.int x1), some (.int x2), some (.int (x3 + 1)), some (.int x4), some (.int x5)] [] (pv_em S) := Eq.trans (pv_Rinc dX7_sacks_42 rfl (Nat.le_of_ble_eq_true rfl) ki_1 rfl) (Eq.trans (pv_Rstp dX7_sacks_45 rfl rfl rfl) (Eq.trans (pv_Rbp dX7_sacks_47 kb_m9) (pv_Rbr (tgt := 57) dX7_sacks_49 rfl rfl rfl rfl rfl (by decide))))
set_option maxHeartbeats 200000 in
theorem bX7_sacks_52 {S : pv_S} {x1 x2 x3 x4 x5 : Int32} : pv_R mX7_sacks 52 [some (.ref 37), some (.int x1), some (.int x2), some (.int x3), some (.int x4), some (.int x5)] [] (pv_em S) = pv_R mX7_sacks 59 [some (.ref 37), some (.int x1), some (.int x2), some (.int x3), some (.int x4), some (.int x5)] [.int x5] (pv_em S) := Eq.trans (pv_Rstp dX7_sacks_52 rfl rfl rfl) (pv_Rgo (tgt := 59) dX7_sacks_54 rfl (by decide))
set_option maxHeartbeats 200000 in
theorem bX7_sacks_57 {S : pv_S} {x1 x2 x3 x4 x5 : Int32} : pv_R mX7_sacks 57 [some (.ref 37), some (.int x1), some (.int x2), some (.int x3), some (.int x4), some (.int x5)] [] (pv_em S) = pv_R mX7_sacks 59 [some (.ref 37), some (.int x1), some (.int x2), some (.int x3), some (.int x4), some (.int x5)] [.int x4] (pv_em S) := pv_Rstp dX7_sacks_57 rfl rfl rfl
set_option maxHeartbeats 200000 in
theorem bX7_sacks_59 {S : pv_S} {x1 x2 x3 x4 x5 u0 : Int32} : pv_R mX7_sacks 59 [some (.ref 37), some (.int x1), some (.int x2), some (.int x3), some (.int x4), some (.int x5)] [.int u0] (pv_em S) = pv_R mX7_sacks 61 [some (.ref 37), some (.int x1), some (.int x2), some (.int x3), some (.int u0), some (.int x5)] [] (pv_em S) := pv_Rstp dX7_sacks_59 rfl rfl rfl
set_option maxHeartbeats 200000 in
theorem bX7_sacks_61 {S : pv_S} {x1 x2 x3 x4 x5 : Int32} : pv_R mX7_sacks 61 [some (.ref 37), some (.int x1), some (.int x2), some (.int x3), some (.int x4), some (.int x5)] [] (pv_em S) = pv_R mX7_sacks 21 [some (.ref 37), some (.int x1), some (.int x2), some (.int x3), some (.int x4), some (.int (x5 + 1))] [] (pv_em S) := Eq.trans (pv_Rinc dX7_sacks_61 rfl (Nat.le_of_ble_eq_true rfl) ki_1 rfl) (pv_Rgo (tgt := 21) dX7_sacks_64 rfl (by decide))
set_option maxHeartbeats 200000 in
theorem bX7_sacks_67 {S : pv_S} {x1 x2 x3 x4 x5 : Int32} : pv_R mX7_sacks 67 [some (.ref 37), some (.int x1), some (.int x2), some (.int x3), some (.int x4), some (.int x5)] [] (pv_em S) = pv_cc (pv_R mX7_fraction 0 [some (.ref 37), some (.long (Int32.toInt64 x3)), none, some (.long 1), none, none, none, none, none, none, none] [] (pv_em (pv_si S 37 13 x4))) mX7_sacks 80 [some (.ref 37), some (.int x1), some (.int x2), some (.int x3), some (.int x4), some (.int x5)] [] := Eq.trans (pv_Rstp dX7_sacks_67 rfl rfl rfl) (Eq.trans (pv_Rstp dX7_sacks_68 rfl rfl rfl) (Eq.trans (pv_Rput dX7_sacks_70 ffX7_70 rfl rfl rfl (by decide) (pv_ce_37 _ _) (Nat.le_of_ble_eq_true rfl) (pv_em_si rfl)) (Eq.trans (pv_Rstp dX7_sacks_73 rfl rfl rfl) (Eq.trans (pv_Rstp dX7_sacks_74 rfl rfl rfl) (Eq.trans (pv_Rstp dX7_sacks_75 rfl rfl rfl) (Eq.trans (pv_Rlc dX7_sacks_76 kl_1) (pv_Rcall (As := [.ref 37, .long (Int32.toInt64 x3), .long 1]) (rest := []) dX7_sacks_77 rfl mfX7_235 rfl rfl rfl rfl rfl)))))))
set_option maxHeartbeats 200000 in
theorem bX7_sacks_80 {S : pv_S} {x1 x2 x3 x4 x5 u0 : Int32} : pv_R mX7_sacks 80 [some (.ref 37), some (.int x1), some (.int x2), some (.int x3), some (.int x4), some (.int x5)] [.int u0] (pv_em S) = some (some (.int u0), pv_em S) := pv_Rret dX7_sacks_80 rfl
theorem dX7_sure_0 : decode cX7_sure 0 = .ok (.aload_n 0, 1) := by decide +kernel
theorem dX7_sure_1 : decode cX7_sure 1 = .ok (.iload_n 1, 1) := by decide +kernel
theorem dX7_sure_2 : decode cX7_sure 2 = .ok (.invokevirtual 229, 3) := by decide +kernel
theorem dX7_sure_5 : decode cX7_sure 5 = .ok (.istore_n 2, 1) := by decide +kernel
theorem dX7_sure_6 : decode cX7_sure 6 = .ok (.iload_n 2, 1) := by decide +kernel
theorem dX7_sure_7 : decode cX7_sure 7 = .ok (.ifCond .eq 5, 3) := by decide +kernel
theorem dX7_sure_10 : decode cX7_sure 10 = .ok (.iload_n 2, 1) := by decide +kernel
theorem dX7_sure_11 : decode cX7_sure 11 = .ok (.ireturn, 1) := by decide +kernel
theorem dX7_sure_12 : decode cX7_sure 12 = .ok (.iconst 1, 1) := by decide +kernel
theorem dX7_sure_13 : decode cX7_sure 13 = .ok (.aload_n 0, 1) := by decide +kernel
theorem dX7_sure_14 : decode cX7_sure 14 = .ok (.getfield 138, 3) := by decide +kernel
theorem dX7_sure_17 : decode cX7_sure 17 = .ok (.ishl, 1) := by decide +kernel
theorem dX7_sure_18 : decode cX7_sure 18 = .ok (.iconst 1, 1) := by decide +kernel
theorem dX7_sure_19 : decode cX7_sure 19 = .ok (.isub, 1) := by decide +kernel
theorem dX7_sure_20 : decode cX7_sure 20 = .ok (.istore_n 3, 1) := by decide +kernel
theorem dX7_sure_21 : decode cX7_sure 21 = .ok (.iload_n 3, 1) := by decide +kernel
theorem dX7_sure_22 : decode cX7_sure 22 = .ok (.istore 4, 2) := by decide +kernel
theorem dX7_sure_24 : decode cX7_sure 24 = .ok (.iconst 0, 1) := by decide +kernel
theorem dX7_sure_25 : decode cX7_sure 25 = .ok (.istore 5, 2) := by decide +kernel
theorem dX7_sure_27 : decode cX7_sure 27 = .ok (.iconst 0, 1) := by decide +kernel
theorem dX7_sure_28 : decode cX7_sure 28 = .ok (.istore 6, 2) := by decide +kernel
theorem dX7_sure_30 : decode cX7_sure 30 = .ok (.iconst 0, 1) := by decide +kernel
theorem dX7_sure_31 : decode cX7_sure 31 = .ok (.istore 7, 2) := by decide +kernel
theorem dX7_sure_33 : decode cX7_sure 33 = .ok (.iload 7, 2) := by decide +kernel
theorem dX7_sure_35 : decode cX7_sure 35 = .ok (.iload_n 3, 1) := by decide +kernel
theorem dX7_sure_36 : decode cX7_sure 36 = .ok (.if_icmp .gt 36, 3) := by decide +kernel
theorem dX7_sure_39 : decode cX7_sure 39 = .ok (.aload_n 0, 1) := by decide +kernel
theorem dX7_sure_40 : decode cX7_sure 40 = .ok (.iload 7, 2) := by decide +kernel
theorem dX7_sure_42 : decode cX7_sure 42 = .ok (.iload_n 1, 1) := by decide +kernel
theorem dX7_sure_43 : decode cX7_sure 43 = .ok (.invokevirtual 232, 3) := by decide +kernel
theorem dX7_sure_46 : decode cX7_sure 46 = .ok (.ifCond .eq 20, 3) := by decide +kernel
theorem dX7_sure_49 : decode cX7_sure 49 = .ok (.iload 4, 2) := by decide +kernel
theorem dX7_sure_51 : decode cX7_sure 51 = .ok (.iload 7, 2) := by decide +kernel
theorem dX7_sure_53 : decode cX7_sure 53 = .ok (.iand, 1) := by decide +kernel
theorem dX7_sure_54 : decode cX7_sure 54 = .ok (.istore 4, 2) := by decide +kernel
theorem dX7_sure_56 : decode cX7_sure 56 = .ok (.iload 5, 2) := by decide +kernel
theorem dX7_sure_58 : decode cX7_sure 58 = .ok (.iload 7, 2) := by decide +kernel
theorem dX7_sure_60 : decode cX7_sure 60 = .ok (.ior, 1) := by decide +kernel
theorem dX7_sure_61 : decode cX7_sure 61 = .ok (.istore 5, 2) := by decide +kernel
theorem dX7_sure_63 : decode cX7_sure 63 = .ok (.iconst 1, 1) := by decide +kernel
theorem dX7_sure_64 : decode cX7_sure 64 = .ok (.istore 6, 2) := by decide +kernel
theorem dX7_sure_66 : decode cX7_sure 66 = .ok (.iinc 7 1, 3) := by decide +kernel
theorem dX7_sure_69 : decode cX7_sure 69 = .ok (.goto (-36), 3) := by decide +kernel
theorem dX7_sure_72 : decode cX7_sure 72 = .ok (.iload 6, 2) := by decide +kernel
theorem dX7_sure_74 : decode cX7_sure 74 = .ok (.ifCond .eq 18, 3) := by decide +kernel
theorem dX7_sure_77 : decode cX7_sure 77 = .ok (.aload_n 0, 1) := by decide +kernel
theorem dX7_sure_78 : decode cX7_sure 78 = .ok (.iload 4, 2) := by decide +kernel
theorem dX7_sure_80 : decode cX7_sure 80 = .ok (.iload_n 3, 1) := by decide +kernel
theorem dX7_sure_81 : decode cX7_sure 81 = .ok (.iload 5, 2) := by decide +kernel
theorem dX7_sure_83 : decode cX7_sure 83 = .ok (.iconst (-1), 1) := by decide +kernel
theorem dX7_sure_84 : decode cX7_sure 84 = .ok (.ixor, 1) := by decide +kernel
theorem dX7_sure_85 : decode cX7_sure 85 = .ok (.iand, 1) := by decide +kernel
theorem dX7_sure_86 : decode cX7_sure 86 = .ok (.invokevirtual 206, 3) := by decide +kernel
theorem dX7_sure_89 : decode cX7_sure 89 = .ok (.goto 8, 3) := by decide +kernel
theorem dX7_sure_92 : decode cX7_sure 92 = .ok (.aload_n 0, 1) := by decide +kernel
theorem dX7_sure_93 : decode cX7_sure 93 = .ok (.iconst 4, 1) := by decide +kernel
theorem dX7_sure_94 : decode cX7_sure 94 = .ok (.invokevirtual 85, 3) := by decide +kernel
theorem dX7_sure_97 : decode cX7_sure 97 = .ok (.ireturn, 1) := by decide +kernel
set_option maxHeartbeats 200000 in
theorem bX7_sure_0 {S : pv_S} {x1 : Int32} {a2 a3 a4 a5 a6 a7 : Option Value} : pv_R mX7_sure 0 [some (.ref 37), some (.int x1), a2, a3, a4, a5, a6, a7] [] (pv_em S) = pv_cc (pv_R mX7_refuses 0 [some (.ref 37), some (.int x1)] [] (pv_em S)) mX7_sure 5 [some (.ref 37), some (.int x1), a2, a3, a4, a5, a6, a7] [] := Eq.trans (pv_Rstp dX7_sure_0 rfl rfl rfl) (Eq.trans (pv_Rstp dX7_sure_1 rfl rfl rfl) (pv_Rcall (As := [.ref 37, .int x1]) (rest := []) dX7_sure_2 rfl mfX7_229 rfl rfl rfl rfl rfl))
set_option maxHeartbeats 200000 in
theorem bX7_sure_5 {S : pv_S} {x1 u0 : Int32} {a2 a3 a4 a5 a6 a7 : Option Value} : pv_R mX7_sure 5 [some (.ref 37), some (.int x1), a2, a3, a4, a5, a6, a7] [.int u0] (pv_em S) = if u0 = 0 then pv_R mX7_sure 12 [some (.ref 37), some (.int x1), some (.int u0), a3, a4, a5, a6, a7] [] (pv_em S) else pv_R mX7_sure 10 [some (.ref 37), some (.int x1), some (.int u0), a3, a4, a5, a6, a7] [] (pv_em S) := Eq.trans (pv_Rstp dX7_sure_5 rfl rfl rfl) (Eq.trans (pv_Rstp dX7_sure_6 rfl rfl rfl) (pv_Rbr (tgt := 12) dX7_sure_7 rfl rfl rfl rfl rfl (by decide)))
set_option maxHeartbeats 200000 in
theorem bX7_sure_10 {S : pv_S} {x1 x2 : Int32} {a3 a4 a5 a6 a7 : Option Value} : pv_R mX7_sure 10 [some (.ref 37), some (.int x1), some (.int x2), a3, a4, a5, a6, a7] [] (pv_em S) = some (some (.int x2), pv_em S) := Eq.trans (pv_Rstp dX7_sure_10 rfl rfl rfl) (pv_Rret dX7_sure_11 rfl)
set_option maxHeartbeats 200000 in
theorem bX7_sure_12 {S : pv_S} {x1 x2 : Int32} {a3 a4 a5 a6 a7 : Option Value} : pv_R mX7_sure 12 [some (.ref 37), some (.int x1), some (.int x2), a3, a4, a5, a6, a7] [] (pv_em S) = pv_R mX7_sure 33 [some (.ref 37), some (.int x1), some (.int x2), some (.int ((1 <<< ((S.1 37 4) &&& 31)) - 1)), some (.int ((1 <<< ((S.1 37 4) &&& 31)) - 1)), some (.int 0), some (.int 0), some (.int 0)] [] (pv_em S) := Eq.trans (pv_Ric dX7_sure_12 ki_1) (Eq.trans (pv_Rstp dX7_sure_13 rfl rfl rfl) (Eq.trans (pv_Rget dX7_sure_14 ffX7_138 (by decide) (pv_ce_37 _ _) rfl) (Eq.trans (pv_Rstp dX7_sure_17 rfl rfl rfl) (Eq.trans (pv_Ric dX7_sure_18 ki_1) (Eq.trans (pv_Rstp dX7_sure_19 rfl rfl rfl) (Eq.trans (pv_Rstp dX7_sure_20 rfl rfl rfl) (Eq.trans (pv_Rstp dX7_sure_21 rfl rfl rfl) (Eq.trans (pv_Rstp dX7_sure_22 rfl rfl rfl) (Eq.trans (pv_Ric dX7_sure_24 ki_0) (Eq.trans (pv_Rstp dX7_sure_25 rfl rfl rfl) (Eq.trans (pv_Ric dX7_sure_27 ki_0) (Eq.trans (pv_Rstp dX7_sure_28 rfl rfl rfl) (Eq.trans (pv_Ric dX7_sure_30 ki_0) (pv_Rstp dX7_sure_31 rfl rfl rfl))))))))))))))
set_option maxHeartbeats 200000 in
theorem bX7_sure_33 {S : pv_S} {x1 x2 x3 x4 x5 x6 x7 : Int32} : pv_R mX7_sure 33 [some (.ref 37), some (.int x1), some (.int x2), some (.int x3), some (.int x4), some (.int x5), some (.int x6), some (.int x7)] [] (pv_em S) = if x3 < x7 then pv_R mX7_sure 72 [some (.ref 37), some (.int x1), some (.int x2), some (.int x3), some (.int x4), some (.int x5), some (.int x6), some (.int x7)] [] (pv_em S) else pv_R mX7_sure 39 [some (.ref 37), some (.int x1), some (.int x2), some (.int x3), some (.int x4), some (.int x5), some (.int x6), some (.int x7)] [] (pv_em S) := Eq.trans (pv_Rstp dX7_sure_33 rfl rfl rfl) (Eq.trans (pv_Rstp dX7_sure_35 rfl rfl rfl) (pv_Rbr (tgt := 72) dX7_sure_36 rfl rfl rfl rfl rfl (by decide)))
set_option maxHeartbeats 200000 in
theorem bX7_sure_39 {S : pv_S} {x1 x2 x3 x4 x5 x6 x7 : Int32} : pv_R mX7_sure 39 [some (.ref 37), some (.int x1), some (.int x2), some (.int x3), some (.int x4), some (.int x5), some (.int x6), some (.int x7)] [] (pv_em S) = pv_cc (pv_R mX7_isSack 0 [some (.ref 37), some (.int x7), some (.int x1), none, none] [] (pv_em S)) mX7_sure 46 [some (.ref 37), some (.int x1), some (.int x2), some (.int x3), some (.int x4), some (.int x5), some (.int x6), some (.int x7)] [] := Eq.trans (pv_Rstp dX7_sure_39 rfl rfl rfl) (Eq.trans (pv_Rstp dX7_sure_40 rfl rfl rfl) (Eq.trans (pv_Rstp dX7_sure_42 rfl rfl rfl) (pv_Rcall (As := [.ref 37, .int x7, .int x1]) (rest := []) dX7_sure_43 rfl mfX7_232 rfl rfl rfl rfl rfl)))
set_option maxHeartbeats 200000 in
theorem bX7_sure_46 {S : pv_S} {x1 x2 x3 x4 x5 x6 x7 u0 : Int32} : pv_R mX7_sure 46 [some (.ref 37), some (.int x1), some (.int x2), some (.int x3), some (.int x4), some (.int x5), some (.int x6), some (.int x7)] [.int u0] (pv_em S) = if u0 = 0 then pv_R mX7_sure 66 [some (.ref 37), some (.int x1), some (.int x2), some (.int x3), some (.int x4), some (.int x5), some (.int x6), some (.int x7)] [] (pv_em S) else pv_R mX7_sure 49 [some (.ref 37), some (.int x1), some (.int x2), some (.int x3), some (.int x4), some (.int x5), some (.int x6), some (.int x7)] [] (pv_em S) := pv_Rbr (tgt := 66) dX7_sure_46 rfl rfl rfl rfl rfl (by decide)
set_option maxHeartbeats 200000 in
theorem bX7_sure_49 {S : pv_S} {x1 x2 x3 x4 x5 x6 x7 : Int32} : pv_R mX7_sure 49 [some (.ref 37), some (.int x1), some (.int x2), some (.int x3), some (.int x4), some (.int x5), some (.int x6), some (.int x7)] [] (pv_em S) = pv_R mX7_sure 66 [some (.ref 37), some (.int x1), some (.int x2), some (.int x3), some (.int (x4 &&& x7)), some (.int (x5 ||| x7)), some (.int 1), some (.int x7)] [] (pv_em S) := Eq.trans (pv_Rstp dX7_sure_49 rfl rfl rfl) (Eq.trans (pv_Rstp dX7_sure_51 rfl rfl rfl) (Eq.trans (pv_Rstp dX7_sure_53 rfl rfl rfl) (Eq.trans (pv_Rstp dX7_sure_54 rfl rfl rfl) (Eq.trans (pv_Rstp dX7_sure_56 rfl rfl rfl) (Eq.trans (pv_Rstp dX7_sure_58 rfl rfl rfl) (Eq.trans (pv_Rstp dX7_sure_60 rfl rfl rfl) (Eq.trans (pv_Rstp dX7_sure_61 rfl rfl rfl) (Eq.trans (pv_Ric dX7_sure_63 ki_1) (pv_Rstp dX7_sure_64 rfl rfl rfl)))))))))
set_option maxHeartbeats 200000 in
theorem bX7_sure_66 {S : pv_S} {x1 x2 x3 x4 x5 x6 x7 : Int32} : pv_R mX7_sure 66 [some (.ref 37), some (.int x1), some (.int x2), some (.int x3), some (.int x4), some (.int x5), some (.int x6), some (.int x7)] [] (pv_em S) = pv_R mX7_sure 33 [some (.ref 37), some (.int x1), some (.int x2), some (.int x3), some (.int x4), some (.int x5), some (.int x6), some (.int (x7 + 1))] [] (pv_em S) := Eq.trans (pv_Rinc dX7_sure_66 rfl (Nat.le_of_ble_eq_true rfl) ki_1 rfl) (pv_Rgo (tgt := 33) dX7_sure_69 rfl (by decide))
set_option maxHeartbeats 200000 in
theorem bX7_sure_72 {S : pv_S} {x1 x2 x3 x4 x5 x6 x7 : Int32} : pv_R mX7_sure 72 [some (.ref 37), some (.int x1), some (.int x2), some (.int x3), some (.int x4), some (.int x5), some (.int x6), some (.int x7)] [] (pv_em S) = if x6 = 0 then pv_R mX7_sure 92 [some (.ref 37), some (.int x1), some (.int x2), some (.int x3), some (.int x4), some (.int x5), some (.int x6), some (.int x7)] [] (pv_em S) else pv_R mX7_sure 77 [some (.ref 37), some (.int x1), some (.int x2), some (.int x3), some (.int x4), some (.int x5), some (.int x6), some (.int x7)] [] (pv_em S) := Eq.trans (pv_Rstp dX7_sure_72 rfl rfl rfl) (pv_Rbr (tgt := 92) dX7_sure_74 rfl rfl rfl rfl rfl (by decide))
set_option maxHeartbeats 200000 in
theorem bX7_sure_77 {S : pv_S} {x1 x2 x3 x4 x5 x6 x7 : Int32} : pv_R mX7_sure 77 [some (.ref 37), some (.int x1), some (.int x2), some (.int x3), some (.int x4), some (.int x5), some (.int x6), some (.int x7)] [] (pv_em S) = pv_cc (pv_R mX7_answer 0 [some (.ref 37), some (.int x4), some (.int (x3 &&& (x5 ^^^ (-1))))] [] (pv_em S)) mX7_sure 89 [some (.ref 37), some (.int x1), some (.int x2), some (.int x3), some (.int x4), some (.int x5), some (.int x6), some (.int x7)] [] := Eq.trans (pv_Rstp dX7_sure_77 rfl rfl rfl) (Eq.trans (pv_Rstp dX7_sure_78 rfl rfl rfl) (Eq.trans (pv_Rstp dX7_sure_80 rfl rfl rfl) (Eq.trans (pv_Rstp dX7_sure_81 rfl rfl rfl) (Eq.trans (pv_Ric dX7_sure_83 ki_m1) (Eq.trans (pv_Rstp dX7_sure_84 rfl rfl rfl) (Eq.trans (pv_Rstp dX7_sure_85 rfl rfl rfl) (pv_Rcall (As := [.ref 37, .int x4, .int (x3 &&& (x5 ^^^ (-1)))]) (rest := []) dX7_sure_86 rfl mfX7_206 rfl rfl rfl rfl rfl)))))))
set_option maxHeartbeats 200000 in
theorem bX7_sure_89 {S : pv_S} {x1 x2 x3 x4 x5 x6 x7 u0 : Int32} : pv_R mX7_sure 89 [some (.ref 37), some (.int x1), some (.int x2), some (.int x3), some (.int x4), some (.int x5), some (.int x6), some (.int x7)] [.int u0] (pv_em S) = pv_R mX7_sure 97 [some (.ref 37), some (.int x1), some (.int x2), some (.int x3), some (.int x4), some (.int x5), some (.int x6), some (.int x7)] [.int u0] (pv_em S) := pv_Rgo (tgt := 97) dX7_sure_89 rfl (by decide)
set_option maxHeartbeats 200000 in
theorem bX7_sure_92 {S : pv_S} {x1 x2 x3 x4 x5 x6 x7 : Int32} : pv_R mX7_sure 92 [some (.ref 37), some (.int x1), some (.int x2), some (.int x3), some (.int x4), some (.int x5), some (.int x6), some (.int x7)] [] (pv_em S) = pv_cc (pv_R mX7_found 0 [some (.ref 37), some (.int 4)] [] (pv_em S)) mX7_sure 97 [some (.ref 37), some (.int x1), some (.int x2), some (.int x3), some (.int x4), some (.int x5), some (.int x6), some (.int x7)] [] := Eq.trans (pv_Rstp dX7_sure_92 rfl rfl rfl) (Eq.trans (pv_Ric dX7_sure_93 ki_4) (pv_Rcall (As := [.ref 37, .int 4]) (rest := []) dX7_sure_94 rfl mfX7_85 rfl rfl rfl rfl rfl))
set_option maxHeartbeats 200000 in
theorem bX7_sure_97 {S : pv_S} {x1 x2 x3 x4 x5 x6 x7 u0 : Int32} : pv_R mX7_sure 97 [some (.ref 37), some (.int x1), some (.int x2), some (.int x3), some (.int x4), some (.int x5), some (.int x6), some (.int x7)] [.int u0] (pv_em S) = some (some (.int u0), pv_em S) := pv_Rret dX7_sure_97 rfl
theorem dX7_ask_0 : decode cX7_ask 0 = .ok (.aload_n 0, 1) := by decide +kernel
theorem dX7_ask_1 : decode cX7_ask 1 = .ok (.iload_n 1, 1) := by decide +kernel
theorem dX7_ask_2 : decode cX7_ask 2 = .ok (.invokevirtual 229, 3) := by decide +kernel
theorem dX7_ask_5 : decode cX7_ask 5 = .ok (.istore_n 2, 1) := by decide +kernel
theorem dX7_ask_6 : decode cX7_ask 6 = .ok (.iload_n 2, 1) := by decide +kernel
theorem dX7_ask_7 : decode cX7_ask 7 = .ok (.ifCond .eq 5, 3) := by decide +kernel
theorem dX7_ask_10 : decode cX7_ask 10 = .ok (.iload_n 2, 1) := by decide +kernel
theorem dX7_ask_11 : decode cX7_ask 11 = .ok (.ireturn, 1) := by decide +kernel
theorem dX7_ask_12 : decode cX7_ask 12 = .ok (.bipush (-9), 2) := by decide +kernel
theorem dX7_ask_14 : decode cX7_ask 14 = .ok (.istore_n 3, 1) := by decide +kernel
theorem dX7_ask_15 : decode cX7_ask 15 = .ok (.ldc 205, 2) := by decide +kernel
theorem dX7_ask_17 : decode cX7_ask 17 = .ok (.istore 4, 2) := by decide +kernel
theorem dX7_ask_19 : decode cX7_ask 19 = .ok (.iconst 0, 1) := by decide +kernel
theorem dX7_ask_20 : decode cX7_ask 20 = .ok (.istore 5, 2) := by decide +kernel
theorem dX7_ask_22 : decode cX7_ask 22 = .ok (.iload 5, 2) := by decide +kernel
theorem dX7_ask_24 : decode cX7_ask 24 = .ok (.aload_n 0, 1) := by decide +kernel
theorem dX7_ask_25 : decode cX7_ask 25 = .ok (.getfield 138, 3) := by decide +kernel
theorem dX7_ask_28 : decode cX7_ask 28 = .ok (.if_icmp .ge 154, 3) := by decide +kernel
theorem dX7_ask_31 : decode cX7_ask 31 = .ok (.iconst 0, 1) := by decide +kernel
theorem dX7_ask_32 : decode cX7_ask 32 = .ok (.istore 6, 2) := by decide +kernel
theorem dX7_ask_34 : decode cX7_ask 34 = .ok (.iconst 0, 1) := by decide +kernel
theorem dX7_ask_35 : decode cX7_ask 35 = .ok (.istore 7, 2) := by decide +kernel
theorem dX7_ask_37 : decode cX7_ask 37 = .ok (.iconst 0, 1) := by decide +kernel
theorem dX7_ask_38 : decode cX7_ask 38 = .ok (.istore 8, 2) := by decide +kernel
theorem dX7_ask_40 : decode cX7_ask 40 = .ok (.iload 8, 2) := by decide +kernel
theorem dX7_ask_42 : decode cX7_ask 42 = .ok (.iconst 1, 1) := by decide +kernel
theorem dX7_ask_43 : decode cX7_ask 43 = .ok (.aload_n 0, 1) := by decide +kernel
theorem dX7_ask_44 : decode cX7_ask 44 = .ok (.getfield 138, 3) := by decide +kernel
theorem dX7_ask_47 : decode cX7_ask 47 = .ok (.ishl, 1) := by decide +kernel
theorem dX7_ask_48 : decode cX7_ask 48 = .ok (.if_icmp .ge 68, 3) := by decide +kernel
theorem dX7_ask_51 : decode cX7_ask 51 = .ok (.aload_n 0, 1) := by decide +kernel
theorem dX7_ask_52 : decode cX7_ask 52 = .ok (.iload 8, 2) := by decide +kernel
theorem dX7_ask_54 : decode cX7_ask 54 = .ok (.iload_n 1, 1) := by decide +kernel
theorem dX7_ask_55 : decode cX7_ask 55 = .ok (.invokevirtual 232, 3) := by decide +kernel
theorem dX7_ask_58 : decode cX7_ask 58 = .ok (.istore 9, 2) := by decide +kernel
theorem dX7_ask_60 : decode cX7_ask 60 = .ok (.iload 6, 2) := by decide +kernel
theorem dX7_ask_62 : decode cX7_ask 62 = .ok (.iload 9, 2) := by decide +kernel
theorem dX7_ask_64 : decode cX7_ask 64 = .ok (.ifCond .eq 17, 3) := by decide +kernel
theorem dX7_ask_67 : decode cX7_ask 67 = .ok (.iload 8, 2) := by decide +kernel
theorem dX7_ask_69 : decode cX7_ask 69 = .ok (.iload 5, 2) := by decide +kernel
theorem dX7_ask_71 : decode cX7_ask 71 = .ok (.invokestatic 221, 3) := by decide +kernel
theorem dX7_ask_74 : decode cX7_ask 74 = .ok (.ifCond .eq 7, 3) := by decide +kernel
theorem dX7_ask_77 : decode cX7_ask 77 = .ok (.iconst 1, 1) := by decide +kernel
theorem dX7_ask_78 : decode cX7_ask 78 = .ok (.goto 4, 3) := by decide +kernel
theorem dX7_ask_81 : decode cX7_ask 81 = .ok (.iconst 0, 1) := by decide +kernel
theorem dX7_ask_82 : decode cX7_ask 82 = .ok (.iadd, 1) := by decide +kernel
theorem dX7_ask_83 : decode cX7_ask 83 = .ok (.istore 6, 2) := by decide +kernel
theorem dX7_ask_85 : decode cX7_ask 85 = .ok (.iload 7, 2) := by decide +kernel
theorem dX7_ask_87 : decode cX7_ask 87 = .ok (.iload 9, 2) := by decide +kernel
theorem dX7_ask_89 : decode cX7_ask 89 = .ok (.ifCond .eq 17, 3) := by decide +kernel
theorem dX7_ask_92 : decode cX7_ask 92 = .ok (.iload 8, 2) := by decide +kernel
theorem dX7_ask_94 : decode cX7_ask 94 = .ok (.iload 5, 2) := by decide +kernel
theorem dX7_ask_96 : decode cX7_ask 96 = .ok (.invokestatic 221, 3) := by decide +kernel
theorem dX7_ask_99 : decode cX7_ask 99 = .ok (.ifCond .ne 7, 3) := by decide +kernel
theorem dX7_ask_102 : decode cX7_ask 102 = .ok (.iconst 1, 1) := by decide +kernel
theorem dX7_ask_103 : decode cX7_ask 103 = .ok (.goto 4, 3) := by decide +kernel
theorem dX7_ask_106 : decode cX7_ask 106 = .ok (.iconst 0, 1) := by decide +kernel
theorem dX7_ask_107 : decode cX7_ask 107 = .ok (.iadd, 1) := by decide +kernel
theorem dX7_ask_108 : decode cX7_ask 108 = .ok (.istore 7, 2) := by decide +kernel
theorem dX7_ask_110 : decode cX7_ask 110 = .ok (.iinc 8 1, 3) := by decide +kernel
theorem dX7_ask_113 : decode cX7_ask 113 = .ok (.goto (-73), 3) := by decide +kernel
theorem dX7_ask_116 : decode cX7_ask 116 = .ok (.iload 6, 2) := by decide +kernel
theorem dX7_ask_118 : decode cX7_ask 118 = .ok (.iload 7, 2) := by decide +kernel
theorem dX7_ask_120 : decode cX7_ask 120 = .ok (.iadd, 1) := by decide +kernel
theorem dX7_ask_121 : decode cX7_ask 121 = .ok (.ifCond .ne 9, 3) := by decide +kernel
theorem dX7_ask_124 : decode cX7_ask 124 = .ok (.aload_n 0, 1) := by decide +kernel
theorem dX7_ask_125 : decode cX7_ask 125 = .ok (.iconst 4, 1) := by decide +kernel
theorem dX7_ask_126 : decode cX7_ask 126 = .ok (.invokevirtual 85, 3) := by decide +kernel
theorem dX7_ask_129 : decode cX7_ask 129 = .ok (.ireturn, 1) := by decide +kernel
theorem dX7_ask_130 : decode cX7_ask 130 = .ok (.iload 6, 2) := by decide +kernel
theorem dX7_ask_132 : decode cX7_ask 132 = .ok (.iload 7, 2) := by decide +kernel
theorem dX7_ask_134 : decode cX7_ask 134 = .ok (.if_icmp .le 8, 3) := by decide +kernel
theorem dX7_ask_137 : decode cX7_ask 137 = .ok (.iload 6, 2) := by decide +kernel
theorem dX7_ask_139 : decode cX7_ask 139 = .ok (.goto 5, 3) := by decide +kernel
theorem dX7_ask_142 : decode cX7_ask 142 = .ok (.iload 7, 2) := by decide +kernel
theorem dX7_ask_144 : decode cX7_ask 144 = .ok (.istore 8, 2) := by decide +kernel
theorem dX7_ask_146 : decode cX7_ask 146 = .ok (.iload 8, 2) := by decide +kernel
theorem dX7_ask_148 : decode cX7_ask 148 = .ok (.iload 4, 2) := by decide +kernel
theorem dX7_ask_150 : decode cX7_ask 150 = .ok (.if_icmp .ge 8, 3) := by decide +kernel
theorem dX7_ask_153 : decode cX7_ask 153 = .ok (.iload 5, 2) := by decide +kernel
theorem dX7_ask_155 : decode cX7_ask 155 = .ok (.goto 4, 3) := by decide +kernel
theorem dX7_ask_158 : decode cX7_ask 158 = .ok (.iload_n 3, 1) := by decide +kernel
theorem dX7_ask_159 : decode cX7_ask 159 = .ok (.istore_n 3, 1) := by decide +kernel
theorem dX7_ask_160 : decode cX7_ask 160 = .ok (.iload 8, 2) := by decide +kernel
theorem dX7_ask_162 : decode cX7_ask 162 = .ok (.iload 4, 2) := by decide +kernel
theorem dX7_ask_164 : decode cX7_ask 164 = .ok (.if_icmp .ge 8, 3) := by decide +kernel
theorem dX7_ask_167 : decode cX7_ask 167 = .ok (.iload 8, 2) := by decide +kernel
theorem dX7_ask_169 : decode cX7_ask 169 = .ok (.goto 5, 3) := by decide +kernel
theorem dX7_ask_172 : decode cX7_ask 172 = .ok (.iload 4, 2) := by decide +kernel
theorem dX7_ask_174 : decode cX7_ask 174 = .ok (.istore 4, 2) := by decide +kernel
theorem dX7_ask_176 : decode cX7_ask 176 = .ok (.iinc 5 1, 3) := by decide +kernel
theorem dX7_ask_179 : decode cX7_ask 179 = .ok (.goto (-157), 3) := by decide +kernel
theorem dX7_ask_182 : decode cX7_ask 182 = .ok (.aload_n 0, 1) := by decide +kernel
theorem dX7_ask_183 : decode cX7_ask 183 = .ok (.iload_n 3, 1) := by decide +kernel
theorem dX7_ask_184 : decode cX7_ask 184 = .ok (.iload 4, 2) := by decide +kernel
theorem dX7_ask_186 : decode cX7_ask 186 = .ok (.invokevirtual 206, 3) := by decide +kernel
theorem dX7_ask_189 : decode cX7_ask 189 = .ok (.ireturn, 1) := by decide +kernel
set_option maxHeartbeats 200000 in
theorem bX7_ask_0 {S : pv_S} {x1 : Int32} {a2 a3 a4 a5 a6 a7 a8 a9 : Option Value} : pv_R mX7_ask 0 [some (.ref 37), some (.int x1), a2, a3, a4, a5, a6, a7, a8, a9] [] (pv_em S) = pv_cc (pv_R mX7_refuses 0 [some (.ref 37), some (.int x1)] [] (pv_em S)) mX7_ask 5 [some (.ref 37), some (.int x1), a2, a3, a4, a5, a6, a7, a8, a9] [] := Eq.trans (pv_Rstp dX7_ask_0 rfl rfl rfl) (Eq.trans (pv_Rstp dX7_ask_1 rfl rfl rfl) (pv_Rcall (As := [.ref 37, .int x1]) (rest := []) dX7_ask_2 rfl mfX7_229 rfl rfl rfl rfl rfl))
set_option maxHeartbeats 200000 in
theorem bX7_ask_5 {S : pv_S} {x1 u0 : Int32} {a2 a3 a4 a5 a6 a7 a8 a9 : Option Value} : pv_R mX7_ask 5 [some (.ref 37), some (.int x1), a2, a3, a4, a5, a6, a7, a8, a9] [.int u0] (pv_em S) = if u0 = 0 then pv_R mX7_ask 12 [some (.ref 37), some (.int x1), some (.int u0), a3, a4, a5, a6, a7, a8, a9] [] (pv_em S) else pv_R mX7_ask 10 [some (.ref 37), some (.int x1), some (.int u0), a3, a4, a5, a6, a7, a8, a9] [] (pv_em S) := Eq.trans (pv_Rstp dX7_ask_5 rfl rfl rfl) (Eq.trans (pv_Rstp dX7_ask_6 rfl rfl rfl) (pv_Rbr (tgt := 12) dX7_ask_7 rfl rfl rfl rfl rfl (by decide)))
set_option maxHeartbeats 200000 in
theorem bX7_ask_10 {S : pv_S} {x1 x2 : Int32} {a3 a4 a5 a6 a7 a8 a9 : Option Value} : pv_R mX7_ask 10 [some (.ref 37), some (.int x1), some (.int x2), a3, a4, a5, a6, a7, a8, a9] [] (pv_em S) = some (some (.int x2), pv_em S) := Eq.trans (pv_Rstp dX7_ask_10 rfl rfl rfl) (pv_Rret dX7_ask_11 rfl)
set_option maxHeartbeats 200000 in
theorem bX7_ask_12 {S : pv_S} {x1 x2 : Int32} {a3 a4 a5 a6 a7 a8 a9 : Option Value} : pv_R mX7_ask 12 [some (.ref 37), some (.int x1), some (.int x2), a3, a4, a5, a6, a7, a8, a9] [] (pv_em S) = pv_R mX7_ask 22 [some (.ref 37), some (.int x1), some (.int x2), some (.int (-9)), some (.int 1000000), some (.int 0), a6, a7, a8, a9] [] (pv_em S) := Eq.trans (pv_Rbp dX7_ask_12 kb_m9) (Eq.trans (pv_Rstp dX7_ask_14 rfl rfl rfl) (Eq.trans (pv_Rstp dX7_ask_15 rfl rfl rfl) (Eq.trans (pv_Rstp dX7_ask_17 rfl rfl rfl) (Eq.trans (pv_Ric dX7_ask_19 ki_0) (pv_Rstp dX7_ask_20 rfl rfl rfl)))))
set_option maxHeartbeats 200000 in
theorem bX7_ask_22 {S : pv_S} {x1 x2 x3 x4 x5 : Int32} {a6 a7 a8 a9 : Option Value} : pv_R mX7_ask 22 [some (.ref 37), some (.int x1), some (.int x2), some (.int x3), some (.int x4), some (.int x5), a6, a7, a8, a9] [] (pv_em S) = if (S.1 37 4) ≤ x5 then pv_R mX7_ask 182 [some (.ref 37), some (.int x1), some (.int x2), some (.int x3), some (.int x4), some (.int x5), a6, a7, a8, a9] [] (pv_em S) else pv_R mX7_ask 31 [some (.ref 37), some (.int x1), some (.int x2), some (.int x3), some (.int x4), some (.int x5), a6, a7, a8, a9] [] (pv_em S) := Eq.trans (pv_Rstp dX7_ask_22 rfl rfl rfl) (Eq.trans (pv_Rstp dX7_ask_24 rfl rfl rfl) (Eq.trans (pv_Rget dX7_ask_25 ffX7_138 (by decide) (pv_ce_37 _ _) rfl) (pv_Rbr (tgt := 182) dX7_ask_28 rfl rfl rfl rfl rfl (by decide))))
set_option maxHeartbeats 200000 in
theorem bX7_ask_31 {S : pv_S} {x1 x2 x3 x4 x5 : Int32} {a6 a7 a8 a9 : Option Value} : pv_R mX7_ask 31 [some (.ref 37), some (.int x1), some (.int x2), some (.int x3), some (.int x4), some (.int x5), a6, a7, a8, a9] [] (pv_em S) = pv_R mX7_ask 40 [some (.ref 37), some (.int x1), some (.int x2), some (.int x3), some (.int x4), some (.int x5), some (.int 0), some (.int 0), some (.int 0), a9] [] (pv_em S) := Eq.trans (pv_Ric dX7_ask_31 ki_0) (Eq.trans (pv_Rstp dX7_ask_32 rfl rfl rfl) (Eq.trans (pv_Ric dX7_ask_34 ki_0) (Eq.trans (pv_Rstp dX7_ask_35 rfl rfl rfl) (Eq.trans (pv_Ric dX7_ask_37 ki_0) (pv_Rstp dX7_ask_38 rfl rfl rfl)))))
set_option maxHeartbeats 200000 in
theorem bX7_ask_40 {S : pv_S} {x1 x2 x3 x4 x5 x6 x7 x8 : Int32} {a9 : Option Value} : pv_R mX7_ask 40 [some (.ref 37), some (.int x1), some (.int x2), some (.int x3), some (.int x4), some (.int x5), some (.int x6), some (.int x7), some (.int x8), a9] [] (pv_em S) = if (1 <<< ((S.1 37 4) &&& 31)) ≤ x8 then pv_R mX7_ask 116 [some (.ref 37), some (.int x1), some (.int x2), some (.int x3), some (.int x4), some (.int x5), some (.int x6), some (.int x7), some (.int x8), a9] [] (pv_em S) else pv_R mX7_ask 51 [some (.ref 37), some (.int x1), some (.int x2), some (.int x3), some (.int x4), some (.int x5), some (.int x6), some (.int x7), some (.int x8), a9] [] (pv_em S) := Eq.trans (pv_Rstp dX7_ask_40 rfl rfl rfl) (Eq.trans (pv_Ric dX7_ask_42 ki_1) (Eq.trans (pv_Rstp dX7_ask_43 rfl rfl rfl) (Eq.trans (pv_Rget dX7_ask_44 ffX7_138 (by decide) (pv_ce_37 _ _) rfl) (Eq.trans (pv_Rstp dX7_ask_47 rfl rfl rfl) (pv_Rbr (tgt := 116) dX7_ask_48 rfl rfl rfl rfl rfl (by decide))))))
set_option maxHeartbeats 200000 in
theorem bX7_ask_51 {S : pv_S} {x1 x2 x3 x4 x5 x6 x7 x8 : Int32} {a9 : Option Value} : pv_R mX7_ask 51 [some (.ref 37), some (.int x1), some (.int x2), some (.int x3), some (.int x4), some (.int x5), some (.int x6), some (.int x7), some (.int x8), a9] [] (pv_em S) = pv_cc (pv_R mX7_isSack 0 [some (.ref 37), some (.int x8), some (.int x1), none, none] [] (pv_em S)) mX7_ask 58 [some (.ref 37), some (.int x1), some (.int x2), some (.int x3), some (.int x4), some (.int x5), some (.int x6), some (.int x7), some (.int x8), a9] [] := Eq.trans (pv_Rstp dX7_ask_51 rfl rfl rfl) (Eq.trans (pv_Rstp dX7_ask_52 rfl rfl rfl) (Eq.trans (pv_Rstp dX7_ask_54 rfl rfl rfl) (pv_Rcall (As := [.ref 37, .int x8, .int x1]) (rest := []) dX7_ask_55 rfl mfX7_232 rfl rfl rfl rfl rfl)))
set_option maxHeartbeats 200000 in
theorem bX7_ask_58 {S : pv_S} {x1 x2 x3 x4 x5 x6 x7 x8 u0 : Int32} {a9 : Option Value} : pv_R mX7_ask 58 [some (.ref 37), some (.int x1), some (.int x2), some (.int x3), some (.int x4), some (.int x5), some (.int x6), some (.int x7), some (.int x8), a9] [.int u0] (pv_em S) = if u0 = 0 then pv_R mX7_ask 81 [some (.ref 37), some (.int x1), some (.int x2), some (.int x3), some (.int x4), some (.int x5), some (.int x6), some (.int x7), some (.int x8), some (.int u0)] [.int x6] (pv_em S) else pv_R mX7_ask 67 [some (.ref 37), some (.int x1), some (.int x2), some (.int x3), some (.int x4), some (.int x5), some (.int x6), some (.int x7), some (.int x8), some (.int u0)] [.int x6] (pv_em S) := Eq.trans (pv_Rstp dX7_ask_58 rfl rfl rfl) (Eq.trans (pv_Rstp dX7_ask_60 rfl rfl rfl) (Eq.trans (pv_Rstp dX7_ask_62 rfl rfl rfl) (pv_Rbr (tgt := 81) dX7_ask_64 rfl rfl rfl rfl rfl (by decide))))
set_option maxHeartbeats 200000 in
theorem bX7_ask_67 {S : pv_S} {x1 x2 x3 x4 x5 x6 x7 x8 x9 u0 : Int32} : pv_R mX7_ask 67 [some (.ref 37), some (.int x1), some (.int x2), some (.int x3), some (.int x4), some (.int x5), some (.int x6), some (.int x7), some (.int x8), some (.int x9)] [.int u0] (pv_em S) = pv_cc (pv_R mX7_has 0 [some (.int x8), some (.int x5)] [] (pv_em S)) mX7_ask 74 [some (.ref 37), some (.int x1), some (.int x2), some (.int x3), some (.int x4), some (.int x5), some (.int x6), some (.int x7), some (.int x8), some (.int x9)] [.int u0] := Eq.trans (pv_Rstp dX7_ask_67 rfl rfl rfl) (Eq.trans (pv_Rstp dX7_ask_69 rfl rfl rfl) (pv_Rcall (As := [.int x8, .int x5]) (rest := [.int u0]) dX7_ask_71 rfl mfX7_221 rfl rfl rfl rfl rfl))
set_option maxHeartbeats 200000 in
theorem bX7_ask_74 {S : pv_S} {x1 x2 x3 x4 x5 x6 x7 x8 x9 u0 u1 : Int32} : pv_R mX7_ask 74 [some (.ref 37), some (.int x1), some (.int x2), some (.int x3), some (.int x4), some (.int x5), some (.int x6), some (.int x7), some (.int x8), some (.int x9)] [.int u0, .int u1] (pv_em S) = if u0 = 0 then pv_R mX7_ask 81 [some (.ref 37), some (.int x1), some (.int x2), some (.int x3), some (.int x4), some (.int x5), some (.int x6), some (.int x7), some (.int x8), some (.int x9)] [.int u1] (pv_em S) else pv_R mX7_ask 77 [some (.ref 37), some (.int x1), some (.int x2), some (.int x3), some (.int x4), some (.int x5), some (.int x6), some (.int x7), some (.int x8), some (.int x9)] [.int u1] (pv_em S) := pv_Rbr (tgt := 81) dX7_ask_74 rfl rfl rfl rfl rfl (by decide)
set_option maxHeartbeats 200000 in
theorem bX7_ask_77 {S : pv_S} {x1 x2 x3 x4 x5 x6 x7 x8 x9 u0 : Int32} : pv_R mX7_ask 77 [some (.ref 37), some (.int x1), some (.int x2), some (.int x3), some (.int x4), some (.int x5), some (.int x6), some (.int x7), some (.int x8), some (.int x9)] [.int u0] (pv_em S) = pv_R mX7_ask 82 [some (.ref 37), some (.int x1), some (.int x2), some (.int x3), some (.int x4), some (.int x5), some (.int x6), some (.int x7), some (.int x8), some (.int x9)] [.int 1, .int u0] (pv_em S) := Eq.trans (pv_Ric dX7_ask_77 ki_1) (pv_Rgo (tgt := 82) dX7_ask_78 rfl (by decide))
set_option maxHeartbeats 200000 in
theorem bX7_ask_81 {S : pv_S} {x1 x2 x3 x4 x5 x6 x7 x8 x9 u0 : Int32} : pv_R mX7_ask 81 [some (.ref 37), some (.int x1), some (.int x2), some (.int x3), some (.int x4), some (.int x5), some (.int x6), some (.int x7), some (.int x8), some (.int x9)] [.int u0] (pv_em S) = pv_R mX7_ask 82 [some (.ref 37), some (.int x1), some (.int x2), some (.int x3), some (.int x4), some (.int x5), some (.int x6), some (.int x7), some (.int x8), some (.int x9)] [.int 0, .int u0] (pv_em S) := pv_Ric dX7_ask_81 ki_0
set_option maxHeartbeats 200000 in
theorem bX7_ask_82 {S : pv_S} {x1 x2 x3 x4 x5 x6 x7 x8 x9 u0 u1 : Int32} : pv_R mX7_ask 82 [some (.ref 37), some (.int x1), some (.int x2), some (.int x3), some (.int x4), some (.int x5), some (.int x6), some (.int x7), some (.int x8), some (.int x9)] [.int u0, .int u1] (pv_em S) = if x9 = 0 then pv_R mX7_ask 106 [some (.ref 37), some (.int x1), some (.int x2), some (.int x3), some (.int x4), some (.int x5), some (.int (u1 + u0)), some (.int x7), some (.int x8), some (.int x9)] [.int x7] (pv_em S) else pv_R mX7_ask 92 [some (.ref 37), some (.int x1), some (.int x2), some (.int x3), some (.int x4), some (.int x5), some (.int (u1 + u0)), some (.int x7), some (.int x8), some (.int x9)] [.int x7] (pv_em S) := Eq.trans (pv_Rstp dX7_ask_82 rfl rfl rfl) (Eq.trans (pv_Rstp dX7_ask_83 rfl rfl rfl) (Eq.trans (pv_Rstp dX7_ask_85 rfl rfl rfl) (Eq.trans (pv_Rstp dX7_ask_87 rfl rfl rfl) (pv_Rbr (tgt := 106) dX7_ask_89 rfl rfl rfl rfl rfl (by decide)))))
set_option maxHeartbeats 200000 in
theorem bX7_ask_92 {S : pv_S} {x1 x2 x3 x4 x5 x6 x7 x8 x9 u0 : Int32} : pv_R mX7_ask 92 [some (.ref 37), some (.int x1), some (.int x2), some (.int x3), some (.int x4), some (.int x5), some (.int x6), some (.int x7), some (.int x8), some (.int x9)] [.int u0] (pv_em S) = pv_cc (pv_R mX7_has 0 [some (.int x8), some (.int x5)] [] (pv_em S)) mX7_ask 99 [some (.ref 37), some (.int x1), some (.int x2), some (.int x3), some (.int x4), some (.int x5), some (.int x6), some (.int x7), some (.int x8), some (.int x9)] [.int u0] := Eq.trans (pv_Rstp dX7_ask_92 rfl rfl rfl) (Eq.trans (pv_Rstp dX7_ask_94 rfl rfl rfl) (pv_Rcall (As := [.int x8, .int x5]) (rest := [.int u0]) dX7_ask_96 rfl mfX7_221 rfl rfl rfl rfl rfl))
set_option maxHeartbeats 200000 in
theorem bX7_ask_99 {S : pv_S} {x1 x2 x3 x4 x5 x6 x7 x8 x9 u0 u1 : Int32} : pv_R mX7_ask 99 [some (.ref 37), some (.int x1), some (.int x2), some (.int x3), some (.int x4), some (.int x5), some (.int x6), some (.int x7), some (.int x8), some (.int x9)] [.int u0, .int u1] (pv_em S) = if ¬ u0 = 0 then pv_R mX7_ask 106 [some (.ref 37), some (.int x1), some (.int x2), some (.int x3), some (.int x4), some (.int x5), some (.int x6), some (.int x7), some (.int x8), some (.int x9)] [.int u1] (pv_em S) else pv_R mX7_ask 102 [some (.ref 37), some (.int x1), some (.int x2), some (.int x3), some (.int x4), some (.int x5), some (.int x6), some (.int x7), some (.int x8), some (.int x9)] [.int u1] (pv_em S) := pv_Rbr (tgt := 106) dX7_ask_99 rfl rfl rfl rfl rfl (by decide)
set_option maxHeartbeats 200000 in
theorem bX7_ask_102 {S : pv_S} {x1 x2 x3 x4 x5 x6 x7 x8 x9 u0 : Int32} : pv_R mX7_ask 102 [some (.ref 37), some (.int x1), some (.int x2), some (.int x3), some (.int x4), some (.int x5), some (.int x6), some (.int x7), some (.int x8), some (.int x9)] [.int u0] (pv_em S) = pv_R mX7_ask 107 [some (.ref 37), some (.int x1), some (.int x2), some (.int x3), some (.int x4), some (.int x5), some (.int x6), some (.int x7), some (.int x8), some (.int x9)] [.int 1, .int u0] (pv_em S) := Eq.trans (pv_Ric dX7_ask_102 ki_1) (pv_Rgo (tgt := 107) dX7_ask_103 rfl (by decide))
set_option maxHeartbeats 200000 in
theorem bX7_ask_106 {S : pv_S} {x1 x2 x3 x4 x5 x6 x7 x8 x9 u0 : Int32} : pv_R mX7_ask 106 [some (.ref 37), some (.int x1), some (.int x2), some (.int x3), some (.int x4), some (.int x5), some (.int x6), some (.int x7), some (.int x8), some (.int x9)] [.int u0] (pv_em S) = pv_R mX7_ask 107 [some (.ref 37), some (.int x1), some (.int x2), some (.int x3), some (.int x4), some (.int x5), some (.int x6), some (.int x7), some (.int x8), some (.int x9)] [.int 0, .int u0] (pv_em S) := pv_Ric dX7_ask_106 ki_0
set_option maxHeartbeats 200000 in
theorem bX7_ask_107 {S : pv_S} {x1 x2 x3 x4 x5 x6 x7 x8 x9 u0 u1 : Int32} : pv_R mX7_ask 107 [some (.ref 37), some (.int x1), some (.int x2), some (.int x3), some (.int x4), some (.int x5), some (.int x6), some (.int x7), some (.int x8), some (.int x9)] [.int u0, .int u1] (pv_em S) = pv_R mX7_ask 40 [some (.ref 37), some (.int x1), some (.int x2), some (.int x3), some (.int x4), some (.int x5), some (.int x6), some (.int (u1 + u0)), some (.int (x8 + 1)), some (.int x9)] [] (pv_em S) := Eq.trans (pv_Rstp dX7_ask_107 rfl rfl rfl) (Eq.trans (pv_Rstp dX7_ask_108 rfl rfl rfl) (Eq.trans (pv_Rinc dX7_ask_110 rfl (Nat.le_of_ble_eq_true rfl) ki_1 rfl) (pv_Rgo (tgt := 40) dX7_ask_113 rfl (by decide))))
set_option maxHeartbeats 200000 in
theorem bX7_ask_116 {S : pv_S} {x1 x2 x3 x4 x5 x6 x7 x8 : Int32} {a9 : Option Value} : pv_R mX7_ask 116 [some (.ref 37), some (.int x1), some (.int x2), some (.int x3), some (.int x4), some (.int x5), some (.int x6), some (.int x7), some (.int x8), a9] [] (pv_em S) = if ¬ (x6 + x7) = 0 then pv_R mX7_ask 130 [some (.ref 37), some (.int x1), some (.int x2), some (.int x3), some (.int x4), some (.int x5), some (.int x6), some (.int x7), some (.int x8), a9] [] (pv_em S) else pv_R mX7_ask 124 [some (.ref 37), some (.int x1), some (.int x2), some (.int x3), some (.int x4), some (.int x5), some (.int x6), some (.int x7), some (.int x8), a9] [] (pv_em S) := Eq.trans (pv_Rstp dX7_ask_116 rfl rfl rfl) (Eq.trans (pv_Rstp dX7_ask_118 rfl rfl rfl) (Eq.trans (pv_Rstp dX7_ask_120 rfl rfl rfl) (pv_Rbr (tgt := 130) dX7_ask_121 rfl rfl rfl rfl rfl (by decide))))
set_option maxHeartbeats 200000 in
theorem bX7_ask_124 {S : pv_S} {x1 x2 x3 x4 x5 x6 x7 x8 : Int32} {a9 : Option Value} : pv_R mX7_ask 124 [some (.ref 37), some (.int x1), some (.int x2), some (.int x3), some (.int x4), some (.int x5), some (.int x6), some (.int x7), some (.int x8), a9] [] (pv_em S) = pv_cc (pv_R mX7_found 0 [some (.ref 37), some (.int 4)] [] (pv_em S)) mX7_ask 129 [some (.ref 37), some (.int x1), some (.int x2), some (.int x3), some (.int x4), some (.int x5), some (.int x6), some (.int x7), some (.int x8), a9] [] := Eq.trans (pv_Rstp dX7_ask_124 rfl rfl rfl) (Eq.trans (pv_Ric dX7_ask_125 ki_4) (pv_Rcall (As := [.ref 37, .int 4]) (rest := []) dX7_ask_126 rfl mfX7_85 rfl rfl rfl rfl rfl))
set_option maxHeartbeats 200000 in
theorem bX7_ask_129 {S : pv_S} {x1 x2 x3 x4 x5 x6 x7 x8 u0 : Int32} {a9 : Option Value} : pv_R mX7_ask 129 [some (.ref 37), some (.int x1), some (.int x2), some (.int x3), some (.int x4), some (.int x5), some (.int x6), some (.int x7), some (.int x8), a9] [.int u0] (pv_em S) = some (some (.int u0), pv_em S) := pv_Rret dX7_ask_129 rfl
set_option maxHeartbeats 200000 in
theorem bX7_ask_130 {S : pv_S} {x1 x2 x3 x4 x5 x6 x7 x8 : Int32} {a9 : Option Value} : pv_R mX7_ask 130 [some (.ref 37), some (.int x1), some (.int x2), some (.int x3), some (.int x4), some (.int x5), some (.int x6), some (.int x7), some (.int x8), a9] [] (pv_em S) = if x6 ≤ x7 then pv_R mX7_ask 142 [some (.ref 37), some (.int x1), some (.int x2), some (.int x3), some (.int x4), some (.int x5), some (.int x6), some (.int x7), some (.int x8), a9] [] (pv_em S) else pv_R mX7_ask 137 [some (.ref 37), some (.int x1), some (.int x2), some (.int x3), some (.int x4), some (.int x5), some (.int x6), some (.int x7), some (.int x8), a9] [] (pv_em S) := Eq.trans (pv_Rstp dX7_ask_130 rfl rfl rfl) (Eq.trans (pv_Rstp dX7_ask_132 rfl rfl rfl) (pv_Rbr (tgt := 142) dX7_ask_134 rfl rfl rfl rfl rfl (by decide)))
set_option maxHeartbeats 200000 in
theorem bX7_ask_137 {S : pv_S} {x1 x2 x3 x4 x5 x6 x7 x8 : Int32} {a9 : Option Value} : pv_R mX7_ask 137 [some (.ref 37), some (.int x1), some (.int x2), some (.int x3), some (.int x4), some (.int x5), some (.int x6), some (.int x7), some (.int x8), a9] [] (pv_em S) = pv_R mX7_ask 144 [some (.ref 37), some (.int x1), some (.int x2), some (.int x3), some (.int x4), some (.int x5), some (.int x6), some (.int x7), some (.int x8), a9] [.int x6] (pv_em S) := Eq.trans (pv_Rstp dX7_ask_137 rfl rfl rfl) (pv_Rgo (tgt := 144) dX7_ask_139 rfl (by decide))
set_option maxHeartbeats 200000 in
theorem bX7_ask_142 {S : pv_S} {x1 x2 x3 x4 x5 x6 x7 x8 : Int32} {a9 : Option Value} : pv_R mX7_ask 142 [some (.ref 37), some (.int x1), some (.int x2), some (.int x3), some (.int x4), some (.int x5), some (.int x6), some (.int x7), some (.int x8), a9] [] (pv_em S) = pv_R mX7_ask 144 [some (.ref 37), some (.int x1), some (.int x2), some (.int x3), some (.int x4), some (.int x5), some (.int x6), some (.int x7), some (.int x8), a9] [.int x7] (pv_em S) := pv_Rstp dX7_ask_142 rfl rfl rfl
set_option maxHeartbeats 200000 in
theorem bX7_ask_144 {S : pv_S} {x1 x2 x3 x4 x5 x6 x7 x8 u0 : Int32} {a9 : Option Value} : pv_R mX7_ask 144 [some (.ref 37), some (.int x1), some (.int x2), some (.int x3), some (.int x4), some (.int x5), some (.int x6), some (.int x7), some (.int x8), a9] [.int u0] (pv_em S) = if x4 ≤ u0 then pv_R mX7_ask 158 [some (.ref 37), some (.int x1), some (.int x2), some (.int x3), some (.int x4), some (.int x5), some (.int x6), some (.int x7), some (.int u0), a9] [] (pv_em S) else pv_R mX7_ask 153 [some (.ref 37), some (.int x1), some (.int x2), some (.int x3), some (.int x4), some (.int x5), some (.int x6), some (.int x7), some (.int u0), a9] [] (pv_em S) := Eq.trans (pv_Rstp dX7_ask_144 rfl rfl rfl) (Eq.trans (pv_Rstp dX7_ask_146 rfl rfl rfl) (Eq.trans (pv_Rstp dX7_ask_148 rfl rfl rfl) (pv_Rbr (tgt := 158) dX7_ask_150 rfl rfl rfl rfl rfl (by decide))))
set_option maxHeartbeats 200000 in
theorem bX7_ask_153 {S : pv_S} {x1 x2 x3 x4 x5 x6 x7 x8 : Int32} {a9 : Option Value} : pv_R mX7_ask 153 [some (.ref 37), some (.int x1), some (.int x2), some (.int x3), some (.int x4), some (.int x5), some (.int x6), some (.int x7), some (.int x8), a9] [] (pv_em S) = pv_R mX7_ask 159 [some (.ref 37), some (.int x1), some (.int x2), some (.int x3), some (.int x4), some (.int x5), some (.int x6), some (.int x7), some (.int x8), a9] [.int x5] (pv_em S) := Eq.trans (pv_Rstp dX7_ask_153 rfl rfl rfl) (pv_Rgo (tgt := 159) dX7_ask_155 rfl (by decide))
set_option maxHeartbeats 200000 in
theorem bX7_ask_158 {S : pv_S} {x1 x2 x3 x4 x5 x6 x7 x8 : Int32} {a9 : Option Value} : pv_R mX7_ask 158 [some (.ref 37), some (.int x1), some (.int x2), some (.int x3), some (.int x4), some (.int x5), some (.int x6), some (.int x7), some (.int x8), a9] [] (pv_em S) = pv_R mX7_ask 159 [some (.ref 37), some (.int x1), some (.int x2), some (.int x3), some (.int x4), some (.int x5), some (.int x6), some (.int x7), some (.int x8), a9] [.int x3] (pv_em S) := pv_Rstp dX7_ask_158 rfl rfl rfl
set_option maxHeartbeats 200000 in
theorem bX7_ask_159 {S : pv_S} {x1 x2 x3 x4 x5 x6 x7 x8 u0 : Int32} {a9 : Option Value} : pv_R mX7_ask 159 [some (.ref 37), some (.int x1), some (.int x2), some (.int x3), some (.int x4), some (.int x5), some (.int x6), some (.int x7), some (.int x8), a9] [.int u0] (pv_em S) = if x4 ≤ x8 then pv_R mX7_ask 172 [some (.ref 37), some (.int x1), some (.int x2), some (.int u0), some (.int x4), some (.int x5), some (.int x6), some (.int x7), some (.int x8), a9] [] (pv_em S) else pv_R mX7_ask 167 [some (.ref 37), some (.int x1), some (.int x2), some (.int u0), some (.int x4), some (.int x5), some (.int x6), some (.int x7), some (.int x8), a9] [] (pv_em S) := Eq.trans (pv_Rstp dX7_ask_159 rfl rfl rfl) (Eq.trans (pv_Rstp dX7_ask_160 rfl rfl rfl) (Eq.trans (pv_Rstp dX7_ask_162 rfl rfl rfl) (pv_Rbr (tgt := 172) dX7_ask_164 rfl rfl rfl rfl rfl (by decide))))
set_option maxHeartbeats 200000 in
theorem bX7_ask_167 {S : pv_S} {x1 x2 x3 x4 x5 x6 x7 x8 : Int32} {a9 : Option Value} : pv_R mX7_ask 167 [some (.ref 37), some (.int x1), some (.int x2), some (.int x3), some (.int x4), some (.int x5), some (.int x6), some (.int x7), some (.int x8), a9] [] (pv_em S) = pv_R mX7_ask 174 [some (.ref 37), some (.int x1), some (.int x2), some (.int x3), some (.int x4), some (.int x5), some (.int x6), some (.int x7), some (.int x8), a9] [.int x8] (pv_em S) := Eq.trans (pv_Rstp dX7_ask_167 rfl rfl rfl) (pv_Rgo (tgt := 174) dX7_ask_169 rfl (by decide))
set_option maxHeartbeats 200000 in
theorem bX7_ask_172 {S : pv_S} {x1 x2 x3 x4 x5 x6 x7 x8 : Int32} {a9 : Option Value} : pv_R mX7_ask 172 [some (.ref 37), some (.int x1), some (.int x2), some (.int x3), some (.int x4), some (.int x5), some (.int x6), some (.int x7), some (.int x8), a9] [] (pv_em S) = pv_R mX7_ask 174 [some (.ref 37), some (.int x1), some (.int x2), some (.int x3), some (.int x4), some (.int x5), some (.int x6), some (.int x7), some (.int x8), a9] [.int x4] (pv_em S) := pv_Rstp dX7_ask_172 rfl rfl rfl
set_option maxHeartbeats 200000 in
theorem bX7_ask_174 {S : pv_S} {x1 x2 x3 x4 x5 x6 x7 x8 u0 : Int32} {a9 : Option Value} : pv_R mX7_ask 174 [some (.ref 37), some (.int x1), some (.int x2), some (.int x3), some (.int x4), some (.int x5), some (.int x6), some (.int x7), some (.int x8), a9] [.int u0] (pv_em S) = pv_R mX7_ask 22 [some (.ref 37), some (.int x1), some (.int x2), some (.int x3), some (.int u0), some (.int (x5 + 1)), some (.int x6), some (.int x7), some (.int x8), a9] [] (pv_em S) := Eq.trans (pv_Rstp dX7_ask_174 rfl rfl rfl) (Eq.trans (pv_Rinc dX7_ask_176 rfl (Nat.le_of_ble_eq_true rfl) ki_1 rfl) (pv_Rgo (tgt := 22) dX7_ask_179 rfl (by decide)))
set_option maxHeartbeats 200000 in
theorem bX7_ask_182 {S : pv_S} {x1 x2 x3 x4 x5 : Int32} {a6 a7 a8 a9 : Option Value} : pv_R mX7_ask 182 [some (.ref 37), some (.int x1), some (.int x2), some (.int x3), some (.int x4), some (.int x5), a6, a7, a8, a9] [] (pv_em S) = pv_cc (pv_R mX7_answer 0 [some (.ref 37), some (.int x3), some (.int x4)] [] (pv_em S)) mX7_ask 189 [some (.ref 37), some (.int x1), some (.int x2), some (.int x3), some (.int x4), some (.int x5), a6, a7, a8, a9] [] := Eq.trans (pv_Rstp dX7_ask_182 rfl rfl rfl) (Eq.trans (pv_Rstp dX7_ask_183 rfl rfl rfl) (Eq.trans (pv_Rstp dX7_ask_184 rfl rfl rfl) (pv_Rcall (As := [.ref 37, .int x3, .int x4]) (rest := []) dX7_ask_186 rfl mfX7_206 rfl rfl rfl rfl rfl)))
set_option maxHeartbeats 200000 in
theorem bX7_ask_189 {S : pv_S} {x1 x2 x3 x4 x5 u0 : Int32} {a6 a7 a8 a9 : Option Value} : pv_R mX7_ask 189 [some (.ref 37), some (.int x1), some (.int x2), some (.int x3), some (.int x4), some (.int x5), a6, a7, a8, a9] [.int u0] (pv_em S) = some (some (.int u0), pv_em S) := pv_Rret dX7_ask_189 rfl
theorem dX7_kinds_0 : decode cX7_kinds 0 = .ok (.aload_n 0, 1) := by decide +kernel
theorem dX7_kinds_1 : decode cX7_kinds 1 = .ok (.iload_n 1, 1) := by decide +kernel
theorem dX7_kinds_2 : decode cX7_kinds 2 = .ok (.invokevirtual 165, 3) := by decide +kernel
theorem dX7_kinds_5 : decode cX7_kinds 5 = .ok (.ifCond .eq 10, 3) := by decide +kernel
theorem dX7_kinds_8 : decode cX7_kinds 8 = .ok (.iload_n 2, 1) := by decide +kernel
theorem dX7_kinds_9 : decode cX7_kinds 9 = .ok (.invokestatic 81, 3) := by decide +kernel
theorem dX7_kinds_12 : decode cX7_kinds 12 = .ok (.ifCond .ne 5, 3) := by decide +kernel
theorem dX7_kinds_15 : decode cX7_kinds 15 = .ok (.iconst (-1), 1) := by decide +kernel
theorem dX7_kinds_16 : decode cX7_kinds 16 = .ok (.ireturn, 1) := by decide +kernel
theorem dX7_kinds_17 : decode cX7_kinds 17 = .ok (.aload_n 0, 1) := by decide +kernel
theorem dX7_kinds_18 : decode cX7_kinds 18 = .ok (.iload_n 2, 1) := by decide +kernel
theorem dX7_kinds_19 : decode cX7_kinds 19 = .ok (.invokevirtual 245, 3) := by decide +kernel
theorem dX7_kinds_22 : decode cX7_kinds 22 = .ok (.istore_n 3, 1) := by decide +kernel
theorem dX7_kinds_23 : decode cX7_kinds 23 = .ok (.iload_n 3, 1) := by decide +kernel
theorem dX7_kinds_24 : decode cX7_kinds 24 = .ok (.ifCond .eq 11, 3) := by decide +kernel
theorem dX7_kinds_27 : decode cX7_kinds 27 = .ok (.aload_n 0, 1) := by decide +kernel
theorem dX7_kinds_28 : decode cX7_kinds 28 = .ok (.iload_n 3, 1) := by decide +kernel
theorem dX7_kinds_29 : decode cX7_kinds 29 = .ok (.invokevirtual 85, 3) := by decide +kernel
theorem dX7_kinds_32 : decode cX7_kinds 32 = .ok (.goto 9, 3) := by decide +kernel
theorem dX7_kinds_35 : decode cX7_kinds 35 = .ok (.aload_n 0, 1) := by decide +kernel
theorem dX7_kinds_36 : decode cX7_kinds 36 = .ok (.iload_n 1, 1) := by decide +kernel
theorem dX7_kinds_37 : decode cX7_kinds 37 = .ok (.iload_n 2, 1) := by decide +kernel
theorem dX7_kinds_38 : decode cX7_kinds 38 = .ok (.invokevirtual 248, 3) := by decide +kernel
theorem dX7_kinds_41 : decode cX7_kinds 41 = .ok (.ireturn, 1) := by decide +kernel
set_option maxHeartbeats 200000 in
theorem bX7_kinds_0 {S : pv_S} {x1 x2 : Int32} {a3 : Option Value} : pv_R mX7_kinds 0 [some (.ref 37), some (.int x1), some (.int x2), a3] [] (pv_em S) = pv_cc (pv_R mX7_isCat 0 [some (.ref 37), some (.int x1)] [] (pv_em S)) mX7_kinds 5 [some (.ref 37), some (.int x1), some (.int x2), a3] [] := Eq.trans (pv_Rstp dX7_kinds_0 rfl rfl rfl) (Eq.trans (pv_Rstp dX7_kinds_1 rfl rfl rfl) (pv_Rcall (As := [.ref 37, .int x1]) (rest := []) dX7_kinds_2 rfl mfX7_165 rfl rfl rfl rfl rfl))
set_option maxHeartbeats 200000 in
theorem bX7_kinds_5 {S : pv_S} {x1 x2 u0 : Int32} {a3 : Option Value} : pv_R mX7_kinds 5 [some (.ref 37), some (.int x1), some (.int x2), a3] [.int u0] (pv_em S) = if u0 = 0 then pv_R mX7_kinds 15 [some (.ref 37), some (.int x1), some (.int x2), a3] [] (pv_em S) else pv_R mX7_kinds 8 [some (.ref 37), some (.int x1), some (.int x2), a3] [] (pv_em S) := pv_Rbr (tgt := 15) dX7_kinds_5 rfl rfl rfl rfl rfl (by decide)
set_option maxHeartbeats 200000 in
theorem bX7_kinds_8 {S : pv_S} {x1 x2 : Int32} {a3 : Option Value} : pv_R mX7_kinds 8 [some (.ref 37), some (.int x1), some (.int x2), a3] [] (pv_em S) = pv_cc (pv_R mX7_isRow 0 [some (.int x2)] [] (pv_em S)) mX7_kinds 12 [some (.ref 37), some (.int x1), some (.int x2), a3] [] := Eq.trans (pv_Rstp dX7_kinds_8 rfl rfl rfl) (pv_Rcall (As := [.int x2]) (rest := []) dX7_kinds_9 rfl mfX7_81 rfl rfl rfl rfl rfl)
set_option maxHeartbeats 200000 in
theorem bX7_kinds_12 {S : pv_S} {x1 x2 u0 : Int32} {a3 : Option Value} : pv_R mX7_kinds 12 [some (.ref 37), some (.int x1), some (.int x2), a3] [.int u0] (pv_em S) = if ¬ u0 = 0 then pv_R mX7_kinds 17 [some (.ref 37), some (.int x1), some (.int x2), a3] [] (pv_em S) else pv_R mX7_kinds 15 [some (.ref 37), some (.int x1), some (.int x2), a3] [] (pv_em S) := pv_Rbr (tgt := 17) dX7_kinds_12 rfl rfl rfl rfl rfl (by decide)
set_option maxHeartbeats 200000 in
theorem bX7_kinds_15 {S : pv_S} {x1 x2 : Int32} {a3 : Option Value} : pv_R mX7_kinds 15 [some (.ref 37), some (.int x1), some (.int x2), a3] [] (pv_em S) = some (some (.int (-1)), pv_em S) := Eq.trans (pv_Ric dX7_kinds_15 ki_m1) (pv_Rret dX7_kinds_16 rfl)
set_option maxHeartbeats 200000 in
theorem bX7_kinds_17 {S : pv_S} {x1 x2 : Int32} {a3 : Option Value} : pv_R mX7_kinds 17 [some (.ref 37), some (.int x1), some (.int x2), a3] [] (pv_em S) = pv_cc (pv_R mX7_wrongPairs 0 [some (.ref 37), some (.int x2), none, none] [] (pv_em S)) mX7_kinds 22 [some (.ref 37), some (.int x1), some (.int x2), a3] [] := Eq.trans (pv_Rstp dX7_kinds_17 rfl rfl rfl) (Eq.trans (pv_Rstp dX7_kinds_18 rfl rfl rfl) (pv_Rcall (As := [.ref 37, .int x2]) (rest := []) dX7_kinds_19 rfl mfX7_245 rfl rfl rfl rfl rfl))
set_option maxHeartbeats 200000 in
theorem bX7_kinds_22 {S : pv_S} {x1 x2 u0 : Int32} {a3 : Option Value} : pv_R mX7_kinds 22 [some (.ref 37), some (.int x1), some (.int x2), a3] [.int u0] (pv_em S) = if u0 = 0 then pv_R mX7_kinds 35 [some (.ref 37), some (.int x1), some (.int x2), some (.int u0)] [] (pv_em S) else pv_R mX7_kinds 27 [some (.ref 37), some (.int x1), some (.int x2), some (.int u0)] [] (pv_em S) := Eq.trans (pv_Rstp dX7_kinds_22 rfl rfl rfl) (Eq.trans (pv_Rstp dX7_kinds_23 rfl rfl rfl) (pv_Rbr (tgt := 35) dX7_kinds_24 rfl rfl rfl rfl rfl (by decide)))
set_option maxHeartbeats 200000 in
theorem bX7_kinds_27 {S : pv_S} {x1 x2 x3 : Int32} : pv_R mX7_kinds 27 [some (.ref 37), some (.int x1), some (.int x2), some (.int x3)] [] (pv_em S) = pv_cc (pv_R mX7_found 0 [some (.ref 37), some (.int x3)] [] (pv_em S)) mX7_kinds 32 [some (.ref 37), some (.int x1), some (.int x2), some (.int x3)] [] := Eq.trans (pv_Rstp dX7_kinds_27 rfl rfl rfl) (Eq.trans (pv_Rstp dX7_kinds_28 rfl rfl rfl) (pv_Rcall (As := [.ref 37, .int x3]) (rest := []) dX7_kinds_29 rfl mfX7_85 rfl rfl rfl rfl rfl))
set_option maxHeartbeats 200000 in
theorem bX7_kinds_32 {S : pv_S} {x1 x2 x3 u0 : Int32} : pv_R mX7_kinds 32 [some (.ref 37), some (.int x1), some (.int x2), some (.int x3)] [.int u0] (pv_em S) = pv_R mX7_kinds 41 [some (.ref 37), some (.int x1), some (.int x2), some (.int x3)] [.int u0] (pv_em S) := pv_Rgo (tgt := 41) dX7_kinds_32 rfl (by decide)
set_option maxHeartbeats 200000 in
theorem bX7_kinds_35 {S : pv_S} {x1 x2 x3 : Int32} : pv_R mX7_kinds 35 [some (.ref 37), some (.int x1), some (.int x2), some (.int x3)] [] (pv_em S) = pv_cc (pv_R mX7_kindsBy 0 [some (.ref 37), some (.int x1), some (.int x2), none, none] [] (pv_em S)) mX7_kinds 41 [some (.ref 37), some (.int x1), some (.int x2), some (.int x3)] [] := Eq.trans (pv_Rstp dX7_kinds_35 rfl rfl rfl) (Eq.trans (pv_Rstp dX7_kinds_36 rfl rfl rfl) (Eq.trans (pv_Rstp dX7_kinds_37 rfl rfl rfl) (pv_Rcall (As := [.ref 37, .int x1, .int x2]) (rest := []) dX7_kinds_38 rfl mfX7_248 rfl rfl rfl rfl rfl)))
set_option maxHeartbeats 200000 in
theorem bX7_kinds_41 {S : pv_S} {x1 x2 x3 u0 : Int32} : pv_R mX7_kinds 41 [some (.ref 37), some (.int x1), some (.int x2), some (.int x3)] [.int u0] (pv_em S) = some (some (.int u0), pv_em S) := pv_Rret dX7_kinds_41 rfl
theorem dX7_weights_0 : decode cX7_weights 0 = .ok (.aload_n 0, 1) := by decide +kernel
theorem dX7_weights_1 : decode cX7_weights 1 = .ok (.iload_n 1, 1) := by decide +kernel
theorem dX7_weights_2 : decode cX7_weights 2 = .ok (.invokevirtual 165, 3) := by decide +kernel
theorem dX7_weights_5 : decode cX7_weights 5 = .ok (.ifCond .eq 10, 3) := by decide +kernel
theorem dX7_weights_8 : decode cX7_weights 8 = .ok (.iload_n 2, 1) := by decide +kernel
theorem dX7_weights_9 : decode cX7_weights 9 = .ok (.invokestatic 81, 3) := by decide +kernel
theorem dX7_weights_12 : decode cX7_weights 12 = .ok (.ifCond .ne 5, 3) := by decide +kernel
theorem dX7_weights_15 : decode cX7_weights 15 = .ok (.iconst (-1), 1) := by decide +kernel
theorem dX7_weights_16 : decode cX7_weights 16 = .ok (.ireturn, 1) := by decide +kernel
theorem dX7_weights_17 : decode cX7_weights 17 = .ok (.aload_n 0, 1) := by decide +kernel
theorem dX7_weights_18 : decode cX7_weights 18 = .ok (.iload_n 2, 1) := by decide +kernel
theorem dX7_weights_19 : decode cX7_weights 19 = .ok (.invokevirtual 245, 3) := by decide +kernel
theorem dX7_weights_22 : decode cX7_weights 22 = .ok (.istore_n 3, 1) := by decide +kernel
theorem dX7_weights_23 : decode cX7_weights 23 = .ok (.iload_n 3, 1) := by decide +kernel
theorem dX7_weights_24 : decode cX7_weights 24 = .ok (.ifCond .eq 9, 3) := by decide +kernel
theorem dX7_weights_27 : decode cX7_weights 27 = .ok (.aload_n 0, 1) := by decide +kernel
theorem dX7_weights_28 : decode cX7_weights 28 = .ok (.iload_n 3, 1) := by decide +kernel
theorem dX7_weights_29 : decode cX7_weights 29 = .ok (.invokevirtual 85, 3) := by decide +kernel
theorem dX7_weights_32 : decode cX7_weights 32 = .ok (.ireturn, 1) := by decide +kernel
theorem dX7_weights_33 : decode cX7_weights 33 = .ok (.iconst 0, 1) := by decide +kernel
theorem dX7_weights_34 : decode cX7_weights 34 = .ok (.istore 4, 2) := by decide +kernel
theorem dX7_weights_36 : decode cX7_weights 36 = .ok (.bipush (-9), 2) := by decide +kernel
theorem dX7_weights_38 : decode cX7_weights 38 = .ok (.istore 5, 2) := by decide +kernel
theorem dX7_weights_40 : decode cX7_weights 40 = .ok (.iconst 1, 1) := by decide +kernel
theorem dX7_weights_41 : decode cX7_weights 41 = .ok (.istore 6, 2) := by decide +kernel
theorem dX7_weights_43 : decode cX7_weights 43 = .ok (.iload 6, 2) := by decide +kernel
theorem dX7_weights_45 : decode cX7_weights 45 = .ok (.sipush 201, 3) := by decide +kernel
theorem dX7_weights_48 : decode cX7_weights 48 = .ok (.if_icmp .ge 44, 3) := by decide +kernel
theorem dX7_weights_51 : decode cX7_weights 51 = .ok (.aload_n 0, 1) := by decide +kernel
theorem dX7_weights_52 : decode cX7_weights 52 = .ok (.iload_n 2, 1) := by decide +kernel
theorem dX7_weights_53 : decode cX7_weights 53 = .ok (.aload_n 0, 1) := by decide +kernel
theorem dX7_weights_54 : decode cX7_weights 54 = .ok (.getfield 22, 3) := by decide +kernel
theorem dX7_weights_57 : decode cX7_weights 57 = .ok (.iload_n 1, 1) := by decide +kernel
theorem dX7_weights_58 : decode cX7_weights 58 = .ok (.iaload, 1) := by decide +kernel
theorem dX7_weights_59 : decode cX7_weights 59 = .ok (.iload 6, 2) := by decide +kernel
theorem dX7_weights_61 : decode cX7_weights 61 = .ok (.invokevirtual 241, 3) := by decide +kernel
theorem dX7_weights_64 : decode cX7_weights 64 = .ok (.ifCond .eq 22, 3) := by decide +kernel
theorem dX7_weights_67 : decode cX7_weights 67 = .ok (.iinc 4 1, 3) := by decide +kernel
theorem dX7_weights_70 : decode cX7_weights 70 = .ok (.iload 5, 2) := by decide +kernel
theorem dX7_weights_72 : decode cX7_weights 72 = .ok (.bipush (-9), 2) := by decide +kernel
theorem dX7_weights_74 : decode cX7_weights 74 = .ok (.if_icmp .ne 8, 3) := by decide +kernel
theorem dX7_weights_77 : decode cX7_weights 77 = .ok (.iload 6, 2) := by decide +kernel
theorem dX7_weights_79 : decode cX7_weights 79 = .ok (.goto 5, 3) := by decide +kernel
theorem dX7_weights_82 : decode cX7_weights 82 = .ok (.iload 5, 2) := by decide +kernel
theorem dX7_weights_84 : decode cX7_weights 84 = .ok (.istore 5, 2) := by decide +kernel
theorem dX7_weights_86 : decode cX7_weights 86 = .ok (.iinc 6 1, 3) := by decide +kernel
theorem dX7_weights_89 : decode cX7_weights 89 = .ok (.goto (-46), 3) := by decide +kernel
theorem dX7_weights_92 : decode cX7_weights 92 = .ok (.aload_n 0, 1) := by decide +kernel
theorem dX7_weights_93 : decode cX7_weights 93 = .ok (.iload 4, 2) := by decide +kernel
theorem dX7_weights_95 : decode cX7_weights 95 = .ok (.iload 5, 2) := by decide +kernel
theorem dX7_weights_97 : decode cX7_weights 97 = .ok (.invokevirtual 206, 3) := by decide +kernel
theorem dX7_weights_100 : decode cX7_weights 100 = .ok (.ireturn, 1) := by decide +kernel
set_option maxHeartbeats 200000 in
theorem bX7_weights_0 {S : pv_S} {x1 x2 : Int32} {a3 a4 a5 a6 : Option Value} : pv_R mX7_weights 0 [some (.ref 37), some (.int x1), some (.int x2), a3, a4, a5, a6] [] (pv_em S) = pv_cc (pv_R mX7_isCat 0 [some (.ref 37), some (.int x1)] [] (pv_em S)) mX7_weights 5 [some (.ref 37), some (.int x1), some (.int x2), a3, a4, a5, a6] [] := Eq.trans (pv_Rstp dX7_weights_0 rfl rfl rfl) (Eq.trans (pv_Rstp dX7_weights_1 rfl rfl rfl) (pv_Rcall (As := [.ref 37, .int x1]) (rest := []) dX7_weights_2 rfl mfX7_165 rfl rfl rfl rfl rfl))
set_option maxHeartbeats 200000 in
theorem bX7_weights_5 {S : pv_S} {x1 x2 u0 : Int32} {a3 a4 a5 a6 : Option Value} : pv_R mX7_weights 5 [some (.ref 37), some (.int x1), some (.int x2), a3, a4, a5, a6] [.int u0] (pv_em S) = if u0 = 0 then pv_R mX7_weights 15 [some (.ref 37), some (.int x1), some (.int x2), a3, a4, a5, a6] [] (pv_em S) else pv_R mX7_weights 8 [some (.ref 37), some (.int x1), some (.int x2), a3, a4, a5, a6] [] (pv_em S) := pv_Rbr (tgt := 15) dX7_weights_5 rfl rfl rfl rfl rfl (by decide)
set_option maxHeartbeats 200000 in
theorem bX7_weights_8 {S : pv_S} {x1 x2 : Int32} {a3 a4 a5 a6 : Option Value} : pv_R mX7_weights 8 [some (.ref 37), some (.int x1), some (.int x2), a3, a4, a5, a6] [] (pv_em S) = pv_cc (pv_R mX7_isRow 0 [some (.int x2)] [] (pv_em S)) mX7_weights 12 [some (.ref 37), some (.int x1), some (.int x2), a3, a4, a5, a6] [] := Eq.trans (pv_Rstp dX7_weights_8 rfl rfl rfl) (pv_Rcall (As := [.int x2]) (rest := []) dX7_weights_9 rfl mfX7_81 rfl rfl rfl rfl rfl)
set_option maxHeartbeats 200000 in
theorem bX7_weights_12 {S : pv_S} {x1 x2 u0 : Int32} {a3 a4 a5 a6 : Option Value} : pv_R mX7_weights 12 [some (.ref 37), some (.int x1), some (.int x2), a3, a4, a5, a6] [.int u0] (pv_em S) = if ¬ u0 = 0 then pv_R mX7_weights 17 [some (.ref 37), some (.int x1), some (.int x2), a3, a4, a5, a6] [] (pv_em S) else pv_R mX7_weights 15 [some (.ref 37), some (.int x1), some (.int x2), a3, a4, a5, a6] [] (pv_em S) := pv_Rbr (tgt := 17) dX7_weights_12 rfl rfl rfl rfl rfl (by decide)
set_option maxHeartbeats 200000 in
theorem bX7_weights_15 {S : pv_S} {x1 x2 : Int32} {a3 a4 a5 a6 : Option Value} : pv_R mX7_weights 15 [some (.ref 37), some (.int x1), some (.int x2), a3, a4, a5, a6] [] (pv_em S) = some (some (.int (-1)), pv_em S) := Eq.trans (pv_Ric dX7_weights_15 ki_m1) (pv_Rret dX7_weights_16 rfl)
set_option maxHeartbeats 200000 in
theorem bX7_weights_17 {S : pv_S} {x1 x2 : Int32} {a3 a4 a5 a6 : Option Value} : pv_R mX7_weights 17 [some (.ref 37), some (.int x1), some (.int x2), a3, a4, a5, a6] [] (pv_em S) = pv_cc (pv_R mX7_wrongPairs 0 [some (.ref 37), some (.int x2), none, none] [] (pv_em S)) mX7_weights 22 [some (.ref 37), some (.int x1), some (.int x2), a3, a4, a5, a6] [] := Eq.trans (pv_Rstp dX7_weights_17 rfl rfl rfl) (Eq.trans (pv_Rstp dX7_weights_18 rfl rfl rfl) (pv_Rcall (As := [.ref 37, .int x2]) (rest := []) dX7_weights_19 rfl mfX7_245 rfl rfl rfl rfl rfl))
set_option maxHeartbeats 200000 in
theorem bX7_weights_22 {S : pv_S} {x1 x2 u0 : Int32} {a3 a4 a5 a6 : Option Value} : pv_R mX7_weights 22 [some (.ref 37), some (.int x1), some (.int x2), a3, a4, a5, a6] [.int u0] (pv_em S) = if u0 = 0 then pv_R mX7_weights 33 [some (.ref 37), some (.int x1), some (.int x2), some (.int u0), a4, a5, a6] [] (pv_em S) else pv_R mX7_weights 27 [some (.ref 37), some (.int x1), some (.int x2), some (.int u0), a4, a5, a6] [] (pv_em S) := Eq.trans (pv_Rstp dX7_weights_22 rfl rfl rfl) (Eq.trans (pv_Rstp dX7_weights_23 rfl rfl rfl) (pv_Rbr (tgt := 33) dX7_weights_24 rfl rfl rfl rfl rfl (by decide)))
set_option maxHeartbeats 200000 in
theorem bX7_weights_27 {S : pv_S} {x1 x2 x3 : Int32} {a4 a5 a6 : Option Value} : pv_R mX7_weights 27 [some (.ref 37), some (.int x1), some (.int x2), some (.int x3), a4, a5, a6] [] (pv_em S) = pv_cc (pv_R mX7_found 0 [some (.ref 37), some (.int x3)] [] (pv_em S)) mX7_weights 32 [some (.ref 37), some (.int x1), some (.int x2), some (.int x3), a4, a5, a6] [] := Eq.trans (pv_Rstp dX7_weights_27 rfl rfl rfl) (Eq.trans (pv_Rstp dX7_weights_28 rfl rfl rfl) (pv_Rcall (As := [.ref 37, .int x3]) (rest := []) dX7_weights_29 rfl mfX7_85 rfl rfl rfl rfl rfl))
set_option maxHeartbeats 200000 in
theorem bX7_weights_32 {S : pv_S} {x1 x2 x3 u0 : Int32} {a4 a5 a6 : Option Value} : pv_R mX7_weights 32 [some (.ref 37), some (.int x1), some (.int x2), some (.int x3), a4, a5, a6] [.int u0] (pv_em S) = some (some (.int u0), pv_em S) := pv_Rret dX7_weights_32 rfl
set_option maxHeartbeats 200000 in
theorem bX7_weights_33 {S : pv_S} {x1 x2 x3 : Int32} {a4 a5 a6 : Option Value} : pv_R mX7_weights 33 [some (.ref 37), some (.int x1), some (.int x2), some (.int x3), a4, a5, a6] [] (pv_em S) = pv_R mX7_weights 43 [some (.ref 37), some (.int x1), some (.int x2), some (.int x3), some (.int 0), some (.int (-9)), some (.int 1)] [] (pv_em S) := Eq.trans (pv_Ric dX7_weights_33 ki_0) (Eq.trans (pv_Rstp dX7_weights_34 rfl rfl rfl) (Eq.trans (pv_Rbp dX7_weights_36 kb_m9) (Eq.trans (pv_Rstp dX7_weights_38 rfl rfl rfl) (Eq.trans (pv_Ric dX7_weights_40 ki_1) (pv_Rstp dX7_weights_41 rfl rfl rfl)))))
set_option maxHeartbeats 200000 in
theorem bX7_weights_43 {S : pv_S} {x1 x2 x3 x4 x5 x6 : Int32} : pv_R mX7_weights 43 [some (.ref 37), some (.int x1), some (.int x2), some (.int x3), some (.int x4), some (.int x5), some (.int x6)] [] (pv_em S) = if 201 ≤ x6 then pv_R mX7_weights 92 [some (.ref 37), some (.int x1), some (.int x2), some (.int x3), some (.int x4), some (.int x5), some (.int x6)] [] (pv_em S) else pv_R mX7_weights 51 [some (.ref 37), some (.int x1), some (.int x2), some (.int x3), some (.int x4), some (.int x5), some (.int x6)] [] (pv_em S) := Eq.trans (pv_Rstp dX7_weights_43 rfl rfl rfl) (Eq.trans (pv_Rsp dX7_weights_45 ks_201) (pv_Rbr (tgt := 92) dX7_weights_48 rfl rfl rfl rfl rfl (by decide)))
set_option maxHeartbeats 200000 in
theorem bX7_weights_51 {S : pv_S} {x1 x2 x3 x4 x5 x6 : Int32} : pv_R mX7_weights 51 [some (.ref 37), some (.int x1), some (.int x2), some (.int x3), some (.int x4), some (.int x5), some (.int x6)] [] (pv_em S) = if x1 < 0 ∨ 6 ≤ x1.toNatClampNeg then none else pv_cc (pv_R mX7_isSo 0 [some (.ref 37), some (.int x2), some (.int (S.1 42 x1.toNatClampNeg)), some (.int x6), none, none] [] (pv_em S)) mX7_weights 64 [some (.ref 37), some (.int x1), some (.int x2), some (.int x3), some (.int x4), some (.int x5), some (.int x6)] [] := Eq.trans (pv_Rstp dX7_weights_51 rfl rfl rfl) (Eq.trans (pv_Rstp dX7_weights_52 rfl rfl rfl) (Eq.trans (pv_Rstp dX7_weights_53 rfl rfl rfl) (Eq.trans (pv_Rget dX7_weights_54 ffX7_22 (by decide) (pv_ce_37 _ _) rfl) (Eq.trans (pv_Rstp dX7_weights_57 rfl rfl rfl) (Eq.trans (pv_Rald dX7_weights_58 (by decide) (pv_ce_42 _ _)) (pv_iteN (fun h1 => Eq.trans (pv_Rstp dX7_weights_59 rfl rfl rfl) (pv_Rcall (As := [.ref 37, .int x2, .int (S.1 42 x1.toNatClampNeg), .int x6]) (rest := []) dX7_weights_61 rfl mfX7_241 rfl rfl rfl rfl rfl))))))))
set_option maxHeartbeats 200000 in
theorem bX7_weights_64 {S : pv_S} {x1 x2 x3 x4 x5 x6 u0 : Int32} : pv_R mX7_weights 64 [some (.ref 37), some (.int x1), some (.int x2), some (.int x3), some (.int x4), some (.int x5), some (.int x6)] [.int u0] (pv_em S) = if u0 = 0 then pv_R mX7_weights 86 [some (.ref 37), some (.int x1), some (.int x2), some (.int x3), some (.int x4), some (.int x5), some (.int x6)] [] (pv_em S) else pv_R mX7_weights 67 [some (.ref 37), some (.int x1), some (.int x2), some (.int x3), some (.int x4), some (.int x5), some (.int x6)] [] (pv_em S) := pv_Rbr (tgt := 86) dX7_weights_64 rfl rfl rfl rfl rfl (by decide)
set_option maxHeartbeats 200000 in
theorem bX7_weights_67 {S : pv_S} {x1 x2 x3 x4 x5 x6 : Int32} : pv_R mX7_weights 67 [some (.ref 37), some (.int x1), some (.int x2), some (.int x3), some (.int x4), some (.int x5), some (.int x6)] [] (pv_em S) = if ¬ x5 = (-9) then pv_R mX7_weights 82 [some (.ref 37), some (.int x1), some (.int x2), some (.int x3), some (.int (x4 + 1)), some (.int x5), some (.int x6)] [] (pv_em S) else pv_R mX7_weights 77 [some (.ref 37), some (.int x1), some (.int x2), some (.int x3), some (.int (x4 + 1)), some (.int x5), some (.int x6)] [] (pv_em S) := Eq.trans (pv_Rinc dX7_weights_67 rfl (Nat.le_of_ble_eq_true rfl) ki_1 rfl) (Eq.trans (pv_Rstp dX7_weights_70 rfl rfl rfl) (Eq.trans (pv_Rbp dX7_weights_72 kb_m9) (pv_Rbr (tgt := 82) dX7_weights_74 rfl rfl rfl rfl rfl (by decide))))
set_option maxHeartbeats 200000 in
theorem bX7_weights_77 {S : pv_S} {x1 x2 x3 x4 x5 x6 : Int32} : pv_R mX7_weights 77 [some (.ref 37), some (.int x1), some (.int x2), some (.int x3), some (.int x4), some (.int x5), some (.int x6)] [] (pv_em S) = pv_R mX7_weights 84 [some (.ref 37), some (.int x1), some (.int x2), some (.int x3), some (.int x4), some (.int x5), some (.int x6)] [.int x6] (pv_em S) := Eq.trans (pv_Rstp dX7_weights_77 rfl rfl rfl) (pv_Rgo (tgt := 84) dX7_weights_79 rfl (by decide))
set_option maxHeartbeats 200000 in
theorem bX7_weights_82 {S : pv_S} {x1 x2 x3 x4 x5 x6 : Int32} : pv_R mX7_weights 82 [some (.ref 37), some (.int x1), some (.int x2), some (.int x3), some (.int x4), some (.int x5), some (.int x6)] [] (pv_em S) = pv_R mX7_weights 84 [some (.ref 37), some (.int x1), some (.int x2), some (.int x3), some (.int x4), some (.int x5), some (.int x6)] [.int x5] (pv_em S) := pv_Rstp dX7_weights_82 rfl rfl rfl
set_option maxHeartbeats 200000 in
theorem bX7_weights_84 {S : pv_S} {x1 x2 x3 x4 x5 x6 u0 : Int32} : pv_R mX7_weights 84 [some (.ref 37), some (.int x1), some (.int x2), some (.int x3), some (.int x4), some (.int x5), some (.int x6)] [.int u0] (pv_em S) = pv_R mX7_weights 86 [some (.ref 37), some (.int x1), some (.int x2), some (.int x3), some (.int x4), some (.int u0), some (.int x6)] [] (pv_em S) := pv_Rstp dX7_weights_84 rfl rfl rfl
set_option maxHeartbeats 200000 in
theorem bX7_weights_86 {S : pv_S} {x1 x2 x3 x4 x5 x6 : Int32} : pv_R mX7_weights 86 [some (.ref 37), some (.int x1), some (.int x2), some (.int x3), some (.int x4), some (.int x5), some (.int x6)] [] (pv_em S) = pv_R mX7_weights 43 [some (.ref 37), some (.int x1), some (.int x2), some (.int x3), some (.int x4), some (.int x5), some (.int (x6 + 1))] [] (pv_em S) := Eq.trans (pv_Rinc dX7_weights_86 rfl (Nat.le_of_ble_eq_true rfl) ki_1 rfl) (pv_Rgo (tgt := 43) dX7_weights_89 rfl (by decide))
set_option maxHeartbeats 200000 in
theorem bX7_weights_92 {S : pv_S} {x1 x2 x3 x4 x5 x6 : Int32} : pv_R mX7_weights 92 [some (.ref 37), some (.int x1), some (.int x2), some (.int x3), some (.int x4), some (.int x5), some (.int x6)] [] (pv_em S) = pv_cc (pv_R mX7_answer 0 [some (.ref 37), some (.int x4), some (.int x5)] [] (pv_em S)) mX7_weights 100 [some (.ref 37), some (.int x1), some (.int x2), some (.int x3), some (.int x4), some (.int x5), some (.int x6)] [] := Eq.trans (pv_Rstp dX7_weights_92 rfl rfl rfl) (Eq.trans (pv_Rstp dX7_weights_93 rfl rfl rfl) (Eq.trans (pv_Rstp dX7_weights_95 rfl rfl rfl) (pv_Rcall (As := [.ref 37, .int x4, .int x5]) (rest := []) dX7_weights_97 rfl mfX7_206 rfl rfl rfl rfl rfl)))
set_option maxHeartbeats 200000 in
theorem bX7_weights_100 {S : pv_S} {x1 x2 x3 x4 x5 x6 u0 : Int32} : pv_R mX7_weights 100 [some (.ref 37), some (.int x1), some (.int x2), some (.int x3), some (.int x4), some (.int x5), some (.int x6)] [.int u0] (pv_em S) = some (some (.int u0), pv_em S) := pv_Rret dX7_weights_100 rfl
theorem dX7_test_0 : decode cX7_test 0 = .ok (.aload_n 0, 1) := by decide +kernel
theorem dX7_test_1 : decode cX7_test 1 = .ok (.iload_n 1, 1) := by decide +kernel
theorem dX7_test_2 : decode cX7_test 2 = .ok (.invokevirtual 165, 3) := by decide +kernel
theorem dX7_test_5 : decode cX7_test 5 = .ok (.ifCond .eq 10, 3) := by decide +kernel
theorem dX7_test_8 : decode cX7_test 8 = .ok (.iload_n 2, 1) := by decide +kernel
theorem dX7_test_9 : decode cX7_test 9 = .ok (.invokestatic 81, 3) := by decide +kernel
theorem dX7_test_12 : decode cX7_test 12 = .ok (.ifCond .ne 5, 3) := by decide +kernel
theorem dX7_test_15 : decode cX7_test 15 = .ok (.iconst (-1), 1) := by decide +kernel
theorem dX7_test_16 : decode cX7_test 16 = .ok (.ireturn, 1) := by decide +kernel
theorem dX7_test_17 : decode cX7_test 17 = .ok (.aload_n 0, 1) := by decide +kernel
theorem dX7_test_18 : decode cX7_test 18 = .ok (.iload_n 2, 1) := by decide +kernel
theorem dX7_test_19 : decode cX7_test 19 = .ok (.invokevirtual 245, 3) := by decide +kernel
theorem dX7_test_22 : decode cX7_test 22 = .ok (.istore_n 3, 1) := by decide +kernel
theorem dX7_test_23 : decode cX7_test 23 = .ok (.iload_n 3, 1) := by decide +kernel
theorem dX7_test_24 : decode cX7_test 24 = .ok (.ifCond .eq 9, 3) := by decide +kernel
theorem dX7_test_27 : decode cX7_test 27 = .ok (.aload_n 0, 1) := by decide +kernel
theorem dX7_test_28 : decode cX7_test 28 = .ok (.iload_n 3, 1) := by decide +kernel
theorem dX7_test_29 : decode cX7_test 29 = .ok (.invokevirtual 85, 3) := by decide +kernel
theorem dX7_test_32 : decode cX7_test 32 = .ok (.ireturn, 1) := by decide +kernel
theorem dX7_test_33 : decode cX7_test 33 = .ok (.aload_n 0, 1) := by decide +kernel
theorem dX7_test_34 : decode cX7_test 34 = .ok (.iload_n 1, 1) := by decide +kernel
theorem dX7_test_35 : decode cX7_test 35 = .ok (.iload_n 2, 1) := by decide +kernel
theorem dX7_test_36 : decode cX7_test 36 = .ok (.invokevirtual 248, 3) := by decide +kernel
theorem dX7_test_39 : decode cX7_test 39 = .ok (.istore 4, 2) := by decide +kernel
theorem dX7_test_41 : decode cX7_test 41 = .ok (.iload 4, 2) := by decide +kernel
theorem dX7_test_43 : decode cX7_test 43 = .ok (.ifCond .ne 6, 3) := by decide +kernel
theorem dX7_test_46 : decode cX7_test 46 = .ok (.bipush (-9), 2) := by decide +kernel
theorem dX7_test_48 : decode cX7_test 48 = .ok (.ireturn, 1) := by decide +kernel
theorem dX7_test_49 : decode cX7_test 49 = .ok (.iconst 0, 1) := by decide +kernel
theorem dX7_test_50 : decode cX7_test 50 = .ok (.istore 5, 2) := by decide +kernel
theorem dX7_test_52 : decode cX7_test 52 = .ok (.ldc 205, 2) := by decide +kernel
theorem dX7_test_54 : decode cX7_test 54 = .ok (.istore 6, 2) := by decide +kernel
theorem dX7_test_56 : decode cX7_test 56 = .ok (.iconst 0, 1) := by decide +kernel
theorem dX7_test_57 : decode cX7_test 57 = .ok (.istore 7, 2) := by decide +kernel
theorem dX7_test_59 : decode cX7_test 59 = .ok (.iload 7, 2) := by decide +kernel
theorem dX7_test_61 : decode cX7_test 61 = .ok (.bipush 41, 2) := by decide +kernel
theorem dX7_test_63 : decode cX7_test 63 = .ok (.if_icmp .ge 59, 3) := by decide +kernel
theorem dX7_test_66 : decode cX7_test 66 = .ok (.aload_n 0, 1) := by decide +kernel
theorem dX7_test_67 : decode cX7_test 67 = .ok (.iload 4, 2) := by decide +kernel
theorem dX7_test_69 : decode cX7_test 69 = .ok (.aload_n 0, 1) := by decide +kernel
theorem dX7_test_70 : decode cX7_test 70 = .ok (.getfield 28, 3) := by decide +kernel
theorem dX7_test_73 : decode cX7_test 73 = .ok (.iconst 0, 1) := by decide +kernel
theorem dX7_test_74 : decode cX7_test 74 = .ok (.iload_n 1, 1) := by decide +kernel
theorem dX7_test_75 : decode cX7_test 75 = .ok (.iadd, 1) := by decide +kernel
theorem dX7_test_76 : decode cX7_test 76 = .ok (.iaload, 1) := by decide +kernel
theorem dX7_test_77 : decode cX7_test 77 = .ok (.iload 7, 2) := by decide +kernel
theorem dX7_test_79 : decode cX7_test 79 = .ok (.invokevirtual 251, 3) := by decide +kernel
theorem dX7_test_82 : decode cX7_test 82 = .ok (.istore 8, 2) := by decide +kernel
theorem dX7_test_84 : decode cX7_test 84 = .ok (.iload 8, 2) := by decide +kernel
theorem dX7_test_86 : decode cX7_test 86 = .ok (.iload 6, 2) := by decide +kernel
theorem dX7_test_88 : decode cX7_test 88 = .ok (.if_icmp .ge 8, 3) := by decide +kernel
theorem dX7_test_91 : decode cX7_test 91 = .ok (.iload 7, 2) := by decide +kernel
theorem dX7_test_93 : decode cX7_test 93 = .ok (.goto 5, 3) := by decide +kernel
theorem dX7_test_96 : decode cX7_test 96 = .ok (.iload 5, 2) := by decide +kernel
theorem dX7_test_98 : decode cX7_test 98 = .ok (.istore 5, 2) := by decide +kernel
theorem dX7_test_100 : decode cX7_test 100 = .ok (.iload 8, 2) := by decide +kernel
theorem dX7_test_102 : decode cX7_test 102 = .ok (.iload 6, 2) := by decide +kernel
theorem dX7_test_104 : decode cX7_test 104 = .ok (.if_icmp .ge 8, 3) := by decide +kernel
theorem dX7_test_107 : decode cX7_test 107 = .ok (.iload 8, 2) := by decide +kernel
theorem dX7_test_109 : decode cX7_test 109 = .ok (.goto 5, 3) := by decide +kernel
theorem dX7_test_112 : decode cX7_test 112 = .ok (.iload 6, 2) := by decide +kernel
theorem dX7_test_114 : decode cX7_test 114 = .ok (.istore 6, 2) := by decide +kernel
theorem dX7_test_116 : decode cX7_test 116 = .ok (.iinc 7 1, 3) := by decide +kernel
theorem dX7_test_119 : decode cX7_test 119 = .ok (.goto (-60), 3) := by decide +kernel
theorem dX7_test_122 : decode cX7_test 122 = .ok (.aload_n 0, 1) := by decide +kernel
theorem dX7_test_123 : decode cX7_test 123 = .ok (.iload 5, 2) := by decide +kernel
theorem dX7_test_125 : decode cX7_test 125 = .ok (.iload 6, 2) := by decide +kernel
theorem dX7_test_127 : decode cX7_test 127 = .ok (.invokevirtual 206, 3) := by decide +kernel
theorem dX7_test_130 : decode cX7_test 130 = .ok (.ireturn, 1) := by decide +kernel
set_option maxHeartbeats 200000 in
theorem bX7_test_0 {S : pv_S} {x1 x2 : Int32} {a3 a4 a5 a6 a7 a8 : Option Value} : pv_R mX7_test 0 [some (.ref 37), some (.int x1), some (.int x2), a3, a4, a5, a6, a7, a8] [] (pv_em S) = pv_cc (pv_R mX7_isCat 0 [some (.ref 37), some (.int x1)] [] (pv_em S)) mX7_test 5 [some (.ref 37), some (.int x1), some (.int x2), a3, a4, a5, a6, a7, a8] [] := Eq.trans (pv_Rstp dX7_test_0 rfl rfl rfl) (Eq.trans (pv_Rstp dX7_test_1 rfl rfl rfl) (pv_Rcall (As := [.ref 37, .int x1]) (rest := []) dX7_test_2 rfl mfX7_165 rfl rfl rfl rfl rfl))
set_option maxHeartbeats 200000 in
theorem bX7_test_5 {S : pv_S} {x1 x2 u0 : Int32} {a3 a4 a5 a6 a7 a8 : Option Value} : pv_R mX7_test 5 [some (.ref 37), some (.int x1), some (.int x2), a3, a4, a5, a6, a7, a8] [.int u0] (pv_em S) = if u0 = 0 then pv_R mX7_test 15 [some (.ref 37), some (.int x1), some (.int x2), a3, a4, a5, a6, a7, a8] [] (pv_em S) else pv_R mX7_test 8 [some (.ref 37), some (.int x1), some (.int x2), a3, a4, a5, a6, a7, a8] [] (pv_em S) := pv_Rbr (tgt := 15) dX7_test_5 rfl rfl rfl rfl rfl (by decide)
set_option maxHeartbeats 200000 in
theorem bX7_test_8 {S : pv_S} {x1 x2 : Int32} {a3 a4 a5 a6 a7 a8 : Option Value} : pv_R mX7_test 8 [some (.ref 37), some (.int x1), some (.int x2), a3, a4, a5, a6, a7, a8] [] (pv_em S) = pv_cc (pv_R mX7_isRow 0 [some (.int x2)] [] (pv_em S)) mX7_test 12 [some (.ref 37), some (.int x1), some (.int x2), a3, a4, a5, a6, a7, a8] [] := Eq.trans (pv_Rstp dX7_test_8 rfl rfl rfl) (pv_Rcall (As := [.int x2]) (rest := []) dX7_test_9 rfl mfX7_81 rfl rfl rfl rfl rfl)
set_option maxHeartbeats 200000 in
theorem bX7_test_12 {S : pv_S} {x1 x2 u0 : Int32} {a3 a4 a5 a6 a7 a8 : Option Value} : pv_R mX7_test 12 [some (.ref 37), some (.int x1), some (.int x2), a3, a4, a5, a6, a7, a8] [.int u0] (pv_em S) = if ¬ u0 = 0 then pv_R mX7_test 17 [some (.ref 37), some (.int x1), some (.int x2), a3, a4, a5, a6, a7, a8] [] (pv_em S) else pv_R mX7_test 15 [some (.ref 37), some (.int x1), some (.int x2), a3, a4, a5, a6, a7, a8] [] (pv_em S) := pv_Rbr (tgt := 17) dX7_test_12 rfl rfl rfl rfl rfl (by decide)
set_option maxHeartbeats 200000 in
theorem bX7_test_15 {S : pv_S} {x1 x2 : Int32} {a3 a4 a5 a6 a7 a8 : Option Value} : pv_R mX7_test 15 [some (.ref 37), some (.int x1), some (.int x2), a3, a4, a5, a6, a7, a8] [] (pv_em S) = some (some (.int (-1)), pv_em S) := Eq.trans (pv_Ric dX7_test_15 ki_m1) (pv_Rret dX7_test_16 rfl)
set_option maxHeartbeats 200000 in
theorem bX7_test_17 {S : pv_S} {x1 x2 : Int32} {a3 a4 a5 a6 a7 a8 : Option Value} : pv_R mX7_test 17 [some (.ref 37), some (.int x1), some (.int x2), a3, a4, a5, a6, a7, a8] [] (pv_em S) = pv_cc (pv_R mX7_wrongPairs 0 [some (.ref 37), some (.int x2), none, none] [] (pv_em S)) mX7_test 22 [some (.ref 37), some (.int x1), some (.int x2), a3, a4, a5, a6, a7, a8] [] := Eq.trans (pv_Rstp dX7_test_17 rfl rfl rfl) (Eq.trans (pv_Rstp dX7_test_18 rfl rfl rfl) (pv_Rcall (As := [.ref 37, .int x2]) (rest := []) dX7_test_19 rfl mfX7_245 rfl rfl rfl rfl rfl))
set_option maxHeartbeats 200000 in
theorem bX7_test_22 {S : pv_S} {x1 x2 u0 : Int32} {a3 a4 a5 a6 a7 a8 : Option Value} : pv_R mX7_test 22 [some (.ref 37), some (.int x1), some (.int x2), a3, a4, a5, a6, a7, a8] [.int u0] (pv_em S) = if u0 = 0 then pv_R mX7_test 33 [some (.ref 37), some (.int x1), some (.int x2), some (.int u0), a4, a5, a6, a7, a8] [] (pv_em S) else pv_R mX7_test 27 [some (.ref 37), some (.int x1), some (.int x2), some (.int u0), a4, a5, a6, a7, a8] [] (pv_em S) := Eq.trans (pv_Rstp dX7_test_22 rfl rfl rfl) (Eq.trans (pv_Rstp dX7_test_23 rfl rfl rfl) (pv_Rbr (tgt := 33) dX7_test_24 rfl rfl rfl rfl rfl (by decide)))
set_option maxHeartbeats 200000 in
theorem bX7_test_27 {S : pv_S} {x1 x2 x3 : Int32} {a4 a5 a6 a7 a8 : Option Value} : pv_R mX7_test 27 [some (.ref 37), some (.int x1), some (.int x2), some (.int x3), a4, a5, a6, a7, a8] [] (pv_em S) = pv_cc (pv_R mX7_found 0 [some (.ref 37), some (.int x3)] [] (pv_em S)) mX7_test 32 [some (.ref 37), some (.int x1), some (.int x2), some (.int x3), a4, a5, a6, a7, a8] [] := Eq.trans (pv_Rstp dX7_test_27 rfl rfl rfl) (Eq.trans (pv_Rstp dX7_test_28 rfl rfl rfl) (pv_Rcall (As := [.ref 37, .int x3]) (rest := []) dX7_test_29 rfl mfX7_85 rfl rfl rfl rfl rfl))
set_option maxHeartbeats 200000 in
theorem bX7_test_32 {S : pv_S} {x1 x2 x3 u0 : Int32} {a4 a5 a6 a7 a8 : Option Value} : pv_R mX7_test 32 [some (.ref 37), some (.int x1), some (.int x2), some (.int x3), a4, a5, a6, a7, a8] [.int u0] (pv_em S) = some (some (.int u0), pv_em S) := pv_Rret dX7_test_32 rfl
set_option maxHeartbeats 200000 in
theorem bX7_test_33 {S : pv_S} {x1 x2 x3 : Int32} {a4 a5 a6 a7 a8 : Option Value} : pv_R mX7_test 33 [some (.ref 37), some (.int x1), some (.int x2), some (.int x3), a4, a5, a6, a7, a8] [] (pv_em S) = pv_cc (pv_R mX7_kindsBy 0 [some (.ref 37), some (.int x1), some (.int x2), none, none] [] (pv_em S)) mX7_test 39 [some (.ref 37), some (.int x1), some (.int x2), some (.int x3), a4, a5, a6, a7, a8] [] := Eq.trans (pv_Rstp dX7_test_33 rfl rfl rfl) (Eq.trans (pv_Rstp dX7_test_34 rfl rfl rfl) (Eq.trans (pv_Rstp dX7_test_35 rfl rfl rfl) (pv_Rcall (As := [.ref 37, .int x1, .int x2]) (rest := []) dX7_test_36 rfl mfX7_248 rfl rfl rfl rfl rfl)))
set_option maxHeartbeats 200000 in
theorem bX7_test_39 {S : pv_S} {x1 x2 x3 u0 : Int32} {a4 a5 a6 a7 a8 : Option Value} : pv_R mX7_test 39 [some (.ref 37), some (.int x1), some (.int x2), some (.int x3), a4, a5, a6, a7, a8] [.int u0] (pv_em S) = if ¬ u0 = 0 then pv_R mX7_test 49 [some (.ref 37), some (.int x1), some (.int x2), some (.int x3), some (.int u0), a5, a6, a7, a8] [] (pv_em S) else pv_R mX7_test 46 [some (.ref 37), some (.int x1), some (.int x2), some (.int x3), some (.int u0), a5, a6, a7, a8] [] (pv_em S) := Eq.trans (pv_Rstp dX7_test_39 rfl rfl rfl) (Eq.trans (pv_Rstp dX7_test_41 rfl rfl rfl) (pv_Rbr (tgt := 49) dX7_test_43 rfl rfl rfl rfl rfl (by decide)))
set_option maxHeartbeats 200000 in
theorem bX7_test_46 {S : pv_S} {x1 x2 x3 x4 : Int32} {a5 a6 a7 a8 : Option Value} : pv_R mX7_test 46 [some (.ref 37), some (.int x1), some (.int x2), some (.int x3), some (.int x4), a5, a6, a7, a8] [] (pv_em S) = some (some (.int (-9)), pv_em S) := Eq.trans (pv_Rbp dX7_test_46 kb_m9) (pv_Rret dX7_test_48 rfl)
set_option maxHeartbeats 200000 in
theorem bX7_test_49 {S : pv_S} {x1 x2 x3 x4 : Int32} {a5 a6 a7 a8 : Option Value} : pv_R mX7_test 49 [some (.ref 37), some (.int x1), some (.int x2), some (.int x3), some (.int x4), a5, a6, a7, a8] [] (pv_em S) = pv_R mX7_test 59 [some (.ref 37), some (.int x1), some (.int x2), some (.int x3), some (.int x4), some (.int 0), some (.int 1000000), some (.int 0), a8] [] (pv_em S) := Eq.trans (pv_Ric dX7_test_49 ki_0) (Eq.trans (pv_Rstp dX7_test_50 rfl rfl rfl) (Eq.trans (pv_Rstp dX7_test_52 rfl rfl rfl) (Eq.trans (pv_Rstp dX7_test_54 rfl rfl rfl) (Eq.trans (pv_Ric dX7_test_56 ki_0) (pv_Rstp dX7_test_57 rfl rfl rfl)))))
set_option maxHeartbeats 200000 in
theorem bX7_test_59 {S : pv_S} {x1 x2 x3 x4 x5 x6 x7 : Int32} {a8 : Option Value} : pv_R mX7_test 59 [some (.ref 37), some (.int x1), some (.int x2), some (.int x3), some (.int x4), some (.int x5), some (.int x6), some (.int x7), a8] [] (pv_em S) = if 41 ≤ x7 then pv_R mX7_test 122 [some (.ref 37), some (.int x1), some (.int x2), some (.int x3), some (.int x4), some (.int x5), some (.int x6), some (.int x7), a8] [] (pv_em S) else pv_R mX7_test 66 [some (.ref 37), some (.int x1), some (.int x2), some (.int x3), some (.int x4), some (.int x5), some (.int x6), some (.int x7), a8] [] (pv_em S) := Eq.trans (pv_Rstp dX7_test_59 rfl rfl rfl) (Eq.trans (pv_Rbp dX7_test_61 kb_41) (pv_Rbr (tgt := 122) dX7_test_63 rfl rfl rfl rfl rfl (by decide)))
set_option maxHeartbeats 200000 in
theorem bX7_test_66 {S : pv_S} {x1 x2 x3 x4 x5 x6 x7 : Int32} {a8 : Option Value} : pv_R mX7_test 66 [some (.ref 37), some (.int x1), some (.int x2), some (.int x3), some (.int x4), some (.int x5), some (.int x6), some (.int x7), a8] [] (pv_em S) = if (0 + x1) < 0 ∨ 10 ≤ (0 + x1).toNatClampNeg then none else pv_cc (pv_R mX7_alike 0 [some (.ref 37), some (.int x4), some (.int (S.1 44 (0 + x1).toNatClampNeg)), some (.int x7), none, none, none, none] [] (pv_em S)) mX7_test 82 [some (.ref 37), some (.int x1), some (.int x2), some (.int x3), some (.int x4), some (.int x5), some (.int x6), some (.int x7), a8] [] := Eq.trans (pv_Rstp dX7_test_66 rfl rfl rfl) (Eq.trans (pv_Rstp dX7_test_67 rfl rfl rfl) (Eq.trans (pv_Rstp dX7_test_69 rfl rfl rfl) (Eq.trans (pv_Rget dX7_test_70 ffX7_28 (by decide) (pv_ce_37 _ _) rfl) (Eq.trans (pv_Ric dX7_test_73 ki_0) (Eq.trans (pv_Rstp dX7_test_74 rfl rfl rfl) (Eq.trans (pv_Rstp dX7_test_75 rfl rfl rfl) (Eq.trans (pv_Rald dX7_test_76 (by decide) (pv_ce_44 _ _)) (pv_iteN (fun h1 => Eq.trans (pv_Rstp dX7_test_77 rfl rfl rfl) (pv_Rcall (As := [.ref 37, .int x4, .int (S.1 44 (0 + x1).toNatClampNeg), .int x7]) (rest := []) dX7_test_79 rfl mfX7_251 rfl rfl rfl rfl rfl))))))))))
set_option maxHeartbeats 200000 in
theorem bX7_test_82 {S : pv_S} {x1 x2 x3 x4 x5 x6 x7 u0 : Int32} {a8 : Option Value} : pv_R mX7_test 82 [some (.ref 37), some (.int x1), some (.int x2), some (.int x3), some (.int x4), some (.int x5), some (.int x6), some (.int x7), a8] [.int u0] (pv_em S) = if x6 ≤ u0 then pv_R mX7_test 96 [some (.ref 37), some (.int x1), some (.int x2), some (.int x3), some (.int x4), some (.int x5), some (.int x6), some (.int x7), some (.int u0)] [] (pv_em S) else pv_R mX7_test 91 [some (.ref 37), some (.int x1), some (.int x2), some (.int x3), some (.int x4), some (.int x5), some (.int x6), some (.int x7), some (.int u0)] [] (pv_em S) := Eq.trans (pv_Rstp dX7_test_82 rfl rfl rfl) (Eq.trans (pv_Rstp dX7_test_84 rfl rfl rfl) (Eq.trans (pv_Rstp dX7_test_86 rfl rfl rfl) (pv_Rbr (tgt := 96) dX7_test_88 rfl rfl rfl rfl rfl (by decide))))
set_option maxHeartbeats 200000 in
theorem bX7_test_91 {S : pv_S} {x1 x2 x3 x4 x5 x6 x7 x8 : Int32} : pv_R mX7_test 91 [some (.ref 37), some (.int x1), some (.int x2), some (.int x3), some (.int x4), some (.int x5), some (.int x6), some (.int x7), some (.int x8)] [] (pv_em S) = pv_R mX7_test 98 [some (.ref 37), some (.int x1), some (.int x2), some (.int x3), some (.int x4), some (.int x5), some (.int x6), some (.int x7), some (.int x8)] [.int x7] (pv_em S) := Eq.trans (pv_Rstp dX7_test_91 rfl rfl rfl) (pv_Rgo (tgt := 98) dX7_test_93 rfl (by decide))
set_option maxHeartbeats 200000 in
theorem bX7_test_96 {S : pv_S} {x1 x2 x3 x4 x5 x6 x7 x8 : Int32} : pv_R mX7_test 96 [some (.ref 37), some (.int x1), some (.int x2), some (.int x3), some (.int x4), some (.int x5), some (.int x6), some (.int x7), some (.int x8)] [] (pv_em S) = pv_R mX7_test 98 [some (.ref 37), some (.int x1), some (.int x2), some (.int x3), some (.int x4), some (.int x5), some (.int x6), some (.int x7), some (.int x8)] [.int x5] (pv_em S) := pv_Rstp dX7_test_96 rfl rfl rfl
set_option maxHeartbeats 200000 in
theorem bX7_test_98 {S : pv_S} {x1 x2 x3 x4 x5 x6 x7 x8 u0 : Int32} : pv_R mX7_test 98 [some (.ref 37), some (.int x1), some (.int x2), some (.int x3), some (.int x4), some (.int x5), some (.int x6), some (.int x7), some (.int x8)] [.int u0] (pv_em S) = if x6 ≤ x8 then pv_R mX7_test 112 [some (.ref 37), some (.int x1), some (.int x2), some (.int x3), some (.int x4), some (.int u0), some (.int x6), some (.int x7), some (.int x8)] [] (pv_em S) else pv_R mX7_test 107 [some (.ref 37), some (.int x1), some (.int x2), some (.int x3), some (.int x4), some (.int u0), some (.int x6), some (.int x7), some (.int x8)] [] (pv_em S) := Eq.trans (pv_Rstp dX7_test_98 rfl rfl rfl) (Eq.trans (pv_Rstp dX7_test_100 rfl rfl rfl) (Eq.trans (pv_Rstp dX7_test_102 rfl rfl rfl) (pv_Rbr (tgt := 112) dX7_test_104 rfl rfl rfl rfl rfl (by decide))))
set_option maxHeartbeats 200000 in
theorem bX7_test_107 {S : pv_S} {x1 x2 x3 x4 x5 x6 x7 x8 : Int32} : pv_R mX7_test 107 [some (.ref 37), some (.int x1), some (.int x2), some (.int x3), some (.int x4), some (.int x5), some (.int x6), some (.int x7), some (.int x8)] [] (pv_em S) = pv_R mX7_test 114 [some (.ref 37), some (.int x1), some (.int x2), some (.int x3), some (.int x4), some (.int x5), some (.int x6), some (.int x7), some (.int x8)] [.int x8] (pv_em S) := Eq.trans (pv_Rstp dX7_test_107 rfl rfl rfl) (pv_Rgo (tgt := 114) dX7_test_109 rfl (by decide))
set_option maxHeartbeats 200000 in
theorem bX7_test_112 {S : pv_S} {x1 x2 x3 x4 x5 x6 x7 x8 : Int32} : pv_R mX7_test 112 [some (.ref 37), some (.int x1), some (.int x2), some (.int x3), some (.int x4), some (.int x5), some (.int x6), some (.int x7), some (.int x8)] [] (pv_em S) = pv_R mX7_test 114 [some (.ref 37), some (.int x1), some (.int x2), some (.int x3), some (.int x4), some (.int x5), some (.int x6), some (.int x7), some (.int x8)] [.int x6] (pv_em S) := pv_Rstp dX7_test_112 rfl rfl rfl
set_option maxHeartbeats 200000 in
theorem bX7_test_114 {S : pv_S} {x1 x2 x3 x4 x5 x6 x7 x8 u0 : Int32} : pv_R mX7_test 114 [some (.ref 37), some (.int x1), some (.int x2), some (.int x3), some (.int x4), some (.int x5), some (.int x6), some (.int x7), some (.int x8)] [.int u0] (pv_em S) = pv_R mX7_test 59 [some (.ref 37), some (.int x1), some (.int x2), some (.int x3), some (.int x4), some (.int x5), some (.int u0), some (.int (x7 + 1)), some (.int x8)] [] (pv_em S) := Eq.trans (pv_Rstp dX7_test_114 rfl rfl rfl) (Eq.trans (pv_Rinc dX7_test_116 rfl (Nat.le_of_ble_eq_true rfl) ki_1 rfl) (pv_Rgo (tgt := 59) dX7_test_119 rfl (by decide)))
set_option maxHeartbeats 200000 in
theorem bX7_test_122 {S : pv_S} {x1 x2 x3 x4 x5 x6 x7 : Int32} {a8 : Option Value} : pv_R mX7_test 122 [some (.ref 37), some (.int x1), some (.int x2), some (.int x3), some (.int x4), some (.int x5), some (.int x6), some (.int x7), a8] [] (pv_em S) = pv_cc (pv_R mX7_answer 0 [some (.ref 37), some (.int x5), some (.int x6)] [] (pv_em S)) mX7_test 130 [some (.ref 37), some (.int x1), some (.int x2), some (.int x3), some (.int x4), some (.int x5), some (.int x6), some (.int x7), a8] [] := Eq.trans (pv_Rstp dX7_test_122 rfl rfl rfl) (Eq.trans (pv_Rstp dX7_test_123 rfl rfl rfl) (Eq.trans (pv_Rstp dX7_test_125 rfl rfl rfl) (pv_Rcall (As := [.ref 37, .int x5, .int x6]) (rest := []) dX7_test_127 rfl mfX7_206 rfl rfl rfl rfl rfl)))
set_option maxHeartbeats 200000 in
theorem bX7_test_130 {S : pv_S} {x1 x2 x3 x4 x5 x6 x7 u0 : Int32} {a8 : Option Value} : pv_R mX7_test 130 [some (.ref 37), some (.int x1), some (.int x2), some (.int x3), some (.int x4), some (.int x5), some (.int x6), some (.int x7), a8] [.int u0] (pv_em S) = some (some (.int u0), pv_em S) := pv_Rret dX7_test_130 rfl
theorem dX7_fright_0 : decode cX7_fright 0 = .ok (.iload_n 1, 1) := by decide +kernel
theorem dX7_fright_1 : decode cX7_fright 1 = .ok (.i2l, 1) := by decide +kernel
theorem dX7_fright_2 : decode cX7_fright 2 = .ok (.lconst 0, 1) := by decide +kernel
theorem dX7_fright_3 : decode cX7_fright 3 = .ok (.ldc2_w 199, 3) := by decide +kernel
theorem dX7_fright_6 : decode cX7_fright 6 = .ok (.invokestatic 75, 3) := by decide +kernel
theorem dX7_fright_9 : decode cX7_fright 9 = .ok (.ifCond .ne 5, 3) := by decide +kernel
theorem dX7_fright_12 : decode cX7_fright 12 = .ok (.iconst (-1), 1) := by decide +kernel
theorem dX7_fright_13 : decode cX7_fright 13 = .ok (.ireturn, 1) := by decide +kernel
theorem dX7_fright_14 : decode cX7_fright 14 = .ok (.aload_n 0, 1) := by decide +kernel
theorem dX7_fright_15 : decode cX7_fright 15 = .ok (.getfield 138, 3) := by decide +kernel
theorem dX7_fright_18 : decode cX7_fright 18 = .ok (.ifCond .ne 6, 3) := by decide +kernel
theorem dX7_fright_21 : decode cX7_fright 21 = .ok (.bipush (-4), 2) := by decide +kernel
theorem dX7_fright_23 : decode cX7_fright 23 = .ok (.ireturn, 1) := by decide +kernel
theorem dX7_fright_24 : decode cX7_fright 24 = .ok (.aload_n 0, 1) := by decide +kernel
theorem dX7_fright_25 : decode cX7_fright 25 = .ok (.getfield 28, 3) := by decide +kernel
theorem dX7_fright_28 : decode cX7_fright 28 = .ok (.bipush 9, 2) := by decide +kernel
theorem dX7_fright_30 : decode cX7_fright 30 = .ok (.iaload, 1) := by decide +kernel
theorem dX7_fright_31 : decode cX7_fright 31 = .ok (.istore_n 2, 1) := by decide +kernel
theorem dX7_fright_32 : decode cX7_fright 32 = .ok (.iload_n 1, 1) := by decide +kernel
theorem dX7_fright_33 : decode cX7_fright 33 = .ok (.ifCond .ne 9, 3) := by decide +kernel
theorem dX7_fright_36 : decode cX7_fright 36 = .ok (.aload_n 0, 1) := by decide +kernel
theorem dX7_fright_37 : decode cX7_fright 37 = .ok (.iconst 1, 1) := by decide +kernel
theorem dX7_fright_38 : decode cX7_fright 38 = .ok (.invokevirtual 211, 3) := by decide +kernel
theorem dX7_fright_41 : decode cX7_fright 41 = .ok (.ireturn, 1) := by decide +kernel
theorem dX7_fright_42 : decode cX7_fright 42 = .ok (.aload_n 0, 1) := by decide +kernel
theorem dX7_fright_43 : decode cX7_fright 43 = .ok (.getfield 28, 3) := by decide +kernel
theorem dX7_fright_46 : decode cX7_fright 46 = .ok (.iconst 0, 1) := by decide +kernel
theorem dX7_fright_47 : decode cX7_fright 47 = .ok (.aload_n 0, 1) := by decide +kernel
theorem dX7_fright_48 : decode cX7_fright 48 = .ok (.getfield 57, 3) := by decide +kernel
theorem dX7_fright_51 : decode cX7_fright 51 = .ok (.iconst 0, 1) := by decide +kernel
theorem dX7_fright_52 : decode cX7_fright 52 = .ok (.bipush 6, 2) := by decide +kernel
theorem dX7_fright_54 : decode cX7_fright 54 = .ok (.invokestatic 179, 3) := by decide +kernel
theorem dX7_fright_57 : decode cX7_fright 57 = .ok (.aload_n 0, 1) := by decide +kernel
theorem dX7_fright_58 : decode cX7_fright 58 = .ok (.iconst 0, 1) := by decide +kernel
theorem dX7_fright_59 : decode cX7_fright 59 = .ok (.invokevirtual 254, 3) := by decide +kernel
theorem dX7_fright_62 : decode cX7_fright 62 = .ok (.iconst 0, 1) := by decide +kernel
theorem dX7_fright_63 : decode cX7_fright 63 = .ok (.istore_n 3, 1) := by decide +kernel
theorem dX7_fright_64 : decode cX7_fright 64 = .ok (.iload_n 3, 1) := by decide +kernel
theorem dX7_fright_65 : decode cX7_fright 65 = .ok (.ifCond .lt 107, 3) := by decide +kernel
theorem dX7_fright_68 : decode cX7_fright 68 = .ok (.aload_n 0, 1) := by decide +kernel
theorem dX7_fright_69 : decode cX7_fright 69 = .ok (.getfield 60, 3) := by decide +kernel
theorem dX7_fright_72 : decode cX7_fright 72 = .ok (.iload_n 3, 1) := by decide +kernel
theorem dX7_fright_73 : decode cX7_fright 73 = .ok (.dup2, 1) := by decide +kernel
theorem dX7_fright_74 : decode cX7_fright 74 = .ok (.iaload, 1) := by decide +kernel
theorem dX7_fright_75 : decode cX7_fright 75 = .ok (.iconst 1, 1) := by decide +kernel
theorem dX7_fright_76 : decode cX7_fright 76 = .ok (.iadd, 1) := by decide +kernel
theorem dX7_fright_77 : decode cX7_fright 77 = .ok (.iastore, 1) := by decide +kernel
theorem dX7_fright_78 : decode cX7_fright 78 = .ok (.aload_n 0, 1) := by decide +kernel
theorem dX7_fright_79 : decode cX7_fright 79 = .ok (.getfield 60, 3) := by decide +kernel
theorem dX7_fright_82 : decode cX7_fright 82 = .ok (.iload_n 3, 1) := by decide +kernel
theorem dX7_fright_83 : decode cX7_fright 83 = .ok (.iaload, 1) := by decide +kernel
theorem dX7_fright_84 : decode cX7_fright 84 = .ok (.aload_n 0, 1) := by decide +kernel
theorem dX7_fright_85 : decode cX7_fright 85 = .ok (.getfield 138, 3) := by decide +kernel
theorem dX7_fright_88 : decode cX7_fright 88 = .ok (.if_icmp .le 26, 3) := by decide +kernel
theorem dX7_fright_91 : decode cX7_fright 91 = .ok (.iinc 3 (-1), 3) := by decide +kernel
theorem dX7_fright_94 : decode cX7_fright 94 = .ok (.iload_n 3, 1) := by decide +kernel
theorem dX7_fright_95 : decode cX7_fright 95 = .ok (.ifCond .lt (-31), 3) := by decide +kernel
theorem dX7_fright_98 : decode cX7_fright 98 = .ok (.aload_n 0, 1) := by decide +kernel
theorem dX7_fright_99 : decode cX7_fright 99 = .ok (.iload_n 3, 1) := by decide +kernel
theorem dX7_fright_100 : decode cX7_fright 100 = .ok (.aload_n 0, 1) := by decide +kernel
theorem dX7_fright_101 : decode cX7_fright 101 = .ok (.getfield 63, 3) := by decide +kernel
theorem dX7_fright_104 : decode cX7_fright 104 = .ok (.iload_n 3, 1) := by decide +kernel
theorem dX7_fright_105 : decode cX7_fright 105 = .ok (.iconst 1, 1) := by decide +kernel
theorem dX7_fright_106 : decode cX7_fright 106 = .ok (.iadd, 1) := by decide +kernel
theorem dX7_fright_107 : decode cX7_fright 107 = .ok (.iaload, 1) := by decide +kernel
theorem dX7_fright_108 : decode cX7_fright 108 = .ok (.invokevirtual 257, 3) := by decide +kernel
theorem dX7_fright_111 : decode cX7_fright 111 = .ok (.goto (-47), 3) := by decide +kernel
theorem dX7_fright_114 : decode cX7_fright 114 = .ok (.aload_n 0, 1) := by decide +kernel
theorem dX7_fright_115 : decode cX7_fright 115 = .ok (.iload_n 3, 1) := by decide +kernel
theorem dX7_fright_116 : decode cX7_fright 116 = .ok (.invokevirtual 261, 3) := by decide +kernel
theorem dX7_fright_119 : decode cX7_fright 119 = .ok (.iload_n 3, 1) := by decide +kernel
theorem dX7_fright_120 : decode cX7_fright 120 = .ok (.iconst 1, 1) := by decide +kernel
theorem dX7_fright_121 : decode cX7_fright 121 = .ok (.iadd, 1) := by decide +kernel
theorem dX7_fright_122 : decode cX7_fright 122 = .ok (.iconst 2, 1) := by decide +kernel
theorem dX7_fright_123 : decode cX7_fright 123 = .ok (.iload_n 1, 1) := by decide +kernel
theorem dX7_fright_124 : decode cX7_fright 124 = .ok (.imul, 1) := by decide +kernel
theorem dX7_fright_125 : decode cX7_fright 125 = .ok (.if_icmp .ne 36, 3) := by decide +kernel
theorem dX7_fright_128 : decode cX7_fright 128 = .ok (.aload_n 0, 1) := by decide +kernel
theorem dX7_fright_129 : decode cX7_fright 129 = .ok (.iload_n 3, 1) := by decide +kernel
theorem dX7_fright_130 : decode cX7_fright 130 = .ok (.aload_n 0, 1) := by decide +kernel
theorem dX7_fright_131 : decode cX7_fright 131 = .ok (.aload_n 0, 1) := by decide +kernel
theorem dX7_fright_132 : decode cX7_fright 132 = .ok (.getfield 22, 3) := by decide +kernel
theorem dX7_fright_135 : decode cX7_fright 135 = .ok (.iload_n 2, 1) := by decide +kernel
theorem dX7_fright_136 : decode cX7_fright 136 = .ok (.iaload, 1) := by decide +kernel
theorem dX7_fright_137 : decode cX7_fright 137 = .ok (.aload_n 0, 1) := by decide +kernel
theorem dX7_fright_138 : decode cX7_fright 138 = .ok (.getfield 57, 3) := by decide +kernel
theorem dX7_fright_141 : decode cX7_fright 141 = .ok (.bipush 6, 2) := by decide +kernel
theorem dX7_fright_143 : decode cX7_fright 143 = .ok (.iload_n 3, 1) := by decide +kernel
theorem dX7_fright_144 : decode cX7_fright 144 = .ok (.imul, 1) := by decide +kernel
theorem dX7_fright_145 : decode cX7_fright 145 = .ok (.bipush 6, 2) := by decide +kernel
theorem dX7_fright_147 : decode cX7_fright 147 = .ok (.iadd, 1) := by decide +kernel
theorem dX7_fright_148 : decode cX7_fright 148 = .ok (.iload_n 2, 1) := by decide +kernel
theorem dX7_fright_149 : decode cX7_fright 149 = .ok (.iadd, 1) := by decide +kernel
theorem dX7_fright_150 : decode cX7_fright 150 = .ok (.iaload, 1) := by decide +kernel
theorem dX7_fright_151 : decode cX7_fright 151 = .ok (.iconst 1, 1) := by decide +kernel
theorem dX7_fright_152 : decode cX7_fright 152 = .ok (.invokevirtual 154, 3) := by decide +kernel
theorem dX7_fright_155 : decode cX7_fright 155 = .ok (.invokevirtual 257, 3) := by decide +kernel
theorem dX7_fright_158 : decode cX7_fright 158 = .ok (.goto (-94), 3) := by decide +kernel
theorem dX7_fright_161 : decode cX7_fright 161 = .ok (.iinc 3 1, 3) := by decide +kernel
theorem dX7_fright_164 : decode cX7_fright 164 = .ok (.aload_n 0, 1) := by decide +kernel
theorem dX7_fright_165 : decode cX7_fright 165 = .ok (.iload_n 3, 1) := by decide +kernel
theorem dX7_fright_166 : decode cX7_fright 166 = .ok (.invokevirtual 254, 3) := by decide +kernel
theorem dX7_fright_169 : decode cX7_fright 169 = .ok (.goto (-105), 3) := by decide +kernel
theorem dX7_fright_172 : decode cX7_fright 172 = .ok (.aload_n 0, 1) := by decide +kernel
theorem dX7_fright_173 : decode cX7_fright 173 = .ok (.getfield 63, 3) := by decide +kernel
theorem dX7_fright_176 : decode cX7_fright 176 = .ok (.iconst 0, 1) := by decide +kernel
theorem dX7_fright_177 : decode cX7_fright 177 = .ok (.iaload, 1) := by decide +kernel
theorem dX7_fright_178 : decode cX7_fright 178 = .ok (.ireturn, 1) := by decide +kernel
set_option maxHeartbeats 200000 in
theorem bX7_fright_0 {S : pv_S} {x1 : Int32} {a2 a3 : Option Value} : pv_R mX7_fright 0 [some (.ref 37), some (.int x1), a2, a3] [] (pv_em S) = pv_cc (pv_R mX7_in 0 [some (.long (Int32.toInt64 x1)), none, some (.long 0), none, some (.long 2), none] [] (pv_em S)) mX7_fright 9 [some (.ref 37), some (.int x1), a2, a3] [] := Eq.trans (pv_Rstp dX7_fright_0 rfl rfl rfl) (Eq.trans (pv_Rstp dX7_fright_1 rfl rfl rfl) (Eq.trans (pv_Rlc dX7_fright_2 kl_0) (Eq.trans (pv_Rstp dX7_fright_3 rfl rfl rfl) (pv_Rcall (As := [.long (Int32.toInt64 x1), .long 0, .long 2]) (rest := []) dX7_fright_6 rfl mfX7_75 rfl rfl rfl rfl rfl))))
set_option maxHeartbeats 200000 in
theorem bX7_fright_9 {S : pv_S} {x1 u0 : Int32} {a2 a3 : Option Value} : pv_R mX7_fright 9 [some (.ref 37), some (.int x1), a2, a3] [.int u0] (pv_em S) = if ¬ u0 = 0 then pv_R mX7_fright 14 [some (.ref 37), some (.int x1), a2, a3] [] (pv_em S) else pv_R mX7_fright 12 [some (.ref 37), some (.int x1), a2, a3] [] (pv_em S) := pv_Rbr (tgt := 14) dX7_fright_9 rfl rfl rfl rfl rfl (by decide)
set_option maxHeartbeats 200000 in
theorem bX7_fright_12 {S : pv_S} {x1 : Int32} {a2 a3 : Option Value} : pv_R mX7_fright 12 [some (.ref 37), some (.int x1), a2, a3] [] (pv_em S) = some (some (.int (-1)), pv_em S) := Eq.trans (pv_Ric dX7_fright_12 ki_m1) (pv_Rret dX7_fright_13 rfl)
set_option maxHeartbeats 200000 in
theorem bX7_fright_14 {S : pv_S} {x1 : Int32} {a2 a3 : Option Value} : pv_R mX7_fright 14 [some (.ref 37), some (.int x1), a2, a3] [] (pv_em S) = if ¬ (S.1 37 4) = 0 then pv_R mX7_fright 24 [some (.ref 37), some (.int x1), a2, a3] [] (pv_em S) else pv_R mX7_fright 21 [some (.ref 37), some (.int x1), a2, a3] [] (pv_em S) := Eq.trans (pv_Rstp dX7_fright_14 rfl rfl rfl) (Eq.trans (pv_Rget dX7_fright_15 ffX7_138 (by decide) (pv_ce_37 _ _) rfl) (pv_Rbr (tgt := 24) dX7_fright_18 rfl rfl rfl rfl rfl (by decide)))
set_option maxHeartbeats 200000 in
theorem bX7_fright_21 {S : pv_S} {x1 : Int32} {a2 a3 : Option Value} : pv_R mX7_fright 21 [some (.ref 37), some (.int x1), a2, a3] [] (pv_em S) = some (some (.int (-4)), pv_em S) := Eq.trans (pv_Rbp dX7_fright_21 kb_m4) (pv_Rret dX7_fright_23 rfl)
set_option maxHeartbeats 200000 in
theorem bX7_fright_24 {S : pv_S} {x1 : Int32} {a2 a3 : Option Value} : pv_R mX7_fright 24 [some (.ref 37), some (.int x1), a2, a3] [] (pv_em S) = if ¬ x1 = 0 then pv_R mX7_fright 42 [some (.ref 37), some (.int x1), some (.int (S.1 44 (9 : Int32).toNatClampNeg)), a3] [] (pv_em S) else pv_R mX7_fright 36 [some (.ref 37), some (.int x1), some (.int (S.1 44 (9 : Int32).toNatClampNeg)), a3] [] (pv_em S) := Eq.trans (pv_Rstp dX7_fright_24 rfl rfl rfl) (Eq.trans (pv_Rget dX7_fright_25 ffX7_28 (by decide) (pv_ce_37 _ _) rfl) (Eq.trans (pv_Rbp dX7_fright_28 kb_9) (Eq.trans (pv_Rald dX7_fright_30 (by decide) (pv_ce_44 _ _)) (Eq.trans (if_neg (by decide +kernel)) (Eq.trans (pv_Rstp dX7_fright_31 rfl rfl rfl) (Eq.trans (pv_Rstp dX7_fright_32 rfl rfl rfl) (pv_Rbr (tgt := 42) dX7_fright_33 rfl rfl rfl rfl rfl (by decide))))))))
set_option maxHeartbeats 200000 in
theorem bX7_fright_36 {S : pv_S} {x1 x2 : Int32} {a3 : Option Value} : pv_R mX7_fright 36 [some (.ref 37), some (.int x1), some (.int x2), a3] [] (pv_em S) = pv_cc (pv_R mX7_poundIn 0 [some (.ref 37), some (.int 1)] [] (pv_em S)) mX7_fright 41 [some (.ref 37), some (.int x1), some (.int x2), a3] [] := Eq.trans (pv_Rstp dX7_fright_36 rfl rfl rfl) (Eq.trans (pv_Ric dX7_fright_37 ki_1) (pv_Rcall (As := [.ref 37, .int 1]) (rest := []) dX7_fright_38 rfl mfX7_211 rfl rfl rfl rfl rfl))
set_option maxHeartbeats 200000 in
theorem bX7_fright_41 {S : pv_S} {x1 x2 u0 : Int32} {a3 : Option Value} : pv_R mX7_fright 41 [some (.ref 37), some (.int x1), some (.int x2), a3] [.int u0] (pv_em S) = some (some (.int u0), pv_em S) := pv_Rret dX7_fright_41 rfl
set_option maxHeartbeats 200000 in
theorem bX7_fright_42 {S : pv_S} {x1 x2 : Int32} {a3 : Option Value} : pv_R mX7_fright 42 [some (.ref 37), some (.int x1), some (.int x2), a3] [] (pv_em S) = pv_cc (pv_R mX7_copies 0 [some (.ref 44), some (.int 0), some (.ref 52), some (.int 0), some (.int 6), none] [] (pv_em S)) mX7_fright 57 [some (.ref 37), some (.int x1), some (.int x2), a3] [] := Eq.trans (pv_Rstp dX7_fright_42 rfl rfl rfl) (Eq.trans (pv_Rget dX7_fright_43 ffX7_28 (by decide) (pv_ce_37 _ _) rfl) (Eq.trans (pv_Ric dX7_fright_46 ki_0) (Eq.trans (pv_Rstp dX7_fright_47 rfl rfl rfl) (Eq.trans (pv_Rget dX7_fright_48 ffX7_57 (by decide) (pv_ce_37 _ _) rfl) (Eq.trans (pv_Ric dX7_fright_51 ki_0) (Eq.trans (pv_Rbp dX7_fright_52 kb_6) (pv_Rcall (As := [.ref 44, .int 0, .ref 52, .int 0, .int 6]) (rest := []) dX7_fright_54 rfl mfX7_179 rfl rfl rfl rfl rfl)))))))
set_option maxHeartbeats 200000 in
theorem bX7_fright_57 {S : pv_S} {x1 x2 : Int32} {a3 : Option Value} : pv_R mX7_fright 57 [some (.ref 37), some (.int x1), some (.int x2), a3] [] (pv_em S) = pv_cc (pv_R mX7_beginsStep 0 [some (.ref 37), some (.int 0)] [] (pv_em S)) mX7_fright 62 [some (.ref 37), some (.int x1), some (.int x2), a3] [] := Eq.trans (pv_Rstp dX7_fright_57 rfl rfl rfl) (Eq.trans (pv_Ric dX7_fright_58 ki_0) (pv_Rcall (As := [.ref 37, .int 0]) (rest := []) dX7_fright_59 rfl mfX7_254 rfl rfl rfl rfl rfl))
set_option maxHeartbeats 200000 in
theorem bX7_fright_62 {S : pv_S} {x1 x2 : Int32} {a3 : Option Value} : pv_R mX7_fright 62 [some (.ref 37), some (.int x1), some (.int x2), a3] [] (pv_em S) = pv_R mX7_fright 64 [some (.ref 37), some (.int x1), some (.int x2), some (.int 0)] [] (pv_em S) := Eq.trans (pv_Ric dX7_fright_62 ki_0) (pv_Rstp dX7_fright_63 rfl rfl rfl)
set_option maxHeartbeats 200000 in
theorem bX7_fright_64 {S : pv_S} {x1 x2 x3 : Int32} : pv_R mX7_fright 64 [some (.ref 37), some (.int x1), some (.int x2), some (.int x3)] [] (pv_em S) = if x3 < 0 then pv_R mX7_fright 172 [some (.ref 37), some (.int x1), some (.int x2), some (.int x3)] [] (pv_em S) else pv_R mX7_fright 68 [some (.ref 37), some (.int x1), some (.int x2), some (.int x3)] [] (pv_em S) := Eq.trans (pv_Rstp dX7_fright_64 rfl rfl rfl) (pv_Rbr (tgt := 172) dX7_fright_65 rfl rfl rfl rfl rfl (by decide))
set_option maxHeartbeats 200000 in
theorem bX7_fright_68 {S : pv_S} {x1 x2 x3 : Int32} : pv_R mX7_fright 68 [some (.ref 37), some (.int x1), some (.int x2), some (.int x3)] [] (pv_em S) = if x3 < 0 ∨ 5 ≤ x3.toNatClampNeg then none else if x3 < 0 ∨ 5 ≤ x3.toNatClampNeg then none else if x3 < 0 ∨ 5 ≤ x3.toNatClampNeg then none else if ((pv_si S 53 x3.toNatClampNeg ((S.1 53 x3.toNatClampNeg) + 1)).1 53 x3.toNatClampNeg) ≤ ((pv_si S 53 x3.toNatClampNeg ((S.1 53 x3.toNatClampNeg) + 1)).1 37 4) then pv_R mX7_fright 114 [some (.ref 37), some (.int x1), some (.int x2), some (.int x3)] [] (pv_em (pv_si S 53 x3.toNatClampNeg ((S.1 53 x3.toNatClampNeg) + 1))) else pv_R mX7_fright 91 [some (.ref 37), some (.int x1), some (.int x2), some (.int x3)] [] (pv_em (pv_si S 53 x3.toNatClampNeg ((S.1 53 x3.toNatClampNeg) + 1))) := Eq.trans (pv_Rstp dX7_fright_68 rfl rfl rfl) (Eq.trans (pv_Rget dX7_fright_69 ffX7_60 (by decide) (pv_ce_37 _ _) rfl) (Eq.trans (pv_Rstp dX7_fright_72 rfl rfl rfl) (Eq.trans (pv_Rstp dX7_fright_73 rfl rfl rfl) (Eq.trans (pv_Rald dX7_fright_74 (by decide) (pv_ce_53 _ _)) (pv_iteN (fun h1 => Eq.trans (pv_Ric dX7_fright_75 ki_1) (Eq.trans (pv_Rstp dX7_fright_76 rfl rfl rfl) (Eq.trans (pv_Rast dX7_fright_77 (by decide) (pv_ce_53 _ _) (pv_em_si rfl)) (pv_iteN (fun h2 => Eq.trans (pv_Rstp dX7_fright_78 rfl rfl rfl) (Eq.trans (pv_Rget dX7_fright_79 ffX7_60 (by decide) (pv_ce_37 _ _) rfl) (Eq.trans (pv_Rstp dX7_fright_82 rfl rfl rfl) (Eq.trans (pv_Rald dX7_fright_83 (by decide) (pv_ce_53 _ _)) (pv_iteN (fun h3 => Eq.trans (pv_Rstp dX7_fright_84 rfl rfl rfl) (Eq.trans (pv_Rget dX7_fright_85 ffX7_138 (by decide) (pv_ce_37 _ _) rfl) (pv_Rbr (tgt := 114) dX7_fright_88 rfl rfl rfl rfl rfl (by decide))))))))))))))))))
set_option maxHeartbeats 200000 in
theorem bX7_fright_91 {S : pv_S} {x1 x2 x3 : Int32} : pv_R mX7_fright 91 [some (.ref 37), some (.int x1), some (.int x2), some (.int x3)] [] (pv_em S) = if (x3 + (-1)) < 0 then pv_R mX7_fright 64 [some (.ref 37), some (.int x1), some (.int x2), some (.int (x3 + (-1)))] [] (pv_em S) else pv_R mX7_fright 98 [some (.ref 37), some (.int x1), some (.int x2), some (.int (x3 + (-1)))] [] (pv_em S) := Eq.trans (pv_Rinc dX7_fright_91 rfl (Nat.le_of_ble_eq_true rfl) ki_m1 rfl) (Eq.trans (pv_Rstp dX7_fright_94 rfl rfl rfl) (pv_Rbr (tgt := 64) dX7_fright_95 rfl rfl rfl rfl rfl (by decide)))
set_option maxHeartbeats 200000 in
theorem bX7_fright_98 {S : pv_S} {x1 x2 x3 : Int32} : pv_R mX7_fright 98 [some (.ref 37), some (.int x1), some (.int x2), some (.int x3)] [] (pv_em S) = if (x3 + 1) < 0 ∨ 5 ≤ (x3 + 1).toNatClampNeg then none else pv_cc (pv_R mX7_weighsIt 0 [some (.ref 37), some (.int x3), some (.int (S.1 54 (x3 + 1).toNatClampNeg)), none] [] (pv_em S)) mX7_fright 111 [some (.ref 37), some (.int x1), some (.int x2), some (.int x3)] [] := Eq.trans (pv_Rstp dX7_fright_98 rfl rfl rfl) (Eq.trans (pv_Rstp dX7_fright_99 rfl rfl rfl) (Eq.trans (pv_Rstp dX7_fright_100 rfl rfl rfl) (Eq.trans (pv_Rget dX7_fright_101 ffX7_63 (by decide) (pv_ce_37 _ _) rfl) (Eq.trans (pv_Rstp dX7_fright_104 rfl rfl rfl) (Eq.trans (pv_Ric dX7_fright_105 ki_1) (Eq.trans (pv_Rstp dX7_fright_106 rfl rfl rfl) (Eq.trans (pv_Rald dX7_fright_107 (by decide) (pv_ce_54 _ _)) (pv_iteN (fun h1 => pv_Rcall (As := [.ref 37, .int x3, .int (S.1 54 (x3 + 1).toNatClampNeg)]) (rest := []) dX7_fright_108 rfl mfX7_257 rfl rfl rfl rfl rfl)))))))))
set_option maxHeartbeats 200000 in
theorem bX7_fright_111 {S : pv_S} {x1 x2 x3 : Int32} : pv_R mX7_fright 111 [some (.ref 37), some (.int x1), some (.int x2), some (.int x3)] [] (pv_em S) = pv_R mX7_fright 64 [some (.ref 37), some (.int x1), some (.int x2), some (.int x3)] [] (pv_em S) := pv_Rgo (tgt := 64) dX7_fright_111 rfl (by decide)
set_option maxHeartbeats 200000 in
theorem bX7_fright_114 {S : pv_S} {x1 x2 x3 : Int32} : pv_R mX7_fright 114 [some (.ref 37), some (.int x1), some (.int x2), some (.int x3)] [] (pv_em S) = pv_cc (pv_R mX7_goesOn 0 [some (.ref 37), some (.int x3), none, none] [] (pv_em S)) mX7_fright 119 [some (.ref 37), some (.int x1), some (.int x2), some (.int x3)] [] := Eq.trans (pv_Rstp dX7_fright_114 rfl rfl rfl) (Eq.trans (pv_Rstp dX7_fright_115 rfl rfl rfl) (pv_Rcall (As := [.ref 37, .int x3]) (rest := []) dX7_fright_116 rfl mfX7_261 rfl rfl rfl rfl rfl))
set_option maxHeartbeats 200000 in
theorem bX7_fright_119 {S : pv_S} {x1 x2 x3 : Int32} : pv_R mX7_fright 119 [some (.ref 37), some (.int x1), some (.int x2), some (.int x3)] [] (pv_em S) = if ¬ (x3 + 1) = (2 * x1) then pv_R mX7_fright 161 [some (.ref 37), some (.int x1), some (.int x2), some (.int x3)] [] (pv_em S) else pv_R mX7_fright 128 [some (.ref 37), some (.int x1), some (.int x2), some (.int x3)] [] (pv_em S) := Eq.trans (pv_Rstp dX7_fright_119 rfl rfl rfl) (Eq.trans (pv_Ric dX7_fright_120 ki_1) (Eq.trans (pv_Rstp dX7_fright_121 rfl rfl rfl) (Eq.trans (pv_Ric dX7_fright_122 ki_2) (Eq.trans (pv_Rstp dX7_fright_123 rfl rfl rfl) (Eq.trans (pv_Rstp dX7_fright_124 rfl rfl rfl) (pv_Rbr (tgt := 161) dX7_fright_125 rfl rfl rfl rfl rfl (by decide)))))))
set_option maxHeartbeats 200000 in
theorem bX7_fright_128 {S : pv_S} {x1 x2 x3 : Int32} : pv_R mX7_fright 128 [some (.ref 37), some (.int x1), some (.int x2), some (.int x3)] [] (pv_em S) = if x2 < 0 ∨ 6 ≤ x2.toNatClampNeg then none else if (((6 * x3) + 6) + x2) < 0 ∨ 30 ≤ ((((6 * x3) + 6) + x2)).toNatClampNeg then none else pv_cc (pv_R mX7_after 0 [some (.ref 37), some (.int (S.1 42 x2.toNatClampNeg)), some (.int (S.1 52 ((((6 * x3) + 6) + x2)).toNatClampNeg)), some (.int 1), none, none] [] (pv_em S)) mX7_fright 155 [some (.ref 37), some (.int x1), some (.int x2), some (.int x3)] [.int x3, .ref 37] := Eq.trans (pv_Rstp dX7_fright_128 rfl rfl rfl) (Eq.trans (pv_Rstp dX7_fright_129 rfl rfl rfl) (Eq.trans (pv_Rstp dX7_fright_130 rfl rfl rfl) (Eq.trans (pv_Rstp dX7_fright_131 rfl rfl rfl) (Eq.trans (pv_Rget dX7_fright_132 ffX7_22 (by decide) (pv_ce_37 _ _) rfl) (Eq.trans (pv_Rstp dX7_fright_135 rfl rfl rfl) (Eq.trans (pv_Rald dX7_fright_136 (by decide) (pv_ce_42 _ _)) (pv_iteN (fun h1 => Eq.trans (pv_Rstp dX7_fright_137 rfl rfl rfl) (Eq.trans (pv_Rget dX7_fright_138 ffX7_57 (by decide) (pv_ce_37 _ _) rfl) (Eq.trans (pv_Rbp dX7_fright_141 kb_6) (Eq.trans (pv_Rstp dX7_fright_143 rfl rfl rfl) (Eq.trans (pv_Rstp dX7_fright_144 rfl rfl rfl) (Eq.trans (pv_Rbp dX7_fright_145 kb_6) (Eq.trans (pv_Rstp dX7_fright_147 rfl rfl rfl) (Eq.trans (pv_Rstp dX7_fright_148 rfl rfl rfl) (Eq.trans (pv_Rstp dX7_fright_149 rfl rfl rfl) (Eq.trans (pv_Rald dX7_fright_150 (by decide) (pv_ce_52 _ _)) (pv_iteN (fun h2 => Eq.trans (pv_Ric dX7_fright_151 ki_1) (pv_Rcall (As := [.ref 37, .int (S.1 42 x2.toNatClampNeg), .int (S.1 52 ((((6 * x3) + 6) + x2)).toNatClampNeg), .int 1]) (rest := [.int x3, .ref 37]) dX7_fright_152 rfl mfX7_154 rfl rfl rfl rfl rfl))))))))))))))))))))
set_option maxHeartbeats 200000 in
theorem bX7_fright_155 {S : pv_S} {x1 x2 x3 u0 u1 : Int32} : pv_R mX7_fright 155 [some (.ref 37), some (.int x1), some (.int x2), some (.int x3)] [.int u0, .int u1, .ref 37] (pv_em S) = pv_cc (pv_R mX7_weighsIt 0 [some (.ref 37), some (.int u1), some (.int u0), none] [] (pv_em S)) mX7_fright 158 [some (.ref 37), some (.int x1), some (.int x2), some (.int x3)] [] := pv_Rcall (As := [.ref 37, .int u1, .int u0]) (rest := []) dX7_fright_155 rfl mfX7_257 rfl rfl rfl rfl rfl
set_option maxHeartbeats 200000 in
theorem bX7_fright_158 {S : pv_S} {x1 x2 x3 : Int32} : pv_R mX7_fright 158 [some (.ref 37), some (.int x1), some (.int x2), some (.int x3)] [] (pv_em S) = pv_R mX7_fright 64 [some (.ref 37), some (.int x1), some (.int x2), some (.int x3)] [] (pv_em S) := pv_Rgo (tgt := 64) dX7_fright_158 rfl (by decide)
set_option maxHeartbeats 200000 in
theorem bX7_fright_161 {S : pv_S} {x1 x2 x3 : Int32} : pv_R mX7_fright 161 [some (.ref 37), some (.int x1), some (.int x2), some (.int x3)] [] (pv_em S) = pv_cc (pv_R mX7_beginsStep 0 [some (.ref 37), some (.int (x3 + 1))] [] (pv_em S)) mX7_fright 169 [some (.ref 37), some (.int x1), some (.int x2), some (.int (x3 + 1))] [] := Eq.trans (pv_Rinc dX7_fright_161 rfl (Nat.le_of_ble_eq_true rfl) ki_1 rfl) (Eq.trans (pv_Rstp dX7_fright_164 rfl rfl rfl) (Eq.trans (pv_Rstp dX7_fright_165 rfl rfl rfl) (pv_Rcall (As := [.ref 37, .int (x3 + 1)]) (rest := []) dX7_fright_166 rfl mfX7_254 rfl rfl rfl rfl rfl)))
set_option maxHeartbeats 200000 in
theorem bX7_fright_169 {S : pv_S} {x1 x2 x3 : Int32} : pv_R mX7_fright 169 [some (.ref 37), some (.int x1), some (.int x2), some (.int x3)] [] (pv_em S) = pv_R mX7_fright 64 [some (.ref 37), some (.int x1), some (.int x2), some (.int x3)] [] (pv_em S) := pv_Rgo (tgt := 64) dX7_fright_169 rfl (by decide)
set_option maxHeartbeats 200000 in
theorem bX7_fright_172 {S : pv_S} {x1 x2 x3 : Int32} : pv_R mX7_fright 172 [some (.ref 37), some (.int x1), some (.int x2), some (.int x3)] [] (pv_em S) = some (some (.int (S.1 54 (0 : Int32).toNatClampNeg)), pv_em S) := Eq.trans (pv_Rstp dX7_fright_172 rfl rfl rfl) (Eq.trans (pv_Rget dX7_fright_173 ffX7_63 (by decide) (pv_ce_37 _ _) rfl) (Eq.trans (pv_Ric dX7_fright_176 ki_0) (Eq.trans (pv_Rald dX7_fright_177 (by decide) (pv_ce_54 _ _)) (Eq.trans (if_neg (by decide +kernel)) (pv_Rret dX7_fright_178 rfl)))))
theorem dX7_odds_0 : decode cX7_odds 0 = .ok (.aload_n 0, 1) := by decide +kernel
theorem dX7_odds_1 : decode cX7_odds 1 = .ok (.iload_n 1, 1) := by decide +kernel
theorem dX7_odds_2 : decode cX7_odds 2 = .ok (.invokevirtual 165, 3) := by decide +kernel
theorem dX7_odds_5 : decode cX7_odds 5 = .ok (.ifCond .eq 52, 3) := by decide +kernel
theorem dX7_odds_8 : decode cX7_odds 8 = .ok (.iload_n 2, 1) := by decide +kernel
theorem dX7_odds_9 : decode cX7_odds 9 = .ok (.i2l, 1) := by decide +kernel
theorem dX7_odds_10 : decode cX7_odds 10 = .ok (.lconst 0, 1) := by decide +kernel
theorem dX7_odds_11 : decode cX7_odds 11 = .ok (.ldc2_w 203, 3) := by decide +kernel
theorem dX7_odds_14 : decode cX7_odds 14 = .ok (.invokestatic 75, 3) := by decide +kernel
theorem dX7_odds_17 : decode cX7_odds 17 = .ok (.ifCond .eq 40, 3) := by decide +kernel
theorem dX7_odds_20 : decode cX7_odds 20 = .ok (.iload_n 3, 1) := by decide +kernel
theorem dX7_odds_21 : decode cX7_odds 21 = .ok (.i2l, 1) := by decide +kernel
theorem dX7_odds_22 : decode cX7_odds 22 = .ok (.lconst 0, 1) := by decide +kernel
theorem dX7_odds_23 : decode cX7_odds 23 = .ok (.ldc2_w 266, 3) := by decide +kernel
theorem dX7_odds_26 : decode cX7_odds 26 = .ok (.invokestatic 75, 3) := by decide +kernel
theorem dX7_odds_29 : decode cX7_odds 29 = .ok (.ifCond .eq 28, 3) := by decide +kernel
theorem dX7_odds_32 : decode cX7_odds 32 = .ok (.iload 4, 2) := by decide +kernel
theorem dX7_odds_34 : decode cX7_odds 34 = .ok (.i2l, 1) := by decide +kernel
theorem dX7_odds_35 : decode cX7_odds 35 = .ok (.lconst 0, 1) := by decide +kernel
theorem dX7_odds_36 : decode cX7_odds 36 = .ok (.ldc2_w 264, 3) := by decide +kernel
theorem dX7_odds_39 : decode cX7_odds 39 = .ok (.invokestatic 75, 3) := by decide +kernel
theorem dX7_odds_42 : decode cX7_odds 42 = .ok (.ifCond .eq 15, 3) := by decide +kernel
theorem dX7_odds_45 : decode cX7_odds 45 = .ok (.aload_n 0, 1) := by decide +kernel
theorem dX7_odds_46 : decode cX7_odds 46 = .ok (.iload_n 1, 1) := by decide +kernel
theorem dX7_odds_47 : decode cX7_odds 47 = .ok (.iload_n 2, 1) := by decide +kernel
theorem dX7_odds_48 : decode cX7_odds 48 = .ok (.iload_n 3, 1) := by decide +kernel
theorem dX7_odds_49 : decode cX7_odds 49 = .ok (.iload 4, 2) := by decide +kernel
theorem dX7_odds_51 : decode cX7_odds 51 = .ok (.invokevirtual 268, 3) := by decide +kernel
theorem dX7_odds_54 : decode cX7_odds 54 = .ok (.goto 4, 3) := by decide +kernel
theorem dX7_odds_57 : decode cX7_odds 57 = .ok (.iconst (-1), 1) := by decide +kernel
theorem dX7_odds_58 : decode cX7_odds 58 = .ok (.ireturn, 1) := by decide +kernel
set_option maxHeartbeats 200000 in
theorem bX7_odds_0 {S : pv_S} {x1 x2 x3 x4 : Int32} : pv_R mX7_odds 0 [some (.ref 37), some (.int x1), some (.int x2), some (.int x3), some (.int x4)] [] (pv_em S) = pv_cc (pv_R mX7_isCat 0 [some (.ref 37), some (.int x1)] [] (pv_em S)) mX7_odds 5 [some (.ref 37), some (.int x1), some (.int x2), some (.int x3), some (.int x4)] [] := Eq.trans (pv_Rstp dX7_odds_0 rfl rfl rfl) (Eq.trans (pv_Rstp dX7_odds_1 rfl rfl rfl) (pv_Rcall (As := [.ref 37, .int x1]) (rest := []) dX7_odds_2 rfl mfX7_165 rfl rfl rfl rfl rfl))
set_option maxHeartbeats 200000 in
theorem bX7_odds_5 {S : pv_S} {x1 x2 x3 x4 u0 : Int32} : pv_R mX7_odds 5 [some (.ref 37), some (.int x1), some (.int x2), some (.int x3), some (.int x4)] [.int u0] (pv_em S) = if u0 = 0 then pv_R mX7_odds 57 [some (.ref 37), some (.int x1), some (.int x2), some (.int x3), some (.int x4)] [] (pv_em S) else pv_R mX7_odds 8 [some (.ref 37), some (.int x1), some (.int x2), some (.int x3), some (.int x4)] [] (pv_em S) := pv_Rbr (tgt := 57) dX7_odds_5 rfl rfl rfl rfl rfl (by decide)
set_option maxHeartbeats 200000 in
theorem bX7_odds_8 {S : pv_S} {x1 x2 x3 x4 : Int32} : pv_R mX7_odds 8 [some (.ref 37), some (.int x1), some (.int x2), some (.int x3), some (.int x4)] [] (pv_em S) = pv_cc (pv_R mX7_in 0 [some (.long (Int32.toInt64 x2)), none, some (.long 0), none, some (.long 200), none] [] (pv_em S)) mX7_odds 17 [some (.ref 37), some (.int x1), some (.int x2), some (.int x3), some (.int x4)] [] := Eq.trans (pv_Rstp dX7_odds_8 rfl rfl rfl) (Eq.trans (pv_Rstp dX7_odds_9 rfl rfl rfl) (Eq.trans (pv_Rlc dX7_odds_10 kl_0) (Eq.trans (pv_Rstp dX7_odds_11 rfl rfl rfl) (pv_Rcall (As := [.long (Int32.toInt64 x2), .long 0, .long 200]) (rest := []) dX7_odds_14 rfl mfX7_75 rfl rfl rfl rfl rfl))))
set_option maxHeartbeats 200000 in
theorem bX7_odds_17 {S : pv_S} {x1 x2 x3 x4 u0 : Int32} : pv_R mX7_odds 17 [some (.ref 37), some (.int x1), some (.int x2), some (.int x3), some (.int x4)] [.int u0] (pv_em S) = if u0 = 0 then pv_R mX7_odds 57 [some (.ref 37), some (.int x1), some (.int x2), some (.int x3), some (.int x4)] [] (pv_em S) else pv_R mX7_odds 20 [some (.ref 37), some (.int x1), some (.int x2), some (.int x3), some (.int x4)] [] (pv_em S) := pv_Rbr (tgt := 57) dX7_odds_17 rfl rfl rfl rfl rfl (by decide)
set_option maxHeartbeats 200000 in
theorem bX7_odds_20 {S : pv_S} {x1 x2 x3 x4 : Int32} : pv_R mX7_odds 20 [some (.ref 37), some (.int x1), some (.int x2), some (.int x3), some (.int x4)] [] (pv_em S) = pv_cc (pv_R mX7_in 0 [some (.long (Int32.toInt64 x3)), none, some (.long 0), none, some (.long 6), none] [] (pv_em S)) mX7_odds 29 [some (.ref 37), some (.int x1), some (.int x2), some (.int x3), some (.int x4)] [] := Eq.trans (pv_Rstp dX7_odds_20 rfl rfl rfl) (Eq.trans (pv_Rstp dX7_odds_21 rfl rfl rfl) (Eq.trans (pv_Rlc dX7_odds_22 kl_0) (Eq.trans (pv_Rstp dX7_odds_23 rfl rfl rfl) (pv_Rcall (As := [.long (Int32.toInt64 x3), .long 0, .long 6]) (rest := []) dX7_odds_26 rfl mfX7_75 rfl rfl rfl rfl rfl))))
set_option maxHeartbeats 200000 in
theorem bX7_odds_29 {S : pv_S} {x1 x2 x3 x4 u0 : Int32} : pv_R mX7_odds 29 [some (.ref 37), some (.int x1), some (.int x2), some (.int x3), some (.int x4)] [.int u0] (pv_em S) = if u0 = 0 then pv_R mX7_odds 57 [some (.ref 37), some (.int x1), some (.int x2), some (.int x3), some (.int x4)] [] (pv_em S) else pv_R mX7_odds 32 [some (.ref 37), some (.int x1), some (.int x2), some (.int x3), some (.int x4)] [] (pv_em S) := pv_Rbr (tgt := 57) dX7_odds_29 rfl rfl rfl rfl rfl (by decide)
set_option maxHeartbeats 200000 in
theorem bX7_odds_32 {S : pv_S} {x1 x2 x3 x4 : Int32} : pv_R mX7_odds 32 [some (.ref 37), some (.int x1), some (.int x2), some (.int x3), some (.int x4)] [] (pv_em S) = pv_cc (pv_R mX7_in 0 [some (.long (Int32.toInt64 x4)), none, some (.long 0), none, some (.long 12), none] [] (pv_em S)) mX7_odds 42 [some (.ref 37), some (.int x1), some (.int x2), some (.int x3), some (.int x4)] [] := Eq.trans (pv_Rstp dX7_odds_32 rfl rfl rfl) (Eq.trans (pv_Rstp dX7_odds_34 rfl rfl rfl) (Eq.trans (pv_Rlc dX7_odds_35 kl_0) (Eq.trans (pv_Rstp dX7_odds_36 rfl rfl rfl) (pv_Rcall (As := [.long (Int32.toInt64 x4), .long 0, .long 12]) (rest := []) dX7_odds_39 rfl mfX7_75 rfl rfl rfl rfl rfl))))
set_option maxHeartbeats 200000 in
theorem bX7_odds_42 {S : pv_S} {x1 x2 x3 x4 u0 : Int32} : pv_R mX7_odds 42 [some (.ref 37), some (.int x1), some (.int x2), some (.int x3), some (.int x4)] [.int u0] (pv_em S) = if u0 = 0 then pv_R mX7_odds 57 [some (.ref 37), some (.int x1), some (.int x2), some (.int x3), some (.int x4)] [] (pv_em S) else pv_R mX7_odds 45 [some (.ref 37), some (.int x1), some (.int x2), some (.int x3), some (.int x4)] [] (pv_em S) := pv_Rbr (tgt := 57) dX7_odds_42 rfl rfl rfl rfl rfl (by decide)
set_option maxHeartbeats 200000 in
theorem bX7_odds_45 {S : pv_S} {x1 x2 x3 x4 : Int32} : pv_R mX7_odds 45 [some (.ref 37), some (.int x1), some (.int x2), some (.int x3), some (.int x4)] [] (pv_em S) = pv_cc (pv_R mX7_chances 0 [some (.ref 37), some (.int x1), some (.int x2), some (.int x3), some (.int x4), none, none, none, none, none, none, none, none, none, none] [] (pv_em S)) mX7_odds 54 [some (.ref 37), some (.int x1), some (.int x2), some (.int x3), some (.int x4)] [] := Eq.trans (pv_Rstp dX7_odds_45 rfl rfl rfl) (Eq.trans (pv_Rstp dX7_odds_46 rfl rfl rfl) (Eq.trans (pv_Rstp dX7_odds_47 rfl rfl rfl) (Eq.trans (pv_Rstp dX7_odds_48 rfl rfl rfl) (Eq.trans (pv_Rstp dX7_odds_49 rfl rfl rfl) (pv_Rcall (As := [.ref 37, .int x1, .int x2, .int x3, .int x4]) (rest := []) dX7_odds_51 rfl mfX7_268 rfl rfl rfl rfl rfl)))))
set_option maxHeartbeats 200000 in
theorem bX7_odds_54 {S : pv_S} {x1 x2 x3 x4 u0 : Int32} : pv_R mX7_odds 54 [some (.ref 37), some (.int x1), some (.int x2), some (.int x3), some (.int x4)] [.int u0] (pv_em S) = pv_R mX7_odds 58 [some (.ref 37), some (.int x1), some (.int x2), some (.int x3), some (.int x4)] [.int u0] (pv_em S) := pv_Rgo (tgt := 58) dX7_odds_54 rfl (by decide)
set_option maxHeartbeats 200000 in
theorem bX7_odds_57 {S : pv_S} {x1 x2 x3 x4 : Int32} : pv_R mX7_odds 57 [some (.ref 37), some (.int x1), some (.int x2), some (.int x3), some (.int x4)] [] (pv_em S) = pv_R mX7_odds 58 [some (.ref 37), some (.int x1), some (.int x2), some (.int x3), some (.int x4)] [.int (-1)] (pv_em S) := pv_Ric dX7_odds_57 ki_m1
set_option maxHeartbeats 200000 in
theorem bX7_odds_58 {S : pv_S} {x1 x2 x3 x4 u0 : Int32} : pv_R mX7_odds 58 [some (.ref 37), some (.int x1), some (.int x2), some (.int x3), some (.int x4)] [.int u0] (pv_em S) = some (some (.int u0), pv_em S) := pv_Rret dX7_odds_58 rfl
theorem dX7_mid_0 : decode cX7_mid 0 = .ok (.aload_n 0, 1) := by decide +kernel
theorem dX7_mid_1 : decode cX7_mid 1 = .ok (.iload_n 1, 1) := by decide +kernel
theorem dX7_mid_2 : decode cX7_mid 2 = .ok (.invokevirtual 165, 3) := by decide +kernel
theorem dX7_mid_5 : decode cX7_mid 5 = .ok (.ifCond .eq 38, 3) := by decide +kernel
theorem dX7_mid_8 : decode cX7_mid 8 = .ok (.iload_n 2, 1) := by decide +kernel
theorem dX7_mid_9 : decode cX7_mid 9 = .ok (.i2l, 1) := by decide +kernel
theorem dX7_mid_10 : decode cX7_mid 10 = .ok (.lconst 0, 1) := by decide +kernel
theorem dX7_mid_11 : decode cX7_mid 11 = .ok (.ldc2_w 266, 3) := by decide +kernel
theorem dX7_mid_14 : decode cX7_mid 14 = .ok (.invokestatic 75, 3) := by decide +kernel
theorem dX7_mid_17 : decode cX7_mid 17 = .ok (.ifCond .eq 26, 3) := by decide +kernel
theorem dX7_mid_20 : decode cX7_mid 20 = .ok (.iload_n 3, 1) := by decide +kernel
theorem dX7_mid_21 : decode cX7_mid 21 = .ok (.i2l, 1) := by decide +kernel
theorem dX7_mid_22 : decode cX7_mid 22 = .ok (.lconst 0, 1) := by decide +kernel
theorem dX7_mid_23 : decode cX7_mid 23 = .ok (.ldc2_w 264, 3) := by decide +kernel
theorem dX7_mid_26 : decode cX7_mid 26 = .ok (.invokestatic 75, 3) := by decide +kernel
theorem dX7_mid_29 : decode cX7_mid 29 = .ok (.ifCond .eq 14, 3) := by decide +kernel
theorem dX7_mid_32 : decode cX7_mid 32 = .ok (.aload_n 0, 1) := by decide +kernel
theorem dX7_mid_33 : decode cX7_mid 33 = .ok (.iload_n 1, 1) := by decide +kernel
theorem dX7_mid_34 : decode cX7_mid 34 = .ok (.iconst (-1), 1) := by decide +kernel
theorem dX7_mid_35 : decode cX7_mid 35 = .ok (.iload_n 2, 1) := by decide +kernel
theorem dX7_mid_36 : decode cX7_mid 36 = .ok (.iload_n 3, 1) := by decide +kernel
theorem dX7_mid_37 : decode cX7_mid 37 = .ok (.invokevirtual 268, 3) := by decide +kernel
theorem dX7_mid_40 : decode cX7_mid 40 = .ok (.goto 4, 3) := by decide +kernel
theorem dX7_mid_43 : decode cX7_mid 43 = .ok (.iconst (-1), 1) := by decide +kernel
theorem dX7_mid_44 : decode cX7_mid 44 = .ok (.ireturn, 1) := by decide +kernel
set_option maxHeartbeats 200000 in
theorem bX7_mid_0 {S : pv_S} {x1 x2 x3 : Int32} : pv_R mX7_mid 0 [some (.ref 37), some (.int x1), some (.int x2), some (.int x3)] [] (pv_em S) = pv_cc (pv_R mX7_isCat 0 [some (.ref 37), some (.int x1)] [] (pv_em S)) mX7_mid 5 [some (.ref 37), some (.int x1), some (.int x2), some (.int x3)] [] := Eq.trans (pv_Rstp dX7_mid_0 rfl rfl rfl) (Eq.trans (pv_Rstp dX7_mid_1 rfl rfl rfl) (pv_Rcall (As := [.ref 37, .int x1]) (rest := []) dX7_mid_2 rfl mfX7_165 rfl rfl rfl rfl rfl))
set_option maxHeartbeats 200000 in
theorem bX7_mid_5 {S : pv_S} {x1 x2 x3 u0 : Int32} : pv_R mX7_mid 5 [some (.ref 37), some (.int x1), some (.int x2), some (.int x3)] [.int u0] (pv_em S) = if u0 = 0 then pv_R mX7_mid 43 [some (.ref 37), some (.int x1), some (.int x2), some (.int x3)] [] (pv_em S) else pv_R mX7_mid 8 [some (.ref 37), some (.int x1), some (.int x2), some (.int x3)] [] (pv_em S) := pv_Rbr (tgt := 43) dX7_mid_5 rfl rfl rfl rfl rfl (by decide)
set_option maxHeartbeats 200000 in
theorem bX7_mid_8 {S : pv_S} {x1 x2 x3 : Int32} : pv_R mX7_mid 8 [some (.ref 37), some (.int x1), some (.int x2), some (.int x3)] [] (pv_em S) = pv_cc (pv_R mX7_in 0 [some (.long (Int32.toInt64 x2)), none, some (.long 0), none, some (.long 6), none] [] (pv_em S)) mX7_mid 17 [some (.ref 37), some (.int x1), some (.int x2), some (.int x3)] [] := Eq.trans (pv_Rstp dX7_mid_8 rfl rfl rfl) (Eq.trans (pv_Rstp dX7_mid_9 rfl rfl rfl) (Eq.trans (pv_Rlc dX7_mid_10 kl_0) (Eq.trans (pv_Rstp dX7_mid_11 rfl rfl rfl) (pv_Rcall (As := [.long (Int32.toInt64 x2), .long 0, .long 6]) (rest := []) dX7_mid_14 rfl mfX7_75 rfl rfl rfl rfl rfl))))
set_option maxHeartbeats 200000 in
theorem bX7_mid_17 {S : pv_S} {x1 x2 x3 u0 : Int32} : pv_R mX7_mid 17 [some (.ref 37), some (.int x1), some (.int x2), some (.int x3)] [.int u0] (pv_em S) = if u0 = 0 then pv_R mX7_mid 43 [some (.ref 37), some (.int x1), some (.int x2), some (.int x3)] [] (pv_em S) else pv_R mX7_mid 20 [some (.ref 37), some (.int x1), some (.int x2), some (.int x3)] [] (pv_em S) := pv_Rbr (tgt := 43) dX7_mid_17 rfl rfl rfl rfl rfl (by decide)
set_option maxHeartbeats 200000 in
theorem bX7_mid_20 {S : pv_S} {x1 x2 x3 : Int32} : pv_R mX7_mid 20 [some (.ref 37), some (.int x1), some (.int x2), some (.int x3)] [] (pv_em S) = pv_cc (pv_R mX7_in 0 [some (.long (Int32.toInt64 x3)), none, some (.long 0), none, some (.long 12), none] [] (pv_em S)) mX7_mid 29 [some (.ref 37), some (.int x1), some (.int x2), some (.int x3)] [] := Eq.trans (pv_Rstp dX7_mid_20 rfl rfl rfl) (Eq.trans (pv_Rstp dX7_mid_21 rfl rfl rfl) (Eq.trans (pv_Rlc dX7_mid_22 kl_0) (Eq.trans (pv_Rstp dX7_mid_23 rfl rfl rfl) (pv_Rcall (As := [.long (Int32.toInt64 x3), .long 0, .long 12]) (rest := []) dX7_mid_26 rfl mfX7_75 rfl rfl rfl rfl rfl))))
set_option maxHeartbeats 200000 in
theorem bX7_mid_29 {S : pv_S} {x1 x2 x3 u0 : Int32} : pv_R mX7_mid 29 [some (.ref 37), some (.int x1), some (.int x2), some (.int x3)] [.int u0] (pv_em S) = if u0 = 0 then pv_R mX7_mid 43 [some (.ref 37), some (.int x1), some (.int x2), some (.int x3)] [] (pv_em S) else pv_R mX7_mid 32 [some (.ref 37), some (.int x1), some (.int x2), some (.int x3)] [] (pv_em S) := pv_Rbr (tgt := 43) dX7_mid_29 rfl rfl rfl rfl rfl (by decide)
set_option maxHeartbeats 200000 in
theorem bX7_mid_32 {S : pv_S} {x1 x2 x3 : Int32} : pv_R mX7_mid 32 [some (.ref 37), some (.int x1), some (.int x2), some (.int x3)] [] (pv_em S) = pv_cc (pv_R mX7_chances 0 [some (.ref 37), some (.int x1), some (.int (-1)), some (.int x2), some (.int x3), none, none, none, none, none, none, none, none, none, none] [] (pv_em S)) mX7_mid 40 [some (.ref 37), some (.int x1), some (.int x2), some (.int x3)] [] := Eq.trans (pv_Rstp dX7_mid_32 rfl rfl rfl) (Eq.trans (pv_Rstp dX7_mid_33 rfl rfl rfl) (Eq.trans (pv_Ric dX7_mid_34 ki_m1) (Eq.trans (pv_Rstp dX7_mid_35 rfl rfl rfl) (Eq.trans (pv_Rstp dX7_mid_36 rfl rfl rfl) (pv_Rcall (As := [.ref 37, .int x1, .int (-1), .int x2, .int x3]) (rest := []) dX7_mid_37 rfl mfX7_268 rfl rfl rfl rfl rfl)))))
set_option maxHeartbeats 200000 in
theorem bX7_mid_40 {S : pv_S} {x1 x2 x3 u0 : Int32} : pv_R mX7_mid 40 [some (.ref 37), some (.int x1), some (.int x2), some (.int x3)] [.int u0] (pv_em S) = pv_R mX7_mid 44 [some (.ref 37), some (.int x1), some (.int x2), some (.int x3)] [.int u0] (pv_em S) := pv_Rgo (tgt := 44) dX7_mid_40 rfl (by decide)
set_option maxHeartbeats 200000 in
theorem bX7_mid_43 {S : pv_S} {x1 x2 x3 : Int32} : pv_R mX7_mid 43 [some (.ref 37), some (.int x1), some (.int x2), some (.int x3)] [] (pv_em S) = pv_R mX7_mid 44 [some (.ref 37), some (.int x1), some (.int x2), some (.int x3)] [.int (-1)] (pv_em S) := pv_Ric dX7_mid_43 ki_m1
set_option maxHeartbeats 200000 in
theorem bX7_mid_44 {S : pv_S} {x1 x2 x3 u0 : Int32} : pv_R mX7_mid 44 [some (.ref 37), some (.int x1), some (.int x2), some (.int x3)] [.int u0] (pv_em S) = some (some (.int u0), pv_em S) := pv_Rret dX7_mid_44 rfl
theorem dX7_lots_0 : decode cX7_lots 0 = .ok (.iload_n 1, 1) := by decide +kernel
theorem dX7_lots_1 : decode cX7_lots 1 = .ok (.i2l, 1) := by decide +kernel
theorem dX7_lots_2 : decode cX7_lots 2 = .ok (.lconst 1, 1) := by decide +kernel
theorem dX7_lots_3 : decode cX7_lots 3 = .ok (.ldc2_w 209, 3) := by decide +kernel
theorem dX7_lots_6 : decode cX7_lots 6 = .ok (.invokestatic 75, 3) := by decide +kernel
theorem dX7_lots_9 : decode cX7_lots 9 = .ok (.ifCond .eq 15, 3) := by decide +kernel
theorem dX7_lots_12 : decode cX7_lots 12 = .ok (.iload_n 2, 1) := by decide +kernel
theorem dX7_lots_13 : decode cX7_lots 13 = .ok (.i2l, 1) := by decide +kernel
theorem dX7_lots_14 : decode cX7_lots 14 = .ok (.lconst 1, 1) := by decide +kernel
theorem dX7_lots_15 : decode cX7_lots 15 = .ok (.ldc2_w 272, 3) := by decide +kernel
theorem dX7_lots_18 : decode cX7_lots 18 = .ok (.invokestatic 75, 3) := by decide +kernel
theorem dX7_lots_21 : decode cX7_lots 21 = .ok (.ifCond .ne 5, 3) := by decide +kernel
theorem dX7_lots_24 : decode cX7_lots 24 = .ok (.iconst (-1), 1) := by decide +kernel
theorem dX7_lots_25 : decode cX7_lots 25 = .ok (.ireturn, 1) := by decide +kernel
theorem dX7_lots_26 : decode cX7_lots 26 = .ok (.aload_n 0, 1) := by decide +kernel
theorem dX7_lots_27 : decode cX7_lots 27 = .ok (.getfield 138, 3) := by decide +kernel
theorem dX7_lots_30 : decode cX7_lots 30 = .ok (.ifCond .ne 6, 3) := by decide +kernel
theorem dX7_lots_33 : decode cX7_lots 33 = .ok (.bipush (-4), 2) := by decide +kernel
theorem dX7_lots_35 : decode cX7_lots 35 = .ok (.ireturn, 1) := by decide +kernel
theorem dX7_lots_36 : decode cX7_lots 36 = .ok (.aload_n 0, 1) := by decide +kernel
theorem dX7_lots_37 : decode cX7_lots 37 = .ok (.getfield 144, 3) := by decide +kernel
theorem dX7_lots_40 : decode cX7_lots 40 = .ok (.iload_n 1, 1) := by decide +kernel
theorem dX7_lots_41 : decode cX7_lots 41 = .ok (.iadd, 1) := by decide +kernel
theorem dX7_lots_42 : decode cX7_lots 42 = .ok (.bipush 40, 2) := by decide +kernel
theorem dX7_lots_44 : decode cX7_lots 44 = .ok (.if_icmp .le 6, 3) := by decide +kernel
theorem dX7_lots_47 : decode cX7_lots 47 = .ok (.bipush (-2), 2) := by decide +kernel
theorem dX7_lots_49 : decode cX7_lots 49 = .ok (.ireturn, 1) := by decide +kernel
theorem dX7_lots_50 : decode cX7_lots 50 = .ok (.iload_n 2, 1) := by decide +kernel
theorem dX7_lots_51 : decode cX7_lots 51 = .ok (.i2l, 1) := by decide +kernel
theorem dX7_lots_52 : decode cX7_lots 52 = .ok (.lstore_n 3, 1) := by decide +kernel
theorem dX7_lots_53 : decode cX7_lots 53 = .ok (.iconst 0, 1) := by decide +kernel
theorem dX7_lots_54 : decode cX7_lots 54 = .ok (.istore 5, 2) := by decide +kernel
theorem dX7_lots_56 : decode cX7_lots 56 = .ok (.iload 5, 2) := by decide +kernel
theorem dX7_lots_58 : decode cX7_lots 58 = .ok (.iload_n 1, 1) := by decide +kernel
theorem dX7_lots_59 : decode cX7_lots 59 = .ok (.if_icmp .ge 41, 3) := by decide +kernel
theorem dX7_lots_62 : decode cX7_lots 62 = .ok (.ldc2_w 274, 3) := by decide +kernel
theorem dX7_lots_65 : decode cX7_lots 65 = .ok (.lload_n 3, 1) := by decide +kernel
theorem dX7_lots_66 : decode cX7_lots 66 = .ok (.lmul, 1) := by decide +kernel
theorem dX7_lots_67 : decode cX7_lots 67 = .ok (.ldc2_w 276, 3) := by decide +kernel
theorem dX7_lots_70 : decode cX7_lots 70 = .ok (.lrem, 1) := by decide +kernel
theorem dX7_lots_71 : decode cX7_lots 71 = .ok (.lstore_n 3, 1) := by decide +kernel
theorem dX7_lots_72 : decode cX7_lots 72 = .ok (.aload_n 0, 1) := by decide +kernel
theorem dX7_lots_73 : decode cX7_lots 73 = .ok (.lload_n 3, 1) := by decide +kernel
theorem dX7_lots_74 : decode cX7_lots 74 = .ok (.ldc2_w 278, 3) := by decide +kernel
theorem dX7_lots_77 : decode cX7_lots 77 = .ok (.ldiv, 1) := by decide +kernel
theorem dX7_lots_78 : decode cX7_lots 78 = .ok (.ldc2_w 168, 3) := by decide +kernel
theorem dX7_lots_81 : decode cX7_lots 81 = .ok (.lrem, 1) := by decide +kernel
theorem dX7_lots_82 : decode cX7_lots 82 = .ok (.l2i, 1) := by decide +kernel
theorem dX7_lots_83 : decode cX7_lots 83 = .ok (.lload_n 3, 1) := by decide +kernel
theorem dX7_lots_84 : decode cX7_lots 84 = .ok (.aload_n 0, 1) := by decide +kernel
theorem dX7_lots_85 : decode cX7_lots 85 = .ok (.getfield 138, 3) := by decide +kernel
theorem dX7_lots_88 : decode cX7_lots 88 = .ok (.i2l, 1) := by decide +kernel
theorem dX7_lots_89 : decode cX7_lots 89 = .ok (.lrem, 1) := by decide +kernel
theorem dX7_lots_90 : decode cX7_lots 90 = .ok (.l2i, 1) := by decide +kernel
theorem dX7_lots_91 : decode cX7_lots 91 = .ok (.invokevirtual 280, 3) := by decide +kernel
theorem dX7_lots_94 : decode cX7_lots 94 = .ok (.iinc 5 1, 3) := by decide +kernel
theorem dX7_lots_97 : decode cX7_lots 97 = .ok (.goto (-41), 3) := by decide +kernel
theorem dX7_lots_100 : decode cX7_lots 100 = .ok (.aload_n 0, 1) := by decide +kernel
theorem dX7_lots_101 : decode cX7_lots 101 = .ok (.invokevirtual 186, 3) := by decide +kernel
theorem dX7_lots_104 : decode cX7_lots 104 = .ok (.ireturn, 1) := by decide +kernel
set_option maxHeartbeats 200000 in
theorem bX7_lots_0 {S : pv_S} {x1 x2 : Int32} {a3 a4 a5 : Option Value} : pv_R mX7_lots 0 [some (.ref 37), some (.int x1), some (.int x2), a3, a4, a5] [] (pv_em S) = pv_cc (pv_R mX7_in 0 [some (.long (Int32.toInt64 x1)), none, some (.long 1), none, some (.long 20), none] [] (pv_em S)) mX7_lots 9 [some (.ref 37), some (.int x1), some (.int x2), a3, a4, a5] [] := Eq.trans (pv_Rstp dX7_lots_0 rfl rfl rfl) (Eq.trans (pv_Rstp dX7_lots_1 rfl rfl rfl) (Eq.trans (pv_Rlc dX7_lots_2 kl_1) (Eq.trans (pv_Rstp dX7_lots_3 rfl rfl rfl) (pv_Rcall (As := [.long (Int32.toInt64 x1), .long 1, .long 20]) (rest := []) dX7_lots_6 rfl mfX7_75 rfl rfl rfl rfl rfl))))
set_option maxHeartbeats 200000 in
theorem bX7_lots_9 {S : pv_S} {x1 x2 u0 : Int32} {a3 a4 a5 : Option Value} : pv_R mX7_lots 9 [some (.ref 37), some (.int x1), some (.int x2), a3, a4, a5] [.int u0] (pv_em S) = if u0 = 0 then pv_R mX7_lots 24 [some (.ref 37), some (.int x1), some (.int x2), a3, a4, a5] [] (pv_em S) else pv_R mX7_lots 12 [some (.ref 37), some (.int x1), some (.int x2), a3, a4, a5] [] (pv_em S) := pv_Rbr (tgt := 24) dX7_lots_9 rfl rfl rfl rfl rfl (by decide)
set_option maxHeartbeats 200000 in
theorem bX7_lots_12 {S : pv_S} {x1 x2 : Int32} {a3 a4 a5 : Option Value} : pv_R mX7_lots 12 [some (.ref 37), some (.int x1), some (.int x2), a3, a4, a5] [] (pv_em S) = pv_cc (pv_R mX7_in 0 [some (.long (Int32.toInt64 x2)), none, some (.long 1), none, some (.long 2147483646), none] [] (pv_em S)) mX7_lots 21 [some (.ref 37), some (.int x1), some (.int x2), a3, a4, a5] [] := Eq.trans (pv_Rstp dX7_lots_12 rfl rfl rfl) (Eq.trans (pv_Rstp dX7_lots_13 rfl rfl rfl) (Eq.trans (pv_Rlc dX7_lots_14 kl_1) (Eq.trans (pv_Rstp dX7_lots_15 rfl rfl rfl) (pv_Rcall (As := [.long (Int32.toInt64 x2), .long 1, .long 2147483646]) (rest := []) dX7_lots_18 rfl mfX7_75 rfl rfl rfl rfl rfl))))
set_option maxHeartbeats 200000 in
theorem bX7_lots_21 {S : pv_S} {x1 x2 u0 : Int32} {a3 a4 a5 : Option Value} : pv_R mX7_lots 21 [some (.ref 37), some (.int x1), some (.int x2), a3, a4, a5] [.int u0] (pv_em S) = if ¬ u0 = 0 then pv_R mX7_lots 26 [some (.ref 37), some (.int x1), some (.int x2), a3, a4, a5] [] (pv_em S) else pv_R mX7_lots 24 [some (.ref 37), some (.int x1), some (.int x2), a3, a4, a5] [] (pv_em S) := pv_Rbr (tgt := 26) dX7_lots_21 rfl rfl rfl rfl rfl (by decide)
set_option maxHeartbeats 200000 in
theorem bX7_lots_24 {S : pv_S} {x1 x2 : Int32} {a3 a4 a5 : Option Value} : pv_R mX7_lots 24 [some (.ref 37), some (.int x1), some (.int x2), a3, a4, a5] [] (pv_em S) = some (some (.int (-1)), pv_em S) := Eq.trans (pv_Ric dX7_lots_24 ki_m1) (pv_Rret dX7_lots_25 rfl)
set_option maxHeartbeats 200000 in
theorem bX7_lots_26 {S : pv_S} {x1 x2 : Int32} {a3 a4 a5 : Option Value} : pv_R mX7_lots 26 [some (.ref 37), some (.int x1), some (.int x2), a3, a4, a5] [] (pv_em S) = if ¬ (S.1 37 4) = 0 then pv_R mX7_lots 36 [some (.ref 37), some (.int x1), some (.int x2), a3, a4, a5] [] (pv_em S) else pv_R mX7_lots 33 [some (.ref 37), some (.int x1), some (.int x2), a3, a4, a5] [] (pv_em S) := Eq.trans (pv_Rstp dX7_lots_26 rfl rfl rfl) (Eq.trans (pv_Rget dX7_lots_27 ffX7_138 (by decide) (pv_ce_37 _ _) rfl) (pv_Rbr (tgt := 36) dX7_lots_30 rfl rfl rfl rfl rfl (by decide)))
set_option maxHeartbeats 200000 in
theorem bX7_lots_33 {S : pv_S} {x1 x2 : Int32} {a3 a4 a5 : Option Value} : pv_R mX7_lots 33 [some (.ref 37), some (.int x1), some (.int x2), a3, a4, a5] [] (pv_em S) = some (some (.int (-4)), pv_em S) := Eq.trans (pv_Rbp dX7_lots_33 kb_m4) (pv_Rret dX7_lots_35 rfl)
set_option maxHeartbeats 200000 in
theorem bX7_lots_36 {S : pv_S} {x1 x2 : Int32} {a3 a4 a5 : Option Value} : pv_R mX7_lots 36 [some (.ref 37), some (.int x1), some (.int x2), a3, a4, a5] [] (pv_em S) = if ((S.1 37 9) + x1) ≤ 40 then pv_R mX7_lots 50 [some (.ref 37), some (.int x1), some (.int x2), a3, a4, a5] [] (pv_em S) else pv_R mX7_lots 47 [some (.ref 37), some (.int x1), some (.int x2), a3, a4, a5] [] (pv_em S) := Eq.trans (pv_Rstp dX7_lots_36 rfl rfl rfl) (Eq.trans (pv_Rget dX7_lots_37 ffX7_144 (by decide) (pv_ce_37 _ _) rfl) (Eq.trans (pv_Rstp dX7_lots_40 rfl rfl rfl) (Eq.trans (pv_Rstp dX7_lots_41 rfl rfl rfl) (Eq.trans (pv_Rbp dX7_lots_42 kb_40) (pv_Rbr (tgt := 50) dX7_lots_44 rfl rfl rfl rfl rfl (by decide))))))
set_option maxHeartbeats 200000 in
theorem bX7_lots_47 {S : pv_S} {x1 x2 : Int32} {a3 a4 a5 : Option Value} : pv_R mX7_lots 47 [some (.ref 37), some (.int x1), some (.int x2), a3, a4, a5] [] (pv_em S) = some (some (.int (-2)), pv_em S) := Eq.trans (pv_Rbp dX7_lots_47 kb_m2) (pv_Rret dX7_lots_49 rfl)
set_option maxHeartbeats 200000 in
theorem bX7_lots_50 {S : pv_S} {x1 x2 : Int32} {a3 a4 a5 : Option Value} : pv_R mX7_lots 50 [some (.ref 37), some (.int x1), some (.int x2), a3, a4, a5] [] (pv_em S) = pv_R mX7_lots 56 [some (.ref 37), some (.int x1), some (.int x2), some (.long (Int32.toInt64 x2)), none, some (.int 0)] [] (pv_em S) := Eq.trans (pv_Rstp dX7_lots_50 rfl rfl rfl) (Eq.trans (pv_Rstp dX7_lots_51 rfl rfl rfl) (Eq.trans (pv_Rstp dX7_lots_52 rfl rfl rfl) (Eq.trans (pv_Ric dX7_lots_53 ki_0) (pv_Rstp dX7_lots_54 rfl rfl rfl))))
set_option maxHeartbeats 200000 in
theorem bX7_lots_56 {S : pv_S} {x1 x2 x5 : Int32} {x3 : Int64} {a4 : Option Value} : pv_R mX7_lots 56 [some (.ref 37), some (.int x1), some (.int x2), some (.long x3), a4, some (.int x5)] [] (pv_em S) = if x1 ≤ x5 then pv_R mX7_lots 100 [some (.ref 37), some (.int x1), some (.int x2), some (.long x3), a4, some (.int x5)] [] (pv_em S) else pv_R mX7_lots 62 [some (.ref 37), some (.int x1), some (.int x2), some (.long x3), a4, some (.int x5)] [] (pv_em S) := Eq.trans (pv_Rstp dX7_lots_56 rfl rfl rfl) (Eq.trans (pv_Rstp dX7_lots_58 rfl rfl rfl) (pv_Rbr (tgt := 100) dX7_lots_59 rfl rfl rfl rfl rfl (by decide)))
set_option maxHeartbeats 200000 in
theorem bX7_lots_62 {S : pv_S} {x1 x2 x5 : Int32} {x3 : Int64} {a4 : Option Value} : pv_R mX7_lots 62 [some (.ref 37), some (.int x1), some (.int x2), some (.long x3), a4, some (.int x5)] [] (pv_em S) = if (Int32.toInt64 (S.1 37 4)) = 0 then none else pv_cc (pv_R mX7_plays 0 [some (.ref 37), some (.int (Int64.toInt32 ((((48271 * x3) - (48271 * x3) / 2147483647 * 2147483647) / 8) - (((48271 * x3) - (48271 * x3) / 2147483647 * 2147483647) / 8) / 4 * 4))), some (.int (Int64.toInt32 (((48271 * x3) - (48271 * x3) / 2147483647 * 2147483647) - ((48271 * x3) - (48271 * x3) / 2147483647 * 2147483647) / (Int32.toInt64 (S.1 37 4)) * (Int32.toInt64 (S.1 37 4)))))] [] (pv_em S)) mX7_lots 94 [some (.ref 37), some (.int x1), some (.int x2), some (.long ((48271 * x3) - (48271 * x3) / 2147483647 * 2147483647)), none, some (.int x5)] [] := Eq.trans (pv_Rstp dX7_lots_62 rfl rfl rfl) (Eq.trans (pv_Rstp dX7_lots_65 rfl rfl rfl) (Eq.trans (pv_Rstp dX7_lots_66 rfl rfl rfl) (Eq.trans (pv_Rstp dX7_lots_67 rfl rfl rfl) (Eq.trans (pv_Rlrem dX7_lots_70) (Eq.trans (if_neg (by decide)) (Eq.trans (pv_Rstp dX7_lots_71 rfl rfl rfl) (Eq.trans (pv_Rstp dX7_lots_72 rfl rfl rfl) (Eq.trans (pv_Rstp dX7_lots_73 rfl rfl rfl) (Eq.trans (pv_Rstp dX7_lots_74 rfl rfl rfl) (Eq.trans (pv_Rldiv dX7_lots_77) (Eq.trans (if_neg (by decide)) (Eq.trans (pv_Rstp dX7_lots_78 rfl rfl rfl) (Eq.trans (pv_Rlrem dX7_lots_81) (Eq.trans (if_neg (by decide)) (Eq.trans (pv_Rstp dX7_lots_82 rfl rfl rfl) (Eq.trans (pv_Rstp dX7_lots_83 rfl rfl rfl) (Eq.trans (pv_Rstp dX7_lots_84 rfl rfl rfl) (Eq.trans (pv_Rget dX7_lots_85 ffX7_138 (by decide) (pv_ce_37 _ _) rfl) (Eq.trans (pv_Rstp dX7_lots_88 rfl rfl rfl) (Eq.trans (pv_Rlrem dX7_lots_89) (pv_iteN (fun h1 => Eq.trans (pv_Rstp dX7_lots_90 rfl rfl rfl) (pv_Rcall (As := [.ref 37, .int (Int64.toInt32 ((((48271 * x3) - (48271 * x3) / 2147483647 * 2147483647) / 8) - (((48271 * x3) - (48271 * x3) / 2147483647 * 2147483647) / 8) / 4 * 4)), .int (Int64.toInt32 (((48271 * x3) - (48271 * x3) / 2147483647 * 2147483647) - ((48271 * x3) - (48271 * x3) / 2147483647 * 2147483647) / (Int32.toInt64 (S.1 37 4)) * (Int32.toInt64 (S.1 37 4))))]) (rest := []) dX7_lots_91 rfl mfX7_280 rfl rfl rfl rfl rfl)))))))))))))))))))))))
set_option maxHeartbeats 200000 in
theorem bX7_lots_94 {S : pv_S} {x1 x2 x5 : Int32} {x3 : Int64} {a4 : Option Value} : pv_R mX7_lots 94 [some (.ref 37), some (.int x1), some (.int x2), some (.long x3), a4, some (.int x5)] [] (pv_em S) = pv_R mX7_lots 56 [some (.ref 37), some (.int x1), some (.int x2), some (.long x3), (pv_nl a4), some (.int (x5 + 1))] [] (pv_em S) := Eq.trans (pv_Rinc dX7_lots_94 rfl (Nat.le_of_ble_eq_true rfl) ki_1 rfl) (pv_Rgo (tgt := 56) dX7_lots_97 rfl (by decide))
set_option maxHeartbeats 200000 in
theorem bX7_lots_100 {S : pv_S} {x1 x2 x5 : Int32} {x3 : Int64} {a4 : Option Value} : pv_R mX7_lots 100 [some (.ref 37), some (.int x1), some (.int x2), some (.long x3), a4, some (.int x5)] [] (pv_em S) = pv_cc (pv_R mX7_pound 0 [some (.ref 37)] [] (pv_em S)) mX7_lots 104 [some (.ref 37), some (.int x1), some (.int x2), some (.long x3), a4, some (.int x5)] [] := Eq.trans (pv_Rstp dX7_lots_100 rfl rfl rfl) (pv_Rcall (As := [.ref 37]) (rest := []) dX7_lots_101 rfl mfX7_186 rfl rfl rfl rfl rfl)
set_option maxHeartbeats 200000 in
theorem bX7_lots_104 {S : pv_S} {x1 x2 x5 u0 : Int32} {x3 : Int64} {a4 : Option Value} : pv_R mX7_lots 104 [some (.ref 37), some (.int x1), some (.int x2), some (.long x3), a4, some (.int x5)] [.int u0] (pv_em S) = some (some (.int u0), pv_em S) := pv_Rret dX7_lots_104 rfl
theorem dX7_asked_0 : decode cX7_asked 0 = .ok (.aload_n 0, 1) := by decide +kernel
theorem dX7_asked_1 : decode cX7_asked 1 = .ok (.getfield 70, 3) := by decide +kernel
theorem dX7_asked_4 : decode cX7_asked 4 = .ok (.ireturn, 1) := by decide +kernel
set_option maxHeartbeats 200000 in
theorem bX7_asked_0 {S : pv_S} : pv_R mX7_asked 0 [some (.ref 37)] [] (pv_em S) = some (some (.int (S.1 37 13)), pv_em S) := Eq.trans (pv_Rstp dX7_asked_0 rfl rfl rfl) (Eq.trans (pv_Rget dX7_asked_1 ffX7_70 (by decide) (pv_ce_37 _ _) rfl) (pv_Rret dX7_asked_4 rfl))
theorem dX7_upper_0 : decode cX7_upper 0 = .ok (.aload_n 0, 1) := by decide +kernel
theorem dX7_upper_1 : decode cX7_upper 1 = .ok (.getfield 224, 3) := by decide +kernel
theorem dX7_upper_4 : decode cX7_upper 4 = .ok (.lreturn, 1) := by decide +kernel
set_option maxHeartbeats 200000 in
theorem bX7_upper_0 {S : pv_S} : pv_R mX7_upper 0 [some (.ref 37)] [] (pv_em S) = some (some (.long (S.2 37 14)), pv_em S) := Eq.trans (pv_Rstp dX7_upper_0 rfl rfl rfl) (Eq.trans (pv_Rget dX7_upper_1 ffX7_224 (by decide) (pv_ce_37 _ _) rfl) (pv_Rret dX7_upper_4 rfl))
theorem dX7_lower_0 : decode cX7_lower 0 = .ok (.aload_n 0, 1) := by decide +kernel
theorem dX7_lower_1 : decode cX7_lower 1 = .ok (.getfield 41, 3) := by decide +kernel
theorem dX7_lower_4 : decode cX7_lower 4 = .ok (.lreturn, 1) := by decide +kernel
set_option maxHeartbeats 200000 in
theorem bX7_lower_0 {S : pv_S} : pv_R mX7_lower 0 [some (.ref 37)] [] (pv_em S) = some (some (.long (S.2 37 15)), pv_em S) := Eq.trans (pv_Rstp dX7_lower_0 rfl rfl rfl) (Eq.trans (pv_Rget dX7_lower_1 ffX7_41 (by decide) (pv_ce_37 _ _) rfl) (pv_Rret dX7_lower_4 rfl))
