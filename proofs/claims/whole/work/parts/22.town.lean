/-! ===== blocks: town ===== -/
theorem dX2_faultOf_0 : decode cX2_faultOf 0 = .ok (.aload_n 1, 1) := by decide +kernel
theorem dX2_faultOf_1 : decode cX2_faultOf 1 = .ok (.iload_n 2, 1) := by decide +kernel
theorem dX2_faultOf_2 : decode cX2_faultOf 2 = .ok (.invokevirtual 21, 3) := by decide +kernel
theorem dX2_faultOf_5 : decode cX2_faultOf 5 = .ok (.istore_n 3, 1) := by decide +kernel
theorem dX2_faultOf_6 : decode cX2_faultOf 6 = .ok (.aload_n 0, 1) := by decide +kernel
theorem dX2_faultOf_7 : decode cX2_faultOf 7 = .ok (.iconst 0, 1) := by decide +kernel
theorem dX2_faultOf_8 : decode cX2_faultOf 8 = .ok (.putfield 27, 3) := by decide +kernel
theorem dX2_faultOf_11 : decode cX2_faultOf 11 = .ok (.aload_n 0, 1) := by decide +kernel
theorem dX2_faultOf_12 : decode cX2_faultOf 12 = .ok (.iconst 0, 1) := by decide +kernel
theorem dX2_faultOf_13 : decode cX2_faultOf 13 = .ok (.putfield 31, 3) := by decide +kernel
theorem dX2_faultOf_16 : decode cX2_faultOf 16 = .ok (.aload_n 0, 1) := by decide +kernel
theorem dX2_faultOf_17 : decode cX2_faultOf 17 = .ok (.aload_n 1, 1) := by decide +kernel
theorem dX2_faultOf_18 : decode cX2_faultOf 18 = .ok (.iload_n 2, 1) := by decide +kernel
theorem dX2_faultOf_19 : decode cX2_faultOf 19 = .ok (.invokevirtual 34, 3) := by decide +kernel
theorem dX2_faultOf_22 : decode cX2_faultOf 22 = .ok (.aload_n 0, 1) := by decide +kernel
theorem dX2_faultOf_23 : decode cX2_faultOf 23 = .ok (.aload_n 1, 1) := by decide +kernel
theorem dX2_faultOf_24 : decode cX2_faultOf 24 = .ok (.iload_n 2, 1) := by decide +kernel
theorem dX2_faultOf_25 : decode cX2_faultOf 25 = .ok (.invokevirtual 38, 3) := by decide +kernel
theorem dX2_faultOf_28 : decode cX2_faultOf 28 = .ok (.ifCond .ne 8, 3) := by decide +kernel
theorem dX2_faultOf_31 : decode cX2_faultOf 31 = .ok (.aload_n 0, 1) := by decide +kernel
theorem dX2_faultOf_32 : decode cX2_faultOf 32 = .ok (.getfield 27, 3) := by decide +kernel
theorem dX2_faultOf_35 : decode cX2_faultOf 35 = .ok (.ireturn, 1) := by decide +kernel
theorem dX2_faultOf_36 : decode cX2_faultOf 36 = .ok (.aload_n 0, 1) := by decide +kernel
theorem dX2_faultOf_37 : decode cX2_faultOf 37 = .ok (.aload_n 1, 1) := by decide +kernel
theorem dX2_faultOf_38 : decode cX2_faultOf 38 = .ok (.iload_n 2, 1) := by decide +kernel
theorem dX2_faultOf_39 : decode cX2_faultOf 39 = .ok (.invokevirtual 34, 3) := by decide +kernel
theorem dX2_faultOf_42 : decode cX2_faultOf 42 = .ok (.iconst 0, 1) := by decide +kernel
theorem dX2_faultOf_43 : decode cX2_faultOf 43 = .ok (.istore 4, 2) := by decide +kernel
theorem dX2_faultOf_45 : decode cX2_faultOf 45 = .ok (.iload 4, 2) := by decide +kernel
theorem dX2_faultOf_47 : decode cX2_faultOf 47 = .ok (.bipush 6, 2) := by decide +kernel
theorem dX2_faultOf_49 : decode cX2_faultOf 49 = .ok (.if_icmp .gt 37, 3) := by decide +kernel
theorem dX2_faultOf_52 : decode cX2_faultOf 52 = .ok (.aload_n 0, 1) := by decide +kernel
theorem dX2_faultOf_53 : decode cX2_faultOf 53 = .ok (.getfield 27, 3) := by decide +kernel
theorem dX2_faultOf_56 : decode cX2_faultOf 56 = .ok (.iload_n 3, 1) := by decide +kernel
theorem dX2_faultOf_57 : decode cX2_faultOf 57 = .ok (.if_icmp .ge 29, 3) := by decide +kernel
theorem dX2_faultOf_60 : decode cX2_faultOf 60 = .ok (.aload_n 0, 1) := by decide +kernel
theorem dX2_faultOf_61 : decode cX2_faultOf 61 = .ok (.aload_n 1, 1) := by decide +kernel
theorem dX2_faultOf_62 : decode cX2_faultOf 62 = .ok (.iload_n 2, 1) := by decide +kernel
theorem dX2_faultOf_63 : decode cX2_faultOf 63 = .ok (.invokevirtual 42, 3) := by decide +kernel
theorem dX2_faultOf_66 : decode cX2_faultOf 66 = .ok (.ifCond .ne 8, 3) := by decide +kernel
theorem dX2_faultOf_69 : decode cX2_faultOf 69 = .ok (.aload_n 0, 1) := by decide +kernel
theorem dX2_faultOf_70 : decode cX2_faultOf 70 = .ok (.getfield 27, 3) := by decide +kernel
theorem dX2_faultOf_73 : decode cX2_faultOf 73 = .ok (.ireturn, 1) := by decide +kernel
theorem dX2_faultOf_74 : decode cX2_faultOf 74 = .ok (.aload_n 0, 1) := by decide +kernel
theorem dX2_faultOf_75 : decode cX2_faultOf 75 = .ok (.aload_n 1, 1) := by decide +kernel
theorem dX2_faultOf_76 : decode cX2_faultOf 76 = .ok (.iload_n 2, 1) := by decide +kernel
theorem dX2_faultOf_77 : decode cX2_faultOf 77 = .ok (.invokevirtual 34, 3) := by decide +kernel
theorem dX2_faultOf_80 : decode cX2_faultOf 80 = .ok (.iinc 4 1, 3) := by decide +kernel
theorem dX2_faultOf_83 : decode cX2_faultOf 83 = .ok (.goto (-38), 3) := by decide +kernel
theorem dX2_faultOf_86 : decode cX2_faultOf 86 = .ok (.aload_n 0, 1) := by decide +kernel
theorem dX2_faultOf_87 : decode cX2_faultOf 87 = .ok (.getfield 31, 3) := by decide +kernel
theorem dX2_faultOf_90 : decode cX2_faultOf 90 = .ok (.ifCond .ne 10, 3) := by decide +kernel
theorem dX2_faultOf_93 : decode cX2_faultOf 93 = .ok (.aload_n 0, 1) := by decide +kernel
theorem dX2_faultOf_94 : decode cX2_faultOf 94 = .ok (.getfield 27, 3) := by decide +kernel
theorem dX2_faultOf_97 : decode cX2_faultOf 97 = .ok (.goto 5, 3) := by decide +kernel
theorem dX2_faultOf_100 : decode cX2_faultOf 100 = .ok (.bipush (-9), 2) := by decide +kernel
theorem dX2_faultOf_102 : decode cX2_faultOf 102 = .ok (.ireturn, 1) := by decide +kernel
set_option maxHeartbeats 200000 in
theorem bX2_faultOf_0 {S : pv_S} {x2 : Int32} {a3 a4 : Option Value} : pv_R mX2_faultOf 0 [some (.ref 17), some (.ref 10), some (.int x2), a3, a4] [] (pv_em S) = pv_cc (pv_R mX3_sizeOf 0 [some (.ref 10), some (.int x2)] [] (pv_em S)) mX2_faultOf 5 [some (.ref 17), some (.ref 10), some (.int x2), a3, a4] [] := Eq.trans (pv_Rstp dX2_faultOf_0 rfl rfl rfl) (Eq.trans (pv_Rstp dX2_faultOf_1 rfl rfl rfl) (pv_Rcall (As := [.ref 10, .int x2]) (rest := []) dX2_faultOf_2 rfl mfX2_21 rfl rfl rfl rfl rfl))
set_option maxHeartbeats 200000 in
theorem bX2_faultOf_5 {S : pv_S} {x2 u0 : Int32} {a3 a4 : Option Value} : pv_R mX2_faultOf 5 [some (.ref 17), some (.ref 10), some (.int x2), a3, a4] [.int u0] (pv_em S) = pv_cc (pv_R mX2_skipBlanks 0 [some (.ref 17), some (.ref 10), some (.int x2), none] [] (pv_em (pv_si (pv_si S 17 5 0) 17 4 0))) mX2_faultOf 22 [some (.ref 17), some (.ref 10), some (.int x2), some (.int u0), a4] [] := Eq.trans (pv_Rstp dX2_faultOf_5 rfl rfl rfl) (Eq.trans (pv_Rstp dX2_faultOf_6 rfl rfl rfl) (Eq.trans (pv_Ric dX2_faultOf_7 ki_0) (Eq.trans (pv_Rput dX2_faultOf_8 ffX2_27 rfl rfl rfl (by decide) (pv_ce_17 _ _) (Nat.le_of_ble_eq_true rfl) (pv_em_si rfl)) (Eq.trans (pv_Rstp dX2_faultOf_11 rfl rfl rfl) (Eq.trans (pv_Ric dX2_faultOf_12 ki_0) (Eq.trans (pv_Rput dX2_faultOf_13 ffX2_31 rfl rfl rfl (by decide) (pv_ce_17 _ _) (Nat.le_of_ble_eq_true rfl) (pv_em_si rfl)) (Eq.trans (pv_Rstp dX2_faultOf_16 rfl rfl rfl) (Eq.trans (pv_Rstp dX2_faultOf_17 rfl rfl rfl) (Eq.trans (pv_Rstp dX2_faultOf_18 rfl rfl rfl) (pv_Rcall (As := [.ref 17, .ref 10, .int x2]) (rest := []) dX2_faultOf_19 rfl mfX2_34 rfl rfl rfl rfl rfl))))))))))
set_option maxHeartbeats 200000 in
theorem bX2_faultOf_22 {S : pv_S} {x2 x3 : Int32} {a4 : Option Value} : pv_R mX2_faultOf 22 [some (.ref 17), some (.ref 10), some (.int x2), some (.int x3), a4] [] (pv_em S) = pv_cc (pv_R mX2_takeDog 0 [some (.ref 17), some (.ref 10), some (.int x2)] [] (pv_em S)) mX2_faultOf 28 [some (.ref 17), some (.ref 10), some (.int x2), some (.int x3), a4] [] := Eq.trans (pv_Rstp dX2_faultOf_22 rfl rfl rfl) (Eq.trans (pv_Rstp dX2_faultOf_23 rfl rfl rfl) (Eq.trans (pv_Rstp dX2_faultOf_24 rfl rfl rfl) (pv_Rcall (As := [.ref 17, .ref 10, .int x2]) (rest := []) dX2_faultOf_25 rfl mfX2_38 rfl rfl rfl rfl rfl)))
set_option maxHeartbeats 200000 in
theorem bX2_faultOf_28 {S : pv_S} {x2 x3 u0 : Int32} {a4 : Option Value} : pv_R mX2_faultOf 28 [some (.ref 17), some (.ref 10), some (.int x2), some (.int x3), a4] [.int u0] (pv_em S) = if ¬ u0 = 0 then pv_R mX2_faultOf 36 [some (.ref 17), some (.ref 10), some (.int x2), some (.int x3), a4] [] (pv_em S) else pv_R mX2_faultOf 31 [some (.ref 17), some (.ref 10), some (.int x2), some (.int x3), a4] [] (pv_em S) := pv_Rbr (tgt := 36) dX2_faultOf_28 rfl rfl rfl rfl rfl (by decide)
set_option maxHeartbeats 200000 in
theorem bX2_faultOf_31 {S : pv_S} {x2 x3 : Int32} {a4 : Option Value} : pv_R mX2_faultOf 31 [some (.ref 17), some (.ref 10), some (.int x2), some (.int x3), a4] [] (pv_em S) = some (some (.int (S.1 17 5)), pv_em S) := Eq.trans (pv_Rstp dX2_faultOf_31 rfl rfl rfl) (Eq.trans (pv_Rget dX2_faultOf_32 ffX2_27 (by decide) (pv_ce_17 _ _) rfl) (pv_Rret dX2_faultOf_35 rfl))
set_option maxHeartbeats 200000 in
theorem bX2_faultOf_36 {S : pv_S} {x2 x3 : Int32} {a4 : Option Value} : pv_R mX2_faultOf 36 [some (.ref 17), some (.ref 10), some (.int x2), some (.int x3), a4] [] (pv_em S) = pv_cc (pv_R mX2_skipBlanks 0 [some (.ref 17), some (.ref 10), some (.int x2), none] [] (pv_em S)) mX2_faultOf 42 [some (.ref 17), some (.ref 10), some (.int x2), some (.int x3), a4] [] := Eq.trans (pv_Rstp dX2_faultOf_36 rfl rfl rfl) (Eq.trans (pv_Rstp dX2_faultOf_37 rfl rfl rfl) (Eq.trans (pv_Rstp dX2_faultOf_38 rfl rfl rfl) (pv_Rcall (As := [.ref 17, .ref 10, .int x2]) (rest := []) dX2_faultOf_39 rfl mfX2_34 rfl rfl rfl rfl rfl)))
set_option maxHeartbeats 200000 in
theorem bX2_faultOf_42 {S : pv_S} {x2 x3 : Int32} {a4 : Option Value} : pv_R mX2_faultOf 42 [some (.ref 17), some (.ref 10), some (.int x2), some (.int x3), a4] [] (pv_em S) = pv_R mX2_faultOf 45 [some (.ref 17), some (.ref 10), some (.int x2), some (.int x3), some (.int 0)] [] (pv_em S) := Eq.trans (pv_Ric dX2_faultOf_42 ki_0) (pv_Rstp dX2_faultOf_43 rfl rfl rfl)
set_option maxHeartbeats 200000 in
theorem bX2_faultOf_45 {S : pv_S} {x2 x3 x4 : Int32} : pv_R mX2_faultOf 45 [some (.ref 17), some (.ref 10), some (.int x2), some (.int x3), some (.int x4)] [] (pv_em S) = if 6 < x4 then pv_R mX2_faultOf 86 [some (.ref 17), some (.ref 10), some (.int x2), some (.int x3), some (.int x4)] [] (pv_em S) else pv_R mX2_faultOf 52 [some (.ref 17), some (.ref 10), some (.int x2), some (.int x3), some (.int x4)] [] (pv_em S) := Eq.trans (pv_Rstp dX2_faultOf_45 rfl rfl rfl) (Eq.trans (pv_Rbp dX2_faultOf_47 kb_6) (pv_Rbr (tgt := 86) dX2_faultOf_49 rfl rfl rfl rfl rfl (by decide)))
set_option maxHeartbeats 200000 in
theorem bX2_faultOf_52 {S : pv_S} {x2 x3 x4 : Int32} : pv_R mX2_faultOf 52 [some (.ref 17), some (.ref 10), some (.int x2), some (.int x3), some (.int x4)] [] (pv_em S) = if x3 ≤ (S.1 17 5) then pv_R mX2_faultOf 86 [some (.ref 17), some (.ref 10), some (.int x2), some (.int x3), some (.int x4)] [] (pv_em S) else pv_R mX2_faultOf 60 [some (.ref 17), some (.ref 10), some (.int x2), some (.int x3), some (.int x4)] [] (pv_em S) := Eq.trans (pv_Rstp dX2_faultOf_52 rfl rfl rfl) (Eq.trans (pv_Rget dX2_faultOf_53 ffX2_27 (by decide) (pv_ce_17 _ _) rfl) (Eq.trans (pv_Rstp dX2_faultOf_56 rfl rfl rfl) (pv_Rbr (tgt := 86) dX2_faultOf_57 rfl rfl rfl rfl rfl (by decide))))
set_option maxHeartbeats 200000 in
theorem bX2_faultOf_60 {S : pv_S} {x2 x3 x4 : Int32} : pv_R mX2_faultOf 60 [some (.ref 17), some (.ref 10), some (.int x2), some (.int x3), some (.int x4)] [] (pv_em S) = pv_cc (pv_R mX2_takeCat 0 [some (.ref 17), some (.ref 10), some (.int x2), none, none, none] [] (pv_em S)) mX2_faultOf 66 [some (.ref 17), some (.ref 10), some (.int x2), some (.int x3), some (.int x4)] [] := Eq.trans (pv_Rstp dX2_faultOf_60 rfl rfl rfl) (Eq.trans (pv_Rstp dX2_faultOf_61 rfl rfl rfl) (Eq.trans (pv_Rstp dX2_faultOf_62 rfl rfl rfl) (pv_Rcall (As := [.ref 17, .ref 10, .int x2]) (rest := []) dX2_faultOf_63 rfl mfX2_42 rfl rfl rfl rfl rfl)))
set_option maxHeartbeats 200000 in
theorem bX2_faultOf_66 {S : pv_S} {x2 x3 x4 u0 : Int32} : pv_R mX2_faultOf 66 [some (.ref 17), some (.ref 10), some (.int x2), some (.int x3), some (.int x4)] [.int u0] (pv_em S) = if ¬ u0 = 0 then pv_R mX2_faultOf 74 [some (.ref 17), some (.ref 10), some (.int x2), some (.int x3), some (.int x4)] [] (pv_em S) else pv_R mX2_faultOf 69 [some (.ref 17), some (.ref 10), some (.int x2), some (.int x3), some (.int x4)] [] (pv_em S) := pv_Rbr (tgt := 74) dX2_faultOf_66 rfl rfl rfl rfl rfl (by decide)
set_option maxHeartbeats 200000 in
theorem bX2_faultOf_69 {S : pv_S} {x2 x3 x4 : Int32} : pv_R mX2_faultOf 69 [some (.ref 17), some (.ref 10), some (.int x2), some (.int x3), some (.int x4)] [] (pv_em S) = some (some (.int (S.1 17 5)), pv_em S) := Eq.trans (pv_Rstp dX2_faultOf_69 rfl rfl rfl) (Eq.trans (pv_Rget dX2_faultOf_70 ffX2_27 (by decide) (pv_ce_17 _ _) rfl) (pv_Rret dX2_faultOf_73 rfl))
set_option maxHeartbeats 200000 in
theorem bX2_faultOf_74 {S : pv_S} {x2 x3 x4 : Int32} : pv_R mX2_faultOf 74 [some (.ref 17), some (.ref 10), some (.int x2), some (.int x3), some (.int x4)] [] (pv_em S) = pv_cc (pv_R mX2_skipBlanks 0 [some (.ref 17), some (.ref 10), some (.int x2), none] [] (pv_em S)) mX2_faultOf 80 [some (.ref 17), some (.ref 10), some (.int x2), some (.int x3), some (.int x4)] [] := Eq.trans (pv_Rstp dX2_faultOf_74 rfl rfl rfl) (Eq.trans (pv_Rstp dX2_faultOf_75 rfl rfl rfl) (Eq.trans (pv_Rstp dX2_faultOf_76 rfl rfl rfl) (pv_Rcall (As := [.ref 17, .ref 10, .int x2]) (rest := []) dX2_faultOf_77 rfl mfX2_34 rfl rfl rfl rfl rfl)))
set_option maxHeartbeats 200000 in
theorem bX2_faultOf_80 {S : pv_S} {x2 x3 x4 : Int32} : pv_R mX2_faultOf 80 [some (.ref 17), some (.ref 10), some (.int x2), some (.int x3), some (.int x4)] [] (pv_em S) = pv_R mX2_faultOf 45 [some (.ref 17), some (.ref 10), some (.int x2), some (.int x3), some (.int (x4 + 1))] [] (pv_em S) := Eq.trans (pv_Rinc dX2_faultOf_80 rfl (Nat.le_of_ble_eq_true rfl) ki_1 rfl) (pv_Rgo (tgt := 45) dX2_faultOf_83 rfl (by decide))
set_option maxHeartbeats 200000 in
theorem bX2_faultOf_86 {S : pv_S} {x2 x3 x4 : Int32} : pv_R mX2_faultOf 86 [some (.ref 17), some (.ref 10), some (.int x2), some (.int x3), some (.int x4)] [] (pv_em S) = if ¬ (S.1 17 4) = 0 then pv_R mX2_faultOf 100 [some (.ref 17), some (.ref 10), some (.int x2), some (.int x3), some (.int x4)] [] (pv_em S) else pv_R mX2_faultOf 93 [some (.ref 17), some (.ref 10), some (.int x2), some (.int x3), some (.int x4)] [] (pv_em S) := Eq.trans (pv_Rstp dX2_faultOf_86 rfl rfl rfl) (Eq.trans (pv_Rget dX2_faultOf_87 ffX2_31 (by decide) (pv_ce_17 _ _) rfl) (pv_Rbr (tgt := 100) dX2_faultOf_90 rfl rfl rfl rfl rfl (by decide)))
set_option maxHeartbeats 200000 in
theorem bX2_faultOf_93 {S : pv_S} {x2 x3 x4 : Int32} : pv_R mX2_faultOf 93 [some (.ref 17), some (.ref 10), some (.int x2), some (.int x3), some (.int x4)] [] (pv_em S) = pv_R mX2_faultOf 102 [some (.ref 17), some (.ref 10), some (.int x2), some (.int x3), some (.int x4)] [.int (S.1 17 5)] (pv_em S) := Eq.trans (pv_Rstp dX2_faultOf_93 rfl rfl rfl) (Eq.trans (pv_Rget dX2_faultOf_94 ffX2_27 (by decide) (pv_ce_17 _ _) rfl) (pv_Rgo (tgt := 102) dX2_faultOf_97 rfl (by decide)))
set_option maxHeartbeats 200000 in
theorem bX2_faultOf_100 {S : pv_S} {x2 x3 x4 : Int32} : pv_R mX2_faultOf 100 [some (.ref 17), some (.ref 10), some (.int x2), some (.int x3), some (.int x4)] [] (pv_em S) = pv_R mX2_faultOf 102 [some (.ref 17), some (.ref 10), some (.int x2), some (.int x3), some (.int x4)] [.int (-9)] (pv_em S) := pv_Rbp dX2_faultOf_100 kb_m9
set_option maxHeartbeats 200000 in
theorem bX2_faultOf_102 {S : pv_S} {x2 x3 x4 u0 : Int32} : pv_R mX2_faultOf 102 [some (.ref 17), some (.ref 10), some (.int x2), some (.int x3), some (.int x4)] [.int u0] (pv_em S) = some (some (.int u0), pv_em S) := pv_Rret dX2_faultOf_102 rfl
theorem dX5_begin_0 : decode cX5_begin 0 = .ok (.aload_n 0, 1) := by decide +kernel
theorem dX5_begin_1 : decode cX5_begin 1 = .ok (.aload_n 1, 1) := by decide +kernel
theorem dX5_begin_2 : decode cX5_begin 2 = .ok (.getfield 35, 3) := by decide +kernel
theorem dX5_begin_5 : decode cX5_begin 5 = .ok (.putfield 41, 3) := by decide +kernel
theorem dX5_begin_8 : decode cX5_begin 8 = .ok (.aload_n 0, 1) := by decide +kernel
theorem dX5_begin_9 : decode cX5_begin 9 = .ok (.aload_n 1, 1) := by decide +kernel
theorem dX5_begin_10 : decode cX5_begin 10 = .ok (.getfield 42, 3) := by decide +kernel
theorem dX5_begin_13 : decode cX5_begin 13 = .ok (.putfield 45, 3) := by decide +kernel
theorem dX5_begin_16 : decode cX5_begin 16 = .ok (.iconst 0, 1) := by decide +kernel
theorem dX5_begin_17 : decode cX5_begin 17 = .ok (.istore_n 2, 1) := by decide +kernel
theorem dX5_begin_18 : decode cX5_begin 18 = .ok (.iload_n 2, 1) := by decide +kernel
theorem dX5_begin_19 : decode cX5_begin 19 = .ok (.aload_n 0, 1) := by decide +kernel
theorem dX5_begin_20 : decode cX5_begin 20 = .ok (.getfield 41, 3) := by decide +kernel
theorem dX5_begin_23 : decode cX5_begin 23 = .ok (.if_icmp .ge 45, 3) := by decide +kernel
theorem dX5_begin_26 : decode cX5_begin 26 = .ok (.aload_n 0, 1) := by decide +kernel
theorem dX5_begin_27 : decode cX5_begin 27 = .ok (.getfield 9, 3) := by decide +kernel
theorem dX5_begin_30 : decode cX5_begin 30 = .ok (.iload_n 2, 1) := by decide +kernel
theorem dX5_begin_31 : decode cX5_begin 31 = .ok (.aload_n 1, 1) := by decide +kernel
theorem dX5_begin_32 : decode cX5_begin 32 = .ok (.getfield 46, 3) := by decide +kernel
theorem dX5_begin_35 : decode cX5_begin 35 = .ok (.iload_n 2, 1) := by decide +kernel
theorem dX5_begin_36 : decode cX5_begin 36 = .ok (.iaload, 1) := by decide +kernel
theorem dX5_begin_37 : decode cX5_begin 37 = .ok (.iastore, 1) := by decide +kernel
theorem dX5_begin_38 : decode cX5_begin 38 = .ok (.aload_n 0, 1) := by decide +kernel
theorem dX5_begin_39 : decode cX5_begin 39 = .ok (.getfield 15, 3) := by decide +kernel
theorem dX5_begin_42 : decode cX5_begin 42 = .ok (.iload_n 2, 1) := by decide +kernel
theorem dX5_begin_43 : decode cX5_begin 43 = .ok (.aload_n 1, 1) := by decide +kernel
theorem dX5_begin_44 : decode cX5_begin 44 = .ok (.getfield 47, 3) := by decide +kernel
theorem dX5_begin_47 : decode cX5_begin 47 = .ok (.iload_n 2, 1) := by decide +kernel
theorem dX5_begin_48 : decode cX5_begin 48 = .ok (.iaload, 1) := by decide +kernel
theorem dX5_begin_49 : decode cX5_begin 49 = .ok (.iastore, 1) := by decide +kernel
theorem dX5_begin_50 : decode cX5_begin 50 = .ok (.aload_n 0, 1) := by decide +kernel
theorem dX5_begin_51 : decode cX5_begin 51 = .ok (.getfield 18, 3) := by decide +kernel
theorem dX5_begin_54 : decode cX5_begin 54 = .ok (.iload_n 2, 1) := by decide +kernel
theorem dX5_begin_55 : decode cX5_begin 55 = .ok (.aload_n 1, 1) := by decide +kernel
theorem dX5_begin_56 : decode cX5_begin 56 = .ok (.getfield 48, 3) := by decide +kernel
theorem dX5_begin_59 : decode cX5_begin 59 = .ok (.iload_n 2, 1) := by decide +kernel
theorem dX5_begin_60 : decode cX5_begin 60 = .ok (.iaload, 1) := by decide +kernel
theorem dX5_begin_61 : decode cX5_begin 61 = .ok (.iastore, 1) := by decide +kernel
theorem dX5_begin_62 : decode cX5_begin 62 = .ok (.iinc 2 1, 3) := by decide +kernel
theorem dX5_begin_65 : decode cX5_begin 65 = .ok (.goto (-47), 3) := by decide +kernel
theorem dX5_begin_68 : decode cX5_begin 68 = .ok (.iconst 0, 1) := by decide +kernel
theorem dX5_begin_69 : decode cX5_begin 69 = .ok (.istore_n 2, 1) := by decide +kernel
theorem dX5_begin_70 : decode cX5_begin 70 = .ok (.iload_n 2, 1) := by decide +kernel
theorem dX5_begin_71 : decode cX5_begin 71 = .ok (.iconst 3, 1) := by decide +kernel
theorem dX5_begin_72 : decode cX5_begin 72 = .ok (.if_icmp .ge 16, 3) := by decide +kernel
theorem dX5_begin_75 : decode cX5_begin 75 = .ok (.aload_n 0, 1) := by decide +kernel
theorem dX5_begin_76 : decode cX5_begin 76 = .ok (.getfield 27, 3) := by decide +kernel
theorem dX5_begin_79 : decode cX5_begin 79 = .ok (.iload_n 2, 1) := by decide +kernel
theorem dX5_begin_80 : decode cX5_begin 80 = .ok (.iconst (-1), 1) := by decide +kernel
theorem dX5_begin_81 : decode cX5_begin 81 = .ok (.iastore, 1) := by decide +kernel
theorem dX5_begin_82 : decode cX5_begin 82 = .ok (.iinc 2 1, 3) := by decide +kernel
theorem dX5_begin_85 : decode cX5_begin 85 = .ok (.goto (-15), 3) := by decide +kernel
theorem dX5_begin_88 : decode cX5_begin 88 = .ok (.aload_n 0, 1) := by decide +kernel
theorem dX5_begin_89 : decode cX5_begin 89 = .ok (.iconst 0, 1) := by decide +kernel
theorem dX5_begin_90 : decode cX5_begin 90 = .ok (.invokevirtual 49, 3) := by decide +kernel
theorem dX5_begin_93 : decode cX5_begin 93 = .ok (.return_, 1) := by decide +kernel
set_option maxHeartbeats 200000 in
theorem bX5_begin_0 {S : pv_S} {a2 : Option Value} : pv_R mX5_begin 0 [some (.ref 21), some (.ref 17), a2] [] (pv_em S) = pv_R mX5_begin 18 [some (.ref 21), some (.ref 17), some (.int 0)] [] (pv_em (pv_si (pv_si S 21 7 (S.1 17 4)) 21 8 ((pv_si S 21 7 (S.1 17 4)).1 17 3))) := Eq.trans (pv_Rstp dX5_begin_0 rfl rfl rfl) (Eq.trans (pv_Rstp dX5_begin_1 rfl rfl rfl) (Eq.trans (pv_Rget dX5_begin_2 ffX5_35 (by decide) (pv_ce_17 _ _) rfl) (Eq.trans (pv_Rput dX5_begin_5 ffX5_41 rfl rfl rfl (by decide) (pv_ce_21 _ _) (Nat.le_of_ble_eq_true rfl) (pv_em_si rfl)) (Eq.trans (pv_Rstp dX5_begin_8 rfl rfl rfl) (Eq.trans (pv_Rstp dX5_begin_9 rfl rfl rfl) (Eq.trans (pv_Rget dX5_begin_10 ffX5_42 (by decide) (pv_ce_17 _ _) rfl) (Eq.trans (pv_Rput dX5_begin_13 ffX5_45 rfl rfl rfl (by decide) (pv_ce_21 _ _) (Nat.le_of_ble_eq_true rfl) (pv_em_si rfl)) (Eq.trans (pv_Ric dX5_begin_16 ki_0) (pv_Rstp dX5_begin_17 rfl rfl rfl)))))))))
set_option maxHeartbeats 200000 in
theorem bX5_begin_18 {S : pv_S} {x2 : Int32} : pv_R mX5_begin 18 [some (.ref 21), some (.ref 17), some (.int x2)] [] (pv_em S) = if (S.1 21 7) ≤ x2 then pv_R mX5_begin 68 [some (.ref 21), some (.ref 17), some (.int x2)] [] (pv_em S) else pv_R mX5_begin 26 [some (.ref 21), some (.ref 17), some (.int x2)] [] (pv_em S) := Eq.trans (pv_Rstp dX5_begin_18 rfl rfl rfl) (Eq.trans (pv_Rstp dX5_begin_19 rfl rfl rfl) (Eq.trans (pv_Rget dX5_begin_20 ffX5_41 (by decide) (pv_ce_21 _ _) rfl) (pv_Rbr (tgt := 68) dX5_begin_23 rfl rfl rfl rfl rfl (by decide))))
set_option maxHeartbeats 200000 in
theorem bX5_begin_26 {S : pv_S} {x2 : Int32} : pv_R mX5_begin 26 [some (.ref 21), some (.ref 17), some (.int x2)] [] (pv_em S) = if x2 < 0 ∨ 6 ≤ x2.toNatClampNeg then none else if x2 < 0 ∨ 6 ≤ x2.toNatClampNeg then none else if x2 < 0 ∨ 6 ≤ x2.toNatClampNeg then none else if x2 < 0 ∨ 6 ≤ x2.toNatClampNeg then none else if x2 < 0 ∨ 6 ≤ x2.toNatClampNeg then none else if x2 < 0 ∨ 6 ≤ x2.toNatClampNeg then none else pv_R mX5_begin 18 [some (.ref 21), some (.ref 17), some (.int (x2 + 1))] [] (pv_em (pv_si (pv_si (pv_si S 22 x2.toNatClampNeg (S.1 18 x2.toNatClampNeg)) 23 x2.toNatClampNeg ((pv_si S 22 x2.toNatClampNeg (S.1 18 x2.toNatClampNeg)).1 20 x2.toNatClampNeg)) 24 x2.toNatClampNeg ((pv_si (pv_si S 22 x2.toNatClampNeg (S.1 18 x2.toNatClampNeg)) 23 x2.toNatClampNeg ((pv_si S 22 x2.toNatClampNeg (S.1 18 x2.toNatClampNeg)).1 20 x2.toNatClampNeg)).1 19 x2.toNatClampNeg))) := Eq.trans (pv_Rstp dX5_begin_26 rfl rfl rfl) (Eq.trans (pv_Rget dX5_begin_27 ffX5_9 (by decide) (pv_ce_21 _ _) rfl) (Eq.trans (pv_Rstp dX5_begin_30 rfl rfl rfl) (Eq.trans (pv_Rstp dX5_begin_31 rfl rfl rfl) (Eq.trans (pv_Rget dX5_begin_32 ffX5_46 (by decide) (pv_ce_17 _ _) rfl) (Eq.trans (pv_Rstp dX5_begin_35 rfl rfl rfl) (Eq.trans (pv_Rald dX5_begin_36 (by decide) (pv_ce_18 _ _)) (pv_iteN (fun h1 => Eq.trans (pv_Rast dX5_begin_37 (by decide) (pv_ce_22 _ _) (pv_em_si rfl)) (pv_iteN (fun h2 => Eq.trans (pv_Rstp dX5_begin_38 rfl rfl rfl) (Eq.trans (pv_Rget dX5_begin_39 ffX5_15 (by decide) (pv_ce_21 _ _) rfl) (Eq.trans (pv_Rstp dX5_begin_42 rfl rfl rfl) (Eq.trans (pv_Rstp dX5_begin_43 rfl rfl rfl) (Eq.trans (pv_Rget dX5_begin_44 ffX5_47 (by decide) (pv_ce_17 _ _) rfl) (Eq.trans (pv_Rstp dX5_begin_47 rfl rfl rfl) (Eq.trans (pv_Rald dX5_begin_48 (by decide) (pv_ce_20 _ _)) (pv_iteN (fun h3 => Eq.trans (pv_Rast dX5_begin_49 (by decide) (pv_ce_23 _ _) (pv_em_si rfl)) (pv_iteN (fun h4 => Eq.trans (pv_Rstp dX5_begin_50 rfl rfl rfl) (Eq.trans (pv_Rget dX5_begin_51 ffX5_18 (by decide) (pv_ce_21 _ _) rfl) (Eq.trans (pv_Rstp dX5_begin_54 rfl rfl rfl) (Eq.trans (pv_Rstp dX5_begin_55 rfl rfl rfl) (Eq.trans (pv_Rget dX5_begin_56 ffX5_48 (by decide) (pv_ce_17 _ _) rfl) (Eq.trans (pv_Rstp dX5_begin_59 rfl rfl rfl) (Eq.trans (pv_Rald dX5_begin_60 (by decide) (pv_ce_19 _ _)) (pv_iteN (fun h5 => Eq.trans (pv_Rast dX5_begin_61 (by decide) (pv_ce_24 _ _) (pv_em_si rfl)) (pv_iteN (fun h6 => Eq.trans (pv_Rinc dX5_begin_62 rfl (Nat.le_of_ble_eq_true rfl) ki_1 rfl) (pv_Rgo (tgt := 18) dX5_begin_65 rfl (by decide))))))))))))))))))))))))))))))))
set_option maxHeartbeats 200000 in
theorem bX5_begin_68 {S : pv_S} {x2 : Int32} : pv_R mX5_begin 68 [some (.ref 21), some (.ref 17), some (.int x2)] [] (pv_em S) = pv_R mX5_begin 70 [some (.ref 21), some (.ref 17), some (.int 0)] [] (pv_em S) := Eq.trans (pv_Ric dX5_begin_68 ki_0) (pv_Rstp dX5_begin_69 rfl rfl rfl)
set_option maxHeartbeats 200000 in
theorem bX5_begin_70 {S : pv_S} {x2 : Int32} : pv_R mX5_begin 70 [some (.ref 21), some (.ref 17), some (.int x2)] [] (pv_em S) = if 3 ≤ x2 then pv_R mX5_begin 88 [some (.ref 21), some (.ref 17), some (.int x2)] [] (pv_em S) else pv_R mX5_begin 75 [some (.ref 21), some (.ref 17), some (.int x2)] [] (pv_em S) := Eq.trans (pv_Rstp dX5_begin_70 rfl rfl rfl) (Eq.trans (pv_Ric dX5_begin_71 ki_3) (pv_Rbr (tgt := 88) dX5_begin_72 rfl rfl rfl rfl rfl (by decide)))
set_option maxHeartbeats 200000 in
theorem bX5_begin_75 {S : pv_S} {x2 : Int32} : pv_R mX5_begin 75 [some (.ref 21), some (.ref 17), some (.int x2)] [] (pv_em S) = if x2 < 0 ∨ 3 ≤ x2.toNatClampNeg then none else pv_R mX5_begin 70 [some (.ref 21), some (.ref 17), some (.int (x2 + 1))] [] (pv_em (pv_si S 27 x2.toNatClampNeg (-1))) := Eq.trans (pv_Rstp dX5_begin_75 rfl rfl rfl) (Eq.trans (pv_Rget dX5_begin_76 ffX5_27 (by decide) (pv_ce_21 _ _) rfl) (Eq.trans (pv_Rstp dX5_begin_79 rfl rfl rfl) (Eq.trans (pv_Ric dX5_begin_80 ki_m1) (Eq.trans (pv_Rast dX5_begin_81 (by decide) (pv_ce_27 _ _) (pv_em_si rfl)) (pv_iteN (fun h1 => Eq.trans (pv_Rinc dX5_begin_82 rfl (Nat.le_of_ble_eq_true rfl) ki_1 rfl) (pv_Rgo (tgt := 70) dX5_begin_85 rfl (by decide))))))))
set_option maxHeartbeats 200000 in
theorem bX5_begin_88 {S : pv_S} {x2 : Int32} : pv_R mX5_begin 88 [some (.ref 21), some (.ref 17), some (.int x2)] [] (pv_em S) = pv_cc (pv_R mX5_replay 0 [some (.ref 21), some (.int 0), none] [] (pv_em S)) mX5_begin 93 [some (.ref 21), some (.ref 17), some (.int x2)] [] := Eq.trans (pv_Rstp dX5_begin_88 rfl rfl rfl) (Eq.trans (pv_Ric dX5_begin_89 ki_0) (pv_Rcall (As := [.ref 21, .int 0]) (rest := []) dX5_begin_90 rfl mfX5_49 rfl rfl rfl rfl rfl))
set_option maxHeartbeats 200000 in
theorem bX5_begin_93 {S : pv_S} {x2 : Int32} : pv_R mX5_begin 93 [some (.ref 21), some (.ref 17), some (.int x2)] [] (pv_em S) = some (none, pv_em S) := pv_Rret dX5_begin_93 rfl
theorem dX5_isCat_0 : decode cX5_isCat 0 = .ok (.iload_n 1, 1) := by decide +kernel
theorem dX5_isCat_1 : decode cX5_isCat 1 = .ok (.ifCond .lt 15, 3) := by decide +kernel
theorem dX5_isCat_4 : decode cX5_isCat 4 = .ok (.iload_n 1, 1) := by decide +kernel
theorem dX5_isCat_5 : decode cX5_isCat 5 = .ok (.aload_n 0, 1) := by decide +kernel
theorem dX5_isCat_6 : decode cX5_isCat 6 = .ok (.getfield 41, 3) := by decide +kernel
theorem dX5_isCat_9 : decode cX5_isCat 9 = .ok (.if_icmp .ge 7, 3) := by decide +kernel
theorem dX5_isCat_12 : decode cX5_isCat 12 = .ok (.iconst 1, 1) := by decide +kernel
theorem dX5_isCat_13 : decode cX5_isCat 13 = .ok (.goto 4, 3) := by decide +kernel
theorem dX5_isCat_16 : decode cX5_isCat 16 = .ok (.iconst 0, 1) := by decide +kernel
theorem dX5_isCat_17 : decode cX5_isCat 17 = .ok (.ireturn, 1) := by decide +kernel
set_option maxHeartbeats 200000 in
theorem bX5_isCat_0 {S : pv_S} {x1 : Int32} : pv_R mX5_isCat 0 [some (.ref 21), some (.int x1)] [] (pv_em S) = if x1 < 0 then pv_R mX5_isCat 16 [some (.ref 21), some (.int x1)] [] (pv_em S) else pv_R mX5_isCat 4 [some (.ref 21), some (.int x1)] [] (pv_em S) := Eq.trans (pv_Rstp dX5_isCat_0 rfl rfl rfl) (pv_Rbr (tgt := 16) dX5_isCat_1 rfl rfl rfl rfl rfl (by decide))
set_option maxHeartbeats 200000 in
theorem bX5_isCat_4 {S : pv_S} {x1 : Int32} : pv_R mX5_isCat 4 [some (.ref 21), some (.int x1)] [] (pv_em S) = if (S.1 21 7) ≤ x1 then pv_R mX5_isCat 16 [some (.ref 21), some (.int x1)] [] (pv_em S) else pv_R mX5_isCat 12 [some (.ref 21), some (.int x1)] [] (pv_em S) := Eq.trans (pv_Rstp dX5_isCat_4 rfl rfl rfl) (Eq.trans (pv_Rstp dX5_isCat_5 rfl rfl rfl) (Eq.trans (pv_Rget dX5_isCat_6 ffX5_41 (by decide) (pv_ce_21 _ _) rfl) (pv_Rbr (tgt := 16) dX5_isCat_9 rfl rfl rfl rfl rfl (by decide))))
set_option maxHeartbeats 200000 in
theorem bX5_isCat_12 {S : pv_S} {x1 : Int32} : pv_R mX5_isCat 12 [some (.ref 21), some (.int x1)] [] (pv_em S) = pv_R mX5_isCat 17 [some (.ref 21), some (.int x1)] [.int 1] (pv_em S) := Eq.trans (pv_Ric dX5_isCat_12 ki_1) (pv_Rgo (tgt := 17) dX5_isCat_13 rfl (by decide))
set_option maxHeartbeats 200000 in
theorem bX5_isCat_16 {S : pv_S} {x1 : Int32} : pv_R mX5_isCat 16 [some (.ref 21), some (.int x1)] [] (pv_em S) = pv_R mX5_isCat 17 [some (.ref 21), some (.int x1)] [.int 0] (pv_em S) := pv_Ric dX5_isCat_16 ki_0
set_option maxHeartbeats 200000 in
theorem bX5_isCat_17 {S : pv_S} {x1 u0 : Int32} : pv_R mX5_isCat 17 [some (.ref 21), some (.int x1)] [.int u0] (pv_em S) = if vp_nar .boolean u0 = u0 then some (some (.int u0), pv_em S) else none := pv_Rzret dX5_isCat_17 rfl
theorem dX5_trait_0 : decode cX5_trait 0 = .ok (.iload_n 2, 1) := by decide +kernel
theorem dX5_trait_1 : decode cX5_trait 1 = .ok (.tableswitch 58 0 3 #[31, 38, 45, 52], 31) := by decide +kernel
theorem dX5_trait_32 : decode cX5_trait 32 = .ok (.aload_n 0, 1) := by decide +kernel
theorem dX5_trait_33 : decode cX5_trait 33 = .ok (.getfield 9, 3) := by decide +kernel
theorem dX5_trait_36 : decode cX5_trait 36 = .ok (.iload_n 1, 1) := by decide +kernel
theorem dX5_trait_37 : decode cX5_trait 37 = .ok (.iaload, 1) := by decide +kernel
theorem dX5_trait_38 : decode cX5_trait 38 = .ok (.ireturn, 1) := by decide +kernel
theorem dX5_trait_39 : decode cX5_trait 39 = .ok (.aload_n 0, 1) := by decide +kernel
theorem dX5_trait_40 : decode cX5_trait 40 = .ok (.getfield 21, 3) := by decide +kernel
theorem dX5_trait_43 : decode cX5_trait 43 = .ok (.iload_n 1, 1) := by decide +kernel
theorem dX5_trait_44 : decode cX5_trait 44 = .ok (.iaload, 1) := by decide +kernel
theorem dX5_trait_45 : decode cX5_trait 45 = .ok (.ireturn, 1) := by decide +kernel
theorem dX5_trait_46 : decode cX5_trait 46 = .ok (.aload_n 0, 1) := by decide +kernel
theorem dX5_trait_47 : decode cX5_trait 47 = .ok (.getfield 15, 3) := by decide +kernel
theorem dX5_trait_50 : decode cX5_trait 50 = .ok (.iload_n 1, 1) := by decide +kernel
theorem dX5_trait_51 : decode cX5_trait 51 = .ok (.iaload, 1) := by decide +kernel
theorem dX5_trait_52 : decode cX5_trait 52 = .ok (.ireturn, 1) := by decide +kernel
theorem dX5_trait_53 : decode cX5_trait 53 = .ok (.aload_n 0, 1) := by decide +kernel
theorem dX5_trait_54 : decode cX5_trait 54 = .ok (.iload_n 1, 1) := by decide +kernel
theorem dX5_trait_55 : decode cX5_trait 55 = .ok (.invokevirtual 60, 3) := by decide +kernel
theorem dX5_trait_58 : decode cX5_trait 58 = .ok (.ireturn, 1) := by decide +kernel
theorem dX5_trait_59 : decode cX5_trait 59 = .ok (.aload_n 0, 1) := by decide +kernel
theorem dX5_trait_60 : decode cX5_trait 60 = .ok (.getfield 9, 3) := by decide +kernel
theorem dX5_trait_63 : decode cX5_trait 63 = .ok (.iload_n 1, 1) := by decide +kernel
theorem dX5_trait_64 : decode cX5_trait 64 = .ok (.iaload, 1) := by decide +kernel
theorem dX5_trait_65 : decode cX5_trait 65 = .ok (.aload_n 0, 1) := by decide +kernel
theorem dX5_trait_66 : decode cX5_trait 66 = .ok (.getfield 21, 3) := by decide +kernel
theorem dX5_trait_69 : decode cX5_trait 69 = .ok (.iload_n 1, 1) := by decide +kernel
theorem dX5_trait_70 : decode cX5_trait 70 = .ok (.iaload, 1) := by decide +kernel
theorem dX5_trait_71 : decode cX5_trait 71 = .ok (.aload_n 0, 1) := by decide +kernel
theorem dX5_trait_72 : decode cX5_trait 72 = .ok (.getfield 69, 3) := by decide +kernel
theorem dX5_trait_75 : decode cX5_trait 75 = .ok (.invokestatic 72, 3) := by decide +kernel
theorem dX5_trait_78 : decode cX5_trait 78 = .ok (.aload_n 0, 1) := by decide +kernel
theorem dX5_trait_79 : decode cX5_trait 79 = .ok (.getfield 21, 3) := by decide +kernel
theorem dX5_trait_82 : decode cX5_trait 82 = .ok (.iload_n 1, 1) := by decide +kernel
theorem dX5_trait_83 : decode cX5_trait 83 = .ok (.iaload, 1) := by decide +kernel
theorem dX5_trait_84 : decode cX5_trait 84 = .ok (.isub, 1) := by decide +kernel
theorem dX5_trait_85 : decode cX5_trait 85 = .ok (.ireturn, 1) := by decide +kernel
set_option maxHeartbeats 200000 in
theorem bX5_trait_0 {S : pv_S} {x1 x2 : Int32} : pv_R mX5_trait 0 [some (.ref 21), some (.int x1), some (.int x2)] [] (pv_em S) = pv_R mX5_trait (pv_swt (Int32.toInt x2) 0 [32, 39, 46, 53] 59) [some (.ref 21), some (.int x1), some (.int x2)] [] (pv_em S) := Eq.trans (pv_Rstp dX5_trait_0 rfl rfl rfl) (pv_Rtab (lo := 0) (tg := [32, 39, 46, 53]) (dt := 59) dX5_trait_1 (by decide))
set_option maxHeartbeats 200000 in
theorem bX5_trait_32 {S : pv_S} {x1 x2 : Int32} : pv_R mX5_trait 32 [some (.ref 21), some (.int x1), some (.int x2)] [] (pv_em S) = if x1 < 0 ∨ 6 ≤ x1.toNatClampNeg then none else some (some (.int (S.1 22 x1.toNatClampNeg)), pv_em S) := Eq.trans (pv_Rstp dX5_trait_32 rfl rfl rfl) (Eq.trans (pv_Rget dX5_trait_33 ffX5_9 (by decide) (pv_ce_21 _ _) rfl) (Eq.trans (pv_Rstp dX5_trait_36 rfl rfl rfl) (Eq.trans (pv_Rald dX5_trait_37 (by decide) (pv_ce_22 _ _)) (pv_iteN (fun h1 => pv_Rret dX5_trait_38 rfl)))))
set_option maxHeartbeats 200000 in
theorem bX5_trait_39 {S : pv_S} {x1 x2 : Int32} : pv_R mX5_trait 39 [some (.ref 21), some (.int x1), some (.int x2)] [] (pv_em S) = if x1 < 0 ∨ 6 ≤ x1.toNatClampNeg then none else some (some (.int (S.1 25 x1.toNatClampNeg)), pv_em S) := Eq.trans (pv_Rstp dX5_trait_39 rfl rfl rfl) (Eq.trans (pv_Rget dX5_trait_40 ffX5_21 (by decide) (pv_ce_21 _ _) rfl) (Eq.trans (pv_Rstp dX5_trait_43 rfl rfl rfl) (Eq.trans (pv_Rald dX5_trait_44 (by decide) (pv_ce_25 _ _)) (pv_iteN (fun h1 => pv_Rret dX5_trait_45 rfl)))))
set_option maxHeartbeats 200000 in
theorem bX5_trait_46 {S : pv_S} {x1 x2 : Int32} : pv_R mX5_trait 46 [some (.ref 21), some (.int x1), some (.int x2)] [] (pv_em S) = if x1 < 0 ∨ 6 ≤ x1.toNatClampNeg then none else some (some (.int (S.1 23 x1.toNatClampNeg)), pv_em S) := Eq.trans (pv_Rstp dX5_trait_46 rfl rfl rfl) (Eq.trans (pv_Rget dX5_trait_47 ffX5_15 (by decide) (pv_ce_21 _ _) rfl) (Eq.trans (pv_Rstp dX5_trait_50 rfl rfl rfl) (Eq.trans (pv_Rald dX5_trait_51 (by decide) (pv_ce_23 _ _)) (pv_iteN (fun h1 => pv_Rret dX5_trait_52 rfl)))))
set_option maxHeartbeats 200000 in
theorem bX5_trait_53 {S : pv_S} {x1 x2 : Int32} : pv_R mX5_trait 53 [some (.ref 21), some (.int x1), some (.int x2)] [] (pv_em S) = pv_cc (pv_R mX5_mealAdds 0 [some (.ref 21), some (.int x1)] [] (pv_em S)) mX5_trait 58 [some (.ref 21), some (.int x1), some (.int x2)] [] := Eq.trans (pv_Rstp dX5_trait_53 rfl rfl rfl) (Eq.trans (pv_Rstp dX5_trait_54 rfl rfl rfl) (pv_Rcall (As := [.ref 21, .int x1]) (rest := []) dX5_trait_55 rfl mfX5_60 rfl rfl rfl rfl rfl))
set_option maxHeartbeats 200000 in
theorem bX5_trait_58 {S : pv_S} {x1 x2 u0 : Int32} : pv_R mX5_trait 58 [some (.ref 21), some (.int x1), some (.int x2)] [.int u0] (pv_em S) = some (some (.int u0), pv_em S) := pv_Rret dX5_trait_58 rfl
set_option maxHeartbeats 200000 in
theorem bX5_trait_59 {S : pv_S} {x1 x2 : Int32} : pv_R mX5_trait 59 [some (.ref 21), some (.int x1), some (.int x2)] [] (pv_em S) = if x1 < 0 ∨ 6 ≤ x1.toNatClampNeg then none else if x1 < 0 ∨ 6 ≤ x1.toNatClampNeg then none else pv_cc (pv_R mX0_afterHour 0 [some (.int (S.1 22 x1.toNatClampNeg)), some (.int (S.1 25 x1.toNatClampNeg)), some (.int (S.1 21 9))] [] (pv_em S)) mX5_trait 78 [some (.ref 21), some (.int x1), some (.int x2)] [] := Eq.trans (pv_Rstp dX5_trait_59 rfl rfl rfl) (Eq.trans (pv_Rget dX5_trait_60 ffX5_9 (by decide) (pv_ce_21 _ _) rfl) (Eq.trans (pv_Rstp dX5_trait_63 rfl rfl rfl) (Eq.trans (pv_Rald dX5_trait_64 (by decide) (pv_ce_22 _ _)) (pv_iteN (fun h1 => Eq.trans (pv_Rstp dX5_trait_65 rfl rfl rfl) (Eq.trans (pv_Rget dX5_trait_66 ffX5_21 (by decide) (pv_ce_21 _ _) rfl) (Eq.trans (pv_Rstp dX5_trait_69 rfl rfl rfl) (Eq.trans (pv_Rald dX5_trait_70 (by decide) (pv_ce_25 _ _)) (pv_iteN (fun h2 => Eq.trans (pv_Rstp dX5_trait_71 rfl rfl rfl) (Eq.trans (pv_Rget dX5_trait_72 ffX5_69 (by decide) (pv_ce_21 _ _) rfl) (pv_Rcall (As := [.int (S.1 22 x1.toNatClampNeg), .int (S.1 25 x1.toNatClampNeg), .int (S.1 21 9)]) (rest := []) dX5_trait_75 rfl mfX5_72 rfl rfl rfl rfl rfl))))))))))))
set_option maxHeartbeats 200000 in
theorem bX5_trait_78 {S : pv_S} {x1 x2 u0 : Int32} : pv_R mX5_trait 78 [some (.ref 21), some (.int x1), some (.int x2)] [.int u0] (pv_em S) = if x1 < 0 ∨ 6 ≤ x1.toNatClampNeg then none else some (some (.int (u0 - (S.1 25 x1.toNatClampNeg))), pv_em S) := Eq.trans (pv_Rstp dX5_trait_78 rfl rfl rfl) (Eq.trans (pv_Rget dX5_trait_79 ffX5_21 (by decide) (pv_ce_21 _ _) rfl) (Eq.trans (pv_Rstp dX5_trait_82 rfl rfl rfl) (Eq.trans (pv_Rald dX5_trait_83 (by decide) (pv_ce_25 _ _)) (pv_iteN (fun h1 => Eq.trans (pv_Rstp dX5_trait_84 rfl rfl rfl) (pv_Rret dX5_trait_85 rfl))))))
theorem dX5_countOf_0 : decode cX5_countOf 0 = .ok (.iconst 0, 1) := by decide +kernel
theorem dX5_countOf_1 : decode cX5_countOf 1 = .ok (.istore_n 2, 1) := by decide +kernel
theorem dX5_countOf_2 : decode cX5_countOf 2 = .ok (.iconst 0, 1) := by decide +kernel
theorem dX5_countOf_3 : decode cX5_countOf 3 = .ok (.istore_n 3, 1) := by decide +kernel
theorem dX5_countOf_4 : decode cX5_countOf 4 = .ok (.iload_n 3, 1) := by decide +kernel
theorem dX5_countOf_5 : decode cX5_countOf 5 = .ok (.aload_n 0, 1) := by decide +kernel
theorem dX5_countOf_6 : decode cX5_countOf 6 = .ok (.getfield 41, 3) := by decide +kernel
theorem dX5_countOf_9 : decode cX5_countOf 9 = .ok (.if_icmp .ge 25, 3) := by decide +kernel
theorem dX5_countOf_12 : decode cX5_countOf 12 = .ok (.aload_n 0, 1) := by decide +kernel
theorem dX5_countOf_13 : decode cX5_countOf 13 = .ok (.getfield 9, 3) := by decide +kernel
theorem dX5_countOf_16 : decode cX5_countOf 16 = .ok (.iload_n 3, 1) := by decide +kernel
theorem dX5_countOf_17 : decode cX5_countOf 17 = .ok (.iaload, 1) := by decide +kernel
theorem dX5_countOf_18 : decode cX5_countOf 18 = .ok (.iload_n 1, 1) := by decide +kernel
theorem dX5_countOf_19 : decode cX5_countOf 19 = .ok (.invokestatic 76, 3) := by decide +kernel
theorem dX5_countOf_22 : decode cX5_countOf 22 = .ok (.ifCond .eq 6, 3) := by decide +kernel
theorem dX5_countOf_25 : decode cX5_countOf 25 = .ok (.iinc 2 1, 3) := by decide +kernel
theorem dX5_countOf_28 : decode cX5_countOf 28 = .ok (.iinc 3 1, 3) := by decide +kernel
theorem dX5_countOf_31 : decode cX5_countOf 31 = .ok (.goto (-27), 3) := by decide +kernel
theorem dX5_countOf_34 : decode cX5_countOf 34 = .ok (.iload_n 2, 1) := by decide +kernel
theorem dX5_countOf_35 : decode cX5_countOf 35 = .ok (.ireturn, 1) := by decide +kernel
set_option maxHeartbeats 200000 in
theorem bX5_countOf_0 {S : pv_S} {x1 : Int32} {a2 a3 : Option Value} : pv_R mX5_countOf 0 [some (.ref 21), some (.int x1), a2, a3] [] (pv_em S) = pv_R mX5_countOf 4 [some (.ref 21), some (.int x1), some (.int 0), some (.int 0)] [] (pv_em S) := Eq.trans (pv_Ric dX5_countOf_0 ki_0) (Eq.trans (pv_Rstp dX5_countOf_1 rfl rfl rfl) (Eq.trans (pv_Ric dX5_countOf_2 ki_0) (pv_Rstp dX5_countOf_3 rfl rfl rfl)))
set_option maxHeartbeats 200000 in
theorem bX5_countOf_4 {S : pv_S} {x1 x2 x3 : Int32} : pv_R mX5_countOf 4 [some (.ref 21), some (.int x1), some (.int x2), some (.int x3)] [] (pv_em S) = if (S.1 21 7) ≤ x3 then pv_R mX5_countOf 34 [some (.ref 21), some (.int x1), some (.int x2), some (.int x3)] [] (pv_em S) else pv_R mX5_countOf 12 [some (.ref 21), some (.int x1), some (.int x2), some (.int x3)] [] (pv_em S) := Eq.trans (pv_Rstp dX5_countOf_4 rfl rfl rfl) (Eq.trans (pv_Rstp dX5_countOf_5 rfl rfl rfl) (Eq.trans (pv_Rget dX5_countOf_6 ffX5_41 (by decide) (pv_ce_21 _ _) rfl) (pv_Rbr (tgt := 34) dX5_countOf_9 rfl rfl rfl rfl rfl (by decide))))
set_option maxHeartbeats 200000 in
theorem bX5_countOf_12 {S : pv_S} {x1 x2 x3 : Int32} : pv_R mX5_countOf 12 [some (.ref 21), some (.int x1), some (.int x2), some (.int x3)] [] (pv_em S) = if x3 < 0 ∨ 6 ≤ x3.toNatClampNeg then none else pv_cc (pv_R mX0_isOf 0 [some (.int (S.1 22 x3.toNatClampNeg)), some (.int x1)] [] (pv_em S)) mX5_countOf 22 [some (.ref 21), some (.int x1), some (.int x2), some (.int x3)] [] := Eq.trans (pv_Rstp dX5_countOf_12 rfl rfl rfl) (Eq.trans (pv_Rget dX5_countOf_13 ffX5_9 (by decide) (pv_ce_21 _ _) rfl) (Eq.trans (pv_Rstp dX5_countOf_16 rfl rfl rfl) (Eq.trans (pv_Rald dX5_countOf_17 (by decide) (pv_ce_22 _ _)) (pv_iteN (fun h1 => Eq.trans (pv_Rstp dX5_countOf_18 rfl rfl rfl) (pv_Rcall (As := [.int (S.1 22 x3.toNatClampNeg), .int x1]) (rest := []) dX5_countOf_19 rfl mfX5_76 rfl rfl rfl rfl rfl))))))
set_option maxHeartbeats 200000 in
theorem bX5_countOf_22 {S : pv_S} {x1 x2 x3 u0 : Int32} : pv_R mX5_countOf 22 [some (.ref 21), some (.int x1), some (.int x2), some (.int x3)] [.int u0] (pv_em S) = if u0 = 0 then pv_R mX5_countOf 28 [some (.ref 21), some (.int x1), some (.int x2), some (.int x3)] [] (pv_em S) else pv_R mX5_countOf 25 [some (.ref 21), some (.int x1), some (.int x2), some (.int x3)] [] (pv_em S) := pv_Rbr (tgt := 28) dX5_countOf_22 rfl rfl rfl rfl rfl (by decide)
set_option maxHeartbeats 200000 in
theorem bX5_countOf_25 {S : pv_S} {x1 x2 x3 : Int32} : pv_R mX5_countOf 25 [some (.ref 21), some (.int x1), some (.int x2), some (.int x3)] [] (pv_em S) = pv_R mX5_countOf 28 [some (.ref 21), some (.int x1), some (.int (x2 + 1)), some (.int x3)] [] (pv_em S) := pv_Rinc dX5_countOf_25 rfl (Nat.le_of_ble_eq_true rfl) ki_1 rfl
set_option maxHeartbeats 200000 in
theorem bX5_countOf_28 {S : pv_S} {x1 x2 x3 : Int32} : pv_R mX5_countOf 28 [some (.ref 21), some (.int x1), some (.int x2), some (.int x3)] [] (pv_em S) = pv_R mX5_countOf 4 [some (.ref 21), some (.int x1), some (.int x2), some (.int (x3 + 1))] [] (pv_em S) := Eq.trans (pv_Rinc dX5_countOf_28 rfl (Nat.le_of_ble_eq_true rfl) ki_1 rfl) (pv_Rgo (tgt := 4) dX5_countOf_31 rfl (by decide))
set_option maxHeartbeats 200000 in
theorem bX5_countOf_34 {S : pv_S} {x1 x2 x3 : Int32} : pv_R mX5_countOf 34 [some (.ref 21), some (.int x1), some (.int x2), some (.int x3)] [] (pv_em S) = some (some (.int x2), pv_em S) := Eq.trans (pv_Rstp dX5_countOf_34 rfl rfl rfl) (pv_Rret dX5_countOf_35 rfl)
theorem dX5_mealAdds_0 : decode cX5_mealAdds 0 = .ok (.aload_n 0, 1) := by decide +kernel
theorem dX5_mealAdds_1 : decode cX5_mealAdds 1 = .ok (.getfield 9, 3) := by decide +kernel
theorem dX5_mealAdds_4 : decode cX5_mealAdds 4 = .ok (.iload_n 1, 1) := by decide +kernel
theorem dX5_mealAdds_5 : decode cX5_mealAdds 5 = .ok (.iaload, 1) := by decide +kernel
theorem dX5_mealAdds_6 : decode cX5_mealAdds 6 = .ok (.aload_n 0, 1) := by decide +kernel
theorem dX5_mealAdds_7 : decode cX5_mealAdds 7 = .ok (.getfield 15, 3) := by decide +kernel
theorem dX5_mealAdds_10 : decode cX5_mealAdds 10 = .ok (.iload_n 1, 1) := by decide +kernel
theorem dX5_mealAdds_11 : decode cX5_mealAdds 11 = .ok (.iaload, 1) := by decide +kernel
theorem dX5_mealAdds_12 : decode cX5_mealAdds 12 = .ok (.invokestatic 64, 3) := by decide +kernel
theorem dX5_mealAdds_15 : decode cX5_mealAdds 15 = .ok (.ireturn, 1) := by decide +kernel
set_option maxHeartbeats 200000 in
theorem bX5_mealAdds_0 {S : pv_S} {x1 : Int32} : pv_R mX5_mealAdds 0 [some (.ref 21), some (.int x1)] [] (pv_em S) = if x1 < 0 ∨ 6 ≤ x1.toNatClampNeg then none else if x1 < 0 ∨ 6 ≤ x1.toNatClampNeg then none else pv_cc (pv_R mX0_mealAdds 0 [some (.int (S.1 22 x1.toNatClampNeg)), some (.int (S.1 23 x1.toNatClampNeg))] [] (pv_em S)) mX5_mealAdds 15 [some (.ref 21), some (.int x1)] [] := Eq.trans (pv_Rstp dX5_mealAdds_0 rfl rfl rfl) (Eq.trans (pv_Rget dX5_mealAdds_1 ffX5_9 (by decide) (pv_ce_21 _ _) rfl) (Eq.trans (pv_Rstp dX5_mealAdds_4 rfl rfl rfl) (Eq.trans (pv_Rald dX5_mealAdds_5 (by decide) (pv_ce_22 _ _)) (pv_iteN (fun h1 => Eq.trans (pv_Rstp dX5_mealAdds_6 rfl rfl rfl) (Eq.trans (pv_Rget dX5_mealAdds_7 ffX5_15 (by decide) (pv_ce_21 _ _) rfl) (Eq.trans (pv_Rstp dX5_mealAdds_10 rfl rfl rfl) (Eq.trans (pv_Rald dX5_mealAdds_11 (by decide) (pv_ce_23 _ _)) (pv_iteN (fun h2 => pv_Rcall (As := [.int (S.1 22 x1.toNatClampNeg), .int (S.1 23 x1.toNatClampNeg)]) (rest := []) dX5_mealAdds_12 rfl mfX5_64 rfl rfl rfl rfl rfl))))))))))
set_option maxHeartbeats 200000 in
theorem bX5_mealAdds_15 {S : pv_S} {x1 u0 : Int32} : pv_R mX5_mealAdds 15 [some (.ref 21), some (.int x1)] [.int u0] (pv_em S) = some (some (.int u0), pv_em S) := pv_Rret dX5_mealAdds_15 rfl
theorem dX5_doDeed_0 : decode cX5_doDeed 0 = .ok (.aload_n 0, 1) := by decide +kernel
theorem dX5_doDeed_1 : decode cX5_doDeed 1 = .ok (.iconst 1, 1) := by decide +kernel
theorem dX5_doDeed_2 : decode cX5_doDeed 2 = .ok (.invokevirtual 90, 3) := by decide +kernel
theorem dX5_doDeed_5 : decode cX5_doDeed 5 = .ok (.ifCond .ne 4, 3) := by decide +kernel
theorem dX5_doDeed_8 : decode cX5_doDeed 8 = .ok (.return_, 1) := by decide +kernel
theorem dX5_doDeed_9 : decode cX5_doDeed 9 = .ok (.aload_n 0, 1) := by decide +kernel
theorem dX5_doDeed_10 : decode cX5_doDeed 10 = .ok (.getfield 24, 3) := by decide +kernel
theorem dX5_doDeed_13 : decode cX5_doDeed 13 = .ok (.aload_n 0, 1) := by decide +kernel
theorem dX5_doDeed_14 : decode cX5_doDeed 14 = .ok (.getfield 80, 3) := by decide +kernel
theorem dX5_doDeed_17 : decode cX5_doDeed 17 = .ok (.iload_n 1, 1) := by decide +kernel
theorem dX5_doDeed_18 : decode cX5_doDeed 18 = .ok (.iastore, 1) := by decide +kernel
theorem dX5_doDeed_19 : decode cX5_doDeed 19 = .ok (.aload_n 0, 1) := by decide +kernel
theorem dX5_doDeed_20 : decode cX5_doDeed 20 = .ok (.dup, 1) := by decide +kernel
theorem dX5_doDeed_21 : decode cX5_doDeed 21 = .ok (.getfield 80, 3) := by decide +kernel
theorem dX5_doDeed_24 : decode cX5_doDeed 24 = .ok (.iconst 1, 1) := by decide +kernel
theorem dX5_doDeed_25 : decode cX5_doDeed 25 = .ok (.iadd, 1) := by decide +kernel
theorem dX5_doDeed_26 : decode cX5_doDeed 26 = .ok (.putfield 80, 3) := by decide +kernel
theorem dX5_doDeed_29 : decode cX5_doDeed 29 = .ok (.aload_n 0, 1) := by decide +kernel
theorem dX5_doDeed_30 : decode cX5_doDeed 30 = .ok (.iload_n 1, 1) := by decide +kernel
theorem dX5_doDeed_31 : decode cX5_doDeed 31 = .ok (.invokevirtual 93, 3) := by decide +kernel
theorem dX5_doDeed_34 : decode cX5_doDeed 34 = .ok (.return_, 1) := by decide +kernel
set_option maxHeartbeats 200000 in
theorem bX5_doDeed_0 {S : pv_S} {x1 : Int32} : pv_R mX5_doDeed 0 [some (.ref 21), some (.int x1)] [] (pv_em S) = pv_cc (pv_R mX5_hasRoomFor 0 [some (.ref 21), some (.int 1)] [] (pv_em S)) mX5_doDeed 5 [some (.ref 21), some (.int x1)] [] := Eq.trans (pv_Rstp dX5_doDeed_0 rfl rfl rfl) (Eq.trans (pv_Ric dX5_doDeed_1 ki_1) (pv_Rcall (As := [.ref 21, .int 1]) (rest := []) dX5_doDeed_2 rfl mfX5_90 rfl rfl rfl rfl rfl))
set_option maxHeartbeats 200000 in
theorem bX5_doDeed_5 {S : pv_S} {x1 u0 : Int32} : pv_R mX5_doDeed 5 [some (.ref 21), some (.int x1)] [.int u0] (pv_em S) = if ¬ u0 = 0 then pv_R mX5_doDeed 9 [some (.ref 21), some (.int x1)] [] (pv_em S) else pv_R mX5_doDeed 8 [some (.ref 21), some (.int x1)] [] (pv_em S) := pv_Rbr (tgt := 9) dX5_doDeed_5 rfl rfl rfl rfl rfl (by decide)
set_option maxHeartbeats 200000 in
theorem bX5_doDeed_8 {S : pv_S} {x1 : Int32} : pv_R mX5_doDeed 8 [some (.ref 21), some (.int x1)] [] (pv_em S) = some (none, pv_em S) := pv_Rret dX5_doDeed_8 rfl
set_option maxHeartbeats 200000 in
theorem bX5_doDeed_9 {S : pv_S} {x1 : Int32} : pv_R mX5_doDeed 9 [some (.ref 21), some (.int x1)] [] (pv_em S) = if (S.1 21 13) < 0 ∨ 40 ≤ (S.1 21 13).toNatClampNeg then none else pv_cc (pv_R mX5_act 0 [some (.ref 21), some (.int x1), none] [] (pv_em (pv_si (pv_si S 26 (S.1 21 13).toNatClampNeg x1) 21 13 (((pv_si S 26 (S.1 21 13).toNatClampNeg x1).1 21 13) + 1)))) mX5_doDeed 34 [some (.ref 21), some (.int x1)] [] := Eq.trans (pv_Rstp dX5_doDeed_9 rfl rfl rfl) (Eq.trans (pv_Rget dX5_doDeed_10 ffX5_24 (by decide) (pv_ce_21 _ _) rfl) (Eq.trans (pv_Rstp dX5_doDeed_13 rfl rfl rfl) (Eq.trans (pv_Rget dX5_doDeed_14 ffX5_80 (by decide) (pv_ce_21 _ _) rfl) (Eq.trans (pv_Rstp dX5_doDeed_17 rfl rfl rfl) (Eq.trans (pv_Rast dX5_doDeed_18 (by decide) (pv_ce_26 _ _) (pv_em_si rfl)) (pv_iteN (fun h1 => Eq.trans (pv_Rstp dX5_doDeed_19 rfl rfl rfl) (Eq.trans (pv_Rstp dX5_doDeed_20 rfl rfl rfl) (Eq.trans (pv_Rget dX5_doDeed_21 ffX5_80 (by decide) (pv_ce_21 _ _) rfl) (Eq.trans (pv_Ric dX5_doDeed_24 ki_1) (Eq.trans (pv_Rstp dX5_doDeed_25 rfl rfl rfl) (Eq.trans (pv_Rput dX5_doDeed_26 ffX5_80 rfl rfl rfl (by decide) (pv_ce_21 _ _) (Nat.le_of_ble_eq_true rfl) (pv_em_si rfl)) (Eq.trans (pv_Rstp dX5_doDeed_29 rfl rfl rfl) (Eq.trans (pv_Rstp dX5_doDeed_30 rfl rfl rfl) (pv_Rcall (As := [.ref 21, .int x1]) (rest := []) dX5_doDeed_31 rfl mfX5_93 rfl rfl rfl rfl rfl)))))))))))))))
set_option maxHeartbeats 200000 in
theorem bX5_doDeed_34 {S : pv_S} {x1 : Int32} : pv_R mX5_doDeed 34 [some (.ref 21), some (.int x1)] [] (pv_em S) = some (none, pv_em S) := pv_Rret dX5_doDeed_34 rfl
theorem dX5_hasRoomFor_0 : decode cX5_hasRoomFor 0 = .ok (.aload_n 0, 1) := by decide +kernel
theorem dX5_hasRoomFor_1 : decode cX5_hasRoomFor 1 = .ok (.getfield 80, 3) := by decide +kernel
theorem dX5_hasRoomFor_4 : decode cX5_hasRoomFor 4 = .ok (.iload_n 1, 1) := by decide +kernel
theorem dX5_hasRoomFor_5 : decode cX5_hasRoomFor 5 = .ok (.iadd, 1) := by decide +kernel
theorem dX5_hasRoomFor_6 : decode cX5_hasRoomFor 6 = .ok (.bipush 40, 2) := by decide +kernel
theorem dX5_hasRoomFor_8 : decode cX5_hasRoomFor 8 = .ok (.if_icmp .gt 7, 3) := by decide +kernel
theorem dX5_hasRoomFor_11 : decode cX5_hasRoomFor 11 = .ok (.iconst 1, 1) := by decide +kernel
theorem dX5_hasRoomFor_12 : decode cX5_hasRoomFor 12 = .ok (.goto 4, 3) := by decide +kernel
theorem dX5_hasRoomFor_15 : decode cX5_hasRoomFor 15 = .ok (.iconst 0, 1) := by decide +kernel
theorem dX5_hasRoomFor_16 : decode cX5_hasRoomFor 16 = .ok (.ireturn, 1) := by decide +kernel
set_option maxHeartbeats 200000 in
theorem bX5_hasRoomFor_0 {S : pv_S} {x1 : Int32} : pv_R mX5_hasRoomFor 0 [some (.ref 21), some (.int x1)] [] (pv_em S) = if 40 < ((S.1 21 13) + x1) then pv_R mX5_hasRoomFor 15 [some (.ref 21), some (.int x1)] [] (pv_em S) else pv_R mX5_hasRoomFor 11 [some (.ref 21), some (.int x1)] [] (pv_em S) := Eq.trans (pv_Rstp dX5_hasRoomFor_0 rfl rfl rfl) (Eq.trans (pv_Rget dX5_hasRoomFor_1 ffX5_80 (by decide) (pv_ce_21 _ _) rfl) (Eq.trans (pv_Rstp dX5_hasRoomFor_4 rfl rfl rfl) (Eq.trans (pv_Rstp dX5_hasRoomFor_5 rfl rfl rfl) (Eq.trans (pv_Rbp dX5_hasRoomFor_6 kb_40) (pv_Rbr (tgt := 15) dX5_hasRoomFor_8 rfl rfl rfl rfl rfl (by decide))))))
set_option maxHeartbeats 200000 in
theorem bX5_hasRoomFor_11 {S : pv_S} {x1 : Int32} : pv_R mX5_hasRoomFor 11 [some (.ref 21), some (.int x1)] [] (pv_em S) = pv_R mX5_hasRoomFor 16 [some (.ref 21), some (.int x1)] [.int 1] (pv_em S) := Eq.trans (pv_Ric dX5_hasRoomFor_11 ki_1) (pv_Rgo (tgt := 16) dX5_hasRoomFor_12 rfl (by decide))
set_option maxHeartbeats 200000 in
theorem bX5_hasRoomFor_15 {S : pv_S} {x1 : Int32} : pv_R mX5_hasRoomFor 15 [some (.ref 21), some (.int x1)] [] (pv_em S) = pv_R mX5_hasRoomFor 16 [some (.ref 21), some (.int x1)] [.int 0] (pv_em S) := pv_Ric dX5_hasRoomFor_15 ki_0
set_option maxHeartbeats 200000 in
theorem bX5_hasRoomFor_16 {S : pv_S} {x1 u0 : Int32} : pv_R mX5_hasRoomFor 16 [some (.ref 21), some (.int x1)] [.int u0] (pv_em S) = if vp_nar .boolean u0 = u0 then some (some (.int u0), pv_em S) else none := pv_Rzret dX5_hasRoomFor_16 rfl
theorem dX5_pound_0 : decode cX5_pound 0 = .ok (.aload_n 0, 1) := by decide +kernel
theorem dX5_pound_1 : decode cX5_pound 1 = .ok (.aload_n 0, 1) := by decide +kernel
theorem dX5_pound_2 : decode cX5_pound 2 = .ok (.getfield 53, 3) := by decide +kernel
theorem dX5_pound_5 : decode cX5_pound 5 = .ok (.invokevirtual 56, 3) := by decide +kernel
theorem dX5_pound_8 : decode cX5_pound 8 = .ok (.ifCond .eq 15, 3) := by decide +kernel
theorem dX5_pound_11 : decode cX5_pound 11 = .ok (.aload_n 0, 1) := by decide +kernel
theorem dX5_pound_12 : decode cX5_pound 12 = .ok (.getfield 21, 3) := by decide +kernel
theorem dX5_pound_15 : decode cX5_pound 15 = .ok (.aload_n 0, 1) := by decide +kernel
theorem dX5_pound_16 : decode cX5_pound 16 = .ok (.getfield 53, 3) := by decide +kernel
theorem dX5_pound_19 : decode cX5_pound 19 = .ok (.iaload, 1) := by decide +kernel
theorem dX5_pound_20 : decode cX5_pound 20 = .ok (.goto 4, 3) := by decide +kernel
theorem dX5_pound_23 : decode cX5_pound 23 = .ok (.iconst 0, 1) := by decide +kernel
theorem dX5_pound_24 : decode cX5_pound 24 = .ok (.ireturn, 1) := by decide +kernel
set_option maxHeartbeats 200000 in
theorem bX5_pound_0 {S : pv_S} : pv_R mX5_pound 0 [some (.ref 21)] [] (pv_em S) = pv_cc (pv_R mX5_isCat 0 [some (.ref 21), some (.int (S.1 21 10))] [] (pv_em S)) mX5_pound 8 [some (.ref 21)] [] := Eq.trans (pv_Rstp dX5_pound_0 rfl rfl rfl) (Eq.trans (pv_Rstp dX5_pound_1 rfl rfl rfl) (Eq.trans (pv_Rget dX5_pound_2 ffX5_53 (by decide) (pv_ce_21 _ _) rfl) (pv_Rcall (As := [.ref 21, .int (S.1 21 10)]) (rest := []) dX5_pound_5 rfl mfX5_56 rfl rfl rfl rfl rfl)))
set_option maxHeartbeats 200000 in
theorem bX5_pound_8 {S : pv_S} {u0 : Int32} : pv_R mX5_pound 8 [some (.ref 21)] [.int u0] (pv_em S) = if u0 = 0 then pv_R mX5_pound 23 [some (.ref 21)] [] (pv_em S) else pv_R mX5_pound 11 [some (.ref 21)] [] (pv_em S) := pv_Rbr (tgt := 23) dX5_pound_8 rfl rfl rfl rfl rfl (by decide)
set_option maxHeartbeats 200000 in
theorem bX5_pound_11 {S : pv_S} : pv_R mX5_pound 11 [some (.ref 21)] [] (pv_em S) = if (S.1 21 10) < 0 ∨ 6 ≤ (S.1 21 10).toNatClampNeg then none else pv_R mX5_pound 24 [some (.ref 21)] [.int (S.1 25 (S.1 21 10).toNatClampNeg)] (pv_em S) := Eq.trans (pv_Rstp dX5_pound_11 rfl rfl rfl) (Eq.trans (pv_Rget dX5_pound_12 ffX5_21 (by decide) (pv_ce_21 _ _) rfl) (Eq.trans (pv_Rstp dX5_pound_15 rfl rfl rfl) (Eq.trans (pv_Rget dX5_pound_16 ffX5_53 (by decide) (pv_ce_21 _ _) rfl) (Eq.trans (pv_Rald dX5_pound_19 (by decide) (pv_ce_25 _ _)) (pv_iteN (fun h1 => pv_Rgo (tgt := 24) dX5_pound_20 rfl (by decide)))))))
set_option maxHeartbeats 200000 in
theorem bX5_pound_23 {S : pv_S} : pv_R mX5_pound 23 [some (.ref 21)] [] (pv_em S) = pv_R mX5_pound 24 [some (.ref 21)] [.int 0] (pv_em S) := pv_Ric dX5_pound_23 ki_0
set_option maxHeartbeats 200000 in
theorem bX5_pound_24 {S : pv_S} {u0 : Int32} : pv_R mX5_pound 24 [some (.ref 21)] [.int u0] (pv_em S) = some (some (.int u0), pv_em S) := pv_Rret dX5_pound_24 rfl
theorem dX5_hasGoodsFor_0 : decode cX5_hasGoodsFor 0 = .ok (.aload_n 0, 1) := by decide +kernel
theorem dX5_hasGoodsFor_1 : decode cX5_hasGoodsFor 1 = .ok (.getfield 83, 3) := by decide +kernel
theorem dX5_hasGoodsFor_4 : decode cX5_hasGoodsFor 4 = .ok (.iload_n 1, 1) := by decide +kernel
theorem dX5_hasGoodsFor_5 : decode cX5_hasGoodsFor 5 = .ok (.aload_n 0, 1) := by decide +kernel
theorem dX5_hasGoodsFor_6 : decode cX5_hasGoodsFor 6 = .ok (.invokevirtual 86, 3) := by decide +kernel
theorem dX5_hasGoodsFor_9 : decode cX5_hasGoodsFor 9 = .ok (.imul, 1) := by decide +kernel
theorem dX5_hasGoodsFor_10 : decode cX5_hasGoodsFor 10 = .ok (.if_icmp .lt 7, 3) := by decide +kernel
theorem dX5_hasGoodsFor_13 : decode cX5_hasGoodsFor 13 = .ok (.iconst 1, 1) := by decide +kernel
theorem dX5_hasGoodsFor_14 : decode cX5_hasGoodsFor 14 = .ok (.goto 4, 3) := by decide +kernel
theorem dX5_hasGoodsFor_17 : decode cX5_hasGoodsFor 17 = .ok (.iconst 0, 1) := by decide +kernel
theorem dX5_hasGoodsFor_18 : decode cX5_hasGoodsFor 18 = .ok (.ireturn, 1) := by decide +kernel
set_option maxHeartbeats 200000 in
theorem bX5_hasGoodsFor_0 {S : pv_S} {x1 : Int32} : pv_R mX5_hasGoodsFor 0 [some (.ref 21), some (.int x1)] [] (pv_em S) = pv_cc (pv_R mX5_pound 0 [some (.ref 21)] [] (pv_em S)) mX5_hasGoodsFor 9 [some (.ref 21), some (.int x1)] [.int x1, .int (S.1 21 12)] := Eq.trans (pv_Rstp dX5_hasGoodsFor_0 rfl rfl rfl) (Eq.trans (pv_Rget dX5_hasGoodsFor_1 ffX5_83 (by decide) (pv_ce_21 _ _) rfl) (Eq.trans (pv_Rstp dX5_hasGoodsFor_4 rfl rfl rfl) (Eq.trans (pv_Rstp dX5_hasGoodsFor_5 rfl rfl rfl) (pv_Rcall (As := [.ref 21]) (rest := [.int x1, .int (S.1 21 12)]) dX5_hasGoodsFor_6 rfl mfX5_86 rfl rfl rfl rfl rfl))))
set_option maxHeartbeats 200000 in
theorem bX5_hasGoodsFor_9 {S : pv_S} {x1 u0 u1 u2 : Int32} : pv_R mX5_hasGoodsFor 9 [some (.ref 21), some (.int x1)] [.int u0, .int u1, .int u2] (pv_em S) = if u2 < (u1 * u0) then pv_R mX5_hasGoodsFor 17 [some (.ref 21), some (.int x1)] [] (pv_em S) else pv_R mX5_hasGoodsFor 13 [some (.ref 21), some (.int x1)] [] (pv_em S) := Eq.trans (pv_Rstp dX5_hasGoodsFor_9 rfl rfl rfl) (pv_Rbr (tgt := 17) dX5_hasGoodsFor_10 rfl rfl rfl rfl rfl (by decide))
set_option maxHeartbeats 200000 in
theorem bX5_hasGoodsFor_13 {S : pv_S} {x1 : Int32} : pv_R mX5_hasGoodsFor 13 [some (.ref 21), some (.int x1)] [] (pv_em S) = pv_R mX5_hasGoodsFor 18 [some (.ref 21), some (.int x1)] [.int 1] (pv_em S) := Eq.trans (pv_Ric dX5_hasGoodsFor_13 ki_1) (pv_Rgo (tgt := 18) dX5_hasGoodsFor_14 rfl (by decide))
set_option maxHeartbeats 200000 in
theorem bX5_hasGoodsFor_17 {S : pv_S} {x1 : Int32} : pv_R mX5_hasGoodsFor 17 [some (.ref 21), some (.int x1)] [] (pv_em S) = pv_R mX5_hasGoodsFor 18 [some (.ref 21), some (.int x1)] [.int 0] (pv_em S) := pv_Ric dX5_hasGoodsFor_17 ki_0
set_option maxHeartbeats 200000 in
theorem bX5_hasGoodsFor_18 {S : pv_S} {x1 u0 : Int32} : pv_R mX5_hasGoodsFor 18 [some (.ref 21), some (.int x1)] [.int u0] (pv_em S) = if vp_nar .boolean u0 = u0 then some (some (.int u0), pv_em S) else none := pv_Rzret dX5_hasGoodsFor_18 rfl
theorem dX5_replay_0 : decode cX5_replay 0 = .ok (.aload_n 0, 1) := by decide +kernel
theorem dX5_replay_1 : decode cX5_replay 1 = .ok (.iconst 0, 1) := by decide +kernel
theorem dX5_replay_2 : decode cX5_replay 2 = .ok (.putfield 69, 3) := by decide +kernel
theorem dX5_replay_5 : decode cX5_replay 5 = .ok (.aload_n 0, 1) := by decide +kernel
theorem dX5_replay_6 : decode cX5_replay 6 = .ok (.iconst 0, 1) := by decide +kernel
theorem dX5_replay_7 : decode cX5_replay 7 = .ok (.putfield 53, 3) := by decide +kernel
theorem dX5_replay_10 : decode cX5_replay 10 = .ok (.aload_n 0, 1) := by decide +kernel
theorem dX5_replay_11 : decode cX5_replay 11 = .ok (.iconst 0, 1) := by decide +kernel
theorem dX5_replay_12 : decode cX5_replay 12 = .ok (.putfield 102, 3) := by decide +kernel
theorem dX5_replay_15 : decode cX5_replay 15 = .ok (.aload_n 0, 1) := by decide +kernel
theorem dX5_replay_16 : decode cX5_replay 16 = .ok (.iconst 0, 1) := by decide +kernel
theorem dX5_replay_17 : decode cX5_replay 17 = .ok (.putfield 83, 3) := by decide +kernel
theorem dX5_replay_20 : decode cX5_replay 20 = .ok (.iconst 0, 1) := by decide +kernel
theorem dX5_replay_21 : decode cX5_replay 21 = .ok (.istore_n 2, 1) := by decide +kernel
theorem dX5_replay_22 : decode cX5_replay 22 = .ok (.iload_n 2, 1) := by decide +kernel
theorem dX5_replay_23 : decode cX5_replay 23 = .ok (.aload_n 0, 1) := by decide +kernel
theorem dX5_replay_24 : decode cX5_replay 24 = .ok (.getfield 41, 3) := by decide +kernel
theorem dX5_replay_27 : decode cX5_replay 27 = .ok (.if_icmp .ge 21, 3) := by decide +kernel
theorem dX5_replay_30 : decode cX5_replay 30 = .ok (.aload_n 0, 1) := by decide +kernel
theorem dX5_replay_31 : decode cX5_replay 31 = .ok (.getfield 21, 3) := by decide +kernel
theorem dX5_replay_34 : decode cX5_replay 34 = .ok (.iload_n 2, 1) := by decide +kernel
theorem dX5_replay_35 : decode cX5_replay 35 = .ok (.aload_n 0, 1) := by decide +kernel
theorem dX5_replay_36 : decode cX5_replay 36 = .ok (.getfield 18, 3) := by decide +kernel
theorem dX5_replay_39 : decode cX5_replay 39 = .ok (.iload_n 2, 1) := by decide +kernel
theorem dX5_replay_40 : decode cX5_replay 40 = .ok (.iaload, 1) := by decide +kernel
theorem dX5_replay_41 : decode cX5_replay 41 = .ok (.iastore, 1) := by decide +kernel
theorem dX5_replay_42 : decode cX5_replay 42 = .ok (.iinc 2 1, 3) := by decide +kernel
theorem dX5_replay_45 : decode cX5_replay 45 = .ok (.goto (-23), 3) := by decide +kernel
theorem dX5_replay_48 : decode cX5_replay 48 = .ok (.iconst 0, 1) := by decide +kernel
theorem dX5_replay_49 : decode cX5_replay 49 = .ok (.istore_n 2, 1) := by decide +kernel
theorem dX5_replay_50 : decode cX5_replay 50 = .ok (.iload_n 2, 1) := by decide +kernel
theorem dX5_replay_51 : decode cX5_replay 51 = .ok (.iload_n 1, 1) := by decide +kernel
theorem dX5_replay_52 : decode cX5_replay 52 = .ok (.if_icmp .ge 25, 3) := by decide +kernel
theorem dX5_replay_55 : decode cX5_replay 55 = .ok (.iload_n 2, 1) := by decide +kernel
theorem dX5_replay_56 : decode cX5_replay 56 = .ok (.bipush 40, 2) := by decide +kernel
theorem dX5_replay_58 : decode cX5_replay 58 = .ok (.if_icmp .ge 19, 3) := by decide +kernel
theorem dX5_replay_61 : decode cX5_replay 61 = .ok (.aload_n 0, 1) := by decide +kernel
theorem dX5_replay_62 : decode cX5_replay 62 = .ok (.aload_n 0, 1) := by decide +kernel
theorem dX5_replay_63 : decode cX5_replay 63 = .ok (.getfield 24, 3) := by decide +kernel
theorem dX5_replay_66 : decode cX5_replay 66 = .ok (.iload_n 2, 1) := by decide +kernel
theorem dX5_replay_67 : decode cX5_replay 67 = .ok (.iaload, 1) := by decide +kernel
theorem dX5_replay_68 : decode cX5_replay 68 = .ok (.invokevirtual 93, 3) := by decide +kernel
theorem dX5_replay_71 : decode cX5_replay 71 = .ok (.iinc 2 1, 3) := by decide +kernel
theorem dX5_replay_74 : decode cX5_replay 74 = .ok (.goto (-24), 3) := by decide +kernel
theorem dX5_replay_77 : decode cX5_replay 77 = .ok (.aload_n 0, 1) := by decide +kernel
theorem dX5_replay_78 : decode cX5_replay 78 = .ok (.iload_n 1, 1) := by decide +kernel
theorem dX5_replay_79 : decode cX5_replay 79 = .ok (.putfield 80, 3) := by decide +kernel
theorem dX5_replay_82 : decode cX5_replay 82 = .ok (.return_, 1) := by decide +kernel
set_option maxHeartbeats 200000 in
theorem bX5_replay_0 {S : pv_S} {x1 : Int32} {a2 : Option Value} : pv_R mX5_replay 0 [some (.ref 21), some (.int x1), a2] [] (pv_em S) = pv_R mX5_replay 22 [some (.ref 21), some (.int x1), some (.int 0)] [] (pv_em (pv_si (pv_si (pv_si (pv_si S 21 9 0) 21 10 0) 21 11 0) 21 12 0)) := Eq.trans (pv_Rstp dX5_replay_0 rfl rfl rfl) (Eq.trans (pv_Ric dX5_replay_1 ki_0) (Eq.trans (pv_Rput dX5_replay_2 ffX5_69 rfl rfl rfl (by decide) (pv_ce_21 _ _) (Nat.le_of_ble_eq_true rfl) (pv_em_si rfl)) (Eq.trans (pv_Rstp dX5_replay_5 rfl rfl rfl) (Eq.trans (pv_Ric dX5_replay_6 ki_0) (Eq.trans (pv_Rput dX5_replay_7 ffX5_53 rfl rfl rfl (by decide) (pv_ce_21 _ _) (Nat.le_of_ble_eq_true rfl) (pv_em_si rfl)) (Eq.trans (pv_Rstp dX5_replay_10 rfl rfl rfl) (Eq.trans (pv_Ric dX5_replay_11 ki_0) (Eq.trans (pv_Rput dX5_replay_12 ffX5_102 rfl rfl rfl (by decide) (pv_ce_21 _ _) (Nat.le_of_ble_eq_true rfl) (pv_em_si rfl)) (Eq.trans (pv_Rstp dX5_replay_15 rfl rfl rfl) (Eq.trans (pv_Ric dX5_replay_16 ki_0) (Eq.trans (pv_Rput dX5_replay_17 ffX5_83 rfl rfl rfl (by decide) (pv_ce_21 _ _) (Nat.le_of_ble_eq_true rfl) (pv_em_si rfl)) (Eq.trans (pv_Ric dX5_replay_20 ki_0) (pv_Rstp dX5_replay_21 rfl rfl rfl)))))))))))))
set_option maxHeartbeats 200000 in
theorem bX5_replay_22 {S : pv_S} {x1 x2 : Int32} : pv_R mX5_replay 22 [some (.ref 21), some (.int x1), some (.int x2)] [] (pv_em S) = if (S.1 21 7) ≤ x2 then pv_R mX5_replay 48 [some (.ref 21), some (.int x1), some (.int x2)] [] (pv_em S) else pv_R mX5_replay 30 [some (.ref 21), some (.int x1), some (.int x2)] [] (pv_em S) := Eq.trans (pv_Rstp dX5_replay_22 rfl rfl rfl) (Eq.trans (pv_Rstp dX5_replay_23 rfl rfl rfl) (Eq.trans (pv_Rget dX5_replay_24 ffX5_41 (by decide) (pv_ce_21 _ _) rfl) (pv_Rbr (tgt := 48) dX5_replay_27 rfl rfl rfl rfl rfl (by decide))))
set_option maxHeartbeats 200000 in
theorem bX5_replay_30 {S : pv_S} {x1 x2 : Int32} : pv_R mX5_replay 30 [some (.ref 21), some (.int x1), some (.int x2)] [] (pv_em S) = if x2 < 0 ∨ 6 ≤ x2.toNatClampNeg then none else if x2 < 0 ∨ 6 ≤ x2.toNatClampNeg then none else pv_R mX5_replay 22 [some (.ref 21), some (.int x1), some (.int (x2 + 1))] [] (pv_em (pv_si S 25 x2.toNatClampNeg (S.1 24 x2.toNatClampNeg))) := Eq.trans (pv_Rstp dX5_replay_30 rfl rfl rfl) (Eq.trans (pv_Rget dX5_replay_31 ffX5_21 (by decide) (pv_ce_21 _ _) rfl) (Eq.trans (pv_Rstp dX5_replay_34 rfl rfl rfl) (Eq.trans (pv_Rstp dX5_replay_35 rfl rfl rfl) (Eq.trans (pv_Rget dX5_replay_36 ffX5_18 (by decide) (pv_ce_21 _ _) rfl) (Eq.trans (pv_Rstp dX5_replay_39 rfl rfl rfl) (Eq.trans (pv_Rald dX5_replay_40 (by decide) (pv_ce_24 _ _)) (pv_iteN (fun h1 => Eq.trans (pv_Rast dX5_replay_41 (by decide) (pv_ce_25 _ _) (pv_em_si rfl)) (pv_iteN (fun h2 => Eq.trans (pv_Rinc dX5_replay_42 rfl (Nat.le_of_ble_eq_true rfl) ki_1 rfl) (pv_Rgo (tgt := 22) dX5_replay_45 rfl (by decide))))))))))))
set_option maxHeartbeats 200000 in
theorem bX5_replay_48 {S : pv_S} {x1 x2 : Int32} : pv_R mX5_replay 48 [some (.ref 21), some (.int x1), some (.int x2)] [] (pv_em S) = pv_R mX5_replay 50 [some (.ref 21), some (.int x1), some (.int 0)] [] (pv_em S) := Eq.trans (pv_Ric dX5_replay_48 ki_0) (pv_Rstp dX5_replay_49 rfl rfl rfl)
set_option maxHeartbeats 200000 in
theorem bX5_replay_50 {S : pv_S} {x1 x2 : Int32} : pv_R mX5_replay 50 [some (.ref 21), some (.int x1), some (.int x2)] [] (pv_em S) = if x1 ≤ x2 then pv_R mX5_replay 77 [some (.ref 21), some (.int x1), some (.int x2)] [] (pv_em S) else pv_R mX5_replay 55 [some (.ref 21), some (.int x1), some (.int x2)] [] (pv_em S) := Eq.trans (pv_Rstp dX5_replay_50 rfl rfl rfl) (Eq.trans (pv_Rstp dX5_replay_51 rfl rfl rfl) (pv_Rbr (tgt := 77) dX5_replay_52 rfl rfl rfl rfl rfl (by decide)))
set_option maxHeartbeats 200000 in
theorem bX5_replay_55 {S : pv_S} {x1 x2 : Int32} : pv_R mX5_replay 55 [some (.ref 21), some (.int x1), some (.int x2)] [] (pv_em S) = if 40 ≤ x2 then pv_R mX5_replay 77 [some (.ref 21), some (.int x1), some (.int x2)] [] (pv_em S) else pv_R mX5_replay 61 [some (.ref 21), some (.int x1), some (.int x2)] [] (pv_em S) := Eq.trans (pv_Rstp dX5_replay_55 rfl rfl rfl) (Eq.trans (pv_Rbp dX5_replay_56 kb_40) (pv_Rbr (tgt := 77) dX5_replay_58 rfl rfl rfl rfl rfl (by decide)))
set_option maxHeartbeats 200000 in
theorem bX5_replay_61 {S : pv_S} {x1 x2 : Int32} : pv_R mX5_replay 61 [some (.ref 21), some (.int x1), some (.int x2)] [] (pv_em S) = if x2 < 0 ∨ 40 ≤ x2.toNatClampNeg then none else pv_cc (pv_R mX5_act 0 [some (.ref 21), some (.int (S.1 26 x2.toNatClampNeg)), none] [] (pv_em S)) mX5_replay 71 [some (.ref 21), some (.int x1), some (.int x2)] [] := Eq.trans (pv_Rstp dX5_replay_61 rfl rfl rfl) (Eq.trans (pv_Rstp dX5_replay_62 rfl rfl rfl) (Eq.trans (pv_Rget dX5_replay_63 ffX5_24 (by decide) (pv_ce_21 _ _) rfl) (Eq.trans (pv_Rstp dX5_replay_66 rfl rfl rfl) (Eq.trans (pv_Rald dX5_replay_67 (by decide) (pv_ce_26 _ _)) (pv_iteN (fun h1 => pv_Rcall (As := [.ref 21, .int (S.1 26 x2.toNatClampNeg)]) (rest := []) dX5_replay_68 rfl mfX5_93 rfl rfl rfl rfl rfl))))))
set_option maxHeartbeats 200000 in
theorem bX5_replay_71 {S : pv_S} {x1 x2 : Int32} : pv_R mX5_replay 71 [some (.ref 21), some (.int x1), some (.int x2)] [] (pv_em S) = pv_R mX5_replay 50 [some (.ref 21), some (.int x1), some (.int (x2 + 1))] [] (pv_em S) := Eq.trans (pv_Rinc dX5_replay_71 rfl (Nat.le_of_ble_eq_true rfl) ki_1 rfl) (pv_Rgo (tgt := 50) dX5_replay_74 rfl (by decide))
set_option maxHeartbeats 200000 in
theorem bX5_replay_77 {S : pv_S} {x1 x2 : Int32} : pv_R mX5_replay 77 [some (.ref 21), some (.int x1), some (.int x2)] [] (pv_em S) = some (none, pv_em (pv_si S 21 13 x1)) := Eq.trans (pv_Rstp dX5_replay_77 rfl rfl rfl) (Eq.trans (pv_Rstp dX5_replay_78 rfl rfl rfl) (Eq.trans (pv_Rput dX5_replay_79 ffX5_80 rfl rfl rfl (by decide) (pv_ce_21 _ _) (Nat.le_of_ble_eq_true rfl) (pv_em_si rfl)) (pv_Rret dX5_replay_82 rfl)))
theorem dX5_hasKeptNumber_0 : decode cX5_hasKeptNumber 0 = .ok (.iload_n 1, 1) := by decide +kernel
theorem dX5_hasKeptNumber_1 : decode cX5_hasKeptNumber 1 = .ok (.ifCond .lt 12, 3) := by decide +kernel
theorem dX5_hasKeptNumber_4 : decode cX5_hasKeptNumber 4 = .ok (.iload_n 1, 1) := by decide +kernel
theorem dX5_hasKeptNumber_5 : decode cX5_hasKeptNumber 5 = .ok (.iconst 3, 1) := by decide +kernel
theorem dX5_hasKeptNumber_6 : decode cX5_hasKeptNumber 6 = .ok (.if_icmp .ge 7, 3) := by decide +kernel
theorem dX5_hasKeptNumber_9 : decode cX5_hasKeptNumber 9 = .ok (.iconst 1, 1) := by decide +kernel
theorem dX5_hasKeptNumber_10 : decode cX5_hasKeptNumber 10 = .ok (.goto 4, 3) := by decide +kernel
theorem dX5_hasKeptNumber_13 : decode cX5_hasKeptNumber 13 = .ok (.iconst 0, 1) := by decide +kernel
theorem dX5_hasKeptNumber_14 : decode cX5_hasKeptNumber 14 = .ok (.ireturn, 1) := by decide +kernel
set_option maxHeartbeats 200000 in
theorem bX5_hasKeptNumber_0 {S : pv_S} {x1 : Int32} : pv_R mX5_hasKeptNumber 0 [some (.ref 21), some (.int x1)] [] (pv_em S) = if x1 < 0 then pv_R mX5_hasKeptNumber 13 [some (.ref 21), some (.int x1)] [] (pv_em S) else pv_R mX5_hasKeptNumber 4 [some (.ref 21), some (.int x1)] [] (pv_em S) := Eq.trans (pv_Rstp dX5_hasKeptNumber_0 rfl rfl rfl) (pv_Rbr (tgt := 13) dX5_hasKeptNumber_1 rfl rfl rfl rfl rfl (by decide))
set_option maxHeartbeats 200000 in
theorem bX5_hasKeptNumber_4 {S : pv_S} {x1 : Int32} : pv_R mX5_hasKeptNumber 4 [some (.ref 21), some (.int x1)] [] (pv_em S) = if 3 ≤ x1 then pv_R mX5_hasKeptNumber 13 [some (.ref 21), some (.int x1)] [] (pv_em S) else pv_R mX5_hasKeptNumber 9 [some (.ref 21), some (.int x1)] [] (pv_em S) := Eq.trans (pv_Rstp dX5_hasKeptNumber_4 rfl rfl rfl) (Eq.trans (pv_Ric dX5_hasKeptNumber_5 ki_3) (pv_Rbr (tgt := 13) dX5_hasKeptNumber_6 rfl rfl rfl rfl rfl (by decide)))
set_option maxHeartbeats 200000 in
theorem bX5_hasKeptNumber_9 {S : pv_S} {x1 : Int32} : pv_R mX5_hasKeptNumber 9 [some (.ref 21), some (.int x1)] [] (pv_em S) = pv_R mX5_hasKeptNumber 14 [some (.ref 21), some (.int x1)] [.int 1] (pv_em S) := Eq.trans (pv_Ric dX5_hasKeptNumber_9 ki_1) (pv_Rgo (tgt := 14) dX5_hasKeptNumber_10 rfl (by decide))
set_option maxHeartbeats 200000 in
theorem bX5_hasKeptNumber_13 {S : pv_S} {x1 : Int32} : pv_R mX5_hasKeptNumber 13 [some (.ref 21), some (.int x1)] [] (pv_em S) = pv_R mX5_hasKeptNumber 14 [some (.ref 21), some (.int x1)] [.int 0] (pv_em S) := pv_Ric dX5_hasKeptNumber_13 ki_0
set_option maxHeartbeats 200000 in
theorem bX5_hasKeptNumber_14 {S : pv_S} {x1 u0 : Int32} : pv_R mX5_hasKeptNumber 14 [some (.ref 21), some (.int x1)] [.int u0] (pv_em S) = if vp_nar .boolean u0 = u0 then some (some (.int u0), pv_em S) else none := pv_Rzret dX5_hasKeptNumber_14 rfl
theorem dX5_store_0 : decode cX5_store 0 = .ok (.aload_n 0, 1) := by decide +kernel
theorem dX5_store_1 : decode cX5_store 1 = .ok (.getfield 27, 3) := by decide +kernel
theorem dX5_store_4 : decode cX5_store 4 = .ok (.iload_n 1, 1) := by decide +kernel
theorem dX5_store_5 : decode cX5_store 5 = .ok (.aload_n 0, 1) := by decide +kernel
theorem dX5_store_6 : decode cX5_store 6 = .ok (.getfield 80, 3) := by decide +kernel
theorem dX5_store_9 : decode cX5_store 9 = .ok (.iastore, 1) := by decide +kernel
theorem dX5_store_10 : decode cX5_store 10 = .ok (.iconst 0, 1) := by decide +kernel
theorem dX5_store_11 : decode cX5_store 11 = .ok (.istore_n 2, 1) := by decide +kernel
theorem dX5_store_12 : decode cX5_store 12 = .ok (.iload_n 2, 1) := by decide +kernel
theorem dX5_store_13 : decode cX5_store 13 = .ok (.aload_n 0, 1) := by decide +kernel
theorem dX5_store_14 : decode cX5_store 14 = .ok (.getfield 80, 3) := by decide +kernel
theorem dX5_store_17 : decode cX5_store 17 = .ok (.if_icmp .ge 23, 3) := by decide +kernel
theorem dX5_store_20 : decode cX5_store 20 = .ok (.aload_n 0, 1) := by decide +kernel
theorem dX5_store_21 : decode cX5_store 21 = .ok (.getfield 32, 3) := by decide +kernel
theorem dX5_store_24 : decode cX5_store 24 = .ok (.iload_n 1, 1) := by decide +kernel
theorem dX5_store_25 : decode cX5_store 25 = .ok (.aaload, 1) := by decide +kernel
theorem dX5_store_26 : decode cX5_store 26 = .ok (.iload_n 2, 1) := by decide +kernel
theorem dX5_store_27 : decode cX5_store 27 = .ok (.aload_n 0, 1) := by decide +kernel
theorem dX5_store_28 : decode cX5_store 28 = .ok (.getfield 24, 3) := by decide +kernel
theorem dX5_store_31 : decode cX5_store 31 = .ok (.iload_n 2, 1) := by decide +kernel
theorem dX5_store_32 : decode cX5_store 32 = .ok (.iaload, 1) := by decide +kernel
theorem dX5_store_33 : decode cX5_store 33 = .ok (.iastore, 1) := by decide +kernel
theorem dX5_store_34 : decode cX5_store 34 = .ok (.iinc 2 1, 3) := by decide +kernel
theorem dX5_store_37 : decode cX5_store 37 = .ok (.goto (-25), 3) := by decide +kernel
theorem dX5_store_40 : decode cX5_store 40 = .ok (.return_, 1) := by decide +kernel
set_option maxHeartbeats 200000 in
theorem bX5_store_0 {S : pv_S} {x1 : Int32} {a2 : Option Value} : pv_R mX5_store 0 [some (.ref 21), some (.int x1), a2] [] (pv_em S) = if x1 < 0 ∨ 3 ≤ x1.toNatClampNeg then none else pv_R mX5_store 12 [some (.ref 21), some (.int x1), some (.int 0)] [] (pv_em (pv_si S 27 x1.toNatClampNeg (S.1 21 13))) := Eq.trans (pv_Rstp dX5_store_0 rfl rfl rfl) (Eq.trans (pv_Rget dX5_store_1 ffX5_27 (by decide) (pv_ce_21 _ _) rfl) (Eq.trans (pv_Rstp dX5_store_4 rfl rfl rfl) (Eq.trans (pv_Rstp dX5_store_5 rfl rfl rfl) (Eq.trans (pv_Rget dX5_store_6 ffX5_80 (by decide) (pv_ce_21 _ _) rfl) (Eq.trans (pv_Rast dX5_store_9 (by decide) (pv_ce_27 _ _) (pv_em_si rfl)) (pv_iteN (fun h1 => Eq.trans (pv_Ric dX5_store_10 ki_0) (pv_Rstp dX5_store_11 rfl rfl rfl))))))))
set_option maxHeartbeats 200000 in
theorem bX5_store_12 {S : pv_S} {x1 x2 : Int32} : pv_R mX5_store 12 [some (.ref 21), some (.int x1), some (.int x2)] [] (pv_em S) = if (S.1 21 13) ≤ x2 then pv_R mX5_store 40 [some (.ref 21), some (.int x1), some (.int x2)] [] (pv_em S) else pv_R mX5_store 20 [some (.ref 21), some (.int x1), some (.int x2)] [] (pv_em S) := Eq.trans (pv_Rstp dX5_store_12 rfl rfl rfl) (Eq.trans (pv_Rstp dX5_store_13 rfl rfl rfl) (Eq.trans (pv_Rget dX5_store_14 ffX5_80 (by decide) (pv_ce_21 _ _) rfl) (pv_Rbr (tgt := 40) dX5_store_17 rfl rfl rfl rfl rfl (by decide))))
set_option maxHeartbeats 200000 in
theorem bX5_store_20 {S : pv_S} {x1 x2 : Int32} : pv_R mX5_store 20 [some (.ref 21), some (.int x1), some (.int x2)] [] (pv_em S) = if x1 < 0 ∨ 3 ≤ x1.toNatClampNeg then none else if x2 < 0 ∨ 40 ≤ x2.toNatClampNeg then none else if x2 < 0 ∨ 40 ≤ x2.toNatClampNeg then none else pv_R mX5_store 12 [some (.ref 21), some (.int x1), some (.int (x2 + 1))] [] (pv_em (pv_si S (29 + x1.toNatClampNeg) x2.toNatClampNeg (S.1 26 x2.toNatClampNeg))) := Eq.trans (pv_Rstp dX5_store_20 rfl rfl rfl) (Eq.trans (pv_Rget dX5_store_21 ffX5_32 (by decide) (pv_ce_21 _ _) rfl) (Eq.trans (pv_Rstp dX5_store_24 rfl rfl rfl) (Eq.trans (pv_Raald dX5_store_25 (by decide) (pv_ce_28 _ _)) (pv_iteN (fun h1 => Eq.trans (pv_Rstp dX5_store_26 rfl rfl rfl) (Eq.trans (pv_Rstp dX5_store_27 rfl rfl rfl) (Eq.trans (pv_Rget dX5_store_28 ffX5_24 (by decide) (pv_ce_21 _ _) rfl) (Eq.trans (pv_Rstp dX5_store_31 rfl rfl rfl) (Eq.trans (pv_Rald dX5_store_32 (by decide) (pv_ce_26 _ _)) (pv_iteN (fun h2 => Eq.trans (pv_Rast dX5_store_33 (pv_fal_29 (Nat.not_le.mp fun z => h1 (Or.inr z))) (pv_fam_29 (Nat.not_le.mp fun z => h1 (Or.inr z)) _ _) (pv_em_si (pv_fam_29 (Nat.not_le.mp fun z => h1 (Or.inr z)) _ _))) (pv_iteN (fun h3 => Eq.trans (pv_Rinc dX5_store_34 rfl (Nat.le_of_ble_eq_true rfl) ki_1 rfl) (pv_Rgo (tgt := 12) dX5_store_37 rfl (by decide)))))))))))))))
set_option maxHeartbeats 200000 in
theorem bX5_store_40 {S : pv_S} {x1 x2 : Int32} : pv_R mX5_store 40 [some (.ref 21), some (.int x1), some (.int x2)] [] (pv_em S) = some (none, pv_em S) := pv_Rret dX5_store_40 rfl
theorem dX5_restore_0 : decode cX5_restore 0 = .ok (.aload_n 0, 1) := by decide +kernel
theorem dX5_restore_1 : decode cX5_restore 1 = .ok (.getfield 27, 3) := by decide +kernel
theorem dX5_restore_4 : decode cX5_restore 4 = .ok (.iload_n 1, 1) := by decide +kernel
theorem dX5_restore_5 : decode cX5_restore 5 = .ok (.iaload, 1) := by decide +kernel
theorem dX5_restore_6 : decode cX5_restore 6 = .ok (.istore_n 2, 1) := by decide +kernel
theorem dX5_restore_7 : decode cX5_restore 7 = .ok (.iconst 0, 1) := by decide +kernel
theorem dX5_restore_8 : decode cX5_restore 8 = .ok (.istore_n 3, 1) := by decide +kernel
theorem dX5_restore_9 : decode cX5_restore 9 = .ok (.iload_n 3, 1) := by decide +kernel
theorem dX5_restore_10 : decode cX5_restore 10 = .ok (.iload_n 2, 1) := by decide +kernel
theorem dX5_restore_11 : decode cX5_restore 11 = .ok (.if_icmp .ge 23, 3) := by decide +kernel
theorem dX5_restore_14 : decode cX5_restore 14 = .ok (.aload_n 0, 1) := by decide +kernel
theorem dX5_restore_15 : decode cX5_restore 15 = .ok (.getfield 24, 3) := by decide +kernel
theorem dX5_restore_18 : decode cX5_restore 18 = .ok (.iload_n 3, 1) := by decide +kernel
theorem dX5_restore_19 : decode cX5_restore 19 = .ok (.aload_n 0, 1) := by decide +kernel
theorem dX5_restore_20 : decode cX5_restore 20 = .ok (.getfield 32, 3) := by decide +kernel
theorem dX5_restore_23 : decode cX5_restore 23 = .ok (.iload_n 1, 1) := by decide +kernel
theorem dX5_restore_24 : decode cX5_restore 24 = .ok (.aaload, 1) := by decide +kernel
theorem dX5_restore_25 : decode cX5_restore 25 = .ok (.iload_n 3, 1) := by decide +kernel
theorem dX5_restore_26 : decode cX5_restore 26 = .ok (.iaload, 1) := by decide +kernel
theorem dX5_restore_27 : decode cX5_restore 27 = .ok (.iastore, 1) := by decide +kernel
theorem dX5_restore_28 : decode cX5_restore 28 = .ok (.iinc 3 1, 3) := by decide +kernel
theorem dX5_restore_31 : decode cX5_restore 31 = .ok (.goto (-22), 3) := by decide +kernel
theorem dX5_restore_34 : decode cX5_restore 34 = .ok (.aload_n 0, 1) := by decide +kernel
theorem dX5_restore_35 : decode cX5_restore 35 = .ok (.iload_n 2, 1) := by decide +kernel
theorem dX5_restore_36 : decode cX5_restore 36 = .ok (.invokevirtual 49, 3) := by decide +kernel
theorem dX5_restore_39 : decode cX5_restore 39 = .ok (.return_, 1) := by decide +kernel
set_option maxHeartbeats 200000 in
theorem bX5_restore_0 {S : pv_S} {x1 : Int32} {a2 a3 : Option Value} : pv_R mX5_restore 0 [some (.ref 21), some (.int x1), a2, a3] [] (pv_em S) = if x1 < 0 ∨ 3 ≤ x1.toNatClampNeg then none else pv_R mX5_restore 9 [some (.ref 21), some (.int x1), some (.int (S.1 27 x1.toNatClampNeg)), some (.int 0)] [] (pv_em S) := Eq.trans (pv_Rstp dX5_restore_0 rfl rfl rfl) (Eq.trans (pv_Rget dX5_restore_1 ffX5_27 (by decide) (pv_ce_21 _ _) rfl) (Eq.trans (pv_Rstp dX5_restore_4 rfl rfl rfl) (Eq.trans (pv_Rald dX5_restore_5 (by decide) (pv_ce_27 _ _)) (pv_iteN (fun h1 => Eq.trans (pv_Rstp dX5_restore_6 rfl rfl rfl) (Eq.trans (pv_Ric dX5_restore_7 ki_0) (pv_Rstp dX5_restore_8 rfl rfl rfl)))))))
set_option maxHeartbeats 200000 in
theorem bX5_restore_9 {S : pv_S} {x1 x2 x3 : Int32} : pv_R mX5_restore 9 [some (.ref 21), some (.int x1), some (.int x2), some (.int x3)] [] (pv_em S) = if x2 ≤ x3 then pv_R mX5_restore 34 [some (.ref 21), some (.int x1), some (.int x2), some (.int x3)] [] (pv_em S) else pv_R mX5_restore 14 [some (.ref 21), some (.int x1), some (.int x2), some (.int x3)] [] (pv_em S) := Eq.trans (pv_Rstp dX5_restore_9 rfl rfl rfl) (Eq.trans (pv_Rstp dX5_restore_10 rfl rfl rfl) (pv_Rbr (tgt := 34) dX5_restore_11 rfl rfl rfl rfl rfl (by decide)))
set_option maxHeartbeats 200000 in
theorem bX5_restore_14 {S : pv_S} {x1 x2 x3 : Int32} : pv_R mX5_restore 14 [some (.ref 21), some (.int x1), some (.int x2), some (.int x3)] [] (pv_em S) = if x1 < 0 ∨ 3 ≤ x1.toNatClampNeg then none else if x3 < 0 ∨ 40 ≤ x3.toNatClampNeg then none else if x3 < 0 ∨ 40 ≤ x3.toNatClampNeg then none else pv_R mX5_restore 9 [some (.ref 21), some (.int x1), some (.int x2), some (.int (x3 + 1))] [] (pv_em (pv_si S 26 x3.toNatClampNeg (S.1 (29 + x1.toNatClampNeg) x3.toNatClampNeg))) := Eq.trans (pv_Rstp dX5_restore_14 rfl rfl rfl) (Eq.trans (pv_Rget dX5_restore_15 ffX5_24 (by decide) (pv_ce_21 _ _) rfl) (Eq.trans (pv_Rstp dX5_restore_18 rfl rfl rfl) (Eq.trans (pv_Rstp dX5_restore_19 rfl rfl rfl) (Eq.trans (pv_Rget dX5_restore_20 ffX5_32 (by decide) (pv_ce_21 _ _) rfl) (Eq.trans (pv_Rstp dX5_restore_23 rfl rfl rfl) (Eq.trans (pv_Raald dX5_restore_24 (by decide) (pv_ce_28 _ _)) (pv_iteN (fun h1 => Eq.trans (pv_Rstp dX5_restore_25 rfl rfl rfl) (Eq.trans (pv_Rald dX5_restore_26 (pv_fal_29 (Nat.not_le.mp fun z => h1 (Or.inr z))) (pv_fam_29 (Nat.not_le.mp fun z => h1 (Or.inr z)) _ _)) (pv_iteN (fun h2 => Eq.trans (pv_Rast dX5_restore_27 (by decide) (pv_ce_26 _ _) (pv_em_si rfl)) (pv_iteN (fun h3 => Eq.trans (pv_Rinc dX5_restore_28 rfl (Nat.le_of_ble_eq_true rfl) ki_1 rfl) (pv_Rgo (tgt := 9) dX5_restore_31 rfl (by decide)))))))))))))))
set_option maxHeartbeats 200000 in
theorem bX5_restore_34 {S : pv_S} {x1 x2 x3 : Int32} : pv_R mX5_restore 34 [some (.ref 21), some (.int x1), some (.int x2), some (.int x3)] [] (pv_em S) = pv_cc (pv_R mX5_replay 0 [some (.ref 21), some (.int x2), none] [] (pv_em S)) mX5_restore 39 [some (.ref 21), some (.int x1), some (.int x2), some (.int x3)] [] := Eq.trans (pv_Rstp dX5_restore_34 rfl rfl rfl) (Eq.trans (pv_Rstp dX5_restore_35 rfl rfl rfl) (pv_Rcall (As := [.ref 21, .int x2]) (rest := []) dX5_restore_36 rfl mfX5_49 rfl rfl rfl rfl rfl))
set_option maxHeartbeats 200000 in
theorem bX5_restore_39 {S : pv_S} {x1 x2 x3 : Int32} : pv_R mX5_restore 39 [some (.ref 21), some (.int x1), some (.int x2), some (.int x3)] [] (pv_em S) = some (none, pv_em S) := pv_Rret dX5_restore_39 rfl
theorem dX5_weightOfSet_0 : decode cX5_weightOfSet 0 = .ok (.iconst 0, 1) := by decide +kernel
theorem dX5_weightOfSet_1 : decode cX5_weightOfSet 1 = .ok (.istore_n 2, 1) := by decide +kernel
theorem dX5_weightOfSet_2 : decode cX5_weightOfSet 2 = .ok (.iconst 0, 1) := by decide +kernel
theorem dX5_weightOfSet_3 : decode cX5_weightOfSet 3 = .ok (.istore_n 3, 1) := by decide +kernel
theorem dX5_weightOfSet_4 : decode cX5_weightOfSet 4 = .ok (.iload_n 3, 1) := by decide +kernel
theorem dX5_weightOfSet_5 : decode cX5_weightOfSet 5 = .ok (.aload_n 0, 1) := by decide +kernel
theorem dX5_weightOfSet_6 : decode cX5_weightOfSet 6 = .ok (.getfield 41, 3) := by decide +kernel
theorem dX5_weightOfSet_9 : decode cX5_weightOfSet 9 = .ok (.if_icmp .ge 26, 3) := by decide +kernel
theorem dX5_weightOfSet_12 : decode cX5_weightOfSet 12 = .ok (.iload_n 1, 1) := by decide +kernel
theorem dX5_weightOfSet_13 : decode cX5_weightOfSet 13 = .ok (.iload_n 3, 1) := by decide +kernel
theorem dX5_weightOfSet_14 : decode cX5_weightOfSet 14 = .ok (.ishr, 1) := by decide +kernel
theorem dX5_weightOfSet_15 : decode cX5_weightOfSet 15 = .ok (.iconst 1, 1) := by decide +kernel
theorem dX5_weightOfSet_16 : decode cX5_weightOfSet 16 = .ok (.iand, 1) := by decide +kernel
theorem dX5_weightOfSet_17 : decode cX5_weightOfSet 17 = .ok (.ifCond .eq 12, 3) := by decide +kernel
theorem dX5_weightOfSet_20 : decode cX5_weightOfSet 20 = .ok (.iload_n 2, 1) := by decide +kernel
theorem dX5_weightOfSet_21 : decode cX5_weightOfSet 21 = .ok (.aload_n 0, 1) := by decide +kernel
theorem dX5_weightOfSet_22 : decode cX5_weightOfSet 22 = .ok (.getfield 21, 3) := by decide +kernel
theorem dX5_weightOfSet_25 : decode cX5_weightOfSet 25 = .ok (.iload_n 3, 1) := by decide +kernel
theorem dX5_weightOfSet_26 : decode cX5_weightOfSet 26 = .ok (.iaload, 1) := by decide +kernel
theorem dX5_weightOfSet_27 : decode cX5_weightOfSet 27 = .ok (.iadd, 1) := by decide +kernel
theorem dX5_weightOfSet_28 : decode cX5_weightOfSet 28 = .ok (.istore_n 2, 1) := by decide +kernel
theorem dX5_weightOfSet_29 : decode cX5_weightOfSet 29 = .ok (.iinc 3 1, 3) := by decide +kernel
theorem dX5_weightOfSet_32 : decode cX5_weightOfSet 32 = .ok (.goto (-28), 3) := by decide +kernel
theorem dX5_weightOfSet_35 : decode cX5_weightOfSet 35 = .ok (.iload_n 2, 1) := by decide +kernel
theorem dX5_weightOfSet_36 : decode cX5_weightOfSet 36 = .ok (.ireturn, 1) := by decide +kernel
set_option maxHeartbeats 200000 in
theorem bX5_weightOfSet_0 {S : pv_S} {x1 : Int32} {a2 a3 : Option Value} : pv_R mX5_weightOfSet 0 [some (.ref 21), some (.int x1), a2, a3] [] (pv_em S) = pv_R mX5_weightOfSet 4 [some (.ref 21), some (.int x1), some (.int 0), some (.int 0)] [] (pv_em S) := Eq.trans (pv_Ric dX5_weightOfSet_0 ki_0) (Eq.trans (pv_Rstp dX5_weightOfSet_1 rfl rfl rfl) (Eq.trans (pv_Ric dX5_weightOfSet_2 ki_0) (pv_Rstp dX5_weightOfSet_3 rfl rfl rfl)))
set_option maxHeartbeats 200000 in
theorem bX5_weightOfSet_4 {S : pv_S} {x1 x2 x3 : Int32} : pv_R mX5_weightOfSet 4 [some (.ref 21), some (.int x1), some (.int x2), some (.int x3)] [] (pv_em S) = if (S.1 21 7) ≤ x3 then pv_R mX5_weightOfSet 35 [some (.ref 21), some (.int x1), some (.int x2), some (.int x3)] [] (pv_em S) else pv_R mX5_weightOfSet 12 [some (.ref 21), some (.int x1), some (.int x2), some (.int x3)] [] (pv_em S) := Eq.trans (pv_Rstp dX5_weightOfSet_4 rfl rfl rfl) (Eq.trans (pv_Rstp dX5_weightOfSet_5 rfl rfl rfl) (Eq.trans (pv_Rget dX5_weightOfSet_6 ffX5_41 (by decide) (pv_ce_21 _ _) rfl) (pv_Rbr (tgt := 35) dX5_weightOfSet_9 rfl rfl rfl rfl rfl (by decide))))
set_option maxHeartbeats 200000 in
theorem bX5_weightOfSet_12 {S : pv_S} {x1 x2 x3 : Int32} : pv_R mX5_weightOfSet 12 [some (.ref 21), some (.int x1), some (.int x2), some (.int x3)] [] (pv_em S) = if ((x1 >>> (x3 &&& 31)) &&& 1) = 0 then pv_R mX5_weightOfSet 29 [some (.ref 21), some (.int x1), some (.int x2), some (.int x3)] [] (pv_em S) else pv_R mX5_weightOfSet 20 [some (.ref 21), some (.int x1), some (.int x2), some (.int x3)] [] (pv_em S) := Eq.trans (pv_Rstp dX5_weightOfSet_12 rfl rfl rfl) (Eq.trans (pv_Rstp dX5_weightOfSet_13 rfl rfl rfl) (Eq.trans (pv_Rstp dX5_weightOfSet_14 rfl rfl rfl) (Eq.trans (pv_Ric dX5_weightOfSet_15 ki_1) (Eq.trans (pv_Rstp dX5_weightOfSet_16 rfl rfl rfl) (pv_Rbr (tgt := 29) dX5_weightOfSet_17 rfl rfl rfl rfl rfl (by decide))))))
set_option maxHeartbeats 200000 in
theorem bX5_weightOfSet_20 {S : pv_S} {x1 x2 x3 : Int32} : pv_R mX5_weightOfSet 20 [some (.ref 21), some (.int x1), some (.int x2), some (.int x3)] [] (pv_em S) = if x3 < 0 ∨ 6 ≤ x3.toNatClampNeg then none else pv_R mX5_weightOfSet 29 [some (.ref 21), some (.int x1), some (.int (x2 + (S.1 25 x3.toNatClampNeg))), some (.int x3)] [] (pv_em S) := Eq.trans (pv_Rstp dX5_weightOfSet_20 rfl rfl rfl) (Eq.trans (pv_Rstp dX5_weightOfSet_21 rfl rfl rfl) (Eq.trans (pv_Rget dX5_weightOfSet_22 ffX5_21 (by decide) (pv_ce_21 _ _) rfl) (Eq.trans (pv_Rstp dX5_weightOfSet_25 rfl rfl rfl) (Eq.trans (pv_Rald dX5_weightOfSet_26 (by decide) (pv_ce_25 _ _)) (pv_iteN (fun h1 => Eq.trans (pv_Rstp dX5_weightOfSet_27 rfl rfl rfl) (pv_Rstp dX5_weightOfSet_28 rfl rfl rfl)))))))
set_option maxHeartbeats 200000 in
theorem bX5_weightOfSet_29 {S : pv_S} {x1 x2 x3 : Int32} : pv_R mX5_weightOfSet 29 [some (.ref 21), some (.int x1), some (.int x2), some (.int x3)] [] (pv_em S) = pv_R mX5_weightOfSet 4 [some (.ref 21), some (.int x1), some (.int x2), some (.int (x3 + 1))] [] (pv_em S) := Eq.trans (pv_Rinc dX5_weightOfSet_29 rfl (Nat.le_of_ble_eq_true rfl) ki_1 rfl) (pv_Rgo (tgt := 4) dX5_weightOfSet_32 rfl (by decide))
set_option maxHeartbeats 200000 in
theorem bX5_weightOfSet_35 {S : pv_S} {x1 x2 x3 : Int32} : pv_R mX5_weightOfSet 35 [some (.ref 21), some (.int x1), some (.int x2), some (.int x3)] [] (pv_em S) = some (some (.int x2), pv_em S) := Eq.trans (pv_Rstp dX5_weightOfSet_35 rfl rfl rfl) (pv_Rret dX5_weightOfSet_36 rfl)
theorem dX5_rulerKind_0 : decode cX5_rulerKind 0 = .ok (.aload_n 0, 1) := by decide +kernel
theorem dX5_rulerKind_1 : decode cX5_rulerKind 1 = .ok (.aload_n 0, 1) := by decide +kernel
theorem dX5_rulerKind_2 : decode cX5_rulerKind 2 = .ok (.getfield 53, 3) := by decide +kernel
theorem dX5_rulerKind_5 : decode cX5_rulerKind 5 = .ok (.invokevirtual 56, 3) := by decide +kernel
theorem dX5_rulerKind_8 : decode cX5_rulerKind 8 = .ok (.ifCond .eq 15, 3) := by decide +kernel
theorem dX5_rulerKind_11 : decode cX5_rulerKind 11 = .ok (.aload_n 0, 1) := by decide +kernel
theorem dX5_rulerKind_12 : decode cX5_rulerKind 12 = .ok (.getfield 9, 3) := by decide +kernel
theorem dX5_rulerKind_15 : decode cX5_rulerKind 15 = .ok (.aload_n 0, 1) := by decide +kernel
theorem dX5_rulerKind_16 : decode cX5_rulerKind 16 = .ok (.getfield 53, 3) := by decide +kernel
theorem dX5_rulerKind_19 : decode cX5_rulerKind 19 = .ok (.iaload, 1) := by decide +kernel
theorem dX5_rulerKind_20 : decode cX5_rulerKind 20 = .ok (.goto 4, 3) := by decide +kernel
theorem dX5_rulerKind_23 : decode cX5_rulerKind 23 = .ok (.iconst 0, 1) := by decide +kernel
theorem dX5_rulerKind_24 : decode cX5_rulerKind 24 = .ok (.ireturn, 1) := by decide +kernel
set_option maxHeartbeats 200000 in
theorem bX5_rulerKind_0 {S : pv_S} : pv_R mX5_rulerKind 0 [some (.ref 21)] [] (pv_em S) = pv_cc (pv_R mX5_isCat 0 [some (.ref 21), some (.int (S.1 21 10))] [] (pv_em S)) mX5_rulerKind 8 [some (.ref 21)] [] := Eq.trans (pv_Rstp dX5_rulerKind_0 rfl rfl rfl) (Eq.trans (pv_Rstp dX5_rulerKind_1 rfl rfl rfl) (Eq.trans (pv_Rget dX5_rulerKind_2 ffX5_53 (by decide) (pv_ce_21 _ _) rfl) (pv_Rcall (As := [.ref 21, .int (S.1 21 10)]) (rest := []) dX5_rulerKind_5 rfl mfX5_56 rfl rfl rfl rfl rfl)))
set_option maxHeartbeats 200000 in
theorem bX5_rulerKind_8 {S : pv_S} {u0 : Int32} : pv_R mX5_rulerKind 8 [some (.ref 21)] [.int u0] (pv_em S) = if u0 = 0 then pv_R mX5_rulerKind 23 [some (.ref 21)] [] (pv_em S) else pv_R mX5_rulerKind 11 [some (.ref 21)] [] (pv_em S) := pv_Rbr (tgt := 23) dX5_rulerKind_8 rfl rfl rfl rfl rfl (by decide)
set_option maxHeartbeats 200000 in
theorem bX5_rulerKind_11 {S : pv_S} : pv_R mX5_rulerKind 11 [some (.ref 21)] [] (pv_em S) = if (S.1 21 10) < 0 ∨ 6 ≤ (S.1 21 10).toNatClampNeg then none else pv_R mX5_rulerKind 24 [some (.ref 21)] [.int (S.1 22 (S.1 21 10).toNatClampNeg)] (pv_em S) := Eq.trans (pv_Rstp dX5_rulerKind_11 rfl rfl rfl) (Eq.trans (pv_Rget dX5_rulerKind_12 ffX5_9 (by decide) (pv_ce_21 _ _) rfl) (Eq.trans (pv_Rstp dX5_rulerKind_15 rfl rfl rfl) (Eq.trans (pv_Rget dX5_rulerKind_16 ffX5_53 (by decide) (pv_ce_21 _ _) rfl) (Eq.trans (pv_Rald dX5_rulerKind_19 (by decide) (pv_ce_22 _ _)) (pv_iteN (fun h1 => pv_Rgo (tgt := 24) dX5_rulerKind_20 rfl (by decide)))))))
set_option maxHeartbeats 200000 in
theorem bX5_rulerKind_23 {S : pv_S} : pv_R mX5_rulerKind 23 [some (.ref 21)] [] (pv_em S) = pv_R mX5_rulerKind 24 [some (.ref 21)] [.int 0] (pv_em S) := pv_Ric dX5_rulerKind_23 ki_0
set_option maxHeartbeats 200000 in
theorem bX5_rulerKind_24 {S : pv_S} {u0 : Int32} : pv_R mX5_rulerKind 24 [some (.ref 21)] [.int u0] (pv_em S) = some (some (.int u0), pv_em S) := pv_Rret dX5_rulerKind_24 rfl
theorem dX5_rulerMeal_0 : decode cX5_rulerMeal 0 = .ok (.aload_n 0, 1) := by decide +kernel
theorem dX5_rulerMeal_1 : decode cX5_rulerMeal 1 = .ok (.aload_n 0, 1) := by decide +kernel
theorem dX5_rulerMeal_2 : decode cX5_rulerMeal 2 = .ok (.getfield 53, 3) := by decide +kernel
theorem dX5_rulerMeal_5 : decode cX5_rulerMeal 5 = .ok (.invokevirtual 56, 3) := by decide +kernel
theorem dX5_rulerMeal_8 : decode cX5_rulerMeal 8 = .ok (.ifCond .eq 14, 3) := by decide +kernel
theorem dX5_rulerMeal_11 : decode cX5_rulerMeal 11 = .ok (.aload_n 0, 1) := by decide +kernel
theorem dX5_rulerMeal_12 : decode cX5_rulerMeal 12 = .ok (.aload_n 0, 1) := by decide +kernel
theorem dX5_rulerMeal_13 : decode cX5_rulerMeal 13 = .ok (.getfield 53, 3) := by decide +kernel
theorem dX5_rulerMeal_16 : decode cX5_rulerMeal 16 = .ok (.invokevirtual 60, 3) := by decide +kernel
theorem dX5_rulerMeal_19 : decode cX5_rulerMeal 19 = .ok (.goto 4, 3) := by decide +kernel
theorem dX5_rulerMeal_22 : decode cX5_rulerMeal 22 = .ok (.iconst 0, 1) := by decide +kernel
theorem dX5_rulerMeal_23 : decode cX5_rulerMeal 23 = .ok (.ireturn, 1) := by decide +kernel
set_option maxHeartbeats 200000 in
theorem bX5_rulerMeal_0 {S : pv_S} : pv_R mX5_rulerMeal 0 [some (.ref 21)] [] (pv_em S) = pv_cc (pv_R mX5_isCat 0 [some (.ref 21), some (.int (S.1 21 10))] [] (pv_em S)) mX5_rulerMeal 8 [some (.ref 21)] [] := Eq.trans (pv_Rstp dX5_rulerMeal_0 rfl rfl rfl) (Eq.trans (pv_Rstp dX5_rulerMeal_1 rfl rfl rfl) (Eq.trans (pv_Rget dX5_rulerMeal_2 ffX5_53 (by decide) (pv_ce_21 _ _) rfl) (pv_Rcall (As := [.ref 21, .int (S.1 21 10)]) (rest := []) dX5_rulerMeal_5 rfl mfX5_56 rfl rfl rfl rfl rfl)))
set_option maxHeartbeats 200000 in
theorem bX5_rulerMeal_8 {S : pv_S} {u0 : Int32} : pv_R mX5_rulerMeal 8 [some (.ref 21)] [.int u0] (pv_em S) = if u0 = 0 then pv_R mX5_rulerMeal 22 [some (.ref 21)] [] (pv_em S) else pv_R mX5_rulerMeal 11 [some (.ref 21)] [] (pv_em S) := pv_Rbr (tgt := 22) dX5_rulerMeal_8 rfl rfl rfl rfl rfl (by decide)
set_option maxHeartbeats 200000 in
theorem bX5_rulerMeal_11 {S : pv_S} : pv_R mX5_rulerMeal 11 [some (.ref 21)] [] (pv_em S) = pv_cc (pv_R mX5_mealAdds 0 [some (.ref 21), some (.int (S.1 21 10))] [] (pv_em S)) mX5_rulerMeal 19 [some (.ref 21)] [] := Eq.trans (pv_Rstp dX5_rulerMeal_11 rfl rfl rfl) (Eq.trans (pv_Rstp dX5_rulerMeal_12 rfl rfl rfl) (Eq.trans (pv_Rget dX5_rulerMeal_13 ffX5_53 (by decide) (pv_ce_21 _ _) rfl) (pv_Rcall (As := [.ref 21, .int (S.1 21 10)]) (rest := []) dX5_rulerMeal_16 rfl mfX5_60 rfl rfl rfl rfl rfl)))
set_option maxHeartbeats 200000 in
theorem bX5_rulerMeal_19 {S : pv_S} {u0 : Int32} : pv_R mX5_rulerMeal 19 [some (.ref 21)] [.int u0] (pv_em S) = pv_R mX5_rulerMeal 23 [some (.ref 21)] [.int u0] (pv_em S) := pv_Rgo (tgt := 23) dX5_rulerMeal_19 rfl (by decide)
set_option maxHeartbeats 200000 in
theorem bX5_rulerMeal_22 {S : pv_S} : pv_R mX5_rulerMeal 22 [some (.ref 21)] [] (pv_em S) = pv_R mX5_rulerMeal 23 [some (.ref 21)] [.int 0] (pv_em S) := pv_Ric dX5_rulerMeal_22 ki_0
set_option maxHeartbeats 200000 in
theorem bX5_rulerMeal_23 {S : pv_S} {u0 : Int32} : pv_R mX5_rulerMeal 23 [some (.ref 21)] [.int u0] (pv_em S) = some (some (.int u0), pv_em S) := pv_Rret dX5_rulerMeal_23 rfl
theorem dX5_keptTowns_0 : decode cX5_keptTowns 0 = .ok (.iconst 0, 1) := by decide +kernel
theorem dX5_keptTowns_1 : decode cX5_keptTowns 1 = .ok (.istore_n 1, 1) := by decide +kernel
theorem dX5_keptTowns_2 : decode cX5_keptTowns 2 = .ok (.iconst 0, 1) := by decide +kernel
theorem dX5_keptTowns_3 : decode cX5_keptTowns 3 = .ok (.istore_n 2, 1) := by decide +kernel
theorem dX5_keptTowns_4 : decode cX5_keptTowns 4 = .ok (.iload_n 2, 1) := by decide +kernel
theorem dX5_keptTowns_5 : decode cX5_keptTowns 5 = .ok (.iconst 3, 1) := by decide +kernel
theorem dX5_keptTowns_6 : decode cX5_keptTowns 6 = .ok (.if_icmp .ge 21, 3) := by decide +kernel
theorem dX5_keptTowns_9 : decode cX5_keptTowns 9 = .ok (.aload_n 0, 1) := by decide +kernel
theorem dX5_keptTowns_10 : decode cX5_keptTowns 10 = .ok (.getfield 27, 3) := by decide +kernel
theorem dX5_keptTowns_13 : decode cX5_keptTowns 13 = .ok (.iload_n 2, 1) := by decide +kernel
theorem dX5_keptTowns_14 : decode cX5_keptTowns 14 = .ok (.iaload, 1) := by decide +kernel
theorem dX5_keptTowns_15 : decode cX5_keptTowns 15 = .ok (.ifCond .lt 6, 3) := by decide +kernel
theorem dX5_keptTowns_18 : decode cX5_keptTowns 18 = .ok (.iinc 1 1, 3) := by decide +kernel
theorem dX5_keptTowns_21 : decode cX5_keptTowns 21 = .ok (.iinc 2 1, 3) := by decide +kernel
theorem dX5_keptTowns_24 : decode cX5_keptTowns 24 = .ok (.goto (-20), 3) := by decide +kernel
theorem dX5_keptTowns_27 : decode cX5_keptTowns 27 = .ok (.iload_n 1, 1) := by decide +kernel
theorem dX5_keptTowns_28 : decode cX5_keptTowns 28 = .ok (.ireturn, 1) := by decide +kernel
set_option maxHeartbeats 200000 in
theorem bX5_keptTowns_0 {S : pv_S} {a1 a2 : Option Value} : pv_R mX5_keptTowns 0 [some (.ref 21), a1, a2] [] (pv_em S) = pv_R mX5_keptTowns 4 [some (.ref 21), some (.int 0), some (.int 0)] [] (pv_em S) := Eq.trans (pv_Ric dX5_keptTowns_0 ki_0) (Eq.trans (pv_Rstp dX5_keptTowns_1 rfl rfl rfl) (Eq.trans (pv_Ric dX5_keptTowns_2 ki_0) (pv_Rstp dX5_keptTowns_3 rfl rfl rfl)))
set_option maxHeartbeats 200000 in
theorem bX5_keptTowns_4 {S : pv_S} {x1 x2 : Int32} : pv_R mX5_keptTowns 4 [some (.ref 21), some (.int x1), some (.int x2)] [] (pv_em S) = if 3 ≤ x2 then pv_R mX5_keptTowns 27 [some (.ref 21), some (.int x1), some (.int x2)] [] (pv_em S) else pv_R mX5_keptTowns 9 [some (.ref 21), some (.int x1), some (.int x2)] [] (pv_em S) := Eq.trans (pv_Rstp dX5_keptTowns_4 rfl rfl rfl) (Eq.trans (pv_Ric dX5_keptTowns_5 ki_3) (pv_Rbr (tgt := 27) dX5_keptTowns_6 rfl rfl rfl rfl rfl (by decide)))
set_option maxHeartbeats 200000 in
theorem bX5_keptTowns_9 {S : pv_S} {x1 x2 : Int32} : pv_R mX5_keptTowns 9 [some (.ref 21), some (.int x1), some (.int x2)] [] (pv_em S) = if x2 < 0 ∨ 3 ≤ x2.toNatClampNeg then none else if (S.1 27 x2.toNatClampNeg) < 0 then pv_R mX5_keptTowns 21 [some (.ref 21), some (.int x1), some (.int x2)] [] (pv_em S) else pv_R mX5_keptTowns 18 [some (.ref 21), some (.int x1), some (.int x2)] [] (pv_em S) := Eq.trans (pv_Rstp dX5_keptTowns_9 rfl rfl rfl) (Eq.trans (pv_Rget dX5_keptTowns_10 ffX5_27 (by decide) (pv_ce_21 _ _) rfl) (Eq.trans (pv_Rstp dX5_keptTowns_13 rfl rfl rfl) (Eq.trans (pv_Rald dX5_keptTowns_14 (by decide) (pv_ce_27 _ _)) (pv_iteN (fun h1 => pv_Rbr (tgt := 21) dX5_keptTowns_15 rfl rfl rfl rfl rfl (by decide))))))
set_option maxHeartbeats 200000 in
theorem bX5_keptTowns_18 {S : pv_S} {x1 x2 : Int32} : pv_R mX5_keptTowns 18 [some (.ref 21), some (.int x1), some (.int x2)] [] (pv_em S) = pv_R mX5_keptTowns 21 [some (.ref 21), some (.int (x1 + 1)), some (.int x2)] [] (pv_em S) := pv_Rinc dX5_keptTowns_18 rfl (Nat.le_of_ble_eq_true rfl) ki_1 rfl
set_option maxHeartbeats 200000 in
theorem bX5_keptTowns_21 {S : pv_S} {x1 x2 : Int32} : pv_R mX5_keptTowns 21 [some (.ref 21), some (.int x1), some (.int x2)] [] (pv_em S) = pv_R mX5_keptTowns 4 [some (.ref 21), some (.int x1), some (.int (x2 + 1))] [] (pv_em S) := Eq.trans (pv_Rinc dX5_keptTowns_21 rfl (Nat.le_of_ble_eq_true rfl) ki_1 rfl) (pv_Rgo (tgt := 4) dX5_keptTowns_24 rfl (by decide))
set_option maxHeartbeats 200000 in
theorem bX5_keptTowns_27 {S : pv_S} {x1 x2 : Int32} : pv_R mX5_keptTowns 27 [some (.ref 21), some (.int x1), some (.int x2)] [] (pv_em S) = some (some (.int x1), pv_em S) := Eq.trans (pv_Rstp dX5_keptTowns_27 rfl rfl rfl) (pv_Rret dX5_keptTowns_28 rfl)
theorem dX2_skipBlanks_0 : decode cX2_skipBlanks 0 = .ok (.iconst 0, 1) := by decide +kernel
theorem dX2_skipBlanks_1 : decode cX2_skipBlanks 1 = .ok (.istore_n 3, 1) := by decide +kernel
theorem dX2_skipBlanks_2 : decode cX2_skipBlanks 2 = .ok (.iload_n 3, 1) := by decide +kernel
theorem dX2_skipBlanks_3 : decode cX2_skipBlanks 3 = .ok (.bipush 60, 2) := by decide +kernel
theorem dX2_skipBlanks_5 : decode cX2_skipBlanks 5 = .ok (.if_icmp .ge 30, 3) := by decide +kernel
theorem dX2_skipBlanks_8 : decode cX2_skipBlanks 8 = .ok (.aload_n 0, 1) := by decide +kernel
theorem dX2_skipBlanks_9 : decode cX2_skipBlanks 9 = .ok (.aload_n 1, 1) := by decide +kernel
theorem dX2_skipBlanks_10 : decode cX2_skipBlanks 10 = .ok (.iload_n 2, 1) := by decide +kernel
theorem dX2_skipBlanks_11 : decode cX2_skipBlanks 11 = .ok (.invokevirtual 49, 3) := by decide +kernel
theorem dX2_skipBlanks_14 : decode cX2_skipBlanks 14 = .ok (.bipush 32, 2) := by decide +kernel
theorem dX2_skipBlanks_16 : decode cX2_skipBlanks 16 = .ok (.if_icmp .ne 19, 3) := by decide +kernel
theorem dX2_skipBlanks_19 : decode cX2_skipBlanks 19 = .ok (.aload_n 0, 1) := by decide +kernel
theorem dX2_skipBlanks_20 : decode cX2_skipBlanks 20 = .ok (.dup, 1) := by decide +kernel
theorem dX2_skipBlanks_21 : decode cX2_skipBlanks 21 = .ok (.getfield 27, 3) := by decide +kernel
theorem dX2_skipBlanks_24 : decode cX2_skipBlanks 24 = .ok (.iconst 1, 1) := by decide +kernel
theorem dX2_skipBlanks_25 : decode cX2_skipBlanks 25 = .ok (.iadd, 1) := by decide +kernel
theorem dX2_skipBlanks_26 : decode cX2_skipBlanks 26 = .ok (.putfield 27, 3) := by decide +kernel
theorem dX2_skipBlanks_29 : decode cX2_skipBlanks 29 = .ok (.iinc 3 1, 3) := by decide +kernel
theorem dX2_skipBlanks_32 : decode cX2_skipBlanks 32 = .ok (.goto (-30), 3) := by decide +kernel
theorem dX2_skipBlanks_35 : decode cX2_skipBlanks 35 = .ok (.return_, 1) := by decide +kernel
set_option maxHeartbeats 200000 in
theorem bX2_skipBlanks_0 {S : pv_S} {x2 : Int32} {a3 : Option Value} : pv_R mX2_skipBlanks 0 [some (.ref 17), some (.ref 10), some (.int x2), a3] [] (pv_em S) = pv_R mX2_skipBlanks 2 [some (.ref 17), some (.ref 10), some (.int x2), some (.int 0)] [] (pv_em S) := Eq.trans (pv_Ric dX2_skipBlanks_0 ki_0) (pv_Rstp dX2_skipBlanks_1 rfl rfl rfl)
set_option maxHeartbeats 200000 in
theorem bX2_skipBlanks_2 {S : pv_S} {x2 x3 : Int32} : pv_R mX2_skipBlanks 2 [some (.ref 17), some (.ref 10), some (.int x2), some (.int x3)] [] (pv_em S) = if 60 ≤ x3 then pv_R mX2_skipBlanks 35 [some (.ref 17), some (.ref 10), some (.int x2), some (.int x3)] [] (pv_em S) else pv_R mX2_skipBlanks 8 [some (.ref 17), some (.ref 10), some (.int x2), some (.int x3)] [] (pv_em S) := Eq.trans (pv_Rstp dX2_skipBlanks_2 rfl rfl rfl) (Eq.trans (pv_Rbp dX2_skipBlanks_3 kb_60) (pv_Rbr (tgt := 35) dX2_skipBlanks_5 rfl rfl rfl rfl rfl (by decide)))
set_option maxHeartbeats 200000 in
theorem bX2_skipBlanks_8 {S : pv_S} {x2 x3 : Int32} : pv_R mX2_skipBlanks 8 [some (.ref 17), some (.ref 10), some (.int x2), some (.int x3)] [] (pv_em S) = pv_cc (pv_R mX2_signAt 0 [some (.ref 17), some (.ref 10), some (.int x2)] [] (pv_em S)) mX2_skipBlanks 14 [some (.ref 17), some (.ref 10), some (.int x2), some (.int x3)] [] := Eq.trans (pv_Rstp dX2_skipBlanks_8 rfl rfl rfl) (Eq.trans (pv_Rstp dX2_skipBlanks_9 rfl rfl rfl) (Eq.trans (pv_Rstp dX2_skipBlanks_10 rfl rfl rfl) (pv_Rcall (As := [.ref 17, .ref 10, .int x2]) (rest := []) dX2_skipBlanks_11 rfl mfX2_49 rfl rfl rfl rfl rfl)))
set_option maxHeartbeats 200000 in
theorem bX2_skipBlanks_14 {S : pv_S} {x2 x3 u0 : Int32} : pv_R mX2_skipBlanks 14 [some (.ref 17), some (.ref 10), some (.int x2), some (.int x3)] [.int u0] (pv_em S) = if ¬ u0 = 32 then pv_R mX2_skipBlanks 35 [some (.ref 17), some (.ref 10), some (.int x2), some (.int x3)] [] (pv_em S) else pv_R mX2_skipBlanks 19 [some (.ref 17), some (.ref 10), some (.int x2), some (.int x3)] [] (pv_em S) := Eq.trans (pv_Rbp dX2_skipBlanks_14 kb_32) (pv_Rbr (tgt := 35) dX2_skipBlanks_16 rfl rfl rfl rfl rfl (by decide))
set_option maxHeartbeats 200000 in
theorem bX2_skipBlanks_19 {S : pv_S} {x2 x3 : Int32} : pv_R mX2_skipBlanks 19 [some (.ref 17), some (.ref 10), some (.int x2), some (.int x3)] [] (pv_em S) = pv_R mX2_skipBlanks 2 [some (.ref 17), some (.ref 10), some (.int x2), some (.int (x3 + 1))] [] (pv_em (pv_si S 17 5 ((S.1 17 5) + 1))) := Eq.trans (pv_Rstp dX2_skipBlanks_19 rfl rfl rfl) (Eq.trans (pv_Rstp dX2_skipBlanks_20 rfl rfl rfl) (Eq.trans (pv_Rget dX2_skipBlanks_21 ffX2_27 (by decide) (pv_ce_17 _ _) rfl) (Eq.trans (pv_Ric dX2_skipBlanks_24 ki_1) (Eq.trans (pv_Rstp dX2_skipBlanks_25 rfl rfl rfl) (Eq.trans (pv_Rput dX2_skipBlanks_26 ffX2_27 rfl rfl rfl (by decide) (pv_ce_17 _ _) (Nat.le_of_ble_eq_true rfl) (pv_em_si rfl)) (Eq.trans (pv_Rinc dX2_skipBlanks_29 rfl (Nat.le_of_ble_eq_true rfl) ki_1 rfl) (pv_Rgo (tgt := 2) dX2_skipBlanks_32 rfl (by decide))))))))
set_option maxHeartbeats 200000 in
theorem bX2_skipBlanks_35 {S : pv_S} {x2 x3 : Int32} : pv_R mX2_skipBlanks 35 [some (.ref 17), some (.ref 10), some (.int x2), some (.int x3)] [] (pv_em S) = some (none, pv_em S) := pv_Rret dX2_skipBlanks_35 rfl
theorem dX2_takeCat_0 : decode cX2_takeCat 0 = .ok (.aload_n 0, 1) := by decide +kernel
theorem dX2_takeCat_1 : decode cX2_takeCat 1 = .ok (.aload_n 1, 1) := by decide +kernel
theorem dX2_takeCat_2 : decode cX2_takeCat 2 = .ok (.iload_n 2, 1) := by decide +kernel
theorem dX2_takeCat_3 : decode cX2_takeCat 3 = .ok (.invokevirtual 49, 3) := by decide +kernel
theorem dX2_takeCat_6 : decode cX2_takeCat 6 = .ok (.invokestatic 59, 3) := by decide +kernel
theorem dX2_takeCat_9 : decode cX2_takeCat 9 = .ok (.istore_n 3, 1) := by decide +kernel
theorem dX2_takeCat_10 : decode cX2_takeCat 10 = .ok (.aload_n 0, 1) := by decide +kernel
theorem dX2_takeCat_11 : decode cX2_takeCat 11 = .ok (.getfield 31, 3) := by decide +kernel
theorem dX2_takeCat_14 : decode cX2_takeCat 14 = .ok (.bipush 6, 2) := by decide +kernel
theorem dX2_takeCat_16 : decode cX2_takeCat 16 = .ok (.if_icmp .ge 8, 3) := by decide +kernel
theorem dX2_takeCat_19 : decode cX2_takeCat 19 = .ok (.iload_n 3, 1) := by decide +kernel
theorem dX2_takeCat_20 : decode cX2_takeCat 20 = .ok (.iconst (-1), 1) := by decide +kernel
theorem dX2_takeCat_21 : decode cX2_takeCat 21 = .ok (.if_icmp .ne 5, 3) := by decide +kernel
theorem dX2_takeCat_24 : decode cX2_takeCat 24 = .ok (.iconst 0, 1) := by decide +kernel
theorem dX2_takeCat_25 : decode cX2_takeCat 25 = .ok (.ireturn, 1) := by decide +kernel
theorem dX2_takeCat_26 : decode cX2_takeCat 26 = .ok (.aload_n 0, 1) := by decide +kernel
theorem dX2_takeCat_27 : decode cX2_takeCat 27 = .ok (.dup, 1) := by decide +kernel
theorem dX2_takeCat_28 : decode cX2_takeCat 28 = .ok (.getfield 27, 3) := by decide +kernel
theorem dX2_takeCat_31 : decode cX2_takeCat 31 = .ok (.iconst 1, 1) := by decide +kernel
theorem dX2_takeCat_32 : decode cX2_takeCat 32 = .ok (.iadd, 1) := by decide +kernel
theorem dX2_takeCat_33 : decode cX2_takeCat 33 = .ok (.putfield 27, 3) := by decide +kernel
theorem dX2_takeCat_36 : decode cX2_takeCat 36 = .ok (.aload_n 0, 1) := by decide +kernel
theorem dX2_takeCat_37 : decode cX2_takeCat 37 = .ok (.aload_n 1, 1) := by decide +kernel
theorem dX2_takeCat_38 : decode cX2_takeCat 38 = .ok (.iload_n 2, 1) := by decide +kernel
theorem dX2_takeCat_39 : decode cX2_takeCat 39 = .ok (.invokevirtual 53, 3) := by decide +kernel
theorem dX2_takeCat_42 : decode cX2_takeCat 42 = .ok (.istore 4, 2) := by decide +kernel
theorem dX2_takeCat_44 : decode cX2_takeCat 44 = .ok (.iload 4, 2) := by decide +kernel
theorem dX2_takeCat_46 : decode cX2_takeCat 46 = .ok (.ifCond .ne 5, 3) := by decide +kernel
theorem dX2_takeCat_49 : decode cX2_takeCat 49 = .ok (.iconst 0, 1) := by decide +kernel
theorem dX2_takeCat_50 : decode cX2_takeCat 50 = .ok (.ireturn, 1) := by decide +kernel
theorem dX2_takeCat_51 : decode cX2_takeCat 51 = .ok (.aload_n 0, 1) := by decide +kernel
theorem dX2_takeCat_52 : decode cX2_takeCat 52 = .ok (.aload_n 1, 1) := by decide +kernel
theorem dX2_takeCat_53 : decode cX2_takeCat 53 = .ok (.iload_n 2, 1) := by decide +kernel
theorem dX2_takeCat_54 : decode cX2_takeCat 54 = .ok (.invokevirtual 64, 3) := by decide +kernel
theorem dX2_takeCat_57 : decode cX2_takeCat 57 = .ok (.istore 5, 2) := by decide +kernel
theorem dX2_takeCat_59 : decode cX2_takeCat 59 = .ok (.iload 5, 2) := by decide +kernel
theorem dX2_takeCat_61 : decode cX2_takeCat 61 = .ok (.ifCond .ge 5, 3) := by decide +kernel
theorem dX2_takeCat_64 : decode cX2_takeCat 64 = .ok (.iconst 0, 1) := by decide +kernel
theorem dX2_takeCat_65 : decode cX2_takeCat 65 = .ok (.ireturn, 1) := by decide +kernel
theorem dX2_takeCat_66 : decode cX2_takeCat 66 = .ok (.aload_n 0, 1) := by decide +kernel
theorem dX2_takeCat_67 : decode cX2_takeCat 67 = .ok (.dup, 1) := by decide +kernel
theorem dX2_takeCat_68 : decode cX2_takeCat 68 = .ok (.getfield 27, 3) := by decide +kernel
theorem dX2_takeCat_71 : decode cX2_takeCat 71 = .ok (.iconst 1, 1) := by decide +kernel
theorem dX2_takeCat_72 : decode cX2_takeCat 72 = .ok (.iadd, 1) := by decide +kernel
theorem dX2_takeCat_73 : decode cX2_takeCat 73 = .ok (.putfield 27, 3) := by decide +kernel
theorem dX2_takeCat_76 : decode cX2_takeCat 76 = .ok (.aload_n 0, 1) := by decide +kernel
theorem dX2_takeCat_77 : decode cX2_takeCat 77 = .ok (.getfield 9, 3) := by decide +kernel
theorem dX2_takeCat_80 : decode cX2_takeCat 80 = .ok (.aload_n 0, 1) := by decide +kernel
theorem dX2_takeCat_81 : decode cX2_takeCat 81 = .ok (.getfield 31, 3) := by decide +kernel
theorem dX2_takeCat_84 : decode cX2_takeCat 84 = .ok (.iload_n 3, 1) := by decide +kernel
theorem dX2_takeCat_85 : decode cX2_takeCat 85 = .ok (.iastore, 1) := by decide +kernel
theorem dX2_takeCat_86 : decode cX2_takeCat 86 = .ok (.aload_n 0, 1) := by decide +kernel
theorem dX2_takeCat_87 : decode cX2_takeCat 87 = .ok (.getfield 15, 3) := by decide +kernel
theorem dX2_takeCat_90 : decode cX2_takeCat 90 = .ok (.aload_n 0, 1) := by decide +kernel
theorem dX2_takeCat_91 : decode cX2_takeCat 91 = .ok (.getfield 31, 3) := by decide +kernel
theorem dX2_takeCat_94 : decode cX2_takeCat 94 = .ok (.iload 4, 2) := by decide +kernel
theorem dX2_takeCat_96 : decode cX2_takeCat 96 = .ok (.iastore, 1) := by decide +kernel
theorem dX2_takeCat_97 : decode cX2_takeCat 97 = .ok (.aload_n 0, 1) := by decide +kernel
theorem dX2_takeCat_98 : decode cX2_takeCat 98 = .ok (.getfield 18, 3) := by decide +kernel
theorem dX2_takeCat_101 : decode cX2_takeCat 101 = .ok (.aload_n 0, 1) := by decide +kernel
theorem dX2_takeCat_102 : decode cX2_takeCat 102 = .ok (.getfield 31, 3) := by decide +kernel
theorem dX2_takeCat_105 : decode cX2_takeCat 105 = .ok (.iload 5, 2) := by decide +kernel
theorem dX2_takeCat_107 : decode cX2_takeCat 107 = .ok (.iastore, 1) := by decide +kernel
theorem dX2_takeCat_108 : decode cX2_takeCat 108 = .ok (.aload_n 0, 1) := by decide +kernel
theorem dX2_takeCat_109 : decode cX2_takeCat 109 = .ok (.dup, 1) := by decide +kernel
theorem dX2_takeCat_110 : decode cX2_takeCat 110 = .ok (.getfield 31, 3) := by decide +kernel
theorem dX2_takeCat_113 : decode cX2_takeCat 113 = .ok (.iconst 1, 1) := by decide +kernel
theorem dX2_takeCat_114 : decode cX2_takeCat 114 = .ok (.iadd, 1) := by decide +kernel
theorem dX2_takeCat_115 : decode cX2_takeCat 115 = .ok (.putfield 31, 3) := by decide +kernel
theorem dX2_takeCat_118 : decode cX2_takeCat 118 = .ok (.iconst 1, 1) := by decide +kernel
theorem dX2_takeCat_119 : decode cX2_takeCat 119 = .ok (.ireturn, 1) := by decide +kernel
set_option maxHeartbeats 200000 in
theorem bX2_takeCat_0 {S : pv_S} {x2 : Int32} {a3 a4 a5 : Option Value} : pv_R mX2_takeCat 0 [some (.ref 17), some (.ref 10), some (.int x2), a3, a4, a5] [] (pv_em S) = pv_cc (pv_R mX2_signAt 0 [some (.ref 17), some (.ref 10), some (.int x2)] [] (pv_em S)) mX2_takeCat 6 [some (.ref 17), some (.ref 10), some (.int x2), a3, a4, a5] [] := Eq.trans (pv_Rstp dX2_takeCat_0 rfl rfl rfl) (Eq.trans (pv_Rstp dX2_takeCat_1 rfl rfl rfl) (Eq.trans (pv_Rstp dX2_takeCat_2 rfl rfl rfl) (pv_Rcall (As := [.ref 17, .ref 10, .int x2]) (rest := []) dX2_takeCat_3 rfl mfX2_49 rfl rfl rfl rfl rfl)))
set_option maxHeartbeats 200000 in
theorem bX2_takeCat_6 {S : pv_S} {x2 u0 : Int32} {a3 a4 a5 : Option Value} : pv_R mX2_takeCat 6 [some (.ref 17), some (.ref 10), some (.int x2), a3, a4, a5] [.int u0] (pv_em S) = pv_cc (pv_R mX0_byLetter 0 [some (.int u0)] [] (pv_em S)) mX2_takeCat 9 [some (.ref 17), some (.ref 10), some (.int x2), a3, a4, a5] [] := pv_Rcall (As := [.int u0]) (rest := []) dX2_takeCat_6 rfl mfX2_59 rfl rfl rfl rfl rfl
set_option maxHeartbeats 200000 in
theorem bX2_takeCat_9 {S : pv_S} {x2 u0 : Int32} {a3 a4 a5 : Option Value} : pv_R mX2_takeCat 9 [some (.ref 17), some (.ref 10), some (.int x2), a3, a4, a5] [.int u0] (pv_em S) = if 6 ≤ (S.1 17 4) then pv_R mX2_takeCat 24 [some (.ref 17), some (.ref 10), some (.int x2), some (.int u0), a4, a5] [] (pv_em S) else pv_R mX2_takeCat 19 [some (.ref 17), some (.ref 10), some (.int x2), some (.int u0), a4, a5] [] (pv_em S) := Eq.trans (pv_Rstp dX2_takeCat_9 rfl rfl rfl) (Eq.trans (pv_Rstp dX2_takeCat_10 rfl rfl rfl) (Eq.trans (pv_Rget dX2_takeCat_11 ffX2_31 (by decide) (pv_ce_17 _ _) rfl) (Eq.trans (pv_Rbp dX2_takeCat_14 kb_6) (pv_Rbr (tgt := 24) dX2_takeCat_16 rfl rfl rfl rfl rfl (by decide)))))
set_option maxHeartbeats 200000 in
theorem bX2_takeCat_19 {S : pv_S} {x2 x3 : Int32} {a4 a5 : Option Value} : pv_R mX2_takeCat 19 [some (.ref 17), some (.ref 10), some (.int x2), some (.int x3), a4, a5] [] (pv_em S) = if ¬ x3 = (-1) then pv_R mX2_takeCat 26 [some (.ref 17), some (.ref 10), some (.int x2), some (.int x3), a4, a5] [] (pv_em S) else pv_R mX2_takeCat 24 [some (.ref 17), some (.ref 10), some (.int x2), some (.int x3), a4, a5] [] (pv_em S) := Eq.trans (pv_Rstp dX2_takeCat_19 rfl rfl rfl) (Eq.trans (pv_Ric dX2_takeCat_20 ki_m1) (pv_Rbr (tgt := 26) dX2_takeCat_21 rfl rfl rfl rfl rfl (by decide)))
set_option maxHeartbeats 200000 in
theorem bX2_takeCat_24 {S : pv_S} {x2 x3 : Int32} {a4 a5 : Option Value} : pv_R mX2_takeCat 24 [some (.ref 17), some (.ref 10), some (.int x2), some (.int x3), a4, a5] [] (pv_em S) = some (some (.int 0), pv_em S) := Eq.trans (pv_Ric dX2_takeCat_24 ki_0) (pv_Rret dX2_takeCat_25 rfl)
set_option maxHeartbeats 200000 in
theorem bX2_takeCat_26 {S : pv_S} {x2 x3 : Int32} {a4 a5 : Option Value} : pv_R mX2_takeCat 26 [some (.ref 17), some (.ref 10), some (.int x2), some (.int x3), a4, a5] [] (pv_em S) = pv_cc (pv_R mX2_takeWeight 0 [some (.ref 17), some (.ref 10), some (.int x2), none, none] [] (pv_em (pv_si S 17 5 ((S.1 17 5) + 1)))) mX2_takeCat 42 [some (.ref 17), some (.ref 10), some (.int x2), some (.int x3), a4, a5] [] := Eq.trans (pv_Rstp dX2_takeCat_26 rfl rfl rfl) (Eq.trans (pv_Rstp dX2_takeCat_27 rfl rfl rfl) (Eq.trans (pv_Rget dX2_takeCat_28 ffX2_27 (by decide) (pv_ce_17 _ _) rfl) (Eq.trans (pv_Ric dX2_takeCat_31 ki_1) (Eq.trans (pv_Rstp dX2_takeCat_32 rfl rfl rfl) (Eq.trans (pv_Rput dX2_takeCat_33 ffX2_27 rfl rfl rfl (by decide) (pv_ce_17 _ _) (Nat.le_of_ble_eq_true rfl) (pv_em_si rfl)) (Eq.trans (pv_Rstp dX2_takeCat_36 rfl rfl rfl) (Eq.trans (pv_Rstp dX2_takeCat_37 rfl rfl rfl) (Eq.trans (pv_Rstp dX2_takeCat_38 rfl rfl rfl) (pv_Rcall (As := [.ref 17, .ref 10, .int x2]) (rest := []) dX2_takeCat_39 rfl mfX2_53 rfl rfl rfl rfl rfl)))))))))
set_option maxHeartbeats 200000 in
theorem bX2_takeCat_42 {S : pv_S} {x2 x3 u0 : Int32} {a4 a5 : Option Value} : pv_R mX2_takeCat 42 [some (.ref 17), some (.ref 10), some (.int x2), some (.int x3), a4, a5] [.int u0] (pv_em S) = if ¬ u0 = 0 then pv_R mX2_takeCat 51 [some (.ref 17), some (.ref 10), some (.int x2), some (.int x3), some (.int u0), a5] [] (pv_em S) else pv_R mX2_takeCat 49 [some (.ref 17), some (.ref 10), some (.int x2), some (.int x3), some (.int u0), a5] [] (pv_em S) := Eq.trans (pv_Rstp dX2_takeCat_42 rfl rfl rfl) (Eq.trans (pv_Rstp dX2_takeCat_44 rfl rfl rfl) (pv_Rbr (tgt := 51) dX2_takeCat_46 rfl rfl rfl rfl rfl (by decide)))
set_option maxHeartbeats 200000 in
theorem bX2_takeCat_49 {S : pv_S} {x2 x3 x4 : Int32} {a5 : Option Value} : pv_R mX2_takeCat 49 [some (.ref 17), some (.ref 10), some (.int x2), some (.int x3), some (.int x4), a5] [] (pv_em S) = some (some (.int 0), pv_em S) := Eq.trans (pv_Ric dX2_takeCat_49 ki_0) (pv_Rret dX2_takeCat_50 rfl)
set_option maxHeartbeats 200000 in
theorem bX2_takeCat_51 {S : pv_S} {x2 x3 x4 : Int32} {a5 : Option Value} : pv_R mX2_takeCat 51 [some (.ref 17), some (.ref 10), some (.int x2), some (.int x3), some (.int x4), a5] [] (pv_em S) = pv_cc (pv_R mX2_figureAt 0 [some (.ref 17), some (.ref 10), some (.int x2), none] [] (pv_em S)) mX2_takeCat 57 [some (.ref 17), some (.ref 10), some (.int x2), some (.int x3), some (.int x4), a5] [] := Eq.trans (pv_Rstp dX2_takeCat_51 rfl rfl rfl) (Eq.trans (pv_Rstp dX2_takeCat_52 rfl rfl rfl) (Eq.trans (pv_Rstp dX2_takeCat_53 rfl rfl rfl) (pv_Rcall (As := [.ref 17, .ref 10, .int x2]) (rest := []) dX2_takeCat_54 rfl mfX2_64 rfl rfl rfl rfl rfl)))
set_option maxHeartbeats 200000 in
theorem bX2_takeCat_57 {S : pv_S} {x2 x3 x4 u0 : Int32} {a5 : Option Value} : pv_R mX2_takeCat 57 [some (.ref 17), some (.ref 10), some (.int x2), some (.int x3), some (.int x4), a5] [.int u0] (pv_em S) = if 0 ≤ u0 then pv_R mX2_takeCat 66 [some (.ref 17), some (.ref 10), some (.int x2), some (.int x3), some (.int x4), some (.int u0)] [] (pv_em S) else pv_R mX2_takeCat 64 [some (.ref 17), some (.ref 10), some (.int x2), some (.int x3), some (.int x4), some (.int u0)] [] (pv_em S) := Eq.trans (pv_Rstp dX2_takeCat_57 rfl rfl rfl) (Eq.trans (pv_Rstp dX2_takeCat_59 rfl rfl rfl) (pv_Rbr (tgt := 66) dX2_takeCat_61 rfl rfl rfl rfl rfl (by decide)))
set_option maxHeartbeats 200000 in
theorem bX2_takeCat_64 {S : pv_S} {x2 x3 x4 x5 : Int32} : pv_R mX2_takeCat 64 [some (.ref 17), some (.ref 10), some (.int x2), some (.int x3), some (.int x4), some (.int x5)] [] (pv_em S) = some (some (.int 0), pv_em S) := Eq.trans (pv_Ric dX2_takeCat_64 ki_0) (pv_Rret dX2_takeCat_65 rfl)
set_option maxHeartbeats 200000 in
theorem bX2_takeCat_66 {S : pv_S} {x2 x3 x4 x5 : Int32} : pv_R mX2_takeCat 66 [some (.ref 17), some (.ref 10), some (.int x2), some (.int x3), some (.int x4), some (.int x5)] [] (pv_em S) = if ((pv_si S 17 5 ((S.1 17 5) + 1)).1 17 4) < 0 ∨ 6 ≤ (((pv_si S 17 5 ((S.1 17 5) + 1)).1 17 4)).toNatClampNeg then none else if ((pv_si (pv_si S 17 5 ((S.1 17 5) + 1)) 18 (((pv_si S 17 5 ((S.1 17 5) + 1)).1 17 4)).toNatClampNeg x3).1 17 4) < 0 ∨ 6 ≤ (((pv_si (pv_si S 17 5 ((S.1 17 5) + 1)) 18 (((pv_si S 17 5 ((S.1 17 5) + 1)).1 17 4)).toNatClampNeg x3).1 17 4)).toNatClampNeg then none else if ((pv_si (pv_si (pv_si S 17 5 ((S.1 17 5) + 1)) 18 (((pv_si S 17 5 ((S.1 17 5) + 1)).1 17 4)).toNatClampNeg x3) 19 (((pv_si (pv_si S 17 5 ((S.1 17 5) + 1)) 18 (((pv_si S 17 5 ((S.1 17 5) + 1)).1 17 4)).toNatClampNeg x3).1 17 4)).toNatClampNeg x4).1 17 4) < 0 ∨ 6 ≤ (((pv_si (pv_si (pv_si S 17 5 ((S.1 17 5) + 1)) 18 (((pv_si S 17 5 ((S.1 17 5) + 1)).1 17 4)).toNatClampNeg x3) 19 (((pv_si (pv_si S 17 5 ((S.1 17 5) + 1)) 18 (((pv_si S 17 5 ((S.1 17 5) + 1)).1 17 4)).toNatClampNeg x3).1 17 4)).toNatClampNeg x4).1 17 4)).toNatClampNeg then none else some (some (.int 1), pv_em (pv_si (pv_si (pv_si (pv_si (pv_si S 17 5 ((S.1 17 5) + 1)) 18 (((pv_si S 17 5 ((S.1 17 5) + 1)).1 17 4)).toNatClampNeg x3) 19 (((pv_si (pv_si S 17 5 ((S.1 17 5) + 1)) 18 (((pv_si S 17 5 ((S.1 17 5) + 1)).1 17 4)).toNatClampNeg x3).1 17 4)).toNatClampNeg x4) 20 (((pv_si (pv_si (pv_si S 17 5 ((S.1 17 5) + 1)) 18 (((pv_si S 17 5 ((S.1 17 5) + 1)).1 17 4)).toNatClampNeg x3) 19 (((pv_si (pv_si S 17 5 ((S.1 17 5) + 1)) 18 (((pv_si S 17 5 ((S.1 17 5) + 1)).1 17 4)).toNatClampNeg x3).1 17 4)).toNatClampNeg x4).1 17 4)).toNatClampNeg x5) 17 4 (((pv_si (pv_si (pv_si (pv_si S 17 5 ((S.1 17 5) + 1)) 18 (((pv_si S 17 5 ((S.1 17 5) + 1)).1 17 4)).toNatClampNeg x3) 19 (((pv_si (pv_si S 17 5 ((S.1 17 5) + 1)) 18 (((pv_si S 17 5 ((S.1 17 5) + 1)).1 17 4)).toNatClampNeg x3).1 17 4)).toNatClampNeg x4) 20 (((pv_si (pv_si (pv_si S 17 5 ((S.1 17 5) + 1)) 18 (((pv_si S 17 5 ((S.1 17 5) + 1)).1 17 4)).toNatClampNeg x3) 19 (((pv_si (pv_si S 17 5 ((S.1 17 5) + 1)) 18 (((pv_si S 17 5 ((S.1 17 5) + 1)).1 17 4)).toNatClampNeg x3).1 17 4)).toNatClampNeg x4).1 17 4)).toNatClampNeg x5).1 17 4) + 1))) := Eq.trans (pv_Rstp dX2_takeCat_66 rfl rfl rfl) (Eq.trans (pv_Rstp dX2_takeCat_67 rfl rfl rfl) (Eq.trans (pv_Rget dX2_takeCat_68 ffX2_27 (by decide) (pv_ce_17 _ _) rfl) (Eq.trans (pv_Ric dX2_takeCat_71 ki_1) (Eq.trans (pv_Rstp dX2_takeCat_72 rfl rfl rfl) (Eq.trans (pv_Rput dX2_takeCat_73 ffX2_27 rfl rfl rfl (by decide) (pv_ce_17 _ _) (Nat.le_of_ble_eq_true rfl) (pv_em_si rfl)) (Eq.trans (pv_Rstp dX2_takeCat_76 rfl rfl rfl) (Eq.trans (pv_Rget dX2_takeCat_77 ffX2_9 (by decide) (pv_ce_17 _ _) rfl) (Eq.trans (pv_Rstp dX2_takeCat_80 rfl rfl rfl) (Eq.trans (pv_Rget dX2_takeCat_81 ffX2_31 (by decide) (pv_ce_17 _ _) rfl) (Eq.trans (pv_Rstp dX2_takeCat_84 rfl rfl rfl) (Eq.trans (pv_Rast dX2_takeCat_85 (by decide) (pv_ce_18 _ _) (pv_em_si rfl)) (pv_iteN (fun h1 => Eq.trans (pv_Rstp dX2_takeCat_86 rfl rfl rfl) (Eq.trans (pv_Rget dX2_takeCat_87 ffX2_15 (by decide) (pv_ce_17 _ _) rfl) (Eq.trans (pv_Rstp dX2_takeCat_90 rfl rfl rfl) (Eq.trans (pv_Rget dX2_takeCat_91 ffX2_31 (by decide) (pv_ce_17 _ _) rfl) (Eq.trans (pv_Rstp dX2_takeCat_94 rfl rfl rfl) (Eq.trans (pv_Rast dX2_takeCat_96 (by decide) (pv_ce_19 _ _) (pv_em_si rfl)) (pv_iteN (fun h2 => Eq.trans (pv_Rstp dX2_takeCat_97 rfl rfl rfl) (Eq.trans (pv_Rget dX2_takeCat_98 ffX2_18 (by decide) (pv_ce_17 _ _) rfl) (Eq.trans (pv_Rstp dX2_takeCat_101 rfl rfl rfl) (Eq.trans (pv_Rget dX2_takeCat_102 ffX2_31 (by decide) (pv_ce_17 _ _) rfl) (Eq.trans (pv_Rstp dX2_takeCat_105 rfl rfl rfl) (Eq.trans (pv_Rast dX2_takeCat_107 (by decide) (pv_ce_20 _ _) (pv_em_si rfl)) (pv_iteN (fun h3 => Eq.trans (pv_Rstp dX2_takeCat_108 rfl rfl rfl) (Eq.trans (pv_Rstp dX2_takeCat_109 rfl rfl rfl) (Eq.trans (pv_Rget dX2_takeCat_110 ffX2_31 (by decide) (pv_ce_17 _ _) rfl) (Eq.trans (pv_Ric dX2_takeCat_113 ki_1) (Eq.trans (pv_Rstp dX2_takeCat_114 rfl rfl rfl) (Eq.trans (pv_Rput dX2_takeCat_115 ffX2_31 rfl rfl rfl (by decide) (pv_ce_17 _ _) (Nat.le_of_ble_eq_true rfl) (pv_em_si rfl)) (Eq.trans (pv_Ric dX2_takeCat_118 ki_1) (pv_Rret dX2_takeCat_119 rfl))))))))))))))))))))))))))))))))))
theorem dX2_takeDog_0 : decode cX2_takeDog 0 = .ok (.aload_n 0, 1) := by decide +kernel
theorem dX2_takeDog_1 : decode cX2_takeDog 1 = .ok (.aload_n 1, 1) := by decide +kernel
theorem dX2_takeDog_2 : decode cX2_takeDog 2 = .ok (.iload_n 2, 1) := by decide +kernel
theorem dX2_takeDog_3 : decode cX2_takeDog 3 = .ok (.invokevirtual 49, 3) := by decide +kernel
theorem dX2_takeDog_6 : decode cX2_takeDog 6 = .ok (.bipush 100, 2) := by decide +kernel
theorem dX2_takeDog_8 : decode cX2_takeDog 8 = .ok (.if_icmp .eq 5, 3) := by decide +kernel
theorem dX2_takeDog_11 : decode cX2_takeDog 11 = .ok (.iconst 0, 1) := by decide +kernel
theorem dX2_takeDog_12 : decode cX2_takeDog 12 = .ok (.ireturn, 1) := by decide +kernel
theorem dX2_takeDog_13 : decode cX2_takeDog 13 = .ok (.aload_n 0, 1) := by decide +kernel
theorem dX2_takeDog_14 : decode cX2_takeDog 14 = .ok (.dup, 1) := by decide +kernel
theorem dX2_takeDog_15 : decode cX2_takeDog 15 = .ok (.getfield 27, 3) := by decide +kernel
theorem dX2_takeDog_18 : decode cX2_takeDog 18 = .ok (.iconst 1, 1) := by decide +kernel
theorem dX2_takeDog_19 : decode cX2_takeDog 19 = .ok (.iadd, 1) := by decide +kernel
theorem dX2_takeDog_20 : decode cX2_takeDog 20 = .ok (.putfield 27, 3) := by decide +kernel
theorem dX2_takeDog_23 : decode cX2_takeDog 23 = .ok (.aload_n 0, 1) := by decide +kernel
theorem dX2_takeDog_24 : decode cX2_takeDog 24 = .ok (.aload_n 0, 1) := by decide +kernel
theorem dX2_takeDog_25 : decode cX2_takeDog 25 = .ok (.aload_n 1, 1) := by decide +kernel
theorem dX2_takeDog_26 : decode cX2_takeDog 26 = .ok (.iload_n 2, 1) := by decide +kernel
theorem dX2_takeDog_27 : decode cX2_takeDog 27 = .ok (.invokevirtual 53, 3) := by decide +kernel
theorem dX2_takeDog_30 : decode cX2_takeDog 30 = .ok (.putfield 56, 3) := by decide +kernel
theorem dX2_takeDog_33 : decode cX2_takeDog 33 = .ok (.aload_n 0, 1) := by decide +kernel
theorem dX2_takeDog_34 : decode cX2_takeDog 34 = .ok (.getfield 56, 3) := by decide +kernel
theorem dX2_takeDog_37 : decode cX2_takeDog 37 = .ok (.ifCond .le 7, 3) := by decide +kernel
theorem dX2_takeDog_40 : decode cX2_takeDog 40 = .ok (.iconst 1, 1) := by decide +kernel
theorem dX2_takeDog_41 : decode cX2_takeDog 41 = .ok (.goto 4, 3) := by decide +kernel
theorem dX2_takeDog_44 : decode cX2_takeDog 44 = .ok (.iconst 0, 1) := by decide +kernel
theorem dX2_takeDog_45 : decode cX2_takeDog 45 = .ok (.ireturn, 1) := by decide +kernel
set_option maxHeartbeats 200000 in
theorem bX2_takeDog_0 {S : pv_S} {x2 : Int32} : pv_R mX2_takeDog 0 [some (.ref 17), some (.ref 10), some (.int x2)] [] (pv_em S) = pv_cc (pv_R mX2_signAt 0 [some (.ref 17), some (.ref 10), some (.int x2)] [] (pv_em S)) mX2_takeDog 6 [some (.ref 17), some (.ref 10), some (.int x2)] [] := Eq.trans (pv_Rstp dX2_takeDog_0 rfl rfl rfl) (Eq.trans (pv_Rstp dX2_takeDog_1 rfl rfl rfl) (Eq.trans (pv_Rstp dX2_takeDog_2 rfl rfl rfl) (pv_Rcall (As := [.ref 17, .ref 10, .int x2]) (rest := []) dX2_takeDog_3 rfl mfX2_49 rfl rfl rfl rfl rfl)))
set_option maxHeartbeats 200000 in
theorem bX2_takeDog_6 {S : pv_S} {x2 u0 : Int32} : pv_R mX2_takeDog 6 [some (.ref 17), some (.ref 10), some (.int x2)] [.int u0] (pv_em S) = if u0 = 100 then pv_R mX2_takeDog 13 [some (.ref 17), some (.ref 10), some (.int x2)] [] (pv_em S) else pv_R mX2_takeDog 11 [some (.ref 17), some (.ref 10), some (.int x2)] [] (pv_em S) := Eq.trans (pv_Rbp dX2_takeDog_6 kb_100) (pv_Rbr (tgt := 13) dX2_takeDog_8 rfl rfl rfl rfl rfl (by decide))
set_option maxHeartbeats 200000 in
theorem bX2_takeDog_11 {S : pv_S} {x2 : Int32} : pv_R mX2_takeDog 11 [some (.ref 17), some (.ref 10), some (.int x2)] [] (pv_em S) = some (some (.int 0), pv_em S) := Eq.trans (pv_Ric dX2_takeDog_11 ki_0) (pv_Rret dX2_takeDog_12 rfl)
set_option maxHeartbeats 200000 in
theorem bX2_takeDog_13 {S : pv_S} {x2 : Int32} : pv_R mX2_takeDog 13 [some (.ref 17), some (.ref 10), some (.int x2)] [] (pv_em S) = pv_cc (pv_R mX2_takeWeight 0 [some (.ref 17), some (.ref 10), some (.int x2), none, none] [] (pv_em (pv_si S 17 5 ((S.1 17 5) + 1)))) mX2_takeDog 30 [some (.ref 17), some (.ref 10), some (.int x2)] [.ref 17] := Eq.trans (pv_Rstp dX2_takeDog_13 rfl rfl rfl) (Eq.trans (pv_Rstp dX2_takeDog_14 rfl rfl rfl) (Eq.trans (pv_Rget dX2_takeDog_15 ffX2_27 (by decide) (pv_ce_17 _ _) rfl) (Eq.trans (pv_Ric dX2_takeDog_18 ki_1) (Eq.trans (pv_Rstp dX2_takeDog_19 rfl rfl rfl) (Eq.trans (pv_Rput dX2_takeDog_20 ffX2_27 rfl rfl rfl (by decide) (pv_ce_17 _ _) (Nat.le_of_ble_eq_true rfl) (pv_em_si rfl)) (Eq.trans (pv_Rstp dX2_takeDog_23 rfl rfl rfl) (Eq.trans (pv_Rstp dX2_takeDog_24 rfl rfl rfl) (Eq.trans (pv_Rstp dX2_takeDog_25 rfl rfl rfl) (Eq.trans (pv_Rstp dX2_takeDog_26 rfl rfl rfl) (pv_Rcall (As := [.ref 17, .ref 10, .int x2]) (rest := [.ref 17]) dX2_takeDog_27 rfl mfX2_53 rfl rfl rfl rfl rfl))))))))))
set_option maxHeartbeats 200000 in
theorem bX2_takeDog_30 {S : pv_S} {x2 u0 : Int32} : pv_R mX2_takeDog 30 [some (.ref 17), some (.ref 10), some (.int x2)] [.int u0, .ref 17] (pv_em S) = if ((pv_si S 17 3 u0).1 17 3) ≤ 0 then pv_R mX2_takeDog 44 [some (.ref 17), some (.ref 10), some (.int x2)] [] (pv_em (pv_si S 17 3 u0)) else pv_R mX2_takeDog 40 [some (.ref 17), some (.ref 10), some (.int x2)] [] (pv_em (pv_si S 17 3 u0)) := Eq.trans (pv_Rput dX2_takeDog_30 ffX2_56 rfl rfl rfl (by decide) (pv_ce_17 _ _) (Nat.le_of_ble_eq_true rfl) (pv_em_si rfl)) (Eq.trans (pv_Rstp dX2_takeDog_33 rfl rfl rfl) (Eq.trans (pv_Rget dX2_takeDog_34 ffX2_56 (by decide) (pv_ce_17 _ _) rfl) (pv_Rbr (tgt := 44) dX2_takeDog_37 rfl rfl rfl rfl rfl (by decide))))
set_option maxHeartbeats 200000 in
theorem bX2_takeDog_40 {S : pv_S} {x2 : Int32} : pv_R mX2_takeDog 40 [some (.ref 17), some (.ref 10), some (.int x2)] [] (pv_em S) = pv_R mX2_takeDog 45 [some (.ref 17), some (.ref 10), some (.int x2)] [.int 1] (pv_em S) := Eq.trans (pv_Ric dX2_takeDog_40 ki_1) (pv_Rgo (tgt := 45) dX2_takeDog_41 rfl (by decide))
set_option maxHeartbeats 200000 in
theorem bX2_takeDog_44 {S : pv_S} {x2 : Int32} : pv_R mX2_takeDog 44 [some (.ref 17), some (.ref 10), some (.int x2)] [] (pv_em S) = pv_R mX2_takeDog 45 [some (.ref 17), some (.ref 10), some (.int x2)] [.int 0] (pv_em S) := pv_Ric dX2_takeDog_44 ki_0
set_option maxHeartbeats 200000 in
theorem bX2_takeDog_45 {S : pv_S} {x2 u0 : Int32} : pv_R mX2_takeDog 45 [some (.ref 17), some (.ref 10), some (.int x2)] [.int u0] (pv_em S) = if vp_nar .boolean u0 = u0 then some (some (.int u0), pv_em S) else none := pv_Rzret dX2_takeDog_45 rfl
theorem dX5_act_0 : decode cX5_act 0 = .ok (.iload_n 1, 1) := by decide +kernel
theorem dX5_act_1 : decode cX5_act 1 = .ok (.bipush 10, 2) := by decide +kernel
theorem dX5_act_3 : decode cX5_act 3 = .ok (.irem, 1) := by decide +kernel
theorem dX5_act_4 : decode cX5_act 4 = .ok (.istore_n 2, 1) := by decide +kernel
theorem dX5_act_5 : decode cX5_act 5 = .ok (.iload_n 1, 1) := by decide +kernel
theorem dX5_act_6 : decode cX5_act 6 = .ok (.iload_n 2, 1) := by decide +kernel
theorem dX5_act_7 : decode cX5_act 7 = .ok (.isub, 1) := by decide +kernel
theorem dX5_act_8 : decode cX5_act 8 = .ok (.lookupswitch 145 #[(0, 44), (10, 51), (20, 83), (30, 114)], 44) := by decide +kernel
theorem dX5_act_52 : decode cX5_act 52 = .ok (.aload_n 0, 1) := by decide +kernel
theorem dX5_act_53 : decode cX5_act 53 = .ok (.invokevirtual 96, 3) := by decide +kernel
theorem dX5_act_56 : decode cX5_act 56 = .ok (.goto 110, 3) := by decide +kernel
theorem dX5_act_59 : decode cX5_act 59 = .ok (.aload_n 0, 1) := by decide +kernel
theorem dX5_act_60 : decode cX5_act 60 = .ok (.iload_n 2, 1) := by decide +kernel
theorem dX5_act_61 : decode cX5_act 61 = .ok (.invokevirtual 56, 3) := by decide +kernel
theorem dX5_act_64 : decode cX5_act 64 = .ok (.ifCond .eq 102, 3) := by decide +kernel
theorem dX5_act_67 : decode cX5_act 67 = .ok (.aload_n 0, 1) := by decide +kernel
theorem dX5_act_68 : decode cX5_act 68 = .ok (.getfield 21, 3) := by decide +kernel
theorem dX5_act_71 : decode cX5_act 71 = .ok (.iload_n 2, 1) := by decide +kernel
theorem dX5_act_72 : decode cX5_act 72 = .ok (.aload_n 0, 1) := by decide +kernel
theorem dX5_act_73 : decode cX5_act 73 = .ok (.getfield 21, 3) := by decide +kernel
theorem dX5_act_76 : decode cX5_act 76 = .ok (.iload_n 2, 1) := by decide +kernel
theorem dX5_act_77 : decode cX5_act 77 = .ok (.iaload, 1) := by decide +kernel
theorem dX5_act_78 : decode cX5_act 78 = .ok (.aload_n 0, 1) := by decide +kernel
theorem dX5_act_79 : decode cX5_act 79 = .ok (.iload_n 2, 1) := by decide +kernel
theorem dX5_act_80 : decode cX5_act 80 = .ok (.invokevirtual 60, 3) := by decide +kernel
theorem dX5_act_83 : decode cX5_act 83 = .ok (.iadd, 1) := by decide +kernel
theorem dX5_act_84 : decode cX5_act 84 = .ok (.invokestatic 99, 3) := by decide +kernel
theorem dX5_act_87 : decode cX5_act 87 = .ok (.iastore, 1) := by decide +kernel
theorem dX5_act_88 : decode cX5_act 88 = .ok (.goto 78, 3) := by decide +kernel
theorem dX5_act_91 : decode cX5_act 91 = .ok (.aload_n 0, 1) := by decide +kernel
theorem dX5_act_92 : decode cX5_act 92 = .ok (.dup, 1) := by decide +kernel
theorem dX5_act_93 : decode cX5_act 93 = .ok (.getfield 83, 3) := by decide +kernel
theorem dX5_act_96 : decode cX5_act 96 = .ok (.iload_n 2, 1) := by decide +kernel
theorem dX5_act_97 : decode cX5_act 97 = .ok (.aload_n 0, 1) := by decide +kernel
theorem dX5_act_98 : decode cX5_act 98 = .ok (.invokevirtual 86, 3) := by decide +kernel
theorem dX5_act_101 : decode cX5_act 101 = .ok (.imul, 1) := by decide +kernel
theorem dX5_act_102 : decode cX5_act 102 = .ok (.iadd, 1) := by decide +kernel
theorem dX5_act_103 : decode cX5_act 103 = .ok (.putfield 83, 3) := by decide +kernel
theorem dX5_act_106 : decode cX5_act 106 = .ok (.aload_n 0, 1) := by decide +kernel
theorem dX5_act_107 : decode cX5_act 107 = .ok (.dup, 1) := by decide +kernel
theorem dX5_act_108 : decode cX5_act 108 = .ok (.getfield 102, 3) := by decide +kernel
theorem dX5_act_111 : decode cX5_act 111 = .ok (.bipush 10, 2) := by decide +kernel
theorem dX5_act_113 : decode cX5_act 113 = .ok (.iload_n 2, 1) := by decide +kernel
theorem dX5_act_114 : decode cX5_act 114 = .ok (.imul, 1) := by decide +kernel
theorem dX5_act_115 : decode cX5_act 115 = .ok (.isub, 1) := by decide +kernel
theorem dX5_act_116 : decode cX5_act 116 = .ok (.putfield 102, 3) := by decide +kernel
theorem dX5_act_119 : decode cX5_act 119 = .ok (.goto 47, 3) := by decide +kernel
theorem dX5_act_122 : decode cX5_act 122 = .ok (.aload_n 0, 1) := by decide +kernel
theorem dX5_act_123 : decode cX5_act 123 = .ok (.dup, 1) := by decide +kernel
theorem dX5_act_124 : decode cX5_act 124 = .ok (.getfield 83, 3) := by decide +kernel
theorem dX5_act_127 : decode cX5_act 127 = .ok (.iload_n 2, 1) := by decide +kernel
theorem dX5_act_128 : decode cX5_act 128 = .ok (.aload_n 0, 1) := by decide +kernel
theorem dX5_act_129 : decode cX5_act 129 = .ok (.invokevirtual 86, 3) := by decide +kernel
theorem dX5_act_132 : decode cX5_act 132 = .ok (.imul, 1) := by decide +kernel
theorem dX5_act_133 : decode cX5_act 133 = .ok (.isub, 1) := by decide +kernel
theorem dX5_act_134 : decode cX5_act 134 = .ok (.putfield 83, 3) := by decide +kernel
theorem dX5_act_137 : decode cX5_act 137 = .ok (.aload_n 0, 1) := by decide +kernel
theorem dX5_act_138 : decode cX5_act 138 = .ok (.dup, 1) := by decide +kernel
theorem dX5_act_139 : decode cX5_act 139 = .ok (.getfield 102, 3) := by decide +kernel
theorem dX5_act_142 : decode cX5_act 142 = .ok (.bipush 10, 2) := by decide +kernel
theorem dX5_act_144 : decode cX5_act 144 = .ok (.iload_n 2, 1) := by decide +kernel
theorem dX5_act_145 : decode cX5_act 145 = .ok (.imul, 1) := by decide +kernel
theorem dX5_act_146 : decode cX5_act 146 = .ok (.iadd, 1) := by decide +kernel
theorem dX5_act_147 : decode cX5_act 147 = .ok (.putfield 102, 3) := by decide +kernel
theorem dX5_act_150 : decode cX5_act 150 = .ok (.goto 16, 3) := by decide +kernel
theorem dX5_act_153 : decode cX5_act 153 = .ok (.aload_n 0, 1) := by decide +kernel
theorem dX5_act_154 : decode cX5_act 154 = .ok (.iload_n 2, 1) := by decide +kernel
theorem dX5_act_155 : decode cX5_act 155 = .ok (.invokevirtual 56, 3) := by decide +kernel
theorem dX5_act_158 : decode cX5_act 158 = .ok (.ifCond .eq 8, 3) := by decide +kernel
theorem dX5_act_161 : decode cX5_act 161 = .ok (.aload_n 0, 1) := by decide +kernel
theorem dX5_act_162 : decode cX5_act 162 = .ok (.iload_n 2, 1) := by decide +kernel
theorem dX5_act_163 : decode cX5_act 163 = .ok (.putfield 53, 3) := by decide +kernel
theorem dX5_act_166 : decode cX5_act 166 = .ok (.return_, 1) := by decide +kernel
set_option maxHeartbeats 200000 in
theorem bX5_act_0 {S : pv_S} {x1 : Int32} {a2 : Option Value} : pv_R mX5_act 0 [some (.ref 21), some (.int x1), a2] [] (pv_em S) = pv_R mX5_act (pv_lkt (Int32.toInt (x1 - (x1 - x1 / 10 * 10))) [(0, 52), (10, 59), (20, 91), (30, 122)] 153) [some (.ref 21), some (.int x1), some (.int (x1 - x1 / 10 * 10))] [] (pv_em S) := Eq.trans (pv_Rstp dX5_act_0 rfl rfl rfl) (Eq.trans (pv_Rbp dX5_act_1 kb_10) (Eq.trans (pv_Rrem dX5_act_3) (Eq.trans (if_neg (by decide)) (Eq.trans (pv_Rstp dX5_act_4 rfl rfl rfl) (Eq.trans (pv_Rstp dX5_act_5 rfl rfl rfl) (Eq.trans (pv_Rstp dX5_act_6 rfl rfl rfl) (Eq.trans (pv_Rstp dX5_act_7 rfl rfl rfl) (pv_Rlook (tg := [(0, 52), (10, 59), (20, 91), (30, 122)]) (dt := 153) dX5_act_8 (by decide) (by decide)))))))))
set_option maxHeartbeats 200000 in
theorem bX5_act_52 {S : pv_S} {x1 x2 : Int32} : pv_R mX5_act 52 [some (.ref 21), some (.int x1), some (.int x2)] [] (pv_em S) = pv_cc (pv_R mX5_passHour 0 [some (.ref 21), none] [] (pv_em S)) mX5_act 56 [some (.ref 21), some (.int x1), some (.int x2)] [] := Eq.trans (pv_Rstp dX5_act_52 rfl rfl rfl) (pv_Rcall (As := [.ref 21]) (rest := []) dX5_act_53 rfl mfX5_96 rfl rfl rfl rfl rfl)
set_option maxHeartbeats 200000 in
theorem bX5_act_56 {S : pv_S} {x1 x2 : Int32} : pv_R mX5_act 56 [some (.ref 21), some (.int x1), some (.int x2)] [] (pv_em S) = pv_R mX5_act 166 [some (.ref 21), some (.int x1), some (.int x2)] [] (pv_em S) := pv_Rgo (tgt := 166) dX5_act_56 rfl (by decide)
set_option maxHeartbeats 200000 in
theorem bX5_act_59 {S : pv_S} {x1 x2 : Int32} : pv_R mX5_act 59 [some (.ref 21), some (.int x1), some (.int x2)] [] (pv_em S) = pv_cc (pv_R mX5_isCat 0 [some (.ref 21), some (.int x2)] [] (pv_em S)) mX5_act 64 [some (.ref 21), some (.int x1), some (.int x2)] [] := Eq.trans (pv_Rstp dX5_act_59 rfl rfl rfl) (Eq.trans (pv_Rstp dX5_act_60 rfl rfl rfl) (pv_Rcall (As := [.ref 21, .int x2]) (rest := []) dX5_act_61 rfl mfX5_56 rfl rfl rfl rfl rfl))
set_option maxHeartbeats 200000 in
theorem bX5_act_64 {S : pv_S} {x1 x2 u0 : Int32} : pv_R mX5_act 64 [some (.ref 21), some (.int x1), some (.int x2)] [.int u0] (pv_em S) = if u0 = 0 then pv_R mX5_act 166 [some (.ref 21), some (.int x1), some (.int x2)] [] (pv_em S) else pv_R mX5_act 67 [some (.ref 21), some (.int x1), some (.int x2)] [] (pv_em S) := pv_Rbr (tgt := 166) dX5_act_64 rfl rfl rfl rfl rfl (by decide)
set_option maxHeartbeats 200000 in
theorem bX5_act_67 {S : pv_S} {x1 x2 : Int32} : pv_R mX5_act 67 [some (.ref 21), some (.int x1), some (.int x2)] [] (pv_em S) = if x2 < 0 ∨ 6 ≤ x2.toNatClampNeg then none else pv_cc (pv_R mX5_mealAdds 0 [some (.ref 21), some (.int x2)] [] (pv_em S)) mX5_act 83 [some (.ref 21), some (.int x1), some (.int x2)] [.int (S.1 25 x2.toNatClampNeg), .int x2, .ref 25] := Eq.trans (pv_Rstp dX5_act_67 rfl rfl rfl) (Eq.trans (pv_Rget dX5_act_68 ffX5_21 (by decide) (pv_ce_21 _ _) rfl) (Eq.trans (pv_Rstp dX5_act_71 rfl rfl rfl) (Eq.trans (pv_Rstp dX5_act_72 rfl rfl rfl) (Eq.trans (pv_Rget dX5_act_73 ffX5_21 (by decide) (pv_ce_21 _ _) rfl) (Eq.trans (pv_Rstp dX5_act_76 rfl rfl rfl) (Eq.trans (pv_Rald dX5_act_77 (by decide) (pv_ce_25 _ _)) (pv_iteN (fun h1 => Eq.trans (pv_Rstp dX5_act_78 rfl rfl rfl) (Eq.trans (pv_Rstp dX5_act_79 rfl rfl rfl) (pv_Rcall (As := [.ref 21, .int x2]) (rest := [.int (S.1 25 x2.toNatClampNeg), .int x2, .ref 25]) dX5_act_80 rfl mfX5_60 rfl rfl rfl rfl rfl))))))))))
set_option maxHeartbeats 200000 in
theorem bX5_act_83 {S : pv_S} {x1 x2 u0 u1 u2 : Int32} : pv_R mX5_act 83 [some (.ref 21), some (.int x1), some (.int x2)] [.int u0, .int u1, .int u2, .ref 25] (pv_em S) = pv_cc (pv_R mX0_held 0 [some (.int (u1 + u0))] [] (pv_em S)) mX5_act 87 [some (.ref 21), some (.int x1), some (.int x2)] [.int u2, .ref 25] := Eq.trans (pv_Rstp dX5_act_83 rfl rfl rfl) (pv_Rcall (As := [.int (u1 + u0)]) (rest := [.int u2, .ref 25]) dX5_act_84 rfl mfX5_99 rfl rfl rfl rfl rfl)
set_option maxHeartbeats 200000 in
theorem bX5_act_87 {S : pv_S} {x1 x2 u0 u1 : Int32} : pv_R mX5_act 87 [some (.ref 21), some (.int x1), some (.int x2)] [.int u0, .int u1, .ref 25] (pv_em S) = if u1 < 0 ∨ 6 ≤ u1.toNatClampNeg then none else pv_R mX5_act 166 [some (.ref 21), some (.int x1), some (.int x2)] [] (pv_em (pv_si S 25 u1.toNatClampNeg u0)) := Eq.trans (pv_Rast dX5_act_87 (by decide) (pv_ce_25 _ _) (pv_em_si rfl)) (pv_iteN (fun h1 => pv_Rgo (tgt := 166) dX5_act_88 rfl (by decide)))
set_option maxHeartbeats 200000 in
theorem bX5_act_91 {S : pv_S} {x1 x2 : Int32} : pv_R mX5_act 91 [some (.ref 21), some (.int x1), some (.int x2)] [] (pv_em S) = pv_cc (pv_R mX5_pound 0 [some (.ref 21)] [] (pv_em S)) mX5_act 101 [some (.ref 21), some (.int x1), some (.int x2)] [.int x2, .int (S.1 21 12), .ref 21] := Eq.trans (pv_Rstp dX5_act_91 rfl rfl rfl) (Eq.trans (pv_Rstp dX5_act_92 rfl rfl rfl) (Eq.trans (pv_Rget dX5_act_93 ffX5_83 (by decide) (pv_ce_21 _ _) rfl) (Eq.trans (pv_Rstp dX5_act_96 rfl rfl rfl) (Eq.trans (pv_Rstp dX5_act_97 rfl rfl rfl) (pv_Rcall (As := [.ref 21]) (rest := [.int x2, .int (S.1 21 12), .ref 21]) dX5_act_98 rfl mfX5_86 rfl rfl rfl rfl rfl)))))
set_option maxHeartbeats 200000 in
theorem bX5_act_101 {S : pv_S} {x1 x2 u0 u1 u2 : Int32} : pv_R mX5_act 101 [some (.ref 21), some (.int x1), some (.int x2)] [.int u0, .int u1, .int u2, .ref 21] (pv_em S) = pv_R mX5_act 166 [some (.ref 21), some (.int x1), some (.int x2)] [] (pv_em (pv_si (pv_si S 21 12 (u2 + (u1 * u0))) 21 11 (((pv_si S 21 12 (u2 + (u1 * u0))).1 21 11) - (10 * x2)))) := Eq.trans (pv_Rstp dX5_act_101 rfl rfl rfl) (Eq.trans (pv_Rstp dX5_act_102 rfl rfl rfl) (Eq.trans (pv_Rput dX5_act_103 ffX5_83 rfl rfl rfl (by decide) (pv_ce_21 _ _) (Nat.le_of_ble_eq_true rfl) (pv_em_si rfl)) (Eq.trans (pv_Rstp dX5_act_106 rfl rfl rfl) (Eq.trans (pv_Rstp dX5_act_107 rfl rfl rfl) (Eq.trans (pv_Rget dX5_act_108 ffX5_102 (by decide) (pv_ce_21 _ _) rfl) (Eq.trans (pv_Rbp dX5_act_111 kb_10) (Eq.trans (pv_Rstp dX5_act_113 rfl rfl rfl) (Eq.trans (pv_Rstp dX5_act_114 rfl rfl rfl) (Eq.trans (pv_Rstp dX5_act_115 rfl rfl rfl) (Eq.trans (pv_Rput dX5_act_116 ffX5_102 rfl rfl rfl (by decide) (pv_ce_21 _ _) (Nat.le_of_ble_eq_true rfl) (pv_em_si rfl)) (pv_Rgo (tgt := 166) dX5_act_119 rfl (by decide))))))))))))
set_option maxHeartbeats 200000 in
theorem bX5_act_122 {S : pv_S} {x1 x2 : Int32} : pv_R mX5_act 122 [some (.ref 21), some (.int x1), some (.int x2)] [] (pv_em S) = pv_cc (pv_R mX5_pound 0 [some (.ref 21)] [] (pv_em S)) mX5_act 132 [some (.ref 21), some (.int x1), some (.int x2)] [.int x2, .int (S.1 21 12), .ref 21] := Eq.trans (pv_Rstp dX5_act_122 rfl rfl rfl) (Eq.trans (pv_Rstp dX5_act_123 rfl rfl rfl) (Eq.trans (pv_Rget dX5_act_124 ffX5_83 (by decide) (pv_ce_21 _ _) rfl) (Eq.trans (pv_Rstp dX5_act_127 rfl rfl rfl) (Eq.trans (pv_Rstp dX5_act_128 rfl rfl rfl) (pv_Rcall (As := [.ref 21]) (rest := [.int x2, .int (S.1 21 12), .ref 21]) dX5_act_129 rfl mfX5_86 rfl rfl rfl rfl rfl)))))
set_option maxHeartbeats 200000 in
theorem bX5_act_132 {S : pv_S} {x1 x2 u0 u1 u2 : Int32} : pv_R mX5_act 132 [some (.ref 21), some (.int x1), some (.int x2)] [.int u0, .int u1, .int u2, .ref 21] (pv_em S) = pv_R mX5_act 166 [some (.ref 21), some (.int x1), some (.int x2)] [] (pv_em (pv_si (pv_si S 21 12 (u2 - (u1 * u0))) 21 11 (((pv_si S 21 12 (u2 - (u1 * u0))).1 21 11) + (10 * x2)))) := Eq.trans (pv_Rstp dX5_act_132 rfl rfl rfl) (Eq.trans (pv_Rstp dX5_act_133 rfl rfl rfl) (Eq.trans (pv_Rput dX5_act_134 ffX5_83 rfl rfl rfl (by decide) (pv_ce_21 _ _) (Nat.le_of_ble_eq_true rfl) (pv_em_si rfl)) (Eq.trans (pv_Rstp dX5_act_137 rfl rfl rfl) (Eq.trans (pv_Rstp dX5_act_138 rfl rfl rfl) (Eq.trans (pv_Rget dX5_act_139 ffX5_102 (by decide) (pv_ce_21 _ _) rfl) (Eq.trans (pv_Rbp dX5_act_142 kb_10) (Eq.trans (pv_Rstp dX5_act_144 rfl rfl rfl) (Eq.trans (pv_Rstp dX5_act_145 rfl rfl rfl) (Eq.trans (pv_Rstp dX5_act_146 rfl rfl rfl) (Eq.trans (pv_Rput dX5_act_147 ffX5_102 rfl rfl rfl (by decide) (pv_ce_21 _ _) (Nat.le_of_ble_eq_true rfl) (pv_em_si rfl)) (pv_Rgo (tgt := 166) dX5_act_150 rfl (by decide))))))))))))
set_option maxHeartbeats 200000 in
theorem bX5_act_153 {S : pv_S} {x1 x2 : Int32} : pv_R mX5_act 153 [some (.ref 21), some (.int x1), some (.int x2)] [] (pv_em S) = pv_cc (pv_R mX5_isCat 0 [some (.ref 21), some (.int x2)] [] (pv_em S)) mX5_act 158 [some (.ref 21), some (.int x1), some (.int x2)] [] := Eq.trans (pv_Rstp dX5_act_153 rfl rfl rfl) (Eq.trans (pv_Rstp dX5_act_154 rfl rfl rfl) (pv_Rcall (As := [.ref 21, .int x2]) (rest := []) dX5_act_155 rfl mfX5_56 rfl rfl rfl rfl rfl))
set_option maxHeartbeats 200000 in
theorem bX5_act_158 {S : pv_S} {x1 x2 u0 : Int32} : pv_R mX5_act 158 [some (.ref 21), some (.int x1), some (.int x2)] [.int u0] (pv_em S) = if u0 = 0 then pv_R mX5_act 166 [some (.ref 21), some (.int x1), some (.int x2)] [] (pv_em S) else pv_R mX5_act 161 [some (.ref 21), some (.int x1), some (.int x2)] [] (pv_em S) := pv_Rbr (tgt := 166) dX5_act_158 rfl rfl rfl rfl rfl (by decide)
set_option maxHeartbeats 200000 in
theorem bX5_act_161 {S : pv_S} {x1 x2 : Int32} : pv_R mX5_act 161 [some (.ref 21), some (.int x1), some (.int x2)] [] (pv_em S) = pv_R mX5_act 166 [some (.ref 21), some (.int x1), some (.int x2)] [] (pv_em (pv_si S 21 10 x2)) := Eq.trans (pv_Rstp dX5_act_161 rfl rfl rfl) (Eq.trans (pv_Rstp dX5_act_162 rfl rfl rfl) (pv_Rput dX5_act_163 ffX5_53 rfl rfl rfl (by decide) (pv_ce_21 _ _) (Nat.le_of_ble_eq_true rfl) (pv_em_si rfl)))
set_option maxHeartbeats 200000 in
theorem bX5_act_166 {S : pv_S} {x1 x2 : Int32} : pv_R mX5_act 166 [some (.ref 21), some (.int x1), some (.int x2)] [] (pv_em S) = some (none, pv_em S) := pv_Rret dX5_act_166 rfl
theorem dX2_signAt_0 : decode cX2_signAt 0 = .ok (.aload_n 0, 1) := by decide +kernel
theorem dX2_signAt_1 : decode cX2_signAt 1 = .ok (.getfield 27, 3) := by decide +kernel
theorem dX2_signAt_4 : decode cX2_signAt 4 = .ok (.aload_n 1, 1) := by decide +kernel
theorem dX2_signAt_5 : decode cX2_signAt 5 = .ok (.iload_n 2, 1) := by decide +kernel
theorem dX2_signAt_6 : decode cX2_signAt 6 = .ok (.invokevirtual 21, 3) := by decide +kernel
theorem dX2_signAt_9 : decode cX2_signAt 9 = .ok (.if_icmp .ge 15, 3) := by decide +kernel
theorem dX2_signAt_12 : decode cX2_signAt 12 = .ok (.aload_n 1, 1) := by decide +kernel
theorem dX2_signAt_13 : decode cX2_signAt 13 = .ok (.iload_n 2, 1) := by decide +kernel
theorem dX2_signAt_14 : decode cX2_signAt 14 = .ok (.aload_n 0, 1) := by decide +kernel
theorem dX2_signAt_15 : decode cX2_signAt 15 = .ok (.getfield 27, 3) := by decide +kernel
theorem dX2_signAt_18 : decode cX2_signAt 18 = .ok (.invokevirtual 45, 3) := by decide +kernel
theorem dX2_signAt_21 : decode cX2_signAt 21 = .ok (.goto 4, 3) := by decide +kernel
theorem dX2_signAt_24 : decode cX2_signAt 24 = .ok (.iconst 0, 1) := by decide +kernel
theorem dX2_signAt_25 : decode cX2_signAt 25 = .ok (.ireturn, 1) := by decide +kernel
set_option maxHeartbeats 200000 in
theorem bX2_signAt_0 {S : pv_S} {x2 : Int32} : pv_R mX2_signAt 0 [some (.ref 17), some (.ref 10), some (.int x2)] [] (pv_em S) = pv_cc (pv_R mX3_sizeOf 0 [some (.ref 10), some (.int x2)] [] (pv_em S)) mX2_signAt 9 [some (.ref 17), some (.ref 10), some (.int x2)] [.int (S.1 17 5)] := Eq.trans (pv_Rstp dX2_signAt_0 rfl rfl rfl) (Eq.trans (pv_Rget dX2_signAt_1 ffX2_27 (by decide) (pv_ce_17 _ _) rfl) (Eq.trans (pv_Rstp dX2_signAt_4 rfl rfl rfl) (Eq.trans (pv_Rstp dX2_signAt_5 rfl rfl rfl) (pv_Rcall (As := [.ref 10, .int x2]) (rest := [.int (S.1 17 5)]) dX2_signAt_6 rfl mfX2_21 rfl rfl rfl rfl rfl))))
set_option maxHeartbeats 200000 in
theorem bX2_signAt_9 {S : pv_S} {x2 u0 u1 : Int32} : pv_R mX2_signAt 9 [some (.ref 17), some (.ref 10), some (.int x2)] [.int u0, .int u1] (pv_em S) = if u0 ≤ u1 then pv_R mX2_signAt 24 [some (.ref 17), some (.ref 10), some (.int x2)] [] (pv_em S) else pv_R mX2_signAt 12 [some (.ref 17), some (.ref 10), some (.int x2)] [] (pv_em S) := pv_Rbr (tgt := 24) dX2_signAt_9 rfl rfl rfl rfl rfl (by decide)
set_option maxHeartbeats 200000 in
theorem bX2_signAt_12 {S : pv_S} {x2 : Int32} : pv_R mX2_signAt 12 [some (.ref 17), some (.ref 10), some (.int x2)] [] (pv_em S) = pv_cc (pv_R mX3_get 0 [some (.ref 10), some (.int x2), some (.int (S.1 17 5))] [] (pv_em S)) mX2_signAt 21 [some (.ref 17), some (.ref 10), some (.int x2)] [] := Eq.trans (pv_Rstp dX2_signAt_12 rfl rfl rfl) (Eq.trans (pv_Rstp dX2_signAt_13 rfl rfl rfl) (Eq.trans (pv_Rstp dX2_signAt_14 rfl rfl rfl) (Eq.trans (pv_Rget dX2_signAt_15 ffX2_27 (by decide) (pv_ce_17 _ _) rfl) (pv_Rcall (As := [.ref 10, .int x2, .int (S.1 17 5)]) (rest := []) dX2_signAt_18 rfl mfX2_45 rfl rfl rfl rfl rfl))))
set_option maxHeartbeats 200000 in
theorem bX2_signAt_21 {S : pv_S} {x2 u0 : Int32} : pv_R mX2_signAt 21 [some (.ref 17), some (.ref 10), some (.int x2)] [.int u0] (pv_em S) = pv_R mX2_signAt 25 [some (.ref 17), some (.ref 10), some (.int x2)] [.int u0] (pv_em S) := pv_Rgo (tgt := 25) dX2_signAt_21 rfl (by decide)
set_option maxHeartbeats 200000 in
theorem bX2_signAt_24 {S : pv_S} {x2 : Int32} : pv_R mX2_signAt 24 [some (.ref 17), some (.ref 10), some (.int x2)] [] (pv_em S) = pv_R mX2_signAt 25 [some (.ref 17), some (.ref 10), some (.int x2)] [.int 0] (pv_em S) := pv_Ric dX2_signAt_24 ki_0
set_option maxHeartbeats 200000 in
theorem bX2_signAt_25 {S : pv_S} {x2 u0 : Int32} : pv_R mX2_signAt 25 [some (.ref 17), some (.ref 10), some (.int x2)] [.int u0] (pv_em S) = some (some (.int u0), pv_em S) := pv_Rret dX2_signAt_25 rfl
theorem dX2_figureAt_0 : decode cX2_figureAt 0 = .ok (.aload_n 0, 1) := by decide +kernel
theorem dX2_figureAt_1 : decode cX2_figureAt 1 = .ok (.aload_n 1, 1) := by decide +kernel
theorem dX2_figureAt_2 : decode cX2_figureAt 2 = .ok (.iload_n 2, 1) := by decide +kernel
theorem dX2_figureAt_3 : decode cX2_figureAt 3 = .ok (.invokevirtual 49, 3) := by decide +kernel
theorem dX2_figureAt_6 : decode cX2_figureAt 6 = .ok (.istore_n 3, 1) := by decide +kernel
theorem dX2_figureAt_7 : decode cX2_figureAt 7 = .ok (.iload_n 3, 1) := by decide +kernel
theorem dX2_figureAt_8 : decode cX2_figureAt 8 = .ok (.bipush 48, 2) := by decide +kernel
theorem dX2_figureAt_10 : decode cX2_figureAt 10 = .ok (.if_icmp .lt 16, 3) := by decide +kernel
theorem dX2_figureAt_13 : decode cX2_figureAt 13 = .ok (.iload_n 3, 1) := by decide +kernel
theorem dX2_figureAt_14 : decode cX2_figureAt 14 = .ok (.bipush 57, 2) := by decide +kernel
theorem dX2_figureAt_16 : decode cX2_figureAt 16 = .ok (.if_icmp .gt 10, 3) := by decide +kernel
theorem dX2_figureAt_19 : decode cX2_figureAt 19 = .ok (.iload_n 3, 1) := by decide +kernel
theorem dX2_figureAt_20 : decode cX2_figureAt 20 = .ok (.bipush 48, 2) := by decide +kernel
theorem dX2_figureAt_22 : decode cX2_figureAt 22 = .ok (.isub, 1) := by decide +kernel
theorem dX2_figureAt_23 : decode cX2_figureAt 23 = .ok (.goto 4, 3) := by decide +kernel
theorem dX2_figureAt_26 : decode cX2_figureAt 26 = .ok (.iconst (-1), 1) := by decide +kernel
theorem dX2_figureAt_27 : decode cX2_figureAt 27 = .ok (.ireturn, 1) := by decide +kernel
set_option maxHeartbeats 200000 in
theorem bX2_figureAt_0 {S : pv_S} {x2 : Int32} {a3 : Option Value} : pv_R mX2_figureAt 0 [some (.ref 17), some (.ref 10), some (.int x2), a3] [] (pv_em S) = pv_cc (pv_R mX2_signAt 0 [some (.ref 17), some (.ref 10), some (.int x2)] [] (pv_em S)) mX2_figureAt 6 [some (.ref 17), some (.ref 10), some (.int x2), a3] [] := Eq.trans (pv_Rstp dX2_figureAt_0 rfl rfl rfl) (Eq.trans (pv_Rstp dX2_figureAt_1 rfl rfl rfl) (Eq.trans (pv_Rstp dX2_figureAt_2 rfl rfl rfl) (pv_Rcall (As := [.ref 17, .ref 10, .int x2]) (rest := []) dX2_figureAt_3 rfl mfX2_49 rfl rfl rfl rfl rfl)))
set_option maxHeartbeats 200000 in
theorem bX2_figureAt_6 {S : pv_S} {x2 u0 : Int32} {a3 : Option Value} : pv_R mX2_figureAt 6 [some (.ref 17), some (.ref 10), some (.int x2), a3] [.int u0] (pv_em S) = if u0 < 48 then pv_R mX2_figureAt 26 [some (.ref 17), some (.ref 10), some (.int x2), some (.int u0)] [] (pv_em S) else pv_R mX2_figureAt 13 [some (.ref 17), some (.ref 10), some (.int x2), some (.int u0)] [] (pv_em S) := Eq.trans (pv_Rstp dX2_figureAt_6 rfl rfl rfl) (Eq.trans (pv_Rstp dX2_figureAt_7 rfl rfl rfl) (Eq.trans (pv_Rbp dX2_figureAt_8 kb_48) (pv_Rbr (tgt := 26) dX2_figureAt_10 rfl rfl rfl rfl rfl (by decide))))
set_option maxHeartbeats 200000 in
theorem bX2_figureAt_13 {S : pv_S} {x2 x3 : Int32} : pv_R mX2_figureAt 13 [some (.ref 17), some (.ref 10), some (.int x2), some (.int x3)] [] (pv_em S) = if 57 < x3 then pv_R mX2_figureAt 26 [some (.ref 17), some (.ref 10), some (.int x2), some (.int x3)] [] (pv_em S) else pv_R mX2_figureAt 19 [some (.ref 17), some (.ref 10), some (.int x2), some (.int x3)] [] (pv_em S) := Eq.trans (pv_Rstp dX2_figureAt_13 rfl rfl rfl) (Eq.trans (pv_Rbp dX2_figureAt_14 kb_57) (pv_Rbr (tgt := 26) dX2_figureAt_16 rfl rfl rfl rfl rfl (by decide)))
set_option maxHeartbeats 200000 in
theorem bX2_figureAt_19 {S : pv_S} {x2 x3 : Int32} : pv_R mX2_figureAt 19 [some (.ref 17), some (.ref 10), some (.int x2), some (.int x3)] [] (pv_em S) = pv_R mX2_figureAt 27 [some (.ref 17), some (.ref 10), some (.int x2), some (.int x3)] [.int (x3 - 48)] (pv_em S) := Eq.trans (pv_Rstp dX2_figureAt_19 rfl rfl rfl) (Eq.trans (pv_Rbp dX2_figureAt_20 kb_48) (Eq.trans (pv_Rstp dX2_figureAt_22 rfl rfl rfl) (pv_Rgo (tgt := 27) dX2_figureAt_23 rfl (by decide))))
set_option maxHeartbeats 200000 in
theorem bX2_figureAt_26 {S : pv_S} {x2 x3 : Int32} : pv_R mX2_figureAt 26 [some (.ref 17), some (.ref 10), some (.int x2), some (.int x3)] [] (pv_em S) = pv_R mX2_figureAt 27 [some (.ref 17), some (.ref 10), some (.int x2), some (.int x3)] [.int (-1)] (pv_em S) := pv_Ric dX2_figureAt_26 ki_m1
set_option maxHeartbeats 200000 in
theorem bX2_figureAt_27 {S : pv_S} {x2 x3 u0 : Int32} : pv_R mX2_figureAt 27 [some (.ref 17), some (.ref 10), some (.int x2), some (.int x3)] [.int u0] (pv_em S) = some (some (.int u0), pv_em S) := pv_Rret dX2_figureAt_27 rfl
theorem dX2_takeWeight_0 : decode cX2_takeWeight 0 = .ok (.aload_n 0, 1) := by decide +kernel
theorem dX2_takeWeight_1 : decode cX2_takeWeight 1 = .ok (.aload_n 1, 1) := by decide +kernel
theorem dX2_takeWeight_2 : decode cX2_takeWeight 2 = .ok (.iload_n 2, 1) := by decide +kernel
theorem dX2_takeWeight_3 : decode cX2_takeWeight 3 = .ok (.invokevirtual 64, 3) := by decide +kernel
theorem dX2_takeWeight_6 : decode cX2_takeWeight 6 = .ok (.istore_n 3, 1) := by decide +kernel
theorem dX2_takeWeight_7 : decode cX2_takeWeight 7 = .ok (.iload_n 3, 1) := by decide +kernel
theorem dX2_takeWeight_8 : decode cX2_takeWeight 8 = .ok (.ifCond .ge 5, 3) := by decide +kernel
theorem dX2_takeWeight_11 : decode cX2_takeWeight 11 = .ok (.iconst 0, 1) := by decide +kernel
theorem dX2_takeWeight_12 : decode cX2_takeWeight 12 = .ok (.ireturn, 1) := by decide +kernel
theorem dX2_takeWeight_13 : decode cX2_takeWeight 13 = .ok (.aload_n 0, 1) := by decide +kernel
theorem dX2_takeWeight_14 : decode cX2_takeWeight 14 = .ok (.dup, 1) := by decide +kernel
theorem dX2_takeWeight_15 : decode cX2_takeWeight 15 = .ok (.getfield 27, 3) := by decide +kernel
theorem dX2_takeWeight_18 : decode cX2_takeWeight 18 = .ok (.iconst 1, 1) := by decide +kernel
theorem dX2_takeWeight_19 : decode cX2_takeWeight 19 = .ok (.iadd, 1) := by decide +kernel
theorem dX2_takeWeight_20 : decode cX2_takeWeight 20 = .ok (.putfield 27, 3) := by decide +kernel
theorem dX2_takeWeight_23 : decode cX2_takeWeight 23 = .ok (.aload_n 0, 1) := by decide +kernel
theorem dX2_takeWeight_24 : decode cX2_takeWeight 24 = .ok (.aload_n 1, 1) := by decide +kernel
theorem dX2_takeWeight_25 : decode cX2_takeWeight 25 = .ok (.iload_n 2, 1) := by decide +kernel
theorem dX2_takeWeight_26 : decode cX2_takeWeight 26 = .ok (.invokevirtual 64, 3) := by decide +kernel
theorem dX2_takeWeight_29 : decode cX2_takeWeight 29 = .ok (.istore 4, 2) := by decide +kernel
theorem dX2_takeWeight_31 : decode cX2_takeWeight 31 = .ok (.iload 4, 2) := by decide +kernel
theorem dX2_takeWeight_33 : decode cX2_takeWeight 33 = .ok (.ifCond .lt 10, 3) := by decide +kernel
theorem dX2_takeWeight_36 : decode cX2_takeWeight 36 = .ok (.iload_n 3, 1) := by decide +kernel
theorem dX2_takeWeight_37 : decode cX2_takeWeight 37 = .ok (.iload 4, 2) := by decide +kernel
theorem dX2_takeWeight_39 : decode cX2_takeWeight 39 = .ok (.iadd, 1) := by decide +kernel
theorem dX2_takeWeight_40 : decode cX2_takeWeight 40 = .ok (.ifCond .ne 5, 3) := by decide +kernel
theorem dX2_takeWeight_43 : decode cX2_takeWeight 43 = .ok (.iconst 0, 1) := by decide +kernel
theorem dX2_takeWeight_44 : decode cX2_takeWeight 44 = .ok (.ireturn, 1) := by decide +kernel
theorem dX2_takeWeight_45 : decode cX2_takeWeight 45 = .ok (.aload_n 0, 1) := by decide +kernel
theorem dX2_takeWeight_46 : decode cX2_takeWeight 46 = .ok (.dup, 1) := by decide +kernel
theorem dX2_takeWeight_47 : decode cX2_takeWeight 47 = .ok (.getfield 27, 3) := by decide +kernel
theorem dX2_takeWeight_50 : decode cX2_takeWeight 50 = .ok (.iconst 1, 1) := by decide +kernel
theorem dX2_takeWeight_51 : decode cX2_takeWeight 51 = .ok (.iadd, 1) := by decide +kernel
theorem dX2_takeWeight_52 : decode cX2_takeWeight 52 = .ok (.putfield 27, 3) := by decide +kernel
theorem dX2_takeWeight_55 : decode cX2_takeWeight 55 = .ok (.bipush 10, 2) := by decide +kernel
theorem dX2_takeWeight_57 : decode cX2_takeWeight 57 = .ok (.iload_n 3, 1) := by decide +kernel
theorem dX2_takeWeight_58 : decode cX2_takeWeight 58 = .ok (.imul, 1) := by decide +kernel
theorem dX2_takeWeight_59 : decode cX2_takeWeight 59 = .ok (.iload 4, 2) := by decide +kernel
theorem dX2_takeWeight_61 : decode cX2_takeWeight 61 = .ok (.iadd, 1) := by decide +kernel
theorem dX2_takeWeight_62 : decode cX2_takeWeight 62 = .ok (.ireturn, 1) := by decide +kernel
set_option maxHeartbeats 200000 in
theorem bX2_takeWeight_0 {S : pv_S} {x2 : Int32} {a3 a4 : Option Value} : pv_R mX2_takeWeight 0 [some (.ref 17), some (.ref 10), some (.int x2), a3, a4] [] (pv_em S) = pv_cc (pv_R mX2_figureAt 0 [some (.ref 17), some (.ref 10), some (.int x2), none] [] (pv_em S)) mX2_takeWeight 6 [some (.ref 17), some (.ref 10), some (.int x2), a3, a4] [] := Eq.trans (pv_Rstp dX2_takeWeight_0 rfl rfl rfl) (Eq.trans (pv_Rstp dX2_takeWeight_1 rfl rfl rfl) (Eq.trans (pv_Rstp dX2_takeWeight_2 rfl rfl rfl) (pv_Rcall (As := [.ref 17, .ref 10, .int x2]) (rest := []) dX2_takeWeight_3 rfl mfX2_64 rfl rfl rfl rfl rfl)))
set_option maxHeartbeats 200000 in
theorem bX2_takeWeight_6 {S : pv_S} {x2 u0 : Int32} {a3 a4 : Option Value} : pv_R mX2_takeWeight 6 [some (.ref 17), some (.ref 10), some (.int x2), a3, a4] [.int u0] (pv_em S) = if 0 ≤ u0 then pv_R mX2_takeWeight 13 [some (.ref 17), some (.ref 10), some (.int x2), some (.int u0), a4] [] (pv_em S) else pv_R mX2_takeWeight 11 [some (.ref 17), some (.ref 10), some (.int x2), some (.int u0), a4] [] (pv_em S) := Eq.trans (pv_Rstp dX2_takeWeight_6 rfl rfl rfl) (Eq.trans (pv_Rstp dX2_takeWeight_7 rfl rfl rfl) (pv_Rbr (tgt := 13) dX2_takeWeight_8 rfl rfl rfl rfl rfl (by decide)))
set_option maxHeartbeats 200000 in
theorem bX2_takeWeight_11 {S : pv_S} {x2 x3 : Int32} {a4 : Option Value} : pv_R mX2_takeWeight 11 [some (.ref 17), some (.ref 10), some (.int x2), some (.int x3), a4] [] (pv_em S) = some (some (.int 0), pv_em S) := Eq.trans (pv_Ric dX2_takeWeight_11 ki_0) (pv_Rret dX2_takeWeight_12 rfl)
set_option maxHeartbeats 200000 in
theorem bX2_takeWeight_13 {S : pv_S} {x2 x3 : Int32} {a4 : Option Value} : pv_R mX2_takeWeight 13 [some (.ref 17), some (.ref 10), some (.int x2), some (.int x3), a4] [] (pv_em S) = pv_cc (pv_R mX2_figureAt 0 [some (.ref 17), some (.ref 10), some (.int x2), none] [] (pv_em (pv_si S 17 5 ((S.1 17 5) + 1)))) mX2_takeWeight 29 [some (.ref 17), some (.ref 10), some (.int x2), some (.int x3), a4] [] := Eq.trans (pv_Rstp dX2_takeWeight_13 rfl rfl rfl) (Eq.trans (pv_Rstp dX2_takeWeight_14 rfl rfl rfl) (Eq.trans (pv_Rget dX2_takeWeight_15 ffX2_27 (by decide) (pv_ce_17 _ _) rfl) (Eq.trans (pv_Ric dX2_takeWeight_18 ki_1) (Eq.trans (pv_Rstp dX2_takeWeight_19 rfl rfl rfl) (Eq.trans (pv_Rput dX2_takeWeight_20 ffX2_27 rfl rfl rfl (by decide) (pv_ce_17 _ _) (Nat.le_of_ble_eq_true rfl) (pv_em_si rfl)) (Eq.trans (pv_Rstp dX2_takeWeight_23 rfl rfl rfl) (Eq.trans (pv_Rstp dX2_takeWeight_24 rfl rfl rfl) (Eq.trans (pv_Rstp dX2_takeWeight_25 rfl rfl rfl) (pv_Rcall (As := [.ref 17, .ref 10, .int x2]) (rest := []) dX2_takeWeight_26 rfl mfX2_64 rfl rfl rfl rfl rfl)))))))))
set_option maxHeartbeats 200000 in
theorem bX2_takeWeight_29 {S : pv_S} {x2 x3 u0 : Int32} {a4 : Option Value} : pv_R mX2_takeWeight 29 [some (.ref 17), some (.ref 10), some (.int x2), some (.int x3), a4] [.int u0] (pv_em S) = if u0 < 0 then pv_R mX2_takeWeight 43 [some (.ref 17), some (.ref 10), some (.int x2), some (.int x3), some (.int u0)] [] (pv_em S) else pv_R mX2_takeWeight 36 [some (.ref 17), some (.ref 10), some (.int x2), some (.int x3), some (.int u0)] [] (pv_em S) := Eq.trans (pv_Rstp dX2_takeWeight_29 rfl rfl rfl) (Eq.trans (pv_Rstp dX2_takeWeight_31 rfl rfl rfl) (pv_Rbr (tgt := 43) dX2_takeWeight_33 rfl rfl rfl rfl rfl (by decide)))
set_option maxHeartbeats 200000 in
theorem bX2_takeWeight_36 {S : pv_S} {x2 x3 x4 : Int32} : pv_R mX2_takeWeight 36 [some (.ref 17), some (.ref 10), some (.int x2), some (.int x3), some (.int x4)] [] (pv_em S) = if ¬ (x3 + x4) = 0 then pv_R mX2_takeWeight 45 [some (.ref 17), some (.ref 10), some (.int x2), some (.int x3), some (.int x4)] [] (pv_em S) else pv_R mX2_takeWeight 43 [some (.ref 17), some (.ref 10), some (.int x2), some (.int x3), some (.int x4)] [] (pv_em S) := Eq.trans (pv_Rstp dX2_takeWeight_36 rfl rfl rfl) (Eq.trans (pv_Rstp dX2_takeWeight_37 rfl rfl rfl) (Eq.trans (pv_Rstp dX2_takeWeight_39 rfl rfl rfl) (pv_Rbr (tgt := 45) dX2_takeWeight_40 rfl rfl rfl rfl rfl (by decide))))
set_option maxHeartbeats 200000 in
theorem bX2_takeWeight_43 {S : pv_S} {x2 x3 x4 : Int32} : pv_R mX2_takeWeight 43 [some (.ref 17), some (.ref 10), some (.int x2), some (.int x3), some (.int x4)] [] (pv_em S) = some (some (.int 0), pv_em S) := Eq.trans (pv_Ric dX2_takeWeight_43 ki_0) (pv_Rret dX2_takeWeight_44 rfl)
set_option maxHeartbeats 200000 in
theorem bX2_takeWeight_45 {S : pv_S} {x2 x3 x4 : Int32} : pv_R mX2_takeWeight 45 [some (.ref 17), some (.ref 10), some (.int x2), some (.int x3), some (.int x4)] [] (pv_em S) = some (some (.int ((10 * x3) + x4)), pv_em (pv_si S 17 5 ((S.1 17 5) + 1))) := Eq.trans (pv_Rstp dX2_takeWeight_45 rfl rfl rfl) (Eq.trans (pv_Rstp dX2_takeWeight_46 rfl rfl rfl) (Eq.trans (pv_Rget dX2_takeWeight_47 ffX2_27 (by decide) (pv_ce_17 _ _) rfl) (Eq.trans (pv_Ric dX2_takeWeight_50 ki_1) (Eq.trans (pv_Rstp dX2_takeWeight_51 rfl rfl rfl) (Eq.trans (pv_Rput dX2_takeWeight_52 ffX2_27 rfl rfl rfl (by decide) (pv_ce_17 _ _) (Nat.le_of_ble_eq_true rfl) (pv_em_si rfl)) (Eq.trans (pv_Rbp dX2_takeWeight_55 kb_10) (Eq.trans (pv_Rstp dX2_takeWeight_57 rfl rfl rfl) (Eq.trans (pv_Rstp dX2_takeWeight_58 rfl rfl rfl) (Eq.trans (pv_Rstp dX2_takeWeight_59 rfl rfl rfl) (Eq.trans (pv_Rstp dX2_takeWeight_61 rfl rfl rfl) (pv_Rret dX2_takeWeight_62 rfl)))))))))))
theorem dX5_passHour_0 : decode cX5_passHour 0 = .ok (.iconst 0, 1) := by decide +kernel
theorem dX5_passHour_1 : decode cX5_passHour 1 = .ok (.istore_n 1, 1) := by decide +kernel
theorem dX5_passHour_2 : decode cX5_passHour 2 = .ok (.iload_n 1, 1) := by decide +kernel
theorem dX5_passHour_3 : decode cX5_passHour 3 = .ok (.aload_n 0, 1) := by decide +kernel
theorem dX5_passHour_4 : decode cX5_passHour 4 = .ok (.getfield 41, 3) := by decide +kernel
theorem dX5_passHour_7 : decode cX5_passHour 7 = .ok (.if_icmp .ge 34, 3) := by decide +kernel
theorem dX5_passHour_10 : decode cX5_passHour 10 = .ok (.aload_n 0, 1) := by decide +kernel
theorem dX5_passHour_11 : decode cX5_passHour 11 = .ok (.getfield 21, 3) := by decide +kernel
theorem dX5_passHour_14 : decode cX5_passHour 14 = .ok (.iload_n 1, 1) := by decide +kernel
theorem dX5_passHour_15 : decode cX5_passHour 15 = .ok (.aload_n 0, 1) := by decide +kernel
theorem dX5_passHour_16 : decode cX5_passHour 16 = .ok (.getfield 9, 3) := by decide +kernel
theorem dX5_passHour_19 : decode cX5_passHour 19 = .ok (.iload_n 1, 1) := by decide +kernel
theorem dX5_passHour_20 : decode cX5_passHour 20 = .ok (.iaload, 1) := by decide +kernel
theorem dX5_passHour_21 : decode cX5_passHour 21 = .ok (.aload_n 0, 1) := by decide +kernel
theorem dX5_passHour_22 : decode cX5_passHour 22 = .ok (.getfield 21, 3) := by decide +kernel
theorem dX5_passHour_25 : decode cX5_passHour 25 = .ok (.iload_n 1, 1) := by decide +kernel
theorem dX5_passHour_26 : decode cX5_passHour 26 = .ok (.iaload, 1) := by decide +kernel
theorem dX5_passHour_27 : decode cX5_passHour 27 = .ok (.aload_n 0, 1) := by decide +kernel
theorem dX5_passHour_28 : decode cX5_passHour 28 = .ok (.getfield 69, 3) := by decide +kernel
theorem dX5_passHour_31 : decode cX5_passHour 31 = .ok (.invokestatic 72, 3) := by decide +kernel
theorem dX5_passHour_34 : decode cX5_passHour 34 = .ok (.iastore, 1) := by decide +kernel
theorem dX5_passHour_35 : decode cX5_passHour 35 = .ok (.iinc 1 1, 3) := by decide +kernel
theorem dX5_passHour_38 : decode cX5_passHour 38 = .ok (.goto (-36), 3) := by decide +kernel
theorem dX5_passHour_41 : decode cX5_passHour 41 = .ok (.aload_n 0, 1) := by decide +kernel
theorem dX5_passHour_42 : decode cX5_passHour 42 = .ok (.dup, 1) := by decide +kernel
theorem dX5_passHour_43 : decode cX5_passHour 43 = .ok (.getfield 69, 3) := by decide +kernel
theorem dX5_passHour_46 : decode cX5_passHour 46 = .ok (.iconst 1, 1) := by decide +kernel
theorem dX5_passHour_47 : decode cX5_passHour 47 = .ok (.iadd, 1) := by decide +kernel
theorem dX5_passHour_48 : decode cX5_passHour 48 = .ok (.putfield 69, 3) := by decide +kernel
theorem dX5_passHour_51 : decode cX5_passHour 51 = .ok (.return_, 1) := by decide +kernel
set_option maxHeartbeats 200000 in
theorem bX5_passHour_0 {S : pv_S} {a1 : Option Value} : pv_R mX5_passHour 0 [some (.ref 21), a1] [] (pv_em S) = pv_R mX5_passHour 2 [some (.ref 21), some (.int 0)] [] (pv_em S) := Eq.trans (pv_Ric dX5_passHour_0 ki_0) (pv_Rstp dX5_passHour_1 rfl rfl rfl)
set_option maxHeartbeats 200000 in
theorem bX5_passHour_2 {S : pv_S} {x1 : Int32} : pv_R mX5_passHour 2 [some (.ref 21), some (.int x1)] [] (pv_em S) = if (S.1 21 7) ≤ x1 then pv_R mX5_passHour 41 [some (.ref 21), some (.int x1)] [] (pv_em S) else pv_R mX5_passHour 10 [some (.ref 21), some (.int x1)] [] (pv_em S) := Eq.trans (pv_Rstp dX5_passHour_2 rfl rfl rfl) (Eq.trans (pv_Rstp dX5_passHour_3 rfl rfl rfl) (Eq.trans (pv_Rget dX5_passHour_4 ffX5_41 (by decide) (pv_ce_21 _ _) rfl) (pv_Rbr (tgt := 41) dX5_passHour_7 rfl rfl rfl rfl rfl (by decide))))
set_option maxHeartbeats 200000 in
theorem bX5_passHour_10 {S : pv_S} {x1 : Int32} : pv_R mX5_passHour 10 [some (.ref 21), some (.int x1)] [] (pv_em S) = if x1 < 0 ∨ 6 ≤ x1.toNatClampNeg then none else if x1 < 0 ∨ 6 ≤ x1.toNatClampNeg then none else pv_cc (pv_R mX0_afterHour 0 [some (.int (S.1 22 x1.toNatClampNeg)), some (.int (S.1 25 x1.toNatClampNeg)), some (.int (S.1 21 9))] [] (pv_em S)) mX5_passHour 34 [some (.ref 21), some (.int x1)] [.int x1, .ref 25] := Eq.trans (pv_Rstp dX5_passHour_10 rfl rfl rfl) (Eq.trans (pv_Rget dX5_passHour_11 ffX5_21 (by decide) (pv_ce_21 _ _) rfl) (Eq.trans (pv_Rstp dX5_passHour_14 rfl rfl rfl) (Eq.trans (pv_Rstp dX5_passHour_15 rfl rfl rfl) (Eq.trans (pv_Rget dX5_passHour_16 ffX5_9 (by decide) (pv_ce_21 _ _) rfl) (Eq.trans (pv_Rstp dX5_passHour_19 rfl rfl rfl) (Eq.trans (pv_Rald dX5_passHour_20 (by decide) (pv_ce_22 _ _)) (pv_iteN (fun h1 => Eq.trans (pv_Rstp dX5_passHour_21 rfl rfl rfl) (Eq.trans (pv_Rget dX5_passHour_22 ffX5_21 (by decide) (pv_ce_21 _ _) rfl) (Eq.trans (pv_Rstp dX5_passHour_25 rfl rfl rfl) (Eq.trans (pv_Rald dX5_passHour_26 (by decide) (pv_ce_25 _ _)) (pv_iteN (fun h2 => Eq.trans (pv_Rstp dX5_passHour_27 rfl rfl rfl) (Eq.trans (pv_Rget dX5_passHour_28 ffX5_69 (by decide) (pv_ce_21 _ _) rfl) (pv_Rcall (As := [.int (S.1 22 x1.toNatClampNeg), .int (S.1 25 x1.toNatClampNeg), .int (S.1 21 9)]) (rest := [.int x1, .ref 25]) dX5_passHour_31 rfl mfX5_72 rfl rfl rfl rfl rfl)))))))))))))))
set_option maxHeartbeats 200000 in
theorem bX5_passHour_34 {S : pv_S} {x1 u0 u1 : Int32} : pv_R mX5_passHour 34 [some (.ref 21), some (.int x1)] [.int u0, .int u1, .ref 25] (pv_em S) = if u1 < 0 ∨ 6 ≤ u1.toNatClampNeg then none else pv_R mX5_passHour 2 [some (.ref 21), some (.int (x1 + 1))] [] (pv_em (pv_si S 25 u1.toNatClampNeg u0)) := Eq.trans (pv_Rast dX5_passHour_34 (by decide) (pv_ce_25 _ _) (pv_em_si rfl)) (pv_iteN (fun h1 => Eq.trans (pv_Rinc dX5_passHour_35 rfl (Nat.le_of_ble_eq_true rfl) ki_1 rfl) (pv_Rgo (tgt := 2) dX5_passHour_38 rfl (by decide))))
set_option maxHeartbeats 200000 in
theorem bX5_passHour_41 {S : pv_S} {x1 : Int32} : pv_R mX5_passHour 41 [some (.ref 21), some (.int x1)] [] (pv_em S) = some (none, pv_em (pv_si S 21 9 ((S.1 21 9) + 1))) := Eq.trans (pv_Rstp dX5_passHour_41 rfl rfl rfl) (Eq.trans (pv_Rstp dX5_passHour_42 rfl rfl rfl) (Eq.trans (pv_Rget dX5_passHour_43 ffX5_69 (by decide) (pv_ce_21 _ _) rfl) (Eq.trans (pv_Ric dX5_passHour_46 ki_1) (Eq.trans (pv_Rstp dX5_passHour_47 rfl rfl rfl) (Eq.trans (pv_Rput dX5_passHour_48 ffX5_69 rfl rfl rfl (by decide) (pv_ce_21 _ _) (Nat.le_of_ble_eq_true rfl) (pv_em_si rfl)) (pv_Rret dX5_passHour_51 rfl))))))
