/-! ===== blocks: cat1 ===== -/
theorem dX6_steady_0 : decode cX6_steady 0 = .ok (.iload_n 1, 1) := by decide +kernel
theorem dX6_steady_1 : decode cX6_steady 1 = .ok (.iconst 0, 1) := by decide +kernel
theorem dX6_steady_2 : decode cX6_steady 2 = .ok (.bipush 60, 2) := by decide +kernel
theorem dX6_steady_4 : decode cX6_steady 4 = .ok (.invokestatic 116, 3) := by decide +kernel
theorem dX6_steady_7 : decode cX6_steady 7 = .ok (.ifCond .ne 5, 3) := by decide +kernel
theorem dX6_steady_10 : decode cX6_steady 10 = .ok (.iconst (-1), 1) := by decide +kernel
theorem dX6_steady_11 : decode cX6_steady 11 = .ok (.ireturn, 1) := by decide +kernel
theorem dX6_steady_12 : decode cX6_steady 12 = .ok (.aload_n 0, 1) := by decide +kernel
theorem dX6_steady_13 : decode cX6_steady 13 = .ok (.getfield 31, 3) := by decide +kernel
theorem dX6_steady_16 : decode cX6_steady 16 = .ok (.getfield 110, 3) := by decide +kernel
theorem dX6_steady_19 : decode cX6_steady 19 = .ok (.ifCond .ne 6, 3) := by decide +kernel
theorem dX6_steady_22 : decode cX6_steady 22 = .ok (.bipush (-4), 2) := by decide +kernel
theorem dX6_steady_24 : decode cX6_steady 24 = .ok (.ireturn, 1) := by decide +kernel
theorem dX6_steady_25 : decode cX6_steady 25 = .ok (.iconst 0, 1) := by decide +kernel
theorem dX6_steady_26 : decode cX6_steady 26 = .ok (.istore_n 2, 1) := by decide +kernel
theorem dX6_steady_27 : decode cX6_steady 27 = .ok (.sipush 200, 3) := by decide +kernel
theorem dX6_steady_30 : decode cX6_steady 30 = .ok (.istore_n 3, 1) := by decide +kernel
theorem dX6_steady_31 : decode cX6_steady 31 = .ok (.iconst 0, 1) := by decide +kernel
theorem dX6_steady_32 : decode cX6_steady 32 = .ok (.istore 4, 2) := by decide +kernel
theorem dX6_steady_34 : decode cX6_steady 34 = .ok (.iload 4, 2) := by decide +kernel
theorem dX6_steady_36 : decode cX6_steady 36 = .ok (.aload_n 0, 1) := by decide +kernel
theorem dX6_steady_37 : decode cX6_steady 37 = .ok (.getfield 31, 3) := by decide +kernel
theorem dX6_steady_40 : decode cX6_steady 40 = .ok (.getfield 110, 3) := by decide +kernel
theorem dX6_steady_43 : decode cX6_steady 43 = .ok (.if_icmp .ge 37, 3) := by decide +kernel
theorem dX6_steady_46 : decode cX6_steady 46 = .ok (.aload_n 0, 1) := by decide +kernel
theorem dX6_steady_47 : decode cX6_steady 47 = .ok (.iload 4, 2) := by decide +kernel
theorem dX6_steady_49 : decode cX6_steady 49 = .ok (.iload_n 1, 1) := by decide +kernel
theorem dX6_steady_50 : decode cX6_steady 50 = .ok (.invokevirtual 192, 3) := by decide +kernel
theorem dX6_steady_53 : decode cX6_steady 53 = .ok (.aload_n 0, 1) := by decide +kernel
theorem dX6_steady_54 : decode cX6_steady 54 = .ok (.getfield 38, 3) := by decide +kernel
theorem dX6_steady_57 : decode cX6_steady 57 = .ok (.invokevirtual 201, 3) := by decide +kernel
theorem dX6_steady_60 : decode cX6_steady 60 = .ok (.istore 5, 2) := by decide +kernel
theorem dX6_steady_62 : decode cX6_steady 62 = .ok (.iload 5, 2) := by decide +kernel
theorem dX6_steady_64 : decode cX6_steady 64 = .ok (.iload_n 3, 1) := by decide +kernel
theorem dX6_steady_65 : decode cX6_steady 65 = .ok (.if_icmp .ge 9, 3) := by decide +kernel
theorem dX6_steady_68 : decode cX6_steady 68 = .ok (.iload 4, 2) := by decide +kernel
theorem dX6_steady_70 : decode cX6_steady 70 = .ok (.istore_n 2, 1) := by decide +kernel
theorem dX6_steady_71 : decode cX6_steady 71 = .ok (.iload 5, 2) := by decide +kernel
theorem dX6_steady_73 : decode cX6_steady 73 = .ok (.istore_n 3, 1) := by decide +kernel
theorem dX6_steady_74 : decode cX6_steady 74 = .ok (.iinc 4 1, 3) := by decide +kernel
theorem dX6_steady_77 : decode cX6_steady 77 = .ok (.goto (-43), 3) := by decide +kernel
theorem dX6_steady_80 : decode cX6_steady 80 = .ok (.aload_n 0, 1) := by decide +kernel
theorem dX6_steady_81 : decode cX6_steady 81 = .ok (.getfield 45, 3) := by decide +kernel
theorem dX6_steady_84 : decode cX6_steady 84 = .ok (.iload_n 3, 1) := by decide +kernel
theorem dX6_steady_85 : decode cX6_steady 85 = .ok (.putfield 61, 3) := by decide +kernel
theorem dX6_steady_88 : decode cX6_steady 88 = .ok (.iload_n 2, 1) := by decide +kernel
theorem dX6_steady_89 : decode cX6_steady 89 = .ok (.ireturn, 1) := by decide +kernel
set_option maxHeartbeats 200000 in
theorem bX6_steady_0 {S : pv_S} {x1 : Int32} {a2 a3 a4 a5 : Option Value} : pv_R mX6_steady 0 [some (.ref 0), some (.int x1), a2, a3, a4, a5] [] (pv_em S) = pv_cc (pv_R mX6_isWithin 0 [some (.int x1), some (.int 0), some (.int 60)] [] (pv_em S)) mX6_steady 7 [some (.ref 0), some (.int x1), a2, a3, a4, a5] [] := Eq.trans (pv_Rstp dX6_steady_0 rfl rfl rfl) (Eq.trans (pv_Ric dX6_steady_1 ki_0) (Eq.trans (pv_Rbp dX6_steady_2 kb_60) (pv_Rcall (As := [.int x1, .int 0, .int 60]) (rest := []) dX6_steady_4 rfl mfX6_116 rfl rfl rfl rfl rfl)))
set_option maxHeartbeats 200000 in
theorem bX6_steady_7 {S : pv_S} {x1 u0 : Int32} {a2 a3 a4 a5 : Option Value} : pv_R mX6_steady 7 [some (.ref 0), some (.int x1), a2, a3, a4, a5] [.int u0] (pv_em S) = if ¬ u0 = 0 then pv_R mX6_steady 12 [some (.ref 0), some (.int x1), a2, a3, a4, a5] [] (pv_em S) else pv_R mX6_steady 10 [some (.ref 0), some (.int x1), a2, a3, a4, a5] [] (pv_em S) := pv_Rbr (tgt := 12) dX6_steady_7 rfl rfl rfl rfl rfl (by decide)
set_option maxHeartbeats 200000 in
theorem bX6_steady_10 {S : pv_S} {x1 : Int32} {a2 a3 a4 a5 : Option Value} : pv_R mX6_steady 10 [some (.ref 0), some (.int x1), a2, a3, a4, a5] [] (pv_em S) = some (some (.int (-1)), pv_em S) := Eq.trans (pv_Ric dX6_steady_10 ki_m1) (pv_Rret dX6_steady_11 rfl)
set_option maxHeartbeats 200000 in
theorem bX6_steady_12 {S : pv_S} {x1 : Int32} {a2 a3 a4 a5 : Option Value} : pv_R mX6_steady 12 [some (.ref 0), some (.int x1), a2, a3, a4, a5] [] (pv_em S) = if ¬ (S.1 21 7) = 0 then pv_R mX6_steady 25 [some (.ref 0), some (.int x1), a2, a3, a4, a5] [] (pv_em S) else pv_R mX6_steady 22 [some (.ref 0), some (.int x1), a2, a3, a4, a5] [] (pv_em S) := Eq.trans (pv_Rstp dX6_steady_12 rfl rfl rfl) (Eq.trans (pv_Rget dX6_steady_13 ffX6_31 (by decide) (pv_ce_0 _ _) rfl) (Eq.trans (pv_Rget dX6_steady_16 ffX6_110 (by decide) (pv_ce_21 _ _) rfl) (pv_Rbr (tgt := 25) dX6_steady_19 rfl rfl rfl rfl rfl (by decide))))
set_option maxHeartbeats 200000 in
theorem bX6_steady_22 {S : pv_S} {x1 : Int32} {a2 a3 a4 a5 : Option Value} : pv_R mX6_steady 22 [some (.ref 0), some (.int x1), a2, a3, a4, a5] [] (pv_em S) = some (some (.int (-4)), pv_em S) := Eq.trans (pv_Rbp dX6_steady_22 kb_m4) (pv_Rret dX6_steady_24 rfl)
set_option maxHeartbeats 200000 in
theorem bX6_steady_25 {S : pv_S} {x1 : Int32} {a2 a3 a4 a5 : Option Value} : pv_R mX6_steady 25 [some (.ref 0), some (.int x1), a2, a3, a4, a5] [] (pv_em S) = pv_R mX6_steady 34 [some (.ref 0), some (.int x1), some (.int 0), some (.int 200), some (.int 0), a5] [] (pv_em S) := Eq.trans (pv_Ric dX6_steady_25 ki_0) (Eq.trans (pv_Rstp dX6_steady_26 rfl rfl rfl) (Eq.trans (pv_Rsp dX6_steady_27 ks_200) (Eq.trans (pv_Rstp dX6_steady_30 rfl rfl rfl) (Eq.trans (pv_Ric dX6_steady_31 ki_0) (pv_Rstp dX6_steady_32 rfl rfl rfl)))))
set_option maxHeartbeats 200000 in
theorem bX6_steady_34 {S : pv_S} {x1 x2 x3 x4 : Int32} {a5 : Option Value} : pv_R mX6_steady 34 [some (.ref 0), some (.int x1), some (.int x2), some (.int x3), some (.int x4), a5] [] (pv_em S) = if (S.1 21 7) ≤ x4 then pv_R mX6_steady 80 [some (.ref 0), some (.int x1), some (.int x2), some (.int x3), some (.int x4), a5] [] (pv_em S) else pv_R mX6_steady 46 [some (.ref 0), some (.int x1), some (.int x2), some (.int x3), some (.int x4), a5] [] (pv_em S) := Eq.trans (pv_Rstp dX6_steady_34 rfl rfl rfl) (Eq.trans (pv_Rstp dX6_steady_36 rfl rfl rfl) (Eq.trans (pv_Rget dX6_steady_37 ffX6_31 (by decide) (pv_ce_0 _ _) rfl) (Eq.trans (pv_Rget dX6_steady_40 ffX6_110 (by decide) (pv_ce_21 _ _) rfl) (pv_Rbr (tgt := 80) dX6_steady_43 rfl rfl rfl rfl rfl (by decide)))))
set_option maxHeartbeats 200000 in
theorem bX6_steady_46 {S : pv_S} {x1 x2 x3 x4 : Int32} {a5 : Option Value} : pv_R mX6_steady 46 [some (.ref 0), some (.int x1), some (.int x2), some (.int x3), some (.int x4), a5] [] (pv_em S) = pv_cc (pv_R mX6_lookAhead 0 [some (.ref 0), some (.int x4), some (.int x1)] [] (pv_em S)) mX6_steady 53 [some (.ref 0), some (.int x1), some (.int x2), some (.int x3), some (.int x4), a5] [] := Eq.trans (pv_Rstp dX6_steady_46 rfl rfl rfl) (Eq.trans (pv_Rstp dX6_steady_47 rfl rfl rfl) (Eq.trans (pv_Rstp dX6_steady_49 rfl rfl rfl) (pv_Rcall (As := [.ref 0, .int x4, .int x1]) (rest := []) dX6_steady_50 rfl mfX6_192 rfl rfl rfl rfl rfl)))
set_option maxHeartbeats 200000 in
theorem bX6_steady_53 {S : pv_S} {x1 x2 x3 x4 : Int32} {a5 : Option Value} : pv_R mX6_steady 53 [some (.ref 0), some (.int x1), some (.int x2), some (.int x3), some (.int x4), a5] [] (pv_em S) = pv_cc (pv_R mX1_spread 0 [some (.ref 32), none, none, none] [] (pv_em S)) mX6_steady 60 [some (.ref 0), some (.int x1), some (.int x2), some (.int x3), some (.int x4), a5] [] := Eq.trans (pv_Rstp dX6_steady_53 rfl rfl rfl) (Eq.trans (pv_Rget dX6_steady_54 ffX6_38 (by decide) (pv_ce_0 _ _) rfl) (pv_Rcall (As := [.ref 32]) (rest := []) dX6_steady_57 rfl mfX6_201 rfl rfl rfl rfl rfl))
set_option maxHeartbeats 200000 in
theorem bX6_steady_60 {S : pv_S} {x1 x2 x3 x4 u0 : Int32} {a5 : Option Value} : pv_R mX6_steady 60 [some (.ref 0), some (.int x1), some (.int x2), some (.int x3), some (.int x4), a5] [.int u0] (pv_em S) = if x3 ≤ u0 then pv_R mX6_steady 74 [some (.ref 0), some (.int x1), some (.int x2), some (.int x3), some (.int x4), some (.int u0)] [] (pv_em S) else pv_R mX6_steady 68 [some (.ref 0), some (.int x1), some (.int x2), some (.int x3), some (.int x4), some (.int u0)] [] (pv_em S) := Eq.trans (pv_Rstp dX6_steady_60 rfl rfl rfl) (Eq.trans (pv_Rstp dX6_steady_62 rfl rfl rfl) (Eq.trans (pv_Rstp dX6_steady_64 rfl rfl rfl) (pv_Rbr (tgt := 74) dX6_steady_65 rfl rfl rfl rfl rfl (by decide))))
set_option maxHeartbeats 200000 in
theorem bX6_steady_68 {S : pv_S} {x1 x2 x3 x4 x5 : Int32} : pv_R mX6_steady 68 [some (.ref 0), some (.int x1), some (.int x2), some (.int x3), some (.int x4), some (.int x5)] [] (pv_em S) = pv_R mX6_steady 74 [some (.ref 0), some (.int x1), some (.int x4), some (.int x5), some (.int x4), some (.int x5)] [] (pv_em S) := Eq.trans (pv_Rstp dX6_steady_68 rfl rfl rfl) (Eq.trans (pv_Rstp dX6_steady_70 rfl rfl rfl) (Eq.trans (pv_Rstp dX6_steady_71 rfl rfl rfl) (pv_Rstp dX6_steady_73 rfl rfl rfl)))
set_option maxHeartbeats 200000 in
theorem bX6_steady_74 {S : pv_S} {x1 x2 x3 x4 x5 : Int32} : pv_R mX6_steady 74 [some (.ref 0), some (.int x1), some (.int x2), some (.int x3), some (.int x4), some (.int x5)] [] (pv_em S) = pv_R mX6_steady 34 [some (.ref 0), some (.int x1), some (.int x2), some (.int x3), some (.int (x4 + 1)), some (.int x5)] [] (pv_em S) := Eq.trans (pv_Rinc dX6_steady_74 rfl (Nat.le_of_ble_eq_true rfl) ki_1 rfl) (pv_Rgo (tgt := 34) dX6_steady_77 rfl (by decide))
set_option maxHeartbeats 200000 in
theorem bX6_steady_80 {S : pv_S} {x1 x2 x3 x4 : Int32} {a5 : Option Value} : pv_R mX6_steady 80 [some (.ref 0), some (.int x1), some (.int x2), some (.int x3), some (.int x4), a5] [] (pv_em S) = some (some (.int x2), pv_em (pv_si S 35 1 x3)) := Eq.trans (pv_Rstp dX6_steady_80 rfl rfl rfl) (Eq.trans (pv_Rget dX6_steady_81 ffX6_45 (by decide) (pv_ce_0 _ _) rfl) (Eq.trans (pv_Rstp dX6_steady_84 rfl rfl rfl) (Eq.trans (pv_Rput dX6_steady_85 ffX6_61 rfl rfl rfl (by decide) (pv_ce_35 _ _) (Nat.le_of_ble_eq_true rfl) (pv_em_si rfl)) (Eq.trans (pv_Rstp dX6_steady_88 rfl rfl rfl) (pv_Rret dX6_steady_89 rfl)))))
theorem dX6_meals_0 : decode cX6_meals 0 = .ok (.aload_n 0, 1) := by decide +kernel
theorem dX6_meals_1 : decode cX6_meals 1 = .ok (.getfield 31, 3) := by decide +kernel
theorem dX6_meals_4 : decode cX6_meals 4 = .ok (.iload_n 1, 1) := by decide +kernel
theorem dX6_meals_5 : decode cX6_meals 5 = .ok (.invokevirtual 113, 3) := by decide +kernel
theorem dX6_meals_8 : decode cX6_meals 8 = .ok (.ifCond .eq 24, 3) := by decide +kernel
theorem dX6_meals_11 : decode cX6_meals 11 = .ok (.iload_n 2, 1) := by decide +kernel
theorem dX6_meals_12 : decode cX6_meals 12 = .ok (.iconst 1, 1) := by decide +kernel
theorem dX6_meals_13 : decode cX6_meals 13 = .ok (.sipush 200, 3) := by decide +kernel
theorem dX6_meals_16 : decode cX6_meals 16 = .ok (.invokestatic 116, 3) := by decide +kernel
theorem dX6_meals_19 : decode cX6_meals 19 = .ok (.ifCond .eq 13, 3) := by decide +kernel
theorem dX6_meals_22 : decode cX6_meals 22 = .ok (.iload_n 3, 1) := by decide +kernel
theorem dX6_meals_23 : decode cX6_meals 23 = .ok (.iconst 0, 1) := by decide +kernel
theorem dX6_meals_24 : decode cX6_meals 24 = .ok (.bipush 20, 2) := by decide +kernel
theorem dX6_meals_26 : decode cX6_meals 26 = .ok (.invokestatic 116, 3) := by decide +kernel
theorem dX6_meals_29 : decode cX6_meals 29 = .ok (.ifCond .ne 5, 3) := by decide +kernel
theorem dX6_meals_32 : decode cX6_meals 32 = .ok (.iconst (-1), 1) := by decide +kernel
theorem dX6_meals_33 : decode cX6_meals 33 = .ok (.ireturn, 1) := by decide +kernel
theorem dX6_meals_34 : decode cX6_meals 34 = .ok (.aload_n 0, 1) := by decide +kernel
theorem dX6_meals_35 : decode cX6_meals 35 = .ok (.getfield 31, 3) := by decide +kernel
theorem dX6_meals_38 : decode cX6_meals 38 = .ok (.getfield 162, 3) := by decide +kernel
theorem dX6_meals_41 : decode cX6_meals 41 = .ok (.iload_n 1, 1) := by decide +kernel
theorem dX6_meals_42 : decode cX6_meals 42 = .ok (.iaload, 1) := by decide +kernel
theorem dX6_meals_43 : decode cX6_meals 43 = .ok (.istore 4, 2) := by decide +kernel
theorem dX6_meals_45 : decode cX6_meals 45 = .ok (.iconst 0, 1) := by decide +kernel
theorem dX6_meals_46 : decode cX6_meals 46 = .ok (.istore 5, 2) := by decide +kernel
theorem dX6_meals_48 : decode cX6_meals 48 = .ok (.iload 5, 2) := by decide +kernel
theorem dX6_meals_50 : decode cX6_meals 50 = .ok (.bipush 20, 2) := by decide +kernel
theorem dX6_meals_52 : decode cX6_meals 52 = .ok (.if_icmp .gt 66, 3) := by decide +kernel
theorem dX6_meals_55 : decode cX6_meals 55 = .ok (.aload_n 0, 1) := by decide +kernel
theorem dX6_meals_56 : decode cX6_meals 56 = .ok (.getfield 38, 3) := by decide +kernel
theorem dX6_meals_59 : decode cX6_meals 59 = .ok (.aload_n 0, 1) := by decide +kernel
theorem dX6_meals_60 : decode cX6_meals 60 = .ok (.getfield 31, 3) := by decide +kernel
theorem dX6_meals_63 : decode cX6_meals 63 = .ok (.getfield 122, 3) := by decide +kernel
theorem dX6_meals_66 : decode cX6_meals 66 = .ok (.iload_n 1, 1) := by decide +kernel
theorem dX6_meals_67 : decode cX6_meals 67 = .ok (.iaload, 1) := by decide +kernel
theorem dX6_meals_68 : decode cX6_meals 68 = .ok (.iload 4, 2) := by decide +kernel
theorem dX6_meals_70 : decode cX6_meals 70 = .ok (.aload_n 0, 1) := by decide +kernel
theorem dX6_meals_71 : decode cX6_meals 71 = .ok (.getfield 31, 3) := by decide +kernel
theorem dX6_meals_74 : decode cX6_meals 74 = .ok (.getfield 132, 3) := by decide +kernel
theorem dX6_meals_77 : decode cX6_meals 77 = .ok (.iload_n 3, 1) := by decide +kernel
theorem dX6_meals_78 : decode cX6_meals 78 = .ok (.invokevirtual 204, 3) := by decide +kernel
theorem dX6_meals_81 : decode cX6_meals 81 = .ok (.aload_n 0, 1) := by decide +kernel
theorem dX6_meals_82 : decode cX6_meals 82 = .ok (.getfield 38, 3) := by decide +kernel
theorem dX6_meals_85 : decode cX6_meals 85 = .ok (.iload_n 3, 1) := by decide +kernel
theorem dX6_meals_86 : decode cX6_meals 86 = .ok (.invokevirtual 195, 3) := by decide +kernel
theorem dX6_meals_89 : decode cX6_meals 89 = .ok (.iload_n 2, 1) := by decide +kernel
theorem dX6_meals_90 : decode cX6_meals 90 = .ok (.if_icmp .lt 6, 3) := by decide +kernel
theorem dX6_meals_93 : decode cX6_meals 93 = .ok (.iload 5, 2) := by decide +kernel
theorem dX6_meals_95 : decode cX6_meals 95 = .ok (.ireturn, 1) := by decide +kernel
theorem dX6_meals_96 : decode cX6_meals 96 = .ok (.iload 4, 2) := by decide +kernel
theorem dX6_meals_98 : decode cX6_meals 98 = .ok (.aload_n 0, 1) := by decide +kernel
theorem dX6_meals_99 : decode cX6_meals 99 = .ok (.getfield 31, 3) := by decide +kernel
theorem dX6_meals_102 : decode cX6_meals 102 = .ok (.iload_n 1, 1) := by decide +kernel
theorem dX6_meals_103 : decode cX6_meals 103 = .ok (.invokevirtual 144, 3) := by decide +kernel
theorem dX6_meals_106 : decode cX6_meals 106 = .ok (.iadd, 1) := by decide +kernel
theorem dX6_meals_107 : decode cX6_meals 107 = .ok (.invokestatic 208, 3) := by decide +kernel
theorem dX6_meals_110 : decode cX6_meals 110 = .ok (.istore 4, 2) := by decide +kernel
theorem dX6_meals_112 : decode cX6_meals 112 = .ok (.iinc 5 1, 3) := by decide +kernel
theorem dX6_meals_115 : decode cX6_meals 115 = .ok (.goto (-67), 3) := by decide +kernel
theorem dX6_meals_118 : decode cX6_meals 118 = .ok (.bipush (-9), 2) := by decide +kernel
theorem dX6_meals_120 : decode cX6_meals 120 = .ok (.ireturn, 1) := by decide +kernel
set_option maxHeartbeats 200000 in
theorem bX6_meals_0 {S : pv_S} {x1 x2 x3 : Int32} {a4 a5 : Option Value} : pv_R mX6_meals 0 [some (.ref 0), some (.int x1), some (.int x2), some (.int x3), a4, a5] [] (pv_em S) = pv_cc (pv_R mX5_isCat 0 [some (.ref 21), some (.int x1)] [] (pv_em S)) mX6_meals 8 [some (.ref 0), some (.int x1), some (.int x2), some (.int x3), a4, a5] [] := Eq.trans (pv_Rstp dX6_meals_0 rfl rfl rfl) (Eq.trans (pv_Rget dX6_meals_1 ffX6_31 (by decide) (pv_ce_0 _ _) rfl) (Eq.trans (pv_Rstp dX6_meals_4 rfl rfl rfl) (pv_Rcall (As := [.ref 21, .int x1]) (rest := []) dX6_meals_5 rfl mfX6_113 rfl rfl rfl rfl rfl)))
set_option maxHeartbeats 200000 in
theorem bX6_meals_8 {S : pv_S} {x1 x2 x3 u0 : Int32} {a4 a5 : Option Value} : pv_R mX6_meals 8 [some (.ref 0), some (.int x1), some (.int x2), some (.int x3), a4, a5] [.int u0] (pv_em S) = if u0 = 0 then pv_R mX6_meals 32 [some (.ref 0), some (.int x1), some (.int x2), some (.int x3), a4, a5] [] (pv_em S) else pv_R mX6_meals 11 [some (.ref 0), some (.int x1), some (.int x2), some (.int x3), a4, a5] [] (pv_em S) := pv_Rbr (tgt := 32) dX6_meals_8 rfl rfl rfl rfl rfl (by decide)
set_option maxHeartbeats 200000 in
theorem bX6_meals_11 {S : pv_S} {x1 x2 x3 : Int32} {a4 a5 : Option Value} : pv_R mX6_meals 11 [some (.ref 0), some (.int x1), some (.int x2), some (.int x3), a4, a5] [] (pv_em S) = pv_cc (pv_R mX6_isWithin 0 [some (.int x2), some (.int 1), some (.int 200)] [] (pv_em S)) mX6_meals 19 [some (.ref 0), some (.int x1), some (.int x2), some (.int x3), a4, a5] [] := Eq.trans (pv_Rstp dX6_meals_11 rfl rfl rfl) (Eq.trans (pv_Ric dX6_meals_12 ki_1) (Eq.trans (pv_Rsp dX6_meals_13 ks_200) (pv_Rcall (As := [.int x2, .int 1, .int 200]) (rest := []) dX6_meals_16 rfl mfX6_116 rfl rfl rfl rfl rfl)))
set_option maxHeartbeats 200000 in
theorem bX6_meals_19 {S : pv_S} {x1 x2 x3 u0 : Int32} {a4 a5 : Option Value} : pv_R mX6_meals 19 [some (.ref 0), some (.int x1), some (.int x2), some (.int x3), a4, a5] [.int u0] (pv_em S) = if u0 = 0 then pv_R mX6_meals 32 [some (.ref 0), some (.int x1), some (.int x2), some (.int x3), a4, a5] [] (pv_em S) else pv_R mX6_meals 22 [some (.ref 0), some (.int x1), some (.int x2), some (.int x3), a4, a5] [] (pv_em S) := pv_Rbr (tgt := 32) dX6_meals_19 rfl rfl rfl rfl rfl (by decide)
set_option maxHeartbeats 200000 in
theorem bX6_meals_22 {S : pv_S} {x1 x2 x3 : Int32} {a4 a5 : Option Value} : pv_R mX6_meals 22 [some (.ref 0), some (.int x1), some (.int x2), some (.int x3), a4, a5] [] (pv_em S) = pv_cc (pv_R mX6_isWithin 0 [some (.int x3), some (.int 0), some (.int 20)] [] (pv_em S)) mX6_meals 29 [some (.ref 0), some (.int x1), some (.int x2), some (.int x3), a4, a5] [] := Eq.trans (pv_Rstp dX6_meals_22 rfl rfl rfl) (Eq.trans (pv_Ric dX6_meals_23 ki_0) (Eq.trans (pv_Rbp dX6_meals_24 kb_20) (pv_Rcall (As := [.int x3, .int 0, .int 20]) (rest := []) dX6_meals_26 rfl mfX6_116 rfl rfl rfl rfl rfl)))
set_option maxHeartbeats 200000 in
theorem bX6_meals_29 {S : pv_S} {x1 x2 x3 u0 : Int32} {a4 a5 : Option Value} : pv_R mX6_meals 29 [some (.ref 0), some (.int x1), some (.int x2), some (.int x3), a4, a5] [.int u0] (pv_em S) = if ¬ u0 = 0 then pv_R mX6_meals 34 [some (.ref 0), some (.int x1), some (.int x2), some (.int x3), a4, a5] [] (pv_em S) else pv_R mX6_meals 32 [some (.ref 0), some (.int x1), some (.int x2), some (.int x3), a4, a5] [] (pv_em S) := pv_Rbr (tgt := 34) dX6_meals_29 rfl rfl rfl rfl rfl (by decide)
set_option maxHeartbeats 200000 in
theorem bX6_meals_32 {S : pv_S} {x1 x2 x3 : Int32} {a4 a5 : Option Value} : pv_R mX6_meals 32 [some (.ref 0), some (.int x1), some (.int x2), some (.int x3), a4, a5] [] (pv_em S) = some (some (.int (-1)), pv_em S) := Eq.trans (pv_Ric dX6_meals_32 ki_m1) (pv_Rret dX6_meals_33 rfl)
set_option maxHeartbeats 200000 in
theorem bX6_meals_34 {S : pv_S} {x1 x2 x3 : Int32} {a4 a5 : Option Value} : pv_R mX6_meals 34 [some (.ref 0), some (.int x1), some (.int x2), some (.int x3), a4, a5] [] (pv_em S) = if x1 < 0 ∨ 6 ≤ x1.toNatClampNeg then none else pv_R mX6_meals 48 [some (.ref 0), some (.int x1), some (.int x2), some (.int x3), some (.int (S.1 25 x1.toNatClampNeg)), some (.int 0)] [] (pv_em S) := Eq.trans (pv_Rstp dX6_meals_34 rfl rfl rfl) (Eq.trans (pv_Rget dX6_meals_35 ffX6_31 (by decide) (pv_ce_0 _ _) rfl) (Eq.trans (pv_Rget dX6_meals_38 ffX6_162 (by decide) (pv_ce_21 _ _) rfl) (Eq.trans (pv_Rstp dX6_meals_41 rfl rfl rfl) (Eq.trans (pv_Rald dX6_meals_42 (by decide) (pv_ce_25 _ _)) (pv_iteN (fun h1 => Eq.trans (pv_Rstp dX6_meals_43 rfl rfl rfl) (Eq.trans (pv_Ric dX6_meals_45 ki_0) (pv_Rstp dX6_meals_46 rfl rfl rfl))))))))
set_option maxHeartbeats 200000 in
theorem bX6_meals_48 {S : pv_S} {x1 x2 x3 x4 x5 : Int32} : pv_R mX6_meals 48 [some (.ref 0), some (.int x1), some (.int x2), some (.int x3), some (.int x4), some (.int x5)] [] (pv_em S) = if 20 < x5 then pv_R mX6_meals 118 [some (.ref 0), some (.int x1), some (.int x2), some (.int x3), some (.int x4), some (.int x5)] [] (pv_em S) else pv_R mX6_meals 55 [some (.ref 0), some (.int x1), some (.int x2), some (.int x3), some (.int x4), some (.int x5)] [] (pv_em S) := Eq.trans (pv_Rstp dX6_meals_48 rfl rfl rfl) (Eq.trans (pv_Rbp dX6_meals_50 kb_20) (pv_Rbr (tgt := 118) dX6_meals_52 rfl rfl rfl rfl rfl (by decide)))
set_option maxHeartbeats 200000 in
theorem bX6_meals_55 {S : pv_S} {x1 x2 x3 x4 x5 : Int32} : pv_R mX6_meals 55 [some (.ref 0), some (.int x1), some (.int x2), some (.int x3), some (.int x4), some (.int x5)] [] (pv_em S) = if x1 < 0 ∨ 6 ≤ x1.toNatClampNeg then none else pv_cc (pv_R mX1_fill 0 [some (.ref 32), some (.int (S.1 22 x1.toNatClampNeg)), some (.int x4), some (.int (S.1 21 9)), some (.int x3), none] [] (pv_em S)) mX6_meals 81 [some (.ref 0), some (.int x1), some (.int x2), some (.int x3), some (.int x4), some (.int x5)] [] := Eq.trans (pv_Rstp dX6_meals_55 rfl rfl rfl) (Eq.trans (pv_Rget dX6_meals_56 ffX6_38 (by decide) (pv_ce_0 _ _) rfl) (Eq.trans (pv_Rstp dX6_meals_59 rfl rfl rfl) (Eq.trans (pv_Rget dX6_meals_60 ffX6_31 (by decide) (pv_ce_0 _ _) rfl) (Eq.trans (pv_Rget dX6_meals_63 ffX6_122 (by decide) (pv_ce_21 _ _) rfl) (Eq.trans (pv_Rstp dX6_meals_66 rfl rfl rfl) (Eq.trans (pv_Rald dX6_meals_67 (by decide) (pv_ce_22 _ _)) (pv_iteN (fun h1 => Eq.trans (pv_Rstp dX6_meals_68 rfl rfl rfl) (Eq.trans (pv_Rstp dX6_meals_70 rfl rfl rfl) (Eq.trans (pv_Rget dX6_meals_71 ffX6_31 (by decide) (pv_ce_0 _ _) rfl) (Eq.trans (pv_Rget dX6_meals_74 ffX6_132 (by decide) (pv_ce_21 _ _) rfl) (Eq.trans (pv_Rstp dX6_meals_77 rfl rfl rfl) (pv_Rcall (As := [.ref 32, .int (S.1 22 x1.toNatClampNeg), .int x4, .int (S.1 21 9), .int x3]) (rest := []) dX6_meals_78 rfl mfX6_204 rfl rfl rfl rfl rfl)))))))))))))
set_option maxHeartbeats 200000 in
theorem bX6_meals_81 {S : pv_S} {x1 x2 x3 x4 x5 : Int32} : pv_R mX6_meals 81 [some (.ref 0), some (.int x1), some (.int x2), some (.int x3), some (.int x4), some (.int x5)] [] (pv_em S) = pv_cc (pv_R mX1_weightIn 0 [some (.ref 32), some (.int x3)] [] (pv_em S)) mX6_meals 89 [some (.ref 0), some (.int x1), some (.int x2), some (.int x3), some (.int x4), some (.int x5)] [] := Eq.trans (pv_Rstp dX6_meals_81 rfl rfl rfl) (Eq.trans (pv_Rget dX6_meals_82 ffX6_38 (by decide) (pv_ce_0 _ _) rfl) (Eq.trans (pv_Rstp dX6_meals_85 rfl rfl rfl) (pv_Rcall (As := [.ref 32, .int x3]) (rest := []) dX6_meals_86 rfl mfX6_195 rfl rfl rfl rfl rfl)))
set_option maxHeartbeats 200000 in
theorem bX6_meals_89 {S : pv_S} {x1 x2 x3 x4 x5 u0 : Int32} : pv_R mX6_meals 89 [some (.ref 0), some (.int x1), some (.int x2), some (.int x3), some (.int x4), some (.int x5)] [.int u0] (pv_em S) = if u0 < x2 then pv_R mX6_meals 96 [some (.ref 0), some (.int x1), some (.int x2), some (.int x3), some (.int x4), some (.int x5)] [] (pv_em S) else pv_R mX6_meals 93 [some (.ref 0), some (.int x1), some (.int x2), some (.int x3), some (.int x4), some (.int x5)] [] (pv_em S) := Eq.trans (pv_Rstp dX6_meals_89 rfl rfl rfl) (pv_Rbr (tgt := 96) dX6_meals_90 rfl rfl rfl rfl rfl (by decide))
set_option maxHeartbeats 200000 in
theorem bX6_meals_93 {S : pv_S} {x1 x2 x3 x4 x5 : Int32} : pv_R mX6_meals 93 [some (.ref 0), some (.int x1), some (.int x2), some (.int x3), some (.int x4), some (.int x5)] [] (pv_em S) = some (some (.int x5), pv_em S) := Eq.trans (pv_Rstp dX6_meals_93 rfl rfl rfl) (pv_Rret dX6_meals_95 rfl)
set_option maxHeartbeats 200000 in
theorem bX6_meals_96 {S : pv_S} {x1 x2 x3 x4 x5 : Int32} : pv_R mX6_meals 96 [some (.ref 0), some (.int x1), some (.int x2), some (.int x3), some (.int x4), some (.int x5)] [] (pv_em S) = pv_cc (pv_R mX5_mealAdds 0 [some (.ref 21), some (.int x1)] [] (pv_em S)) mX6_meals 106 [some (.ref 0), some (.int x1), some (.int x2), some (.int x3), some (.int x4), some (.int x5)] [.int x4] := Eq.trans (pv_Rstp dX6_meals_96 rfl rfl rfl) (Eq.trans (pv_Rstp dX6_meals_98 rfl rfl rfl) (Eq.trans (pv_Rget dX6_meals_99 ffX6_31 (by decide) (pv_ce_0 _ _) rfl) (Eq.trans (pv_Rstp dX6_meals_102 rfl rfl rfl) (pv_Rcall (As := [.ref 21, .int x1]) (rest := [.int x4]) dX6_meals_103 rfl mfX6_144 rfl rfl rfl rfl rfl))))
set_option maxHeartbeats 200000 in
theorem bX6_meals_106 {S : pv_S} {x1 x2 x3 x4 x5 u0 u1 : Int32} : pv_R mX6_meals 106 [some (.ref 0), some (.int x1), some (.int x2), some (.int x3), some (.int x4), some (.int x5)] [.int u0, .int u1] (pv_em S) = pv_cc (pv_R mX0_held 0 [some (.int (u1 + u0))] [] (pv_em S)) mX6_meals 110 [some (.ref 0), some (.int x1), some (.int x2), some (.int x3), some (.int x4), some (.int x5)] [] := Eq.trans (pv_Rstp dX6_meals_106 rfl rfl rfl) (pv_Rcall (As := [.int (u1 + u0)]) (rest := []) dX6_meals_107 rfl mfX6_208 rfl rfl rfl rfl rfl)
set_option maxHeartbeats 200000 in
theorem bX6_meals_110 {S : pv_S} {x1 x2 x3 x4 x5 u0 : Int32} : pv_R mX6_meals 110 [some (.ref 0), some (.int x1), some (.int x2), some (.int x3), some (.int x4), some (.int x5)] [.int u0] (pv_em S) = pv_R mX6_meals 48 [some (.ref 0), some (.int x1), some (.int x2), some (.int x3), some (.int u0), some (.int (x5 + 1))] [] (pv_em S) := Eq.trans (pv_Rstp dX6_meals_110 rfl rfl rfl) (Eq.trans (pv_Rinc dX6_meals_112 rfl (Nat.le_of_ble_eq_true rfl) ki_1 rfl) (pv_Rgo (tgt := 48) dX6_meals_115 rfl (by decide)))
set_option maxHeartbeats 200000 in
theorem bX6_meals_118 {S : pv_S} {x1 x2 x3 x4 x5 : Int32} : pv_R mX6_meals 118 [some (.ref 0), some (.int x1), some (.int x2), some (.int x3), some (.int x4), some (.int x5)] [] (pv_em S) = some (some (.int (-9)), pv_em S) := Eq.trans (pv_Rbp dX6_meals_118 kb_m9) (pv_Rret dX6_meals_120 rfl)
theorem dX6_gain_0 : decode cX6_gain 0 = .ok (.iload_n 1, 1) := by decide +kernel
theorem dX6_gain_1 : decode cX6_gain 1 = .ok (.iconst 1, 1) := by decide +kernel
theorem dX6_gain_2 : decode cX6_gain 2 = .ok (.bipush 9, 2) := by decide +kernel
theorem dX6_gain_4 : decode cX6_gain 4 = .ok (.invokestatic 116, 3) := by decide +kernel
theorem dX6_gain_7 : decode cX6_gain 7 = .ok (.ifCond .eq 13, 3) := by decide +kernel
theorem dX6_gain_10 : decode cX6_gain 10 = .ok (.iload_n 2, 1) := by decide +kernel
theorem dX6_gain_11 : decode cX6_gain 11 = .ok (.iconst 0, 1) := by decide +kernel
theorem dX6_gain_12 : decode cX6_gain 12 = .ok (.bipush 20, 2) := by decide +kernel
theorem dX6_gain_14 : decode cX6_gain 14 = .ok (.invokestatic 116, 3) := by decide +kernel
theorem dX6_gain_17 : decode cX6_gain 17 = .ok (.ifCond .ne 5, 3) := by decide +kernel
theorem dX6_gain_20 : decode cX6_gain 20 = .ok (.iconst (-1), 1) := by decide +kernel
theorem dX6_gain_21 : decode cX6_gain 21 = .ok (.ireturn, 1) := by decide +kernel
theorem dX6_gain_22 : decode cX6_gain 22 = .ok (.aload_n 0, 1) := by decide +kernel
theorem dX6_gain_23 : decode cX6_gain 23 = .ok (.getfield 31, 3) := by decide +kernel
theorem dX6_gain_26 : decode cX6_gain 26 = .ok (.getfield 110, 3) := by decide +kernel
theorem dX6_gain_29 : decode cX6_gain 29 = .ok (.ifCond .ne 6, 3) := by decide +kernel
theorem dX6_gain_32 : decode cX6_gain 32 = .ok (.bipush (-4), 2) := by decide +kernel
theorem dX6_gain_34 : decode cX6_gain 34 = .ok (.ireturn, 1) := by decide +kernel
theorem dX6_gain_35 : decode cX6_gain 35 = .ok (.aload_n 0, 1) := by decide +kernel
theorem dX6_gain_36 : decode cX6_gain 36 = .ok (.iload_n 2, 1) := by decide +kernel
theorem dX6_gain_37 : decode cX6_gain 37 = .ok (.invokevirtual 211, 3) := by decide +kernel
theorem dX6_gain_40 : decode cX6_gain 40 = .ok (.iconst 0, 1) := by decide +kernel
theorem dX6_gain_41 : decode cX6_gain 41 = .ok (.istore_n 3, 1) := by decide +kernel
theorem dX6_gain_42 : decode cX6_gain 42 = .ok (.bipush (-9), 2) := by decide +kernel
theorem dX6_gain_44 : decode cX6_gain 44 = .ok (.istore 4, 2) := by decide +kernel
theorem dX6_gain_46 : decode cX6_gain 46 = .ok (.iconst 0, 1) := by decide +kernel
theorem dX6_gain_47 : decode cX6_gain 47 = .ok (.istore 5, 2) := by decide +kernel
theorem dX6_gain_49 : decode cX6_gain 49 = .ok (.iload 5, 2) := by decide +kernel
theorem dX6_gain_51 : decode cX6_gain 51 = .ok (.iload_n 2, 1) := by decide +kernel
theorem dX6_gain_52 : decode cX6_gain 52 = .ok (.if_icmp .gt 63, 3) := by decide +kernel
theorem dX6_gain_55 : decode cX6_gain 55 = .ok (.iload 5, 2) := by decide +kernel
theorem dX6_gain_57 : decode cX6_gain 57 = .ok (.istore 6, 2) := by decide +kernel
theorem dX6_gain_59 : decode cX6_gain 59 = .ok (.iload 6, 2) := by decide +kernel
theorem dX6_gain_61 : decode cX6_gain 61 = .ok (.iload_n 2, 1) := by decide +kernel
theorem dX6_gain_62 : decode cX6_gain 62 = .ok (.if_icmp .gt 47, 3) := by decide +kernel
theorem dX6_gain_65 : decode cX6_gain 65 = .ok (.bipush 10, 2) := by decide +kernel
theorem dX6_gain_67 : decode cX6_gain 67 = .ok (.aload_n 0, 1) := by decide +kernel
theorem dX6_gain_68 : decode cX6_gain 68 = .ok (.getfield 38, 3) := by decide +kernel
theorem dX6_gain_71 : decode cX6_gain 71 = .ok (.iload_n 1, 1) := by decide +kernel
theorem dX6_gain_72 : decode cX6_gain 72 = .ok (.iload 5, 2) := by decide +kernel
theorem dX6_gain_74 : decode cX6_gain 74 = .ok (.iload 6, 2) := by decide +kernel
theorem dX6_gain_76 : decode cX6_gain 76 = .ok (.invokevirtual 214, 3) := by decide +kernel
theorem dX6_gain_79 : decode cX6_gain 79 = .ok (.iload_n 1, 1) := by decide +kernel
theorem dX6_gain_80 : decode cX6_gain 80 = .ok (.isub, 1) := by decide +kernel
theorem dX6_gain_81 : decode cX6_gain 81 = .ok (.imul, 1) := by decide +kernel
theorem dX6_gain_82 : decode cX6_gain 82 = .ok (.istore 7, 2) := by decide +kernel
theorem dX6_gain_84 : decode cX6_gain 84 = .ok (.iload 7, 2) := by decide +kernel
theorem dX6_gain_86 : decode cX6_gain 86 = .ok (.iload_n 3, 1) := by decide +kernel
theorem dX6_gain_87 : decode cX6_gain 87 = .ok (.if_icmp .le 16, 3) := by decide +kernel
theorem dX6_gain_90 : decode cX6_gain 90 = .ok (.iload 7, 2) := by decide +kernel
theorem dX6_gain_92 : decode cX6_gain 92 = .ok (.istore_n 3, 1) := by decide +kernel
theorem dX6_gain_93 : decode cX6_gain 93 = .ok (.bipush 100, 2) := by decide +kernel
theorem dX6_gain_95 : decode cX6_gain 95 = .ok (.iload 5, 2) := by decide +kernel
theorem dX6_gain_97 : decode cX6_gain 97 = .ok (.imul, 1) := by decide +kernel
theorem dX6_gain_98 : decode cX6_gain 98 = .ok (.iload 6, 2) := by decide +kernel
theorem dX6_gain_100 : decode cX6_gain 100 = .ok (.iadd, 1) := by decide +kernel
theorem dX6_gain_101 : decode cX6_gain 101 = .ok (.istore 4, 2) := by decide +kernel
theorem dX6_gain_103 : decode cX6_gain 103 = .ok (.iinc 6 1, 3) := by decide +kernel
theorem dX6_gain_106 : decode cX6_gain 106 = .ok (.goto (-47), 3) := by decide +kernel
theorem dX6_gain_109 : decode cX6_gain 109 = .ok (.iinc 5 1, 3) := by decide +kernel
theorem dX6_gain_112 : decode cX6_gain 112 = .ok (.goto (-63), 3) := by decide +kernel
theorem dX6_gain_115 : decode cX6_gain 115 = .ok (.aload_n 0, 1) := by decide +kernel
theorem dX6_gain_116 : decode cX6_gain 116 = .ok (.getfield 45, 3) := by decide +kernel
theorem dX6_gain_119 : decode cX6_gain 119 = .ok (.iload 4, 2) := by decide +kernel
theorem dX6_gain_121 : decode cX6_gain 121 = .ok (.putfield 61, 3) := by decide +kernel
theorem dX6_gain_124 : decode cX6_gain 124 = .ok (.iload_n 3, 1) := by decide +kernel
theorem dX6_gain_125 : decode cX6_gain 125 = .ok (.ireturn, 1) := by decide +kernel
set_option maxHeartbeats 200000 in
theorem bX6_gain_0 {S : pv_S} {x1 x2 : Int32} {a3 a4 a5 a6 a7 : Option Value} : pv_R mX6_gain 0 [some (.ref 0), some (.int x1), some (.int x2), a3, a4, a5, a6, a7] [] (pv_em S) = pv_cc (pv_R mX6_isWithin 0 [some (.int x1), some (.int 1), some (.int 9)] [] (pv_em S)) mX6_gain 7 [some (.ref 0), some (.int x1), some (.int x2), a3, a4, a5, a6, a7] [] := Eq.trans (pv_Rstp dX6_gain_0 rfl rfl rfl) (Eq.trans (pv_Ric dX6_gain_1 ki_1) (Eq.trans (pv_Rbp dX6_gain_2 kb_9) (pv_Rcall (As := [.int x1, .int 1, .int 9]) (rest := []) dX6_gain_4 rfl mfX6_116 rfl rfl rfl rfl rfl)))
set_option maxHeartbeats 200000 in
theorem bX6_gain_7 {S : pv_S} {x1 x2 u0 : Int32} {a3 a4 a5 a6 a7 : Option Value} : pv_R mX6_gain 7 [some (.ref 0), some (.int x1), some (.int x2), a3, a4, a5, a6, a7] [.int u0] (pv_em S) = if u0 = 0 then pv_R mX6_gain 20 [some (.ref 0), some (.int x1), some (.int x2), a3, a4, a5, a6, a7] [] (pv_em S) else pv_R mX6_gain 10 [some (.ref 0), some (.int x1), some (.int x2), a3, a4, a5, a6, a7] [] (pv_em S) := pv_Rbr (tgt := 20) dX6_gain_7 rfl rfl rfl rfl rfl (by decide)
set_option maxHeartbeats 200000 in
theorem bX6_gain_10 {S : pv_S} {x1 x2 : Int32} {a3 a4 a5 a6 a7 : Option Value} : pv_R mX6_gain 10 [some (.ref 0), some (.int x1), some (.int x2), a3, a4, a5, a6, a7] [] (pv_em S) = pv_cc (pv_R mX6_isWithin 0 [some (.int x2), some (.int 0), some (.int 20)] [] (pv_em S)) mX6_gain 17 [some (.ref 0), some (.int x1), some (.int x2), a3, a4, a5, a6, a7] [] := Eq.trans (pv_Rstp dX6_gain_10 rfl rfl rfl) (Eq.trans (pv_Ric dX6_gain_11 ki_0) (Eq.trans (pv_Rbp dX6_gain_12 kb_20) (pv_Rcall (As := [.int x2, .int 0, .int 20]) (rest := []) dX6_gain_14 rfl mfX6_116 rfl rfl rfl rfl rfl)))
set_option maxHeartbeats 200000 in
theorem bX6_gain_17 {S : pv_S} {x1 x2 u0 : Int32} {a3 a4 a5 a6 a7 : Option Value} : pv_R mX6_gain 17 [some (.ref 0), some (.int x1), some (.int x2), a3, a4, a5, a6, a7] [.int u0] (pv_em S) = if ¬ u0 = 0 then pv_R mX6_gain 22 [some (.ref 0), some (.int x1), some (.int x2), a3, a4, a5, a6, a7] [] (pv_em S) else pv_R mX6_gain 20 [some (.ref 0), some (.int x1), some (.int x2), a3, a4, a5, a6, a7] [] (pv_em S) := pv_Rbr (tgt := 22) dX6_gain_17 rfl rfl rfl rfl rfl (by decide)
set_option maxHeartbeats 200000 in
theorem bX6_gain_20 {S : pv_S} {x1 x2 : Int32} {a3 a4 a5 a6 a7 : Option Value} : pv_R mX6_gain 20 [some (.ref 0), some (.int x1), some (.int x2), a3, a4, a5, a6, a7] [] (pv_em S) = some (some (.int (-1)), pv_em S) := Eq.trans (pv_Ric dX6_gain_20 ki_m1) (pv_Rret dX6_gain_21 rfl)
set_option maxHeartbeats 200000 in
theorem bX6_gain_22 {S : pv_S} {x1 x2 : Int32} {a3 a4 a5 a6 a7 : Option Value} : pv_R mX6_gain 22 [some (.ref 0), some (.int x1), some (.int x2), a3, a4, a5, a6, a7] [] (pv_em S) = if ¬ (S.1 21 7) = 0 then pv_R mX6_gain 35 [some (.ref 0), some (.int x1), some (.int x2), a3, a4, a5, a6, a7] [] (pv_em S) else pv_R mX6_gain 32 [some (.ref 0), some (.int x1), some (.int x2), a3, a4, a5, a6, a7] [] (pv_em S) := Eq.trans (pv_Rstp dX6_gain_22 rfl rfl rfl) (Eq.trans (pv_Rget dX6_gain_23 ffX6_31 (by decide) (pv_ce_0 _ _) rfl) (Eq.trans (pv_Rget dX6_gain_26 ffX6_110 (by decide) (pv_ce_21 _ _) rfl) (pv_Rbr (tgt := 35) dX6_gain_29 rfl rfl rfl rfl rfl (by decide))))
set_option maxHeartbeats 200000 in
theorem bX6_gain_32 {S : pv_S} {x1 x2 : Int32} {a3 a4 a5 a6 a7 : Option Value} : pv_R mX6_gain 32 [some (.ref 0), some (.int x1), some (.int x2), a3, a4, a5, a6, a7] [] (pv_em S) = some (some (.int (-4)), pv_em S) := Eq.trans (pv_Rbp dX6_gain_32 kb_m4) (pv_Rret dX6_gain_34 rfl)
set_option maxHeartbeats 200000 in
theorem bX6_gain_35 {S : pv_S} {x1 x2 : Int32} {a3 a4 a5 a6 a7 : Option Value} : pv_R mX6_gain 35 [some (.ref 0), some (.int x1), some (.int x2), a3, a4, a5, a6, a7] [] (pv_em S) = pv_cc (pv_R mX6_lookAtPound 0 [some (.ref 0), some (.int x2)] [] (pv_em S)) mX6_gain 40 [some (.ref 0), some (.int x1), some (.int x2), a3, a4, a5, a6, a7] [] := Eq.trans (pv_Rstp dX6_gain_35 rfl rfl rfl) (Eq.trans (pv_Rstp dX6_gain_36 rfl rfl rfl) (pv_Rcall (As := [.ref 0, .int x2]) (rest := []) dX6_gain_37 rfl mfX6_211 rfl rfl rfl rfl rfl))
set_option maxHeartbeats 200000 in
theorem bX6_gain_40 {S : pv_S} {x1 x2 : Int32} {a3 a4 a5 a6 a7 : Option Value} : pv_R mX6_gain 40 [some (.ref 0), some (.int x1), some (.int x2), a3, a4, a5, a6, a7] [] (pv_em S) = pv_R mX6_gain 49 [some (.ref 0), some (.int x1), some (.int x2), some (.int 0), some (.int (-9)), some (.int 0), a6, a7] [] (pv_em S) := Eq.trans (pv_Ric dX6_gain_40 ki_0) (Eq.trans (pv_Rstp dX6_gain_41 rfl rfl rfl) (Eq.trans (pv_Rbp dX6_gain_42 kb_m9) (Eq.trans (pv_Rstp dX6_gain_44 rfl rfl rfl) (Eq.trans (pv_Ric dX6_gain_46 ki_0) (pv_Rstp dX6_gain_47 rfl rfl rfl)))))
set_option maxHeartbeats 200000 in
theorem bX6_gain_49 {S : pv_S} {x1 x2 x3 x4 x5 : Int32} {a6 a7 : Option Value} : pv_R mX6_gain 49 [some (.ref 0), some (.int x1), some (.int x2), some (.int x3), some (.int x4), some (.int x5), a6, a7] [] (pv_em S) = if x2 < x5 then pv_R mX6_gain 115 [some (.ref 0), some (.int x1), some (.int x2), some (.int x3), some (.int x4), some (.int x5), a6, a7] [] (pv_em S) else pv_R mX6_gain 55 [some (.ref 0), some (.int x1), some (.int x2), some (.int x3), some (.int x4), some (.int x5), a6, a7] [] (pv_em S) := Eq.trans (pv_Rstp dX6_gain_49 rfl rfl rfl) (Eq.trans (pv_Rstp dX6_gain_51 rfl rfl rfl) (pv_Rbr (tgt := 115) dX6_gain_52 rfl rfl rfl rfl rfl (by decide)))
set_option maxHeartbeats 200000 in
theorem bX6_gain_55 {S : pv_S} {x1 x2 x3 x4 x5 : Int32} {a6 a7 : Option Value} : pv_R mX6_gain 55 [some (.ref 0), some (.int x1), some (.int x2), some (.int x3), some (.int x4), some (.int x5), a6, a7] [] (pv_em S) = pv_R mX6_gain 59 [some (.ref 0), some (.int x1), some (.int x2), some (.int x3), some (.int x4), some (.int x5), some (.int x5), a7] [] (pv_em S) := Eq.trans (pv_Rstp dX6_gain_55 rfl rfl rfl) (pv_Rstp dX6_gain_57 rfl rfl rfl)
set_option maxHeartbeats 200000 in
theorem bX6_gain_59 {S : pv_S} {x1 x2 x3 x4 x5 x6 : Int32} {a7 : Option Value} : pv_R mX6_gain 59 [some (.ref 0), some (.int x1), some (.int x2), some (.int x3), some (.int x4), some (.int x5), some (.int x6), a7] [] (pv_em S) = if x2 < x6 then pv_R mX6_gain 109 [some (.ref 0), some (.int x1), some (.int x2), some (.int x3), some (.int x4), some (.int x5), some (.int x6), a7] [] (pv_em S) else pv_R mX6_gain 65 [some (.ref 0), some (.int x1), some (.int x2), some (.int x3), some (.int x4), some (.int x5), some (.int x6), a7] [] (pv_em S) := Eq.trans (pv_Rstp dX6_gain_59 rfl rfl rfl) (Eq.trans (pv_Rstp dX6_gain_61 rfl rfl rfl) (pv_Rbr (tgt := 109) dX6_gain_62 rfl rfl rfl rfl rfl (by decide)))
set_option maxHeartbeats 200000 in
theorem bX6_gain_65 {S : pv_S} {x1 x2 x3 x4 x5 x6 : Int32} {a7 : Option Value} : pv_R mX6_gain 65 [some (.ref 0), some (.int x1), some (.int x2), some (.int x3), some (.int x4), some (.int x5), some (.int x6), a7] [] (pv_em S) = pv_cc (pv_R mX1_poundsThen 0 [some (.ref 32), some (.int x1), some (.int x5), some (.int x6), none] [] (pv_em S)) mX6_gain 79 [some (.ref 0), some (.int x1), some (.int x2), some (.int x3), some (.int x4), some (.int x5), some (.int x6), a7] [.int 10] := Eq.trans (pv_Rbp dX6_gain_65 kb_10) (Eq.trans (pv_Rstp dX6_gain_67 rfl rfl rfl) (Eq.trans (pv_Rget dX6_gain_68 ffX6_38 (by decide) (pv_ce_0 _ _) rfl) (Eq.trans (pv_Rstp dX6_gain_71 rfl rfl rfl) (Eq.trans (pv_Rstp dX6_gain_72 rfl rfl rfl) (Eq.trans (pv_Rstp dX6_gain_74 rfl rfl rfl) (pv_Rcall (As := [.ref 32, .int x1, .int x5, .int x6]) (rest := [.int 10]) dX6_gain_76 rfl mfX6_214 rfl rfl rfl rfl rfl))))))
set_option maxHeartbeats 200000 in
theorem bX6_gain_79 {S : pv_S} {x1 x2 x3 x4 x5 x6 u0 u1 : Int32} {a7 : Option Value} : pv_R mX6_gain 79 [some (.ref 0), some (.int x1), some (.int x2), some (.int x3), some (.int x4), some (.int x5), some (.int x6), a7] [.int u0, .int u1] (pv_em S) = if (u1 * (u0 - x1)) ≤ x3 then pv_R mX6_gain 103 [some (.ref 0), some (.int x1), some (.int x2), some (.int x3), some (.int x4), some (.int x5), some (.int x6), some (.int (u1 * (u0 - x1)))] [] (pv_em S) else pv_R mX6_gain 90 [some (.ref 0), some (.int x1), some (.int x2), some (.int x3), some (.int x4), some (.int x5), some (.int x6), some (.int (u1 * (u0 - x1)))] [] (pv_em S) := Eq.trans (pv_Rstp dX6_gain_79 rfl rfl rfl) (Eq.trans (pv_Rstp dX6_gain_80 rfl rfl rfl) (Eq.trans (pv_Rstp dX6_gain_81 rfl rfl rfl) (Eq.trans (pv_Rstp dX6_gain_82 rfl rfl rfl) (Eq.trans (pv_Rstp dX6_gain_84 rfl rfl rfl) (Eq.trans (pv_Rstp dX6_gain_86 rfl rfl rfl) (pv_Rbr (tgt := 103) dX6_gain_87 rfl rfl rfl rfl rfl (by decide)))))))
set_option maxHeartbeats 200000 in
theorem bX6_gain_90 {S : pv_S} {x1 x2 x3 x4 x5 x6 x7 : Int32} : pv_R mX6_gain 90 [some (.ref 0), some (.int x1), some (.int x2), some (.int x3), some (.int x4), some (.int x5), some (.int x6), some (.int x7)] [] (pv_em S) = pv_R mX6_gain 103 [some (.ref 0), some (.int x1), some (.int x2), some (.int x7), some (.int ((100 * x5) + x6)), some (.int x5), some (.int x6), some (.int x7)] [] (pv_em S) := Eq.trans (pv_Rstp dX6_gain_90 rfl rfl rfl) (Eq.trans (pv_Rstp dX6_gain_92 rfl rfl rfl) (Eq.trans (pv_Rbp dX6_gain_93 kb_100) (Eq.trans (pv_Rstp dX6_gain_95 rfl rfl rfl) (Eq.trans (pv_Rstp dX6_gain_97 rfl rfl rfl) (Eq.trans (pv_Rstp dX6_gain_98 rfl rfl rfl) (Eq.trans (pv_Rstp dX6_gain_100 rfl rfl rfl) (pv_Rstp dX6_gain_101 rfl rfl rfl)))))))
set_option maxHeartbeats 200000 in
theorem bX6_gain_103 {S : pv_S} {x1 x2 x3 x4 x5 x6 x7 : Int32} : pv_R mX6_gain 103 [some (.ref 0), some (.int x1), some (.int x2), some (.int x3), some (.int x4), some (.int x5), some (.int x6), some (.int x7)] [] (pv_em S) = pv_R mX6_gain 59 [some (.ref 0), some (.int x1), some (.int x2), some (.int x3), some (.int x4), some (.int x5), some (.int (x6 + 1)), some (.int x7)] [] (pv_em S) := Eq.trans (pv_Rinc dX6_gain_103 rfl (Nat.le_of_ble_eq_true rfl) ki_1 rfl) (pv_Rgo (tgt := 59) dX6_gain_106 rfl (by decide))
set_option maxHeartbeats 200000 in
theorem bX6_gain_109 {S : pv_S} {x1 x2 x3 x4 x5 x6 : Int32} {a7 : Option Value} : pv_R mX6_gain 109 [some (.ref 0), some (.int x1), some (.int x2), some (.int x3), some (.int x4), some (.int x5), some (.int x6), a7] [] (pv_em S) = pv_R mX6_gain 49 [some (.ref 0), some (.int x1), some (.int x2), some (.int x3), some (.int x4), some (.int (x5 + 1)), some (.int x6), a7] [] (pv_em S) := Eq.trans (pv_Rinc dX6_gain_109 rfl (Nat.le_of_ble_eq_true rfl) ki_1 rfl) (pv_Rgo (tgt := 49) dX6_gain_112 rfl (by decide))
set_option maxHeartbeats 200000 in
theorem bX6_gain_115 {S : pv_S} {x1 x2 x3 x4 x5 : Int32} {a6 a7 : Option Value} : pv_R mX6_gain 115 [some (.ref 0), some (.int x1), some (.int x2), some (.int x3), some (.int x4), some (.int x5), a6, a7] [] (pv_em S) = some (some (.int x3), pv_em (pv_si S 35 1 x4)) := Eq.trans (pv_Rstp dX6_gain_115 rfl rfl rfl) (Eq.trans (pv_Rget dX6_gain_116 ffX6_45 (by decide) (pv_ce_0 _ _) rfl) (Eq.trans (pv_Rstp dX6_gain_119 rfl rfl rfl) (Eq.trans (pv_Rput dX6_gain_121 ffX6_61 rfl rfl rfl (by decide) (pv_ce_35 _ _) (Nat.le_of_ble_eq_true rfl) (pv_em_si rfl)) (Eq.trans (pv_Rstp dX6_gain_124 rfl rfl rfl) (pv_Rret dX6_gain_125 rfl)))))
theorem dX6_ring_0 : decode cX6_ring 0 = .ok (.iload_n 1, 1) := by decide +kernel
theorem dX6_ring_1 : decode cX6_ring 1 = .ok (.iconst 0, 1) := by decide +kernel
theorem dX6_ring_2 : decode cX6_ring 2 = .ok (.bipush 60, 2) := by decide +kernel
theorem dX6_ring_4 : decode cX6_ring 4 = .ok (.invokestatic 116, 3) := by decide +kernel
theorem dX6_ring_7 : decode cX6_ring 7 = .ok (.ifCond .ne 5, 3) := by decide +kernel
theorem dX6_ring_10 : decode cX6_ring 10 = .ok (.iconst (-1), 1) := by decide +kernel
theorem dX6_ring_11 : decode cX6_ring 11 = .ok (.ireturn, 1) := by decide +kernel
theorem dX6_ring_12 : decode cX6_ring 12 = .ok (.aload_n 0, 1) := by decide +kernel
theorem dX6_ring_13 : decode cX6_ring 13 = .ok (.getfield 31, 3) := by decide +kernel
theorem dX6_ring_16 : decode cX6_ring 16 = .ok (.getfield 110, 3) := by decide +kernel
theorem dX6_ring_19 : decode cX6_ring 19 = .ok (.ifCond .ne 6, 3) := by decide +kernel
theorem dX6_ring_22 : decode cX6_ring 22 = .ok (.bipush (-4), 2) := by decide +kernel
theorem dX6_ring_24 : decode cX6_ring 24 = .ok (.ireturn, 1) := by decide +kernel
theorem dX6_ring_25 : decode cX6_ring 25 = .ok (.aload_n 0, 1) := by decide +kernel
theorem dX6_ring_26 : decode cX6_ring 26 = .ok (.iload_n 1, 1) := by decide +kernel
theorem dX6_ring_27 : decode cX6_ring 27 = .ok (.invokevirtual 211, 3) := by decide +kernel
theorem dX6_ring_30 : decode cX6_ring 30 = .ok (.iconst (-1), 1) := by decide +kernel
theorem dX6_ring_31 : decode cX6_ring 31 = .ok (.istore_n 2, 1) := by decide +kernel
theorem dX6_ring_32 : decode cX6_ring 32 = .ok (.iconst 0, 1) := by decide +kernel
theorem dX6_ring_33 : decode cX6_ring 33 = .ok (.istore_n 3, 1) := by decide +kernel
theorem dX6_ring_34 : decode cX6_ring 34 = .ok (.iconst 0, 1) := by decide +kernel
theorem dX6_ring_35 : decode cX6_ring 35 = .ok (.istore 4, 2) := by decide +kernel
theorem dX6_ring_37 : decode cX6_ring 37 = .ok (.iload 4, 2) := by decide +kernel
theorem dX6_ring_39 : decode cX6_ring 39 = .ok (.iload_n 1, 1) := by decide +kernel
theorem dX6_ring_40 : decode cX6_ring 40 = .ok (.if_icmp .gt 43, 3) := by decide +kernel
theorem dX6_ring_43 : decode cX6_ring 43 = .ok (.aload_n 0, 1) := by decide +kernel
theorem dX6_ring_44 : decode cX6_ring 44 = .ok (.getfield 38, 3) := by decide +kernel
theorem dX6_ring_47 : decode cX6_ring 47 = .ok (.iload 4, 2) := by decide +kernel
theorem dX6_ring_49 : decode cX6_ring 49 = .ok (.invokevirtual 195, 3) := by decide +kernel
theorem dX6_ring_52 : decode cX6_ring 52 = .ok (.aload_n 0, 1) := by decide +kernel
theorem dX6_ring_53 : decode cX6_ring 53 = .ok (.getfield 31, 3) := by decide +kernel
theorem dX6_ring_56 : decode cX6_ring 56 = .ok (.getfield 218, 3) := by decide +kernel
theorem dX6_ring_59 : decode cX6_ring 59 = .ok (.isub, 1) := by decide +kernel
theorem dX6_ring_60 : decode cX6_ring 60 = .ok (.invokestatic 221, 3) := by decide +kernel
theorem dX6_ring_63 : decode cX6_ring 63 = .ok (.istore 5, 2) := by decide +kernel
theorem dX6_ring_65 : decode cX6_ring 65 = .ok (.iload 5, 2) := by decide +kernel
theorem dX6_ring_67 : decode cX6_ring 67 = .ok (.iload_n 2, 1) := by decide +kernel
theorem dX6_ring_68 : decode cX6_ring 68 = .ok (.if_icmp .le 9, 3) := by decide +kernel
theorem dX6_ring_71 : decode cX6_ring 71 = .ok (.iload 5, 2) := by decide +kernel
theorem dX6_ring_73 : decode cX6_ring 73 = .ok (.istore_n 2, 1) := by decide +kernel
theorem dX6_ring_74 : decode cX6_ring 74 = .ok (.iload 4, 2) := by decide +kernel
theorem dX6_ring_76 : decode cX6_ring 76 = .ok (.istore_n 3, 1) := by decide +kernel
theorem dX6_ring_77 : decode cX6_ring 77 = .ok (.iinc 4 1, 3) := by decide +kernel
theorem dX6_ring_80 : decode cX6_ring 80 = .ok (.goto (-43), 3) := by decide +kernel
theorem dX6_ring_83 : decode cX6_ring 83 = .ok (.aload_n 0, 1) := by decide +kernel
theorem dX6_ring_84 : decode cX6_ring 84 = .ok (.getfield 45, 3) := by decide +kernel
theorem dX6_ring_87 : decode cX6_ring 87 = .ok (.iload_n 3, 1) := by decide +kernel
theorem dX6_ring_88 : decode cX6_ring 88 = .ok (.putfield 61, 3) := by decide +kernel
theorem dX6_ring_91 : decode cX6_ring 91 = .ok (.iload_n 2, 1) := by decide +kernel
theorem dX6_ring_92 : decode cX6_ring 92 = .ok (.ireturn, 1) := by decide +kernel
set_option maxHeartbeats 200000 in
theorem bX6_ring_0 {S : pv_S} {x1 : Int32} {a2 a3 a4 a5 : Option Value} : pv_R mX6_ring 0 [some (.ref 0), some (.int x1), a2, a3, a4, a5] [] (pv_em S) = pv_cc (pv_R mX6_isWithin 0 [some (.int x1), some (.int 0), some (.int 60)] [] (pv_em S)) mX6_ring 7 [some (.ref 0), some (.int x1), a2, a3, a4, a5] [] := Eq.trans (pv_Rstp dX6_ring_0 rfl rfl rfl) (Eq.trans (pv_Ric dX6_ring_1 ki_0) (Eq.trans (pv_Rbp dX6_ring_2 kb_60) (pv_Rcall (As := [.int x1, .int 0, .int 60]) (rest := []) dX6_ring_4 rfl mfX6_116 rfl rfl rfl rfl rfl)))
set_option maxHeartbeats 200000 in
theorem bX6_ring_7 {S : pv_S} {x1 u0 : Int32} {a2 a3 a4 a5 : Option Value} : pv_R mX6_ring 7 [some (.ref 0), some (.int x1), a2, a3, a4, a5] [.int u0] (pv_em S) = if ¬ u0 = 0 then pv_R mX6_ring 12 [some (.ref 0), some (.int x1), a2, a3, a4, a5] [] (pv_em S) else pv_R mX6_ring 10 [some (.ref 0), some (.int x1), a2, a3, a4, a5] [] (pv_em S) := pv_Rbr (tgt := 12) dX6_ring_7 rfl rfl rfl rfl rfl (by decide)
set_option maxHeartbeats 200000 in
theorem bX6_ring_10 {S : pv_S} {x1 : Int32} {a2 a3 a4 a5 : Option Value} : pv_R mX6_ring 10 [some (.ref 0), some (.int x1), a2, a3, a4, a5] [] (pv_em S) = some (some (.int (-1)), pv_em S) := Eq.trans (pv_Ric dX6_ring_10 ki_m1) (pv_Rret dX6_ring_11 rfl)
set_option maxHeartbeats 200000 in
theorem bX6_ring_12 {S : pv_S} {x1 : Int32} {a2 a3 a4 a5 : Option Value} : pv_R mX6_ring 12 [some (.ref 0), some (.int x1), a2, a3, a4, a5] [] (pv_em S) = if ¬ (S.1 21 7) = 0 then pv_R mX6_ring 25 [some (.ref 0), some (.int x1), a2, a3, a4, a5] [] (pv_em S) else pv_R mX6_ring 22 [some (.ref 0), some (.int x1), a2, a3, a4, a5] [] (pv_em S) := Eq.trans (pv_Rstp dX6_ring_12 rfl rfl rfl) (Eq.trans (pv_Rget dX6_ring_13 ffX6_31 (by decide) (pv_ce_0 _ _) rfl) (Eq.trans (pv_Rget dX6_ring_16 ffX6_110 (by decide) (pv_ce_21 _ _) rfl) (pv_Rbr (tgt := 25) dX6_ring_19 rfl rfl rfl rfl rfl (by decide))))
set_option maxHeartbeats 200000 in
theorem bX6_ring_22 {S : pv_S} {x1 : Int32} {a2 a3 a4 a5 : Option Value} : pv_R mX6_ring 22 [some (.ref 0), some (.int x1), a2, a3, a4, a5] [] (pv_em S) = some (some (.int (-4)), pv_em S) := Eq.trans (pv_Rbp dX6_ring_22 kb_m4) (pv_Rret dX6_ring_24 rfl)
set_option maxHeartbeats 200000 in
theorem bX6_ring_25 {S : pv_S} {x1 : Int32} {a2 a3 a4 a5 : Option Value} : pv_R mX6_ring 25 [some (.ref 0), some (.int x1), a2, a3, a4, a5] [] (pv_em S) = pv_cc (pv_R mX6_lookAtPound 0 [some (.ref 0), some (.int x1)] [] (pv_em S)) mX6_ring 30 [some (.ref 0), some (.int x1), a2, a3, a4, a5] [] := Eq.trans (pv_Rstp dX6_ring_25 rfl rfl rfl) (Eq.trans (pv_Rstp dX6_ring_26 rfl rfl rfl) (pv_Rcall (As := [.ref 0, .int x1]) (rest := []) dX6_ring_27 rfl mfX6_211 rfl rfl rfl rfl rfl))
set_option maxHeartbeats 200000 in
theorem bX6_ring_30 {S : pv_S} {x1 : Int32} {a2 a3 a4 a5 : Option Value} : pv_R mX6_ring 30 [some (.ref 0), some (.int x1), a2, a3, a4, a5] [] (pv_em S) = pv_R mX6_ring 37 [some (.ref 0), some (.int x1), some (.int (-1)), some (.int 0), some (.int 0), a5] [] (pv_em S) := Eq.trans (pv_Ric dX6_ring_30 ki_m1) (Eq.trans (pv_Rstp dX6_ring_31 rfl rfl rfl) (Eq.trans (pv_Ric dX6_ring_32 ki_0) (Eq.trans (pv_Rstp dX6_ring_33 rfl rfl rfl) (Eq.trans (pv_Ric dX6_ring_34 ki_0) (pv_Rstp dX6_ring_35 rfl rfl rfl)))))
set_option maxHeartbeats 200000 in
theorem bX6_ring_37 {S : pv_S} {x1 x2 x3 x4 : Int32} {a5 : Option Value} : pv_R mX6_ring 37 [some (.ref 0), some (.int x1), some (.int x2), some (.int x3), some (.int x4), a5] [] (pv_em S) = if x1 < x4 then pv_R mX6_ring 83 [some (.ref 0), some (.int x1), some (.int x2), some (.int x3), some (.int x4), a5] [] (pv_em S) else pv_R mX6_ring 43 [some (.ref 0), some (.int x1), some (.int x2), some (.int x3), some (.int x4), a5] [] (pv_em S) := Eq.trans (pv_Rstp dX6_ring_37 rfl rfl rfl) (Eq.trans (pv_Rstp dX6_ring_39 rfl rfl rfl) (pv_Rbr (tgt := 83) dX6_ring_40 rfl rfl rfl rfl rfl (by decide)))
set_option maxHeartbeats 200000 in
theorem bX6_ring_43 {S : pv_S} {x1 x2 x3 x4 : Int32} {a5 : Option Value} : pv_R mX6_ring 43 [some (.ref 0), some (.int x1), some (.int x2), some (.int x3), some (.int x4), a5] [] (pv_em S) = pv_cc (pv_R mX1_weightIn 0 [some (.ref 32), some (.int x4)] [] (pv_em S)) mX6_ring 52 [some (.ref 0), some (.int x1), some (.int x2), some (.int x3), some (.int x4), a5] [] := Eq.trans (pv_Rstp dX6_ring_43 rfl rfl rfl) (Eq.trans (pv_Rget dX6_ring_44 ffX6_38 (by decide) (pv_ce_0 _ _) rfl) (Eq.trans (pv_Rstp dX6_ring_47 rfl rfl rfl) (pv_Rcall (As := [.ref 32, .int x4]) (rest := []) dX6_ring_49 rfl mfX6_195 rfl rfl rfl rfl rfl)))
set_option maxHeartbeats 200000 in
theorem bX6_ring_52 {S : pv_S} {x1 x2 x3 x4 u0 : Int32} {a5 : Option Value} : pv_R mX6_ring 52 [some (.ref 0), some (.int x1), some (.int x2), some (.int x3), some (.int x4), a5] [.int u0] (pv_em S) = if (if 0 ≤ (u0 - (S.1 21 8)) then (u0 - (S.1 21 8)) else 0 - (u0 - (S.1 21 8))) ≤ x2 then pv_R mX6_ring 77 [some (.ref 0), some (.int x1), some (.int x2), some (.int x3), some (.int x4), some (.int (if 0 ≤ (u0 - (S.1 21 8)) then (u0 - (S.1 21 8)) else 0 - (u0 - (S.1 21 8))))] [] (pv_em S) else pv_R mX6_ring 71 [some (.ref 0), some (.int x1), some (.int x2), some (.int x3), some (.int x4), some (.int (if 0 ≤ (u0 - (S.1 21 8)) then (u0 - (S.1 21 8)) else 0 - (u0 - (S.1 21 8))))] [] (pv_em S) := Eq.trans (pv_Rstp dX6_ring_52 rfl rfl rfl) (Eq.trans (pv_Rget dX6_ring_53 ffX6_31 (by decide) (pv_ce_0 _ _) rfl) (Eq.trans (pv_Rget dX6_ring_56 ffX6_218 (by decide) (pv_ce_21 _ _) rfl) (Eq.trans (pv_Rstp dX6_ring_59 rfl rfl rfl) (Eq.trans (pv_Rmx dX6_ring_60 mfX6_221 rfl rfl) (Eq.trans (pv_Rstp dX6_ring_63 rfl rfl rfl) (Eq.trans (pv_Rstp dX6_ring_65 rfl rfl rfl) (Eq.trans (pv_Rstp dX6_ring_67 rfl rfl rfl) (pv_Rbr (tgt := 77) dX6_ring_68 rfl rfl rfl rfl rfl (by decide)))))))))
set_option maxHeartbeats 200000 in
theorem bX6_ring_71 {S : pv_S} {x1 x2 x3 x4 x5 : Int32} : pv_R mX6_ring 71 [some (.ref 0), some (.int x1), some (.int x2), some (.int x3), some (.int x4), some (.int x5)] [] (pv_em S) = pv_R mX6_ring 77 [some (.ref 0), some (.int x1), some (.int x5), some (.int x4), some (.int x4), some (.int x5)] [] (pv_em S) := Eq.trans (pv_Rstp dX6_ring_71 rfl rfl rfl) (Eq.trans (pv_Rstp dX6_ring_73 rfl rfl rfl) (Eq.trans (pv_Rstp dX6_ring_74 rfl rfl rfl) (pv_Rstp dX6_ring_76 rfl rfl rfl)))
set_option maxHeartbeats 200000 in
theorem bX6_ring_77 {S : pv_S} {x1 x2 x3 x4 x5 : Int32} : pv_R mX6_ring 77 [some (.ref 0), some (.int x1), some (.int x2), some (.int x3), some (.int x4), some (.int x5)] [] (pv_em S) = pv_R mX6_ring 37 [some (.ref 0), some (.int x1), some (.int x2), some (.int x3), some (.int (x4 + 1)), some (.int x5)] [] (pv_em S) := Eq.trans (pv_Rinc dX6_ring_77 rfl (Nat.le_of_ble_eq_true rfl) ki_1 rfl) (pv_Rgo (tgt := 37) dX6_ring_80 rfl (by decide))
set_option maxHeartbeats 200000 in
theorem bX6_ring_83 {S : pv_S} {x1 x2 x3 x4 : Int32} {a5 : Option Value} : pv_R mX6_ring 83 [some (.ref 0), some (.int x1), some (.int x2), some (.int x3), some (.int x4), a5] [] (pv_em S) = some (some (.int x2), pv_em (pv_si S 35 1 x3)) := Eq.trans (pv_Rstp dX6_ring_83 rfl rfl rfl) (Eq.trans (pv_Rget dX6_ring_84 ffX6_45 (by decide) (pv_ce_0 _ _) rfl) (Eq.trans (pv_Rstp dX6_ring_87 rfl rfl rfl) (Eq.trans (pv_Rput dX6_ring_88 ffX6_61 rfl rfl rfl (by decide) (pv_ce_35 _ _) (Nat.le_of_ble_eq_true rfl) (pv_em_si rfl)) (Eq.trans (pv_Rstp dX6_ring_91 rfl rfl rfl) (pv_Rret dX6_ring_92 rfl)))))
theorem dX6_plan_0 : decode cX6_plan 0 = .ok (.iload_n 1, 1) := by decide +kernel
theorem dX6_plan_1 : decode cX6_plan 1 = .ok (.iconst 0, 1) := by decide +kernel
theorem dX6_plan_2 : decode cX6_plan 2 = .ok (.iconst 3, 1) := by decide +kernel
theorem dX6_plan_3 : decode cX6_plan 3 = .ok (.invokestatic 116, 3) := by decide +kernel
theorem dX6_plan_6 : decode cX6_plan 6 = .ok (.ifCond .eq 14, 3) := by decide +kernel
theorem dX6_plan_9 : decode cX6_plan 9 = .ok (.aload_n 0, 1) := by decide +kernel
theorem dX6_plan_10 : decode cX6_plan 10 = .ok (.getfield 14, 3) := by decide +kernel
theorem dX6_plan_13 : decode cX6_plan 13 = .ok (.iload_n 2, 1) := by decide +kernel
theorem dX6_plan_14 : decode cX6_plan 14 = .ok (.invokevirtual 77, 3) := by decide +kernel
theorem dX6_plan_17 : decode cX6_plan 17 = .ok (.ifCond .ne 5, 3) := by decide +kernel
theorem dX6_plan_20 : decode cX6_plan 20 = .ok (.iconst (-1), 1) := by decide +kernel
theorem dX6_plan_21 : decode cX6_plan 21 = .ok (.ireturn, 1) := by decide +kernel
theorem dX6_plan_22 : decode cX6_plan 22 = .ok (.aload_n 0, 1) := by decide +kernel
theorem dX6_plan_23 : decode cX6_plan 23 = .ok (.getfield 31, 3) := by decide +kernel
theorem dX6_plan_26 : decode cX6_plan 26 = .ok (.getfield 110, 3) := by decide +kernel
theorem dX6_plan_29 : decode cX6_plan 29 = .ok (.ifCond .ne 6, 3) := by decide +kernel
theorem dX6_plan_32 : decode cX6_plan 32 = .ok (.bipush (-4), 2) := by decide +kernel
theorem dX6_plan_34 : decode cX6_plan 34 = .ok (.ireturn, 1) := by decide +kernel
theorem dX6_plan_35 : decode cX6_plan 35 = .ok (.iconst 0, 1) := by decide +kernel
theorem dX6_plan_36 : decode cX6_plan 36 = .ok (.istore_n 3, 1) := by decide +kernel
theorem dX6_plan_37 : decode cX6_plan 37 = .ok (.aload_n 0, 1) := by decide +kernel
theorem dX6_plan_38 : decode cX6_plan 38 = .ok (.iconst 0, 1) := by decide +kernel
theorem dX6_plan_39 : decode cX6_plan 39 = .ok (.iload_n 1, 1) := by decide +kernel
theorem dX6_plan_40 : decode cX6_plan 40 = .ok (.invokevirtual 226, 3) := by decide +kernel
theorem dX6_plan_43 : decode cX6_plan 43 = .ok (.istore 4, 2) := by decide +kernel
theorem dX6_plan_45 : decode cX6_plan 45 = .ok (.iconst 1, 1) := by decide +kernel
theorem dX6_plan_46 : decode cX6_plan 46 = .ok (.istore 5, 2) := by decide +kernel
theorem dX6_plan_48 : decode cX6_plan 48 = .ok (.iload 5, 2) := by decide +kernel
theorem dX6_plan_50 : decode cX6_plan 50 = .ok (.iconst 1, 1) := by decide +kernel
theorem dX6_plan_51 : decode cX6_plan 51 = .ok (.iload_n 1, 1) := by decide +kernel
theorem dX6_plan_52 : decode cX6_plan 52 = .ok (.ishl, 1) := by decide +kernel
theorem dX6_plan_53 : decode cX6_plan 53 = .ok (.if_icmp .ge 32, 3) := by decide +kernel
theorem dX6_plan_56 : decode cX6_plan 56 = .ok (.aload_n 0, 1) := by decide +kernel
theorem dX6_plan_57 : decode cX6_plan 57 = .ok (.iload 5, 2) := by decide +kernel
theorem dX6_plan_59 : decode cX6_plan 59 = .ok (.iload_n 1, 1) := by decide +kernel
theorem dX6_plan_60 : decode cX6_plan 60 = .ok (.invokevirtual 226, 3) := by decide +kernel
theorem dX6_plan_63 : decode cX6_plan 63 = .ok (.istore 6, 2) := by decide +kernel
theorem dX6_plan_65 : decode cX6_plan 65 = .ok (.iload 6, 2) := by decide +kernel
theorem dX6_plan_67 : decode cX6_plan 67 = .ok (.iload 4, 2) := by decide +kernel
theorem dX6_plan_69 : decode cX6_plan 69 = .ok (.if_icmp .le 10, 3) := by decide +kernel
theorem dX6_plan_72 : decode cX6_plan 72 = .ok (.iload 6, 2) := by decide +kernel
theorem dX6_plan_74 : decode cX6_plan 74 = .ok (.istore 4, 2) := by decide +kernel
theorem dX6_plan_76 : decode cX6_plan 76 = .ok (.iload 5, 2) := by decide +kernel
theorem dX6_plan_78 : decode cX6_plan 78 = .ok (.istore_n 3, 1) := by decide +kernel
theorem dX6_plan_79 : decode cX6_plan 79 = .ok (.iinc 5 1, 3) := by decide +kernel
theorem dX6_plan_82 : decode cX6_plan 82 = .ok (.goto (-34), 3) := by decide +kernel
theorem dX6_plan_85 : decode cX6_plan 85 = .ok (.aload_n 0, 1) := by decide +kernel
theorem dX6_plan_86 : decode cX6_plan 86 = .ok (.getfield 14, 3) := by decide +kernel
theorem dX6_plan_89 : decode cX6_plan 89 = .ok (.iload_n 2, 1) := by decide +kernel
theorem dX6_plan_90 : decode cX6_plan 90 = .ok (.iload_n 1, 1) := by decide +kernel
theorem dX6_plan_91 : decode cX6_plan 91 = .ok (.bipush (-9), 2) := by decide +kernel
theorem dX6_plan_93 : decode cX6_plan 93 = .ok (.invokevirtual 229, 3) := by decide +kernel
theorem dX6_plan_96 : decode cX6_plan 96 = .ok (.iconst 0, 1) := by decide +kernel
theorem dX6_plan_97 : decode cX6_plan 97 = .ok (.istore 5, 2) := by decide +kernel
theorem dX6_plan_99 : decode cX6_plan 99 = .ok (.iload 5, 2) := by decide +kernel
theorem dX6_plan_101 : decode cX6_plan 101 = .ok (.iload_n 1, 1) := by decide +kernel
theorem dX6_plan_102 : decode cX6_plan 102 = .ok (.if_icmp .ge 36, 3) := by decide +kernel
theorem dX6_plan_105 : decode cX6_plan 105 = .ok (.iload_n 3, 1) := by decide +kernel
theorem dX6_plan_106 : decode cX6_plan 106 = .ok (.iload_n 1, 1) := by decide +kernel
theorem dX6_plan_107 : decode cX6_plan 107 = .ok (.iload 5, 2) := by decide +kernel
theorem dX6_plan_109 : decode cX6_plan 109 = .ok (.invokestatic 232, 3) := by decide +kernel
theorem dX6_plan_112 : decode cX6_plan 112 = .ok (.ifCond .eq 20, 3) := by decide +kernel
theorem dX6_plan_115 : decode cX6_plan 115 = .ok (.aload_n 0, 1) := by decide +kernel
theorem dX6_plan_116 : decode cX6_plan 116 = .ok (.getfield 14, 3) := by decide +kernel
theorem dX6_plan_119 : decode cX6_plan 119 = .ok (.iload_n 2, 1) := by decide +kernel
theorem dX6_plan_120 : decode cX6_plan 120 = .ok (.iload 5, 2) := by decide +kernel
theorem dX6_plan_122 : decode cX6_plan 122 = .ok (.aload_n 0, 1) := by decide +kernel
theorem dX6_plan_123 : decode cX6_plan 123 = .ok (.getfield 31, 3) := by decide +kernel
theorem dX6_plan_126 : decode cX6_plan 126 = .ok (.getfield 171, 3) := by decide +kernel
theorem dX6_plan_129 : decode cX6_plan 129 = .ok (.invokevirtual 65, 3) := by decide +kernel
theorem dX6_plan_132 : decode cX6_plan 132 = .ok (.iinc 5 1, 3) := by decide +kernel
theorem dX6_plan_135 : decode cX6_plan 135 = .ok (.goto (-36), 3) := by decide +kernel
theorem dX6_plan_138 : decode cX6_plan 138 = .ok (.iload 4, 2) := by decide +kernel
theorem dX6_plan_140 : decode cX6_plan 140 = .ok (.ireturn, 1) := by decide +kernel
set_option maxHeartbeats 200000 in
theorem bX6_plan_0 {S : pv_S} {x1 x2 : Int32} {a3 a4 a5 a6 : Option Value} : pv_R mX6_plan 0 [some (.ref 0), some (.int x1), some (.int x2), a3, a4, a5, a6] [] (pv_em S) = pv_cc (pv_R mX6_isWithin 0 [some (.int x1), some (.int 0), some (.int 3)] [] (pv_em S)) mX6_plan 6 [some (.ref 0), some (.int x1), some (.int x2), a3, a4, a5, a6] [] := Eq.trans (pv_Rstp dX6_plan_0 rfl rfl rfl) (Eq.trans (pv_Ric dX6_plan_1 ki_0) (Eq.trans (pv_Ric dX6_plan_2 ki_3) (pv_Rcall (As := [.int x1, .int 0, .int 3]) (rest := []) dX6_plan_3 rfl mfX6_116 rfl rfl rfl rfl rfl)))
set_option maxHeartbeats 200000 in
theorem bX6_plan_6 {S : pv_S} {x1 x2 u0 : Int32} {a3 a4 a5 a6 : Option Value} : pv_R mX6_plan 6 [some (.ref 0), some (.int x1), some (.int x2), a3, a4, a5, a6] [.int u0] (pv_em S) = if u0 = 0 then pv_R mX6_plan 20 [some (.ref 0), some (.int x1), some (.int x2), a3, a4, a5, a6] [] (pv_em S) else pv_R mX6_plan 9 [some (.ref 0), some (.int x1), some (.int x2), a3, a4, a5, a6] [] (pv_em S) := pv_Rbr (tgt := 20) dX6_plan_6 rfl rfl rfl rfl rfl (by decide)
set_option maxHeartbeats 200000 in
theorem bX6_plan_9 {S : pv_S} {x1 x2 : Int32} {a3 a4 a5 a6 : Option Value} : pv_R mX6_plan 9 [some (.ref 0), some (.int x1), some (.int x2), a3, a4, a5, a6] [] (pv_em S) = pv_cc (pv_R mX3_hasNumber 0 [some (.ref 1), some (.int x2)] [] (pv_em S)) mX6_plan 17 [some (.ref 0), some (.int x1), some (.int x2), a3, a4, a5, a6] [] := Eq.trans (pv_Rstp dX6_plan_9 rfl rfl rfl) (Eq.trans (pv_Rget dX6_plan_10 ffX6_14 (by decide) (pv_ce_0 _ _) rfl) (Eq.trans (pv_Rstp dX6_plan_13 rfl rfl rfl) (pv_Rcall (As := [.ref 1, .int x2]) (rest := []) dX6_plan_14 rfl mfX6_77 rfl rfl rfl rfl rfl)))
set_option maxHeartbeats 200000 in
theorem bX6_plan_17 {S : pv_S} {x1 x2 u0 : Int32} {a3 a4 a5 a6 : Option Value} : pv_R mX6_plan 17 [some (.ref 0), some (.int x1), some (.int x2), a3, a4, a5, a6] [.int u0] (pv_em S) = if ¬ u0 = 0 then pv_R mX6_plan 22 [some (.ref 0), some (.int x1), some (.int x2), a3, a4, a5, a6] [] (pv_em S) else pv_R mX6_plan 20 [some (.ref 0), some (.int x1), some (.int x2), a3, a4, a5, a6] [] (pv_em S) := pv_Rbr (tgt := 22) dX6_plan_17 rfl rfl rfl rfl rfl (by decide)
set_option maxHeartbeats 200000 in
theorem bX6_plan_20 {S : pv_S} {x1 x2 : Int32} {a3 a4 a5 a6 : Option Value} : pv_R mX6_plan 20 [some (.ref 0), some (.int x1), some (.int x2), a3, a4, a5, a6] [] (pv_em S) = some (some (.int (-1)), pv_em S) := Eq.trans (pv_Ric dX6_plan_20 ki_m1) (pv_Rret dX6_plan_21 rfl)
set_option maxHeartbeats 200000 in
theorem bX6_plan_22 {S : pv_S} {x1 x2 : Int32} {a3 a4 a5 a6 : Option Value} : pv_R mX6_plan 22 [some (.ref 0), some (.int x1), some (.int x2), a3, a4, a5, a6] [] (pv_em S) = if ¬ (S.1 21 7) = 0 then pv_R mX6_plan 35 [some (.ref 0), some (.int x1), some (.int x2), a3, a4, a5, a6] [] (pv_em S) else pv_R mX6_plan 32 [some (.ref 0), some (.int x1), some (.int x2), a3, a4, a5, a6] [] (pv_em S) := Eq.trans (pv_Rstp dX6_plan_22 rfl rfl rfl) (Eq.trans (pv_Rget dX6_plan_23 ffX6_31 (by decide) (pv_ce_0 _ _) rfl) (Eq.trans (pv_Rget dX6_plan_26 ffX6_110 (by decide) (pv_ce_21 _ _) rfl) (pv_Rbr (tgt := 35) dX6_plan_29 rfl rfl rfl rfl rfl (by decide))))
set_option maxHeartbeats 200000 in
theorem bX6_plan_32 {S : pv_S} {x1 x2 : Int32} {a3 a4 a5 a6 : Option Value} : pv_R mX6_plan 32 [some (.ref 0), some (.int x1), some (.int x2), a3, a4, a5, a6] [] (pv_em S) = some (some (.int (-4)), pv_em S) := Eq.trans (pv_Rbp dX6_plan_32 kb_m4) (pv_Rret dX6_plan_34 rfl)
set_option maxHeartbeats 200000 in
theorem bX6_plan_35 {S : pv_S} {x1 x2 : Int32} {a3 a4 a5 a6 : Option Value} : pv_R mX6_plan 35 [some (.ref 0), some (.int x1), some (.int x2), a3, a4, a5, a6] [] (pv_em S) = pv_cc (pv_R mX6_planWorth 0 [some (.ref 0), some (.int 0), some (.int x1), none, none, none] [] (pv_em S)) mX6_plan 43 [some (.ref 0), some (.int x1), some (.int x2), some (.int 0), a4, a5, a6] [] := Eq.trans (pv_Ric dX6_plan_35 ki_0) (Eq.trans (pv_Rstp dX6_plan_36 rfl rfl rfl) (Eq.trans (pv_Rstp dX6_plan_37 rfl rfl rfl) (Eq.trans (pv_Ric dX6_plan_38 ki_0) (Eq.trans (pv_Rstp dX6_plan_39 rfl rfl rfl) (pv_Rcall (As := [.ref 0, .int 0, .int x1]) (rest := []) dX6_plan_40 rfl mfX6_226 rfl rfl rfl rfl rfl)))))
set_option maxHeartbeats 200000 in
theorem bX6_plan_43 {S : pv_S} {x1 x2 x3 u0 : Int32} {a4 a5 a6 : Option Value} : pv_R mX6_plan 43 [some (.ref 0), some (.int x1), some (.int x2), some (.int x3), a4, a5, a6] [.int u0] (pv_em S) = pv_R mX6_plan 48 [some (.ref 0), some (.int x1), some (.int x2), some (.int x3), some (.int u0), some (.int 1), a6] [] (pv_em S) := Eq.trans (pv_Rstp dX6_plan_43 rfl rfl rfl) (Eq.trans (pv_Ric dX6_plan_45 ki_1) (pv_Rstp dX6_plan_46 rfl rfl rfl))
set_option maxHeartbeats 200000 in
theorem bX6_plan_48 {S : pv_S} {x1 x2 x3 x4 x5 : Int32} {a6 : Option Value} : pv_R mX6_plan 48 [some (.ref 0), some (.int x1), some (.int x2), some (.int x3), some (.int x4), some (.int x5), a6] [] (pv_em S) = if (1 <<< (x1 &&& 31)) ≤ x5 then pv_R mX6_plan 85 [some (.ref 0), some (.int x1), some (.int x2), some (.int x3), some (.int x4), some (.int x5), a6] [] (pv_em S) else pv_R mX6_plan 56 [some (.ref 0), some (.int x1), some (.int x2), some (.int x3), some (.int x4), some (.int x5), a6] [] (pv_em S) := Eq.trans (pv_Rstp dX6_plan_48 rfl rfl rfl) (Eq.trans (pv_Ric dX6_plan_50 ki_1) (Eq.trans (pv_Rstp dX6_plan_51 rfl rfl rfl) (Eq.trans (pv_Rstp dX6_plan_52 rfl rfl rfl) (pv_Rbr (tgt := 85) dX6_plan_53 rfl rfl rfl rfl rfl (by decide)))))
set_option maxHeartbeats 200000 in
theorem bX6_plan_56 {S : pv_S} {x1 x2 x3 x4 x5 : Int32} {a6 : Option Value} : pv_R mX6_plan 56 [some (.ref 0), some (.int x1), some (.int x2), some (.int x3), some (.int x4), some (.int x5), a6] [] (pv_em S) = pv_cc (pv_R mX6_planWorth 0 [some (.ref 0), some (.int x5), some (.int x1), none, none, none] [] (pv_em S)) mX6_plan 63 [some (.ref 0), some (.int x1), some (.int x2), some (.int x3), some (.int x4), some (.int x5), a6] [] := Eq.trans (pv_Rstp dX6_plan_56 rfl rfl rfl) (Eq.trans (pv_Rstp dX6_plan_57 rfl rfl rfl) (Eq.trans (pv_Rstp dX6_plan_59 rfl rfl rfl) (pv_Rcall (As := [.ref 0, .int x5, .int x1]) (rest := []) dX6_plan_60 rfl mfX6_226 rfl rfl rfl rfl rfl)))
set_option maxHeartbeats 200000 in
theorem bX6_plan_63 {S : pv_S} {x1 x2 x3 x4 x5 u0 : Int32} {a6 : Option Value} : pv_R mX6_plan 63 [some (.ref 0), some (.int x1), some (.int x2), some (.int x3), some (.int x4), some (.int x5), a6] [.int u0] (pv_em S) = if u0 ≤ x4 then pv_R mX6_plan 79 [some (.ref 0), some (.int x1), some (.int x2), some (.int x3), some (.int x4), some (.int x5), some (.int u0)] [] (pv_em S) else pv_R mX6_plan 72 [some (.ref 0), some (.int x1), some (.int x2), some (.int x3), some (.int x4), some (.int x5), some (.int u0)] [] (pv_em S) := Eq.trans (pv_Rstp dX6_plan_63 rfl rfl rfl) (Eq.trans (pv_Rstp dX6_plan_65 rfl rfl rfl) (Eq.trans (pv_Rstp dX6_plan_67 rfl rfl rfl) (pv_Rbr (tgt := 79) dX6_plan_69 rfl rfl rfl rfl rfl (by decide))))
set_option maxHeartbeats 200000 in
theorem bX6_plan_72 {S : pv_S} {x1 x2 x3 x4 x5 x6 : Int32} : pv_R mX6_plan 72 [some (.ref 0), some (.int x1), some (.int x2), some (.int x3), some (.int x4), some (.int x5), some (.int x6)] [] (pv_em S) = pv_R mX6_plan 79 [some (.ref 0), some (.int x1), some (.int x2), some (.int x5), some (.int x6), some (.int x5), some (.int x6)] [] (pv_em S) := Eq.trans (pv_Rstp dX6_plan_72 rfl rfl rfl) (Eq.trans (pv_Rstp dX6_plan_74 rfl rfl rfl) (Eq.trans (pv_Rstp dX6_plan_76 rfl rfl rfl) (pv_Rstp dX6_plan_78 rfl rfl rfl)))
set_option maxHeartbeats 200000 in
theorem bX6_plan_79 {S : pv_S} {x1 x2 x3 x4 x5 x6 : Int32} : pv_R mX6_plan 79 [some (.ref 0), some (.int x1), some (.int x2), some (.int x3), some (.int x4), some (.int x5), some (.int x6)] [] (pv_em S) = pv_R mX6_plan 48 [some (.ref 0), some (.int x1), some (.int x2), some (.int x3), some (.int x4), some (.int (x5 + 1)), some (.int x6)] [] (pv_em S) := Eq.trans (pv_Rinc dX6_plan_79 rfl (Nat.le_of_ble_eq_true rfl) ki_1 rfl) (pv_Rgo (tgt := 48) dX6_plan_82 rfl (by decide))
set_option maxHeartbeats 200000 in
theorem bX6_plan_85 {S : pv_S} {x1 x2 x3 x4 x5 : Int32} {a6 : Option Value} : pv_R mX6_plan 85 [some (.ref 0), some (.int x1), some (.int x2), some (.int x3), some (.int x4), some (.int x5), a6] [] (pv_em S) = pv_cc (pv_R mX3_make 0 [some (.ref 1), some (.int x2), some (.int x1), some (.int (-9)), none] [] (pv_em S)) mX6_plan 96 [some (.ref 0), some (.int x1), some (.int x2), some (.int x3), some (.int x4), some (.int x5), a6] [] := Eq.trans (pv_Rstp dX6_plan_85 rfl rfl rfl) (Eq.trans (pv_Rget dX6_plan_86 ffX6_14 (by decide) (pv_ce_0 _ _) rfl) (Eq.trans (pv_Rstp dX6_plan_89 rfl rfl rfl) (Eq.trans (pv_Rstp dX6_plan_90 rfl rfl rfl) (Eq.trans (pv_Rbp dX6_plan_91 kb_m9) (pv_Rcall (As := [.ref 1, .int x2, .int x1, .int (-9)]) (rest := []) dX6_plan_93 rfl mfX6_229 rfl rfl rfl rfl rfl)))))
set_option maxHeartbeats 200000 in
theorem bX6_plan_96 {S : pv_S} {x1 x2 x3 x4 x5 : Int32} {a6 : Option Value} : pv_R mX6_plan 96 [some (.ref 0), some (.int x1), some (.int x2), some (.int x3), some (.int x4), some (.int x5), a6] [] (pv_em S) = pv_R mX6_plan 99 [some (.ref 0), some (.int x1), some (.int x2), some (.int x3), some (.int x4), some (.int 0), a6] [] (pv_em S) := Eq.trans (pv_Ric dX6_plan_96 ki_0) (pv_Rstp dX6_plan_97 rfl rfl rfl)
set_option maxHeartbeats 200000 in
theorem bX6_plan_99 {S : pv_S} {x1 x2 x3 x4 x5 : Int32} {a6 : Option Value} : pv_R mX6_plan 99 [some (.ref 0), some (.int x1), some (.int x2), some (.int x3), some (.int x4), some (.int x5), a6] [] (pv_em S) = if x1 ≤ x5 then pv_R mX6_plan 138 [some (.ref 0), some (.int x1), some (.int x2), some (.int x3), some (.int x4), some (.int x5), a6] [] (pv_em S) else pv_R mX6_plan 105 [some (.ref 0), some (.int x1), some (.int x2), some (.int x3), some (.int x4), some (.int x5), a6] [] (pv_em S) := Eq.trans (pv_Rstp dX6_plan_99 rfl rfl rfl) (Eq.trans (pv_Rstp dX6_plan_101 rfl rfl rfl) (pv_Rbr (tgt := 138) dX6_plan_102 rfl rfl rfl rfl rfl (by decide)))
set_option maxHeartbeats 200000 in
theorem bX6_plan_105 {S : pv_S} {x1 x2 x3 x4 x5 : Int32} {a6 : Option Value} : pv_R mX6_plan 105 [some (.ref 0), some (.int x1), some (.int x2), some (.int x3), some (.int x4), some (.int x5), a6] [] (pv_em S) = pv_cc (pv_R mX6_isFedAhead 0 [some (.int x3), some (.int x1), some (.int x5)] [] (pv_em S)) mX6_plan 112 [some (.ref 0), some (.int x1), some (.int x2), some (.int x3), some (.int x4), some (.int x5), a6] [] := Eq.trans (pv_Rstp dX6_plan_105 rfl rfl rfl) (Eq.trans (pv_Rstp dX6_plan_106 rfl rfl rfl) (Eq.trans (pv_Rstp dX6_plan_107 rfl rfl rfl) (pv_Rcall (As := [.int x3, .int x1, .int x5]) (rest := []) dX6_plan_109 rfl mfX6_232 rfl rfl rfl rfl rfl)))
set_option maxHeartbeats 200000 in
theorem bX6_plan_112 {S : pv_S} {x1 x2 x3 x4 x5 u0 : Int32} {a6 : Option Value} : pv_R mX6_plan 112 [some (.ref 0), some (.int x1), some (.int x2), some (.int x3), some (.int x4), some (.int x5), a6] [.int u0] (pv_em S) = if u0 = 0 then pv_R mX6_plan 132 [some (.ref 0), some (.int x1), some (.int x2), some (.int x3), some (.int x4), some (.int x5), a6] [] (pv_em S) else pv_R mX6_plan 115 [some (.ref 0), some (.int x1), some (.int x2), some (.int x3), some (.int x4), some (.int x5), a6] [] (pv_em S) := pv_Rbr (tgt := 132) dX6_plan_112 rfl rfl rfl rfl rfl (by decide)
set_option maxHeartbeats 200000 in
theorem bX6_plan_115 {S : pv_S} {x1 x2 x3 x4 x5 : Int32} {a6 : Option Value} : pv_R mX6_plan 115 [some (.ref 0), some (.int x1), some (.int x2), some (.int x3), some (.int x4), some (.int x5), a6] [] (pv_em S) = pv_cc (pv_R mX3_set 0 [some (.ref 1), some (.int x2), some (.int x5), some (.int (S.1 21 10))] [] (pv_em S)) mX6_plan 132 [some (.ref 0), some (.int x1), some (.int x2), some (.int x3), some (.int x4), some (.int x5), a6] [] := Eq.trans (pv_Rstp dX6_plan_115 rfl rfl rfl) (Eq.trans (pv_Rget dX6_plan_116 ffX6_14 (by decide) (pv_ce_0 _ _) rfl) (Eq.trans (pv_Rstp dX6_plan_119 rfl rfl rfl) (Eq.trans (pv_Rstp dX6_plan_120 rfl rfl rfl) (Eq.trans (pv_Rstp dX6_plan_122 rfl rfl rfl) (Eq.trans (pv_Rget dX6_plan_123 ffX6_31 (by decide) (pv_ce_0 _ _) rfl) (Eq.trans (pv_Rget dX6_plan_126 ffX6_171 (by decide) (pv_ce_21 _ _) rfl) (pv_Rcall (As := [.ref 1, .int x2, .int x5, .int (S.1 21 10)]) (rest := []) dX6_plan_129 rfl mfX6_65 rfl rfl rfl rfl rfl)))))))
set_option maxHeartbeats 200000 in
theorem bX6_plan_132 {S : pv_S} {x1 x2 x3 x4 x5 : Int32} {a6 : Option Value} : pv_R mX6_plan 132 [some (.ref 0), some (.int x1), some (.int x2), some (.int x3), some (.int x4), some (.int x5), a6] [] (pv_em S) = pv_R mX6_plan 99 [some (.ref 0), some (.int x1), some (.int x2), some (.int x3), some (.int x4), some (.int (x5 + 1)), a6] [] (pv_em S) := Eq.trans (pv_Rinc dX6_plan_132 rfl (Nat.le_of_ble_eq_true rfl) ki_1 rfl) (pv_Rgo (tgt := 99) dX6_plan_135 rfl (by decide))
set_option maxHeartbeats 200000 in
theorem bX6_plan_138 {S : pv_S} {x1 x2 x3 x4 x5 : Int32} {a6 : Option Value} : pv_R mX6_plan 138 [some (.ref 0), some (.int x1), some (.int x2), some (.int x3), some (.int x4), some (.int x5), a6] [] (pv_em S) = some (some (.int x4), pv_em S) := Eq.trans (pv_Rstp dX6_plan_138 rfl rfl rfl) (pv_Rret dX6_plan_140 rfl)
theorem dX6_sacks_0 : decode cX6_sacks 0 = .ok (.iload_n 1, 1) := by decide +kernel
theorem dX6_sacks_1 : decode cX6_sacks 1 = .ok (.iconst 0, 1) := by decide +kernel
theorem dX6_sacks_2 : decode cX6_sacks 2 = .ok (.sipush 1200, 3) := by decide +kernel
theorem dX6_sacks_5 : decode cX6_sacks 5 = .ok (.invokestatic 116, 3) := by decide +kernel
theorem dX6_sacks_8 : decode cX6_sacks 8 = .ok (.ifCond .ne 5, 3) := by decide +kernel
theorem dX6_sacks_11 : decode cX6_sacks 11 = .ok (.iconst (-1), 1) := by decide +kernel
theorem dX6_sacks_12 : decode cX6_sacks 12 = .ok (.ireturn, 1) := by decide +kernel
theorem dX6_sacks_13 : decode cX6_sacks 13 = .ok (.aload_n 0, 1) := by decide +kernel
theorem dX6_sacks_14 : decode cX6_sacks 14 = .ok (.getfield 31, 3) := by decide +kernel
theorem dX6_sacks_17 : decode cX6_sacks 17 = .ok (.getfield 110, 3) := by decide +kernel
theorem dX6_sacks_20 : decode cX6_sacks 20 = .ok (.ifCond .ne 6, 3) := by decide +kernel
theorem dX6_sacks_23 : decode cX6_sacks 23 = .ok (.bipush (-4), 2) := by decide +kernel
theorem dX6_sacks_25 : decode cX6_sacks 25 = .ok (.ireturn, 1) := by decide +kernel
theorem dX6_sacks_26 : decode cX6_sacks 26 = .ok (.bipush (-9), 2) := by decide +kernel
theorem dX6_sacks_28 : decode cX6_sacks 28 = .ok (.istore_n 2, 1) := by decide +kernel
theorem dX6_sacks_29 : decode cX6_sacks 29 = .ok (.aload_n 0, 1) := by decide +kernel
theorem dX6_sacks_30 : decode cX6_sacks 30 = .ok (.invokevirtual 235, 3) := by decide +kernel
theorem dX6_sacks_33 : decode cX6_sacks 33 = .ok (.iconst 1, 1) := by decide +kernel
theorem dX6_sacks_34 : decode cX6_sacks 34 = .ok (.isub, 1) := by decide +kernel
theorem dX6_sacks_35 : decode cX6_sacks 35 = .ok (.istore_n 3, 1) := by decide +kernel
theorem dX6_sacks_36 : decode cX6_sacks 36 = .ok (.iload_n 3, 1) := by decide +kernel
theorem dX6_sacks_37 : decode cX6_sacks 37 = .ok (.ifCond .lt 23, 3) := by decide +kernel
theorem dX6_sacks_40 : decode cX6_sacks 40 = .ok (.aload_n 0, 1) := by decide +kernel
theorem dX6_sacks_41 : decode cX6_sacks 41 = .ok (.getfield 31, 3) := by decide +kernel
theorem dX6_sacks_44 : decode cX6_sacks 44 = .ok (.iload_n 3, 1) := by decide +kernel
theorem dX6_sacks_45 : decode cX6_sacks 45 = .ok (.invokevirtual 238, 3) := by decide +kernel
theorem dX6_sacks_48 : decode cX6_sacks 48 = .ok (.iload_n 1, 1) := by decide +kernel
theorem dX6_sacks_49 : decode cX6_sacks 49 = .ok (.if_icmp .ne 5, 3) := by decide +kernel
theorem dX6_sacks_52 : decode cX6_sacks 52 = .ok (.iload_n 3, 1) := by decide +kernel
theorem dX6_sacks_53 : decode cX6_sacks 53 = .ok (.istore_n 2, 1) := by decide +kernel
theorem dX6_sacks_54 : decode cX6_sacks 54 = .ok (.iinc 3 (-1), 3) := by decide +kernel
theorem dX6_sacks_57 : decode cX6_sacks 57 = .ok (.goto (-21), 3) := by decide +kernel
theorem dX6_sacks_60 : decode cX6_sacks 60 = .ok (.aload_n 0, 1) := by decide +kernel
theorem dX6_sacks_61 : decode cX6_sacks 61 = .ok (.getfield 45, 3) := by decide +kernel
theorem dX6_sacks_64 : decode cX6_sacks 64 = .ok (.iload_n 2, 1) := by decide +kernel
theorem dX6_sacks_65 : decode cX6_sacks 65 = .ok (.putfield 61, 3) := by decide +kernel
theorem dX6_sacks_68 : decode cX6_sacks 68 = .ok (.aload_n 0, 1) := by decide +kernel
theorem dX6_sacks_69 : decode cX6_sacks 69 = .ok (.getfield 45, 3) := by decide +kernel
theorem dX6_sacks_72 : decode cX6_sacks 72 = .ok (.aload_n 0, 1) := by decide +kernel
theorem dX6_sacks_73 : decode cX6_sacks 73 = .ok (.iload_n 1, 1) := by decide +kernel
theorem dX6_sacks_74 : decode cX6_sacks 74 = .ok (.invokevirtual 241, 3) := by decide +kernel
theorem dX6_sacks_77 : decode cX6_sacks 77 = .ok (.i2l, 1) := by decide +kernel
theorem dX6_sacks_78 : decode cX6_sacks 78 = .ok (.lconst 1, 1) := by decide +kernel
theorem dX6_sacks_79 : decode cX6_sacks 79 = .ok (.invokevirtual 244, 3) := by decide +kernel
theorem dX6_sacks_82 : decode cX6_sacks 82 = .ok (.iconst 1, 1) := by decide +kernel
theorem dX6_sacks_83 : decode cX6_sacks 83 = .ok (.ireturn, 1) := by decide +kernel
set_option maxHeartbeats 200000 in
theorem bX6_sacks_0 {S : pv_S} {x1 : Int32} {a2 a3 : Option Value} : pv_R mX6_sacks 0 [some (.ref 0), some (.int x1), a2, a3] [] (pv_em S) = pv_cc (pv_R mX6_isWithin 0 [some (.int x1), some (.int 0), some (.int 1200)] [] (pv_em S)) mX6_sacks 8 [some (.ref 0), some (.int x1), a2, a3] [] := Eq.trans (pv_Rstp dX6_sacks_0 rfl rfl rfl) (Eq.trans (pv_Ric dX6_sacks_1 ki_0) (Eq.trans (pv_Rsp dX6_sacks_2 ks_1200) (pv_Rcall (As := [.int x1, .int 0, .int 1200]) (rest := []) dX6_sacks_5 rfl mfX6_116 rfl rfl rfl rfl rfl)))
set_option maxHeartbeats 200000 in
theorem bX6_sacks_8 {S : pv_S} {x1 u0 : Int32} {a2 a3 : Option Value} : pv_R mX6_sacks 8 [some (.ref 0), some (.int x1), a2, a3] [.int u0] (pv_em S) = if ¬ u0 = 0 then pv_R mX6_sacks 13 [some (.ref 0), some (.int x1), a2, a3] [] (pv_em S) else pv_R mX6_sacks 11 [some (.ref 0), some (.int x1), a2, a3] [] (pv_em S) := pv_Rbr (tgt := 13) dX6_sacks_8 rfl rfl rfl rfl rfl (by decide)
set_option maxHeartbeats 200000 in
theorem bX6_sacks_11 {S : pv_S} {x1 : Int32} {a2 a3 : Option Value} : pv_R mX6_sacks 11 [some (.ref 0), some (.int x1), a2, a3] [] (pv_em S) = some (some (.int (-1)), pv_em S) := Eq.trans (pv_Ric dX6_sacks_11 ki_m1) (pv_Rret dX6_sacks_12 rfl)
set_option maxHeartbeats 200000 in
theorem bX6_sacks_13 {S : pv_S} {x1 : Int32} {a2 a3 : Option Value} : pv_R mX6_sacks 13 [some (.ref 0), some (.int x1), a2, a3] [] (pv_em S) = if ¬ (S.1 21 7) = 0 then pv_R mX6_sacks 26 [some (.ref 0), some (.int x1), a2, a3] [] (pv_em S) else pv_R mX6_sacks 23 [some (.ref 0), some (.int x1), a2, a3] [] (pv_em S) := Eq.trans (pv_Rstp dX6_sacks_13 rfl rfl rfl) (Eq.trans (pv_Rget dX6_sacks_14 ffX6_31 (by decide) (pv_ce_0 _ _) rfl) (Eq.trans (pv_Rget dX6_sacks_17 ffX6_110 (by decide) (pv_ce_21 _ _) rfl) (pv_Rbr (tgt := 26) dX6_sacks_20 rfl rfl rfl rfl rfl (by decide))))
set_option maxHeartbeats 200000 in
theorem bX6_sacks_23 {S : pv_S} {x1 : Int32} {a2 a3 : Option Value} : pv_R mX6_sacks 23 [some (.ref 0), some (.int x1), a2, a3] [] (pv_em S) = some (some (.int (-4)), pv_em S) := Eq.trans (pv_Rbp dX6_sacks_23 kb_m4) (pv_Rret dX6_sacks_25 rfl)
set_option maxHeartbeats 200000 in
theorem bX6_sacks_26 {S : pv_S} {x1 : Int32} {a2 a3 : Option Value} : pv_R mX6_sacks 26 [some (.ref 0), some (.int x1), a2, a3] [] (pv_em S) = pv_cc (pv_R mX6_setCount 0 [some (.ref 0)] [] (pv_em S)) mX6_sacks 33 [some (.ref 0), some (.int x1), some (.int (-9)), a3] [] := Eq.trans (pv_Rbp dX6_sacks_26 kb_m9) (Eq.trans (pv_Rstp dX6_sacks_28 rfl rfl rfl) (Eq.trans (pv_Rstp dX6_sacks_29 rfl rfl rfl) (pv_Rcall (As := [.ref 0]) (rest := []) dX6_sacks_30 rfl mfX6_235 rfl rfl rfl rfl rfl)))
set_option maxHeartbeats 200000 in
theorem bX6_sacks_33 {S : pv_S} {x1 x2 u0 : Int32} {a3 : Option Value} : pv_R mX6_sacks 33 [some (.ref 0), some (.int x1), some (.int x2), a3] [.int u0] (pv_em S) = pv_R mX6_sacks 36 [some (.ref 0), some (.int x1), some (.int x2), some (.int (u0 - 1))] [] (pv_em S) := Eq.trans (pv_Ric dX6_sacks_33 ki_1) (Eq.trans (pv_Rstp dX6_sacks_34 rfl rfl rfl) (pv_Rstp dX6_sacks_35 rfl rfl rfl))
set_option maxHeartbeats 200000 in
theorem bX6_sacks_36 {S : pv_S} {x1 x2 x3 : Int32} : pv_R mX6_sacks 36 [some (.ref 0), some (.int x1), some (.int x2), some (.int x3)] [] (pv_em S) = if x3 < 0 then pv_R mX6_sacks 60 [some (.ref 0), some (.int x1), some (.int x2), some (.int x3)] [] (pv_em S) else pv_R mX6_sacks 40 [some (.ref 0), some (.int x1), some (.int x2), some (.int x3)] [] (pv_em S) := Eq.trans (pv_Rstp dX6_sacks_36 rfl rfl rfl) (pv_Rbr (tgt := 60) dX6_sacks_37 rfl rfl rfl rfl rfl (by decide))
set_option maxHeartbeats 200000 in
theorem bX6_sacks_40 {S : pv_S} {x1 x2 x3 : Int32} : pv_R mX6_sacks 40 [some (.ref 0), some (.int x1), some (.int x2), some (.int x3)] [] (pv_em S) = pv_cc (pv_R mX5_weightOfSet 0 [some (.ref 21), some (.int x3), none, none] [] (pv_em S)) mX6_sacks 48 [some (.ref 0), some (.int x1), some (.int x2), some (.int x3)] [] := Eq.trans (pv_Rstp dX6_sacks_40 rfl rfl rfl) (Eq.trans (pv_Rget dX6_sacks_41 ffX6_31 (by decide) (pv_ce_0 _ _) rfl) (Eq.trans (pv_Rstp dX6_sacks_44 rfl rfl rfl) (pv_Rcall (As := [.ref 21, .int x3]) (rest := []) dX6_sacks_45 rfl mfX6_238 rfl rfl rfl rfl rfl)))
set_option maxHeartbeats 200000 in
theorem bX6_sacks_48 {S : pv_S} {x1 x2 x3 u0 : Int32} : pv_R mX6_sacks 48 [some (.ref 0), some (.int x1), some (.int x2), some (.int x3)] [.int u0] (pv_em S) = if ¬ u0 = x1 then pv_R mX6_sacks 54 [some (.ref 0), some (.int x1), some (.int x2), some (.int x3)] [] (pv_em S) else pv_R mX6_sacks 52 [some (.ref 0), some (.int x1), some (.int x2), some (.int x3)] [] (pv_em S) := Eq.trans (pv_Rstp dX6_sacks_48 rfl rfl rfl) (pv_Rbr (tgt := 54) dX6_sacks_49 rfl rfl rfl rfl rfl (by decide))
set_option maxHeartbeats 200000 in
theorem bX6_sacks_52 {S : pv_S} {x1 x2 x3 : Int32} : pv_R mX6_sacks 52 [some (.ref 0), some (.int x1), some (.int x2), some (.int x3)] [] (pv_em S) = pv_R mX6_sacks 54 [some (.ref 0), some (.int x1), some (.int x3), some (.int x3)] [] (pv_em S) := Eq.trans (pv_Rstp dX6_sacks_52 rfl rfl rfl) (pv_Rstp dX6_sacks_53 rfl rfl rfl)
set_option maxHeartbeats 200000 in
theorem bX6_sacks_54 {S : pv_S} {x1 x2 x3 : Int32} : pv_R mX6_sacks 54 [some (.ref 0), some (.int x1), some (.int x2), some (.int x3)] [] (pv_em S) = pv_R mX6_sacks 36 [some (.ref 0), some (.int x1), some (.int x2), some (.int (x3 + (-1)))] [] (pv_em S) := Eq.trans (pv_Rinc dX6_sacks_54 rfl (Nat.le_of_ble_eq_true rfl) ki_m1 rfl) (pv_Rgo (tgt := 36) dX6_sacks_57 rfl (by decide))
set_option maxHeartbeats 200000 in
theorem bX6_sacks_60 {S : pv_S} {x1 x2 x3 : Int32} : pv_R mX6_sacks 60 [some (.ref 0), some (.int x1), some (.int x2), some (.int x3)] [] (pv_em S) = pv_cc (pv_R mX6_setsOf 0 [some (.ref 0), some (.int x1), none, none] [] (pv_em (pv_si S 35 1 x2))) mX6_sacks 77 [some (.ref 0), some (.int x1), some (.int x2), some (.int x3)] [.ref 35] := Eq.trans (pv_Rstp dX6_sacks_60 rfl rfl rfl) (Eq.trans (pv_Rget dX6_sacks_61 ffX6_45 (by decide) (pv_ce_0 _ _) rfl) (Eq.trans (pv_Rstp dX6_sacks_64 rfl rfl rfl) (Eq.trans (pv_Rput dX6_sacks_65 ffX6_61 rfl rfl rfl (by decide) (pv_ce_35 _ _) (Nat.le_of_ble_eq_true rfl) (pv_em_si rfl)) (Eq.trans (pv_Rstp dX6_sacks_68 rfl rfl rfl) (Eq.trans (pv_Rget dX6_sacks_69 ffX6_45 (by decide) (pv_ce_0 _ _) rfl) (Eq.trans (pv_Rstp dX6_sacks_72 rfl rfl rfl) (Eq.trans (pv_Rstp dX6_sacks_73 rfl rfl rfl) (pv_Rcall (As := [.ref 0, .int x1]) (rest := [.ref 35]) dX6_sacks_74 rfl mfX6_241 rfl rfl rfl rfl rfl))))))))
set_option maxHeartbeats 200000 in
theorem bX6_sacks_77 {S : pv_S} {x1 x2 x3 u0 : Int32} : pv_R mX6_sacks 77 [some (.ref 0), some (.int x1), some (.int x2), some (.int x3)] [.int u0, .ref 35] (pv_em S) = pv_cc (pv_R mX4_tell 0 [some (.ref 35), some (.long (Int32.toInt64 u0)), none, some (.long 1), none, none, none] [] (pv_em S)) mX6_sacks 82 [some (.ref 0), some (.int x1), some (.int x2), some (.int x3)] [] := Eq.trans (pv_Rstp dX6_sacks_77 rfl rfl rfl) (Eq.trans (pv_Rlc dX6_sacks_78 kl_1) (pv_Rcall (As := [.ref 35, .long (Int32.toInt64 u0), .long 1]) (rest := []) dX6_sacks_79 rfl mfX6_244 rfl rfl rfl rfl rfl))
set_option maxHeartbeats 200000 in
theorem bX6_sacks_82 {S : pv_S} {x1 x2 x3 : Int32} : pv_R mX6_sacks 82 [some (.ref 0), some (.int x1), some (.int x2), some (.int x3)] [] (pv_em S) = some (some (.int 1), pv_em S) := Eq.trans (pv_Ric dX6_sacks_82 ki_1) (pv_Rret dX6_sacks_83 rfl)
theorem dX6_sure_0 : decode cX6_sure 0 = .ok (.iload_n 1, 1) := by decide +kernel
theorem dX6_sure_1 : decode cX6_sure 1 = .ok (.iconst 0, 1) := by decide +kernel
theorem dX6_sure_2 : decode cX6_sure 2 = .ok (.sipush 1200, 3) := by decide +kernel
theorem dX6_sure_5 : decode cX6_sure 5 = .ok (.invokestatic 116, 3) := by decide +kernel
theorem dX6_sure_8 : decode cX6_sure 8 = .ok (.ifCond .ne 5, 3) := by decide +kernel
theorem dX6_sure_11 : decode cX6_sure 11 = .ok (.iconst (-1), 1) := by decide +kernel
theorem dX6_sure_12 : decode cX6_sure 12 = .ok (.ireturn, 1) := by decide +kernel
theorem dX6_sure_13 : decode cX6_sure 13 = .ok (.aload_n 0, 1) := by decide +kernel
theorem dX6_sure_14 : decode cX6_sure 14 = .ok (.getfield 31, 3) := by decide +kernel
theorem dX6_sure_17 : decode cX6_sure 17 = .ok (.getfield 110, 3) := by decide +kernel
theorem dX6_sure_20 : decode cX6_sure 20 = .ok (.ifCond .ne 6, 3) := by decide +kernel
theorem dX6_sure_23 : decode cX6_sure 23 = .ok (.bipush (-4), 2) := by decide +kernel
theorem dX6_sure_25 : decode cX6_sure 25 = .ok (.ireturn, 1) := by decide +kernel
theorem dX6_sure_26 : decode cX6_sure 26 = .ok (.aload_n 0, 1) := by decide +kernel
theorem dX6_sure_27 : decode cX6_sure 27 = .ok (.iload_n 1, 1) := by decide +kernel
theorem dX6_sure_28 : decode cX6_sure 28 = .ok (.invokevirtual 241, 3) := by decide +kernel
theorem dX6_sure_31 : decode cX6_sure 31 = .ok (.istore_n 2, 1) := by decide +kernel
theorem dX6_sure_32 : decode cX6_sure 32 = .ok (.iload_n 2, 1) := by decide +kernel
theorem dX6_sure_33 : decode cX6_sure 33 = .ok (.ifCond .ne 12, 3) := by decide +kernel
theorem dX6_sure_36 : decode cX6_sure 36 = .ok (.aload_n 0, 1) := by decide +kernel
theorem dX6_sure_37 : decode cX6_sure 37 = .ok (.getfield 45, 3) := by decide +kernel
theorem dX6_sure_40 : decode cX6_sure 40 = .ok (.iconst 4, 1) := by decide +kernel
theorem dX6_sure_41 : decode cX6_sure 41 = .ok (.invokevirtual 81, 3) := by decide +kernel
theorem dX6_sure_44 : decode cX6_sure 44 = .ok (.ireturn, 1) := by decide +kernel
theorem dX6_sure_45 : decode cX6_sure 45 = .ok (.iconst 0, 1) := by decide +kernel
theorem dX6_sure_46 : decode cX6_sure 46 = .ok (.istore_n 3, 1) := by decide +kernel
theorem dX6_sure_47 : decode cX6_sure 47 = .ok (.iconst 0, 1) := by decide +kernel
theorem dX6_sure_48 : decode cX6_sure 48 = .ok (.istore 4, 2) := by decide +kernel
theorem dX6_sure_50 : decode cX6_sure 50 = .ok (.iconst 0, 1) := by decide +kernel
theorem dX6_sure_51 : decode cX6_sure 51 = .ok (.istore 5, 2) := by decide +kernel
theorem dX6_sure_53 : decode cX6_sure 53 = .ok (.iload 5, 2) := by decide +kernel
theorem dX6_sure_55 : decode cX6_sure 55 = .ok (.aload_n 0, 1) := by decide +kernel
theorem dX6_sure_56 : decode cX6_sure 56 = .ok (.getfield 31, 3) := by decide +kernel
theorem dX6_sure_59 : decode cX6_sure 59 = .ok (.getfield 110, 3) := by decide +kernel
theorem dX6_sure_62 : decode cX6_sure 62 = .ok (.if_icmp .ge 45, 3) := by decide +kernel
theorem dX6_sure_65 : decode cX6_sure 65 = .ok (.aload_n 0, 1) := by decide +kernel
theorem dX6_sure_66 : decode cX6_sure 66 = .ok (.iload_n 1, 1) := by decide +kernel
theorem dX6_sure_67 : decode cX6_sure 67 = .ok (.iload 5, 2) := by decide +kernel
theorem dX6_sure_69 : decode cX6_sure 69 = .ok (.invokevirtual 248, 3) := by decide +kernel
theorem dX6_sure_72 : decode cX6_sure 72 = .ok (.istore 6, 2) := by decide +kernel
theorem dX6_sure_74 : decode cX6_sure 74 = .ok (.iload 6, 2) := by decide +kernel
theorem dX6_sure_76 : decode cX6_sure 76 = .ok (.iload_n 2, 1) := by decide +kernel
theorem dX6_sure_77 : decode cX6_sure 77 = .ok (.if_icmp .ne 10, 3) := by decide +kernel
theorem dX6_sure_80 : decode cX6_sure 80 = .ok (.iload_n 3, 1) := by decide +kernel
theorem dX6_sure_81 : decode cX6_sure 81 = .ok (.iconst 1, 1) := by decide +kernel
theorem dX6_sure_82 : decode cX6_sure 82 = .ok (.iload 5, 2) := by decide +kernel
theorem dX6_sure_84 : decode cX6_sure 84 = .ok (.ishl, 1) := by decide +kernel
theorem dX6_sure_85 : decode cX6_sure 85 = .ok (.ior, 1) := by decide +kernel
theorem dX6_sure_86 : decode cX6_sure 86 = .ok (.istore_n 3, 1) := by decide +kernel
theorem dX6_sure_87 : decode cX6_sure 87 = .ok (.iload 6, 2) := by decide +kernel
theorem dX6_sure_89 : decode cX6_sure 89 = .ok (.ifCond .ne 12, 3) := by decide +kernel
theorem dX6_sure_92 : decode cX6_sure 92 = .ok (.iload 4, 2) := by decide +kernel
theorem dX6_sure_94 : decode cX6_sure 94 = .ok (.iconst 1, 1) := by decide +kernel
theorem dX6_sure_95 : decode cX6_sure 95 = .ok (.iload 5, 2) := by decide +kernel
theorem dX6_sure_97 : decode cX6_sure 97 = .ok (.ishl, 1) := by decide +kernel
theorem dX6_sure_98 : decode cX6_sure 98 = .ok (.ior, 1) := by decide +kernel
theorem dX6_sure_99 : decode cX6_sure 99 = .ok (.istore 4, 2) := by decide +kernel
theorem dX6_sure_101 : decode cX6_sure 101 = .ok (.iinc 5 1, 3) := by decide +kernel
theorem dX6_sure_104 : decode cX6_sure 104 = .ok (.goto (-51), 3) := by decide +kernel
theorem dX6_sure_107 : decode cX6_sure 107 = .ok (.aload_n 0, 1) := by decide +kernel
theorem dX6_sure_108 : decode cX6_sure 108 = .ok (.getfield 45, 3) := by decide +kernel
theorem dX6_sure_111 : decode cX6_sure 111 = .ok (.iload 4, 2) := by decide +kernel
theorem dX6_sure_113 : decode cX6_sure 113 = .ok (.putfield 61, 3) := by decide +kernel
theorem dX6_sure_116 : decode cX6_sure 116 = .ok (.iload_n 3, 1) := by decide +kernel
theorem dX6_sure_117 : decode cX6_sure 117 = .ok (.ireturn, 1) := by decide +kernel
set_option maxHeartbeats 200000 in
theorem bX6_sure_0 {S : pv_S} {x1 : Int32} {a2 a3 a4 a5 a6 : Option Value} : pv_R mX6_sure 0 [some (.ref 0), some (.int x1), a2, a3, a4, a5, a6] [] (pv_em S) = pv_cc (pv_R mX6_isWithin 0 [some (.int x1), some (.int 0), some (.int 1200)] [] (pv_em S)) mX6_sure 8 [some (.ref 0), some (.int x1), a2, a3, a4, a5, a6] [] := Eq.trans (pv_Rstp dX6_sure_0 rfl rfl rfl) (Eq.trans (pv_Ric dX6_sure_1 ki_0) (Eq.trans (pv_Rsp dX6_sure_2 ks_1200) (pv_Rcall (As := [.int x1, .int 0, .int 1200]) (rest := []) dX6_sure_5 rfl mfX6_116 rfl rfl rfl rfl rfl)))
set_option maxHeartbeats 200000 in
theorem bX6_sure_8 {S : pv_S} {x1 u0 : Int32} {a2 a3 a4 a5 a6 : Option Value} : pv_R mX6_sure 8 [some (.ref 0), some (.int x1), a2, a3, a4, a5, a6] [.int u0] (pv_em S) = if ¬ u0 = 0 then pv_R mX6_sure 13 [some (.ref 0), some (.int x1), a2, a3, a4, a5, a6] [] (pv_em S) else pv_R mX6_sure 11 [some (.ref 0), some (.int x1), a2, a3, a4, a5, a6] [] (pv_em S) := pv_Rbr (tgt := 13) dX6_sure_8 rfl rfl rfl rfl rfl (by decide)
set_option maxHeartbeats 200000 in
theorem bX6_sure_11 {S : pv_S} {x1 : Int32} {a2 a3 a4 a5 a6 : Option Value} : pv_R mX6_sure 11 [some (.ref 0), some (.int x1), a2, a3, a4, a5, a6] [] (pv_em S) = some (some (.int (-1)), pv_em S) := Eq.trans (pv_Ric dX6_sure_11 ki_m1) (pv_Rret dX6_sure_12 rfl)
set_option maxHeartbeats 200000 in
theorem bX6_sure_13 {S : pv_S} {x1 : Int32} {a2 a3 a4 a5 a6 : Option Value} : pv_R mX6_sure 13 [some (.ref 0), some (.int x1), a2, a3, a4, a5, a6] [] (pv_em S) = if ¬ (S.1 21 7) = 0 then pv_R mX6_sure 26 [some (.ref 0), some (.int x1), a2, a3, a4, a5, a6] [] (pv_em S) else pv_R mX6_sure 23 [some (.ref 0), some (.int x1), a2, a3, a4, a5, a6] [] (pv_em S) := Eq.trans (pv_Rstp dX6_sure_13 rfl rfl rfl) (Eq.trans (pv_Rget dX6_sure_14 ffX6_31 (by decide) (pv_ce_0 _ _) rfl) (Eq.trans (pv_Rget dX6_sure_17 ffX6_110 (by decide) (pv_ce_21 _ _) rfl) (pv_Rbr (tgt := 26) dX6_sure_20 rfl rfl rfl rfl rfl (by decide))))
set_option maxHeartbeats 200000 in
theorem bX6_sure_23 {S : pv_S} {x1 : Int32} {a2 a3 a4 a5 a6 : Option Value} : pv_R mX6_sure 23 [some (.ref 0), some (.int x1), a2, a3, a4, a5, a6] [] (pv_em S) = some (some (.int (-4)), pv_em S) := Eq.trans (pv_Rbp dX6_sure_23 kb_m4) (pv_Rret dX6_sure_25 rfl)
set_option maxHeartbeats 200000 in
theorem bX6_sure_26 {S : pv_S} {x1 : Int32} {a2 a3 a4 a5 a6 : Option Value} : pv_R mX6_sure 26 [some (.ref 0), some (.int x1), a2, a3, a4, a5, a6] [] (pv_em S) = pv_cc (pv_R mX6_setsOf 0 [some (.ref 0), some (.int x1), none, none] [] (pv_em S)) mX6_sure 31 [some (.ref 0), some (.int x1), a2, a3, a4, a5, a6] [] := Eq.trans (pv_Rstp dX6_sure_26 rfl rfl rfl) (Eq.trans (pv_Rstp dX6_sure_27 rfl rfl rfl) (pv_Rcall (As := [.ref 0, .int x1]) (rest := []) dX6_sure_28 rfl mfX6_241 rfl rfl rfl rfl rfl))
set_option maxHeartbeats 200000 in
theorem bX6_sure_31 {S : pv_S} {x1 u0 : Int32} {a2 a3 a4 a5 a6 : Option Value} : pv_R mX6_sure 31 [some (.ref 0), some (.int x1), a2, a3, a4, a5, a6] [.int u0] (pv_em S) = if ¬ u0 = 0 then pv_R mX6_sure 45 [some (.ref 0), some (.int x1), some (.int u0), a3, a4, a5, a6] [] (pv_em S) else pv_R mX6_sure 36 [some (.ref 0), some (.int x1), some (.int u0), a3, a4, a5, a6] [] (pv_em S) := Eq.trans (pv_Rstp dX6_sure_31 rfl rfl rfl) (Eq.trans (pv_Rstp dX6_sure_32 rfl rfl rfl) (pv_Rbr (tgt := 45) dX6_sure_33 rfl rfl rfl rfl rfl (by decide)))
set_option maxHeartbeats 200000 in
theorem bX6_sure_36 {S : pv_S} {x1 x2 : Int32} {a3 a4 a5 a6 : Option Value} : pv_R mX6_sure 36 [some (.ref 0), some (.int x1), some (.int x2), a3, a4, a5, a6] [] (pv_em S) = pv_cc (pv_R mX4_answerFinding 0 [some (.ref 35), some (.int 4)] [] (pv_em S)) mX6_sure 44 [some (.ref 0), some (.int x1), some (.int x2), a3, a4, a5, a6] [] := Eq.trans (pv_Rstp dX6_sure_36 rfl rfl rfl) (Eq.trans (pv_Rget dX6_sure_37 ffX6_45 (by decide) (pv_ce_0 _ _) rfl) (Eq.trans (pv_Ric dX6_sure_40 ki_4) (pv_Rcall (As := [.ref 35, .int 4]) (rest := []) dX6_sure_41 rfl mfX6_81 rfl rfl rfl rfl rfl)))
set_option maxHeartbeats 200000 in
theorem bX6_sure_44 {S : pv_S} {x1 x2 u0 : Int32} {a3 a4 a5 a6 : Option Value} : pv_R mX6_sure 44 [some (.ref 0), some (.int x1), some (.int x2), a3, a4, a5, a6] [.int u0] (pv_em S) = some (some (.int u0), pv_em S) := pv_Rret dX6_sure_44 rfl
set_option maxHeartbeats 200000 in
theorem bX6_sure_45 {S : pv_S} {x1 x2 : Int32} {a3 a4 a5 a6 : Option Value} : pv_R mX6_sure 45 [some (.ref 0), some (.int x1), some (.int x2), a3, a4, a5, a6] [] (pv_em S) = pv_R mX6_sure 53 [some (.ref 0), some (.int x1), some (.int x2), some (.int 0), some (.int 0), some (.int 0), a6] [] (pv_em S) := Eq.trans (pv_Ric dX6_sure_45 ki_0) (Eq.trans (pv_Rstp dX6_sure_46 rfl rfl rfl) (Eq.trans (pv_Ric dX6_sure_47 ki_0) (Eq.trans (pv_Rstp dX6_sure_48 rfl rfl rfl) (Eq.trans (pv_Ric dX6_sure_50 ki_0) (pv_Rstp dX6_sure_51 rfl rfl rfl)))))
set_option maxHeartbeats 200000 in
theorem bX6_sure_53 {S : pv_S} {x1 x2 x3 x4 x5 : Int32} {a6 : Option Value} : pv_R mX6_sure 53 [some (.ref 0), some (.int x1), some (.int x2), some (.int x3), some (.int x4), some (.int x5), a6] [] (pv_em S) = if (S.1 21 7) ≤ x5 then pv_R mX6_sure 107 [some (.ref 0), some (.int x1), some (.int x2), some (.int x3), some (.int x4), some (.int x5), a6] [] (pv_em S) else pv_R mX6_sure 65 [some (.ref 0), some (.int x1), some (.int x2), some (.int x3), some (.int x4), some (.int x5), a6] [] (pv_em S) := Eq.trans (pv_Rstp dX6_sure_53 rfl rfl rfl) (Eq.trans (pv_Rstp dX6_sure_55 rfl rfl rfl) (Eq.trans (pv_Rget dX6_sure_56 ffX6_31 (by decide) (pv_ce_0 _ _) rfl) (Eq.trans (pv_Rget dX6_sure_59 ffX6_110 (by decide) (pv_ce_21 _ _) rfl) (pv_Rbr (tgt := 107) dX6_sure_62 rfl rfl rfl rfl rfl (by decide)))))
set_option maxHeartbeats 200000 in
theorem bX6_sure_65 {S : pv_S} {x1 x2 x3 x4 x5 : Int32} {a6 : Option Value} : pv_R mX6_sure 65 [some (.ref 0), some (.int x1), some (.int x2), some (.int x3), some (.int x4), some (.int x5), a6] [] (pv_em S) = pv_cc (pv_R mX6_setsWith 0 [some (.ref 0), some (.int x1), some (.int x5), none, none] [] (pv_em S)) mX6_sure 72 [some (.ref 0), some (.int x1), some (.int x2), some (.int x3), some (.int x4), some (.int x5), a6] [] := Eq.trans (pv_Rstp dX6_sure_65 rfl rfl rfl) (Eq.trans (pv_Rstp dX6_sure_66 rfl rfl rfl) (Eq.trans (pv_Rstp dX6_sure_67 rfl rfl rfl) (pv_Rcall (As := [.ref 0, .int x1, .int x5]) (rest := []) dX6_sure_69 rfl mfX6_248 rfl rfl rfl rfl rfl)))
set_option maxHeartbeats 200000 in
theorem bX6_sure_72 {S : pv_S} {x1 x2 x3 x4 x5 u0 : Int32} {a6 : Option Value} : pv_R mX6_sure 72 [some (.ref 0), some (.int x1), some (.int x2), some (.int x3), some (.int x4), some (.int x5), a6] [.int u0] (pv_em S) = if ¬ u0 = x2 then pv_R mX6_sure 87 [some (.ref 0), some (.int x1), some (.int x2), some (.int x3), some (.int x4), some (.int x5), some (.int u0)] [] (pv_em S) else pv_R mX6_sure 80 [some (.ref 0), some (.int x1), some (.int x2), some (.int x3), some (.int x4), some (.int x5), some (.int u0)] [] (pv_em S) := Eq.trans (pv_Rstp dX6_sure_72 rfl rfl rfl) (Eq.trans (pv_Rstp dX6_sure_74 rfl rfl rfl) (Eq.trans (pv_Rstp dX6_sure_76 rfl rfl rfl) (pv_Rbr (tgt := 87) dX6_sure_77 rfl rfl rfl rfl rfl (by decide))))
set_option maxHeartbeats 200000 in
theorem bX6_sure_80 {S : pv_S} {x1 x2 x3 x4 x5 x6 : Int32} : pv_R mX6_sure 80 [some (.ref 0), some (.int x1), some (.int x2), some (.int x3), some (.int x4), some (.int x5), some (.int x6)] [] (pv_em S) = pv_R mX6_sure 87 [some (.ref 0), some (.int x1), some (.int x2), some (.int (x3 ||| (1 <<< (x5 &&& 31)))), some (.int x4), some (.int x5), some (.int x6)] [] (pv_em S) := Eq.trans (pv_Rstp dX6_sure_80 rfl rfl rfl) (Eq.trans (pv_Ric dX6_sure_81 ki_1) (Eq.trans (pv_Rstp dX6_sure_82 rfl rfl rfl) (Eq.trans (pv_Rstp dX6_sure_84 rfl rfl rfl) (Eq.trans (pv_Rstp dX6_sure_85 rfl rfl rfl) (pv_Rstp dX6_sure_86 rfl rfl rfl)))))
set_option maxHeartbeats 200000 in
theorem bX6_sure_87 {S : pv_S} {x1 x2 x3 x4 x5 x6 : Int32} : pv_R mX6_sure 87 [some (.ref 0), some (.int x1), some (.int x2), some (.int x3), some (.int x4), some (.int x5), some (.int x6)] [] (pv_em S) = if ¬ x6 = 0 then pv_R mX6_sure 101 [some (.ref 0), some (.int x1), some (.int x2), some (.int x3), some (.int x4), some (.int x5), some (.int x6)] [] (pv_em S) else pv_R mX6_sure 92 [some (.ref 0), some (.int x1), some (.int x2), some (.int x3), some (.int x4), some (.int x5), some (.int x6)] [] (pv_em S) := Eq.trans (pv_Rstp dX6_sure_87 rfl rfl rfl) (pv_Rbr (tgt := 101) dX6_sure_89 rfl rfl rfl rfl rfl (by decide))
set_option maxHeartbeats 200000 in
theorem bX6_sure_92 {S : pv_S} {x1 x2 x3 x4 x5 x6 : Int32} : pv_R mX6_sure 92 [some (.ref 0), some (.int x1), some (.int x2), some (.int x3), some (.int x4), some (.int x5), some (.int x6)] [] (pv_em S) = pv_R mX6_sure 101 [some (.ref 0), some (.int x1), some (.int x2), some (.int x3), some (.int (x4 ||| (1 <<< (x5 &&& 31)))), some (.int x5), some (.int x6)] [] (pv_em S) := Eq.trans (pv_Rstp dX6_sure_92 rfl rfl rfl) (Eq.trans (pv_Ric dX6_sure_94 ki_1) (Eq.trans (pv_Rstp dX6_sure_95 rfl rfl rfl) (Eq.trans (pv_Rstp dX6_sure_97 rfl rfl rfl) (Eq.trans (pv_Rstp dX6_sure_98 rfl rfl rfl) (pv_Rstp dX6_sure_99 rfl rfl rfl)))))
set_option maxHeartbeats 200000 in
theorem bX6_sure_101 {S : pv_S} {x1 x2 x3 x4 x5 x6 : Int32} : pv_R mX6_sure 101 [some (.ref 0), some (.int x1), some (.int x2), some (.int x3), some (.int x4), some (.int x5), some (.int x6)] [] (pv_em S) = pv_R mX6_sure 53 [some (.ref 0), some (.int x1), some (.int x2), some (.int x3), some (.int x4), some (.int (x5 + 1)), some (.int x6)] [] (pv_em S) := Eq.trans (pv_Rinc dX6_sure_101 rfl (Nat.le_of_ble_eq_true rfl) ki_1 rfl) (pv_Rgo (tgt := 53) dX6_sure_104 rfl (by decide))
set_option maxHeartbeats 200000 in
theorem bX6_sure_107 {S : pv_S} {x1 x2 x3 x4 x5 : Int32} {a6 : Option Value} : pv_R mX6_sure 107 [some (.ref 0), some (.int x1), some (.int x2), some (.int x3), some (.int x4), some (.int x5), a6] [] (pv_em S) = some (some (.int x3), pv_em (pv_si S 35 1 x4)) := Eq.trans (pv_Rstp dX6_sure_107 rfl rfl rfl) (Eq.trans (pv_Rget dX6_sure_108 ffX6_45 (by decide) (pv_ce_0 _ _) rfl) (Eq.trans (pv_Rstp dX6_sure_111 rfl rfl rfl) (Eq.trans (pv_Rput dX6_sure_113 ffX6_61 rfl rfl rfl (by decide) (pv_ce_35 _ _) (Nat.le_of_ble_eq_true rfl) (pv_em_si rfl)) (Eq.trans (pv_Rstp dX6_sure_116 rfl rfl rfl) (pv_Rret dX6_sure_117 rfl)))))
theorem dX6_ask_0 : decode cX6_ask 0 = .ok (.iload_n 1, 1) := by decide +kernel
theorem dX6_ask_1 : decode cX6_ask 1 = .ok (.iconst 0, 1) := by decide +kernel
theorem dX6_ask_2 : decode cX6_ask 2 = .ok (.sipush 1200, 3) := by decide +kernel
theorem dX6_ask_5 : decode cX6_ask 5 = .ok (.invokestatic 116, 3) := by decide +kernel
theorem dX6_ask_8 : decode cX6_ask 8 = .ok (.ifCond .ne 5, 3) := by decide +kernel
theorem dX6_ask_11 : decode cX6_ask 11 = .ok (.iconst (-1), 1) := by decide +kernel
theorem dX6_ask_12 : decode cX6_ask 12 = .ok (.ireturn, 1) := by decide +kernel
theorem dX6_ask_13 : decode cX6_ask 13 = .ok (.aload_n 0, 1) := by decide +kernel
theorem dX6_ask_14 : decode cX6_ask 14 = .ok (.getfield 31, 3) := by decide +kernel
theorem dX6_ask_17 : decode cX6_ask 17 = .ok (.getfield 110, 3) := by decide +kernel
theorem dX6_ask_20 : decode cX6_ask 20 = .ok (.ifCond .ne 6, 3) := by decide +kernel
theorem dX6_ask_23 : decode cX6_ask 23 = .ok (.bipush (-4), 2) := by decide +kernel
theorem dX6_ask_25 : decode cX6_ask 25 = .ok (.ireturn, 1) := by decide +kernel
theorem dX6_ask_26 : decode cX6_ask 26 = .ok (.aload_n 0, 1) := by decide +kernel
theorem dX6_ask_27 : decode cX6_ask 27 = .ok (.iload_n 1, 1) := by decide +kernel
theorem dX6_ask_28 : decode cX6_ask 28 = .ok (.invokevirtual 241, 3) := by decide +kernel
theorem dX6_ask_31 : decode cX6_ask 31 = .ok (.istore_n 2, 1) := by decide +kernel
theorem dX6_ask_32 : decode cX6_ask 32 = .ok (.iload_n 2, 1) := by decide +kernel
theorem dX6_ask_33 : decode cX6_ask 33 = .ok (.ifCond .ne 12, 3) := by decide +kernel
theorem dX6_ask_36 : decode cX6_ask 36 = .ok (.aload_n 0, 1) := by decide +kernel
theorem dX6_ask_37 : decode cX6_ask 37 = .ok (.getfield 45, 3) := by decide +kernel
theorem dX6_ask_40 : decode cX6_ask 40 = .ok (.iconst 4, 1) := by decide +kernel
theorem dX6_ask_41 : decode cX6_ask 41 = .ok (.invokevirtual 81, 3) := by decide +kernel
theorem dX6_ask_44 : decode cX6_ask 44 = .ok (.ireturn, 1) := by decide +kernel
theorem dX6_ask_45 : decode cX6_ask 45 = .ok (.iconst 0, 1) := by decide +kernel
theorem dX6_ask_46 : decode cX6_ask 46 = .ok (.istore_n 3, 1) := by decide +kernel
theorem dX6_ask_47 : decode cX6_ask 47 = .ok (.iload_n 2, 1) := by decide +kernel
theorem dX6_ask_48 : decode cX6_ask 48 = .ok (.iconst 1, 1) := by decide +kernel
theorem dX6_ask_49 : decode cX6_ask 49 = .ok (.iadd, 1) := by decide +kernel
theorem dX6_ask_50 : decode cX6_ask 50 = .ok (.istore 4, 2) := by decide +kernel
theorem dX6_ask_52 : decode cX6_ask 52 = .ok (.iconst 0, 1) := by decide +kernel
theorem dX6_ask_53 : decode cX6_ask 53 = .ok (.istore 5, 2) := by decide +kernel
theorem dX6_ask_55 : decode cX6_ask 55 = .ok (.iload 5, 2) := by decide +kernel
theorem dX6_ask_57 : decode cX6_ask 57 = .ok (.aload_n 0, 1) := by decide +kernel
theorem dX6_ask_58 : decode cX6_ask 58 = .ok (.getfield 31, 3) := by decide +kernel
theorem dX6_ask_61 : decode cX6_ask 61 = .ok (.getfield 110, 3) := by decide +kernel
theorem dX6_ask_64 : decode cX6_ask 64 = .ok (.if_icmp .ge 43, 3) := by decide +kernel
theorem dX6_ask_67 : decode cX6_ask 67 = .ok (.aload_n 0, 1) := by decide +kernel
theorem dX6_ask_68 : decode cX6_ask 68 = .ok (.iload_n 1, 1) := by decide +kernel
theorem dX6_ask_69 : decode cX6_ask 69 = .ok (.iload 5, 2) := by decide +kernel
theorem dX6_ask_71 : decode cX6_ask 71 = .ok (.invokevirtual 248, 3) := by decide +kernel
theorem dX6_ask_74 : decode cX6_ask 74 = .ok (.istore 6, 2) := by decide +kernel
theorem dX6_ask_76 : decode cX6_ask 76 = .ok (.iload 6, 2) := by decide +kernel
theorem dX6_ask_78 : decode cX6_ask 78 = .ok (.iload_n 2, 1) := by decide +kernel
theorem dX6_ask_79 : decode cX6_ask 79 = .ok (.iload 6, 2) := by decide +kernel
theorem dX6_ask_81 : decode cX6_ask 81 = .ok (.isub, 1) := by decide +kernel
theorem dX6_ask_82 : decode cX6_ask 82 = .ok (.invokestatic 251, 3) := by decide +kernel
theorem dX6_ask_85 : decode cX6_ask 85 = .ok (.istore 7, 2) := by decide +kernel
theorem dX6_ask_87 : decode cX6_ask 87 = .ok (.iload 7, 2) := by decide +kernel
theorem dX6_ask_89 : decode cX6_ask 89 = .ok (.iload 4, 2) := by decide +kernel
theorem dX6_ask_91 : decode cX6_ask 91 = .ok (.if_icmp .ge 10, 3) := by decide +kernel
theorem dX6_ask_94 : decode cX6_ask 94 = .ok (.iload 5, 2) := by decide +kernel
theorem dX6_ask_96 : decode cX6_ask 96 = .ok (.istore_n 3, 1) := by decide +kernel
theorem dX6_ask_97 : decode cX6_ask 97 = .ok (.iload 7, 2) := by decide +kernel
theorem dX6_ask_99 : decode cX6_ask 99 = .ok (.istore 4, 2) := by decide +kernel
theorem dX6_ask_101 : decode cX6_ask 101 = .ok (.iinc 5 1, 3) := by decide +kernel
theorem dX6_ask_104 : decode cX6_ask 104 = .ok (.goto (-49), 3) := by decide +kernel
theorem dX6_ask_107 : decode cX6_ask 107 = .ok (.aload_n 0, 1) := by decide +kernel
theorem dX6_ask_108 : decode cX6_ask 108 = .ok (.getfield 45, 3) := by decide +kernel
theorem dX6_ask_111 : decode cX6_ask 111 = .ok (.iload 4, 2) := by decide +kernel
theorem dX6_ask_113 : decode cX6_ask 113 = .ok (.putfield 61, 3) := by decide +kernel
theorem dX6_ask_116 : decode cX6_ask 116 = .ok (.iload_n 3, 1) := by decide +kernel
theorem dX6_ask_117 : decode cX6_ask 117 = .ok (.ireturn, 1) := by decide +kernel
set_option maxHeartbeats 200000 in
theorem bX6_ask_0 {S : pv_S} {x1 : Int32} {a2 a3 a4 a5 a6 a7 : Option Value} : pv_R mX6_ask 0 [some (.ref 0), some (.int x1), a2, a3, a4, a5, a6, a7] [] (pv_em S) = pv_cc (pv_R mX6_isWithin 0 [some (.int x1), some (.int 0), some (.int 1200)] [] (pv_em S)) mX6_ask 8 [some (.ref 0), some (.int x1), a2, a3, a4, a5, a6, a7] [] := Eq.trans (pv_Rstp dX6_ask_0 rfl rfl rfl) (Eq.trans (pv_Ric dX6_ask_1 ki_0) (Eq.trans (pv_Rsp dX6_ask_2 ks_1200) (pv_Rcall (As := [.int x1, .int 0, .int 1200]) (rest := []) dX6_ask_5 rfl mfX6_116 rfl rfl rfl rfl rfl)))
set_option maxHeartbeats 200000 in
theorem bX6_ask_8 {S : pv_S} {x1 u0 : Int32} {a2 a3 a4 a5 a6 a7 : Option Value} : pv_R mX6_ask 8 [some (.ref 0), some (.int x1), a2, a3, a4, a5, a6, a7] [.int u0] (pv_em S) = if ¬ u0 = 0 then pv_R mX6_ask 13 [some (.ref 0), some (.int x1), a2, a3, a4, a5, a6, a7] [] (pv_em S) else pv_R mX6_ask 11 [some (.ref 0), some (.int x1), a2, a3, a4, a5, a6, a7] [] (pv_em S) := pv_Rbr (tgt := 13) dX6_ask_8 rfl rfl rfl rfl rfl (by decide)
set_option maxHeartbeats 200000 in
theorem bX6_ask_11 {S : pv_S} {x1 : Int32} {a2 a3 a4 a5 a6 a7 : Option Value} : pv_R mX6_ask 11 [some (.ref 0), some (.int x1), a2, a3, a4, a5, a6, a7] [] (pv_em S) = some (some (.int (-1)), pv_em S) := Eq.trans (pv_Ric dX6_ask_11 ki_m1) (pv_Rret dX6_ask_12 rfl)
set_option maxHeartbeats 200000 in
theorem bX6_ask_13 {S : pv_S} {x1 : Int32} {a2 a3 a4 a5 a6 a7 : Option Value} : pv_R mX6_ask 13 [some (.ref 0), some (.int x1), a2, a3, a4, a5, a6, a7] [] (pv_em S) = if ¬ (S.1 21 7) = 0 then pv_R mX6_ask 26 [some (.ref 0), some (.int x1), a2, a3, a4, a5, a6, a7] [] (pv_em S) else pv_R mX6_ask 23 [some (.ref 0), some (.int x1), a2, a3, a4, a5, a6, a7] [] (pv_em S) := Eq.trans (pv_Rstp dX6_ask_13 rfl rfl rfl) (Eq.trans (pv_Rget dX6_ask_14 ffX6_31 (by decide) (pv_ce_0 _ _) rfl) (Eq.trans (pv_Rget dX6_ask_17 ffX6_110 (by decide) (pv_ce_21 _ _) rfl) (pv_Rbr (tgt := 26) dX6_ask_20 rfl rfl rfl rfl rfl (by decide))))
set_option maxHeartbeats 200000 in
theorem bX6_ask_23 {S : pv_S} {x1 : Int32} {a2 a3 a4 a5 a6 a7 : Option Value} : pv_R mX6_ask 23 [some (.ref 0), some (.int x1), a2, a3, a4, a5, a6, a7] [] (pv_em S) = some (some (.int (-4)), pv_em S) := Eq.trans (pv_Rbp dX6_ask_23 kb_m4) (pv_Rret dX6_ask_25 rfl)
set_option maxHeartbeats 200000 in
theorem bX6_ask_26 {S : pv_S} {x1 : Int32} {a2 a3 a4 a5 a6 a7 : Option Value} : pv_R mX6_ask 26 [some (.ref 0), some (.int x1), a2, a3, a4, a5, a6, a7] [] (pv_em S) = pv_cc (pv_R mX6_setsOf 0 [some (.ref 0), some (.int x1), none, none] [] (pv_em S)) mX6_ask 31 [some (.ref 0), some (.int x1), a2, a3, a4, a5, a6, a7] [] := Eq.trans (pv_Rstp dX6_ask_26 rfl rfl rfl) (Eq.trans (pv_Rstp dX6_ask_27 rfl rfl rfl) (pv_Rcall (As := [.ref 0, .int x1]) (rest := []) dX6_ask_28 rfl mfX6_241 rfl rfl rfl rfl rfl))
set_option maxHeartbeats 200000 in
theorem bX6_ask_31 {S : pv_S} {x1 u0 : Int32} {a2 a3 a4 a5 a6 a7 : Option Value} : pv_R mX6_ask 31 [some (.ref 0), some (.int x1), a2, a3, a4, a5, a6, a7] [.int u0] (pv_em S) = if ¬ u0 = 0 then pv_R mX6_ask 45 [some (.ref 0), some (.int x1), some (.int u0), a3, a4, a5, a6, a7] [] (pv_em S) else pv_R mX6_ask 36 [some (.ref 0), some (.int x1), some (.int u0), a3, a4, a5, a6, a7] [] (pv_em S) := Eq.trans (pv_Rstp dX6_ask_31 rfl rfl rfl) (Eq.trans (pv_Rstp dX6_ask_32 rfl rfl rfl) (pv_Rbr (tgt := 45) dX6_ask_33 rfl rfl rfl rfl rfl (by decide)))
set_option maxHeartbeats 200000 in
theorem bX6_ask_36 {S : pv_S} {x1 x2 : Int32} {a3 a4 a5 a6 a7 : Option Value} : pv_R mX6_ask 36 [some (.ref 0), some (.int x1), some (.int x2), a3, a4, a5, a6, a7] [] (pv_em S) = pv_cc (pv_R mX4_answerFinding 0 [some (.ref 35), some (.int 4)] [] (pv_em S)) mX6_ask 44 [some (.ref 0), some (.int x1), some (.int x2), a3, a4, a5, a6, a7] [] := Eq.trans (pv_Rstp dX6_ask_36 rfl rfl rfl) (Eq.trans (pv_Rget dX6_ask_37 ffX6_45 (by decide) (pv_ce_0 _ _) rfl) (Eq.trans (pv_Ric dX6_ask_40 ki_4) (pv_Rcall (As := [.ref 35, .int 4]) (rest := []) dX6_ask_41 rfl mfX6_81 rfl rfl rfl rfl rfl)))
set_option maxHeartbeats 200000 in
theorem bX6_ask_44 {S : pv_S} {x1 x2 u0 : Int32} {a3 a4 a5 a6 a7 : Option Value} : pv_R mX6_ask 44 [some (.ref 0), some (.int x1), some (.int x2), a3, a4, a5, a6, a7] [.int u0] (pv_em S) = some (some (.int u0), pv_em S) := pv_Rret dX6_ask_44 rfl
set_option maxHeartbeats 200000 in
theorem bX6_ask_45 {S : pv_S} {x1 x2 : Int32} {a3 a4 a5 a6 a7 : Option Value} : pv_R mX6_ask 45 [some (.ref 0), some (.int x1), some (.int x2), a3, a4, a5, a6, a7] [] (pv_em S) = pv_R mX6_ask 55 [some (.ref 0), some (.int x1), some (.int x2), some (.int 0), some (.int (x2 + 1)), some (.int 0), a6, a7] [] (pv_em S) := Eq.trans (pv_Ric dX6_ask_45 ki_0) (Eq.trans (pv_Rstp dX6_ask_46 rfl rfl rfl) (Eq.trans (pv_Rstp dX6_ask_47 rfl rfl rfl) (Eq.trans (pv_Ric dX6_ask_48 ki_1) (Eq.trans (pv_Rstp dX6_ask_49 rfl rfl rfl) (Eq.trans (pv_Rstp dX6_ask_50 rfl rfl rfl) (Eq.trans (pv_Ric dX6_ask_52 ki_0) (pv_Rstp dX6_ask_53 rfl rfl rfl)))))))
set_option maxHeartbeats 200000 in
theorem bX6_ask_55 {S : pv_S} {x1 x2 x3 x4 x5 : Int32} {a6 a7 : Option Value} : pv_R mX6_ask 55 [some (.ref 0), some (.int x1), some (.int x2), some (.int x3), some (.int x4), some (.int x5), a6, a7] [] (pv_em S) = if (S.1 21 7) ≤ x5 then pv_R mX6_ask 107 [some (.ref 0), some (.int x1), some (.int x2), some (.int x3), some (.int x4), some (.int x5), a6, a7] [] (pv_em S) else pv_R mX6_ask 67 [some (.ref 0), some (.int x1), some (.int x2), some (.int x3), some (.int x4), some (.int x5), a6, a7] [] (pv_em S) := Eq.trans (pv_Rstp dX6_ask_55 rfl rfl rfl) (Eq.trans (pv_Rstp dX6_ask_57 rfl rfl rfl) (Eq.trans (pv_Rget dX6_ask_58 ffX6_31 (by decide) (pv_ce_0 _ _) rfl) (Eq.trans (pv_Rget dX6_ask_61 ffX6_110 (by decide) (pv_ce_21 _ _) rfl) (pv_Rbr (tgt := 107) dX6_ask_64 rfl rfl rfl rfl rfl (by decide)))))
set_option maxHeartbeats 200000 in
theorem bX6_ask_67 {S : pv_S} {x1 x2 x3 x4 x5 : Int32} {a6 a7 : Option Value} : pv_R mX6_ask 67 [some (.ref 0), some (.int x1), some (.int x2), some (.int x3), some (.int x4), some (.int x5), a6, a7] [] (pv_em S) = pv_cc (pv_R mX6_setsWith 0 [some (.ref 0), some (.int x1), some (.int x5), none, none] [] (pv_em S)) mX6_ask 74 [some (.ref 0), some (.int x1), some (.int x2), some (.int x3), some (.int x4), some (.int x5), a6, a7] [] := Eq.trans (pv_Rstp dX6_ask_67 rfl rfl rfl) (Eq.trans (pv_Rstp dX6_ask_68 rfl rfl rfl) (Eq.trans (pv_Rstp dX6_ask_69 rfl rfl rfl) (pv_Rcall (As := [.ref 0, .int x1, .int x5]) (rest := []) dX6_ask_71 rfl mfX6_248 rfl rfl rfl rfl rfl)))
set_option maxHeartbeats 200000 in
theorem bX6_ask_74 {S : pv_S} {x1 x2 x3 x4 x5 u0 : Int32} {a6 a7 : Option Value} : pv_R mX6_ask 74 [some (.ref 0), some (.int x1), some (.int x2), some (.int x3), some (.int x4), some (.int x5), a6, a7] [.int u0] (pv_em S) = if x4 ≤ (if u0 < (x2 - u0) then (x2 - u0) else u0) then pv_R mX6_ask 101 [some (.ref 0), some (.int x1), some (.int x2), some (.int x3), some (.int x4), some (.int x5), some (.int u0), some (.int (if u0 < (x2 - u0) then (x2 - u0) else u0))] [] (pv_em S) else pv_R mX6_ask 94 [some (.ref 0), some (.int x1), some (.int x2), some (.int x3), some (.int x4), some (.int x5), some (.int u0), some (.int (if u0 < (x2 - u0) then (x2 - u0) else u0))] [] (pv_em S) := Eq.trans (pv_Rstp dX6_ask_74 rfl rfl rfl) (Eq.trans (pv_Rstp dX6_ask_76 rfl rfl rfl) (Eq.trans (pv_Rstp dX6_ask_78 rfl rfl rfl) (Eq.trans (pv_Rstp dX6_ask_79 rfl rfl rfl) (Eq.trans (pv_Rstp dX6_ask_81 rfl rfl rfl) (Eq.trans (pv_Rmx dX6_ask_82 mfX6_251 rfl rfl) (Eq.trans (pv_Rstp dX6_ask_85 rfl rfl rfl) (Eq.trans (pv_Rstp dX6_ask_87 rfl rfl rfl) (Eq.trans (pv_Rstp dX6_ask_89 rfl rfl rfl) (pv_Rbr (tgt := 101) dX6_ask_91 rfl rfl rfl rfl rfl (by decide))))))))))
set_option maxHeartbeats 200000 in
theorem bX6_ask_94 {S : pv_S} {x1 x2 x3 x4 x5 x6 x7 : Int32} : pv_R mX6_ask 94 [some (.ref 0), some (.int x1), some (.int x2), some (.int x3), some (.int x4), some (.int x5), some (.int x6), some (.int x7)] [] (pv_em S) = pv_R mX6_ask 101 [some (.ref 0), some (.int x1), some (.int x2), some (.int x5), some (.int x7), some (.int x5), some (.int x6), some (.int x7)] [] (pv_em S) := Eq.trans (pv_Rstp dX6_ask_94 rfl rfl rfl) (Eq.trans (pv_Rstp dX6_ask_96 rfl rfl rfl) (Eq.trans (pv_Rstp dX6_ask_97 rfl rfl rfl) (pv_Rstp dX6_ask_99 rfl rfl rfl)))
set_option maxHeartbeats 200000 in
theorem bX6_ask_101 {S : pv_S} {x1 x2 x3 x4 x5 x6 x7 : Int32} : pv_R mX6_ask 101 [some (.ref 0), some (.int x1), some (.int x2), some (.int x3), some (.int x4), some (.int x5), some (.int x6), some (.int x7)] [] (pv_em S) = pv_R mX6_ask 55 [some (.ref 0), some (.int x1), some (.int x2), some (.int x3), some (.int x4), some (.int (x5 + 1)), some (.int x6), some (.int x7)] [] (pv_em S) := Eq.trans (pv_Rinc dX6_ask_101 rfl (Nat.le_of_ble_eq_true rfl) ki_1 rfl) (pv_Rgo (tgt := 55) dX6_ask_104 rfl (by decide))
set_option maxHeartbeats 200000 in
theorem bX6_ask_107 {S : pv_S} {x1 x2 x3 x4 x5 : Int32} {a6 a7 : Option Value} : pv_R mX6_ask 107 [some (.ref 0), some (.int x1), some (.int x2), some (.int x3), some (.int x4), some (.int x5), a6, a7] [] (pv_em S) = some (some (.int x3), pv_em (pv_si S 35 1 x4)) := Eq.trans (pv_Rstp dX6_ask_107 rfl rfl rfl) (Eq.trans (pv_Rget dX6_ask_108 ffX6_45 (by decide) (pv_ce_0 _ _) rfl) (Eq.trans (pv_Rstp dX6_ask_111 rfl rfl rfl) (Eq.trans (pv_Rput dX6_ask_113 ffX6_61 rfl rfl rfl (by decide) (pv_ce_35 _ _) (Nat.le_of_ble_eq_true rfl) (pv_em_si rfl)) (Eq.trans (pv_Rstp dX6_ask_116 rfl rfl rfl) (pv_Rret dX6_ask_117 rfl)))))
theorem dX6_kinds_0 : decode cX6_kinds 0 = .ok (.aload_n 0, 1) := by decide +kernel
theorem dX6_kinds_1 : decode cX6_kinds 1 = .ok (.iload_n 1, 1) := by decide +kernel
theorem dX6_kinds_2 : decode cX6_kinds 2 = .ok (.iload_n 2, 1) := by decide +kernel
theorem dX6_kinds_3 : decode cX6_kinds 3 = .ok (.invokevirtual 254, 3) := by decide +kernel
theorem dX6_kinds_6 : decode cX6_kinds 6 = .ok (.istore_n 3, 1) := by decide +kernel
theorem dX6_kinds_7 : decode cX6_kinds 7 = .ok (.iload_n 3, 1) := by decide +kernel
theorem dX6_kinds_8 : decode cX6_kinds 8 = .ok (.ifCond .eq 5, 3) := by decide +kernel
theorem dX6_kinds_11 : decode cX6_kinds 11 = .ok (.iload_n 3, 1) := by decide +kernel
theorem dX6_kinds_12 : decode cX6_kinds 12 = .ok (.ireturn, 1) := by decide +kernel
theorem dX6_kinds_13 : decode cX6_kinds 13 = .ok (.aload_n 0, 1) := by decide +kernel
theorem dX6_kinds_14 : decode cX6_kinds 14 = .ok (.iload_n 1, 1) := by decide +kernel
theorem dX6_kinds_15 : decode cX6_kinds 15 = .ok (.iload_n 2, 1) := by decide +kernel
theorem dX6_kinds_16 : decode cX6_kinds 16 = .ok (.invokevirtual 257, 3) := by decide +kernel
theorem dX6_kinds_19 : decode cX6_kinds 19 = .ok (.ireturn, 1) := by decide +kernel
set_option maxHeartbeats 200000 in
theorem bX6_kinds_0 {S : pv_S} {x1 x2 : Int32} {a3 : Option Value} : pv_R mX6_kinds 0 [some (.ref 0), some (.int x1), some (.int x2), a3] [] (pv_em S) = pv_cc (pv_R mX6_refuseLedger 0 [some (.ref 0), some (.int x1), some (.int x2), none, none] [] (pv_em S)) mX6_kinds 6 [some (.ref 0), some (.int x1), some (.int x2), a3] [] := Eq.trans (pv_Rstp dX6_kinds_0 rfl rfl rfl) (Eq.trans (pv_Rstp dX6_kinds_1 rfl rfl rfl) (Eq.trans (pv_Rstp dX6_kinds_2 rfl rfl rfl) (pv_Rcall (As := [.ref 0, .int x1, .int x2]) (rest := []) dX6_kinds_3 rfl mfX6_254 rfl rfl rfl rfl rfl)))
set_option maxHeartbeats 200000 in
theorem bX6_kinds_6 {S : pv_S} {x1 x2 u0 : Int32} {a3 : Option Value} : pv_R mX6_kinds 6 [some (.ref 0), some (.int x1), some (.int x2), a3] [.int u0] (pv_em S) = if u0 = 0 then pv_R mX6_kinds 13 [some (.ref 0), some (.int x1), some (.int x2), some (.int u0)] [] (pv_em S) else pv_R mX6_kinds 11 [some (.ref 0), some (.int x1), some (.int x2), some (.int u0)] [] (pv_em S) := Eq.trans (pv_Rstp dX6_kinds_6 rfl rfl rfl) (Eq.trans (pv_Rstp dX6_kinds_7 rfl rfl rfl) (pv_Rbr (tgt := 13) dX6_kinds_8 rfl rfl rfl rfl rfl (by decide)))
set_option maxHeartbeats 200000 in
theorem bX6_kinds_11 {S : pv_S} {x1 x2 x3 : Int32} : pv_R mX6_kinds 11 [some (.ref 0), some (.int x1), some (.int x2), some (.int x3)] [] (pv_em S) = some (some (.int x3), pv_em S) := Eq.trans (pv_Rstp dX6_kinds_11 rfl rfl rfl) (pv_Rret dX6_kinds_12 rfl)
set_option maxHeartbeats 200000 in
theorem bX6_kinds_13 {S : pv_S} {x1 x2 x3 : Int32} : pv_R mX6_kinds 13 [some (.ref 0), some (.int x1), some (.int x2), some (.int x3)] [] (pv_em S) = pv_cc (pv_R mX6_kindsFitting 0 [some (.ref 0), some (.int x1), some (.int x2), none, none] [] (pv_em S)) mX6_kinds 19 [some (.ref 0), some (.int x1), some (.int x2), some (.int x3)] [] := Eq.trans (pv_Rstp dX6_kinds_13 rfl rfl rfl) (Eq.trans (pv_Rstp dX6_kinds_14 rfl rfl rfl) (Eq.trans (pv_Rstp dX6_kinds_15 rfl rfl rfl) (pv_Rcall (As := [.ref 0, .int x1, .int x2]) (rest := []) dX6_kinds_16 rfl mfX6_257 rfl rfl rfl rfl rfl)))
set_option maxHeartbeats 200000 in
theorem bX6_kinds_19 {S : pv_S} {x1 x2 x3 u0 : Int32} : pv_R mX6_kinds 19 [some (.ref 0), some (.int x1), some (.int x2), some (.int x3)] [.int u0] (pv_em S) = some (some (.int u0), pv_em S) := pv_Rret dX6_kinds_19 rfl
theorem dX6_weights_0 : decode cX6_weights 0 = .ok (.aload_n 0, 1) := by decide +kernel
theorem dX6_weights_1 : decode cX6_weights 1 = .ok (.iload_n 1, 1) := by decide +kernel
theorem dX6_weights_2 : decode cX6_weights 2 = .ok (.iload_n 2, 1) := by decide +kernel
theorem dX6_weights_3 : decode cX6_weights 3 = .ok (.invokevirtual 254, 3) := by decide +kernel
theorem dX6_weights_6 : decode cX6_weights 6 = .ok (.istore_n 3, 1) := by decide +kernel
theorem dX6_weights_7 : decode cX6_weights 7 = .ok (.iload_n 3, 1) := by decide +kernel
theorem dX6_weights_8 : decode cX6_weights 8 = .ok (.ifCond .eq 5, 3) := by decide +kernel
theorem dX6_weights_11 : decode cX6_weights 11 = .ok (.iload_n 3, 1) := by decide +kernel
theorem dX6_weights_12 : decode cX6_weights 12 = .ok (.ireturn, 1) := by decide +kernel
theorem dX6_weights_13 : decode cX6_weights 13 = .ok (.iconst 0, 1) := by decide +kernel
theorem dX6_weights_14 : decode cX6_weights 14 = .ok (.istore 4, 2) := by decide +kernel
theorem dX6_weights_16 : decode cX6_weights 16 = .ok (.bipush (-9), 2) := by decide +kernel
theorem dX6_weights_18 : decode cX6_weights 18 = .ok (.istore 5, 2) := by decide +kernel
theorem dX6_weights_20 : decode cX6_weights 20 = .ok (.sipush 200, 3) := by decide +kernel
theorem dX6_weights_23 : decode cX6_weights 23 = .ok (.istore 6, 2) := by decide +kernel
theorem dX6_weights_25 : decode cX6_weights 25 = .ok (.iload 6, 2) := by decide +kernel
theorem dX6_weights_27 : decode cX6_weights 27 = .ok (.iconst 1, 1) := by decide +kernel
theorem dX6_weights_28 : decode cX6_weights 28 = .ok (.if_icmp .lt 35, 3) := by decide +kernel
theorem dX6_weights_31 : decode cX6_weights 31 = .ok (.aload_n 0, 1) := by decide +kernel
theorem dX6_weights_32 : decode cX6_weights 32 = .ok (.aload_n 0, 1) := by decide +kernel
theorem dX6_weights_33 : decode cX6_weights 33 = .ok (.getfield 31, 3) := by decide +kernel
theorem dX6_weights_36 : decode cX6_weights 36 = .ok (.getfield 122, 3) := by decide +kernel
theorem dX6_weights_39 : decode cX6_weights 39 = .ok (.iload_n 1, 1) := by decide +kernel
theorem dX6_weights_40 : decode cX6_weights 40 = .ok (.iaload, 1) := by decide +kernel
theorem dX6_weights_41 : decode cX6_weights 41 = .ok (.iload 6, 2) := by decide +kernel
theorem dX6_weights_43 : decode cX6_weights 43 = .ok (.iload_n 2, 1) := by decide +kernel
theorem dX6_weights_44 : decode cX6_weights 44 = .ok (.invokevirtual 260, 3) := by decide +kernel
theorem dX6_weights_47 : decode cX6_weights 47 = .ok (.ifCond .eq 10, 3) := by decide +kernel
theorem dX6_weights_50 : decode cX6_weights 50 = .ok (.iinc 4 1, 3) := by decide +kernel
theorem dX6_weights_53 : decode cX6_weights 53 = .ok (.iload 6, 2) := by decide +kernel
theorem dX6_weights_55 : decode cX6_weights 55 = .ok (.istore 5, 2) := by decide +kernel
theorem dX6_weights_57 : decode cX6_weights 57 = .ok (.iinc 6 (-1), 3) := by decide +kernel
theorem dX6_weights_60 : decode cX6_weights 60 = .ok (.goto (-35), 3) := by decide +kernel
theorem dX6_weights_63 : decode cX6_weights 63 = .ok (.aload_n 0, 1) := by decide +kernel
theorem dX6_weights_64 : decode cX6_weights 64 = .ok (.getfield 45, 3) := by decide +kernel
theorem dX6_weights_67 : decode cX6_weights 67 = .ok (.iload 5, 2) := by decide +kernel
theorem dX6_weights_69 : decode cX6_weights 69 = .ok (.putfield 61, 3) := by decide +kernel
theorem dX6_weights_72 : decode cX6_weights 72 = .ok (.iload 4, 2) := by decide +kernel
theorem dX6_weights_74 : decode cX6_weights 74 = .ok (.ireturn, 1) := by decide +kernel
set_option maxHeartbeats 200000 in
theorem bX6_weights_0 {S : pv_S} {x1 x2 : Int32} {a3 a4 a5 a6 : Option Value} : pv_R mX6_weights 0 [some (.ref 0), some (.int x1), some (.int x2), a3, a4, a5, a6] [] (pv_em S) = pv_cc (pv_R mX6_refuseLedger 0 [some (.ref 0), some (.int x1), some (.int x2), none, none] [] (pv_em S)) mX6_weights 6 [some (.ref 0), some (.int x1), some (.int x2), a3, a4, a5, a6] [] := Eq.trans (pv_Rstp dX6_weights_0 rfl rfl rfl) (Eq.trans (pv_Rstp dX6_weights_1 rfl rfl rfl) (Eq.trans (pv_Rstp dX6_weights_2 rfl rfl rfl) (pv_Rcall (As := [.ref 0, .int x1, .int x2]) (rest := []) dX6_weights_3 rfl mfX6_254 rfl rfl rfl rfl rfl)))
set_option maxHeartbeats 200000 in
theorem bX6_weights_6 {S : pv_S} {x1 x2 u0 : Int32} {a3 a4 a5 a6 : Option Value} : pv_R mX6_weights 6 [some (.ref 0), some (.int x1), some (.int x2), a3, a4, a5, a6] [.int u0] (pv_em S) = if u0 = 0 then pv_R mX6_weights 13 [some (.ref 0), some (.int x1), some (.int x2), some (.int u0), a4, a5, a6] [] (pv_em S) else pv_R mX6_weights 11 [some (.ref 0), some (.int x1), some (.int x2), some (.int u0), a4, a5, a6] [] (pv_em S) := Eq.trans (pv_Rstp dX6_weights_6 rfl rfl rfl) (Eq.trans (pv_Rstp dX6_weights_7 rfl rfl rfl) (pv_Rbr (tgt := 13) dX6_weights_8 rfl rfl rfl rfl rfl (by decide)))
set_option maxHeartbeats 200000 in
theorem bX6_weights_11 {S : pv_S} {x1 x2 x3 : Int32} {a4 a5 a6 : Option Value} : pv_R mX6_weights 11 [some (.ref 0), some (.int x1), some (.int x2), some (.int x3), a4, a5, a6] [] (pv_em S) = some (some (.int x3), pv_em S) := Eq.trans (pv_Rstp dX6_weights_11 rfl rfl rfl) (pv_Rret dX6_weights_12 rfl)
set_option maxHeartbeats 200000 in
theorem bX6_weights_13 {S : pv_S} {x1 x2 x3 : Int32} {a4 a5 a6 : Option Value} : pv_R mX6_weights 13 [some (.ref 0), some (.int x1), some (.int x2), some (.int x3), a4, a5, a6] [] (pv_em S) = pv_R mX6_weights 25 [some (.ref 0), some (.int x1), some (.int x2), some (.int x3), some (.int 0), some (.int (-9)), some (.int 200)] [] (pv_em S) := Eq.trans (pv_Ric dX6_weights_13 ki_0) (Eq.trans (pv_Rstp dX6_weights_14 rfl rfl rfl) (Eq.trans (pv_Rbp dX6_weights_16 kb_m9) (Eq.trans (pv_Rstp dX6_weights_18 rfl rfl rfl) (Eq.trans (pv_Rsp dX6_weights_20 ks_200) (pv_Rstp dX6_weights_23 rfl rfl rfl)))))
set_option maxHeartbeats 200000 in
theorem bX6_weights_25 {S : pv_S} {x1 x2 x3 x4 x5 x6 : Int32} : pv_R mX6_weights 25 [some (.ref 0), some (.int x1), some (.int x2), some (.int x3), some (.int x4), some (.int x5), some (.int x6)] [] (pv_em S) = if x6 < 1 then pv_R mX6_weights 63 [some (.ref 0), some (.int x1), some (.int x2), some (.int x3), some (.int x4), some (.int x5), some (.int x6)] [] (pv_em S) else pv_R mX6_weights 31 [some (.ref 0), some (.int x1), some (.int x2), some (.int x3), some (.int x4), some (.int x5), some (.int x6)] [] (pv_em S) := Eq.trans (pv_Rstp dX6_weights_25 rfl rfl rfl) (Eq.trans (pv_Ric dX6_weights_27 ki_1) (pv_Rbr (tgt := 63) dX6_weights_28 rfl rfl rfl rfl rfl (by decide)))
set_option maxHeartbeats 200000 in
theorem bX6_weights_31 {S : pv_S} {x1 x2 x3 x4 x5 x6 : Int32} : pv_R mX6_weights 31 [some (.ref 0), some (.int x1), some (.int x2), some (.int x3), some (.int x4), some (.int x5), some (.int x6)] [] (pv_em S) = if x1 < 0 ∨ 6 ≤ x1.toNatClampNeg then none else pv_cc (pv_R mX6_fitsLedger 0 [some (.ref 0), some (.int (S.1 22 x1.toNatClampNeg)), some (.int x6), some (.int x2), none, none] [] (pv_em S)) mX6_weights 47 [some (.ref 0), some (.int x1), some (.int x2), some (.int x3), some (.int x4), some (.int x5), some (.int x6)] [] := Eq.trans (pv_Rstp dX6_weights_31 rfl rfl rfl) (Eq.trans (pv_Rstp dX6_weights_32 rfl rfl rfl) (Eq.trans (pv_Rget dX6_weights_33 ffX6_31 (by decide) (pv_ce_0 _ _) rfl) (Eq.trans (pv_Rget dX6_weights_36 ffX6_122 (by decide) (pv_ce_21 _ _) rfl) (Eq.trans (pv_Rstp dX6_weights_39 rfl rfl rfl) (Eq.trans (pv_Rald dX6_weights_40 (by decide) (pv_ce_22 _ _)) (pv_iteN (fun h1 => Eq.trans (pv_Rstp dX6_weights_41 rfl rfl rfl) (Eq.trans (pv_Rstp dX6_weights_43 rfl rfl rfl) (pv_Rcall (As := [.ref 0, .int (S.1 22 x1.toNatClampNeg), .int x6, .int x2]) (rest := []) dX6_weights_44 rfl mfX6_260 rfl rfl rfl rfl rfl)))))))))
set_option maxHeartbeats 200000 in
theorem bX6_weights_47 {S : pv_S} {x1 x2 x3 x4 x5 x6 u0 : Int32} : pv_R mX6_weights 47 [some (.ref 0), some (.int x1), some (.int x2), some (.int x3), some (.int x4), some (.int x5), some (.int x6)] [.int u0] (pv_em S) = if u0 = 0 then pv_R mX6_weights 57 [some (.ref 0), some (.int x1), some (.int x2), some (.int x3), some (.int x4), some (.int x5), some (.int x6)] [] (pv_em S) else pv_R mX6_weights 50 [some (.ref 0), some (.int x1), some (.int x2), some (.int x3), some (.int x4), some (.int x5), some (.int x6)] [] (pv_em S) := pv_Rbr (tgt := 57) dX6_weights_47 rfl rfl rfl rfl rfl (by decide)
set_option maxHeartbeats 200000 in
theorem bX6_weights_50 {S : pv_S} {x1 x2 x3 x4 x5 x6 : Int32} : pv_R mX6_weights 50 [some (.ref 0), some (.int x1), some (.int x2), some (.int x3), some (.int x4), some (.int x5), some (.int x6)] [] (pv_em S) = pv_R mX6_weights 57 [some (.ref 0), some (.int x1), some (.int x2), some (.int x3), some (.int (x4 + 1)), some (.int x6), some (.int x6)] [] (pv_em S) := Eq.trans (pv_Rinc dX6_weights_50 rfl (Nat.le_of_ble_eq_true rfl) ki_1 rfl) (Eq.trans (pv_Rstp dX6_weights_53 rfl rfl rfl) (pv_Rstp dX6_weights_55 rfl rfl rfl))
set_option maxHeartbeats 200000 in
theorem bX6_weights_57 {S : pv_S} {x1 x2 x3 x4 x5 x6 : Int32} : pv_R mX6_weights 57 [some (.ref 0), some (.int x1), some (.int x2), some (.int x3), some (.int x4), some (.int x5), some (.int x6)] [] (pv_em S) = pv_R mX6_weights 25 [some (.ref 0), some (.int x1), some (.int x2), some (.int x3), some (.int x4), some (.int x5), some (.int (x6 + (-1)))] [] (pv_em S) := Eq.trans (pv_Rinc dX6_weights_57 rfl (Nat.le_of_ble_eq_true rfl) ki_m1 rfl) (pv_Rgo (tgt := 25) dX6_weights_60 rfl (by decide))
set_option maxHeartbeats 200000 in
theorem bX6_weights_63 {S : pv_S} {x1 x2 x3 x4 x5 x6 : Int32} : pv_R mX6_weights 63 [some (.ref 0), some (.int x1), some (.int x2), some (.int x3), some (.int x4), some (.int x5), some (.int x6)] [] (pv_em S) = some (some (.int x4), pv_em (pv_si S 35 1 x5)) := Eq.trans (pv_Rstp dX6_weights_63 rfl rfl rfl) (Eq.trans (pv_Rget dX6_weights_64 ffX6_45 (by decide) (pv_ce_0 _ _) rfl) (Eq.trans (pv_Rstp dX6_weights_67 rfl rfl rfl) (Eq.trans (pv_Rput dX6_weights_69 ffX6_61 rfl rfl rfl (by decide) (pv_ce_35 _ _) (Nat.le_of_ble_eq_true rfl) (pv_em_si rfl)) (Eq.trans (pv_Rstp dX6_weights_72 rfl rfl rfl) (pv_Rret dX6_weights_74 rfl)))))
theorem dX6_test_0 : decode cX6_test 0 = .ok (.aload_n 0, 1) := by decide +kernel
theorem dX6_test_1 : decode cX6_test 1 = .ok (.iload_n 1, 1) := by decide +kernel
theorem dX6_test_2 : decode cX6_test 2 = .ok (.iload_n 2, 1) := by decide +kernel
theorem dX6_test_3 : decode cX6_test 3 = .ok (.invokevirtual 254, 3) := by decide +kernel
theorem dX6_test_6 : decode cX6_test 6 = .ok (.istore_n 3, 1) := by decide +kernel
theorem dX6_test_7 : decode cX6_test 7 = .ok (.iload_n 3, 1) := by decide +kernel
theorem dX6_test_8 : decode cX6_test 8 = .ok (.ifCond .eq 5, 3) := by decide +kernel
theorem dX6_test_11 : decode cX6_test 11 = .ok (.iload_n 3, 1) := by decide +kernel
theorem dX6_test_12 : decode cX6_test 12 = .ok (.ireturn, 1) := by decide +kernel
theorem dX6_test_13 : decode cX6_test 13 = .ok (.aload_n 0, 1) := by decide +kernel
theorem dX6_test_14 : decode cX6_test 14 = .ok (.iload_n 1, 1) := by decide +kernel
theorem dX6_test_15 : decode cX6_test 15 = .ok (.iload_n 2, 1) := by decide +kernel
theorem dX6_test_16 : decode cX6_test 16 = .ok (.invokevirtual 257, 3) := by decide +kernel
theorem dX6_test_19 : decode cX6_test 19 = .ok (.istore 4, 2) := by decide +kernel
theorem dX6_test_21 : decode cX6_test 21 = .ok (.iload 4, 2) := by decide +kernel
theorem dX6_test_23 : decode cX6_test 23 = .ok (.ifCond .ne 6, 3) := by decide +kernel
theorem dX6_test_26 : decode cX6_test 26 = .ok (.bipush (-9), 2) := by decide +kernel
theorem dX6_test_28 : decode cX6_test 28 = .ok (.ireturn, 1) := by decide +kernel
theorem dX6_test_29 : decode cX6_test 29 = .ok (.aload_n 0, 1) := by decide +kernel
theorem dX6_test_30 : decode cX6_test 30 = .ok (.getfield 38, 3) := by decide +kernel
theorem dX6_test_33 : decode cX6_test 33 = .ok (.aload_n 0, 1) := by decide +kernel
theorem dX6_test_34 : decode cX6_test 34 = .ok (.getfield 31, 3) := by decide +kernel
theorem dX6_test_37 : decode cX6_test 37 = .ok (.getfield 162, 3) := by decide +kernel
theorem dX6_test_40 : decode cX6_test 40 = .ok (.iload_n 1, 1) := by decide +kernel
theorem dX6_test_41 : decode cX6_test 41 = .ok (.iaload, 1) := by decide +kernel
theorem dX6_test_42 : decode cX6_test 42 = .ok (.invokevirtual 263, 3) := by decide +kernel
theorem dX6_test_45 : decode cX6_test 45 = .ok (.iconst 0, 1) := by decide +kernel
theorem dX6_test_46 : decode cX6_test 46 = .ok (.istore 5, 2) := by decide +kernel
theorem dX6_test_48 : decode cX6_test 48 = .ok (.bipush 7, 2) := by decide +kernel
theorem dX6_test_50 : decode cX6_test 50 = .ok (.istore 6, 2) := by decide +kernel
theorem dX6_test_52 : decode cX6_test 52 = .ok (.iconst 0, 1) := by decide +kernel
theorem dX6_test_53 : decode cX6_test 53 = .ok (.istore 7, 2) := by decide +kernel
theorem dX6_test_55 : decode cX6_test 55 = .ok (.iload 7, 2) := by decide +kernel
theorem dX6_test_57 : decode cX6_test 57 = .ok (.bipush 40, 2) := by decide +kernel
theorem dX6_test_59 : decode cX6_test 59 = .ok (.if_icmp .gt 52, 3) := by decide +kernel
theorem dX6_test_62 : decode cX6_test 62 = .ok (.aload_n 0, 1) := by decide +kernel
theorem dX6_test_63 : decode cX6_test 63 = .ok (.getfield 38, 3) := by decide +kernel
theorem dX6_test_66 : decode cX6_test 66 = .ok (.iload 4, 2) := by decide +kernel
theorem dX6_test_68 : decode cX6_test 68 = .ok (.invokevirtual 266, 3) := by decide +kernel
theorem dX6_test_71 : decode cX6_test 71 = .ok (.istore 8, 2) := by decide +kernel
theorem dX6_test_73 : decode cX6_test 73 = .ok (.iload 8, 2) := by decide +kernel
theorem dX6_test_75 : decode cX6_test 75 = .ok (.iload 6, 2) := by decide +kernel
theorem dX6_test_77 : decode cX6_test 77 = .ok (.if_icmp .ge 11, 3) := by decide +kernel
theorem dX6_test_80 : decode cX6_test 80 = .ok (.iload 7, 2) := by decide +kernel
theorem dX6_test_82 : decode cX6_test 82 = .ok (.istore 5, 2) := by decide +kernel
theorem dX6_test_84 : decode cX6_test 84 = .ok (.iload 8, 2) := by decide +kernel
theorem dX6_test_86 : decode cX6_test 86 = .ok (.istore 6, 2) := by decide +kernel
theorem dX6_test_88 : decode cX6_test 88 = .ok (.aload_n 0, 1) := by decide +kernel
theorem dX6_test_89 : decode cX6_test 89 = .ok (.getfield 38, 3) := by decide +kernel
theorem dX6_test_92 : decode cX6_test 92 = .ok (.aload_n 0, 1) := by decide +kernel
theorem dX6_test_93 : decode cX6_test 93 = .ok (.getfield 31, 3) := by decide +kernel
theorem dX6_test_96 : decode cX6_test 96 = .ok (.getfield 132, 3) := by decide +kernel
theorem dX6_test_99 : decode cX6_test 99 = .ok (.iload 7, 2) := by decide +kernel
theorem dX6_test_101 : decode cX6_test 101 = .ok (.iadd, 1) := by decide +kernel
theorem dX6_test_102 : decode cX6_test 102 = .ok (.invokevirtual 269, 3) := by decide +kernel
theorem dX6_test_105 : decode cX6_test 105 = .ok (.iinc 7 1, 3) := by decide +kernel
theorem dX6_test_108 : decode cX6_test 108 = .ok (.goto (-53), 3) := by decide +kernel
theorem dX6_test_111 : decode cX6_test 111 = .ok (.aload_n 0, 1) := by decide +kernel
theorem dX6_test_112 : decode cX6_test 112 = .ok (.getfield 45, 3) := by decide +kernel
theorem dX6_test_115 : decode cX6_test 115 = .ok (.iload 6, 2) := by decide +kernel
theorem dX6_test_117 : decode cX6_test 117 = .ok (.putfield 61, 3) := by decide +kernel
theorem dX6_test_120 : decode cX6_test 120 = .ok (.iload 5, 2) := by decide +kernel
theorem dX6_test_122 : decode cX6_test 122 = .ok (.ireturn, 1) := by decide +kernel
set_option maxHeartbeats 200000 in
theorem bX6_test_0 {S : pv_S} {x1 x2 : Int32} {a3 a4 a5 a6 a7 a8 : Option Value} : pv_R mX6_test 0 [some (.ref 0), some (.int x1), some (.int x2), a3, a4, a5, a6, a7, a8] [] (pv_em S) = pv_cc (pv_R mX6_refuseLedger 0 [some (.ref 0), some (.int x1), some (.int x2), none, none] [] (pv_em S)) mX6_test 6 [some (.ref 0), some (.int x1), some (.int x2), a3, a4, a5, a6, a7, a8] [] := Eq.trans (pv_Rstp dX6_test_0 rfl rfl rfl) (Eq.trans (pv_Rstp dX6_test_1 rfl rfl rfl) (Eq.trans (pv_Rstp dX6_test_2 rfl rfl rfl) (pv_Rcall (As := [.ref 0, .int x1, .int x2]) (rest := []) dX6_test_3 rfl mfX6_254 rfl rfl rfl rfl rfl)))
set_option maxHeartbeats 200000 in
theorem bX6_test_6 {S : pv_S} {x1 x2 u0 : Int32} {a3 a4 a5 a6 a7 a8 : Option Value} : pv_R mX6_test 6 [some (.ref 0), some (.int x1), some (.int x2), a3, a4, a5, a6, a7, a8] [.int u0] (pv_em S) = if u0 = 0 then pv_R mX6_test 13 [some (.ref 0), some (.int x1), some (.int x2), some (.int u0), a4, a5, a6, a7, a8] [] (pv_em S) else pv_R mX6_test 11 [some (.ref 0), some (.int x1), some (.int x2), some (.int u0), a4, a5, a6, a7, a8] [] (pv_em S) := Eq.trans (pv_Rstp dX6_test_6 rfl rfl rfl) (Eq.trans (pv_Rstp dX6_test_7 rfl rfl rfl) (pv_Rbr (tgt := 13) dX6_test_8 rfl rfl rfl rfl rfl (by decide)))
set_option maxHeartbeats 200000 in
theorem bX6_test_11 {S : pv_S} {x1 x2 x3 : Int32} {a4 a5 a6 a7 a8 : Option Value} : pv_R mX6_test 11 [some (.ref 0), some (.int x1), some (.int x2), some (.int x3), a4, a5, a6, a7, a8] [] (pv_em S) = some (some (.int x3), pv_em S) := Eq.trans (pv_Rstp dX6_test_11 rfl rfl rfl) (pv_Rret dX6_test_12 rfl)
set_option maxHeartbeats 200000 in
theorem bX6_test_13 {S : pv_S} {x1 x2 x3 : Int32} {a4 a5 a6 a7 a8 : Option Value} : pv_R mX6_test 13 [some (.ref 0), some (.int x1), some (.int x2), some (.int x3), a4, a5, a6, a7, a8] [] (pv_em S) = pv_cc (pv_R mX6_kindsFitting 0 [some (.ref 0), some (.int x1), some (.int x2), none, none] [] (pv_em S)) mX6_test 19 [some (.ref 0), some (.int x1), some (.int x2), some (.int x3), a4, a5, a6, a7, a8] [] := Eq.trans (pv_Rstp dX6_test_13 rfl rfl rfl) (Eq.trans (pv_Rstp dX6_test_14 rfl rfl rfl) (Eq.trans (pv_Rstp dX6_test_15 rfl rfl rfl) (pv_Rcall (As := [.ref 0, .int x1, .int x2]) (rest := []) dX6_test_16 rfl mfX6_257 rfl rfl rfl rfl rfl)))
set_option maxHeartbeats 200000 in
theorem bX6_test_19 {S : pv_S} {x1 x2 x3 u0 : Int32} {a4 a5 a6 a7 a8 : Option Value} : pv_R mX6_test 19 [some (.ref 0), some (.int x1), some (.int x2), some (.int x3), a4, a5, a6, a7, a8] [.int u0] (pv_em S) = if ¬ u0 = 0 then pv_R mX6_test 29 [some (.ref 0), some (.int x1), some (.int x2), some (.int x3), some (.int u0), a5, a6, a7, a8] [] (pv_em S) else pv_R mX6_test 26 [some (.ref 0), some (.int x1), some (.int x2), some (.int x3), some (.int u0), a5, a6, a7, a8] [] (pv_em S) := Eq.trans (pv_Rstp dX6_test_19 rfl rfl rfl) (Eq.trans (pv_Rstp dX6_test_21 rfl rfl rfl) (pv_Rbr (tgt := 29) dX6_test_23 rfl rfl rfl rfl rfl (by decide)))
set_option maxHeartbeats 200000 in
theorem bX6_test_26 {S : pv_S} {x1 x2 x3 x4 : Int32} {a5 a6 a7 a8 : Option Value} : pv_R mX6_test 26 [some (.ref 0), some (.int x1), some (.int x2), some (.int x3), some (.int x4), a5, a6, a7, a8] [] (pv_em S) = some (some (.int (-9)), pv_em S) := Eq.trans (pv_Rbp dX6_test_26 kb_m9) (pv_Rret dX6_test_28 rfl)
set_option maxHeartbeats 200000 in
theorem bX6_test_29 {S : pv_S} {x1 x2 x3 x4 : Int32} {a5 a6 a7 a8 : Option Value} : pv_R mX6_test 29 [some (.ref 0), some (.int x1), some (.int x2), some (.int x3), some (.int x4), a5, a6, a7, a8] [] (pv_em S) = if x1 < 0 ∨ 6 ≤ x1.toNatClampNeg then none else pv_cc (pv_R mX1_startKinds 0 [some (.ref 32), some (.int (S.1 25 x1.toNatClampNeg)), none] [] (pv_em S)) mX6_test 45 [some (.ref 0), some (.int x1), some (.int x2), some (.int x3), some (.int x4), a5, a6, a7, a8] [] := Eq.trans (pv_Rstp dX6_test_29 rfl rfl rfl) (Eq.trans (pv_Rget dX6_test_30 ffX6_38 (by decide) (pv_ce_0 _ _) rfl) (Eq.trans (pv_Rstp dX6_test_33 rfl rfl rfl) (Eq.trans (pv_Rget dX6_test_34 ffX6_31 (by decide) (pv_ce_0 _ _) rfl) (Eq.trans (pv_Rget dX6_test_37 ffX6_162 (by decide) (pv_ce_21 _ _) rfl) (Eq.trans (pv_Rstp dX6_test_40 rfl rfl rfl) (Eq.trans (pv_Rald dX6_test_41 (by decide) (pv_ce_25 _ _)) (pv_iteN (fun h1 => pv_Rcall (As := [.ref 32, .int (S.1 25 x1.toNatClampNeg)]) (rest := []) dX6_test_42 rfl mfX6_263 rfl rfl rfl rfl rfl))))))))
set_option maxHeartbeats 200000 in
theorem bX6_test_45 {S : pv_S} {x1 x2 x3 x4 : Int32} {a5 a6 a7 a8 : Option Value} : pv_R mX6_test 45 [some (.ref 0), some (.int x1), some (.int x2), some (.int x3), some (.int x4), a5, a6, a7, a8] [] (pv_em S) = pv_R mX6_test 55 [some (.ref 0), some (.int x1), some (.int x2), some (.int x3), some (.int x4), some (.int 0), some (.int 7), some (.int 0), a8] [] (pv_em S) := Eq.trans (pv_Ric dX6_test_45 ki_0) (Eq.trans (pv_Rstp dX6_test_46 rfl rfl rfl) (Eq.trans (pv_Rbp dX6_test_48 kb_7) (Eq.trans (pv_Rstp dX6_test_50 rfl rfl rfl) (Eq.trans (pv_Ric dX6_test_52 ki_0) (pv_Rstp dX6_test_53 rfl rfl rfl)))))
set_option maxHeartbeats 200000 in
theorem bX6_test_55 {S : pv_S} {x1 x2 x3 x4 x5 x6 x7 : Int32} {a8 : Option Value} : pv_R mX6_test 55 [some (.ref 0), some (.int x1), some (.int x2), some (.int x3), some (.int x4), some (.int x5), some (.int x6), some (.int x7), a8] [] (pv_em S) = if 40 < x7 then pv_R mX6_test 111 [some (.ref 0), some (.int x1), some (.int x2), some (.int x3), some (.int x4), some (.int x5), some (.int x6), some (.int x7), a8] [] (pv_em S) else pv_R mX6_test 62 [some (.ref 0), some (.int x1), some (.int x2), some (.int x3), some (.int x4), some (.int x5), some (.int x6), some (.int x7), a8] [] (pv_em S) := Eq.trans (pv_Rstp dX6_test_55 rfl rfl rfl) (Eq.trans (pv_Rbp dX6_test_57 kb_40) (pv_Rbr (tgt := 111) dX6_test_59 rfl rfl rfl rfl rfl (by decide)))
set_option maxHeartbeats 200000 in
theorem bX6_test_62 {S : pv_S} {x1 x2 x3 x4 x5 x6 x7 : Int32} {a8 : Option Value} : pv_R mX6_test 62 [some (.ref 0), some (.int x1), some (.int x2), some (.int x3), some (.int x4), some (.int x5), some (.int x6), some (.int x7), a8] [] (pv_em S) = pv_cc (pv_R mX1_greatestPart 0 [some (.ref 32), some (.int x4), none, none] [] (pv_em S)) mX6_test 71 [some (.ref 0), some (.int x1), some (.int x2), some (.int x3), some (.int x4), some (.int x5), some (.int x6), some (.int x7), a8] [] := Eq.trans (pv_Rstp dX6_test_62 rfl rfl rfl) (Eq.trans (pv_Rget dX6_test_63 ffX6_38 (by decide) (pv_ce_0 _ _) rfl) (Eq.trans (pv_Rstp dX6_test_66 rfl rfl rfl) (pv_Rcall (As := [.ref 32, .int x4]) (rest := []) dX6_test_68 rfl mfX6_266 rfl rfl rfl rfl rfl)))
set_option maxHeartbeats 200000 in
theorem bX6_test_71 {S : pv_S} {x1 x2 x3 x4 x5 x6 x7 u0 : Int32} {a8 : Option Value} : pv_R mX6_test 71 [some (.ref 0), some (.int x1), some (.int x2), some (.int x3), some (.int x4), some (.int x5), some (.int x6), some (.int x7), a8] [.int u0] (pv_em S) = if x6 ≤ u0 then pv_R mX6_test 88 [some (.ref 0), some (.int x1), some (.int x2), some (.int x3), some (.int x4), some (.int x5), some (.int x6), some (.int x7), some (.int u0)] [] (pv_em S) else pv_R mX6_test 80 [some (.ref 0), some (.int x1), some (.int x2), some (.int x3), some (.int x4), some (.int x5), some (.int x6), some (.int x7), some (.int u0)] [] (pv_em S) := Eq.trans (pv_Rstp dX6_test_71 rfl rfl rfl) (Eq.trans (pv_Rstp dX6_test_73 rfl rfl rfl) (Eq.trans (pv_Rstp dX6_test_75 rfl rfl rfl) (pv_Rbr (tgt := 88) dX6_test_77 rfl rfl rfl rfl rfl (by decide))))
set_option maxHeartbeats 200000 in
theorem bX6_test_80 {S : pv_S} {x1 x2 x3 x4 x5 x6 x7 x8 : Int32} : pv_R mX6_test 80 [some (.ref 0), some (.int x1), some (.int x2), some (.int x3), some (.int x4), some (.int x5), some (.int x6), some (.int x7), some (.int x8)] [] (pv_em S) = pv_R mX6_test 88 [some (.ref 0), some (.int x1), some (.int x2), some (.int x3), some (.int x4), some (.int x7), some (.int x8), some (.int x7), some (.int x8)] [] (pv_em S) := Eq.trans (pv_Rstp dX6_test_80 rfl rfl rfl) (Eq.trans (pv_Rstp dX6_test_82 rfl rfl rfl) (Eq.trans (pv_Rstp dX6_test_84 rfl rfl rfl) (pv_Rstp dX6_test_86 rfl rfl rfl)))
set_option maxHeartbeats 200000 in
theorem bX6_test_88 {S : pv_S} {x1 x2 x3 x4 x5 x6 x7 x8 : Int32} : pv_R mX6_test 88 [some (.ref 0), some (.int x1), some (.int x2), some (.int x3), some (.int x4), some (.int x5), some (.int x6), some (.int x7), some (.int x8)] [] (pv_em S) = pv_cc (pv_R mX1_passKinds 0 [some (.ref 32), some (.int ((S.1 21 9) + x7)), none] [] (pv_em S)) mX6_test 105 [some (.ref 0), some (.int x1), some (.int x2), some (.int x3), some (.int x4), some (.int x5), some (.int x6), some (.int x7), some (.int x8)] [] := Eq.trans (pv_Rstp dX6_test_88 rfl rfl rfl) (Eq.trans (pv_Rget dX6_test_89 ffX6_38 (by decide) (pv_ce_0 _ _) rfl) (Eq.trans (pv_Rstp dX6_test_92 rfl rfl rfl) (Eq.trans (pv_Rget dX6_test_93 ffX6_31 (by decide) (pv_ce_0 _ _) rfl) (Eq.trans (pv_Rget dX6_test_96 ffX6_132 (by decide) (pv_ce_21 _ _) rfl) (Eq.trans (pv_Rstp dX6_test_99 rfl rfl rfl) (Eq.trans (pv_Rstp dX6_test_101 rfl rfl rfl) (pv_Rcall (As := [.ref 32, .int ((S.1 21 9) + x7)]) (rest := []) dX6_test_102 rfl mfX6_269 rfl rfl rfl rfl rfl)))))))
set_option maxHeartbeats 200000 in
theorem bX6_test_105 {S : pv_S} {x1 x2 x3 x4 x5 x6 x7 x8 : Int32} : pv_R mX6_test 105 [some (.ref 0), some (.int x1), some (.int x2), some (.int x3), some (.int x4), some (.int x5), some (.int x6), some (.int x7), some (.int x8)] [] (pv_em S) = pv_R mX6_test 55 [some (.ref 0), some (.int x1), some (.int x2), some (.int x3), some (.int x4), some (.int x5), some (.int x6), some (.int (x7 + 1)), some (.int x8)] [] (pv_em S) := Eq.trans (pv_Rinc dX6_test_105 rfl (Nat.le_of_ble_eq_true rfl) ki_1 rfl) (pv_Rgo (tgt := 55) dX6_test_108 rfl (by decide))
set_option maxHeartbeats 200000 in
theorem bX6_test_111 {S : pv_S} {x1 x2 x3 x4 x5 x6 x7 : Int32} {a8 : Option Value} : pv_R mX6_test 111 [some (.ref 0), some (.int x1), some (.int x2), some (.int x3), some (.int x4), some (.int x5), some (.int x6), some (.int x7), a8] [] (pv_em S) = some (some (.int x5), pv_em (pv_si S 35 1 x6)) := Eq.trans (pv_Rstp dX6_test_111 rfl rfl rfl) (Eq.trans (pv_Rget dX6_test_112 ffX6_45 (by decide) (pv_ce_0 _ _) rfl) (Eq.trans (pv_Rstp dX6_test_115 rfl rfl rfl) (Eq.trans (pv_Rput dX6_test_117 ffX6_61 rfl rfl rfl (by decide) (pv_ce_35 _ _) (Nat.le_of_ble_eq_true rfl) (pv_em_si rfl)) (Eq.trans (pv_Rstp dX6_test_120 rfl rfl rfl) (pv_Rret dX6_test_122 rfl)))))
theorem dX6_fright_0 : decode cX6_fright 0 = .ok (.iload_n 1, 1) := by decide +kernel
theorem dX6_fright_1 : decode cX6_fright 1 = .ok (.iconst 0, 1) := by decide +kernel
theorem dX6_fright_2 : decode cX6_fright 2 = .ok (.iconst 2, 1) := by decide +kernel
theorem dX6_fright_3 : decode cX6_fright 3 = .ok (.invokestatic 116, 3) := by decide +kernel
theorem dX6_fright_6 : decode cX6_fright 6 = .ok (.ifCond .ne 5, 3) := by decide +kernel
theorem dX6_fright_9 : decode cX6_fright 9 = .ok (.iconst (-1), 1) := by decide +kernel
theorem dX6_fright_10 : decode cX6_fright 10 = .ok (.ireturn, 1) := by decide +kernel
theorem dX6_fright_11 : decode cX6_fright 11 = .ok (.aload_n 0, 1) := by decide +kernel
theorem dX6_fright_12 : decode cX6_fright 12 = .ok (.getfield 31, 3) := by decide +kernel
theorem dX6_fright_15 : decode cX6_fright 15 = .ok (.getfield 110, 3) := by decide +kernel
theorem dX6_fright_18 : decode cX6_fright 18 = .ok (.ifCond .ne 6, 3) := by decide +kernel
theorem dX6_fright_21 : decode cX6_fright 21 = .ok (.bipush (-4), 2) := by decide +kernel
theorem dX6_fright_23 : decode cX6_fright 23 = .ok (.ireturn, 1) := by decide +kernel
theorem dX6_fright_24 : decode cX6_fright 24 = .ok (.aload_n 0, 1) := by decide +kernel
theorem dX6_fright_25 : decode cX6_fright 25 = .ok (.getfield 31, 3) := by decide +kernel
theorem dX6_fright_28 : decode cX6_fright 28 = .ok (.invokevirtual 158, 3) := by decide +kernel
theorem dX6_fright_31 : decode cX6_fright 31 = .ok (.istore_n 2, 1) := by decide +kernel
theorem dX6_fright_32 : decode cX6_fright 32 = .ok (.iconst 0, 1) := by decide +kernel
theorem dX6_fright_33 : decode cX6_fright 33 = .ok (.istore_n 3, 1) := by decide +kernel
theorem dX6_fright_34 : decode cX6_fright 34 = .ok (.iload_n 3, 1) := by decide +kernel
theorem dX6_fright_35 : decode cX6_fright 35 = .ok (.iload_n 1, 1) := by decide +kernel
theorem dX6_fright_36 : decode cX6_fright 36 = .ok (.if_icmp .ge 29, 3) := by decide +kernel
theorem dX6_fright_39 : decode cX6_fright 39 = .ok (.iload_n 2, 1) := by decide +kernel
theorem dX6_fright_40 : decode cX6_fright 40 = .ok (.aload_n 0, 1) := by decide +kernel
theorem dX6_fright_41 : decode cX6_fright 41 = .ok (.getfield 31, 3) := by decide +kernel
theorem dX6_fright_44 : decode cX6_fright 44 = .ok (.invokevirtual 272, 3) := by decide +kernel
theorem dX6_fright_47 : decode cX6_fright 47 = .ok (.iadd, 1) := by decide +kernel
theorem dX6_fright_48 : decode cX6_fright 48 = .ok (.invokestatic 208, 3) := by decide +kernel
theorem dX6_fright_51 : decode cX6_fright 51 = .ok (.istore_n 2, 1) := by decide +kernel
theorem dX6_fright_52 : decode cX6_fright 52 = .ok (.iload_n 2, 1) := by decide +kernel
theorem dX6_fright_53 : decode cX6_fright 53 = .ok (.iconst 5, 1) := by decide +kernel
theorem dX6_fright_54 : decode cX6_fright 54 = .ok (.isub, 1) := by decide +kernel
theorem dX6_fright_55 : decode cX6_fright 55 = .ok (.invokestatic 208, 3) := by decide +kernel
theorem dX6_fright_58 : decode cX6_fright 58 = .ok (.istore_n 2, 1) := by decide +kernel
theorem dX6_fright_59 : decode cX6_fright 59 = .ok (.iinc 3 1, 3) := by decide +kernel
theorem dX6_fright_62 : decode cX6_fright 62 = .ok (.goto (-28), 3) := by decide +kernel
theorem dX6_fright_65 : decode cX6_fright 65 = .ok (.aload_n 0, 1) := by decide +kernel
theorem dX6_fright_66 : decode cX6_fright 66 = .ok (.getfield 31, 3) := by decide +kernel
theorem dX6_fright_69 : decode cX6_fright 69 = .ok (.invokevirtual 275, 3) := by decide +kernel
theorem dX6_fright_72 : decode cX6_fright 72 = .ok (.iload_n 2, 1) := by decide +kernel
theorem dX6_fright_73 : decode cX6_fright 73 = .ok (.aload_n 0, 1) := by decide +kernel
theorem dX6_fright_74 : decode cX6_fright 74 = .ok (.getfield 31, 3) := by decide +kernel
theorem dX6_fright_77 : decode cX6_fright 77 = .ok (.getfield 132, 3) := by decide +kernel
theorem dX6_fright_80 : decode cX6_fright 80 = .ok (.invokestatic 278, 3) := by decide +kernel
theorem dX6_fright_83 : decode cX6_fright 83 = .ok (.ireturn, 1) := by decide +kernel
set_option maxHeartbeats 200000 in
theorem bX6_fright_0 {S : pv_S} {x1 : Int32} {a2 a3 : Option Value} : pv_R mX6_fright 0 [some (.ref 0), some (.int x1), a2, a3] [] (pv_em S) = pv_cc (pv_R mX6_isWithin 0 [some (.int x1), some (.int 0), some (.int 2)] [] (pv_em S)) mX6_fright 6 [some (.ref 0), some (.int x1), a2, a3] [] := Eq.trans (pv_Rstp dX6_fright_0 rfl rfl rfl) (Eq.trans (pv_Ric dX6_fright_1 ki_0) (Eq.trans (pv_Ric dX6_fright_2 ki_2) (pv_Rcall (As := [.int x1, .int 0, .int 2]) (rest := []) dX6_fright_3 rfl mfX6_116 rfl rfl rfl rfl rfl)))
set_option maxHeartbeats 200000 in
theorem bX6_fright_6 {S : pv_S} {x1 u0 : Int32} {a2 a3 : Option Value} : pv_R mX6_fright 6 [some (.ref 0), some (.int x1), a2, a3] [.int u0] (pv_em S) = if ¬ u0 = 0 then pv_R mX6_fright 11 [some (.ref 0), some (.int x1), a2, a3] [] (pv_em S) else pv_R mX6_fright 9 [some (.ref 0), some (.int x1), a2, a3] [] (pv_em S) := pv_Rbr (tgt := 11) dX6_fright_6 rfl rfl rfl rfl rfl (by decide)
set_option maxHeartbeats 200000 in
theorem bX6_fright_9 {S : pv_S} {x1 : Int32} {a2 a3 : Option Value} : pv_R mX6_fright 9 [some (.ref 0), some (.int x1), a2, a3] [] (pv_em S) = some (some (.int (-1)), pv_em S) := Eq.trans (pv_Ric dX6_fright_9 ki_m1) (pv_Rret dX6_fright_10 rfl)
set_option maxHeartbeats 200000 in
theorem bX6_fright_11 {S : pv_S} {x1 : Int32} {a2 a3 : Option Value} : pv_R mX6_fright 11 [some (.ref 0), some (.int x1), a2, a3] [] (pv_em S) = if ¬ (S.1 21 7) = 0 then pv_R mX6_fright 24 [some (.ref 0), some (.int x1), a2, a3] [] (pv_em S) else pv_R mX6_fright 21 [some (.ref 0), some (.int x1), a2, a3] [] (pv_em S) := Eq.trans (pv_Rstp dX6_fright_11 rfl rfl rfl) (Eq.trans (pv_Rget dX6_fright_12 ffX6_31 (by decide) (pv_ce_0 _ _) rfl) (Eq.trans (pv_Rget dX6_fright_15 ffX6_110 (by decide) (pv_ce_21 _ _) rfl) (pv_Rbr (tgt := 24) dX6_fright_18 rfl rfl rfl rfl rfl (by decide))))
set_option maxHeartbeats 200000 in
theorem bX6_fright_21 {S : pv_S} {x1 : Int32} {a2 a3 : Option Value} : pv_R mX6_fright 21 [some (.ref 0), some (.int x1), a2, a3] [] (pv_em S) = some (some (.int (-4)), pv_em S) := Eq.trans (pv_Rbp dX6_fright_21 kb_m4) (pv_Rret dX6_fright_23 rfl)
set_option maxHeartbeats 200000 in
theorem bX6_fright_24 {S : pv_S} {x1 : Int32} {a2 a3 : Option Value} : pv_R mX6_fright 24 [some (.ref 0), some (.int x1), a2, a3] [] (pv_em S) = pv_cc (pv_R mX5_pound 0 [some (.ref 21)] [] (pv_em S)) mX6_fright 31 [some (.ref 0), some (.int x1), a2, a3] [] := Eq.trans (pv_Rstp dX6_fright_24 rfl rfl rfl) (Eq.trans (pv_Rget dX6_fright_25 ffX6_31 (by decide) (pv_ce_0 _ _) rfl) (pv_Rcall (As := [.ref 21]) (rest := []) dX6_fright_28 rfl mfX6_158 rfl rfl rfl rfl rfl))
set_option maxHeartbeats 200000 in
theorem bX6_fright_31 {S : pv_S} {x1 u0 : Int32} {a2 a3 : Option Value} : pv_R mX6_fright 31 [some (.ref 0), some (.int x1), a2, a3] [.int u0] (pv_em S) = pv_R mX6_fright 34 [some (.ref 0), some (.int x1), some (.int u0), some (.int 0)] [] (pv_em S) := Eq.trans (pv_Rstp dX6_fright_31 rfl rfl rfl) (Eq.trans (pv_Ric dX6_fright_32 ki_0) (pv_Rstp dX6_fright_33 rfl rfl rfl))
set_option maxHeartbeats 200000 in
theorem bX6_fright_34 {S : pv_S} {x1 x2 x3 : Int32} : pv_R mX6_fright 34 [some (.ref 0), some (.int x1), some (.int x2), some (.int x3)] [] (pv_em S) = if x1 ≤ x3 then pv_R mX6_fright 65 [some (.ref 0), some (.int x1), some (.int x2), some (.int x3)] [] (pv_em S) else pv_R mX6_fright 39 [some (.ref 0), some (.int x1), some (.int x2), some (.int x3)] [] (pv_em S) := Eq.trans (pv_Rstp dX6_fright_34 rfl rfl rfl) (Eq.trans (pv_Rstp dX6_fright_35 rfl rfl rfl) (pv_Rbr (tgt := 65) dX6_fright_36 rfl rfl rfl rfl rfl (by decide)))
set_option maxHeartbeats 200000 in
theorem bX6_fright_39 {S : pv_S} {x1 x2 x3 : Int32} : pv_R mX6_fright 39 [some (.ref 0), some (.int x1), some (.int x2), some (.int x3)] [] (pv_em S) = pv_cc (pv_R mX5_rulerMeal 0 [some (.ref 21)] [] (pv_em S)) mX6_fright 47 [some (.ref 0), some (.int x1), some (.int x2), some (.int x3)] [.int x2] := Eq.trans (pv_Rstp dX6_fright_39 rfl rfl rfl) (Eq.trans (pv_Rstp dX6_fright_40 rfl rfl rfl) (Eq.trans (pv_Rget dX6_fright_41 ffX6_31 (by decide) (pv_ce_0 _ _) rfl) (pv_Rcall (As := [.ref 21]) (rest := [.int x2]) dX6_fright_44 rfl mfX6_272 rfl rfl rfl rfl rfl)))
set_option maxHeartbeats 200000 in
theorem bX6_fright_47 {S : pv_S} {x1 x2 x3 u0 u1 : Int32} : pv_R mX6_fright 47 [some (.ref 0), some (.int x1), some (.int x2), some (.int x3)] [.int u0, .int u1] (pv_em S) = pv_cc (pv_R mX0_held 0 [some (.int (u1 + u0))] [] (pv_em S)) mX6_fright 51 [some (.ref 0), some (.int x1), some (.int x2), some (.int x3)] [] := Eq.trans (pv_Rstp dX6_fright_47 rfl rfl rfl) (pv_Rcall (As := [.int (u1 + u0)]) (rest := []) dX6_fright_48 rfl mfX6_208 rfl rfl rfl rfl rfl)
set_option maxHeartbeats 200000 in
theorem bX6_fright_51 {S : pv_S} {x1 x2 x3 u0 : Int32} : pv_R mX6_fright 51 [some (.ref 0), some (.int x1), some (.int x2), some (.int x3)] [.int u0] (pv_em S) = pv_cc (pv_R mX0_held 0 [some (.int (u0 - 5))] [] (pv_em S)) mX6_fright 58 [some (.ref 0), some (.int x1), some (.int u0), some (.int x3)] [] := Eq.trans (pv_Rstp dX6_fright_51 rfl rfl rfl) (Eq.trans (pv_Rstp dX6_fright_52 rfl rfl rfl) (Eq.trans (pv_Ric dX6_fright_53 ki_5) (Eq.trans (pv_Rstp dX6_fright_54 rfl rfl rfl) (pv_Rcall (As := [.int (u0 - 5)]) (rest := []) dX6_fright_55 rfl mfX6_208 rfl rfl rfl rfl rfl))))
set_option maxHeartbeats 200000 in
theorem bX6_fright_58 {S : pv_S} {x1 x2 x3 u0 : Int32} : pv_R mX6_fright 58 [some (.ref 0), some (.int x1), some (.int x2), some (.int x3)] [.int u0] (pv_em S) = pv_R mX6_fright 34 [some (.ref 0), some (.int x1), some (.int u0), some (.int (x3 + 1))] [] (pv_em S) := Eq.trans (pv_Rstp dX6_fright_58 rfl rfl rfl) (Eq.trans (pv_Rinc dX6_fright_59 rfl (Nat.le_of_ble_eq_true rfl) ki_1 rfl) (pv_Rgo (tgt := 34) dX6_fright_62 rfl (by decide)))
set_option maxHeartbeats 200000 in
theorem bX6_fright_65 {S : pv_S} {x1 x2 x3 : Int32} : pv_R mX6_fright 65 [some (.ref 0), some (.int x1), some (.int x2), some (.int x3)] [] (pv_em S) = pv_cc (pv_R mX5_rulerKind 0 [some (.ref 21)] [] (pv_em S)) mX6_fright 72 [some (.ref 0), some (.int x1), some (.int x2), some (.int x3)] [] := Eq.trans (pv_Rstp dX6_fright_65 rfl rfl rfl) (Eq.trans (pv_Rget dX6_fright_66 ffX6_31 (by decide) (pv_ce_0 _ _) rfl) (pv_Rcall (As := [.ref 21]) (rest := []) dX6_fright_69 rfl mfX6_275 rfl rfl rfl rfl rfl))
set_option maxHeartbeats 200000 in
theorem bX6_fright_72 {S : pv_S} {x1 x2 x3 u0 : Int32} : pv_R mX6_fright 72 [some (.ref 0), some (.int x1), some (.int x2), some (.int x3)] [.int u0] (pv_em S) = pv_cc (pv_R mX0_afterHour 0 [some (.int u0), some (.int x2), some (.int (S.1 21 9))] [] (pv_em S)) mX6_fright 83 [some (.ref 0), some (.int x1), some (.int x2), some (.int x3)] [] := Eq.trans (pv_Rstp dX6_fright_72 rfl rfl rfl) (Eq.trans (pv_Rstp dX6_fright_73 rfl rfl rfl) (Eq.trans (pv_Rget dX6_fright_74 ffX6_31 (by decide) (pv_ce_0 _ _) rfl) (Eq.trans (pv_Rget dX6_fright_77 ffX6_132 (by decide) (pv_ce_21 _ _) rfl) (pv_Rcall (As := [.int u0, .int x2, .int (S.1 21 9)]) (rest := []) dX6_fright_80 rfl mfX6_278 rfl rfl rfl rfl rfl))))
set_option maxHeartbeats 200000 in
theorem bX6_fright_83 {S : pv_S} {x1 x2 x3 u0 : Int32} : pv_R mX6_fright 83 [some (.ref 0), some (.int x1), some (.int x2), some (.int x3)] [.int u0] (pv_em S) = some (some (.int u0), pv_em S) := pv_Rret dX6_fright_83 rfl
theorem dX6_odds_0 : decode cX6_odds 0 = .ok (.aload_n 0, 1) := by decide +kernel
theorem dX6_odds_1 : decode cX6_odds 1 = .ok (.getfield 31, 3) := by decide +kernel
theorem dX6_odds_4 : decode cX6_odds 4 = .ok (.iload_n 1, 1) := by decide +kernel
theorem dX6_odds_5 : decode cX6_odds 5 = .ok (.invokevirtual 113, 3) := by decide +kernel
theorem dX6_odds_8 : decode cX6_odds 8 = .ok (.ifCond .eq 35, 3) := by decide +kernel
theorem dX6_odds_11 : decode cX6_odds 11 = .ok (.iload_n 2, 1) := by decide +kernel
theorem dX6_odds_12 : decode cX6_odds 12 = .ok (.iconst 0, 1) := by decide +kernel
theorem dX6_odds_13 : decode cX6_odds 13 = .ok (.sipush 200, 3) := by decide +kernel
theorem dX6_odds_16 : decode cX6_odds 16 = .ok (.invokestatic 116, 3) := by decide +kernel
theorem dX6_odds_19 : decode cX6_odds 19 = .ok (.ifCond .eq 24, 3) := by decide +kernel
theorem dX6_odds_22 : decode cX6_odds 22 = .ok (.iload_n 3, 1) := by decide +kernel
theorem dX6_odds_23 : decode cX6_odds 23 = .ok (.iconst 0, 1) := by decide +kernel
theorem dX6_odds_24 : decode cX6_odds 24 = .ok (.bipush 6, 2) := by decide +kernel
theorem dX6_odds_26 : decode cX6_odds 26 = .ok (.invokestatic 116, 3) := by decide +kernel
theorem dX6_odds_29 : decode cX6_odds 29 = .ok (.ifCond .eq 14, 3) := by decide +kernel
theorem dX6_odds_32 : decode cX6_odds 32 = .ok (.iload 4, 2) := by decide +kernel
theorem dX6_odds_34 : decode cX6_odds 34 = .ok (.iconst 0, 1) := by decide +kernel
theorem dX6_odds_35 : decode cX6_odds 35 = .ok (.bipush 12, 2) := by decide +kernel
theorem dX6_odds_37 : decode cX6_odds 37 = .ok (.invokestatic 116, 3) := by decide +kernel
theorem dX6_odds_40 : decode cX6_odds 40 = .ok (.ifCond .ne 5, 3) := by decide +kernel
theorem dX6_odds_43 : decode cX6_odds 43 = .ok (.iconst (-1), 1) := by decide +kernel
theorem dX6_odds_44 : decode cX6_odds 44 = .ok (.ireturn, 1) := by decide +kernel
theorem dX6_odds_45 : decode cX6_odds 45 = .ok (.lconst 0, 1) := by decide +kernel
theorem dX6_odds_46 : decode cX6_odds 46 = .ok (.lstore 5, 2) := by decide +kernel
theorem dX6_odds_48 : decode cX6_odds 48 = .ok (.iconst 0, 1) := by decide +kernel
theorem dX6_odds_49 : decode cX6_odds 49 = .ok (.istore 7, 2) := by decide +kernel
theorem dX6_odds_51 : decode cX6_odds 51 = .ok (.iload 7, 2) := by decide +kernel
theorem dX6_odds_53 : decode cX6_odds 53 = .ok (.iconst 1, 1) := by decide +kernel
theorem dX6_odds_54 : decode cX6_odds 54 = .ok (.iload_n 3, 1) := by decide +kernel
theorem dX6_odds_55 : decode cX6_odds 55 = .ok (.ishl, 1) := by decide +kernel
theorem dX6_odds_56 : decode cX6_odds 56 = .ok (.if_icmp .ge 35, 3) := by decide +kernel
theorem dX6_odds_59 : decode cX6_odds 59 = .ok (.aload_n 0, 1) := by decide +kernel
theorem dX6_odds_60 : decode cX6_odds 60 = .ok (.iload_n 1, 1) := by decide +kernel
theorem dX6_odds_61 : decode cX6_odds 61 = .ok (.iload_n 3, 1) := by decide +kernel
theorem dX6_odds_62 : decode cX6_odds 62 = .ok (.iload 7, 2) := by decide +kernel
theorem dX6_odds_64 : decode cX6_odds 64 = .ok (.invokevirtual 281, 3) := by decide +kernel
theorem dX6_odds_67 : decode cX6_odds 67 = .ok (.iload_n 2, 1) := by decide +kernel
theorem dX6_odds_68 : decode cX6_odds 68 = .ok (.if_icmp .lt 17, 3) := by decide +kernel
theorem dX6_odds_71 : decode cX6_odds 71 = .ok (.lload 5, 2) := by decide +kernel
theorem dX6_odds_73 : decode cX6_odds 73 = .ok (.aload_n 0, 1) := by decide +kernel
theorem dX6_odds_74 : decode cX6_odds 74 = .ok (.iload 7, 2) := by decide +kernel
theorem dX6_odds_76 : decode cX6_odds 76 = .ok (.iload_n 3, 1) := by decide +kernel
theorem dX6_odds_77 : decode cX6_odds 77 = .ok (.iload 4, 2) := by decide +kernel
theorem dX6_odds_79 : decode cX6_odds 79 = .ok (.invokevirtual 284, 3) := by decide +kernel
theorem dX6_odds_82 : decode cX6_odds 82 = .ok (.ladd, 1) := by decide +kernel
theorem dX6_odds_83 : decode cX6_odds 83 = .ok (.lstore 5, 2) := by decide +kernel
theorem dX6_odds_85 : decode cX6_odds 85 = .ok (.iinc 7 1, 3) := by decide +kernel
theorem dX6_odds_88 : decode cX6_odds 88 = .ok (.goto (-37), 3) := by decide +kernel
theorem dX6_odds_91 : decode cX6_odds 91 = .ok (.aload_n 0, 1) := by decide +kernel
theorem dX6_odds_92 : decode cX6_odds 92 = .ok (.getfield 45, 3) := by decide +kernel
theorem dX6_odds_95 : decode cX6_odds 95 = .ok (.lload 5, 2) := by decide +kernel
theorem dX6_odds_97 : decode cX6_odds 97 = .ok (.iload_n 3, 1) := by decide +kernel
theorem dX6_odds_98 : decode cX6_odds 98 = .ok (.invokestatic 288, 3) := by decide +kernel
theorem dX6_odds_101 : decode cX6_odds 101 = .ok (.invokevirtual 244, 3) := by decide +kernel
theorem dX6_odds_104 : decode cX6_odds 104 = .ok (.iconst 1, 1) := by decide +kernel
theorem dX6_odds_105 : decode cX6_odds 105 = .ok (.ireturn, 1) := by decide +kernel
set_option maxHeartbeats 200000 in
theorem bX6_odds_0 {S : pv_S} {x1 x2 x3 x4 : Int32} {a5 a6 a7 : Option Value} : pv_R mX6_odds 0 [some (.ref 0), some (.int x1), some (.int x2), some (.int x3), some (.int x4), a5, a6, a7] [] (pv_em S) = pv_cc (pv_R mX5_isCat 0 [some (.ref 21), some (.int x1)] [] (pv_em S)) mX6_odds 8 [some (.ref 0), some (.int x1), some (.int x2), some (.int x3), some (.int x4), a5, a6, a7] [] := Eq.trans (pv_Rstp dX6_odds_0 rfl rfl rfl) (Eq.trans (pv_Rget dX6_odds_1 ffX6_31 (by decide) (pv_ce_0 _ _) rfl) (Eq.trans (pv_Rstp dX6_odds_4 rfl rfl rfl) (pv_Rcall (As := [.ref 21, .int x1]) (rest := []) dX6_odds_5 rfl mfX6_113 rfl rfl rfl rfl rfl)))
set_option maxHeartbeats 200000 in
theorem bX6_odds_8 {S : pv_S} {x1 x2 x3 x4 u0 : Int32} {a5 a6 a7 : Option Value} : pv_R mX6_odds 8 [some (.ref 0), some (.int x1), some (.int x2), some (.int x3), some (.int x4), a5, a6, a7] [.int u0] (pv_em S) = if u0 = 0 then pv_R mX6_odds 43 [some (.ref 0), some (.int x1), some (.int x2), some (.int x3), some (.int x4), a5, a6, a7] [] (pv_em S) else pv_R mX6_odds 11 [some (.ref 0), some (.int x1), some (.int x2), some (.int x3), some (.int x4), a5, a6, a7] [] (pv_em S) := pv_Rbr (tgt := 43) dX6_odds_8 rfl rfl rfl rfl rfl (by decide)
set_option maxHeartbeats 200000 in
theorem bX6_odds_11 {S : pv_S} {x1 x2 x3 x4 : Int32} {a5 a6 a7 : Option Value} : pv_R mX6_odds 11 [some (.ref 0), some (.int x1), some (.int x2), some (.int x3), some (.int x4), a5, a6, a7] [] (pv_em S) = pv_cc (pv_R mX6_isWithin 0 [some (.int x2), some (.int 0), some (.int 200)] [] (pv_em S)) mX6_odds 19 [some (.ref 0), some (.int x1), some (.int x2), some (.int x3), some (.int x4), a5, a6, a7] [] := Eq.trans (pv_Rstp dX6_odds_11 rfl rfl rfl) (Eq.trans (pv_Ric dX6_odds_12 ki_0) (Eq.trans (pv_Rsp dX6_odds_13 ks_200) (pv_Rcall (As := [.int x2, .int 0, .int 200]) (rest := []) dX6_odds_16 rfl mfX6_116 rfl rfl rfl rfl rfl)))
set_option maxHeartbeats 200000 in
theorem bX6_odds_19 {S : pv_S} {x1 x2 x3 x4 u0 : Int32} {a5 a6 a7 : Option Value} : pv_R mX6_odds 19 [some (.ref 0), some (.int x1), some (.int x2), some (.int x3), some (.int x4), a5, a6, a7] [.int u0] (pv_em S) = if u0 = 0 then pv_R mX6_odds 43 [some (.ref 0), some (.int x1), some (.int x2), some (.int x3), some (.int x4), a5, a6, a7] [] (pv_em S) else pv_R mX6_odds 22 [some (.ref 0), some (.int x1), some (.int x2), some (.int x3), some (.int x4), a5, a6, a7] [] (pv_em S) := pv_Rbr (tgt := 43) dX6_odds_19 rfl rfl rfl rfl rfl (by decide)
set_option maxHeartbeats 200000 in
theorem bX6_odds_22 {S : pv_S} {x1 x2 x3 x4 : Int32} {a5 a6 a7 : Option Value} : pv_R mX6_odds 22 [some (.ref 0), some (.int x1), some (.int x2), some (.int x3), some (.int x4), a5, a6, a7] [] (pv_em S) = pv_cc (pv_R mX6_isWithin 0 [some (.int x3), some (.int 0), some (.int 6)] [] (pv_em S)) mX6_odds 29 [some (.ref 0), some (.int x1), some (.int x2), some (.int x3), some (.int x4), a5, a6, a7] [] := Eq.trans (pv_Rstp dX6_odds_22 rfl rfl rfl) (Eq.trans (pv_Ric dX6_odds_23 ki_0) (Eq.trans (pv_Rbp dX6_odds_24 kb_6) (pv_Rcall (As := [.int x3, .int 0, .int 6]) (rest := []) dX6_odds_26 rfl mfX6_116 rfl rfl rfl rfl rfl)))
set_option maxHeartbeats 200000 in
theorem bX6_odds_29 {S : pv_S} {x1 x2 x3 x4 u0 : Int32} {a5 a6 a7 : Option Value} : pv_R mX6_odds 29 [some (.ref 0), some (.int x1), some (.int x2), some (.int x3), some (.int x4), a5, a6, a7] [.int u0] (pv_em S) = if u0 = 0 then pv_R mX6_odds 43 [some (.ref 0), some (.int x1), some (.int x2), some (.int x3), some (.int x4), a5, a6, a7] [] (pv_em S) else pv_R mX6_odds 32 [some (.ref 0), some (.int x1), some (.int x2), some (.int x3), some (.int x4), a5, a6, a7] [] (pv_em S) := pv_Rbr (tgt := 43) dX6_odds_29 rfl rfl rfl rfl rfl (by decide)
set_option maxHeartbeats 200000 in
theorem bX6_odds_32 {S : pv_S} {x1 x2 x3 x4 : Int32} {a5 a6 a7 : Option Value} : pv_R mX6_odds 32 [some (.ref 0), some (.int x1), some (.int x2), some (.int x3), some (.int x4), a5, a6, a7] [] (pv_em S) = pv_cc (pv_R mX6_isWithin 0 [some (.int x4), some (.int 0), some (.int 12)] [] (pv_em S)) mX6_odds 40 [some (.ref 0), some (.int x1), some (.int x2), some (.int x3), some (.int x4), a5, a6, a7] [] := Eq.trans (pv_Rstp dX6_odds_32 rfl rfl rfl) (Eq.trans (pv_Ric dX6_odds_34 ki_0) (Eq.trans (pv_Rbp dX6_odds_35 kb_12) (pv_Rcall (As := [.int x4, .int 0, .int 12]) (rest := []) dX6_odds_37 rfl mfX6_116 rfl rfl rfl rfl rfl)))
set_option maxHeartbeats 200000 in
theorem bX6_odds_40 {S : pv_S} {x1 x2 x3 x4 u0 : Int32} {a5 a6 a7 : Option Value} : pv_R mX6_odds 40 [some (.ref 0), some (.int x1), some (.int x2), some (.int x3), some (.int x4), a5, a6, a7] [.int u0] (pv_em S) = if ¬ u0 = 0 then pv_R mX6_odds 45 [some (.ref 0), some (.int x1), some (.int x2), some (.int x3), some (.int x4), a5, a6, a7] [] (pv_em S) else pv_R mX6_odds 43 [some (.ref 0), some (.int x1), some (.int x2), some (.int x3), some (.int x4), a5, a6, a7] [] (pv_em S) := pv_Rbr (tgt := 45) dX6_odds_40 rfl rfl rfl rfl rfl (by decide)
set_option maxHeartbeats 200000 in
theorem bX6_odds_43 {S : pv_S} {x1 x2 x3 x4 : Int32} {a5 a6 a7 : Option Value} : pv_R mX6_odds 43 [some (.ref 0), some (.int x1), some (.int x2), some (.int x3), some (.int x4), a5, a6, a7] [] (pv_em S) = some (some (.int (-1)), pv_em S) := Eq.trans (pv_Ric dX6_odds_43 ki_m1) (pv_Rret dX6_odds_44 rfl)
set_option maxHeartbeats 200000 in
theorem bX6_odds_45 {S : pv_S} {x1 x2 x3 x4 : Int32} {a5 a6 a7 : Option Value} : pv_R mX6_odds 45 [some (.ref 0), some (.int x1), some (.int x2), some (.int x3), some (.int x4), a5, a6, a7] [] (pv_em S) = pv_R mX6_odds 51 [some (.ref 0), some (.int x1), some (.int x2), some (.int x3), some (.int x4), some (.long 0), none, some (.int 0)] [] (pv_em S) := Eq.trans (pv_Rlc dX6_odds_45 kl_0) (Eq.trans (pv_Rstp dX6_odds_46 rfl rfl rfl) (Eq.trans (pv_Ric dX6_odds_48 ki_0) (pv_Rstp dX6_odds_49 rfl rfl rfl)))
set_option maxHeartbeats 200000 in
theorem bX6_odds_51 {S : pv_S} {x1 x2 x3 x4 x7 : Int32} {x5 : Int64} {a6 : Option Value} : pv_R mX6_odds 51 [some (.ref 0), some (.int x1), some (.int x2), some (.int x3), some (.int x4), some (.long x5), a6, some (.int x7)] [] (pv_em S) = if (1 <<< (x3 &&& 31)) ≤ x7 then pv_R mX6_odds 91 [some (.ref 0), some (.int x1), some (.int x2), some (.int x3), some (.int x4), some (.long x5), a6, some (.int x7)] [] (pv_em S) else pv_R mX6_odds 59 [some (.ref 0), some (.int x1), some (.int x2), some (.int x3), some (.int x4), some (.long x5), a6, some (.int x7)] [] (pv_em S) := Eq.trans (pv_Rstp dX6_odds_51 rfl rfl rfl) (Eq.trans (pv_Ric dX6_odds_53 ki_1) (Eq.trans (pv_Rstp dX6_odds_54 rfl rfl rfl) (Eq.trans (pv_Rstp dX6_odds_55 rfl rfl rfl) (pv_Rbr (tgt := 91) dX6_odds_56 rfl rfl rfl rfl rfl (by decide)))))
set_option maxHeartbeats 200000 in
theorem bX6_odds_59 {S : pv_S} {x1 x2 x3 x4 x7 : Int32} {x5 : Int64} {a6 : Option Value} : pv_R mX6_odds 59 [some (.ref 0), some (.int x1), some (.int x2), some (.int x3), some (.int x4), some (.long x5), a6, some (.int x7)] [] (pv_em S) = pv_cc (pv_R mX6_weightByMice 0 [some (.ref 0), some (.int x1), some (.int x3), some (.int x7), none, none, none, none] [] (pv_em S)) mX6_odds 67 [some (.ref 0), some (.int x1), some (.int x2), some (.int x3), some (.int x4), some (.long x5), a6, some (.int x7)] [] := Eq.trans (pv_Rstp dX6_odds_59 rfl rfl rfl) (Eq.trans (pv_Rstp dX6_odds_60 rfl rfl rfl) (Eq.trans (pv_Rstp dX6_odds_61 rfl rfl rfl) (Eq.trans (pv_Rstp dX6_odds_62 rfl rfl rfl) (pv_Rcall (As := [.ref 0, .int x1, .int x3, .int x7]) (rest := []) dX6_odds_64 rfl mfX6_281 rfl rfl rfl rfl rfl))))
set_option maxHeartbeats 200000 in
theorem bX6_odds_67 {S : pv_S} {x1 x2 x3 x4 x7 u0 : Int32} {x5 : Int64} {a6 : Option Value} : pv_R mX6_odds 67 [some (.ref 0), some (.int x1), some (.int x2), some (.int x3), some (.int x4), some (.long x5), a6, some (.int x7)] [.int u0] (pv_em S) = if u0 < x2 then pv_R mX6_odds 85 [some (.ref 0), some (.int x1), some (.int x2), some (.int x3), some (.int x4), some (.long x5), a6, some (.int x7)] [] (pv_em S) else pv_R mX6_odds 71 [some (.ref 0), some (.int x1), some (.int x2), some (.int x3), some (.int x4), some (.long x5), a6, some (.int x7)] [] (pv_em S) := Eq.trans (pv_Rstp dX6_odds_67 rfl rfl rfl) (pv_Rbr (tgt := 85) dX6_odds_68 rfl rfl rfl rfl rfl (by decide))
set_option maxHeartbeats 200000 in
theorem bX6_odds_71 {S : pv_S} {x1 x2 x3 x4 x7 : Int32} {x5 : Int64} {a6 : Option Value} : pv_R mX6_odds 71 [some (.ref 0), some (.int x1), some (.int x2), some (.int x3), some (.int x4), some (.long x5), a6, some (.int x7)] [] (pv_em S) = pv_cc (pv_R mX6_shareOf 0 [some (.ref 0), some (.int x7), some (.int x3), some (.int x4), none, none, none, none] [] (pv_em S)) mX6_odds 82 [some (.ref 0), some (.int x1), some (.int x2), some (.int x3), some (.int x4), some (.long x5), a6, some (.int x7)] [.long x5] := Eq.trans (pv_Rstp dX6_odds_71 rfl rfl rfl) (Eq.trans (pv_Rstp dX6_odds_73 rfl rfl rfl) (Eq.trans (pv_Rstp dX6_odds_74 rfl rfl rfl) (Eq.trans (pv_Rstp dX6_odds_76 rfl rfl rfl) (Eq.trans (pv_Rstp dX6_odds_77 rfl rfl rfl) (pv_Rcall (As := [.ref 0, .int x7, .int x3, .int x4]) (rest := [.long x5]) dX6_odds_79 rfl mfX6_284 rfl rfl rfl rfl rfl)))))
set_option maxHeartbeats 200000 in
theorem bX6_odds_82 {S : pv_S} {x1 x2 x3 x4 x7 : Int32} {x5 u0 u1 : Int64} {a6 : Option Value} : pv_R mX6_odds 82 [some (.ref 0), some (.int x1), some (.int x2), some (.int x3), some (.int x4), some (.long x5), a6, some (.int x7)] [.long u0, .long u1] (pv_em S) = pv_R mX6_odds 85 [some (.ref 0), some (.int x1), some (.int x2), some (.int x3), some (.int x4), some (.long (u1 + u0)), none, some (.int x7)] [] (pv_em S) := Eq.trans (pv_Rstp dX6_odds_82 rfl rfl rfl) (pv_Rstp dX6_odds_83 rfl rfl rfl)
set_option maxHeartbeats 200000 in
theorem bX6_odds_85 {S : pv_S} {x1 x2 x3 x4 x7 : Int32} {x5 : Int64} {a6 : Option Value} : pv_R mX6_odds 85 [some (.ref 0), some (.int x1), some (.int x2), some (.int x3), some (.int x4), some (.long x5), a6, some (.int x7)] [] (pv_em S) = pv_R mX6_odds 51 [some (.ref 0), some (.int x1), some (.int x2), some (.int x3), some (.int x4), some (.long x5), (pv_nl a6), some (.int (x7 + 1))] [] (pv_em S) := Eq.trans (pv_Rinc dX6_odds_85 rfl (Nat.le_of_ble_eq_true rfl) ki_1 rfl) (pv_Rgo (tgt := 51) dX6_odds_88 rfl (by decide))
set_option maxHeartbeats 200000 in
theorem bX6_odds_91 {S : pv_S} {x1 x2 x3 x4 x7 : Int32} {x5 : Int64} {a6 : Option Value} : pv_R mX6_odds 91 [some (.ref 0), some (.int x1), some (.int x2), some (.int x3), some (.int x4), some (.long x5), a6, some (.int x7)] [] (pv_em S) = pv_cc (pv_R mX6_wholeOf 0 [some (.int x3), none, none, none] [] (pv_em S)) mX6_odds 101 [some (.ref 0), some (.int x1), some (.int x2), some (.int x3), some (.int x4), some (.long x5), a6, some (.int x7)] [.long x5, .ref 35] := Eq.trans (pv_Rstp dX6_odds_91 rfl rfl rfl) (Eq.trans (pv_Rget dX6_odds_92 ffX6_45 (by decide) (pv_ce_0 _ _) rfl) (Eq.trans (pv_Rstp dX6_odds_95 rfl rfl rfl) (Eq.trans (pv_Rstp dX6_odds_97 rfl rfl rfl) (pv_Rcall (As := [.int x3]) (rest := [.long x5, .ref 35]) dX6_odds_98 rfl mfX6_288 rfl rfl rfl rfl rfl))))
set_option maxHeartbeats 200000 in
theorem bX6_odds_101 {S : pv_S} {x1 x2 x3 x4 x7 : Int32} {x5 u0 u1 : Int64} {a6 : Option Value} : pv_R mX6_odds 101 [some (.ref 0), some (.int x1), some (.int x2), some (.int x3), some (.int x4), some (.long x5), a6, some (.int x7)] [.long u0, .long u1, .ref 35] (pv_em S) = pv_cc (pv_R mX4_tell 0 [some (.ref 35), some (.long u1), none, some (.long u0), none, none, none] [] (pv_em S)) mX6_odds 104 [some (.ref 0), some (.int x1), some (.int x2), some (.int x3), some (.int x4), some (.long x5), a6, some (.int x7)] [] := pv_Rcall (As := [.ref 35, .long u1, .long u0]) (rest := []) dX6_odds_101 rfl mfX6_244 rfl rfl rfl rfl rfl
set_option maxHeartbeats 200000 in
theorem bX6_odds_104 {S : pv_S} {x1 x2 x3 x4 x7 : Int32} {x5 : Int64} {a6 : Option Value} : pv_R mX6_odds 104 [some (.ref 0), some (.int x1), some (.int x2), some (.int x3), some (.int x4), some (.long x5), a6, some (.int x7)] [] (pv_em S) = some (some (.int 1), pv_em S) := Eq.trans (pv_Ric dX6_odds_104 ki_1) (pv_Rret dX6_odds_105 rfl)
theorem dX6_mid_0 : decode cX6_mid 0 = .ok (.aload_n 0, 1) := by decide +kernel
theorem dX6_mid_1 : decode cX6_mid 1 = .ok (.getfield 31, 3) := by decide +kernel
theorem dX6_mid_4 : decode cX6_mid 4 = .ok (.iload_n 1, 1) := by decide +kernel
theorem dX6_mid_5 : decode cX6_mid 5 = .ok (.invokevirtual 113, 3) := by decide +kernel
theorem dX6_mid_8 : decode cX6_mid 8 = .ok (.ifCond .eq 23, 3) := by decide +kernel
theorem dX6_mid_11 : decode cX6_mid 11 = .ok (.iload_n 2, 1) := by decide +kernel
theorem dX6_mid_12 : decode cX6_mid 12 = .ok (.iconst 0, 1) := by decide +kernel
theorem dX6_mid_13 : decode cX6_mid 13 = .ok (.bipush 6, 2) := by decide +kernel
theorem dX6_mid_15 : decode cX6_mid 15 = .ok (.invokestatic 116, 3) := by decide +kernel
theorem dX6_mid_18 : decode cX6_mid 18 = .ok (.ifCond .eq 13, 3) := by decide +kernel
theorem dX6_mid_21 : decode cX6_mid 21 = .ok (.iload_n 3, 1) := by decide +kernel
theorem dX6_mid_22 : decode cX6_mid 22 = .ok (.iconst 0, 1) := by decide +kernel
theorem dX6_mid_23 : decode cX6_mid 23 = .ok (.bipush 12, 2) := by decide +kernel
theorem dX6_mid_25 : decode cX6_mid 25 = .ok (.invokestatic 116, 3) := by decide +kernel
theorem dX6_mid_28 : decode cX6_mid 28 = .ok (.ifCond .ne 5, 3) := by decide +kernel
theorem dX6_mid_31 : decode cX6_mid 31 = .ok (.iconst (-1), 1) := by decide +kernel
theorem dX6_mid_32 : decode cX6_mid 32 = .ok (.ireturn, 1) := by decide +kernel
theorem dX6_mid_33 : decode cX6_mid 33 = .ok (.lconst 0, 1) := by decide +kernel
theorem dX6_mid_34 : decode cX6_mid 34 = .ok (.lstore 4, 2) := by decide +kernel
theorem dX6_mid_36 : decode cX6_mid 36 = .ok (.iconst 0, 1) := by decide +kernel
theorem dX6_mid_37 : decode cX6_mid 37 = .ok (.istore 6, 2) := by decide +kernel
theorem dX6_mid_39 : decode cX6_mid 39 = .ok (.iload 6, 2) := by decide +kernel
theorem dX6_mid_41 : decode cX6_mid 41 = .ok (.iconst 1, 1) := by decide +kernel
theorem dX6_mid_42 : decode cX6_mid 42 = .ok (.iload_n 2, 1) := by decide +kernel
theorem dX6_mid_43 : decode cX6_mid 43 = .ok (.ishl, 1) := by decide +kernel
theorem dX6_mid_44 : decode cX6_mid 44 = .ok (.if_icmp .ge 32, 3) := by decide +kernel
theorem dX6_mid_47 : decode cX6_mid 47 = .ok (.lload 4, 2) := by decide +kernel
theorem dX6_mid_49 : decode cX6_mid 49 = .ok (.aload_n 0, 1) := by decide +kernel
theorem dX6_mid_50 : decode cX6_mid 50 = .ok (.iload_n 1, 1) := by decide +kernel
theorem dX6_mid_51 : decode cX6_mid 51 = .ok (.iload_n 2, 1) := by decide +kernel
theorem dX6_mid_52 : decode cX6_mid 52 = .ok (.iload 6, 2) := by decide +kernel
theorem dX6_mid_54 : decode cX6_mid 54 = .ok (.invokevirtual 281, 3) := by decide +kernel
theorem dX6_mid_57 : decode cX6_mid 57 = .ok (.i2l, 1) := by decide +kernel
theorem dX6_mid_58 : decode cX6_mid 58 = .ok (.aload_n 0, 1) := by decide +kernel
theorem dX6_mid_59 : decode cX6_mid 59 = .ok (.iload 6, 2) := by decide +kernel
theorem dX6_mid_61 : decode cX6_mid 61 = .ok (.iload_n 2, 1) := by decide +kernel
theorem dX6_mid_62 : decode cX6_mid 62 = .ok (.iload_n 3, 1) := by decide +kernel
theorem dX6_mid_63 : decode cX6_mid 63 = .ok (.invokevirtual 284, 3) := by decide +kernel
theorem dX6_mid_66 : decode cX6_mid 66 = .ok (.lmul, 1) := by decide +kernel
theorem dX6_mid_67 : decode cX6_mid 67 = .ok (.ladd, 1) := by decide +kernel
theorem dX6_mid_68 : decode cX6_mid 68 = .ok (.lstore 4, 2) := by decide +kernel
theorem dX6_mid_70 : decode cX6_mid 70 = .ok (.iinc 6 1, 3) := by decide +kernel
theorem dX6_mid_73 : decode cX6_mid 73 = .ok (.goto (-34), 3) := by decide +kernel
theorem dX6_mid_76 : decode cX6_mid 76 = .ok (.aload_n 0, 1) := by decide +kernel
theorem dX6_mid_77 : decode cX6_mid 77 = .ok (.getfield 45, 3) := by decide +kernel
theorem dX6_mid_80 : decode cX6_mid 80 = .ok (.lload 4, 2) := by decide +kernel
theorem dX6_mid_82 : decode cX6_mid 82 = .ok (.iload_n 2, 1) := by decide +kernel
theorem dX6_mid_83 : decode cX6_mid 83 = .ok (.invokestatic 288, 3) := by decide +kernel
theorem dX6_mid_86 : decode cX6_mid 86 = .ok (.invokevirtual 244, 3) := by decide +kernel
theorem dX6_mid_89 : decode cX6_mid 89 = .ok (.iconst 1, 1) := by decide +kernel
theorem dX6_mid_90 : decode cX6_mid 90 = .ok (.ireturn, 1) := by decide +kernel
set_option maxHeartbeats 200000 in
theorem bX6_mid_0 {S : pv_S} {x1 x2 x3 : Int32} {a4 a5 a6 : Option Value} : pv_R mX6_mid 0 [some (.ref 0), some (.int x1), some (.int x2), some (.int x3), a4, a5, a6] [] (pv_em S) = pv_cc (pv_R mX5_isCat 0 [some (.ref 21), some (.int x1)] [] (pv_em S)) mX6_mid 8 [some (.ref 0), some (.int x1), some (.int x2), some (.int x3), a4, a5, a6] [] := Eq.trans (pv_Rstp dX6_mid_0 rfl rfl rfl) (Eq.trans (pv_Rget dX6_mid_1 ffX6_31 (by decide) (pv_ce_0 _ _) rfl) (Eq.trans (pv_Rstp dX6_mid_4 rfl rfl rfl) (pv_Rcall (As := [.ref 21, .int x1]) (rest := []) dX6_mid_5 rfl mfX6_113 rfl rfl rfl rfl rfl)))
set_option maxHeartbeats 200000 in
theorem bX6_mid_8 {S : pv_S} {x1 x2 x3 u0 : Int32} {a4 a5 a6 : Option Value} : pv_R mX6_mid 8 [some (.ref 0), some (.int x1), some (.int x2), some (.int x3), a4, a5, a6] [.int u0] (pv_em S) = if u0 = 0 then pv_R mX6_mid 31 [some (.ref 0), some (.int x1), some (.int x2), some (.int x3), a4, a5, a6] [] (pv_em S) else pv_R mX6_mid 11 [some (.ref 0), some (.int x1), some (.int x2), some (.int x3), a4, a5, a6] [] (pv_em S) := pv_Rbr (tgt := 31) dX6_mid_8 rfl rfl rfl rfl rfl (by decide)
set_option maxHeartbeats 200000 in
theorem bX6_mid_11 {S : pv_S} {x1 x2 x3 : Int32} {a4 a5 a6 : Option Value} : pv_R mX6_mid 11 [some (.ref 0), some (.int x1), some (.int x2), some (.int x3), a4, a5, a6] [] (pv_em S) = pv_cc (pv_R mX6_isWithin 0 [some (.int x2), some (.int 0), some (.int 6)] [] (pv_em S)) mX6_mid 18 [some (.ref 0), some (.int x1), some (.int x2), some (.int x3), a4, a5, a6] [] := Eq.trans (pv_Rstp dX6_mid_11 rfl rfl rfl) (Eq.trans (pv_Ric dX6_mid_12 ki_0) (Eq.trans (pv_Rbp dX6_mid_13 kb_6) (pv_Rcall (As := [.int x2, .int 0, .int 6]) (rest := []) dX6_mid_15 rfl mfX6_116 rfl rfl rfl rfl rfl)))
set_option maxHeartbeats 200000 in
theorem bX6_mid_18 {S : pv_S} {x1 x2 x3 u0 : Int32} {a4 a5 a6 : Option Value} : pv_R mX6_mid 18 [some (.ref 0), some (.int x1), some (.int x2), some (.int x3), a4, a5, a6] [.int u0] (pv_em S) = if u0 = 0 then pv_R mX6_mid 31 [some (.ref 0), some (.int x1), some (.int x2), some (.int x3), a4, a5, a6] [] (pv_em S) else pv_R mX6_mid 21 [some (.ref 0), some (.int x1), some (.int x2), some (.int x3), a4, a5, a6] [] (pv_em S) := pv_Rbr (tgt := 31) dX6_mid_18 rfl rfl rfl rfl rfl (by decide)
set_option maxHeartbeats 200000 in
theorem bX6_mid_21 {S : pv_S} {x1 x2 x3 : Int32} {a4 a5 a6 : Option Value} : pv_R mX6_mid 21 [some (.ref 0), some (.int x1), some (.int x2), some (.int x3), a4, a5, a6] [] (pv_em S) = pv_cc (pv_R mX6_isWithin 0 [some (.int x3), some (.int 0), some (.int 12)] [] (pv_em S)) mX6_mid 28 [some (.ref 0), some (.int x1), some (.int x2), some (.int x3), a4, a5, a6] [] := Eq.trans (pv_Rstp dX6_mid_21 rfl rfl rfl) (Eq.trans (pv_Ric dX6_mid_22 ki_0) (Eq.trans (pv_Rbp dX6_mid_23 kb_12) (pv_Rcall (As := [.int x3, .int 0, .int 12]) (rest := []) dX6_mid_25 rfl mfX6_116 rfl rfl rfl rfl rfl)))
set_option maxHeartbeats 200000 in
theorem bX6_mid_28 {S : pv_S} {x1 x2 x3 u0 : Int32} {a4 a5 a6 : Option Value} : pv_R mX6_mid 28 [some (.ref 0), some (.int x1), some (.int x2), some (.int x3), a4, a5, a6] [.int u0] (pv_em S) = if ¬ u0 = 0 then pv_R mX6_mid 33 [some (.ref 0), some (.int x1), some (.int x2), some (.int x3), a4, a5, a6] [] (pv_em S) else pv_R mX6_mid 31 [some (.ref 0), some (.int x1), some (.int x2), some (.int x3), a4, a5, a6] [] (pv_em S) := pv_Rbr (tgt := 33) dX6_mid_28 rfl rfl rfl rfl rfl (by decide)
set_option maxHeartbeats 200000 in
theorem bX6_mid_31 {S : pv_S} {x1 x2 x3 : Int32} {a4 a5 a6 : Option Value} : pv_R mX6_mid 31 [some (.ref 0), some (.int x1), some (.int x2), some (.int x3), a4, a5, a6] [] (pv_em S) = some (some (.int (-1)), pv_em S) := Eq.trans (pv_Ric dX6_mid_31 ki_m1) (pv_Rret dX6_mid_32 rfl)
set_option maxHeartbeats 200000 in
theorem bX6_mid_33 {S : pv_S} {x1 x2 x3 : Int32} {a4 a5 a6 : Option Value} : pv_R mX6_mid 33 [some (.ref 0), some (.int x1), some (.int x2), some (.int x3), a4, a5, a6] [] (pv_em S) = pv_R mX6_mid 39 [some (.ref 0), some (.int x1), some (.int x2), some (.int x3), some (.long 0), none, some (.int 0)] [] (pv_em S) := Eq.trans (pv_Rlc dX6_mid_33 kl_0) (Eq.trans (pv_Rstp dX6_mid_34 rfl rfl rfl) (Eq.trans (pv_Ric dX6_mid_36 ki_0) (pv_Rstp dX6_mid_37 rfl rfl rfl)))
set_option maxHeartbeats 200000 in
theorem bX6_mid_39 {S : pv_S} {x1 x2 x3 x6 : Int32} {x4 : Int64} {a5 : Option Value} : pv_R mX6_mid 39 [some (.ref 0), some (.int x1), some (.int x2), some (.int x3), some (.long x4), a5, some (.int x6)] [] (pv_em S) = if (1 <<< (x2 &&& 31)) ≤ x6 then pv_R mX6_mid 76 [some (.ref 0), some (.int x1), some (.int x2), some (.int x3), some (.long x4), a5, some (.int x6)] [] (pv_em S) else pv_R mX6_mid 47 [some (.ref 0), some (.int x1), some (.int x2), some (.int x3), some (.long x4), a5, some (.int x6)] [] (pv_em S) := Eq.trans (pv_Rstp dX6_mid_39 rfl rfl rfl) (Eq.trans (pv_Ric dX6_mid_41 ki_1) (Eq.trans (pv_Rstp dX6_mid_42 rfl rfl rfl) (Eq.trans (pv_Rstp dX6_mid_43 rfl rfl rfl) (pv_Rbr (tgt := 76) dX6_mid_44 rfl rfl rfl rfl rfl (by decide)))))
set_option maxHeartbeats 200000 in
theorem bX6_mid_47 {S : pv_S} {x1 x2 x3 x6 : Int32} {x4 : Int64} {a5 : Option Value} : pv_R mX6_mid 47 [some (.ref 0), some (.int x1), some (.int x2), some (.int x3), some (.long x4), a5, some (.int x6)] [] (pv_em S) = pv_cc (pv_R mX6_weightByMice 0 [some (.ref 0), some (.int x1), some (.int x2), some (.int x6), none, none, none, none] [] (pv_em S)) mX6_mid 57 [some (.ref 0), some (.int x1), some (.int x2), some (.int x3), some (.long x4), a5, some (.int x6)] [.long x4] := Eq.trans (pv_Rstp dX6_mid_47 rfl rfl rfl) (Eq.trans (pv_Rstp dX6_mid_49 rfl rfl rfl) (Eq.trans (pv_Rstp dX6_mid_50 rfl rfl rfl) (Eq.trans (pv_Rstp dX6_mid_51 rfl rfl rfl) (Eq.trans (pv_Rstp dX6_mid_52 rfl rfl rfl) (pv_Rcall (As := [.ref 0, .int x1, .int x2, .int x6]) (rest := [.long x4]) dX6_mid_54 rfl mfX6_281 rfl rfl rfl rfl rfl)))))
set_option maxHeartbeats 200000 in
theorem bX6_mid_57 {S : pv_S} {x1 x2 x3 x6 u0 : Int32} {x4 u1 : Int64} {a5 : Option Value} : pv_R mX6_mid 57 [some (.ref 0), some (.int x1), some (.int x2), some (.int x3), some (.long x4), a5, some (.int x6)] [.int u0, .long u1] (pv_em S) = pv_cc (pv_R mX6_shareOf 0 [some (.ref 0), some (.int x6), some (.int x2), some (.int x3), none, none, none, none] [] (pv_em S)) mX6_mid 66 [some (.ref 0), some (.int x1), some (.int x2), some (.int x3), some (.long x4), a5, some (.int x6)] [.long (Int32.toInt64 u0), .long u1] := Eq.trans (pv_Rstp dX6_mid_57 rfl rfl rfl) (Eq.trans (pv_Rstp dX6_mid_58 rfl rfl rfl) (Eq.trans (pv_Rstp dX6_mid_59 rfl rfl rfl) (Eq.trans (pv_Rstp dX6_mid_61 rfl rfl rfl) (Eq.trans (pv_Rstp dX6_mid_62 rfl rfl rfl) (pv_Rcall (As := [.ref 0, .int x6, .int x2, .int x3]) (rest := [.long (Int32.toInt64 u0), .long u1]) dX6_mid_63 rfl mfX6_284 rfl rfl rfl rfl rfl)))))
set_option maxHeartbeats 200000 in
theorem bX6_mid_66 {S : pv_S} {x1 x2 x3 x6 : Int32} {x4 u0 u1 u2 : Int64} {a5 : Option Value} : pv_R mX6_mid 66 [some (.ref 0), some (.int x1), some (.int x2), some (.int x3), some (.long x4), a5, some (.int x6)] [.long u0, .long u1, .long u2] (pv_em S) = pv_R mX6_mid 39 [some (.ref 0), some (.int x1), some (.int x2), some (.int x3), some (.long (u2 + (u1 * u0))), none, some (.int (x6 + 1))] [] (pv_em S) := Eq.trans (pv_Rstp dX6_mid_66 rfl rfl rfl) (Eq.trans (pv_Rstp dX6_mid_67 rfl rfl rfl) (Eq.trans (pv_Rstp dX6_mid_68 rfl rfl rfl) (Eq.trans (pv_Rinc dX6_mid_70 rfl (Nat.le_of_ble_eq_true rfl) ki_1 rfl) (pv_Rgo (tgt := 39) dX6_mid_73 rfl (by decide)))))
set_option maxHeartbeats 200000 in
theorem bX6_mid_76 {S : pv_S} {x1 x2 x3 x6 : Int32} {x4 : Int64} {a5 : Option Value} : pv_R mX6_mid 76 [some (.ref 0), some (.int x1), some (.int x2), some (.int x3), some (.long x4), a5, some (.int x6)] [] (pv_em S) = pv_cc (pv_R mX6_wholeOf 0 [some (.int x2), none, none, none] [] (pv_em S)) mX6_mid 86 [some (.ref 0), some (.int x1), some (.int x2), some (.int x3), some (.long x4), a5, some (.int x6)] [.long x4, .ref 35] := Eq.trans (pv_Rstp dX6_mid_76 rfl rfl rfl) (Eq.trans (pv_Rget dX6_mid_77 ffX6_45 (by decide) (pv_ce_0 _ _) rfl) (Eq.trans (pv_Rstp dX6_mid_80 rfl rfl rfl) (Eq.trans (pv_Rstp dX6_mid_82 rfl rfl rfl) (pv_Rcall (As := [.int x2]) (rest := [.long x4, .ref 35]) dX6_mid_83 rfl mfX6_288 rfl rfl rfl rfl rfl))))
set_option maxHeartbeats 200000 in
theorem bX6_mid_86 {S : pv_S} {x1 x2 x3 x6 : Int32} {x4 u0 u1 : Int64} {a5 : Option Value} : pv_R mX6_mid 86 [some (.ref 0), some (.int x1), some (.int x2), some (.int x3), some (.long x4), a5, some (.int x6)] [.long u0, .long u1, .ref 35] (pv_em S) = pv_cc (pv_R mX4_tell 0 [some (.ref 35), some (.long u1), none, some (.long u0), none, none, none] [] (pv_em S)) mX6_mid 89 [some (.ref 0), some (.int x1), some (.int x2), some (.int x3), some (.long x4), a5, some (.int x6)] [] := pv_Rcall (As := [.ref 35, .long u1, .long u0]) (rest := []) dX6_mid_86 rfl mfX6_244 rfl rfl rfl rfl rfl
set_option maxHeartbeats 200000 in
theorem bX6_mid_89 {S : pv_S} {x1 x2 x3 x6 : Int32} {x4 : Int64} {a5 : Option Value} : pv_R mX6_mid 89 [some (.ref 0), some (.int x1), some (.int x2), some (.int x3), some (.long x4), a5, some (.int x6)] [] (pv_em S) = some (some (.int 1), pv_em S) := Eq.trans (pv_Ric dX6_mid_89 ki_1) (pv_Rret dX6_mid_90 rfl)
theorem dX6_lots_0 : decode cX6_lots 0 = .ok (.iload_n 1, 1) := by decide +kernel
theorem dX6_lots_1 : decode cX6_lots 1 = .ok (.iconst 1, 1) := by decide +kernel
theorem dX6_lots_2 : decode cX6_lots 2 = .ok (.bipush 20, 2) := by decide +kernel
theorem dX6_lots_4 : decode cX6_lots 4 = .ok (.invokestatic 116, 3) := by decide +kernel
theorem dX6_lots_7 : decode cX6_lots 7 = .ok (.ifCond .eq 14, 3) := by decide +kernel
theorem dX6_lots_10 : decode cX6_lots 10 = .ok (.iload_n 2, 1) := by decide +kernel
theorem dX6_lots_11 : decode cX6_lots 11 = .ok (.iconst 1, 1) := by decide +kernel
theorem dX6_lots_12 : decode cX6_lots 12 = .ok (.ldc_w 291, 3) := by decide +kernel
theorem dX6_lots_15 : decode cX6_lots 15 = .ok (.invokestatic 116, 3) := by decide +kernel
theorem dX6_lots_18 : decode cX6_lots 18 = .ok (.ifCond .ne 5, 3) := by decide +kernel
theorem dX6_lots_21 : decode cX6_lots 21 = .ok (.iconst (-1), 1) := by decide +kernel
theorem dX6_lots_22 : decode cX6_lots 22 = .ok (.ireturn, 1) := by decide +kernel
theorem dX6_lots_23 : decode cX6_lots 23 = .ok (.aload_n 0, 1) := by decide +kernel
theorem dX6_lots_24 : decode cX6_lots 24 = .ok (.getfield 31, 3) := by decide +kernel
theorem dX6_lots_27 : decode cX6_lots 27 = .ok (.getfield 110, 3) := by decide +kernel
theorem dX6_lots_30 : decode cX6_lots 30 = .ok (.ifCond .ne 6, 3) := by decide +kernel
theorem dX6_lots_33 : decode cX6_lots 33 = .ok (.bipush (-4), 2) := by decide +kernel
theorem dX6_lots_35 : decode cX6_lots 35 = .ok (.ireturn, 1) := by decide +kernel
theorem dX6_lots_36 : decode cX6_lots 36 = .ok (.aload_n 0, 1) := by decide +kernel
theorem dX6_lots_37 : decode cX6_lots 37 = .ok (.getfield 31, 3) := by decide +kernel
theorem dX6_lots_40 : decode cX6_lots 40 = .ok (.iload_n 1, 1) := by decide +kernel
theorem dX6_lots_41 : decode cX6_lots 41 = .ok (.invokevirtual 152, 3) := by decide +kernel
theorem dX6_lots_44 : decode cX6_lots 44 = .ok (.ifCond .ne 6, 3) := by decide +kernel
theorem dX6_lots_47 : decode cX6_lots 47 = .ok (.bipush (-2), 2) := by decide +kernel
theorem dX6_lots_49 : decode cX6_lots 49 = .ok (.ireturn, 1) := by decide +kernel
theorem dX6_lots_50 : decode cX6_lots 50 = .ok (.iload_n 2, 1) := by decide +kernel
theorem dX6_lots_51 : decode cX6_lots 51 = .ok (.i2l, 1) := by decide +kernel
theorem dX6_lots_52 : decode cX6_lots 52 = .ok (.lstore_n 3, 1) := by decide +kernel
theorem dX6_lots_53 : decode cX6_lots 53 = .ok (.iconst 0, 1) := by decide +kernel
theorem dX6_lots_54 : decode cX6_lots 54 = .ok (.istore 5, 2) := by decide +kernel
theorem dX6_lots_56 : decode cX6_lots 56 = .ok (.iload 5, 2) := by decide +kernel
theorem dX6_lots_58 : decode cX6_lots 58 = .ok (.iload_n 1, 1) := by decide +kernel
theorem dX6_lots_59 : decode cX6_lots 59 = .ok (.if_icmp .ge 31, 3) := by decide +kernel
theorem dX6_lots_62 : decode cX6_lots 62 = .ok (.ldc2_w 292, 3) := by decide +kernel
theorem dX6_lots_65 : decode cX6_lots 65 = .ok (.lload_n 3, 1) := by decide +kernel
theorem dX6_lots_66 : decode cX6_lots 66 = .ok (.lmul, 1) := by decide +kernel
theorem dX6_lots_67 : decode cX6_lots 67 = .ok (.ldc2_w 294, 3) := by decide +kernel
theorem dX6_lots_70 : decode cX6_lots 70 = .ok (.lrem, 1) := by decide +kernel
theorem dX6_lots_71 : decode cX6_lots 71 = .ok (.lstore_n 3, 1) := by decide +kernel
theorem dX6_lots_72 : decode cX6_lots 72 = .ok (.aload_n 0, 1) := by decide +kernel
theorem dX6_lots_73 : decode cX6_lots 73 = .ok (.getfield 31, 3) := by decide +kernel
theorem dX6_lots_76 : decode cX6_lots 76 = .ok (.aload_n 0, 1) := by decide +kernel
theorem dX6_lots_77 : decode cX6_lots 77 = .ok (.lload_n 3, 1) := by decide +kernel
theorem dX6_lots_78 : decode cX6_lots 78 = .ok (.invokevirtual 296, 3) := by decide +kernel
theorem dX6_lots_81 : decode cX6_lots 81 = .ok (.invokevirtual 155, 3) := by decide +kernel
theorem dX6_lots_84 : decode cX6_lots 84 = .ok (.iinc 5 1, 3) := by decide +kernel
theorem dX6_lots_87 : decode cX6_lots 87 = .ok (.goto (-31), 3) := by decide +kernel
theorem dX6_lots_90 : decode cX6_lots 90 = .ok (.aload_n 0, 1) := by decide +kernel
theorem dX6_lots_91 : decode cX6_lots 91 = .ok (.getfield 31, 3) := by decide +kernel
theorem dX6_lots_94 : decode cX6_lots 94 = .ok (.invokevirtual 158, 3) := by decide +kernel
theorem dX6_lots_97 : decode cX6_lots 97 = .ok (.ireturn, 1) := by decide +kernel
set_option maxHeartbeats 200000 in
theorem bX6_lots_0 {S : pv_S} {x1 x2 : Int32} {a3 a4 a5 : Option Value} : pv_R mX6_lots 0 [some (.ref 0), some (.int x1), some (.int x2), a3, a4, a5] [] (pv_em S) = pv_cc (pv_R mX6_isWithin 0 [some (.int x1), some (.int 1), some (.int 20)] [] (pv_em S)) mX6_lots 7 [some (.ref 0), some (.int x1), some (.int x2), a3, a4, a5] [] := Eq.trans (pv_Rstp dX6_lots_0 rfl rfl rfl) (Eq.trans (pv_Ric dX6_lots_1 ki_1) (Eq.trans (pv_Rbp dX6_lots_2 kb_20) (pv_Rcall (As := [.int x1, .int 1, .int 20]) (rest := []) dX6_lots_4 rfl mfX6_116 rfl rfl rfl rfl rfl)))
set_option maxHeartbeats 200000 in
theorem bX6_lots_7 {S : pv_S} {x1 x2 u0 : Int32} {a3 a4 a5 : Option Value} : pv_R mX6_lots 7 [some (.ref 0), some (.int x1), some (.int x2), a3, a4, a5] [.int u0] (pv_em S) = if u0 = 0 then pv_R mX6_lots 21 [some (.ref 0), some (.int x1), some (.int x2), a3, a4, a5] [] (pv_em S) else pv_R mX6_lots 10 [some (.ref 0), some (.int x1), some (.int x2), a3, a4, a5] [] (pv_em S) := pv_Rbr (tgt := 21) dX6_lots_7 rfl rfl rfl rfl rfl (by decide)
set_option maxHeartbeats 200000 in
theorem bX6_lots_10 {S : pv_S} {x1 x2 : Int32} {a3 a4 a5 : Option Value} : pv_R mX6_lots 10 [some (.ref 0), some (.int x1), some (.int x2), a3, a4, a5] [] (pv_em S) = pv_cc (pv_R mX6_isWithin 0 [some (.int x2), some (.int 1), some (.int 2147483646)] [] (pv_em S)) mX6_lots 18 [some (.ref 0), some (.int x1), some (.int x2), a3, a4, a5] [] := Eq.trans (pv_Rstp dX6_lots_10 rfl rfl rfl) (Eq.trans (pv_Ric dX6_lots_11 ki_1) (Eq.trans (pv_Rstp dX6_lots_12 rfl rfl rfl) (pv_Rcall (As := [.int x2, .int 1, .int 2147483646]) (rest := []) dX6_lots_15 rfl mfX6_116 rfl rfl rfl rfl rfl)))
set_option maxHeartbeats 200000 in
theorem bX6_lots_18 {S : pv_S} {x1 x2 u0 : Int32} {a3 a4 a5 : Option Value} : pv_R mX6_lots 18 [some (.ref 0), some (.int x1), some (.int x2), a3, a4, a5] [.int u0] (pv_em S) = if ¬ u0 = 0 then pv_R mX6_lots 23 [some (.ref 0), some (.int x1), some (.int x2), a3, a4, a5] [] (pv_em S) else pv_R mX6_lots 21 [some (.ref 0), some (.int x1), some (.int x2), a3, a4, a5] [] (pv_em S) := pv_Rbr (tgt := 23) dX6_lots_18 rfl rfl rfl rfl rfl (by decide)
set_option maxHeartbeats 200000 in
theorem bX6_lots_21 {S : pv_S} {x1 x2 : Int32} {a3 a4 a5 : Option Value} : pv_R mX6_lots 21 [some (.ref 0), some (.int x1), some (.int x2), a3, a4, a5] [] (pv_em S) = some (some (.int (-1)), pv_em S) := Eq.trans (pv_Ric dX6_lots_21 ki_m1) (pv_Rret dX6_lots_22 rfl)
set_option maxHeartbeats 200000 in
theorem bX6_lots_23 {S : pv_S} {x1 x2 : Int32} {a3 a4 a5 : Option Value} : pv_R mX6_lots 23 [some (.ref 0), some (.int x1), some (.int x2), a3, a4, a5] [] (pv_em S) = if ¬ (S.1 21 7) = 0 then pv_R mX6_lots 36 [some (.ref 0), some (.int x1), some (.int x2), a3, a4, a5] [] (pv_em S) else pv_R mX6_lots 33 [some (.ref 0), some (.int x1), some (.int x2), a3, a4, a5] [] (pv_em S) := Eq.trans (pv_Rstp dX6_lots_23 rfl rfl rfl) (Eq.trans (pv_Rget dX6_lots_24 ffX6_31 (by decide) (pv_ce_0 _ _) rfl) (Eq.trans (pv_Rget dX6_lots_27 ffX6_110 (by decide) (pv_ce_21 _ _) rfl) (pv_Rbr (tgt := 36) dX6_lots_30 rfl rfl rfl rfl rfl (by decide))))
set_option maxHeartbeats 200000 in
theorem bX6_lots_33 {S : pv_S} {x1 x2 : Int32} {a3 a4 a5 : Option Value} : pv_R mX6_lots 33 [some (.ref 0), some (.int x1), some (.int x2), a3, a4, a5] [] (pv_em S) = some (some (.int (-4)), pv_em S) := Eq.trans (pv_Rbp dX6_lots_33 kb_m4) (pv_Rret dX6_lots_35 rfl)
set_option maxHeartbeats 200000 in
theorem bX6_lots_36 {S : pv_S} {x1 x2 : Int32} {a3 a4 a5 : Option Value} : pv_R mX6_lots 36 [some (.ref 0), some (.int x1), some (.int x2), a3, a4, a5] [] (pv_em S) = pv_cc (pv_R mX5_hasRoomFor 0 [some (.ref 21), some (.int x1)] [] (pv_em S)) mX6_lots 44 [some (.ref 0), some (.int x1), some (.int x2), a3, a4, a5] [] := Eq.trans (pv_Rstp dX6_lots_36 rfl rfl rfl) (Eq.trans (pv_Rget dX6_lots_37 ffX6_31 (by decide) (pv_ce_0 _ _) rfl) (Eq.trans (pv_Rstp dX6_lots_40 rfl rfl rfl) (pv_Rcall (As := [.ref 21, .int x1]) (rest := []) dX6_lots_41 rfl mfX6_152 rfl rfl rfl rfl rfl)))
set_option maxHeartbeats 200000 in
theorem bX6_lots_44 {S : pv_S} {x1 x2 u0 : Int32} {a3 a4 a5 : Option Value} : pv_R mX6_lots 44 [some (.ref 0), some (.int x1), some (.int x2), a3, a4, a5] [.int u0] (pv_em S) = if ¬ u0 = 0 then pv_R mX6_lots 50 [some (.ref 0), some (.int x1), some (.int x2), a3, a4, a5] [] (pv_em S) else pv_R mX6_lots 47 [some (.ref 0), some (.int x1), some (.int x2), a3, a4, a5] [] (pv_em S) := pv_Rbr (tgt := 50) dX6_lots_44 rfl rfl rfl rfl rfl (by decide)
set_option maxHeartbeats 200000 in
theorem bX6_lots_47 {S : pv_S} {x1 x2 : Int32} {a3 a4 a5 : Option Value} : pv_R mX6_lots 47 [some (.ref 0), some (.int x1), some (.int x2), a3, a4, a5] [] (pv_em S) = some (some (.int (-2)), pv_em S) := Eq.trans (pv_Rbp dX6_lots_47 kb_m2) (pv_Rret dX6_lots_49 rfl)
set_option maxHeartbeats 200000 in
theorem bX6_lots_50 {S : pv_S} {x1 x2 : Int32} {a3 a4 a5 : Option Value} : pv_R mX6_lots 50 [some (.ref 0), some (.int x1), some (.int x2), a3, a4, a5] [] (pv_em S) = pv_R mX6_lots 56 [some (.ref 0), some (.int x1), some (.int x2), some (.long (Int32.toInt64 x2)), none, some (.int 0)] [] (pv_em S) := Eq.trans (pv_Rstp dX6_lots_50 rfl rfl rfl) (Eq.trans (pv_Rstp dX6_lots_51 rfl rfl rfl) (Eq.trans (pv_Rstp dX6_lots_52 rfl rfl rfl) (Eq.trans (pv_Ric dX6_lots_53 ki_0) (pv_Rstp dX6_lots_54 rfl rfl rfl))))
set_option maxHeartbeats 200000 in
theorem bX6_lots_56 {S : pv_S} {x1 x2 x5 : Int32} {x3 : Int64} {a4 : Option Value} : pv_R mX6_lots 56 [some (.ref 0), some (.int x1), some (.int x2), some (.long x3), a4, some (.int x5)] [] (pv_em S) = if x1 ≤ x5 then pv_R mX6_lots 90 [some (.ref 0), some (.int x1), some (.int x2), some (.long x3), a4, some (.int x5)] [] (pv_em S) else pv_R mX6_lots 62 [some (.ref 0), some (.int x1), some (.int x2), some (.long x3), a4, some (.int x5)] [] (pv_em S) := Eq.trans (pv_Rstp dX6_lots_56 rfl rfl rfl) (Eq.trans (pv_Rstp dX6_lots_58 rfl rfl rfl) (pv_Rbr (tgt := 90) dX6_lots_59 rfl rfl rfl rfl rfl (by decide)))
set_option maxHeartbeats 200000 in
theorem bX6_lots_62 {S : pv_S} {x1 x2 x5 : Int32} {x3 : Int64} {a4 : Option Value} : pv_R mX6_lots 62 [some (.ref 0), some (.int x1), some (.int x2), some (.long x3), a4, some (.int x5)] [] (pv_em S) = pv_cc (pv_R mX6_deedByLot 0 [some (.ref 0), some (.long ((48271 * x3) - (48271 * x3) / 2147483647 * 2147483647)), none, none] [] (pv_em S)) mX6_lots 81 [some (.ref 0), some (.int x1), some (.int x2), some (.long ((48271 * x3) - (48271 * x3) / 2147483647 * 2147483647)), none, some (.int x5)] [.ref 21] := Eq.trans (pv_Rstp dX6_lots_62 rfl rfl rfl) (Eq.trans (pv_Rstp dX6_lots_65 rfl rfl rfl) (Eq.trans (pv_Rstp dX6_lots_66 rfl rfl rfl) (Eq.trans (pv_Rstp dX6_lots_67 rfl rfl rfl) (Eq.trans (pv_Rlrem dX6_lots_70) (Eq.trans (if_neg (by decide)) (Eq.trans (pv_Rstp dX6_lots_71 rfl rfl rfl) (Eq.trans (pv_Rstp dX6_lots_72 rfl rfl rfl) (Eq.trans (pv_Rget dX6_lots_73 ffX6_31 (by decide) (pv_ce_0 _ _) rfl) (Eq.trans (pv_Rstp dX6_lots_76 rfl rfl rfl) (Eq.trans (pv_Rstp dX6_lots_77 rfl rfl rfl) (pv_Rcall (As := [.ref 0, .long ((48271 * x3) - (48271 * x3) / 2147483647 * 2147483647)]) (rest := [.ref 21]) dX6_lots_78 rfl mfX6_296 rfl rfl rfl rfl rfl)))))))))))
set_option maxHeartbeats 200000 in
theorem bX6_lots_81 {S : pv_S} {x1 x2 x5 u0 : Int32} {x3 : Int64} {a4 : Option Value} : pv_R mX6_lots 81 [some (.ref 0), some (.int x1), some (.int x2), some (.long x3), a4, some (.int x5)] [.int u0, .ref 21] (pv_em S) = pv_cc (pv_R mX5_doDeed 0 [some (.ref 21), some (.int u0)] [] (pv_em S)) mX6_lots 84 [some (.ref 0), some (.int x1), some (.int x2), some (.long x3), a4, some (.int x5)] [] := pv_Rcall (As := [.ref 21, .int u0]) (rest := []) dX6_lots_81 rfl mfX6_155 rfl rfl rfl rfl rfl
set_option maxHeartbeats 200000 in
theorem bX6_lots_84 {S : pv_S} {x1 x2 x5 : Int32} {x3 : Int64} {a4 : Option Value} : pv_R mX6_lots 84 [some (.ref 0), some (.int x1), some (.int x2), some (.long x3), a4, some (.int x5)] [] (pv_em S) = pv_R mX6_lots 56 [some (.ref 0), some (.int x1), some (.int x2), some (.long x3), (pv_nl a4), some (.int (x5 + 1))] [] (pv_em S) := Eq.trans (pv_Rinc dX6_lots_84 rfl (Nat.le_of_ble_eq_true rfl) ki_1 rfl) (pv_Rgo (tgt := 56) dX6_lots_87 rfl (by decide))
set_option maxHeartbeats 200000 in
theorem bX6_lots_90 {S : pv_S} {x1 x2 x5 : Int32} {x3 : Int64} {a4 : Option Value} : pv_R mX6_lots 90 [some (.ref 0), some (.int x1), some (.int x2), some (.long x3), a4, some (.int x5)] [] (pv_em S) = pv_cc (pv_R mX5_pound 0 [some (.ref 21)] [] (pv_em S)) mX6_lots 97 [some (.ref 0), some (.int x1), some (.int x2), some (.long x3), a4, some (.int x5)] [] := Eq.trans (pv_Rstp dX6_lots_90 rfl rfl rfl) (Eq.trans (pv_Rget dX6_lots_91 ffX6_31 (by decide) (pv_ce_0 _ _) rfl) (pv_Rcall (As := [.ref 21]) (rest := []) dX6_lots_94 rfl mfX6_158 rfl rfl rfl rfl rfl))
set_option maxHeartbeats 200000 in
theorem bX6_lots_97 {S : pv_S} {x1 x2 x5 u0 : Int32} {x3 : Int64} {a4 : Option Value} : pv_R mX6_lots 97 [some (.ref 0), some (.int x1), some (.int x2), some (.long x3), a4, some (.int x5)] [.int u0] (pv_em S) = some (some (.int u0), pv_em S) := pv_Rret dX6_lots_97 rfl
theorem dX6_asked_0 : decode cX6_asked 0 = .ok (.aload_n 0, 1) := by decide +kernel
theorem dX6_asked_1 : decode cX6_asked 1 = .ok (.getfield 45, 3) := by decide +kernel
theorem dX6_asked_4 : decode cX6_asked 4 = .ok (.getfield 61, 3) := by decide +kernel
theorem dX6_asked_7 : decode cX6_asked 7 = .ok (.ireturn, 1) := by decide +kernel
set_option maxHeartbeats 200000 in
theorem bX6_asked_0 {S : pv_S} : pv_R mX6_asked 0 [some (.ref 0)] [] (pv_em S) = some (some (.int (S.1 35 1)), pv_em S) := Eq.trans (pv_Rstp dX6_asked_0 rfl rfl rfl) (Eq.trans (pv_Rget dX6_asked_1 ffX6_45 (by decide) (pv_ce_0 _ _) rfl) (Eq.trans (pv_Rget dX6_asked_4 ffX6_61 (by decide) (pv_ce_35 _ _) rfl) (pv_Rret dX6_asked_7 rfl)))
theorem dX6_upper_0 : decode cX6_upper 0 = .ok (.aload_n 0, 1) := by decide +kernel
theorem dX6_upper_1 : decode cX6_upper 1 = .ok (.getfield 45, 3) := by decide +kernel
theorem dX6_upper_4 : decode cX6_upper 4 = .ok (.getfield 300, 3) := by decide +kernel
theorem dX6_upper_7 : decode cX6_upper 7 = .ok (.lreturn, 1) := by decide +kernel
set_option maxHeartbeats 200000 in
theorem bX6_upper_0 {S : pv_S} : pv_R mX6_upper 0 [some (.ref 0)] [] (pv_em S) = some (some (.long (S.2 35 2)), pv_em S) := Eq.trans (pv_Rstp dX6_upper_0 rfl rfl rfl) (Eq.trans (pv_Rget dX6_upper_1 ffX6_45 (by decide) (pv_ce_0 _ _) rfl) (Eq.trans (pv_Rget dX6_upper_4 ffX6_300 (by decide) (pv_ce_35 _ _) rfl) (pv_Rret dX6_upper_7 rfl)))
theorem dX6_lower_0 : decode cX6_lower 0 = .ok (.aload_n 0, 1) := by decide +kernel
theorem dX6_lower_1 : decode cX6_lower 1 = .ok (.getfield 45, 3) := by decide +kernel
theorem dX6_lower_4 : decode cX6_lower 4 = .ok (.getfield 304, 3) := by decide +kernel
theorem dX6_lower_7 : decode cX6_lower 7 = .ok (.lreturn, 1) := by decide +kernel
set_option maxHeartbeats 200000 in
theorem bX6_lower_0 {S : pv_S} : pv_R mX6_lower 0 [some (.ref 0)] [] (pv_em S) = some (some (.long (S.2 35 3)), pv_em S) := Eq.trans (pv_Rstp dX6_lower_0 rfl rfl rfl) (Eq.trans (pv_Rget dX6_lower_1 ffX6_45 (by decide) (pv_ce_0 _ _) rfl) (Eq.trans (pv_Rget dX6_lower_4 ffX6_304 (by decide) (pv_ce_35 _ _) rfl) (pv_Rret dX6_lower_7 rfl)))
theorem dX6_pence_0 : decode cX6_pence 0 = .ok (.aload_n 0, 1) := by decide +kernel
theorem dX6_pence_1 : decode cX6_pence 1 = .ok (.getfield 31, 3) := by decide +kernel
theorem dX6_pence_4 : decode cX6_pence 4 = .ok (.getfield 307, 3) := by decide +kernel
theorem dX6_pence_7 : decode cX6_pence 7 = .ok (.ireturn, 1) := by decide +kernel
set_option maxHeartbeats 200000 in
theorem bX6_pence_0 {S : pv_S} : pv_R mX6_pence 0 [some (.ref 0)] [] (pv_em S) = some (some (.int (S.1 21 11)), pv_em S) := Eq.trans (pv_Rstp dX6_pence_0 rfl rfl rfl) (Eq.trans (pv_Rget dX6_pence_1 ffX6_31 (by decide) (pv_ce_0 _ _) rfl) (Eq.trans (pv_Rget dX6_pence_4 ffX6_307 (by decide) (pv_ce_21 _ _) rfl) (pv_Rret dX6_pence_7 rfl)))
theorem dX6_count_0 : decode cX6_count 0 = .ok (.iload_n 1, 1) := by decide +kernel
theorem dX6_count_1 : decode cX6_count 1 = .ok (.tableswitch 161 0 11 #[63, 71, 79, 87, 95, 103, 111, 119, 128, 137, 145, 153], 63) := by decide +kernel
theorem dX6_count_64 : decode cX6_count 64 = .ok (.aload_n 0, 1) := by decide +kernel
theorem dX6_count_65 : decode cX6_count 65 = .ok (.getfield 31, 3) := by decide +kernel
theorem dX6_count_68 : decode cX6_count 68 = .ok (.getfield 110, 3) := by decide +kernel
theorem dX6_count_71 : decode cX6_count 71 = .ok (.ireturn, 1) := by decide +kernel
theorem dX6_count_72 : decode cX6_count 72 = .ok (.aload_n 0, 1) := by decide +kernel
theorem dX6_count_73 : decode cX6_count 73 = .ok (.getfield 31, 3) := by decide +kernel
theorem dX6_count_76 : decode cX6_count 76 = .ok (.getfield 132, 3) := by decide +kernel
theorem dX6_count_79 : decode cX6_count 79 = .ok (.ireturn, 1) := by decide +kernel
theorem dX6_count_80 : decode cX6_count 80 = .ok (.aload_n 0, 1) := by decide +kernel
theorem dX6_count_81 : decode cX6_count 81 = .ok (.getfield 31, 3) := by decide +kernel
theorem dX6_count_84 : decode cX6_count 84 = .ok (.getfield 174, 3) := by decide +kernel
theorem dX6_count_87 : decode cX6_count 87 = .ok (.ireturn, 1) := by decide +kernel
theorem dX6_count_88 : decode cX6_count 88 = .ok (.aload_n 0, 1) := by decide +kernel
theorem dX6_count_89 : decode cX6_count 89 = .ok (.getfield 31, 3) := by decide +kernel
theorem dX6_count_92 : decode cX6_count 92 = .ok (.getfield 165, 3) := by decide +kernel
theorem dX6_count_95 : decode cX6_count 95 = .ok (.ireturn, 1) := by decide +kernel
theorem dX6_count_96 : decode cX6_count 96 = .ok (.aload_n 0, 1) := by decide +kernel
theorem dX6_count_97 : decode cX6_count 97 = .ok (.getfield 31, 3) := by decide +kernel
theorem dX6_count_100 : decode cX6_count 100 = .ok (.invokevirtual 158, 3) := by decide +kernel
theorem dX6_count_103 : decode cX6_count 103 = .ok (.ireturn, 1) := by decide +kernel
theorem dX6_count_104 : decode cX6_count 104 = .ok (.aload_n 0, 1) := by decide +kernel
theorem dX6_count_105 : decode cX6_count 105 = .ok (.getfield 31, 3) := by decide +kernel
theorem dX6_count_108 : decode cX6_count 108 = .ok (.getfield 171, 3) := by decide +kernel
theorem dX6_count_111 : decode cX6_count 111 = .ok (.ireturn, 1) := by decide +kernel
theorem dX6_count_112 : decode cX6_count 112 = .ok (.aload_n 0, 1) := by decide +kernel
theorem dX6_count_113 : decode cX6_count 113 = .ok (.getfield 31, 3) := by decide +kernel
theorem dX6_count_116 : decode cX6_count 116 = .ok (.getfield 218, 3) := by decide +kernel
theorem dX6_count_119 : decode cX6_count 119 = .ok (.ireturn, 1) := by decide +kernel
theorem dX6_count_120 : decode cX6_count 120 = .ok (.aload_n 0, 1) := by decide +kernel
theorem dX6_count_121 : decode cX6_count 121 = .ok (.getfield 31, 3) := by decide +kernel
theorem dX6_count_124 : decode cX6_count 124 = .ok (.iconst 1, 1) := by decide +kernel
theorem dX6_count_125 : decode cX6_count 125 = .ok (.invokevirtual 149, 3) := by decide +kernel
theorem dX6_count_128 : decode cX6_count 128 = .ok (.ireturn, 1) := by decide +kernel
theorem dX6_count_129 : decode cX6_count 129 = .ok (.aload_n 0, 1) := by decide +kernel
theorem dX6_count_130 : decode cX6_count 130 = .ok (.getfield 31, 3) := by decide +kernel
theorem dX6_count_133 : decode cX6_count 133 = .ok (.iconst 3, 1) := by decide +kernel
theorem dX6_count_134 : decode cX6_count 134 = .ok (.invokevirtual 149, 3) := by decide +kernel
theorem dX6_count_137 : decode cX6_count 137 = .ok (.ireturn, 1) := by decide +kernel
theorem dX6_count_138 : decode cX6_count 138 = .ok (.aload_n 0, 1) := by decide +kernel
theorem dX6_count_139 : decode cX6_count 139 = .ok (.getfield 14, 3) := by decide +kernel
theorem dX6_count_142 : decode cX6_count 142 = .ok (.invokevirtual 310, 3) := by decide +kernel
theorem dX6_count_145 : decode cX6_count 145 = .ok (.ireturn, 1) := by decide +kernel
theorem dX6_count_146 : decode cX6_count 146 = .ok (.aload_n 0, 1) := by decide +kernel
theorem dX6_count_147 : decode cX6_count 147 = .ok (.getfield 18, 3) := by decide +kernel
theorem dX6_count_150 : decode cX6_count 150 = .ok (.invokevirtual 310, 3) := by decide +kernel
theorem dX6_count_153 : decode cX6_count 153 = .ok (.ireturn, 1) := by decide +kernel
theorem dX6_count_154 : decode cX6_count 154 = .ok (.aload_n 0, 1) := by decide +kernel
theorem dX6_count_155 : decode cX6_count 155 = .ok (.getfield 31, 3) := by decide +kernel
theorem dX6_count_158 : decode cX6_count 158 = .ok (.invokevirtual 313, 3) := by decide +kernel
theorem dX6_count_161 : decode cX6_count 161 = .ok (.ireturn, 1) := by decide +kernel
theorem dX6_count_162 : decode cX6_count 162 = .ok (.iconst (-1), 1) := by decide +kernel
theorem dX6_count_163 : decode cX6_count 163 = .ok (.ireturn, 1) := by decide +kernel
set_option maxHeartbeats 200000 in
theorem bX6_count_0 {S : pv_S} {x1 : Int32} : pv_R mX6_count 0 [some (.ref 0), some (.int x1)] [] (pv_em S) = pv_R mX6_count (pv_swt (Int32.toInt x1) 0 [64, 72, 80, 88, 96, 104, 112, 120, 129, 138, 146, 154] 162) [some (.ref 0), some (.int x1)] [] (pv_em S) := Eq.trans (pv_Rstp dX6_count_0 rfl rfl rfl) (pv_Rtab (lo := 0) (tg := [64, 72, 80, 88, 96, 104, 112, 120, 129, 138, 146, 154]) (dt := 162) dX6_count_1 (by decide))
set_option maxHeartbeats 200000 in
theorem bX6_count_64 {S : pv_S} {x1 : Int32} : pv_R mX6_count 64 [some (.ref 0), some (.int x1)] [] (pv_em S) = some (some (.int (S.1 21 7)), pv_em S) := Eq.trans (pv_Rstp dX6_count_64 rfl rfl rfl) (Eq.trans (pv_Rget dX6_count_65 ffX6_31 (by decide) (pv_ce_0 _ _) rfl) (Eq.trans (pv_Rget dX6_count_68 ffX6_110 (by decide) (pv_ce_21 _ _) rfl) (pv_Rret dX6_count_71 rfl)))
set_option maxHeartbeats 200000 in
theorem bX6_count_72 {S : pv_S} {x1 : Int32} : pv_R mX6_count 72 [some (.ref 0), some (.int x1)] [] (pv_em S) = some (some (.int (S.1 21 9)), pv_em S) := Eq.trans (pv_Rstp dX6_count_72 rfl rfl rfl) (Eq.trans (pv_Rget dX6_count_73 ffX6_31 (by decide) (pv_ce_0 _ _) rfl) (Eq.trans (pv_Rget dX6_count_76 ffX6_132 (by decide) (pv_ce_21 _ _) rfl) (pv_Rret dX6_count_79 rfl)))
set_option maxHeartbeats 200000 in
theorem bX6_count_80 {S : pv_S} {x1 : Int32} : pv_R mX6_count 80 [some (.ref 0), some (.int x1)] [] (pv_em S) = some (some (.int (S.1 21 13)), pv_em S) := Eq.trans (pv_Rstp dX6_count_80 rfl rfl rfl) (Eq.trans (pv_Rget dX6_count_81 ffX6_31 (by decide) (pv_ce_0 _ _) rfl) (Eq.trans (pv_Rget dX6_count_84 ffX6_174 (by decide) (pv_ce_21 _ _) rfl) (pv_Rret dX6_count_87 rfl)))
set_option maxHeartbeats 200000 in
theorem bX6_count_88 {S : pv_S} {x1 : Int32} : pv_R mX6_count 88 [some (.ref 0), some (.int x1)] [] (pv_em S) = some (some (.int (S.1 21 12)), pv_em S) := Eq.trans (pv_Rstp dX6_count_88 rfl rfl rfl) (Eq.trans (pv_Rget dX6_count_89 ffX6_31 (by decide) (pv_ce_0 _ _) rfl) (Eq.trans (pv_Rget dX6_count_92 ffX6_165 (by decide) (pv_ce_21 _ _) rfl) (pv_Rret dX6_count_95 rfl)))
set_option maxHeartbeats 200000 in
theorem bX6_count_96 {S : pv_S} {x1 : Int32} : pv_R mX6_count 96 [some (.ref 0), some (.int x1)] [] (pv_em S) = pv_cc (pv_R mX5_pound 0 [some (.ref 21)] [] (pv_em S)) mX6_count 103 [some (.ref 0), some (.int x1)] [] := Eq.trans (pv_Rstp dX6_count_96 rfl rfl rfl) (Eq.trans (pv_Rget dX6_count_97 ffX6_31 (by decide) (pv_ce_0 _ _) rfl) (pv_Rcall (As := [.ref 21]) (rest := []) dX6_count_100 rfl mfX6_158 rfl rfl rfl rfl rfl))
set_option maxHeartbeats 200000 in
theorem bX6_count_103 {S : pv_S} {x1 u0 : Int32} : pv_R mX6_count 103 [some (.ref 0), some (.int x1)] [.int u0] (pv_em S) = some (some (.int u0), pv_em S) := pv_Rret dX6_count_103 rfl
set_option maxHeartbeats 200000 in
theorem bX6_count_104 {S : pv_S} {x1 : Int32} : pv_R mX6_count 104 [some (.ref 0), some (.int x1)] [] (pv_em S) = some (some (.int (S.1 21 10)), pv_em S) := Eq.trans (pv_Rstp dX6_count_104 rfl rfl rfl) (Eq.trans (pv_Rget dX6_count_105 ffX6_31 (by decide) (pv_ce_0 _ _) rfl) (Eq.trans (pv_Rget dX6_count_108 ffX6_171 (by decide) (pv_ce_21 _ _) rfl) (pv_Rret dX6_count_111 rfl)))
set_option maxHeartbeats 200000 in
theorem bX6_count_112 {S : pv_S} {x1 : Int32} : pv_R mX6_count 112 [some (.ref 0), some (.int x1)] [] (pv_em S) = some (some (.int (S.1 21 8)), pv_em S) := Eq.trans (pv_Rstp dX6_count_112 rfl rfl rfl) (Eq.trans (pv_Rget dX6_count_113 ffX6_31 (by decide) (pv_ce_0 _ _) rfl) (Eq.trans (pv_Rget dX6_count_116 ffX6_218 (by decide) (pv_ce_21 _ _) rfl) (pv_Rret dX6_count_119 rfl)))
set_option maxHeartbeats 200000 in
theorem bX6_count_120 {S : pv_S} {x1 : Int32} : pv_R mX6_count 120 [some (.ref 0), some (.int x1)] [] (pv_em S) = pv_cc (pv_R mX5_countOf 0 [some (.ref 21), some (.int 1), none, none] [] (pv_em S)) mX6_count 128 [some (.ref 0), some (.int x1)] [] := Eq.trans (pv_Rstp dX6_count_120 rfl rfl rfl) (Eq.trans (pv_Rget dX6_count_121 ffX6_31 (by decide) (pv_ce_0 _ _) rfl) (Eq.trans (pv_Ric dX6_count_124 ki_1) (pv_Rcall (As := [.ref 21, .int 1]) (rest := []) dX6_count_125 rfl mfX6_149 rfl rfl rfl rfl rfl)))
set_option maxHeartbeats 200000 in
theorem bX6_count_128 {S : pv_S} {x1 u0 : Int32} : pv_R mX6_count 128 [some (.ref 0), some (.int x1)] [.int u0] (pv_em S) = some (some (.int u0), pv_em S) := pv_Rret dX6_count_128 rfl
set_option maxHeartbeats 200000 in
theorem bX6_count_129 {S : pv_S} {x1 : Int32} : pv_R mX6_count 129 [some (.ref 0), some (.int x1)] [] (pv_em S) = pv_cc (pv_R mX5_countOf 0 [some (.ref 21), some (.int 3), none, none] [] (pv_em S)) mX6_count 137 [some (.ref 0), some (.int x1)] [] := Eq.trans (pv_Rstp dX6_count_129 rfl rfl rfl) (Eq.trans (pv_Rget dX6_count_130 ffX6_31 (by decide) (pv_ce_0 _ _) rfl) (Eq.trans (pv_Ric dX6_count_133 ki_3) (pv_Rcall (As := [.ref 21, .int 3]) (rest := []) dX6_count_134 rfl mfX6_149 rfl rfl rfl rfl rfl)))
set_option maxHeartbeats 200000 in
theorem bX6_count_137 {S : pv_S} {x1 u0 : Int32} : pv_R mX6_count 137 [some (.ref 0), some (.int x1)] [.int u0] (pv_em S) = some (some (.int u0), pv_em S) := pv_Rret dX6_count_137 rfl
set_option maxHeartbeats 200000 in
theorem bX6_count_138 {S : pv_S} {x1 : Int32} : pv_R mX6_count 138 [some (.ref 0), some (.int x1)] [] (pv_em S) = pv_cc (pv_R mX3_thereCount 0 [some (.ref 1), none, none] [] (pv_em S)) mX6_count 145 [some (.ref 0), some (.int x1)] [] := Eq.trans (pv_Rstp dX6_count_138 rfl rfl rfl) (Eq.trans (pv_Rget dX6_count_139 ffX6_14 (by decide) (pv_ce_0 _ _) rfl) (pv_Rcall (As := [.ref 1]) (rest := []) dX6_count_142 rfl mfX6_310 rfl rfl rfl rfl rfl))
set_option maxHeartbeats 200000 in
theorem bX6_count_145 {S : pv_S} {x1 u0 : Int32} : pv_R mX6_count 145 [some (.ref 0), some (.int x1)] [.int u0] (pv_em S) = some (some (.int u0), pv_em S) := pv_Rret dX6_count_145 rfl
set_option maxHeartbeats 200000 in
theorem bX6_count_146 {S : pv_S} {x1 : Int32} : pv_R mX6_count 146 [some (.ref 0), some (.int x1)] [] (pv_em S) = pv_cc (pv_R mX3_thereCount 0 [some (.ref 10), none, none] [] (pv_em S)) mX6_count 153 [some (.ref 0), some (.int x1)] [] := Eq.trans (pv_Rstp dX6_count_146 rfl rfl rfl) (Eq.trans (pv_Rget dX6_count_147 ffX6_18 (by decide) (pv_ce_0 _ _) rfl) (pv_Rcall (As := [.ref 10]) (rest := []) dX6_count_150 rfl mfX6_310 rfl rfl rfl rfl rfl))
set_option maxHeartbeats 200000 in
theorem bX6_count_153 {S : pv_S} {x1 u0 : Int32} : pv_R mX6_count 153 [some (.ref 0), some (.int x1)] [.int u0] (pv_em S) = some (some (.int u0), pv_em S) := pv_Rret dX6_count_153 rfl
set_option maxHeartbeats 200000 in
theorem bX6_count_154 {S : pv_S} {x1 : Int32} : pv_R mX6_count 154 [some (.ref 0), some (.int x1)] [] (pv_em S) = pv_cc (pv_R mX5_keptTowns 0 [some (.ref 21), none, none] [] (pv_em S)) mX6_count 161 [some (.ref 0), some (.int x1)] [] := Eq.trans (pv_Rstp dX6_count_154 rfl rfl rfl) (Eq.trans (pv_Rget dX6_count_155 ffX6_31 (by decide) (pv_ce_0 _ _) rfl) (pv_Rcall (As := [.ref 21]) (rest := []) dX6_count_158 rfl mfX6_313 rfl rfl rfl rfl rfl))
set_option maxHeartbeats 200000 in
theorem bX6_count_161 {S : pv_S} {x1 u0 : Int32} : pv_R mX6_count 161 [some (.ref 0), some (.int x1)] [.int u0] (pv_em S) = some (some (.int u0), pv_em S) := pv_Rret dX6_count_161 rfl
set_option maxHeartbeats 200000 in
theorem bX6_count_162 {S : pv_S} {x1 : Int32} : pv_R mX6_count 162 [some (.ref 0), some (.int x1)] [] (pv_em S) = some (some (.int (-1)), pv_em S) := Eq.trans (pv_Ric dX6_count_162 ki_m1) (pv_Rret dX6_count_163 rfl)
theorem dX6_finding_0 : decode cX6_finding 0 = .ok (.aload_n 0, 1) := by decide +kernel
theorem dX6_finding_1 : decode cX6_finding 1 = .ok (.getfield 45, 3) := by decide +kernel
theorem dX6_finding_4 : decode cX6_finding 4 = .ok (.getfield 316, 3) := by decide +kernel
theorem dX6_finding_7 : decode cX6_finding 7 = .ok (.ireturn, 1) := by decide +kernel
set_option maxHeartbeats 200000 in
theorem bX6_finding_0 {S : pv_S} : pv_R mX6_finding 0 [some (.ref 0)] [] (pv_em S) = some (some (.int (S.1 35 4)), pv_em S) := Eq.trans (pv_Rstp dX6_finding_0 rfl rfl rfl) (Eq.trans (pv_Rget dX6_finding_1 ffX6_45 (by decide) (pv_ce_0 _ _) rfl) (Eq.trans (pv_Rget dX6_finding_4 ffX6_316 (by decide) (pv_ce_35 _ _) rfl) (pv_Rret dX6_finding_7 rfl)))
theorem dX6_findings_0 : decode cX6_findings 0 = .ok (.iload_n 1, 1) := by decide +kernel
theorem dX6_findings_1 : decode cX6_findings 1 = .ok (.iconst 1, 1) := by decide +kernel
theorem dX6_findings_2 : decode cX6_findings 2 = .ok (.iconst 5, 1) := by decide +kernel
theorem dX6_findings_3 : decode cX6_findings 3 = .ok (.invokestatic 116, 3) := by decide +kernel
theorem dX6_findings_6 : decode cX6_findings 6 = .ok (.ifCond .ne 5, 3) := by decide +kernel
theorem dX6_findings_9 : decode cX6_findings 9 = .ok (.iconst (-1), 1) := by decide +kernel
theorem dX6_findings_10 : decode cX6_findings 10 = .ok (.ireturn, 1) := by decide +kernel
theorem dX6_findings_11 : decode cX6_findings 11 = .ok (.aload_n 0, 1) := by decide +kernel
theorem dX6_findings_12 : decode cX6_findings 12 = .ok (.getfield 45, 3) := by decide +kernel
theorem dX6_findings_15 : decode cX6_findings 15 = .ok (.getfield 319, 3) := by decide +kernel
theorem dX6_findings_18 : decode cX6_findings 18 = .ok (.iload_n 1, 1) := by decide +kernel
theorem dX6_findings_19 : decode cX6_findings 19 = .ok (.iaload, 1) := by decide +kernel
theorem dX6_findings_20 : decode cX6_findings 20 = .ok (.ireturn, 1) := by decide +kernel
set_option maxHeartbeats 200000 in
theorem bX6_findings_0 {S : pv_S} {x1 : Int32} : pv_R mX6_findings 0 [some (.ref 0), some (.int x1)] [] (pv_em S) = pv_cc (pv_R mX6_isWithin 0 [some (.int x1), some (.int 1), some (.int 5)] [] (pv_em S)) mX6_findings 6 [some (.ref 0), some (.int x1)] [] := Eq.trans (pv_Rstp dX6_findings_0 rfl rfl rfl) (Eq.trans (pv_Ric dX6_findings_1 ki_1) (Eq.trans (pv_Ric dX6_findings_2 ki_5) (pv_Rcall (As := [.int x1, .int 1, .int 5]) (rest := []) dX6_findings_3 rfl mfX6_116 rfl rfl rfl rfl rfl)))
set_option maxHeartbeats 200000 in
theorem bX6_findings_6 {S : pv_S} {x1 u0 : Int32} : pv_R mX6_findings 6 [some (.ref 0), some (.int x1)] [.int u0] (pv_em S) = if ¬ u0 = 0 then pv_R mX6_findings 11 [some (.ref 0), some (.int x1)] [] (pv_em S) else pv_R mX6_findings 9 [some (.ref 0), some (.int x1)] [] (pv_em S) := pv_Rbr (tgt := 11) dX6_findings_6 rfl rfl rfl rfl rfl (by decide)
set_option maxHeartbeats 200000 in
theorem bX6_findings_9 {S : pv_S} {x1 : Int32} : pv_R mX6_findings 9 [some (.ref 0), some (.int x1)] [] (pv_em S) = some (some (.int (-1)), pv_em S) := Eq.trans (pv_Ric dX6_findings_9 ki_m1) (pv_Rret dX6_findings_10 rfl)
set_option maxHeartbeats 200000 in
theorem bX6_findings_11 {S : pv_S} {x1 : Int32} : pv_R mX6_findings 11 [some (.ref 0), some (.int x1)] [] (pv_em S) = if x1 < 0 ∨ 6 ≤ x1.toNatClampNeg then none else some (some (.int (S.1 36 x1.toNatClampNeg)), pv_em S) := Eq.trans (pv_Rstp dX6_findings_11 rfl rfl rfl) (Eq.trans (pv_Rget dX6_findings_12 ffX6_45 (by decide) (pv_ce_0 _ _) rfl) (Eq.trans (pv_Rget dX6_findings_15 ffX6_319 (by decide) (pv_ce_35 _ _) rfl) (Eq.trans (pv_Rstp dX6_findings_18 rfl rfl rfl) (Eq.trans (pv_Rald dX6_findings_19 (by decide) (pv_ce_36 _ _)) (pv_iteN (fun h1 => pv_Rret dX6_findings_20 rfl))))))
