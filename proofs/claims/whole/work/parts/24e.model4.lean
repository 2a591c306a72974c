/-! ===== blocks: model4 ===== -/
theorem dX7_wrongPairs_0 : decode cX7_wrongPairs 0 = .ok (.aload_n 0, 1) := by decide +kernel
theorem dX7_wrongPairs_1 : decode cX7_wrongPairs 1 = .ok (.getfield 7, 3) := by decide +kernel
theorem dX7_wrongPairs_4 : decode cX7_wrongPairs 4 = .ok (.iload_n 1, 1) := by decide +kernel
theorem dX7_wrongPairs_5 : decode cX7_wrongPairs 5 = .ok (.iaload, 1) := by decide +kernel
theorem dX7_wrongPairs_6 : decode cX7_wrongPairs 6 = .ok (.ifCond .ge 5, 3) := by decide +kernel
theorem dX7_wrongPairs_9 : decode cX7_wrongPairs 9 = .ok (.iconst 1, 1) := by decide +kernel
theorem dX7_wrongPairs_10 : decode cX7_wrongPairs 10 = .ok (.ireturn, 1) := by decide +kernel
theorem dX7_wrongPairs_11 : decode cX7_wrongPairs 11 = .ok (.aload_n 0, 1) := by decide +kernel
theorem dX7_wrongPairs_12 : decode cX7_wrongPairs 12 = .ok (.getfield 7, 3) := by decide +kernel
theorem dX7_wrongPairs_15 : decode cX7_wrongPairs 15 = .ok (.iload_n 1, 1) := by decide +kernel
theorem dX7_wrongPairs_16 : decode cX7_wrongPairs 16 = .ok (.iaload, 1) := by decide +kernel
theorem dX7_wrongPairs_17 : decode cX7_wrongPairs 17 = .ok (.iconst 2, 1) := by decide +kernel
theorem dX7_wrongPairs_18 : decode cX7_wrongPairs 18 = .ok (.irem, 1) := by decide +kernel
theorem dX7_wrongPairs_19 : decode cX7_wrongPairs 19 = .ok (.iconst 1, 1) := by decide +kernel
theorem dX7_wrongPairs_20 : decode cX7_wrongPairs 20 = .ok (.if_icmp .eq 14, 3) := by decide +kernel
theorem dX7_wrongPairs_23 : decode cX7_wrongPairs 23 = .ok (.aload_n 0, 1) := by decide +kernel
theorem dX7_wrongPairs_24 : decode cX7_wrongPairs 24 = .ok (.getfield 7, 3) := by decide +kernel
theorem dX7_wrongPairs_27 : decode cX7_wrongPairs 27 = .ok (.iload_n 1, 1) := by decide +kernel
theorem dX7_wrongPairs_28 : decode cX7_wrongPairs 28 = .ok (.iaload, 1) := by decide +kernel
theorem dX7_wrongPairs_29 : decode cX7_wrongPairs 29 = .ok (.bipush 16, 2) := by decide +kernel
theorem dX7_wrongPairs_31 : decode cX7_wrongPairs 31 = .ok (.if_icmp .le 5, 3) := by decide +kernel
theorem dX7_wrongPairs_34 : decode cX7_wrongPairs 34 = .ok (.iconst 5, 1) := by decide +kernel
theorem dX7_wrongPairs_35 : decode cX7_wrongPairs 35 = .ok (.ireturn, 1) := by decide +kernel
theorem dX7_wrongPairs_36 : decode cX7_wrongPairs 36 = .ok (.iconst 1, 1) := by decide +kernel
theorem dX7_wrongPairs_37 : decode cX7_wrongPairs 37 = .ok (.istore_n 2, 1) := by decide +kernel
theorem dX7_wrongPairs_38 : decode cX7_wrongPairs 38 = .ok (.iconst 0, 1) := by decide +kernel
theorem dX7_wrongPairs_39 : decode cX7_wrongPairs 39 = .ok (.istore_n 3, 1) := by decide +kernel
theorem dX7_wrongPairs_40 : decode cX7_wrongPairs 40 = .ok (.iload_n 3, 1) := by decide +kernel
theorem dX7_wrongPairs_41 : decode cX7_wrongPairs 41 = .ok (.aload_n 0, 1) := by decide +kernel
theorem dX7_wrongPairs_42 : decode cX7_wrongPairs 42 = .ok (.getfield 7, 3) := by decide +kernel
theorem dX7_wrongPairs_45 : decode cX7_wrongPairs 45 = .ok (.iload_n 1, 1) := by decide +kernel
theorem dX7_wrongPairs_46 : decode cX7_wrongPairs 46 = .ok (.iaload, 1) := by decide +kernel
theorem dX7_wrongPairs_47 : decode cX7_wrongPairs 47 = .ok (.if_icmp .ge 65, 3) := by decide +kernel
theorem dX7_wrongPairs_50 : decode cX7_wrongPairs 50 = .ok (.iload_n 2, 1) := by decide +kernel
theorem dX7_wrongPairs_51 : decode cX7_wrongPairs 51 = .ok (.ifCond .eq 53, 3) := by decide +kernel
theorem dX7_wrongPairs_54 : decode cX7_wrongPairs 54 = .ok (.aload_n 0, 1) := by decide +kernel
theorem dX7_wrongPairs_55 : decode cX7_wrongPairs 55 = .ok (.getfield 13, 3) := by decide +kernel
theorem dX7_wrongPairs_58 : decode cX7_wrongPairs 58 = .ok (.bipush 40, 2) := by decide +kernel
theorem dX7_wrongPairs_60 : decode cX7_wrongPairs 60 = .ok (.iload_n 1, 1) := by decide +kernel
theorem dX7_wrongPairs_61 : decode cX7_wrongPairs 61 = .ok (.imul, 1) := by decide +kernel
theorem dX7_wrongPairs_62 : decode cX7_wrongPairs 62 = .ok (.iload_n 3, 1) := by decide +kernel
theorem dX7_wrongPairs_63 : decode cX7_wrongPairs 63 = .ok (.iadd, 1) := by decide +kernel
theorem dX7_wrongPairs_64 : decode cX7_wrongPairs 64 = .ok (.iaload, 1) := by decide +kernel
theorem dX7_wrongPairs_65 : decode cX7_wrongPairs 65 = .ok (.i2l, 1) := by decide +kernel
theorem dX7_wrongPairs_66 : decode cX7_wrongPairs 66 = .ok (.lconst 0, 1) := by decide +kernel
theorem dX7_wrongPairs_67 : decode cX7_wrongPairs 67 = .ok (.ldc2_w 239, 3) := by decide +kernel
theorem dX7_wrongPairs_70 : decode cX7_wrongPairs 70 = .ok (.invokestatic 75, 3) := by decide +kernel
theorem dX7_wrongPairs_73 : decode cX7_wrongPairs 73 = .ok (.ifCond .eq 31, 3) := by decide +kernel
theorem dX7_wrongPairs_76 : decode cX7_wrongPairs 76 = .ok (.aload_n 0, 1) := by decide +kernel
theorem dX7_wrongPairs_77 : decode cX7_wrongPairs 77 = .ok (.getfield 13, 3) := by decide +kernel
theorem dX7_wrongPairs_80 : decode cX7_wrongPairs 80 = .ok (.bipush 40, 2) := by decide +kernel
theorem dX7_wrongPairs_82 : decode cX7_wrongPairs 82 = .ok (.iload_n 1, 1) := by decide +kernel
theorem dX7_wrongPairs_83 : decode cX7_wrongPairs 83 = .ok (.imul, 1) := by decide +kernel
theorem dX7_wrongPairs_84 : decode cX7_wrongPairs 84 = .ok (.iload_n 3, 1) := by decide +kernel
theorem dX7_wrongPairs_85 : decode cX7_wrongPairs 85 = .ok (.iadd, 1) := by decide +kernel
theorem dX7_wrongPairs_86 : decode cX7_wrongPairs 86 = .ok (.iconst 1, 1) := by decide +kernel
theorem dX7_wrongPairs_87 : decode cX7_wrongPairs 87 = .ok (.iadd, 1) := by decide +kernel
theorem dX7_wrongPairs_88 : decode cX7_wrongPairs 88 = .ok (.iaload, 1) := by decide +kernel
theorem dX7_wrongPairs_89 : decode cX7_wrongPairs 89 = .ok (.i2l, 1) := by decide +kernel
theorem dX7_wrongPairs_90 : decode cX7_wrongPairs 90 = .ok (.lconst 1, 1) := by decide +kernel
theorem dX7_wrongPairs_91 : decode cX7_wrongPairs 91 = .ok (.ldc2_w 203, 3) := by decide +kernel
theorem dX7_wrongPairs_94 : decode cX7_wrongPairs 94 = .ok (.invokestatic 75, 3) := by decide +kernel
theorem dX7_wrongPairs_97 : decode cX7_wrongPairs 97 = .ok (.ifCond .eq 7, 3) := by decide +kernel
theorem dX7_wrongPairs_100 : decode cX7_wrongPairs 100 = .ok (.iconst 1, 1) := by decide +kernel
theorem dX7_wrongPairs_101 : decode cX7_wrongPairs 101 = .ok (.goto 4, 3) := by decide +kernel
theorem dX7_wrongPairs_104 : decode cX7_wrongPairs 104 = .ok (.iconst 0, 1) := by decide +kernel
theorem dX7_wrongPairs_105 : decode cX7_wrongPairs 105 = .ok (.istore_n 2, 1) := by decide +kernel
theorem dX7_wrongPairs_106 : decode cX7_wrongPairs 106 = .ok (.iinc 3 2, 3) := by decide +kernel
theorem dX7_wrongPairs_109 : decode cX7_wrongPairs 109 = .ok (.goto (-69), 3) := by decide +kernel
theorem dX7_wrongPairs_112 : decode cX7_wrongPairs 112 = .ok (.iload_n 2, 1) := by decide +kernel
theorem dX7_wrongPairs_113 : decode cX7_wrongPairs 113 = .ok (.ifCond .eq 7, 3) := by decide +kernel
theorem dX7_wrongPairs_116 : decode cX7_wrongPairs 116 = .ok (.iconst 0, 1) := by decide +kernel
theorem dX7_wrongPairs_117 : decode cX7_wrongPairs 117 = .ok (.goto 4, 3) := by decide +kernel
theorem dX7_wrongPairs_120 : decode cX7_wrongPairs 120 = .ok (.iconst 3, 1) := by decide +kernel
theorem dX7_wrongPairs_121 : decode cX7_wrongPairs 121 = .ok (.ireturn, 1) := by decide +kernel
set_option maxHeartbeats 200000 in
theorem bX7_wrongPairs_0 {S : pv_S} {x1 : Int32} {a2 a3 : Option Value} : pv_R mX7_wrongPairs 0 [some (.ref 37), some (.int x1), a2, a3] [] (pv_em S) = if x1 < 0 ∨ 6 ≤ x1.toNatClampNeg then none else if 0 ≤ (S.1 38 x1.toNatClampNeg) then pv_R mX7_wrongPairs 11 [some (.ref 37), some (.int x1), a2, a3] [] (pv_em S) else pv_R mX7_wrongPairs 9 [some (.ref 37), some (.int x1), a2, a3] [] (pv_em S) := Eq.trans (pv_Rstp dX7_wrongPairs_0 rfl rfl rfl) (Eq.trans (pv_Rget dX7_wrongPairs_1 ffX7_7 (by decide) (pv_ce_37 _ _) rfl) (Eq.trans (pv_Rstp dX7_wrongPairs_4 rfl rfl rfl) (Eq.trans (pv_Rald dX7_wrongPairs_5 (by decide) (pv_ce_38 _ _)) (pv_iteN (fun h1 => pv_Rbr (tgt := 11) dX7_wrongPairs_6 rfl rfl rfl rfl rfl (by decide))))))
set_option maxHeartbeats 200000 in
theorem bX7_wrongPairs_9 {S : pv_S} {x1 : Int32} {a2 a3 : Option Value} : pv_R mX7_wrongPairs 9 [some (.ref 37), some (.int x1), a2, a3] [] (pv_em S) = some (some (.int 1), pv_em S) := Eq.trans (pv_Ric dX7_wrongPairs_9 ki_1) (pv_Rret dX7_wrongPairs_10 rfl)
set_option maxHeartbeats 200000 in
theorem bX7_wrongPairs_11 {S : pv_S} {x1 : Int32} {a2 a3 : Option Value} : pv_R mX7_wrongPairs 11 [some (.ref 37), some (.int x1), a2, a3] [] (pv_em S) = if x1 < 0 ∨ 6 ≤ x1.toNatClampNeg then none else if ((S.1 38 x1.toNatClampNeg) - (S.1 38 x1.toNatClampNeg) / 2 * 2) = 1 then pv_R mX7_wrongPairs 34 [some (.ref 37), some (.int x1), a2, a3] [] (pv_em S) else pv_R mX7_wrongPairs 23 [some (.ref 37), some (.int x1), a2, a3] [] (pv_em S) := Eq.trans (pv_Rstp dX7_wrongPairs_11 rfl rfl rfl) (Eq.trans (pv_Rget dX7_wrongPairs_12 ffX7_7 (by decide) (pv_ce_37 _ _) rfl) (Eq.trans (pv_Rstp dX7_wrongPairs_15 rfl rfl rfl) (Eq.trans (pv_Rald dX7_wrongPairs_16 (by decide) (pv_ce_38 _ _)) (pv_iteN (fun h1 => Eq.trans (pv_Ric dX7_wrongPairs_17 ki_2) (Eq.trans (pv_Rrem dX7_wrongPairs_18) (Eq.trans (if_neg (by decide)) (Eq.trans (pv_Ric dX7_wrongPairs_19 ki_1) (pv_Rbr (tgt := 34) dX7_wrongPairs_20 rfl rfl rfl rfl rfl (by decide))))))))))
set_option maxHeartbeats 200000 in
theorem bX7_wrongPairs_23 {S : pv_S} {x1 : Int32} {a2 a3 : Option Value} : pv_R mX7_wrongPairs 23 [some (.ref 37), some (.int x1), a2, a3] [] (pv_em S) = if x1 < 0 ∨ 6 ≤ x1.toNatClampNeg then none else if (S.1 38 x1.toNatClampNeg) ≤ 16 then pv_R mX7_wrongPairs 36 [some (.ref 37), some (.int x1), a2, a3] [] (pv_em S) else pv_R mX7_wrongPairs 34 [some (.ref 37), some (.int x1), a2, a3] [] (pv_em S) := Eq.trans (pv_Rstp dX7_wrongPairs_23 rfl rfl rfl) (Eq.trans (pv_Rget dX7_wrongPairs_24 ffX7_7 (by decide) (pv_ce_37 _ _) rfl) (Eq.trans (pv_Rstp dX7_wrongPairs_27 rfl rfl rfl) (Eq.trans (pv_Rald dX7_wrongPairs_28 (by decide) (pv_ce_38 _ _)) (pv_iteN (fun h1 => Eq.trans (pv_Rbp dX7_wrongPairs_29 kb_16) (pv_Rbr (tgt := 36) dX7_wrongPairs_31 rfl rfl rfl rfl rfl (by decide)))))))
set_option maxHeartbeats 200000 in
theorem bX7_wrongPairs_34 {S : pv_S} {x1 : Int32} {a2 a3 : Option Value} : pv_R mX7_wrongPairs 34 [some (.ref 37), some (.int x1), a2, a3] [] (pv_em S) = some (some (.int 5), pv_em S) := Eq.trans (pv_Ric dX7_wrongPairs_34 ki_5) (pv_Rret dX7_wrongPairs_35 rfl)
set_option maxHeartbeats 200000 in
theorem bX7_wrongPairs_36 {S : pv_S} {x1 : Int32} {a2 a3 : Option Value} : pv_R mX7_wrongPairs 36 [some (.ref 37), some (.int x1), a2, a3] [] (pv_em S) = pv_R mX7_wrongPairs 40 [some (.ref 37), some (.int x1), some (.int 1), some (.int 0)] [] (pv_em S) := Eq.trans (pv_Ric dX7_wrongPairs_36 ki_1) (Eq.trans (pv_Rstp dX7_wrongPairs_37 rfl rfl rfl) (Eq.trans (pv_Ric dX7_wrongPairs_38 ki_0) (pv_Rstp dX7_wrongPairs_39 rfl rfl rfl)))
set_option maxHeartbeats 200000 in
theorem bX7_wrongPairs_40 {S : pv_S} {x1 x2 x3 : Int32} : pv_R mX7_wrongPairs 40 [some (.ref 37), some (.int x1), some (.int x2), some (.int x3)] [] (pv_em S) = if x1 < 0 ∨ 6 ≤ x1.toNatClampNeg then none else if (S.1 38 x1.toNatClampNeg) ≤ x3 then pv_R mX7_wrongPairs 112 [some (.ref 37), some (.int x1), some (.int x2), some (.int x3)] [] (pv_em S) else pv_R mX7_wrongPairs 50 [some (.ref 37), some (.int x1), some (.int x2), some (.int x3)] [] (pv_em S) := Eq.trans (pv_Rstp dX7_wrongPairs_40 rfl rfl rfl) (Eq.trans (pv_Rstp dX7_wrongPairs_41 rfl rfl rfl) (Eq.trans (pv_Rget dX7_wrongPairs_42 ffX7_7 (by decide) (pv_ce_37 _ _) rfl) (Eq.trans (pv_Rstp dX7_wrongPairs_45 rfl rfl rfl) (Eq.trans (pv_Rald dX7_wrongPairs_46 (by decide) (pv_ce_38 _ _)) (pv_iteN (fun h1 => pv_Rbr (tgt := 112) dX7_wrongPairs_47 rfl rfl rfl rfl rfl (by decide)))))))
set_option maxHeartbeats 200000 in
theorem bX7_wrongPairs_50 {S : pv_S} {x1 x2 x3 : Int32} : pv_R mX7_wrongPairs 50 [some (.ref 37), some (.int x1), some (.int x2), some (.int x3)] [] (pv_em S) = if x2 = 0 then pv_R mX7_wrongPairs 104 [some (.ref 37), some (.int x1), some (.int x2), some (.int x3)] [] (pv_em S) else pv_R mX7_wrongPairs 54 [some (.ref 37), some (.int x1), some (.int x2), some (.int x3)] [] (pv_em S) := Eq.trans (pv_Rstp dX7_wrongPairs_50 rfl rfl rfl) (pv_Rbr (tgt := 104) dX7_wrongPairs_51 rfl rfl rfl rfl rfl (by decide))
set_option maxHeartbeats 200000 in
theorem bX7_wrongPairs_54 {S : pv_S} {x1 x2 x3 : Int32} : pv_R mX7_wrongPairs 54 [some (.ref 37), some (.int x1), some (.int x2), some (.int x3)] [] (pv_em S) = if ((40 * x1) + x3) < 0 ∨ 240 ≤ (((40 * x1) + x3)).toNatClampNeg then none else pv_cc (pv_R mX7_in 0 [some (.long (Int32.toInt64 (S.1 39 (((40 * x1) + x3)).toNatClampNeg))), none, some (.long 0), none, some (.long 40), none] [] (pv_em S)) mX7_wrongPairs 73 [some (.ref 37), some (.int x1), some (.int x2), some (.int x3)] [] := Eq.trans (pv_Rstp dX7_wrongPairs_54 rfl rfl rfl) (Eq.trans (pv_Rget dX7_wrongPairs_55 ffX7_13 (by decide) (pv_ce_37 _ _) rfl) (Eq.trans (pv_Rbp dX7_wrongPairs_58 kb_40) (Eq.trans (pv_Rstp dX7_wrongPairs_60 rfl rfl rfl) (Eq.trans (pv_Rstp dX7_wrongPairs_61 rfl rfl rfl) (Eq.trans (pv_Rstp dX7_wrongPairs_62 rfl rfl rfl) (Eq.trans (pv_Rstp dX7_wrongPairs_63 rfl rfl rfl) (Eq.trans (pv_Rald dX7_wrongPairs_64 (by decide) (pv_ce_39 _ _)) (pv_iteN (fun h1 => Eq.trans (pv_Rstp dX7_wrongPairs_65 rfl rfl rfl) (Eq.trans (pv_Rlc dX7_wrongPairs_66 kl_0) (Eq.trans (pv_Rstp dX7_wrongPairs_67 rfl rfl rfl) (pv_Rcall (As := [.long (Int32.toInt64 (S.1 39 (((40 * x1) + x3)).toNatClampNeg)), .long 0, .long 40]) (rest := []) dX7_wrongPairs_70 rfl mfX7_75 rfl rfl rfl rfl rfl))))))))))))
set_option maxHeartbeats 200000 in
theorem bX7_wrongPairs_73 {S : pv_S} {x1 x2 x3 u0 : Int32} : pv_R mX7_wrongPairs 73 [some (.ref 37), some (.int x1), some (.int x2), some (.int x3)] [.int u0] (pv_em S) = if u0 = 0 then pv_R mX7_wrongPairs 104 [some (.ref 37), some (.int x1), some (.int x2), some (.int x3)] [] (pv_em S) else pv_R mX7_wrongPairs 76 [some (.ref 37), some (.int x1), some (.int x2), some (.int x3)] [] (pv_em S) := pv_Rbr (tgt := 104) dX7_wrongPairs_73 rfl rfl rfl rfl rfl (by decide)
set_option maxHeartbeats 200000 in
theorem bX7_wrongPairs_76 {S : pv_S} {x1 x2 x3 : Int32} : pv_R mX7_wrongPairs 76 [some (.ref 37), some (.int x1), some (.int x2), some (.int x3)] [] (pv_em S) = if (((40 * x1) + x3) + 1) < 0 ∨ 240 ≤ ((((40 * x1) + x3) + 1)).toNatClampNeg then none else pv_cc (pv_R mX7_in 0 [some (.long (Int32.toInt64 (S.1 39 ((((40 * x1) + x3) + 1)).toNatClampNeg))), none, some (.long 1), none, some (.long 200), none] [] (pv_em S)) mX7_wrongPairs 97 [some (.ref 37), some (.int x1), some (.int x2), some (.int x3)] [] := Eq.trans (pv_Rstp dX7_wrongPairs_76 rfl rfl rfl) (Eq.trans (pv_Rget dX7_wrongPairs_77 ffX7_13 (by decide) (pv_ce_37 _ _) rfl) (Eq.trans (pv_Rbp dX7_wrongPairs_80 kb_40) (Eq.trans (pv_Rstp dX7_wrongPairs_82 rfl rfl rfl) (Eq.trans (pv_Rstp dX7_wrongPairs_83 rfl rfl rfl) (Eq.trans (pv_Rstp dX7_wrongPairs_84 rfl rfl rfl) (Eq.trans (pv_Rstp dX7_wrongPairs_85 rfl rfl rfl) (Eq.trans (pv_Ric dX7_wrongPairs_86 ki_1) (Eq.trans (pv_Rstp dX7_wrongPairs_87 rfl rfl rfl) (Eq.trans (pv_Rald dX7_wrongPairs_88 (by decide) (pv_ce_39 _ _)) (pv_iteN (fun h1 => Eq.trans (pv_Rstp dX7_wrongPairs_89 rfl rfl rfl) (Eq.trans (pv_Rlc dX7_wrongPairs_90 kl_1) (Eq.trans (pv_Rstp dX7_wrongPairs_91 rfl rfl rfl) (pv_Rcall (As := [.long (Int32.toInt64 (S.1 39 ((((40 * x1) + x3) + 1)).toNatClampNeg)), .long 1, .long 200]) (rest := []) dX7_wrongPairs_94 rfl mfX7_75 rfl rfl rfl rfl rfl))))))))))))))
set_option maxHeartbeats 200000 in
theorem bX7_wrongPairs_97 {S : pv_S} {x1 x2 x3 u0 : Int32} : pv_R mX7_wrongPairs 97 [some (.ref 37), some (.int x1), some (.int x2), some (.int x3)] [.int u0] (pv_em S) = if u0 = 0 then pv_R mX7_wrongPairs 104 [some (.ref 37), some (.int x1), some (.int x2), some (.int x3)] [] (pv_em S) else pv_R mX7_wrongPairs 100 [some (.ref 37), some (.int x1), some (.int x2), some (.int x3)] [] (pv_em S) := pv_Rbr (tgt := 104) dX7_wrongPairs_97 rfl rfl rfl rfl rfl (by decide)
set_option maxHeartbeats 200000 in
theorem bX7_wrongPairs_100 {S : pv_S} {x1 x2 x3 : Int32} : pv_R mX7_wrongPairs 100 [some (.ref 37), some (.int x1), some (.int x2), some (.int x3)] [] (pv_em S) = pv_R mX7_wrongPairs 105 [some (.ref 37), some (.int x1), some (.int x2), some (.int x3)] [.int 1] (pv_em S) := Eq.trans (pv_Ric dX7_wrongPairs_100 ki_1) (pv_Rgo (tgt := 105) dX7_wrongPairs_101 rfl (by decide))
set_option maxHeartbeats 200000 in
theorem bX7_wrongPairs_104 {S : pv_S} {x1 x2 x3 : Int32} : pv_R mX7_wrongPairs 104 [some (.ref 37), some (.int x1), some (.int x2), some (.int x3)] [] (pv_em S) = pv_R mX7_wrongPairs 105 [some (.ref 37), some (.int x1), some (.int x2), some (.int x3)] [.int 0] (pv_em S) := pv_Ric dX7_wrongPairs_104 ki_0
set_option maxHeartbeats 200000 in
theorem bX7_wrongPairs_105 {S : pv_S} {x1 x2 x3 u0 : Int32} : pv_R mX7_wrongPairs 105 [some (.ref 37), some (.int x1), some (.int x2), some (.int x3)] [.int u0] (pv_em S) = pv_R mX7_wrongPairs 40 [some (.ref 37), some (.int x1), some (.int u0), some (.int (x3 + 2))] [] (pv_em S) := Eq.trans (pv_Rstp dX7_wrongPairs_105 rfl rfl rfl) (Eq.trans (pv_Rinc dX7_wrongPairs_106 rfl (Nat.le_of_ble_eq_true rfl) ki_2 rfl) (pv_Rgo (tgt := 40) dX7_wrongPairs_109 rfl (by decide)))
set_option maxHeartbeats 200000 in
theorem bX7_wrongPairs_112 {S : pv_S} {x1 x2 x3 : Int32} : pv_R mX7_wrongPairs 112 [some (.ref 37), some (.int x1), some (.int x2), some (.int x3)] [] (pv_em S) = if x2 = 0 then pv_R mX7_wrongPairs 120 [some (.ref 37), some (.int x1), some (.int x2), some (.int x3)] [] (pv_em S) else pv_R mX7_wrongPairs 116 [some (.ref 37), some (.int x1), some (.int x2), some (.int x3)] [] (pv_em S) := Eq.trans (pv_Rstp dX7_wrongPairs_112 rfl rfl rfl) (pv_Rbr (tgt := 120) dX7_wrongPairs_113 rfl rfl rfl rfl rfl (by decide))
set_option maxHeartbeats 200000 in
theorem bX7_wrongPairs_116 {S : pv_S} {x1 x2 x3 : Int32} : pv_R mX7_wrongPairs 116 [some (.ref 37), some (.int x1), some (.int x2), some (.int x3)] [] (pv_em S) = pv_R mX7_wrongPairs 121 [some (.ref 37), some (.int x1), some (.int x2), some (.int x3)] [.int 0] (pv_em S) := Eq.trans (pv_Ric dX7_wrongPairs_116 ki_0) (pv_Rgo (tgt := 121) dX7_wrongPairs_117 rfl (by decide))
set_option maxHeartbeats 200000 in
theorem bX7_wrongPairs_120 {S : pv_S} {x1 x2 x3 : Int32} : pv_R mX7_wrongPairs 120 [some (.ref 37), some (.int x1), some (.int x2), some (.int x3)] [] (pv_em S) = pv_R mX7_wrongPairs 121 [some (.ref 37), some (.int x1), some (.int x2), some (.int x3)] [.int 3] (pv_em S) := pv_Ric dX7_wrongPairs_120 ki_3
set_option maxHeartbeats 200000 in
theorem bX7_wrongPairs_121 {S : pv_S} {x1 x2 x3 u0 : Int32} : pv_R mX7_wrongPairs 121 [some (.ref 37), some (.int x1), some (.int x2), some (.int x3)] [.int u0] (pv_em S) = some (some (.int u0), pv_em S) := pv_Rret dX7_wrongPairs_121 rfl
theorem dX7_isSo_0 : decode cX7_isSo 0 = .ok (.iconst 1, 1) := by decide +kernel
theorem dX7_isSo_1 : decode cX7_isSo 1 = .ok (.istore 4, 2) := by decide +kernel
theorem dX7_isSo_3 : decode cX7_isSo 3 = .ok (.iconst 0, 1) := by decide +kernel
theorem dX7_isSo_4 : decode cX7_isSo 4 = .ok (.istore 5, 2) := by decide +kernel
theorem dX7_isSo_6 : decode cX7_isSo 6 = .ok (.iload 5, 2) := by decide +kernel
theorem dX7_isSo_8 : decode cX7_isSo 8 = .ok (.aload_n 0, 1) := by decide +kernel
theorem dX7_isSo_9 : decode cX7_isSo 9 = .ok (.getfield 7, 3) := by decide +kernel
theorem dX7_isSo_12 : decode cX7_isSo 12 = .ok (.iload_n 1, 1) := by decide +kernel
theorem dX7_isSo_13 : decode cX7_isSo 13 = .ok (.iaload, 1) := by decide +kernel
theorem dX7_isSo_14 : decode cX7_isSo 14 = .ok (.if_icmp .ge 56, 3) := by decide +kernel
theorem dX7_isSo_17 : decode cX7_isSo 17 = .ok (.iload 4, 2) := by decide +kernel
theorem dX7_isSo_19 : decode cX7_isSo 19 = .ok (.ifCond .eq 42, 3) := by decide +kernel
theorem dX7_isSo_22 : decode cX7_isSo 22 = .ok (.aload_n 0, 1) := by decide +kernel
theorem dX7_isSo_23 : decode cX7_isSo 23 = .ok (.iload_n 2, 1) := by decide +kernel
theorem dX7_isSo_24 : decode cX7_isSo 24 = .ok (.iload_n 3, 1) := by decide +kernel
theorem dX7_isSo_25 : decode cX7_isSo 25 = .ok (.aload_n 0, 1) := by decide +kernel
theorem dX7_isSo_26 : decode cX7_isSo 26 = .ok (.getfield 13, 3) := by decide +kernel
theorem dX7_isSo_29 : decode cX7_isSo 29 = .ok (.bipush 40, 2) := by decide +kernel
theorem dX7_isSo_31 : decode cX7_isSo 31 = .ok (.iload_n 1, 1) := by decide +kernel
theorem dX7_isSo_32 : decode cX7_isSo 32 = .ok (.imul, 1) := by decide +kernel
theorem dX7_isSo_33 : decode cX7_isSo 33 = .ok (.iload 5, 2) := by decide +kernel
theorem dX7_isSo_35 : decode cX7_isSo 35 = .ok (.iadd, 1) := by decide +kernel
theorem dX7_isSo_36 : decode cX7_isSo 36 = .ok (.iaload, 1) := by decide +kernel
theorem dX7_isSo_37 : decode cX7_isSo 37 = .ok (.invokevirtual 154, 3) := by decide +kernel
theorem dX7_isSo_40 : decode cX7_isSo 40 = .ok (.aload_n 0, 1) := by decide +kernel
theorem dX7_isSo_41 : decode cX7_isSo 41 = .ok (.getfield 13, 3) := by decide +kernel
theorem dX7_isSo_44 : decode cX7_isSo 44 = .ok (.bipush 40, 2) := by decide +kernel
theorem dX7_isSo_46 : decode cX7_isSo 46 = .ok (.iload_n 1, 1) := by decide +kernel
theorem dX7_isSo_47 : decode cX7_isSo 47 = .ok (.imul, 1) := by decide +kernel
theorem dX7_isSo_48 : decode cX7_isSo 48 = .ok (.iload 5, 2) := by decide +kernel
theorem dX7_isSo_50 : decode cX7_isSo 50 = .ok (.iadd, 1) := by decide +kernel
theorem dX7_isSo_51 : decode cX7_isSo 51 = .ok (.iconst 1, 1) := by decide +kernel
theorem dX7_isSo_52 : decode cX7_isSo 52 = .ok (.iadd, 1) := by decide +kernel
theorem dX7_isSo_53 : decode cX7_isSo 53 = .ok (.iaload, 1) := by decide +kernel
theorem dX7_isSo_54 : decode cX7_isSo 54 = .ok (.if_icmp .ne 7, 3) := by decide +kernel
theorem dX7_isSo_57 : decode cX7_isSo 57 = .ok (.iconst 1, 1) := by decide +kernel
theorem dX7_isSo_58 : decode cX7_isSo 58 = .ok (.goto 4, 3) := by decide +kernel
theorem dX7_isSo_61 : decode cX7_isSo 61 = .ok (.iconst 0, 1) := by decide +kernel
theorem dX7_isSo_62 : decode cX7_isSo 62 = .ok (.istore 4, 2) := by decide +kernel
theorem dX7_isSo_64 : decode cX7_isSo 64 = .ok (.iinc 5 2, 3) := by decide +kernel
theorem dX7_isSo_67 : decode cX7_isSo 67 = .ok (.goto (-61), 3) := by decide +kernel
theorem dX7_isSo_70 : decode cX7_isSo 70 = .ok (.iload 4, 2) := by decide +kernel
theorem dX7_isSo_72 : decode cX7_isSo 72 = .ok (.ireturn, 1) := by decide +kernel
set_option maxHeartbeats 200000 in
theorem bX7_isSo_0 {S : pv_S} {x1 x2 x3 : Int32} {a4 a5 : Option Value} : pv_R mX7_isSo 0 [some (.ref 37), some (.int x1), some (.int x2), some (.int x3), a4, a5] [] (pv_em S) = pv_R mX7_isSo 6 [some (.ref 37), some (.int x1), some (.int x2), some (.int x3), some (.int 1), some (.int 0)] [] (pv_em S) := Eq.trans (pv_Ric dX7_isSo_0 ki_1) (Eq.trans (pv_Rstp dX7_isSo_1 rfl rfl rfl) (Eq.trans (pv_Ric dX7_isSo_3 ki_0) (pv_Rstp dX7_isSo_4 rfl rfl rfl)))
set_option maxHeartbeats 200000 in
theorem bX7_isSo_6 {S : pv_S} {x1 x2 x3 x4 x5 : Int32} : pv_R mX7_isSo 6 [some (.ref 37), some (.int x1), some (.int x2), some (.int x3), some (.int x4), some (.int x5)] [] (pv_em S) = if x1 < 0 ∨ 6 ≤ x1.toNatClampNeg then none else if (S.1 38 x1.toNatClampNeg) ≤ x5 then pv_R mX7_isSo 70 [some (.ref 37), some (.int x1), some (.int x2), some (.int x3), some (.int x4), some (.int x5)] [] (pv_em S) else pv_R mX7_isSo 17 [some (.ref 37), some (.int x1), some (.int x2), some (.int x3), some (.int x4), some (.int x5)] [] (pv_em S) := Eq.trans (pv_Rstp dX7_isSo_6 rfl rfl rfl) (Eq.trans (pv_Rstp dX7_isSo_8 rfl rfl rfl) (Eq.trans (pv_Rget dX7_isSo_9 ffX7_7 (by decide) (pv_ce_37 _ _) rfl) (Eq.trans (pv_Rstp dX7_isSo_12 rfl rfl rfl) (Eq.trans (pv_Rald dX7_isSo_13 (by decide) (pv_ce_38 _ _)) (pv_iteN (fun h1 => pv_Rbr (tgt := 70) dX7_isSo_14 rfl rfl rfl rfl rfl (by decide)))))))
set_option maxHeartbeats 200000 in
theorem bX7_isSo_17 {S : pv_S} {x1 x2 x3 x4 x5 : Int32} : pv_R mX7_isSo 17 [some (.ref 37), some (.int x1), some (.int x2), some (.int x3), some (.int x4), some (.int x5)] [] (pv_em S) = if x4 = 0 then pv_R mX7_isSo 61 [some (.ref 37), some (.int x1), some (.int x2), some (.int x3), some (.int x4), some (.int x5)] [] (pv_em S) else pv_R mX7_isSo 22 [some (.ref 37), some (.int x1), some (.int x2), some (.int x3), some (.int x4), some (.int x5)] [] (pv_em S) := Eq.trans (pv_Rstp dX7_isSo_17 rfl rfl rfl) (pv_Rbr (tgt := 61) dX7_isSo_19 rfl rfl rfl rfl rfl (by decide))
set_option maxHeartbeats 200000 in
theorem bX7_isSo_22 {S : pv_S} {x1 x2 x3 x4 x5 : Int32} : pv_R mX7_isSo 22 [some (.ref 37), some (.int x1), some (.int x2), some (.int x3), some (.int x4), some (.int x5)] [] (pv_em S) = if ((40 * x1) + x5) < 0 ∨ 240 ≤ (((40 * x1) + x5)).toNatClampNeg then none else pv_cc (pv_R mX7_after 0 [some (.ref 37), some (.int x2), some (.int x3), some (.int (S.1 39 (((40 * x1) + x5)).toNatClampNeg)), none, none] [] (pv_em S)) mX7_isSo 40 [some (.ref 37), some (.int x1), some (.int x2), some (.int x3), some (.int x4), some (.int x5)] [] := Eq.trans (pv_Rstp dX7_isSo_22 rfl rfl rfl) (Eq.trans (pv_Rstp dX7_isSo_23 rfl rfl rfl) (Eq.trans (pv_Rstp dX7_isSo_24 rfl rfl rfl) (Eq.trans (pv_Rstp dX7_isSo_25 rfl rfl rfl) (Eq.trans (pv_Rget dX7_isSo_26 ffX7_13 (by decide) (pv_ce_37 _ _) rfl) (Eq.trans (pv_Rbp dX7_isSo_29 kb_40) (Eq.trans (pv_Rstp dX7_isSo_31 rfl rfl rfl) (Eq.trans (pv_Rstp dX7_isSo_32 rfl rfl rfl) (Eq.trans (pv_Rstp dX7_isSo_33 rfl rfl rfl) (Eq.trans (pv_Rstp dX7_isSo_35 rfl rfl rfl) (Eq.trans (pv_Rald dX7_isSo_36 (by decide) (pv_ce_39 _ _)) (pv_iteN (fun h1 => pv_Rcall (As := [.ref 37, .int x2, .int x3, .int (S.1 39 (((40 * x1) + x5)).toNatClampNeg)]) (rest := []) dX7_isSo_37 rfl mfX7_154 rfl rfl rfl rfl rfl))))))))))))
set_option maxHeartbeats 200000 in
theorem bX7_isSo_40 {S : pv_S} {x1 x2 x3 x4 x5 u0 : Int32} : pv_R mX7_isSo 40 [some (.ref 37), some (.int x1), some (.int x2), some (.int x3), some (.int x4), some (.int x5)] [.int u0] (pv_em S) = if (((40 * x1) + x5) + 1) < 0 ∨ 240 ≤ ((((40 * x1) + x5) + 1)).toNatClampNeg then none else if ¬ u0 = (S.1 39 ((((40 * x1) + x5) + 1)).toNatClampNeg) then pv_R mX7_isSo 61 [some (.ref 37), some (.int x1), some (.int x2), some (.int x3), some (.int x4), some (.int x5)] [] (pv_em S) else pv_R mX7_isSo 57 [some (.ref 37), some (.int x1), some (.int x2), some (.int x3), some (.int x4), some (.int x5)] [] (pv_em S) := Eq.trans (pv_Rstp dX7_isSo_40 rfl rfl rfl) (Eq.trans (pv_Rget dX7_isSo_41 ffX7_13 (by decide) (pv_ce_37 _ _) rfl) (Eq.trans (pv_Rbp dX7_isSo_44 kb_40) (Eq.trans (pv_Rstp dX7_isSo_46 rfl rfl rfl) (Eq.trans (pv_Rstp dX7_isSo_47 rfl rfl rfl) (Eq.trans (pv_Rstp dX7_isSo_48 rfl rfl rfl) (Eq.trans (pv_Rstp dX7_isSo_50 rfl rfl rfl) (Eq.trans (pv_Ric dX7_isSo_51 ki_1) (Eq.trans (pv_Rstp dX7_isSo_52 rfl rfl rfl) (Eq.trans (pv_Rald dX7_isSo_53 (by decide) (pv_ce_39 _ _)) (pv_iteN (fun h1 => pv_Rbr (tgt := 61) dX7_isSo_54 rfl rfl rfl rfl rfl (by decide))))))))))))
set_option maxHeartbeats 200000 in
theorem bX7_isSo_57 {S : pv_S} {x1 x2 x3 x4 x5 : Int32} : pv_R mX7_isSo 57 [some (.ref 37), some (.int x1), some (.int x2), some (.int x3), some (.int x4), some (.int x5)] [] (pv_em S) = pv_R mX7_isSo 62 [some (.ref 37), some (.int x1), some (.int x2), some (.int x3), some (.int x4), some (.int x5)] [.int 1] (pv_em S) := Eq.trans (pv_Ric dX7_isSo_57 ki_1) (pv_Rgo (tgt := 62) dX7_isSo_58 rfl (by decide))
set_option maxHeartbeats 200000 in
theorem bX7_isSo_61 {S : pv_S} {x1 x2 x3 x4 x5 : Int32} : pv_R mX7_isSo 61 [some (.ref 37), some (.int x1), some (.int x2), some (.int x3), some (.int x4), some (.int x5)] [] (pv_em S) = pv_R mX7_isSo 62 [some (.ref 37), some (.int x1), some (.int x2), some (.int x3), some (.int x4), some (.int x5)] [.int 0] (pv_em S) := pv_Ric dX7_isSo_61 ki_0
set_option maxHeartbeats 200000 in
theorem bX7_isSo_62 {S : pv_S} {x1 x2 x3 x4 x5 u0 : Int32} : pv_R mX7_isSo 62 [some (.ref 37), some (.int x1), some (.int x2), some (.int x3), some (.int x4), some (.int x5)] [.int u0] (pv_em S) = pv_R mX7_isSo 6 [some (.ref 37), some (.int x1), some (.int x2), some (.int x3), some (.int u0), some (.int (x5 + 2))] [] (pv_em S) := Eq.trans (pv_Rstp dX7_isSo_62 rfl rfl rfl) (Eq.trans (pv_Rinc dX7_isSo_64 rfl (Nat.le_of_ble_eq_true rfl) ki_2 rfl) (pv_Rgo (tgt := 6) dX7_isSo_67 rfl (by decide)))
set_option maxHeartbeats 200000 in
theorem bX7_isSo_70 {S : pv_S} {x1 x2 x3 x4 x5 : Int32} : pv_R mX7_isSo 70 [some (.ref 37), some (.int x1), some (.int x2), some (.int x3), some (.int x4), some (.int x5)] [] (pv_em S) = if vp_nar .boolean x4 = x4 then some (some (.int x4), pv_em S) else none := Eq.trans (pv_Rstp dX7_isSo_70 rfl rfl rfl) (pv_Rzret dX7_isSo_72 rfl)
theorem dX7_alike_0 : decode cX7_alike 0 = .ok (.iconst 0, 1) := by decide +kernel
theorem dX7_alike_1 : decode cX7_alike 1 = .ok (.istore 4, 2) := by decide +kernel
theorem dX7_alike_3 : decode cX7_alike 3 = .ok (.iconst 0, 1) := by decide +kernel
theorem dX7_alike_4 : decode cX7_alike 4 = .ok (.istore 5, 2) := by decide +kernel
theorem dX7_alike_6 : decode cX7_alike 6 = .ok (.iload 5, 2) := by decide +kernel
theorem dX7_alike_8 : decode cX7_alike 8 = .ok (.bipush 6, 2) := by decide +kernel
theorem dX7_alike_10 : decode cX7_alike 10 = .ok (.if_icmp .ge 91, 3) := by decide +kernel
theorem dX7_alike_13 : decode cX7_alike 13 = .ok (.iconst 0, 1) := by decide +kernel
theorem dX7_alike_14 : decode cX7_alike 14 = .ok (.istore 6, 2) := by decide +kernel
theorem dX7_alike_16 : decode cX7_alike 16 = .ok (.iconst 0, 1) := by decide +kernel
theorem dX7_alike_17 : decode cX7_alike 17 = .ok (.istore 7, 2) := by decide +kernel
theorem dX7_alike_19 : decode cX7_alike 19 = .ok (.iload 7, 2) := by decide +kernel
theorem dX7_alike_21 : decode cX7_alike 21 = .ok (.bipush 6, 2) := by decide +kernel
theorem dX7_alike_23 : decode cX7_alike 23 = .ok (.if_icmp .ge 56, 3) := by decide +kernel
theorem dX7_alike_26 : decode cX7_alike 26 = .ok (.iload 6, 2) := by decide +kernel
theorem dX7_alike_28 : decode cX7_alike 28 = .ok (.iload_n 1, 1) := by decide +kernel
theorem dX7_alike_29 : decode cX7_alike 29 = .ok (.iload 5, 2) := by decide +kernel
theorem dX7_alike_31 : decode cX7_alike 31 = .ok (.invokestatic 221, 3) := by decide +kernel
theorem dX7_alike_34 : decode cX7_alike 34 = .ok (.ifCond .eq 35, 3) := by decide +kernel
theorem dX7_alike_37 : decode cX7_alike 37 = .ok (.iload_n 1, 1) := by decide +kernel
theorem dX7_alike_38 : decode cX7_alike 38 = .ok (.iload 7, 2) := by decide +kernel
theorem dX7_alike_40 : decode cX7_alike 40 = .ok (.invokestatic 221, 3) := by decide +kernel
theorem dX7_alike_43 : decode cX7_alike 43 = .ok (.ifCond .eq 26, 3) := by decide +kernel
theorem dX7_alike_46 : decode cX7_alike 46 = .ok (.aload_n 0, 1) := by decide +kernel
theorem dX7_alike_47 : decode cX7_alike 47 = .ok (.iload 5, 2) := by decide +kernel
theorem dX7_alike_49 : decode cX7_alike 49 = .ok (.iload_n 2, 1) := by decide +kernel
theorem dX7_alike_50 : decode cX7_alike 50 = .ok (.iload_n 3, 1) := by decide +kernel
theorem dX7_alike_51 : decode cX7_alike 51 = .ok (.invokevirtual 154, 3) := by decide +kernel
theorem dX7_alike_54 : decode cX7_alike 54 = .ok (.aload_n 0, 1) := by decide +kernel
theorem dX7_alike_55 : decode cX7_alike 55 = .ok (.iload 7, 2) := by decide +kernel
theorem dX7_alike_57 : decode cX7_alike 57 = .ok (.iload_n 2, 1) := by decide +kernel
theorem dX7_alike_58 : decode cX7_alike 58 = .ok (.iload_n 3, 1) := by decide +kernel
theorem dX7_alike_59 : decode cX7_alike 59 = .ok (.invokevirtual 154, 3) := by decide +kernel
theorem dX7_alike_62 : decode cX7_alike 62 = .ok (.if_icmp .ne 7, 3) := by decide +kernel
theorem dX7_alike_65 : decode cX7_alike 65 = .ok (.iconst 1, 1) := by decide +kernel
theorem dX7_alike_66 : decode cX7_alike 66 = .ok (.goto 4, 3) := by decide +kernel
theorem dX7_alike_69 : decode cX7_alike 69 = .ok (.iconst 0, 1) := by decide +kernel
theorem dX7_alike_70 : decode cX7_alike 70 = .ok (.iadd, 1) := by decide +kernel
theorem dX7_alike_71 : decode cX7_alike 71 = .ok (.istore 6, 2) := by decide +kernel
theorem dX7_alike_73 : decode cX7_alike 73 = .ok (.iinc 7 1, 3) := by decide +kernel
theorem dX7_alike_76 : decode cX7_alike 76 = .ok (.goto (-57), 3) := by decide +kernel
theorem dX7_alike_79 : decode cX7_alike 79 = .ok (.iload 6, 2) := by decide +kernel
theorem dX7_alike_81 : decode cX7_alike 81 = .ok (.iload 4, 2) := by decide +kernel
theorem dX7_alike_83 : decode cX7_alike 83 = .ok (.if_icmp .le 8, 3) := by decide +kernel
theorem dX7_alike_86 : decode cX7_alike 86 = .ok (.iload 6, 2) := by decide +kernel
theorem dX7_alike_88 : decode cX7_alike 88 = .ok (.goto 5, 3) := by decide +kernel
theorem dX7_alike_91 : decode cX7_alike 91 = .ok (.iload 4, 2) := by decide +kernel
theorem dX7_alike_93 : decode cX7_alike 93 = .ok (.istore 4, 2) := by decide +kernel
theorem dX7_alike_95 : decode cX7_alike 95 = .ok (.iinc 5 1, 3) := by decide +kernel
theorem dX7_alike_98 : decode cX7_alike 98 = .ok (.goto (-92), 3) := by decide +kernel
theorem dX7_alike_101 : decode cX7_alike 101 = .ok (.iload 4, 2) := by decide +kernel
theorem dX7_alike_103 : decode cX7_alike 103 = .ok (.ireturn, 1) := by decide +kernel
set_option maxHeartbeats 200000 in
theorem bX7_alike_0 {S : pv_S} {x1 x2 x3 : Int32} {a4 a5 a6 a7 : Option Value} : pv_R mX7_alike 0 [some (.ref 37), some (.int x1), some (.int x2), some (.int x3), a4, a5, a6, a7] [] (pv_em S) = pv_R mX7_alike 6 [some (.ref 37), some (.int x1), some (.int x2), some (.int x3), some (.int 0), some (.int 0), a6, a7] [] (pv_em S) := Eq.trans (pv_Ric dX7_alike_0 ki_0) (Eq.trans (pv_Rstp dX7_alike_1 rfl rfl rfl) (Eq.trans (pv_Ric dX7_alike_3 ki_0) (pv_Rstp dX7_alike_4 rfl rfl rfl)))
set_option maxHeartbeats 200000 in
theorem bX7_alike_6 {S : pv_S} {x1 x2 x3 x4 x5 : Int32} {a6 a7 : Option Value} : pv_R mX7_alike 6 [some (.ref 37), some (.int x1), some (.int x2), some (.int x3), some (.int x4), some (.int x5), a6, a7] [] (pv_em S) = if 6 ≤ x5 then pv_R mX7_alike 101 [some (.ref 37), some (.int x1), some (.int x2), some (.int x3), some (.int x4), some (.int x5), a6, a7] [] (pv_em S) else pv_R mX7_alike 13 [some (.ref 37), some (.int x1), some (.int x2), some (.int x3), some (.int x4), some (.int x5), a6, a7] [] (pv_em S) := Eq.trans (pv_Rstp dX7_alike_6 rfl rfl rfl) (Eq.trans (pv_Rbp dX7_alike_8 kb_6) (pv_Rbr (tgt := 101) dX7_alike_10 rfl rfl rfl rfl rfl (by decide)))
set_option maxHeartbeats 200000 in
theorem bX7_alike_13 {S : pv_S} {x1 x2 x3 x4 x5 : Int32} {a6 a7 : Option Value} : pv_R mX7_alike 13 [some (.ref 37), some (.int x1), some (.int x2), some (.int x3), some (.int x4), some (.int x5), a6, a7] [] (pv_em S) = pv_R mX7_alike 19 [some (.ref 37), some (.int x1), some (.int x2), some (.int x3), some (.int x4), some (.int x5), some (.int 0), some (.int 0)] [] (pv_em S) := Eq.trans (pv_Ric dX7_alike_13 ki_0) (Eq.trans (pv_Rstp dX7_alike_14 rfl rfl rfl) (Eq.trans (pv_Ric dX7_alike_16 ki_0) (pv_Rstp dX7_alike_17 rfl rfl rfl)))
set_option maxHeartbeats 200000 in
theorem bX7_alike_19 {S : pv_S} {x1 x2 x3 x4 x5 x6 x7 : Int32} : pv_R mX7_alike 19 [some (.ref 37), some (.int x1), some (.int x2), some (.int x3), some (.int x4), some (.int x5), some (.int x6), some (.int x7)] [] (pv_em S) = if 6 ≤ x7 then pv_R mX7_alike 79 [some (.ref 37), some (.int x1), some (.int x2), some (.int x3), some (.int x4), some (.int x5), some (.int x6), some (.int x7)] [] (pv_em S) else pv_R mX7_alike 26 [some (.ref 37), some (.int x1), some (.int x2), some (.int x3), some (.int x4), some (.int x5), some (.int x6), some (.int x7)] [] (pv_em S) := Eq.trans (pv_Rstp dX7_alike_19 rfl rfl rfl) (Eq.trans (pv_Rbp dX7_alike_21 kb_6) (pv_Rbr (tgt := 79) dX7_alike_23 rfl rfl rfl rfl rfl (by decide)))
set_option maxHeartbeats 200000 in
theorem bX7_alike_26 {S : pv_S} {x1 x2 x3 x4 x5 x6 x7 : Int32} : pv_R mX7_alike 26 [some (.ref 37), some (.int x1), some (.int x2), some (.int x3), some (.int x4), some (.int x5), some (.int x6), some (.int x7)] [] (pv_em S) = pv_cc (pv_R mX7_has 0 [some (.int x1), some (.int x5)] [] (pv_em S)) mX7_alike 34 [some (.ref 37), some (.int x1), some (.int x2), some (.int x3), some (.int x4), some (.int x5), some (.int x6), some (.int x7)] [.int x6] := Eq.trans (pv_Rstp dX7_alike_26 rfl rfl rfl) (Eq.trans (pv_Rstp dX7_alike_28 rfl rfl rfl) (Eq.trans (pv_Rstp dX7_alike_29 rfl rfl rfl) (pv_Rcall (As := [.int x1, .int x5]) (rest := [.int x6]) dX7_alike_31 rfl mfX7_221 rfl rfl rfl rfl rfl)))
set_option maxHeartbeats 200000 in
theorem bX7_alike_34 {S : pv_S} {x1 x2 x3 x4 x5 x6 x7 u0 u1 : Int32} : pv_R mX7_alike 34 [some (.ref 37), some (.int x1), some (.int x2), some (.int x3), some (.int x4), some (.int x5), some (.int x6), some (.int x7)] [.int u0, .int u1] (pv_em S) = if u0 = 0 then pv_R mX7_alike 69 [some (.ref 37), some (.int x1), some (.int x2), some (.int x3), some (.int x4), some (.int x5), some (.int x6), some (.int x7)] [.int u1] (pv_em S) else pv_R mX7_alike 37 [some (.ref 37), some (.int x1), some (.int x2), some (.int x3), some (.int x4), some (.int x5), some (.int x6), some (.int x7)] [.int u1] (pv_em S) := pv_Rbr (tgt := 69) dX7_alike_34 rfl rfl rfl rfl rfl (by decide)
set_option maxHeartbeats 200000 in
theorem bX7_alike_37 {S : pv_S} {x1 x2 x3 x4 x5 x6 x7 u0 : Int32} : pv_R mX7_alike 37 [some (.ref 37), some (.int x1), some (.int x2), some (.int x3), some (.int x4), some (.int x5), some (.int x6), some (.int x7)] [.int u0] (pv_em S) = pv_cc (pv_R mX7_has 0 [some (.int x1), some (.int x7)] [] (pv_em S)) mX7_alike 43 [some (.ref 37), some (.int x1), some (.int x2), some (.int x3), some (.int x4), some (.int x5), some (.int x6), some (.int x7)] [.int u0] := Eq.trans (pv_Rstp dX7_alike_37 rfl rfl rfl) (Eq.trans (pv_Rstp dX7_alike_38 rfl rfl rfl) (pv_Rcall (As := [.int x1, .int x7]) (rest := [.int u0]) dX7_alike_40 rfl mfX7_221 rfl rfl rfl rfl rfl))
set_option maxHeartbeats 200000 in
theorem bX7_alike_43 {S : pv_S} {x1 x2 x3 x4 x5 x6 x7 u0 u1 : Int32} : pv_R mX7_alike 43 [some (.ref 37), some (.int x1), some (.int x2), some (.int x3), some (.int x4), some (.int x5), some (.int x6), some (.int x7)] [.int u0, .int u1] (pv_em S) = if u0 = 0 then pv_R mX7_alike 69 [some (.ref 37), some (.int x1), some (.int x2), some (.int x3), some (.int x4), some (.int x5), some (.int x6), some (.int x7)] [.int u1] (pv_em S) else pv_R mX7_alike 46 [some (.ref 37), some (.int x1), some (.int x2), some (.int x3), some (.int x4), some (.int x5), some (.int x6), some (.int x7)] [.int u1] (pv_em S) := pv_Rbr (tgt := 69) dX7_alike_43 rfl rfl rfl rfl rfl (by decide)
set_option maxHeartbeats 200000 in
theorem bX7_alike_46 {S : pv_S} {x1 x2 x3 x4 x5 x6 x7 u0 : Int32} : pv_R mX7_alike 46 [some (.ref 37), some (.int x1), some (.int x2), some (.int x3), some (.int x4), some (.int x5), some (.int x6), some (.int x7)] [.int u0] (pv_em S) = pv_cc (pv_R mX7_after 0 [some (.ref 37), some (.int x5), some (.int x2), some (.int x3), none, none] [] (pv_em S)) mX7_alike 54 [some (.ref 37), some (.int x1), some (.int x2), some (.int x3), some (.int x4), some (.int x5), some (.int x6), some (.int x7)] [.int u0] := Eq.trans (pv_Rstp dX7_alike_46 rfl rfl rfl) (Eq.trans (pv_Rstp dX7_alike_47 rfl rfl rfl) (Eq.trans (pv_Rstp dX7_alike_49 rfl rfl rfl) (Eq.trans (pv_Rstp dX7_alike_50 rfl rfl rfl) (pv_Rcall (As := [.ref 37, .int x5, .int x2, .int x3]) (rest := [.int u0]) dX7_alike_51 rfl mfX7_154 rfl rfl rfl rfl rfl))))
set_option maxHeartbeats 200000 in
theorem bX7_alike_54 {S : pv_S} {x1 x2 x3 x4 x5 x6 x7 u0 u1 : Int32} : pv_R mX7_alike 54 [some (.ref 37), some (.int x1), some (.int x2), some (.int x3), some (.int x4), some (.int x5), some (.int x6), some (.int x7)] [.int u0, .int u1] (pv_em S) = pv_cc (pv_R mX7_after 0 [some (.ref 37), some (.int x7), some (.int x2), some (.int x3), none, none] [] (pv_em S)) mX7_alike 62 [some (.ref 37), some (.int x1), some (.int x2), some (.int x3), some (.int x4), some (.int x5), some (.int x6), some (.int x7)] [.int u0, .int u1] := Eq.trans (pv_Rstp dX7_alike_54 rfl rfl rfl) (Eq.trans (pv_Rstp dX7_alike_55 rfl rfl rfl) (Eq.trans (pv_Rstp dX7_alike_57 rfl rfl rfl) (Eq.trans (pv_Rstp dX7_alike_58 rfl rfl rfl) (pv_Rcall (As := [.ref 37, .int x7, .int x2, .int x3]) (rest := [.int u0, .int u1]) dX7_alike_59 rfl mfX7_154 rfl rfl rfl rfl rfl))))
set_option maxHeartbeats 200000 in
theorem bX7_alike_62 {S : pv_S} {x1 x2 x3 x4 x5 x6 x7 u0 u1 u2 : Int32} : pv_R mX7_alike 62 [some (.ref 37), some (.int x1), some (.int x2), some (.int x3), some (.int x4), some (.int x5), some (.int x6), some (.int x7)] [.int u0, .int u1, .int u2] (pv_em S) = if ¬ u1 = u0 then pv_R mX7_alike 69 [some (.ref 37), some (.int x1), some (.int x2), some (.int x3), some (.int x4), some (.int x5), some (.int x6), some (.int x7)] [.int u2] (pv_em S) else pv_R mX7_alike 65 [some (.ref 37), some (.int x1), some (.int x2), some (.int x3), some (.int x4), some (.int x5), some (.int x6), some (.int x7)] [.int u2] (pv_em S) := pv_Rbr (tgt := 69) dX7_alike_62 rfl rfl rfl rfl rfl (by decide)
set_option maxHeartbeats 200000 in
theorem bX7_alike_65 {S : pv_S} {x1 x2 x3 x4 x5 x6 x7 u0 : Int32} : pv_R mX7_alike 65 [some (.ref 37), some (.int x1), some (.int x2), some (.int x3), some (.int x4), some (.int x5), some (.int x6), some (.int x7)] [.int u0] (pv_em S) = pv_R mX7_alike 70 [some (.ref 37), some (.int x1), some (.int x2), some (.int x3), some (.int x4), some (.int x5), some (.int x6), some (.int x7)] [.int 1, .int u0] (pv_em S) := Eq.trans (pv_Ric dX7_alike_65 ki_1) (pv_Rgo (tgt := 70) dX7_alike_66 rfl (by decide))
set_option maxHeartbeats 200000 in
theorem bX7_alike_69 {S : pv_S} {x1 x2 x3 x4 x5 x6 x7 u0 : Int32} : pv_R mX7_alike 69 [some (.ref 37), some (.int x1), some (.int x2), some (.int x3), some (.int x4), some (.int x5), some (.int x6), some (.int x7)] [.int u0] (pv_em S) = pv_R mX7_alike 70 [some (.ref 37), some (.int x1), some (.int x2), some (.int x3), some (.int x4), some (.int x5), some (.int x6), some (.int x7)] [.int 0, .int u0] (pv_em S) := pv_Ric dX7_alike_69 ki_0
set_option maxHeartbeats 200000 in
theorem bX7_alike_70 {S : pv_S} {x1 x2 x3 x4 x5 x6 x7 u0 u1 : Int32} : pv_R mX7_alike 70 [some (.ref 37), some (.int x1), some (.int x2), some (.int x3), some (.int x4), some (.int x5), some (.int x6), some (.int x7)] [.int u0, .int u1] (pv_em S) = pv_R mX7_alike 19 [some (.ref 37), some (.int x1), some (.int x2), some (.int x3), some (.int x4), some (.int x5), some (.int (u1 + u0)), some (.int (x7 + 1))] [] (pv_em S) := Eq.trans (pv_Rstp dX7_alike_70 rfl rfl rfl) (Eq.trans (pv_Rstp dX7_alike_71 rfl rfl rfl) (Eq.trans (pv_Rinc dX7_alike_73 rfl (Nat.le_of_ble_eq_true rfl) ki_1 rfl) (pv_Rgo (tgt := 19) dX7_alike_76 rfl (by decide))))
set_option maxHeartbeats 200000 in
theorem bX7_alike_79 {S : pv_S} {x1 x2 x3 x4 x5 x6 x7 : Int32} : pv_R mX7_alike 79 [some (.ref 37), some (.int x1), some (.int x2), some (.int x3), some (.int x4), some (.int x5), some (.int x6), some (.int x7)] [] (pv_em S) = if x6 ≤ x4 then pv_R mX7_alike 91 [some (.ref 37), some (.int x1), some (.int x2), some (.int x3), some (.int x4), some (.int x5), some (.int x6), some (.int x7)] [] (pv_em S) else pv_R mX7_alike 86 [some (.ref 37), some (.int x1), some (.int x2), some (.int x3), some (.int x4), some (.int x5), some (.int x6), some (.int x7)] [] (pv_em S) := Eq.trans (pv_Rstp dX7_alike_79 rfl rfl rfl) (Eq.trans (pv_Rstp dX7_alike_81 rfl rfl rfl) (pv_Rbr (tgt := 91) dX7_alike_83 rfl rfl rfl rfl rfl (by decide)))
set_option maxHeartbeats 200000 in
theorem bX7_alike_86 {S : pv_S} {x1 x2 x3 x4 x5 x6 x7 : Int32} : pv_R mX7_alike 86 [some (.ref 37), some (.int x1), some (.int x2), some (.int x3), some (.int x4), some (.int x5), some (.int x6), some (.int x7)] [] (pv_em S) = pv_R mX7_alike 93 [some (.ref 37), some (.int x1), some (.int x2), some (.int x3), some (.int x4), some (.int x5), some (.int x6), some (.int x7)] [.int x6] (pv_em S) := Eq.trans (pv_Rstp dX7_alike_86 rfl rfl rfl) (pv_Rgo (tgt := 93) dX7_alike_88 rfl (by decide))
set_option maxHeartbeats 200000 in
theorem bX7_alike_91 {S : pv_S} {x1 x2 x3 x4 x5 x6 x7 : Int32} : pv_R mX7_alike 91 [some (.ref 37), some (.int x1), some (.int x2), some (.int x3), some (.int x4), some (.int x5), some (.int x6), some (.int x7)] [] (pv_em S) = pv_R mX7_alike 93 [some (.ref 37), some (.int x1), some (.int x2), some (.int x3), some (.int x4), some (.int x5), some (.int x6), some (.int x7)] [.int x4] (pv_em S) := pv_Rstp dX7_alike_91 rfl rfl rfl
set_option maxHeartbeats 200000 in
theorem bX7_alike_93 {S : pv_S} {x1 x2 x3 x4 x5 x6 x7 u0 : Int32} : pv_R mX7_alike 93 [some (.ref 37), some (.int x1), some (.int x2), some (.int x3), some (.int x4), some (.int x5), some (.int x6), some (.int x7)] [.int u0] (pv_em S) = pv_R mX7_alike 6 [some (.ref 37), some (.int x1), some (.int x2), some (.int x3), some (.int u0), some (.int (x5 + 1)), some (.int x6), some (.int x7)] [] (pv_em S) := Eq.trans (pv_Rstp dX7_alike_93 rfl rfl rfl) (Eq.trans (pv_Rinc dX7_alike_95 rfl (Nat.le_of_ble_eq_true rfl) ki_1 rfl) (pv_Rgo (tgt := 6) dX7_alike_98 rfl (by decide)))
set_option maxHeartbeats 200000 in
theorem bX7_alike_101 {S : pv_S} {x1 x2 x3 x4 x5 : Int32} {a6 a7 : Option Value} : pv_R mX7_alike 101 [some (.ref 37), some (.int x1), some (.int x2), some (.int x3), some (.int x4), some (.int x5), a6, a7] [] (pv_em S) = some (some (.int x4), pv_em S) := Eq.trans (pv_Rstp dX7_alike_101 rfl rfl rfl) (pv_Rret dX7_alike_103 rfl)
theorem dX7_beginsStep_0 : decode cX7_beginsStep 0 = .ok (.aload_n 0, 1) := by decide +kernel
theorem dX7_beginsStep_1 : decode cX7_beginsStep 1 = .ok (.getfield 60, 3) := by decide +kernel
theorem dX7_beginsStep_4 : decode cX7_beginsStep 4 = .ok (.iload_n 1, 1) := by decide +kernel
theorem dX7_beginsStep_5 : decode cX7_beginsStep 5 = .ok (.iconst (-1), 1) := by decide +kernel
theorem dX7_beginsStep_6 : decode cX7_beginsStep 6 = .ok (.iastore, 1) := by decide +kernel
theorem dX7_beginsStep_7 : decode cX7_beginsStep 7 = .ok (.aload_n 0, 1) := by decide +kernel
theorem dX7_beginsStep_8 : decode cX7_beginsStep 8 = .ok (.getfield 63, 3) := by decide +kernel
theorem dX7_beginsStep_11 : decode cX7_beginsStep 11 = .ok (.iload_n 1, 1) := by decide +kernel
theorem dX7_beginsStep_12 : decode cX7_beginsStep 12 = .ok (.bipush (-9), 2) := by decide +kernel
theorem dX7_beginsStep_14 : decode cX7_beginsStep 14 = .ok (.iastore, 1) := by decide +kernel
theorem dX7_beginsStep_15 : decode cX7_beginsStep 15 = .ok (.return_, 1) := by decide +kernel
set_option maxHeartbeats 200000 in
theorem bX7_beginsStep_0 {S : pv_S} {x1 : Int32} : pv_R mX7_beginsStep 0 [some (.ref 37), some (.int x1)] [] (pv_em S) = if x1 < 0 ∨ 5 ≤ x1.toNatClampNeg then none else if x1 < 0 ∨ 5 ≤ x1.toNatClampNeg then none else some (none, pv_em (pv_si (pv_si S 53 x1.toNatClampNeg (-1)) 54 x1.toNatClampNeg (-9))) := Eq.trans (pv_Rstp dX7_beginsStep_0 rfl rfl rfl) (Eq.trans (pv_Rget dX7_beginsStep_1 ffX7_60 (by decide) (pv_ce_37 _ _) rfl) (Eq.trans (pv_Rstp dX7_beginsStep_4 rfl rfl rfl) (Eq.trans (pv_Ric dX7_beginsStep_5 ki_m1) (Eq.trans (pv_Rast dX7_beginsStep_6 (by decide) (pv_ce_53 _ _) (pv_em_si rfl)) (pv_iteN (fun h1 => Eq.trans (pv_Rstp dX7_beginsStep_7 rfl rfl rfl) (Eq.trans (pv_Rget dX7_beginsStep_8 ffX7_63 (by decide) (pv_ce_37 _ _) rfl) (Eq.trans (pv_Rstp dX7_beginsStep_11 rfl rfl rfl) (Eq.trans (pv_Rbp dX7_beginsStep_12 kb_m9) (Eq.trans (pv_Rast dX7_beginsStep_14 (by decide) (pv_ce_54 _ _) (pv_em_si rfl)) (pv_iteN (fun h2 => pv_Rret dX7_beginsStep_15 rfl))))))))))))
set_option maxHeartbeats 200000 in
theorem bX7_copies_44_52_0 {S : pv_S} {x1 x3 x4 : Int32} {a5 : Option Value} : pv_R mX7_copies 0 [some (.ref 44), some (.int x1), some (.ref 52), some (.int x3), some (.int x4), a5] [] (pv_em S) = pv_R mX7_copies 3 [some (.ref 44), some (.int x1), some (.ref 52), some (.int x3), some (.int x4), some (.int 0)] [] (pv_em S) := Eq.trans (pv_Ric dX7_copies_0 ki_0) (pv_Rstp dX7_copies_1 rfl rfl rfl)
set_option maxHeartbeats 200000 in
theorem bX7_copies_44_52_3 {S : pv_S} {x1 x3 x4 x5 : Int32} : pv_R mX7_copies 3 [some (.ref 44), some (.int x1), some (.ref 52), some (.int x3), some (.int x4), some (.int x5)] [] (pv_em S) = if x4 ≤ x5 then pv_R mX7_copies 28 [some (.ref 44), some (.int x1), some (.ref 52), some (.int x3), some (.int x4), some (.int x5)] [] (pv_em S) else pv_R mX7_copies 10 [some (.ref 44), some (.int x1), some (.ref 52), some (.int x3), some (.int x4), some (.int x5)] [] (pv_em S) := Eq.trans (pv_Rstp dX7_copies_3 rfl rfl rfl) (Eq.trans (pv_Rstp dX7_copies_5 rfl rfl rfl) (pv_Rbr (tgt := 28) dX7_copies_7 rfl rfl rfl rfl rfl (by decide)))
set_option maxHeartbeats 200000 in
theorem bX7_copies_44_52_10 {S : pv_S} {x1 x3 x4 x5 : Int32} : pv_R mX7_copies 10 [some (.ref 44), some (.int x1), some (.ref 52), some (.int x3), some (.int x4), some (.int x5)] [] (pv_em S) = if (x1 + x5) < 0 ∨ 10 ≤ (x1 + x5).toNatClampNeg then none else if (x3 + x5) < 0 ∨ 30 ≤ (x3 + x5).toNatClampNeg then none else pv_R mX7_copies 3 [some (.ref 44), some (.int x1), some (.ref 52), some (.int x3), some (.int x4), some (.int (x5 + 1))] [] (pv_em (pv_si S 52 (x3 + x5).toNatClampNeg (S.1 44 (x1 + x5).toNatClampNeg))) := Eq.trans (pv_Rstp dX7_copies_10 rfl rfl rfl) (Eq.trans (pv_Rstp dX7_copies_11 rfl rfl rfl) (Eq.trans (pv_Rstp dX7_copies_12 rfl rfl rfl) (Eq.trans (pv_Rstp dX7_copies_14 rfl rfl rfl) (Eq.trans (pv_Rstp dX7_copies_15 rfl rfl rfl) (Eq.trans (pv_Rstp dX7_copies_16 rfl rfl rfl) (Eq.trans (pv_Rstp dX7_copies_17 rfl rfl rfl) (Eq.trans (pv_Rstp dX7_copies_19 rfl rfl rfl) (Eq.trans (pv_Rald dX7_copies_20 (by decide) (pv_ce_44 _ _)) (pv_iteN (fun h1 => Eq.trans (pv_Rast dX7_copies_21 (by decide) (pv_ce_52 _ _) (pv_em_si rfl)) (pv_iteN (fun h2 => Eq.trans (pv_Rinc dX7_copies_22 rfl (Nat.le_of_ble_eq_true rfl) ki_1 rfl) (pv_Rgo (tgt := 3) dX7_copies_25 rfl (by decide))))))))))))))
set_option maxHeartbeats 200000 in
theorem bX7_copies_44_52_28 {S : pv_S} {x1 x3 x4 x5 : Int32} : pv_R mX7_copies 28 [some (.ref 44), some (.int x1), some (.ref 52), some (.int x3), some (.int x4), some (.int x5)] [] (pv_em S) = some (none, pv_em S) := pv_Rret dX7_copies_28 rfl
theorem dX7_goesOn_0 : decode cX7_goesOn 0 = .ok (.aload_n 0, 1) := by decide +kernel
theorem dX7_goesOn_1 : decode cX7_goesOn 1 = .ok (.getfield 60, 3) := by decide +kernel
theorem dX7_goesOn_4 : decode cX7_goesOn 4 = .ok (.iload_n 1, 1) := by decide +kernel
theorem dX7_goesOn_5 : decode cX7_goesOn 5 = .ok (.iaload, 1) := by decide +kernel
theorem dX7_goesOn_6 : decode cX7_goesOn 6 = .ok (.istore_n 2, 1) := by decide +kernel
theorem dX7_goesOn_7 : decode cX7_goesOn 7 = .ok (.aload_n 0, 1) := by decide +kernel
theorem dX7_goesOn_8 : decode cX7_goesOn 8 = .ok (.getfield 57, 3) := by decide +kernel
theorem dX7_goesOn_11 : decode cX7_goesOn 11 = .ok (.bipush 6, 2) := by decide +kernel
theorem dX7_goesOn_13 : decode cX7_goesOn 13 = .ok (.iload_n 1, 1) := by decide +kernel
theorem dX7_goesOn_14 : decode cX7_goesOn 14 = .ok (.imul, 1) := by decide +kernel
theorem dX7_goesOn_15 : decode cX7_goesOn 15 = .ok (.aload_n 0, 1) := by decide +kernel
theorem dX7_goesOn_16 : decode cX7_goesOn 16 = .ok (.getfield 57, 3) := by decide +kernel
theorem dX7_goesOn_19 : decode cX7_goesOn 19 = .ok (.bipush 6, 2) := by decide +kernel
theorem dX7_goesOn_21 : decode cX7_goesOn 21 = .ok (.iload_n 1, 1) := by decide +kernel
theorem dX7_goesOn_22 : decode cX7_goesOn 22 = .ok (.imul, 1) := by decide +kernel
theorem dX7_goesOn_23 : decode cX7_goesOn 23 = .ok (.bipush 6, 2) := by decide +kernel
theorem dX7_goesOn_25 : decode cX7_goesOn 25 = .ok (.iadd, 1) := by decide +kernel
theorem dX7_goesOn_26 : decode cX7_goesOn 26 = .ok (.bipush 6, 2) := by decide +kernel
theorem dX7_goesOn_28 : decode cX7_goesOn 28 = .ok (.invokestatic 179, 3) := by decide +kernel
theorem dX7_goesOn_31 : decode cX7_goesOn 31 = .ok (.iload_n 2, 1) := by decide +kernel
theorem dX7_goesOn_32 : decode cX7_goesOn 32 = .ok (.aload_n 0, 1) := by decide +kernel
theorem dX7_goesOn_33 : decode cX7_goesOn 33 = .ok (.getfield 138, 3) := by decide +kernel
theorem dX7_goesOn_36 : decode cX7_goesOn 36 = .ok (.if_icmp .ge 63, 3) := by decide +kernel
theorem dX7_goesOn_39 : decode cX7_goesOn 39 = .ok (.iload_n 1, 1) := by decide +kernel
theorem dX7_goesOn_40 : decode cX7_goesOn 40 = .ok (.iconst 2, 1) := by decide +kernel
theorem dX7_goesOn_41 : decode cX7_goesOn 41 = .ok (.irem, 1) := by decide +kernel
theorem dX7_goesOn_42 : decode cX7_goesOn 42 = .ok (.ifCond .ne 21, 3) := by decide +kernel
theorem dX7_goesOn_45 : decode cX7_goesOn 45 = .ok (.aload_n 0, 1) := by decide +kernel
theorem dX7_goesOn_46 : decode cX7_goesOn 46 = .ok (.getfield 22, 3) := by decide +kernel
theorem dX7_goesOn_49 : decode cX7_goesOn 49 = .ok (.iload_n 2, 1) := by decide +kernel
theorem dX7_goesOn_50 : decode cX7_goesOn 50 = .ok (.iaload, 1) := by decide +kernel
theorem dX7_goesOn_51 : decode cX7_goesOn 51 = .ok (.aload_n 0, 1) := by decide +kernel
theorem dX7_goesOn_52 : decode cX7_goesOn 52 = .ok (.getfield 25, 3) := by decide +kernel
theorem dX7_goesOn_55 : decode cX7_goesOn 55 = .ok (.iload_n 2, 1) := by decide +kernel
theorem dX7_goesOn_56 : decode cX7_goesOn 56 = .ok (.iaload, 1) := by decide +kernel
theorem dX7_goesOn_57 : decode cX7_goesOn 57 = .ok (.invokestatic 162, 3) := by decide +kernel
theorem dX7_goesOn_60 : decode cX7_goesOn 60 = .ok (.goto 5, 3) := by decide +kernel
theorem dX7_goesOn_63 : decode cX7_goesOn 63 = .ok (.bipush (-5), 2) := by decide +kernel
theorem dX7_goesOn_65 : decode cX7_goesOn 65 = .ok (.istore_n 3, 1) := by decide +kernel
theorem dX7_goesOn_66 : decode cX7_goesOn 66 = .ok (.aload_n 0, 1) := by decide +kernel
theorem dX7_goesOn_67 : decode cX7_goesOn 67 = .ok (.getfield 57, 3) := by decide +kernel
theorem dX7_goesOn_70 : decode cX7_goesOn 70 = .ok (.bipush 6, 2) := by decide +kernel
theorem dX7_goesOn_72 : decode cX7_goesOn 72 = .ok (.iload_n 1, 1) := by decide +kernel
theorem dX7_goesOn_73 : decode cX7_goesOn 73 = .ok (.imul, 1) := by decide +kernel
theorem dX7_goesOn_74 : decode cX7_goesOn 74 = .ok (.bipush 6, 2) := by decide +kernel
theorem dX7_goesOn_76 : decode cX7_goesOn 76 = .ok (.iadd, 1) := by decide +kernel
theorem dX7_goesOn_77 : decode cX7_goesOn 77 = .ok (.iload_n 2, 1) := by decide +kernel
theorem dX7_goesOn_78 : decode cX7_goesOn 78 = .ok (.iadd, 1) := by decide +kernel
theorem dX7_goesOn_79 : decode cX7_goesOn 79 = .ok (.aload_n 0, 1) := by decide +kernel
theorem dX7_goesOn_80 : decode cX7_goesOn 80 = .ok (.getfield 57, 3) := by decide +kernel
theorem dX7_goesOn_83 : decode cX7_goesOn 83 = .ok (.bipush 6, 2) := by decide +kernel
theorem dX7_goesOn_85 : decode cX7_goesOn 85 = .ok (.iload_n 1, 1) := by decide +kernel
theorem dX7_goesOn_86 : decode cX7_goesOn 86 = .ok (.imul, 1) := by decide +kernel
theorem dX7_goesOn_87 : decode cX7_goesOn 87 = .ok (.bipush 6, 2) := by decide +kernel
theorem dX7_goesOn_89 : decode cX7_goesOn 89 = .ok (.iadd, 1) := by decide +kernel
theorem dX7_goesOn_90 : decode cX7_goesOn 90 = .ok (.iload_n 2, 1) := by decide +kernel
theorem dX7_goesOn_91 : decode cX7_goesOn 91 = .ok (.iadd, 1) := by decide +kernel
theorem dX7_goesOn_92 : decode cX7_goesOn 92 = .ok (.iaload, 1) := by decide +kernel
theorem dX7_goesOn_93 : decode cX7_goesOn 93 = .ok (.iload_n 3, 1) := by decide +kernel
theorem dX7_goesOn_94 : decode cX7_goesOn 94 = .ok (.iadd, 1) := by decide +kernel
theorem dX7_goesOn_95 : decode cX7_goesOn 95 = .ok (.invokestatic 151, 3) := by decide +kernel
theorem dX7_goesOn_98 : decode cX7_goesOn 98 = .ok (.iastore, 1) := by decide +kernel
theorem dX7_goesOn_99 : decode cX7_goesOn 99 = .ok (.return_, 1) := by decide +kernel
set_option maxHeartbeats 200000 in
theorem bX7_goesOn_0 {S : pv_S} {x1 : Int32} {a2 a3 : Option Value} : pv_R mX7_goesOn 0 [some (.ref 37), some (.int x1), a2, a3] [] (pv_em S) = if x1 < 0 ∨ 5 ≤ x1.toNatClampNeg then none else pv_cc (pv_R mX7_copies 0 [some (.ref 52), some (.int (6 * x1)), some (.ref 52), some (.int ((6 * x1) + 6)), some (.int 6), none] [] (pv_em S)) mX7_goesOn 31 [some (.ref 37), some (.int x1), some (.int (S.1 53 x1.toNatClampNeg)), a3] [] := Eq.trans (pv_Rstp dX7_goesOn_0 rfl rfl rfl) (Eq.trans (pv_Rget dX7_goesOn_1 ffX7_60 (by decide) (pv_ce_37 _ _) rfl) (Eq.trans (pv_Rstp dX7_goesOn_4 rfl rfl rfl) (Eq.trans (pv_Rald dX7_goesOn_5 (by decide) (pv_ce_53 _ _)) (pv_iteN (fun h1 => Eq.trans (pv_Rstp dX7_goesOn_6 rfl rfl rfl) (Eq.trans (pv_Rstp dX7_goesOn_7 rfl rfl rfl) (Eq.trans (pv_Rget dX7_goesOn_8 ffX7_57 (by decide) (pv_ce_37 _ _) rfl) (Eq.trans (pv_Rbp dX7_goesOn_11 kb_6) (Eq.trans (pv_Rstp dX7_goesOn_13 rfl rfl rfl) (Eq.trans (pv_Rstp dX7_goesOn_14 rfl rfl rfl) (Eq.trans (pv_Rstp dX7_goesOn_15 rfl rfl rfl) (Eq.trans (pv_Rget dX7_goesOn_16 ffX7_57 (by decide) (pv_ce_37 _ _) rfl) (Eq.trans (pv_Rbp dX7_goesOn_19 kb_6) (Eq.trans (pv_Rstp dX7_goesOn_21 rfl rfl rfl) (Eq.trans (pv_Rstp dX7_goesOn_22 rfl rfl rfl) (Eq.trans (pv_Rbp dX7_goesOn_23 kb_6) (Eq.trans (pv_Rstp dX7_goesOn_25 rfl rfl rfl) (Eq.trans (pv_Rbp dX7_goesOn_26 kb_6) (pv_Rcall (As := [.ref 52, .int (6 * x1), .ref 52, .int ((6 * x1) + 6), .int 6]) (rest := []) dX7_goesOn_28 rfl mfX7_179 rfl rfl rfl rfl rfl)))))))))))))))))))
set_option maxHeartbeats 200000 in
theorem bX7_goesOn_31 {S : pv_S} {x1 x2 : Int32} {a3 : Option Value} : pv_R mX7_goesOn 31 [some (.ref 37), some (.int x1), some (.int x2), a3] [] (pv_em S) = if (S.1 37 4) ≤ x2 then pv_R mX7_goesOn 99 [some (.ref 37), some (.int x1), some (.int x2), a3] [] (pv_em S) else pv_R mX7_goesOn 39 [some (.ref 37), some (.int x1), some (.int x2), a3] [] (pv_em S) := Eq.trans (pv_Rstp dX7_goesOn_31 rfl rfl rfl) (Eq.trans (pv_Rstp dX7_goesOn_32 rfl rfl rfl) (Eq.trans (pv_Rget dX7_goesOn_33 ffX7_138 (by decide) (pv_ce_37 _ _) rfl) (pv_Rbr (tgt := 99) dX7_goesOn_36 rfl rfl rfl rfl rfl (by decide))))
set_option maxHeartbeats 200000 in
theorem bX7_goesOn_39 {S : pv_S} {x1 x2 : Int32} {a3 : Option Value} : pv_R mX7_goesOn 39 [some (.ref 37), some (.int x1), some (.int x2), a3] [] (pv_em S) = if ¬ (x1 - x1 / 2 * 2) = 0 then pv_R mX7_goesOn 63 [some (.ref 37), some (.int x1), some (.int x2), a3] [] (pv_em S) else pv_R mX7_goesOn 45 [some (.ref 37), some (.int x1), some (.int x2), a3] [] (pv_em S) := Eq.trans (pv_Rstp dX7_goesOn_39 rfl rfl rfl) (Eq.trans (pv_Ric dX7_goesOn_40 ki_2) (Eq.trans (pv_Rrem dX7_goesOn_41) (Eq.trans (if_neg (by decide)) (pv_Rbr (tgt := 63) dX7_goesOn_42 rfl rfl rfl rfl rfl (by decide)))))
set_option maxHeartbeats 200000 in
theorem bX7_goesOn_45 {S : pv_S} {x1 x2 : Int32} {a3 : Option Value} : pv_R mX7_goesOn 45 [some (.ref 37), some (.int x1), some (.int x2), a3] [] (pv_em S) = if x2 < 0 ∨ 6 ≤ x2.toNatClampNeg then none else if x2 < 0 ∨ 6 ≤ x2.toNatClampNeg then none else pv_cc (pv_R mX7_meal 0 [some (.int (S.1 42 x2.toNatClampNeg)), some (.int (S.1 43 x2.toNatClampNeg))] [] (pv_em S)) mX7_goesOn 60 [some (.ref 37), some (.int x1), some (.int x2), a3] [] := Eq.trans (pv_Rstp dX7_goesOn_45 rfl rfl rfl) (Eq.trans (pv_Rget dX7_goesOn_46 ffX7_22 (by decide) (pv_ce_37 _ _) rfl) (Eq.trans (pv_Rstp dX7_goesOn_49 rfl rfl rfl) (Eq.trans (pv_Rald dX7_goesOn_50 (by decide) (pv_ce_42 _ _)) (pv_iteN (fun h1 => Eq.trans (pv_Rstp dX7_goesOn_51 rfl rfl rfl) (Eq.trans (pv_Rget dX7_goesOn_52 ffX7_25 (by decide) (pv_ce_37 _ _) rfl) (Eq.trans (pv_Rstp dX7_goesOn_55 rfl rfl rfl) (Eq.trans (pv_Rald dX7_goesOn_56 (by decide) (pv_ce_43 _ _)) (pv_iteN (fun h2 => pv_Rcall (As := [.int (S.1 42 x2.toNatClampNeg), .int (S.1 43 x2.toNatClampNeg)]) (rest := []) dX7_goesOn_57 rfl mfX7_162 rfl rfl rfl rfl rfl))))))))))
set_option maxHeartbeats 200000 in
theorem bX7_goesOn_60 {S : pv_S} {x1 x2 u0 : Int32} {a3 : Option Value} : pv_R mX7_goesOn 60 [some (.ref 37), some (.int x1), some (.int x2), a3] [.int u0] (pv_em S) = pv_R mX7_goesOn 65 [some (.ref 37), some (.int x1), some (.int x2), a3] [.int u0] (pv_em S) := pv_Rgo (tgt := 65) dX7_goesOn_60 rfl (by decide)
set_option maxHeartbeats 200000 in
theorem bX7_goesOn_63 {S : pv_S} {x1 x2 : Int32} {a3 : Option Value} : pv_R mX7_goesOn 63 [some (.ref 37), some (.int x1), some (.int x2), a3] [] (pv_em S) = pv_R mX7_goesOn 65 [some (.ref 37), some (.int x1), some (.int x2), a3] [.int (-5)] (pv_em S) := pv_Rbp dX7_goesOn_63 kb_m5
set_option maxHeartbeats 200000 in
theorem bX7_goesOn_65 {S : pv_S} {x1 x2 u0 : Int32} {a3 : Option Value} : pv_R mX7_goesOn 65 [some (.ref 37), some (.int x1), some (.int x2), a3] [.int u0] (pv_em S) = if (((6 * x1) + 6) + x2) < 0 ∨ 30 ≤ ((((6 * x1) + 6) + x2)).toNatClampNeg then none else pv_cc (pv_R mX7_bound 0 [some (.int ((S.1 52 ((((6 * x1) + 6) + x2)).toNatClampNeg) + u0))] [] (pv_em S)) mX7_goesOn 98 [some (.ref 37), some (.int x1), some (.int x2), some (.int u0)] [.int (((6 * x1) + 6) + x2), .ref 52] := Eq.trans (pv_Rstp dX7_goesOn_65 rfl rfl rfl) (Eq.trans (pv_Rstp dX7_goesOn_66 rfl rfl rfl) (Eq.trans (pv_Rget dX7_goesOn_67 ffX7_57 (by decide) (pv_ce_37 _ _) rfl) (Eq.trans (pv_Rbp dX7_goesOn_70 kb_6) (Eq.trans (pv_Rstp dX7_goesOn_72 rfl rfl rfl) (Eq.trans (pv_Rstp dX7_goesOn_73 rfl rfl rfl) (Eq.trans (pv_Rbp dX7_goesOn_74 kb_6) (Eq.trans (pv_Rstp dX7_goesOn_76 rfl rfl rfl) (Eq.trans (pv_Rstp dX7_goesOn_77 rfl rfl rfl) (Eq.trans (pv_Rstp dX7_goesOn_78 rfl rfl rfl) (Eq.trans (pv_Rstp dX7_goesOn_79 rfl rfl rfl) (Eq.trans (pv_Rget dX7_goesOn_80 ffX7_57 (by decide) (pv_ce_37 _ _) rfl) (Eq.trans (pv_Rbp dX7_goesOn_83 kb_6) (Eq.trans (pv_Rstp dX7_goesOn_85 rfl rfl rfl) (Eq.trans (pv_Rstp dX7_goesOn_86 rfl rfl rfl) (Eq.trans (pv_Rbp dX7_goesOn_87 kb_6) (Eq.trans (pv_Rstp dX7_goesOn_89 rfl rfl rfl) (Eq.trans (pv_Rstp dX7_goesOn_90 rfl rfl rfl) (Eq.trans (pv_Rstp dX7_goesOn_91 rfl rfl rfl) (Eq.trans (pv_Rald dX7_goesOn_92 (by decide) (pv_ce_52 _ _)) (pv_iteN (fun h1 => Eq.trans (pv_Rstp dX7_goesOn_93 rfl rfl rfl) (Eq.trans (pv_Rstp dX7_goesOn_94 rfl rfl rfl) (pv_Rcall (As := [.int ((S.1 52 ((((6 * x1) + 6) + x2)).toNatClampNeg) + u0)]) (rest := [.int (((6 * x1) + 6) + x2), .ref 52]) dX7_goesOn_95 rfl mfX7_151 rfl rfl rfl rfl rfl)))))))))))))))))))))))
set_option maxHeartbeats 200000 in
theorem bX7_goesOn_98 {S : pv_S} {x1 x2 x3 u0 u1 : Int32} : pv_R mX7_goesOn 98 [some (.ref 37), some (.int x1), some (.int x2), some (.int x3)] [.int u0, .int u1, .ref 52] (pv_em S) = if u1 < 0 ∨ 30 ≤ u1.toNatClampNeg then none else pv_R mX7_goesOn 99 [some (.ref 37), some (.int x1), some (.int x2), some (.int x3)] [] (pv_em (pv_si S 52 u1.toNatClampNeg u0)) := Eq.trans (pv_Rast dX7_goesOn_98 (by decide) (pv_ce_52 _ _) (pv_em_si rfl)) (pv_iteN (fun h1 => rfl))
set_option maxHeartbeats 200000 in
theorem bX7_goesOn_99 {S : pv_S} {x1 x2 : Int32} {a3 : Option Value} : pv_R mX7_goesOn 99 [some (.ref 37), some (.int x1), some (.int x2), a3] [] (pv_em S) = some (none, pv_em S) := pv_Rret dX7_goesOn_99 rfl
theorem dX7_weighsIt_0 : decode cX7_weighsIt 0 = .ok (.aload_n 0, 1) := by decide +kernel
theorem dX7_weighsIt_1 : decode cX7_weighsIt 1 = .ok (.getfield 63, 3) := by decide +kernel
theorem dX7_weighsIt_4 : decode cX7_weighsIt 4 = .ok (.iload_n 1, 1) := by decide +kernel
theorem dX7_weighsIt_5 : decode cX7_weighsIt 5 = .ok (.iaload, 1) := by decide +kernel
theorem dX7_weighsIt_6 : decode cX7_weighsIt 6 = .ok (.bipush (-9), 2) := by decide +kernel
theorem dX7_weighsIt_8 : decode cX7_weighsIt 8 = .ok (.if_icmp .eq 32, 3) := by decide +kernel
theorem dX7_weighsIt_11 : decode cX7_weighsIt 11 = .ok (.iload_n 1, 1) := by decide +kernel
theorem dX7_weighsIt_12 : decode cX7_weighsIt 12 = .ok (.iconst 2, 1) := by decide +kernel
theorem dX7_weighsIt_13 : decode cX7_weighsIt 13 = .ok (.irem, 1) := by decide +kernel
theorem dX7_weighsIt_14 : decode cX7_weighsIt 14 = .ok (.ifCond .ne 16, 3) := by decide +kernel
theorem dX7_weighsIt_17 : decode cX7_weighsIt 17 = .ok (.iload_n 2, 1) := by decide +kernel
theorem dX7_weighsIt_18 : decode cX7_weighsIt 18 = .ok (.aload_n 0, 1) := by decide +kernel
theorem dX7_weighsIt_19 : decode cX7_weighsIt 19 = .ok (.getfield 63, 3) := by decide +kernel
theorem dX7_weighsIt_22 : decode cX7_weighsIt 22 = .ok (.iload_n 1, 1) := by decide +kernel
theorem dX7_weighsIt_23 : decode cX7_weighsIt 23 = .ok (.iaload, 1) := by decide +kernel
theorem dX7_weighsIt_24 : decode cX7_weighsIt 24 = .ok (.if_icmp .le 20, 3) := by decide +kernel
theorem dX7_weighsIt_27 : decode cX7_weighsIt 27 = .ok (.goto 13, 3) := by decide +kernel
theorem dX7_weighsIt_30 : decode cX7_weighsIt 30 = .ok (.iload_n 2, 1) := by decide +kernel
theorem dX7_weighsIt_31 : decode cX7_weighsIt 31 = .ok (.aload_n 0, 1) := by decide +kernel
theorem dX7_weighsIt_32 : decode cX7_weighsIt 32 = .ok (.getfield 63, 3) := by decide +kernel
theorem dX7_weighsIt_35 : decode cX7_weighsIt 35 = .ok (.iload_n 1, 1) := by decide +kernel
theorem dX7_weighsIt_36 : decode cX7_weighsIt 36 = .ok (.iaload, 1) := by decide +kernel
theorem dX7_weighsIt_37 : decode cX7_weighsIt 37 = .ok (.if_icmp .ge 7, 3) := by decide +kernel
theorem dX7_weighsIt_40 : decode cX7_weighsIt 40 = .ok (.iconst 1, 1) := by decide +kernel
theorem dX7_weighsIt_41 : decode cX7_weighsIt 41 = .ok (.goto 4, 3) := by decide +kernel
theorem dX7_weighsIt_44 : decode cX7_weighsIt 44 = .ok (.iconst 0, 1) := by decide +kernel
theorem dX7_weighsIt_45 : decode cX7_weighsIt 45 = .ok (.istore_n 3, 1) := by decide +kernel
theorem dX7_weighsIt_46 : decode cX7_weighsIt 46 = .ok (.aload_n 0, 1) := by decide +kernel
theorem dX7_weighsIt_47 : decode cX7_weighsIt 47 = .ok (.getfield 63, 3) := by decide +kernel
theorem dX7_weighsIt_50 : decode cX7_weighsIt 50 = .ok (.iload_n 1, 1) := by decide +kernel
theorem dX7_weighsIt_51 : decode cX7_weighsIt 51 = .ok (.iload_n 3, 1) := by decide +kernel
theorem dX7_weighsIt_52 : decode cX7_weighsIt 52 = .ok (.ifCond .eq 7, 3) := by decide +kernel
theorem dX7_weighsIt_55 : decode cX7_weighsIt 55 = .ok (.iload_n 2, 1) := by decide +kernel
theorem dX7_weighsIt_56 : decode cX7_weighsIt 56 = .ok (.goto 9, 3) := by decide +kernel
theorem dX7_weighsIt_59 : decode cX7_weighsIt 59 = .ok (.aload_n 0, 1) := by decide +kernel
theorem dX7_weighsIt_60 : decode cX7_weighsIt 60 = .ok (.getfield 63, 3) := by decide +kernel
theorem dX7_weighsIt_63 : decode cX7_weighsIt 63 = .ok (.iload_n 1, 1) := by decide +kernel
theorem dX7_weighsIt_64 : decode cX7_weighsIt 64 = .ok (.iaload, 1) := by decide +kernel
theorem dX7_weighsIt_65 : decode cX7_weighsIt 65 = .ok (.iastore, 1) := by decide +kernel
theorem dX7_weighsIt_66 : decode cX7_weighsIt 66 = .ok (.return_, 1) := by decide +kernel
set_option maxHeartbeats 200000 in
theorem bX7_weighsIt_0 {S : pv_S} {x1 x2 : Int32} {a3 : Option Value} : pv_R mX7_weighsIt 0 [some (.ref 37), some (.int x1), some (.int x2), a3] [] (pv_em S) = if x1 < 0 ∨ 5 ≤ x1.toNatClampNeg then none else if (S.1 54 x1.toNatClampNeg) = (-9) then pv_R mX7_weighsIt 40 [some (.ref 37), some (.int x1), some (.int x2), a3] [] (pv_em S) else pv_R mX7_weighsIt 11 [some (.ref 37), some (.int x1), some (.int x2), a3] [] (pv_em S) := Eq.trans (pv_Rstp dX7_weighsIt_0 rfl rfl rfl) (Eq.trans (pv_Rget dX7_weighsIt_1 ffX7_63 (by decide) (pv_ce_37 _ _) rfl) (Eq.trans (pv_Rstp dX7_weighsIt_4 rfl rfl rfl) (Eq.trans (pv_Rald dX7_weighsIt_5 (by decide) (pv_ce_54 _ _)) (pv_iteN (fun h1 => Eq.trans (pv_Rbp dX7_weighsIt_6 kb_m9) (pv_Rbr (tgt := 40) dX7_weighsIt_8 rfl rfl rfl rfl rfl (by decide)))))))
set_option maxHeartbeats 200000 in
theorem bX7_weighsIt_11 {S : pv_S} {x1 x2 : Int32} {a3 : Option Value} : pv_R mX7_weighsIt 11 [some (.ref 37), some (.int x1), some (.int x2), a3] [] (pv_em S) = if ¬ (x1 - x1 / 2 * 2) = 0 then pv_R mX7_weighsIt 30 [some (.ref 37), some (.int x1), some (.int x2), a3] [] (pv_em S) else pv_R mX7_weighsIt 17 [some (.ref 37), some (.int x1), some (.int x2), a3] [] (pv_em S) := Eq.trans (pv_Rstp dX7_weighsIt_11 rfl rfl rfl) (Eq.trans (pv_Ric dX7_weighsIt_12 ki_2) (Eq.trans (pv_Rrem dX7_weighsIt_13) (Eq.trans (if_neg (by decide)) (pv_Rbr (tgt := 30) dX7_weighsIt_14 rfl rfl rfl rfl rfl (by decide)))))
set_option maxHeartbeats 200000 in
theorem bX7_weighsIt_17 {S : pv_S} {x1 x2 : Int32} {a3 : Option Value} : pv_R mX7_weighsIt 17 [some (.ref 37), some (.int x1), some (.int x2), a3] [] (pv_em S) = if x1 < 0 ∨ 5 ≤ x1.toNatClampNeg then none else if x2 ≤ (S.1 54 x1.toNatClampNeg) then pv_R mX7_weighsIt 44 [some (.ref 37), some (.int x1), some (.int x2), a3] [] (pv_em S) else pv_R mX7_weighsIt 27 [some (.ref 37), some (.int x1), some (.int x2), a3] [] (pv_em S) := Eq.trans (pv_Rstp dX7_weighsIt_17 rfl rfl rfl) (Eq.trans (pv_Rstp dX7_weighsIt_18 rfl rfl rfl) (Eq.trans (pv_Rget dX7_weighsIt_19 ffX7_63 (by decide) (pv_ce_37 _ _) rfl) (Eq.trans (pv_Rstp dX7_weighsIt_22 rfl rfl rfl) (Eq.trans (pv_Rald dX7_weighsIt_23 (by decide) (pv_ce_54 _ _)) (pv_iteN (fun h1 => pv_Rbr (tgt := 44) dX7_weighsIt_24 rfl rfl rfl rfl rfl (by decide)))))))
set_option maxHeartbeats 200000 in
theorem bX7_weighsIt_27 {S : pv_S} {x1 x2 : Int32} {a3 : Option Value} : pv_R mX7_weighsIt 27 [some (.ref 37), some (.int x1), some (.int x2), a3] [] (pv_em S) = pv_R mX7_weighsIt 40 [some (.ref 37), some (.int x1), some (.int x2), a3] [] (pv_em S) := pv_Rgo (tgt := 40) dX7_weighsIt_27 rfl (by decide)
set_option maxHeartbeats 200000 in
theorem bX7_weighsIt_30 {S : pv_S} {x1 x2 : Int32} {a3 : Option Value} : pv_R mX7_weighsIt 30 [some (.ref 37), some (.int x1), some (.int x2), a3] [] (pv_em S) = if x1 < 0 ∨ 5 ≤ x1.toNatClampNeg then none else if (S.1 54 x1.toNatClampNeg) ≤ x2 then pv_R mX7_weighsIt 44 [some (.ref 37), some (.int x1), some (.int x2), a3] [] (pv_em S) else pv_R mX7_weighsIt 40 [some (.ref 37), some (.int x1), some (.int x2), a3] [] (pv_em S) := Eq.trans (pv_Rstp dX7_weighsIt_30 rfl rfl rfl) (Eq.trans (pv_Rstp dX7_weighsIt_31 rfl rfl rfl) (Eq.trans (pv_Rget dX7_weighsIt_32 ffX7_63 (by decide) (pv_ce_37 _ _) rfl) (Eq.trans (pv_Rstp dX7_weighsIt_35 rfl rfl rfl) (Eq.trans (pv_Rald dX7_weighsIt_36 (by decide) (pv_ce_54 _ _)) (pv_iteN (fun h1 => pv_Rbr (tgt := 44) dX7_weighsIt_37 rfl rfl rfl rfl rfl (by decide)))))))
set_option maxHeartbeats 200000 in
theorem bX7_weighsIt_40 {S : pv_S} {x1 x2 : Int32} {a3 : Option Value} : pv_R mX7_weighsIt 40 [some (.ref 37), some (.int x1), some (.int x2), a3] [] (pv_em S) = pv_R mX7_weighsIt 45 [some (.ref 37), some (.int x1), some (.int x2), a3] [.int 1] (pv_em S) := Eq.trans (pv_Ric dX7_weighsIt_40 ki_1) (pv_Rgo (tgt := 45) dX7_weighsIt_41 rfl (by decide))
set_option maxHeartbeats 200000 in
theorem bX7_weighsIt_44 {S : pv_S} {x1 x2 : Int32} {a3 : Option Value} : pv_R mX7_weighsIt 44 [some (.ref 37), some (.int x1), some (.int x2), a3] [] (pv_em S) = pv_R mX7_weighsIt 45 [some (.ref 37), some (.int x1), some (.int x2), a3] [.int 0] (pv_em S) := pv_Ric dX7_weighsIt_44 ki_0
set_option maxHeartbeats 200000 in
theorem bX7_weighsIt_45 {S : pv_S} {x1 x2 u0 : Int32} {a3 : Option Value} : pv_R mX7_weighsIt 45 [some (.ref 37), some (.int x1), some (.int x2), a3] [.int u0] (pv_em S) = if u0 = 0 then pv_R mX7_weighsIt 59 [some (.ref 37), some (.int x1), some (.int x2), some (.int u0)] [.int x1, .ref 54] (pv_em S) else pv_R mX7_weighsIt 55 [some (.ref 37), some (.int x1), some (.int x2), some (.int u0)] [.int x1, .ref 54] (pv_em S) := Eq.trans (pv_Rstp dX7_weighsIt_45 rfl rfl rfl) (Eq.trans (pv_Rstp dX7_weighsIt_46 rfl rfl rfl) (Eq.trans (pv_Rget dX7_weighsIt_47 ffX7_63 (by decide) (pv_ce_37 _ _) rfl) (Eq.trans (pv_Rstp dX7_weighsIt_50 rfl rfl rfl) (Eq.trans (pv_Rstp dX7_weighsIt_51 rfl rfl rfl) (pv_Rbr (tgt := 59) dX7_weighsIt_52 rfl rfl rfl rfl rfl (by decide))))))
set_option maxHeartbeats 200000 in
theorem bX7_weighsIt_55 {S : pv_S} {x1 x2 x3 u0 : Int32} : pv_R mX7_weighsIt 55 [some (.ref 37), some (.int x1), some (.int x2), some (.int x3)] [.int u0, .ref 54] (pv_em S) = pv_R mX7_weighsIt 65 [some (.ref 37), some (.int x1), some (.int x2), some (.int x3)] [.int x2, .int u0, .ref 54] (pv_em S) := Eq.trans (pv_Rstp dX7_weighsIt_55 rfl rfl rfl) (pv_Rgo (tgt := 65) dX7_weighsIt_56 rfl (by decide))
set_option maxHeartbeats 200000 in
theorem bX7_weighsIt_59 {S : pv_S} {x1 x2 x3 u0 : Int32} : pv_R mX7_weighsIt 59 [some (.ref 37), some (.int x1), some (.int x2), some (.int x3)] [.int u0, .ref 54] (pv_em S) = if x1 < 0 ∨ 5 ≤ x1.toNatClampNeg then none else pv_R mX7_weighsIt 65 [some (.ref 37), some (.int x1), some (.int x2), some (.int x3)] [.int (S.1 54 x1.toNatClampNeg), .int u0, .ref 54] (pv_em S) := Eq.trans (pv_Rstp dX7_weighsIt_59 rfl rfl rfl) (Eq.trans (pv_Rget dX7_weighsIt_60 ffX7_63 (by decide) (pv_ce_37 _ _) rfl) (Eq.trans (pv_Rstp dX7_weighsIt_63 rfl rfl rfl) (Eq.trans (pv_Rald dX7_weighsIt_64 (by decide) (pv_ce_54 _ _)) (pv_iteN (fun h1 => rfl)))))
set_option maxHeartbeats 200000 in
theorem bX7_weighsIt_65 {S : pv_S} {x1 x2 x3 u0 u1 : Int32} : pv_R mX7_weighsIt 65 [some (.ref 37), some (.int x1), some (.int x2), some (.int x3)] [.int u0, .int u1, .ref 54] (pv_em S) = if u1 < 0 ∨ 5 ≤ u1.toNatClampNeg then none else some (none, pv_em (pv_si S 54 u1.toNatClampNeg u0)) := Eq.trans (pv_Rast dX7_weighsIt_65 (by decide) (pv_ce_54 _ _) (pv_em_si rfl)) (pv_iteN (fun h1 => pv_Rret dX7_weighsIt_66 rfl))
theorem dX7_chances_0 : decode cX7_chances 0 = .ok (.lconst 0, 1) := by decide +kernel
theorem dX7_chances_1 : decode cX7_chances 1 = .ok (.lstore 5, 2) := by decide +kernel
theorem dX7_chances_3 : decode cX7_chances 3 = .ok (.lconst 1, 1) := by decide +kernel
theorem dX7_chances_4 : decode cX7_chances 4 = .ok (.lstore 7, 2) := by decide +kernel
theorem dX7_chances_6 : decode cX7_chances 6 = .ok (.iconst 0, 1) := by decide +kernel
theorem dX7_chances_7 : decode cX7_chances 7 = .ok (.istore 9, 2) := by decide +kernel
theorem dX7_chances_9 : decode cX7_chances 9 = .ok (.iload 9, 2) := by decide +kernel
theorem dX7_chances_11 : decode cX7_chances 11 = .ok (.iload_n 3, 1) := by decide +kernel
theorem dX7_chances_12 : decode cX7_chances 12 = .ok (.if_icmp .ge 17, 3) := by decide +kernel
theorem dX7_chances_15 : decode cX7_chances 15 = .ok (.lload 7, 2) := by decide +kernel
theorem dX7_chances_17 : decode cX7_chances 17 = .ok (.ldc2_w 264, 3) := by decide +kernel
theorem dX7_chances_20 : decode cX7_chances 20 = .ok (.lmul, 1) := by decide +kernel
theorem dX7_chances_21 : decode cX7_chances 21 = .ok (.lstore 7, 2) := by decide +kernel
theorem dX7_chances_23 : decode cX7_chances 23 = .ok (.iinc 9 1, 3) := by decide +kernel
theorem dX7_chances_26 : decode cX7_chances 26 = .ok (.goto (-17), 3) := by decide +kernel
theorem dX7_chances_29 : decode cX7_chances 29 = .ok (.iconst 0, 1) := by decide +kernel
theorem dX7_chances_30 : decode cX7_chances 30 = .ok (.istore 9, 2) := by decide +kernel
theorem dX7_chances_32 : decode cX7_chances 32 = .ok (.iload 9, 2) := by decide +kernel
theorem dX7_chances_34 : decode cX7_chances 34 = .ok (.iconst 1, 1) := by decide +kernel
theorem dX7_chances_35 : decode cX7_chances 35 = .ok (.iload_n 3, 1) := by decide +kernel
theorem dX7_chances_36 : decode cX7_chances 36 = .ok (.ishl, 1) := by decide +kernel
theorem dX7_chances_37 : decode cX7_chances 37 = .ok (.if_icmp .ge 166, 3) := by decide +kernel
theorem dX7_chances_40 : decode cX7_chances 40 = .ok (.lconst 1, 1) := by decide +kernel
theorem dX7_chances_41 : decode cX7_chances 41 = .ok (.lstore 10, 2) := by decide +kernel
theorem dX7_chances_43 : decode cX7_chances 43 = .ok (.aload_n 0, 1) := by decide +kernel
theorem dX7_chances_44 : decode cX7_chances 44 = .ok (.getfield 28, 3) := by decide +kernel
theorem dX7_chances_47 : decode cX7_chances 47 = .ok (.iconst 0, 1) := by decide +kernel
theorem dX7_chances_48 : decode cX7_chances 48 = .ok (.iload_n 1, 1) := by decide +kernel
theorem dX7_chances_49 : decode cX7_chances 49 = .ok (.iadd, 1) := by decide +kernel
theorem dX7_chances_50 : decode cX7_chances 50 = .ok (.iaload, 1) := by decide +kernel
theorem dX7_chances_51 : decode cX7_chances 51 = .ok (.istore 12, 2) := by decide +kernel
theorem dX7_chances_53 : decode cX7_chances 53 = .ok (.iconst 0, 1) := by decide +kernel
theorem dX7_chances_54 : decode cX7_chances 54 = .ok (.istore 13, 2) := by decide +kernel
theorem dX7_chances_56 : decode cX7_chances 56 = .ok (.iload 13, 2) := by decide +kernel
theorem dX7_chances_58 : decode cX7_chances 58 = .ok (.iload_n 3, 1) := by decide +kernel
theorem dX7_chances_59 : decode cX7_chances 59 = .ok (.if_icmp .ge 109, 3) := by decide +kernel
theorem dX7_chances_62 : decode cX7_chances 62 = .ok (.aload_n 0, 1) := by decide +kernel
theorem dX7_chances_63 : decode cX7_chances 63 = .ok (.getfield 28, 3) := by decide +kernel
theorem dX7_chances_66 : decode cX7_chances 66 = .ok (.bipush 6, 2) := by decide +kernel
theorem dX7_chances_68 : decode cX7_chances 68 = .ok (.iaload, 1) := by decide +kernel
theorem dX7_chances_69 : decode cX7_chances 69 = .ok (.iload 13, 2) := by decide +kernel
theorem dX7_chances_71 : decode cX7_chances 71 = .ok (.iadd, 1) := by decide +kernel
theorem dX7_chances_72 : decode cX7_chances 72 = .ok (.istore 14, 2) := by decide +kernel
theorem dX7_chances_74 : decode cX7_chances 74 = .ok (.lload 10, 2) := by decide +kernel
theorem dX7_chances_76 : decode cX7_chances 76 = .ok (.iload 14, 2) := by decide +kernel
theorem dX7_chances_78 : decode cX7_chances 78 = .ok (.iconst 2, 1) := by decide +kernel
theorem dX7_chances_79 : decode cX7_chances 79 = .ok (.irem, 1) := by decide +kernel
theorem dX7_chances_80 : decode cX7_chances 80 = .ok (.iconst 1, 1) := by decide +kernel
theorem dX7_chances_81 : decode cX7_chances 81 = .ok (.if_icmp .ne 27, 3) := by decide +kernel
theorem dX7_chances_84 : decode cX7_chances 84 = .ok (.iload 9, 2) := by decide +kernel
theorem dX7_chances_86 : decode cX7_chances 86 = .ok (.iload 13, 2) := by decide +kernel
theorem dX7_chances_88 : decode cX7_chances 88 = .ok (.invokestatic 221, 3) := by decide +kernel
theorem dX7_chances_91 : decode cX7_chances 91 = .ok (.ifCond .eq 8, 3) := by decide +kernel
theorem dX7_chances_94 : decode cX7_chances 94 = .ok (.iload 4, 2) := by decide +kernel
theorem dX7_chances_96 : decode cX7_chances 96 = .ok (.goto 8, 3) := by decide +kernel
theorem dX7_chances_99 : decode cX7_chances 99 = .ok (.bipush 12, 2) := by decide +kernel
theorem dX7_chances_101 : decode cX7_chances 101 = .ok (.iload 4, 2) := by decide +kernel
theorem dX7_chances_103 : decode cX7_chances 103 = .ok (.isub, 1) := by decide +kernel
theorem dX7_chances_104 : decode cX7_chances 104 = .ok (.i2l, 1) := by decide +kernel
theorem dX7_chances_105 : decode cX7_chances 105 = .ok (.goto 20, 3) := by decide +kernel
theorem dX7_chances_108 : decode cX7_chances 108 = .ok (.iload 9, 2) := by decide +kernel
theorem dX7_chances_110 : decode cX7_chances 110 = .ok (.iload 13, 2) := by decide +kernel
theorem dX7_chances_112 : decode cX7_chances 112 = .ok (.invokestatic 221, 3) := by decide +kernel
theorem dX7_chances_115 : decode cX7_chances 115 = .ok (.ifCond .eq 7, 3) := by decide +kernel
theorem dX7_chances_118 : decode cX7_chances 118 = .ok (.lconst 0, 1) := by decide +kernel
theorem dX7_chances_119 : decode cX7_chances 119 = .ok (.goto 6, 3) := by decide +kernel
theorem dX7_chances_122 : decode cX7_chances 122 = .ok (.ldc2_w 264, 3) := by decide +kernel
theorem dX7_chances_125 : decode cX7_chances 125 = .ok (.lmul, 1) := by decide +kernel
theorem dX7_chances_126 : decode cX7_chances 126 = .ok (.lstore 10, 2) := by decide +kernel
theorem dX7_chances_128 : decode cX7_chances 128 = .ok (.iload 12, 2) := by decide +kernel
theorem dX7_chances_130 : decode cX7_chances 130 = .ok (.aload_n 0, 1) := by decide +kernel
theorem dX7_chances_131 : decode cX7_chances 131 = .ok (.getfield 22, 3) := by decide +kernel
theorem dX7_chances_134 : decode cX7_chances 134 = .ok (.iload_n 1, 1) := by decide +kernel
theorem dX7_chances_135 : decode cX7_chances 135 = .ok (.iaload, 1) := by decide +kernel
theorem dX7_chances_136 : decode cX7_chances 136 = .ok (.iload 14, 2) := by decide +kernel
theorem dX7_chances_138 : decode cX7_chances 138 = .ok (.iload 9, 2) := by decide +kernel
theorem dX7_chances_140 : decode cX7_chances 140 = .ok (.iload 13, 2) := by decide +kernel
theorem dX7_chances_142 : decode cX7_chances 142 = .ok (.invokestatic 221, 3) := by decide +kernel
theorem dX7_chances_145 : decode cX7_chances 145 = .ok (.ifCond .ne 7, 3) := by decide +kernel
theorem dX7_chances_148 : decode cX7_chances 148 = .ok (.iconst 1, 1) := by decide +kernel
theorem dX7_chances_149 : decode cX7_chances 149 = .ok (.goto 4, 3) := by decide +kernel
theorem dX7_chances_152 : decode cX7_chances 152 = .ok (.iconst 0, 1) := by decide +kernel
theorem dX7_chances_153 : decode cX7_chances 153 = .ok (.invokestatic 147, 3) := by decide +kernel
theorem dX7_chances_156 : decode cX7_chances 156 = .ok (.iadd, 1) := by decide +kernel
theorem dX7_chances_157 : decode cX7_chances 157 = .ok (.invokestatic 151, 3) := by decide +kernel
theorem dX7_chances_160 : decode cX7_chances 160 = .ok (.istore 12, 2) := by decide +kernel
theorem dX7_chances_162 : decode cX7_chances 162 = .ok (.iinc 13 1, 3) := by decide +kernel
theorem dX7_chances_165 : decode cX7_chances 165 = .ok (.goto (-109), 3) := by decide +kernel
theorem dX7_chances_168 : decode cX7_chances 168 = .ok (.lload 5, 2) := by decide +kernel
theorem dX7_chances_170 : decode cX7_chances 170 = .ok (.lload 10, 2) := by decide +kernel
theorem dX7_chances_172 : decode cX7_chances 172 = .ok (.iload_n 2, 1) := by decide +kernel
theorem dX7_chances_173 : decode cX7_chances 173 = .ok (.ifCond .ge 8, 3) := by decide +kernel
theorem dX7_chances_176 : decode cX7_chances 176 = .ok (.iload 12, 2) := by decide +kernel
theorem dX7_chances_178 : decode cX7_chances 178 = .ok (.goto 14, 3) := by decide +kernel
theorem dX7_chances_181 : decode cX7_chances 181 = .ok (.iload 12, 2) := by decide +kernel
theorem dX7_chances_183 : decode cX7_chances 183 = .ok (.iload_n 2, 1) := by decide +kernel
theorem dX7_chances_184 : decode cX7_chances 184 = .ok (.if_icmp .lt 7, 3) := by decide +kernel
theorem dX7_chances_187 : decode cX7_chances 187 = .ok (.iconst 1, 1) := by decide +kernel
theorem dX7_chances_188 : decode cX7_chances 188 = .ok (.goto 4, 3) := by decide +kernel
theorem dX7_chances_191 : decode cX7_chances 191 = .ok (.iconst 0, 1) := by decide +kernel
theorem dX7_chances_192 : decode cX7_chances 192 = .ok (.i2l, 1) := by decide +kernel
theorem dX7_chances_193 : decode cX7_chances 193 = .ok (.lmul, 1) := by decide +kernel
theorem dX7_chances_194 : decode cX7_chances 194 = .ok (.ladd, 1) := by decide +kernel
theorem dX7_chances_195 : decode cX7_chances 195 = .ok (.lstore 5, 2) := by decide +kernel
theorem dX7_chances_197 : decode cX7_chances 197 = .ok (.iinc 9 1, 3) := by decide +kernel
theorem dX7_chances_200 : decode cX7_chances 200 = .ok (.goto (-168), 3) := by decide +kernel
theorem dX7_chances_203 : decode cX7_chances 203 = .ok (.aload_n 0, 1) := by decide +kernel
theorem dX7_chances_204 : decode cX7_chances 204 = .ok (.lload 5, 2) := by decide +kernel
theorem dX7_chances_206 : decode cX7_chances 206 = .ok (.lload 7, 2) := by decide +kernel
theorem dX7_chances_208 : decode cX7_chances 208 = .ok (.invokevirtual 235, 3) := by decide +kernel
theorem dX7_chances_211 : decode cX7_chances 211 = .ok (.ireturn, 1) := by decide +kernel
set_option maxHeartbeats 200000 in
theorem bX7_chances_0 {S : pv_S} {x1 x2 x3 x4 : Int32} {a5 a6 a7 a8 a9 a10 a11 a12 a13 a14 : Option Value} : pv_R mX7_chances 0 [some (.ref 37), some (.int x1), some (.int x2), some (.int x3), some (.int x4), a5, a6, a7, a8, a9, a10, a11, a12, a13, a14] [] (pv_em S) = pv_R mX7_chances 9 [some (.ref 37), some (.int x1), some (.int x2), some (.int x3), some (.int x4), some (.long 0), none, some (.long 1), none, some (.int 0), a10, a11, a12, a13, a14] [] (pv_em S) := Eq.trans (pv_Rlc dX7_chances_0 kl_0) (Eq.trans (pv_Rstp dX7_chances_1 rfl rfl rfl) (Eq.trans (pv_Rlc dX7_chances_3 kl_1) (Eq.trans (pv_Rstp dX7_chances_4 rfl rfl rfl) (Eq.trans (pv_Ric dX7_chances_6 ki_0) (pv_Rstp dX7_chances_7 rfl rfl rfl)))))
set_option maxHeartbeats 200000 in
theorem bX7_chances_9 {S : pv_S} {x1 x2 x3 x4 x9 : Int32} {x5 x7 : Int64} {a6 a8 a10 a11 a12 a13 a14 : Option Value} : pv_R mX7_chances 9 [some (.ref 37), some (.int x1), some (.int x2), some (.int x3), some (.int x4), some (.long x5), a6, some (.long x7), a8, some (.int x9), a10, a11, a12, a13, a14] [] (pv_em S) = if x3 ≤ x9 then pv_R mX7_chances 29 [some (.ref 37), some (.int x1), some (.int x2), some (.int x3), some (.int x4), some (.long x5), a6, some (.long x7), a8, some (.int x9), a10, a11, a12, a13, a14] [] (pv_em S) else pv_R mX7_chances 15 [some (.ref 37), some (.int x1), some (.int x2), some (.int x3), some (.int x4), some (.long x5), a6, some (.long x7), a8, some (.int x9), a10, a11, a12, a13, a14] [] (pv_em S) := Eq.trans (pv_Rstp dX7_chances_9 rfl rfl rfl) (Eq.trans (pv_Rstp dX7_chances_11 rfl rfl rfl) (pv_Rbr (tgt := 29) dX7_chances_12 rfl rfl rfl rfl rfl (by decide)))
set_option maxHeartbeats 200000 in
theorem bX7_chances_15 {S : pv_S} {x1 x2 x3 x4 x9 : Int32} {x5 x7 : Int64} {a6 a8 a10 a11 a12 a13 a14 : Option Value} : pv_R mX7_chances 15 [some (.ref 37), some (.int x1), some (.int x2), some (.int x3), some (.int x4), some (.long x5), a6, some (.long x7), a8, some (.int x9), a10, a11, a12, a13, a14] [] (pv_em S) = pv_R mX7_chances 9 [some (.ref 37), some (.int x1), some (.int x2), some (.int x3), some (.int x4), some (.long x5), (pv_nl a6), some (.long (x7 * 12)), none, some (.int (x9 + 1)), a10, a11, a12, a13, a14] [] (pv_em S) := Eq.trans (pv_Rstp dX7_chances_15 rfl rfl rfl) (Eq.trans (pv_Rstp dX7_chances_17 rfl rfl rfl) (Eq.trans (pv_Rstp dX7_chances_20 rfl rfl rfl) (Eq.trans (pv_Rstp dX7_chances_21 rfl rfl rfl) (Eq.trans (pv_Rinc dX7_chances_23 rfl (Nat.le_of_ble_eq_true rfl) ki_1 rfl) (pv_Rgo (tgt := 9) dX7_chances_26 rfl (by decide))))))
set_option maxHeartbeats 200000 in
theorem bX7_chances_29 {S : pv_S} {x1 x2 x3 x4 x9 : Int32} {x5 x7 : Int64} {a6 a8 a10 a11 a12 a13 a14 : Option Value} : pv_R mX7_chances 29 [some (.ref 37), some (.int x1), some (.int x2), some (.int x3), some (.int x4), some (.long x5), a6, some (.long x7), a8, some (.int x9), a10, a11, a12, a13, a14] [] (pv_em S) = pv_R mX7_chances 32 [some (.ref 37), some (.int x1), some (.int x2), some (.int x3), some (.int x4), some (.long x5), a6, some (.long x7), (pv_nl a8), some (.int 0), a10, a11, a12, a13, a14] [] (pv_em S) := Eq.trans (pv_Ric dX7_chances_29 ki_0) (pv_Rstp dX7_chances_30 rfl rfl rfl)
set_option maxHeartbeats 200000 in
theorem bX7_chances_32 {S : pv_S} {x1 x2 x3 x4 x9 : Int32} {x5 x7 : Int64} {a6 a8 a10 a11 a12 a13 a14 : Option Value} : pv_R mX7_chances 32 [some (.ref 37), some (.int x1), some (.int x2), some (.int x3), some (.int x4), some (.long x5), a6, some (.long x7), a8, some (.int x9), a10, a11, a12, a13, a14] [] (pv_em S) = if (1 <<< (x3 &&& 31)) ≤ x9 then pv_R mX7_chances 203 [some (.ref 37), some (.int x1), some (.int x2), some (.int x3), some (.int x4), some (.long x5), a6, some (.long x7), a8, some (.int x9), a10, a11, a12, a13, a14] [] (pv_em S) else pv_R mX7_chances 40 [some (.ref 37), some (.int x1), some (.int x2), some (.int x3), some (.int x4), some (.long x5), a6, some (.long x7), a8, some (.int x9), a10, a11, a12, a13, a14] [] (pv_em S) := Eq.trans (pv_Rstp dX7_chances_32 rfl rfl rfl) (Eq.trans (pv_Ric dX7_chances_34 ki_1) (Eq.trans (pv_Rstp dX7_chances_35 rfl rfl rfl) (Eq.trans (pv_Rstp dX7_chances_36 rfl rfl rfl) (pv_Rbr (tgt := 203) dX7_chances_37 rfl rfl rfl rfl rfl (by decide)))))
set_option maxHeartbeats 200000 in
theorem bX7_chances_40 {S : pv_S} {x1 x2 x3 x4 x9 : Int32} {x5 x7 : Int64} {a6 a8 a10 a11 a12 a13 a14 : Option Value} : pv_R mX7_chances 40 [some (.ref 37), some (.int x1), some (.int x2), some (.int x3), some (.int x4), some (.long x5), a6, some (.long x7), a8, some (.int x9), a10, a11, a12, a13, a14] [] (pv_em S) = if (0 + x1) < 0 ∨ 10 ≤ (0 + x1).toNatClampNeg then none else pv_R mX7_chances 56 [some (.ref 37), some (.int x1), some (.int x2), some (.int x3), some (.int x4), some (.long x5), a6, some (.long x7), a8, some (.int x9), some (.long 1), none, some (.int (S.1 44 (0 + x1).toNatClampNeg)), some (.int 0), a14] [] (pv_em S) := Eq.trans (pv_Rlc dX7_chances_40 kl_1) (Eq.trans (pv_Rstp dX7_chances_41 rfl rfl rfl) (Eq.trans (pv_Rstp dX7_chances_43 rfl rfl rfl) (Eq.trans (pv_Rget dX7_chances_44 ffX7_28 (by decide) (pv_ce_37 _ _) rfl) (Eq.trans (pv_Ric dX7_chances_47 ki_0) (Eq.trans (pv_Rstp dX7_chances_48 rfl rfl rfl) (Eq.trans (pv_Rstp dX7_chances_49 rfl rfl rfl) (Eq.trans (pv_Rald dX7_chances_50 (by decide) (pv_ce_44 _ _)) (pv_iteN (fun h1 => Eq.trans (pv_Rstp dX7_chances_51 rfl rfl rfl) (Eq.trans (pv_Ric dX7_chances_53 ki_0) (pv_Rstp dX7_chances_54 rfl rfl rfl)))))))))))
set_option maxHeartbeats 200000 in
theorem bX7_chances_56 {S : pv_S} {x1 x2 x3 x4 x9 x12 x13 : Int32} {x5 x7 x10 : Int64} {a6 a8 a11 a14 : Option Value} : pv_R mX7_chances 56 [some (.ref 37), some (.int x1), some (.int x2), some (.int x3), some (.int x4), some (.long x5), a6, some (.long x7), a8, some (.int x9), some (.long x10), a11, some (.int x12), some (.int x13), a14] [] (pv_em S) = if x3 ≤ x13 then pv_R mX7_chances 168 [some (.ref 37), some (.int x1), some (.int x2), some (.int x3), some (.int x4), some (.long x5), a6, some (.long x7), a8, some (.int x9), some (.long x10), a11, some (.int x12), some (.int x13), a14] [] (pv_em S) else pv_R mX7_chances 62 [some (.ref 37), some (.int x1), some (.int x2), some (.int x3), some (.int x4), some (.long x5), a6, some (.long x7), a8, some (.int x9), some (.long x10), a11, some (.int x12), some (.int x13), a14] [] (pv_em S) := Eq.trans (pv_Rstp dX7_chances_56 rfl rfl rfl) (Eq.trans (pv_Rstp dX7_chances_58 rfl rfl rfl) (pv_Rbr (tgt := 168) dX7_chances_59 rfl rfl rfl rfl rfl (by decide)))
set_option maxHeartbeats 200000 in
theorem bX7_chances_62 {S : pv_S} {x1 x2 x3 x4 x9 x12 x13 : Int32} {x5 x7 x10 : Int64} {a6 a8 a11 a14 : Option Value} : pv_R mX7_chances 62 [some (.ref 37), some (.int x1), some (.int x2), some (.int x3), some (.int x4), some (.long x5), a6, some (.long x7), a8, some (.int x9), some (.long x10), a11, some (.int x12), some (.int x13), a14] [] (pv_em S) = if ¬ (((S.1 44 (6 : Int32).toNatClampNeg) + x13) - ((S.1 44 (6 : Int32).toNatClampNeg) + x13) / 2 * 2) = 1 then pv_R mX7_chances 108 [some (.ref 37), some (.int x1), some (.int x2), some (.int x3), some (.int x4), some (.long x5), a6, some (.long x7), a8, some (.int x9), some (.long x10), a11, some (.int x12), some (.int x13), some (.int ((S.1 44 (6 : Int32).toNatClampNeg) + x13))] [.long x10] (pv_em S) else pv_R mX7_chances 84 [some (.ref 37), some (.int x1), some (.int x2), some (.int x3), some (.int x4), some (.long x5), a6, some (.long x7), a8, some (.int x9), some (.long x10), a11, some (.int x12), some (.int x13), some (.int ((S.1 44 (6 : Int32).toNatClampNeg) + x13))] [.long x10] (pv_em S) := Eq.trans (pv_Rstp dX7_chances_62 rfl rfl rfl) (Eq.trans (pv_Rget dX7_chances_63 ffX7_28 (by decide) (pv_ce_37 _ _) rfl) (Eq.trans (pv_Rbp dX7_chances_66 kb_6) (Eq.trans (pv_Rald dX7_chances_68 (by decide) (pv_ce_44 _ _)) (Eq.trans (if_neg (by decide +kernel)) (Eq.trans (pv_Rstp dX7_chances_69 rfl rfl rfl) (Eq.trans (pv_Rstp dX7_chances_71 rfl rfl rfl) (Eq.trans (pv_Rstp dX7_chances_72 rfl rfl rfl) (Eq.trans (pv_Rstp dX7_chances_74 rfl rfl rfl) (Eq.trans (pv_Rstp dX7_chances_76 rfl rfl rfl) (Eq.trans (pv_Ric dX7_chances_78 ki_2) (Eq.trans (pv_Rrem dX7_chances_79) (Eq.trans (if_neg (by decide)) (Eq.trans (pv_Ric dX7_chances_80 ki_1) (pv_Rbr (tgt := 108) dX7_chances_81 rfl rfl rfl rfl rfl (by decide)))))))))))))))
set_option maxHeartbeats 200000 in
theorem bX7_chances_84 {S : pv_S} {x1 x2 x3 x4 x9 x12 x13 x14 : Int32} {x5 x7 x10 u0 : Int64} {a6 a8 a11 : Option Value} : pv_R mX7_chances 84 [some (.ref 37), some (.int x1), some (.int x2), some (.int x3), some (.int x4), some (.long x5), a6, some (.long x7), a8, some (.int x9), some (.long x10), a11, some (.int x12), some (.int x13), some (.int x14)] [.long u0] (pv_em S) = pv_cc (pv_R mX7_has 0 [some (.int x9), some (.int x13)] [] (pv_em S)) mX7_chances 91 [some (.ref 37), some (.int x1), some (.int x2), some (.int x3), some (.int x4), some (.long x5), a6, some (.long x7), a8, some (.int x9), some (.long x10), a11, some (.int x12), some (.int x13), some (.int x14)] [.long u0] := Eq.trans (pv_Rstp dX7_chances_84 rfl rfl rfl) (Eq.trans (pv_Rstp dX7_chances_86 rfl rfl rfl) (pv_Rcall (As := [.int x9, .int x13]) (rest := [.long u0]) dX7_chances_88 rfl mfX7_221 rfl rfl rfl rfl rfl))
set_option maxHeartbeats 200000 in
theorem bX7_chances_91 {S : pv_S} {x1 x2 x3 x4 x9 x12 x13 x14 u0 : Int32} {x5 x7 x10 u1 : Int64} {a6 a8 a11 : Option Value} : pv_R mX7_chances 91 [some (.ref 37), some (.int x1), some (.int x2), some (.int x3), some (.int x4), some (.long x5), a6, some (.long x7), a8, some (.int x9), some (.long x10), a11, some (.int x12), some (.int x13), some (.int x14)] [.int u0, .long u1] (pv_em S) = if u0 = 0 then pv_R mX7_chances 99 [some (.ref 37), some (.int x1), some (.int x2), some (.int x3), some (.int x4), some (.long x5), a6, some (.long x7), a8, some (.int x9), some (.long x10), a11, some (.int x12), some (.int x13), some (.int x14)] [.long u1] (pv_em S) else pv_R mX7_chances 94 [some (.ref 37), some (.int x1), some (.int x2), some (.int x3), some (.int x4), some (.long x5), a6, some (.long x7), a8, some (.int x9), some (.long x10), a11, some (.int x12), some (.int x13), some (.int x14)] [.long u1] (pv_em S) := pv_Rbr (tgt := 99) dX7_chances_91 rfl rfl rfl rfl rfl (by decide)
set_option maxHeartbeats 200000 in
theorem bX7_chances_94 {S : pv_S} {x1 x2 x3 x4 x9 x12 x13 x14 : Int32} {x5 x7 x10 u0 : Int64} {a6 a8 a11 : Option Value} : pv_R mX7_chances 94 [some (.ref 37), some (.int x1), some (.int x2), some (.int x3), some (.int x4), some (.long x5), a6, some (.long x7), a8, some (.int x9), some (.long x10), a11, some (.int x12), some (.int x13), some (.int x14)] [.long u0] (pv_em S) = pv_R mX7_chances 104 [some (.ref 37), some (.int x1), some (.int x2), some (.int x3), some (.int x4), some (.long x5), a6, some (.long x7), a8, some (.int x9), some (.long x10), a11, some (.int x12), some (.int x13), some (.int x14)] [.int x4, .long u0] (pv_em S) := Eq.trans (pv_Rstp dX7_chances_94 rfl rfl rfl) (pv_Rgo (tgt := 104) dX7_chances_96 rfl (by decide))
set_option maxHeartbeats 200000 in
theorem bX7_chances_99 {S : pv_S} {x1 x2 x3 x4 x9 x12 x13 x14 : Int32} {x5 x7 x10 u0 : Int64} {a6 a8 a11 : Option Value} : pv_R mX7_chances 99 [some (.ref 37), some (.int x1), some (.int x2), some (.int x3), some (.int x4), some (.long x5), a6, some (.long x7), a8, some (.int x9), some (.long x10), a11, some (.int x12), some (.int x13), some (.int x14)] [.long u0] (pv_em S) = pv_R mX7_chances 104 [some (.ref 37), some (.int x1), some (.int x2), some (.int x3), some (.int x4), some (.long x5), a6, some (.long x7), a8, some (.int x9), some (.long x10), a11, some (.int x12), some (.int x13), some (.int x14)] [.int (12 - x4), .long u0] (pv_em S) := Eq.trans (pv_Rbp dX7_chances_99 kb_12) (Eq.trans (pv_Rstp dX7_chances_101 rfl rfl rfl) (pv_Rstp dX7_chances_103 rfl rfl rfl))
set_option maxHeartbeats 200000 in
theorem bX7_chances_104 {S : pv_S} {x1 x2 x3 x4 x9 x12 x13 x14 u0 : Int32} {x5 x7 x10 u1 : Int64} {a6 a8 a11 : Option Value} : pv_R mX7_chances 104 [some (.ref 37), some (.int x1), some (.int x2), some (.int x3), some (.int x4), some (.long x5), a6, some (.long x7), a8, some (.int x9), some (.long x10), a11, some (.int x12), some (.int x13), some (.int x14)] [.int u0, .long u1] (pv_em S) = pv_R mX7_chances 125 [some (.ref 37), some (.int x1), some (.int x2), some (.int x3), some (.int x4), some (.long x5), a6, some (.long x7), a8, some (.int x9), some (.long x10), a11, some (.int x12), some (.int x13), some (.int x14)] [.long (Int32.toInt64 u0), .long u1] (pv_em S) := Eq.trans (pv_Rstp dX7_chances_104 rfl rfl rfl) (pv_Rgo (tgt := 125) dX7_chances_105 rfl (by decide))
set_option maxHeartbeats 200000 in
theorem bX7_chances_108 {S : pv_S} {x1 x2 x3 x4 x9 x12 x13 x14 : Int32} {x5 x7 x10 u0 : Int64} {a6 a8 a11 : Option Value} : pv_R mX7_chances 108 [some (.ref 37), some (.int x1), some (.int x2), some (.int x3), some (.int x4), some (.long x5), a6, some (.long x7), a8, some (.int x9), some (.long x10), a11, some (.int x12), some (.int x13), some (.int x14)] [.long u0] (pv_em S) = pv_cc (pv_R mX7_has 0 [some (.int x9), some (.int x13)] [] (pv_em S)) mX7_chances 115 [some (.ref 37), some (.int x1), some (.int x2), some (.int x3), some (.int x4), some (.long x5), a6, some (.long x7), a8, some (.int x9), some (.long x10), a11, some (.int x12), some (.int x13), some (.int x14)] [.long u0] := Eq.trans (pv_Rstp dX7_chances_108 rfl rfl rfl) (Eq.trans (pv_Rstp dX7_chances_110 rfl rfl rfl) (pv_Rcall (As := [.int x9, .int x13]) (rest := [.long u0]) dX7_chances_112 rfl mfX7_221 rfl rfl rfl rfl rfl))
set_option maxHeartbeats 200000 in
theorem bX7_chances_115 {S : pv_S} {x1 x2 x3 x4 x9 x12 x13 x14 u0 : Int32} {x5 x7 x10 u1 : Int64} {a6 a8 a11 : Option Value} : pv_R mX7_chances 115 [some (.ref 37), some (.int x1), some (.int x2), some (.int x3), some (.int x4), some (.long x5), a6, some (.long x7), a8, some (.int x9), some (.long x10), a11, some (.int x12), some (.int x13), some (.int x14)] [.int u0, .long u1] (pv_em S) = if u0 = 0 then pv_R mX7_chances 122 [some (.ref 37), some (.int x1), some (.int x2), some (.int x3), some (.int x4), some (.long x5), a6, some (.long x7), a8, some (.int x9), some (.long x10), a11, some (.int x12), some (.int x13), some (.int x14)] [.long u1] (pv_em S) else pv_R mX7_chances 118 [some (.ref 37), some (.int x1), some (.int x2), some (.int x3), some (.int x4), some (.long x5), a6, some (.long x7), a8, some (.int x9), some (.long x10), a11, some (.int x12), some (.int x13), some (.int x14)] [.long u1] (pv_em S) := pv_Rbr (tgt := 122) dX7_chances_115 rfl rfl rfl rfl rfl (by decide)
set_option maxHeartbeats 200000 in
theorem bX7_chances_118 {S : pv_S} {x1 x2 x3 x4 x9 x12 x13 x14 : Int32} {x5 x7 x10 u0 : Int64} {a6 a8 a11 : Option Value} : pv_R mX7_chances 118 [some (.ref 37), some (.int x1), some (.int x2), some (.int x3), some (.int x4), some (.long x5), a6, some (.long x7), a8, some (.int x9), some (.long x10), a11, some (.int x12), some (.int x13), some (.int x14)] [.long u0] (pv_em S) = pv_R mX7_chances 125 [some (.ref 37), some (.int x1), some (.int x2), some (.int x3), some (.int x4), some (.long x5), a6, some (.long x7), a8, some (.int x9), some (.long x10), a11, some (.int x12), some (.int x13), some (.int x14)] [.long 0, .long u0] (pv_em S) := Eq.trans (pv_Rlc dX7_chances_118 kl_0) (pv_Rgo (tgt := 125) dX7_chances_119 rfl (by decide))
set_option maxHeartbeats 200000 in
theorem bX7_chances_122 {S : pv_S} {x1 x2 x3 x4 x9 x12 x13 x14 : Int32} {x5 x7 x10 u0 : Int64} {a6 a8 a11 : Option Value} : pv_R mX7_chances 122 [some (.ref 37), some (.int x1), some (.int x2), some (.int x3), some (.int x4), some (.long x5), a6, some (.long x7), a8, some (.int x9), some (.long x10), a11, some (.int x12), some (.int x13), some (.int x14)] [.long u0] (pv_em S) = pv_R mX7_chances 125 [some (.ref 37), some (.int x1), some (.int x2), some (.int x3), some (.int x4), some (.long x5), a6, some (.long x7), a8, some (.int x9), some (.long x10), a11, some (.int x12), some (.int x13), some (.int x14)] [.long 12, .long u0] (pv_em S) := pv_Rstp dX7_chances_122 rfl rfl rfl
set_option maxHeartbeats 200000 in
theorem bX7_chances_125 {S : pv_S} {x1 x2 x3 x4 x9 x12 x13 x14 : Int32} {x5 x7 x10 u0 u1 : Int64} {a6 a8 a11 : Option Value} : pv_R mX7_chances 125 [some (.ref 37), some (.int x1), some (.int x2), some (.int x3), some (.int x4), some (.long x5), a6, some (.long x7), a8, some (.int x9), some (.long x10), a11, some (.int x12), some (.int x13), some (.int x14)] [.long u0, .long u1] (pv_em S) = if x1 < 0 ∨ 6 ≤ x1.toNatClampNeg then none else pv_cc (pv_R mX7_has 0 [some (.int x9), some (.int x13)] [] (pv_em S)) mX7_chances 145 [some (.ref 37), some (.int x1), some (.int x2), some (.int x3), some (.int x4), some (.long x5), a6, some (.long x7), a8, some (.int x9), some (.long (u1 * u0)), none, some (.int x12), some (.int x13), some (.int x14)] [.int x14, .int (S.1 42 x1.toNatClampNeg), .int x12] := Eq.trans (pv_Rstp dX7_chances_125 rfl rfl rfl) (Eq.trans (pv_Rstp dX7_chances_126 rfl rfl rfl) (Eq.trans (pv_Rstp dX7_chances_128 rfl rfl rfl) (Eq.trans (pv_Rstp dX7_chances_130 rfl rfl rfl) (Eq.trans (pv_Rget dX7_chances_131 ffX7_22 (by decide) (pv_ce_37 _ _) rfl) (Eq.trans (pv_Rstp dX7_chances_134 rfl rfl rfl) (Eq.trans (pv_Rald dX7_chances_135 (by decide) (pv_ce_42 _ _)) (pv_iteN (fun h1 => Eq.trans (pv_Rstp dX7_chances_136 rfl rfl rfl) (Eq.trans (pv_Rstp dX7_chances_138 rfl rfl rfl) (Eq.trans (pv_Rstp dX7_chances_140 rfl rfl rfl) (pv_Rcall (As := [.int x9, .int x13]) (rest := [.int x14, .int (S.1 42 x1.toNatClampNeg), .int x12]) dX7_chances_142 rfl mfX7_221 rfl rfl rfl rfl rfl)))))))))))
set_option maxHeartbeats 200000 in
theorem bX7_chances_145 {S : pv_S} {x1 x2 x3 x4 x9 x12 x13 x14 u0 u1 u2 u3 : Int32} {x5 x7 x10 : Int64} {a6 a8 a11 : Option Value} : pv_R mX7_chances 145 [some (.ref 37), some (.int x1), some (.int x2), some (.int x3), some (.int x4), some (.long x5), a6, some (.long x7), a8, some (.int x9), some (.long x10), a11, some (.int x12), some (.int x13), some (.int x14)] [.int u0, .int u1, .int u2, .int u3] (pv_em S) = if ¬ u0 = 0 then pv_R mX7_chances 152 [some (.ref 37), some (.int x1), some (.int x2), some (.int x3), some (.int x4), some (.long x5), a6, some (.long x7), a8, some (.int x9), some (.long x10), a11, some (.int x12), some (.int x13), some (.int x14)] [.int u1, .int u2, .int u3] (pv_em S) else pv_R mX7_chances 148 [some (.ref 37), some (.int x1), some (.int x2), some (.int x3), some (.int x4), some (.long x5), a6, some (.long x7), a8, some (.int x9), some (.long x10), a11, some (.int x12), some (.int x13), some (.int x14)] [.int u1, .int u2, .int u3] (pv_em S) := pv_Rbr (tgt := 152) dX7_chances_145 rfl rfl rfl rfl rfl (by decide)
set_option maxHeartbeats 200000 in
theorem bX7_chances_148 {S : pv_S} {x1 x2 x3 x4 x9 x12 x13 x14 u0 u1 u2 : Int32} {x5 x7 x10 : Int64} {a6 a8 a11 : Option Value} : pv_R mX7_chances 148 [some (.ref 37), some (.int x1), some (.int x2), some (.int x3), some (.int x4), some (.long x5), a6, some (.long x7), a8, some (.int x9), some (.long x10), a11, some (.int x12), some (.int x13), some (.int x14)] [.int u0, .int u1, .int u2] (pv_em S) = pv_R mX7_chances 153 [some (.ref 37), some (.int x1), some (.int x2), some (.int x3), some (.int x4), some (.long x5), a6, some (.long x7), a8, some (.int x9), some (.long x10), a11, some (.int x12), some (.int x13), some (.int x14)] [.int 1, .int u0, .int u1, .int u2] (pv_em S) := Eq.trans (pv_Ric dX7_chances_148 ki_1) (pv_Rgo (tgt := 153) dX7_chances_149 rfl (by decide))
set_option maxHeartbeats 200000 in
theorem bX7_chances_152 {S : pv_S} {x1 x2 x3 x4 x9 x12 x13 x14 u0 u1 u2 : Int32} {x5 x7 x10 : Int64} {a6 a8 a11 : Option Value} : pv_R mX7_chances 152 [some (.ref 37), some (.int x1), some (.int x2), some (.int x3), some (.int x4), some (.long x5), a6, some (.long x7), a8, some (.int x9), some (.long x10), a11, some (.int x12), some (.int x13), some (.int x14)] [.int u0, .int u1, .int u2] (pv_em S) = pv_R mX7_chances 153 [some (.ref 37), some (.int x1), some (.int x2), some (.int x3), some (.int x4), some (.long x5), a6, some (.long x7), a8, some (.int x9), some (.long x10), a11, some (.int x12), some (.int x13), some (.int x14)] [.int 0, .int u0, .int u1, .int u2] (pv_em S) := pv_Ric dX7_chances_152 ki_0
set_option maxHeartbeats 200000 in
theorem bX7_chances_153 {S : pv_S} {x1 x2 x3 x4 x9 x12 x13 x14 u0 u1 u2 u3 : Int32} {x5 x7 x10 : Int64} {a6 a8 a11 : Option Value} : pv_R mX7_chances 153 [some (.ref 37), some (.int x1), some (.int x2), some (.int x3), some (.int x4), some (.long x5), a6, some (.long x7), a8, some (.int x9), some (.long x10), a11, some (.int x12), some (.int x13), some (.int x14)] [.int u0, .int u1, .int u2, .int u3] (pv_em S) = pv_cc (pv_R mX7_changes 0 [some (.int u2), some (.int u1), some (.int u0)] [] (pv_em S)) mX7_chances 156 [some (.ref 37), some (.int x1), some (.int x2), some (.int x3), some (.int x4), some (.long x5), a6, some (.long x7), a8, some (.int x9), some (.long x10), a11, some (.int x12), some (.int x13), some (.int x14)] [.int u3] := pv_Rcall (As := [.int u2, .int u1, .int u0]) (rest := [.int u3]) dX7_chances_153 rfl mfX7_147 rfl rfl rfl rfl rfl
set_option maxHeartbeats 200000 in
theorem bX7_chances_156 {S : pv_S} {x1 x2 x3 x4 x9 x12 x13 x14 u0 u1 : Int32} {x5 x7 x10 : Int64} {a6 a8 a11 : Option Value} : pv_R mX7_chances 156 [some (.ref 37), some (.int x1), some (.int x2), some (.int x3), some (.int x4), some (.long x5), a6, some (.long x7), a8, some (.int x9), some (.long x10), a11, some (.int x12), some (.int x13), some (.int x14)] [.int u0, .int u1] (pv_em S) = pv_cc (pv_R mX7_bound 0 [some (.int (u1 + u0))] [] (pv_em S)) mX7_chances 160 [some (.ref 37), some (.int x1), some (.int x2), some (.int x3), some (.int x4), some (.long x5), a6, some (.long x7), a8, some (.int x9), some (.long x10), a11, some (.int x12), some (.int x13), some (.int x14)] [] := Eq.trans (pv_Rstp dX7_chances_156 rfl rfl rfl) (pv_Rcall (As := [.int (u1 + u0)]) (rest := []) dX7_chances_157 rfl mfX7_151 rfl rfl rfl rfl rfl)
set_option maxHeartbeats 200000 in
theorem bX7_chances_160 {S : pv_S} {x1 x2 x3 x4 x9 x12 x13 x14 u0 : Int32} {x5 x7 x10 : Int64} {a6 a8 a11 : Option Value} : pv_R mX7_chances 160 [some (.ref 37), some (.int x1), some (.int x2), some (.int x3), some (.int x4), some (.long x5), a6, some (.long x7), a8, some (.int x9), some (.long x10), a11, some (.int x12), some (.int x13), some (.int x14)] [.int u0] (pv_em S) = pv_R mX7_chances 56 [some (.ref 37), some (.int x1), some (.int x2), some (.int x3), some (.int x4), some (.long x5), a6, some (.long x7), a8, some (.int x9), some (.long x10), (pv_nl a11), some (.int u0), some (.int (x13 + 1)), some (.int x14)] [] (pv_em S) := Eq.trans (pv_Rstp dX7_chances_160 rfl rfl rfl) (Eq.trans (pv_Rinc dX7_chances_162 rfl (Nat.le_of_ble_eq_true rfl) ki_1 rfl) (pv_Rgo (tgt := 56) dX7_chances_165 rfl (by decide)))
set_option maxHeartbeats 200000 in
theorem bX7_chances_168 {S : pv_S} {x1 x2 x3 x4 x9 x12 x13 : Int32} {x5 x7 x10 : Int64} {a6 a8 a11 a14 : Option Value} : pv_R mX7_chances 168 [some (.ref 37), some (.int x1), some (.int x2), some (.int x3), some (.int x4), some (.long x5), a6, some (.long x7), a8, some (.int x9), some (.long x10), a11, some (.int x12), some (.int x13), a14] [] (pv_em S) = if 0 ≤ x2 then pv_R mX7_chances 181 [some (.ref 37), some (.int x1), some (.int x2), some (.int x3), some (.int x4), some (.long x5), a6, some (.long x7), a8, some (.int x9), some (.long x10), a11, some (.int x12), some (.int x13), a14] [.long x10, .long x5] (pv_em S) else pv_R mX7_chances 176 [some (.ref 37), some (.int x1), some (.int x2), some (.int x3), some (.int x4), some (.long x5), a6, some (.long x7), a8, some (.int x9), some (.long x10), a11, some (.int x12), some (.int x13), a14] [.long x10, .long x5] (pv_em S) := Eq.trans (pv_Rstp dX7_chances_168 rfl rfl rfl) (Eq.trans (pv_Rstp dX7_chances_170 rfl rfl rfl) (Eq.trans (pv_Rstp dX7_chances_172 rfl rfl rfl) (pv_Rbr (tgt := 181) dX7_chances_173 rfl rfl rfl rfl rfl (by decide))))
set_option maxHeartbeats 200000 in
theorem bX7_chances_176 {S : pv_S} {x1 x2 x3 x4 x9 x12 x13 : Int32} {x5 x7 x10 u0 u1 : Int64} {a6 a8 a11 a14 : Option Value} : pv_R mX7_chances 176 [some (.ref 37), some (.int x1), some (.int x2), some (.int x3), some (.int x4), some (.long x5), a6, some (.long x7), a8, some (.int x9), some (.long x10), a11, some (.int x12), some (.int x13), a14] [.long u0, .long u1] (pv_em S) = pv_R mX7_chances 192 [some (.ref 37), some (.int x1), some (.int x2), some (.int x3), some (.int x4), some (.long x5), a6, some (.long x7), a8, some (.int x9), some (.long x10), a11, some (.int x12), some (.int x13), a14] [.int x12, .long u0, .long u1] (pv_em S) := Eq.trans (pv_Rstp dX7_chances_176 rfl rfl rfl) (pv_Rgo (tgt := 192) dX7_chances_178 rfl (by decide))
set_option maxHeartbeats 200000 in
theorem bX7_chances_181 {S : pv_S} {x1 x2 x3 x4 x9 x12 x13 : Int32} {x5 x7 x10 u0 u1 : Int64} {a6 a8 a11 a14 : Option Value} : pv_R mX7_chances 181 [some (.ref 37), some (.int x1), some (.int x2), some (.int x3), some (.int x4), some (.long x5), a6, some (.long x7), a8, some (.int x9), some (.long x10), a11, some (.int x12), some (.int x13), a14] [.long u0, .long u1] (pv_em S) = if x12 < x2 then pv_R mX7_chances 191 [some (.ref 37), some (.int x1), some (.int x2), some (.int x3), some (.int x4), some (.long x5), a6, some (.long x7), a8, some (.int x9), some (.long x10), a11, some (.int x12), some (.int x13), a14] [.long u0, .long u1] (pv_em S) else pv_R mX7_chances 187 [some (.ref 37), some (.int x1), some (.int x2), some (.int x3), some (.int x4), some (.long x5), a6, some (.long x7), a8, some (.int x9), some (.long x10), a11, some (.int x12), some (.int x13), a14] [.long u0, .long u1] (pv_em S) := Eq.trans (pv_Rstp dX7_chances_181 rfl rfl rfl) (Eq.trans (pv_Rstp dX7_chances_183 rfl rfl rfl) (pv_Rbr (tgt := 191) dX7_chances_184 rfl rfl rfl rfl rfl (by decide)))
set_option maxHeartbeats 200000 in
theorem bX7_chances_187 {S : pv_S} {x1 x2 x3 x4 x9 x12 x13 : Int32} {x5 x7 x10 u0 u1 : Int64} {a6 a8 a11 a14 : Option Value} : pv_R mX7_chances 187 [some (.ref 37), some (.int x1), some (.int x2), some (.int x3), some (.int x4), some (.long x5), a6, some (.long x7), a8, some (.int x9), some (.long x10), a11, some (.int x12), some (.int x13), a14] [.long u0, .long u1] (pv_em S) = pv_R mX7_chances 192 [some (.ref 37), some (.int x1), some (.int x2), some (.int x3), some (.int x4), some (.long x5), a6, some (.long x7), a8, some (.int x9), some (.long x10), a11, some (.int x12), some (.int x13), a14] [.int 1, .long u0, .long u1] (pv_em S) := Eq.trans (pv_Ric dX7_chances_187 ki_1) (pv_Rgo (tgt := 192) dX7_chances_188 rfl (by decide))
set_option maxHeartbeats 200000 in
theorem bX7_chances_191 {S : pv_S} {x1 x2 x3 x4 x9 x12 x13 : Int32} {x5 x7 x10 u0 u1 : Int64} {a6 a8 a11 a14 : Option Value} : pv_R mX7_chances 191 [some (.ref 37), some (.int x1), some (.int x2), some (.int x3), some (.int x4), some (.long x5), a6, some (.long x7), a8, some (.int x9), some (.long x10), a11, some (.int x12), some (.int x13), a14] [.long u0, .long u1] (pv_em S) = pv_R mX7_chances 192 [some (.ref 37), some (.int x1), some (.int x2), some (.int x3), some (.int x4), some (.long x5), a6, some (.long x7), a8, some (.int x9), some (.long x10), a11, some (.int x12), some (.int x13), a14] [.int 0, .long u0, .long u1] (pv_em S) := pv_Ric dX7_chances_191 ki_0
set_option maxHeartbeats 200000 in
theorem bX7_chances_192 {S : pv_S} {x1 x2 x3 x4 x9 x12 x13 u0 : Int32} {x5 x7 x10 u1 u2 : Int64} {a6 a8 a11 a14 : Option Value} : pv_R mX7_chances 192 [some (.ref 37), some (.int x1), some (.int x2), some (.int x3), some (.int x4), some (.long x5), a6, some (.long x7), a8, some (.int x9), some (.long x10), a11, some (.int x12), some (.int x13), a14] [.int u0, .long u1, .long u2] (pv_em S) = pv_R mX7_chances 32 [some (.ref 37), some (.int x1), some (.int x2), some (.int x3), some (.int x4), some (.long (u2 + (u1 * (Int32.toInt64 u0)))), none, some (.long x7), (pv_nl a8), some (.int (x9 + 1)), some (.long x10), a11, some (.int x12), some (.int x13), a14] [] (pv_em S) := Eq.trans (pv_Rstp dX7_chances_192 rfl rfl rfl) (Eq.trans (pv_Rstp dX7_chances_193 rfl rfl rfl) (Eq.trans (pv_Rstp dX7_chances_194 rfl rfl rfl) (Eq.trans (pv_Rstp dX7_chances_195 rfl rfl rfl) (Eq.trans (pv_Rinc dX7_chances_197 rfl (Nat.le_of_ble_eq_true rfl) ki_1 rfl) (pv_Rgo (tgt := 32) dX7_chances_200 rfl (by decide))))))
set_option maxHeartbeats 200000 in
theorem bX7_chances_203 {S : pv_S} {x1 x2 x3 x4 x9 : Int32} {x5 x7 : Int64} {a6 a8 a10 a11 a12 a13 a14 : Option Value} : pv_R mX7_chances 203 [some (.ref 37), some (.int x1), some (.int x2), some (.int x3), some (.int x4), some (.long x5), a6, some (.long x7), a8, some (.int x9), a10, a11, a12, a13, a14] [] (pv_em S) = pv_cc (pv_R mX7_fraction 0 [some (.ref 37), some (.long x5), none, some (.long x7), none, none, none, none, none, none, none] [] (pv_em S)) mX7_chances 211 [some (.ref 37), some (.int x1), some (.int x2), some (.int x3), some (.int x4), some (.long x5), a6, some (.long x7), a8, some (.int x9), a10, a11, a12, a13, a14] [] := Eq.trans (pv_Rstp dX7_chances_203 rfl rfl rfl) (Eq.trans (pv_Rstp dX7_chances_204 rfl rfl rfl) (Eq.trans (pv_Rstp dX7_chances_206 rfl rfl rfl) (pv_Rcall (As := [.ref 37, .long x5, .long x7]) (rest := []) dX7_chances_208 rfl mfX7_235 rfl rfl rfl rfl rfl)))
set_option maxHeartbeats 200000 in
theorem bX7_chances_211 {S : pv_S} {x1 x2 x3 x4 x9 u0 : Int32} {x5 x7 : Int64} {a6 a8 a10 a11 a12 a13 a14 : Option Value} : pv_R mX7_chances 211 [some (.ref 37), some (.int x1), some (.int x2), some (.int x3), some (.int x4), some (.long x5), a6, some (.long x7), a8, some (.int x9), a10, a11, a12, a13, a14] [.int u0] (pv_em S) = some (some (.int u0), pv_em S) := pv_Rret dX7_chances_211 rfl
theorem dX7_plays_0 : decode cX7_plays 0 = .ok (.iload_n 1, 1) := by decide +kernel
theorem dX7_plays_1 : decode cX7_plays 1 = .ok (.ifCond .ne 11, 3) := by decide +kernel
theorem dX7_plays_4 : decode cX7_plays 4 = .ok (.aload_n 0, 1) := by decide +kernel
theorem dX7_plays_5 : decode cX7_plays 5 = .ok (.iload_n 2, 1) := by decide +kernel
theorem dX7_plays_6 : decode cX7_plays 6 = .ok (.invokevirtual 193, 3) := by decide +kernel
theorem dX7_plays_9 : decode cX7_plays 9 = .ok (.goto 47, 3) := by decide +kernel
theorem dX7_plays_12 : decode cX7_plays 12 = .ok (.iload_n 1, 1) := by decide +kernel
theorem dX7_plays_13 : decode cX7_plays 13 = .ok (.iconst 1, 1) := by decide +kernel
theorem dX7_plays_14 : decode cX7_plays 14 = .ok (.if_icmp .ne 11, 3) := by decide +kernel
theorem dX7_plays_17 : decode cX7_plays 17 = .ok (.aload_n 0, 1) := by decide +kernel
theorem dX7_plays_18 : decode cX7_plays 18 = .ok (.iconst 1, 1) := by decide +kernel
theorem dX7_plays_19 : decode cX7_plays 19 = .ok (.invokevirtual 196, 3) := by decide +kernel
theorem dX7_plays_22 : decode cX7_plays 22 = .ok (.goto 34, 3) := by decide +kernel
theorem dX7_plays_25 : decode cX7_plays 25 = .ok (.iload_n 1, 1) := by decide +kernel
theorem dX7_plays_26 : decode cX7_plays 26 = .ok (.iconst 2, 1) := by decide +kernel
theorem dX7_plays_27 : decode cX7_plays 27 = .ok (.if_icmp .ne 25, 3) := by decide +kernel
theorem dX7_plays_30 : decode cX7_plays 30 = .ok (.aload_n 0, 1) := by decide +kernel
theorem dX7_plays_31 : decode cX7_plays 31 = .ok (.getfield 28, 3) := by decide +kernel
theorem dX7_plays_34 : decode cX7_plays 34 = .ok (.bipush 8, 2) := by decide +kernel
theorem dX7_plays_36 : decode cX7_plays 36 = .ok (.iaload, 1) := by decide +kernel
theorem dX7_plays_37 : decode cX7_plays 37 = .ok (.aload_n 0, 1) := by decide +kernel
theorem dX7_plays_38 : decode cX7_plays 38 = .ok (.invokevirtual 186, 3) := by decide +kernel
theorem dX7_plays_41 : decode cX7_plays 41 = .ok (.if_icmp .lt 11, 3) := by decide +kernel
theorem dX7_plays_44 : decode cX7_plays 44 = .ok (.aload_n 0, 1) := by decide +kernel
theorem dX7_plays_45 : decode cX7_plays 45 = .ok (.iconst (-1), 1) := by decide +kernel
theorem dX7_plays_46 : decode cX7_plays 46 = .ok (.invokevirtual 196, 3) := by decide +kernel
theorem dX7_plays_49 : decode cX7_plays 49 = .ok (.goto 7, 3) := by decide +kernel
theorem dX7_plays_52 : decode cX7_plays 52 = .ok (.aload_n 0, 1) := by decide +kernel
theorem dX7_plays_53 : decode cX7_plays 53 = .ok (.invokevirtual 190, 3) := by decide +kernel
theorem dX7_plays_56 : decode cX7_plays 56 = .ok (.return_, 1) := by decide +kernel
set_option maxHeartbeats 200000 in
theorem bX7_plays_0 {S : pv_S} {x1 x2 : Int32} : pv_R mX7_plays 0 [some (.ref 37), some (.int x1), some (.int x2)] [] (pv_em S) = if ¬ x1 = 0 then pv_R mX7_plays 12 [some (.ref 37), some (.int x1), some (.int x2)] [] (pv_em S) else pv_R mX7_plays 4 [some (.ref 37), some (.int x1), some (.int x2)] [] (pv_em S) := Eq.trans (pv_Rstp dX7_plays_0 rfl rfl rfl) (pv_Rbr (tgt := 12) dX7_plays_1 rfl rfl rfl rfl rfl (by decide))
set_option maxHeartbeats 200000 in
theorem bX7_plays_4 {S : pv_S} {x1 x2 : Int32} : pv_R mX7_plays 4 [some (.ref 37), some (.int x1), some (.int x2)] [] (pv_em S) = pv_cc (pv_R mX7_eats 0 [some (.ref 37), some (.int x2)] [] (pv_em S)) mX7_plays 9 [some (.ref 37), some (.int x1), some (.int x2)] [] := Eq.trans (pv_Rstp dX7_plays_4 rfl rfl rfl) (Eq.trans (pv_Rstp dX7_plays_5 rfl rfl rfl) (pv_Rcall (As := [.ref 37, .int x2]) (rest := []) dX7_plays_6 rfl mfX7_193 rfl rfl rfl rfl rfl))
set_option maxHeartbeats 200000 in
theorem bX7_plays_9 {S : pv_S} {x1 x2 : Int32} : pv_R mX7_plays 9 [some (.ref 37), some (.int x1), some (.int x2)] [] (pv_em S) = pv_R mX7_plays 56 [some (.ref 37), some (.int x1), some (.int x2)] [] (pv_em S) := pv_Rgo (tgt := 56) dX7_plays_9 rfl (by decide)
set_option maxHeartbeats 200000 in
theorem bX7_plays_12 {S : pv_S} {x1 x2 : Int32} : pv_R mX7_plays 12 [some (.ref 37), some (.int x1), some (.int x2)] [] (pv_em S) = if ¬ x1 = 1 then pv_R mX7_plays 25 [some (.ref 37), some (.int x1), some (.int x2)] [] (pv_em S) else pv_R mX7_plays 17 [some (.ref 37), some (.int x1), some (.int x2)] [] (pv_em S) := Eq.trans (pv_Rstp dX7_plays_12 rfl rfl rfl) (Eq.trans (pv_Ric dX7_plays_13 ki_1) (pv_Rbr (tgt := 25) dX7_plays_14 rfl rfl rfl rfl rfl (by decide)))
set_option maxHeartbeats 200000 in
theorem bX7_plays_17 {S : pv_S} {x1 x2 : Int32} : pv_R mX7_plays 17 [some (.ref 37), some (.int x1), some (.int x2)] [] (pv_em S) = pv_cc (pv_R mX7_buys 0 [some (.ref 37), some (.int 1)] [] (pv_em S)) mX7_plays 22 [some (.ref 37), some (.int x1), some (.int x2)] [] := Eq.trans (pv_Rstp dX7_plays_17 rfl rfl rfl) (Eq.trans (pv_Ric dX7_plays_18 ki_1) (pv_Rcall (As := [.ref 37, .int 1]) (rest := []) dX7_plays_19 rfl mfX7_196 rfl rfl rfl rfl rfl))
set_option maxHeartbeats 200000 in
theorem bX7_plays_22 {S : pv_S} {x1 x2 : Int32} : pv_R mX7_plays 22 [some (.ref 37), some (.int x1), some (.int x2)] [] (pv_em S) = pv_R mX7_plays 56 [some (.ref 37), some (.int x1), some (.int x2)] [] (pv_em S) := pv_Rgo (tgt := 56) dX7_plays_22 rfl (by decide)
set_option maxHeartbeats 200000 in
theorem bX7_plays_25 {S : pv_S} {x1 x2 : Int32} : pv_R mX7_plays 25 [some (.ref 37), some (.int x1), some (.int x2)] [] (pv_em S) = if ¬ x1 = 2 then pv_R mX7_plays 52 [some (.ref 37), some (.int x1), some (.int x2)] [] (pv_em S) else pv_R mX7_plays 30 [some (.ref 37), some (.int x1), some (.int x2)] [] (pv_em S) := Eq.trans (pv_Rstp dX7_plays_25 rfl rfl rfl) (Eq.trans (pv_Ric dX7_plays_26 ki_2) (pv_Rbr (tgt := 52) dX7_plays_27 rfl rfl rfl rfl rfl (by decide)))
set_option maxHeartbeats 200000 in
theorem bX7_plays_30 {S : pv_S} {x1 x2 : Int32} : pv_R mX7_plays 30 [some (.ref 37), some (.int x1), some (.int x2)] [] (pv_em S) = pv_cc (pv_R mX7_pound 0 [some (.ref 37)] [] (pv_em S)) mX7_plays 41 [some (.ref 37), some (.int x1), some (.int x2)] [.int (S.1 44 (8 : Int32).toNatClampNeg)] := Eq.trans (pv_Rstp dX7_plays_30 rfl rfl rfl) (Eq.trans (pv_Rget dX7_plays_31 ffX7_28 (by decide) (pv_ce_37 _ _) rfl) (Eq.trans (pv_Rbp dX7_plays_34 kb_8) (Eq.trans (pv_Rald dX7_plays_36 (by decide) (pv_ce_44 _ _)) (Eq.trans (if_neg (by decide +kernel)) (Eq.trans (pv_Rstp dX7_plays_37 rfl rfl rfl) (pv_Rcall (As := [.ref 37]) (rest := [.int (S.1 44 (8 : Int32).toNatClampNeg)]) dX7_plays_38 rfl mfX7_186 rfl rfl rfl rfl rfl))))))
set_option maxHeartbeats 200000 in
theorem bX7_plays_41 {S : pv_S} {x1 x2 u0 u1 : Int32} : pv_R mX7_plays 41 [some (.ref 37), some (.int x1), some (.int x2)] [.int u0, .int u1] (pv_em S) = if u1 < u0 then pv_R mX7_plays 52 [some (.ref 37), some (.int x1), some (.int x2)] [] (pv_em S) else pv_R mX7_plays 44 [some (.ref 37), some (.int x1), some (.int x2)] [] (pv_em S) := pv_Rbr (tgt := 52) dX7_plays_41 rfl rfl rfl rfl rfl (by decide)
set_option maxHeartbeats 200000 in
theorem bX7_plays_44 {S : pv_S} {x1 x2 : Int32} : pv_R mX7_plays 44 [some (.ref 37), some (.int x1), some (.int x2)] [] (pv_em S) = pv_cc (pv_R mX7_buys 0 [some (.ref 37), some (.int (-1))] [] (pv_em S)) mX7_plays 49 [some (.ref 37), some (.int x1), some (.int x2)] [] := Eq.trans (pv_Rstp dX7_plays_44 rfl rfl rfl) (Eq.trans (pv_Ric dX7_plays_45 ki_m1) (pv_Rcall (As := [.ref 37, .int (-1)]) (rest := []) dX7_plays_46 rfl mfX7_196 rfl rfl rfl rfl rfl))
set_option maxHeartbeats 200000 in
theorem bX7_plays_49 {S : pv_S} {x1 x2 : Int32} : pv_R mX7_plays 49 [some (.ref 37), some (.int x1), some (.int x2)] [] (pv_em S) = pv_R mX7_plays 56 [some (.ref 37), some (.int x1), some (.int x2)] [] (pv_em S) := pv_Rgo (tgt := 56) dX7_plays_49 rfl (by decide)
set_option maxHeartbeats 200000 in
theorem bX7_plays_52 {S : pv_S} {x1 x2 : Int32} : pv_R mX7_plays 52 [some (.ref 37), some (.int x1), some (.int x2)] [] (pv_em S) = pv_cc (pv_R mX7_hourGoes 0 [some (.ref 37), none] [] (pv_em S)) mX7_plays 56 [some (.ref 37), some (.int x1), some (.int x2)] [] := Eq.trans (pv_Rstp dX7_plays_52 rfl rfl rfl) (pv_Rcall (As := [.ref 37]) (rest := []) dX7_plays_53 rfl mfX7_190 rfl rfl rfl rfl rfl)
set_option maxHeartbeats 200000 in
theorem bX7_plays_56 {S : pv_S} {x1 x2 : Int32} : pv_R mX7_plays 56 [some (.ref 37), some (.int x1), some (.int x2)] [] (pv_em S) = some (none, pv_em S) := pv_Rret dX7_plays_56 rfl
theorem dX7_counted_0 : decode cX7_counted 0 = .ok (.iconst 0, 1) := by decide +kernel
theorem dX7_counted_1 : decode cX7_counted 1 = .ok (.istore_n 2, 1) := by decide +kernel
theorem dX7_counted_2 : decode cX7_counted 2 = .ok (.iconst 0, 1) := by decide +kernel
theorem dX7_counted_3 : decode cX7_counted 3 = .ok (.istore_n 3, 1) := by decide +kernel
theorem dX7_counted_4 : decode cX7_counted 4 = .ok (.iload_n 3, 1) := by decide +kernel
theorem dX7_counted_5 : decode cX7_counted 5 = .ok (.bipush 6, 2) := by decide +kernel
theorem dX7_counted_7 : decode cX7_counted 7 = .ok (.if_icmp .ge 32, 3) := by decide +kernel
theorem dX7_counted_10 : decode cX7_counted 10 = .ok (.iload_n 1, 1) := by decide +kernel
theorem dX7_counted_11 : decode cX7_counted 11 = .ok (.bipush 9, 2) := by decide +kernel
theorem dX7_counted_13 : decode cX7_counted 13 = .ok (.if_icmp .ne 26, 3) := by decide +kernel
theorem dX7_counted_16 : decode cX7_counted 16 = .ok (.iload_n 2, 1) := by decide +kernel
theorem dX7_counted_17 : decode cX7_counted 17 = .ok (.aload_n 0, 1) := by decide +kernel
theorem dX7_counted_18 : decode cX7_counted 18 = .ok (.getfield 7, 3) := by decide +kernel
theorem dX7_counted_21 : decode cX7_counted 21 = .ok (.iload_n 3, 1) := by decide +kernel
theorem dX7_counted_22 : decode cX7_counted 22 = .ok (.iaload, 1) := by decide +kernel
theorem dX7_counted_23 : decode cX7_counted 23 = .ok (.ifCond .ge 7, 3) := by decide +kernel
theorem dX7_counted_26 : decode cX7_counted 26 = .ok (.iconst 0, 1) := by decide +kernel
theorem dX7_counted_27 : decode cX7_counted 27 = .ok (.goto 4, 3) := by decide +kernel
theorem dX7_counted_30 : decode cX7_counted 30 = .ok (.iconst 1, 1) := by decide +kernel
theorem dX7_counted_31 : decode cX7_counted 31 = .ok (.iadd, 1) := by decide +kernel
theorem dX7_counted_32 : decode cX7_counted 32 = .ok (.istore_n 2, 1) := by decide +kernel
theorem dX7_counted_33 : decode cX7_counted 33 = .ok (.iinc 3 1, 3) := by decide +kernel
theorem dX7_counted_36 : decode cX7_counted 36 = .ok (.goto (-32), 3) := by decide +kernel
theorem dX7_counted_39 : decode cX7_counted 39 = .ok (.iconst 0, 1) := by decide +kernel
theorem dX7_counted_40 : decode cX7_counted 40 = .ok (.istore_n 3, 1) := by decide +kernel
theorem dX7_counted_41 : decode cX7_counted 41 = .ok (.iload_n 3, 1) := by decide +kernel
theorem dX7_counted_42 : decode cX7_counted 42 = .ok (.iconst 4, 1) := by decide +kernel
theorem dX7_counted_43 : decode cX7_counted 43 = .ok (.if_icmp .ge 32, 3) := by decide +kernel
theorem dX7_counted_46 : decode cX7_counted 46 = .ok (.iload_n 1, 1) := by decide +kernel
theorem dX7_counted_47 : decode cX7_counted 47 = .ok (.bipush 10, 2) := by decide +kernel
theorem dX7_counted_49 : decode cX7_counted 49 = .ok (.if_icmp .ne 26, 3) := by decide +kernel
theorem dX7_counted_52 : decode cX7_counted 52 = .ok (.iload_n 2, 1) := by decide +kernel
theorem dX7_counted_53 : decode cX7_counted 53 = .ok (.aload_n 0, 1) := by decide +kernel
theorem dX7_counted_54 : decode cX7_counted 54 = .ok (.getfield 16, 3) := by decide +kernel
theorem dX7_counted_57 : decode cX7_counted 57 = .ok (.iload_n 3, 1) := by decide +kernel
theorem dX7_counted_58 : decode cX7_counted 58 = .ok (.iaload, 1) := by decide +kernel
theorem dX7_counted_59 : decode cX7_counted 59 = .ok (.ifCond .ge 7, 3) := by decide +kernel
theorem dX7_counted_62 : decode cX7_counted 62 = .ok (.iconst 0, 1) := by decide +kernel
theorem dX7_counted_63 : decode cX7_counted 63 = .ok (.goto 4, 3) := by decide +kernel
theorem dX7_counted_66 : decode cX7_counted 66 = .ok (.iconst 1, 1) := by decide +kernel
theorem dX7_counted_67 : decode cX7_counted 67 = .ok (.iadd, 1) := by decide +kernel
theorem dX7_counted_68 : decode cX7_counted 68 = .ok (.istore_n 2, 1) := by decide +kernel
theorem dX7_counted_69 : decode cX7_counted 69 = .ok (.iinc 3 1, 3) := by decide +kernel
theorem dX7_counted_72 : decode cX7_counted 72 = .ok (.goto (-31), 3) := by decide +kernel
theorem dX7_counted_75 : decode cX7_counted 75 = .ok (.iconst 0, 1) := by decide +kernel
theorem dX7_counted_76 : decode cX7_counted 76 = .ok (.istore_n 3, 1) := by decide +kernel
theorem dX7_counted_77 : decode cX7_counted 77 = .ok (.iload_n 3, 1) := by decide +kernel
theorem dX7_counted_78 : decode cX7_counted 78 = .ok (.iconst 3, 1) := by decide +kernel
theorem dX7_counted_79 : decode cX7_counted 79 = .ok (.if_icmp .ge 32, 3) := by decide +kernel
theorem dX7_counted_82 : decode cX7_counted 82 = .ok (.iload_n 1, 1) := by decide +kernel
theorem dX7_counted_83 : decode cX7_counted 83 = .ok (.bipush 11, 2) := by decide +kernel
theorem dX7_counted_85 : decode cX7_counted 85 = .ok (.if_icmp .ne 26, 3) := by decide +kernel
theorem dX7_counted_88 : decode cX7_counted 88 = .ok (.iload_n 2, 1) := by decide +kernel
theorem dX7_counted_89 : decode cX7_counted 89 = .ok (.aload_n 0, 1) := by decide +kernel
theorem dX7_counted_90 : decode cX7_counted 90 = .ok (.getfield 37, 3) := by decide +kernel
theorem dX7_counted_93 : decode cX7_counted 93 = .ok (.iload_n 3, 1) := by decide +kernel
theorem dX7_counted_94 : decode cX7_counted 94 = .ok (.baload, 1) := by decide +kernel
theorem dX7_counted_95 : decode cX7_counted 95 = .ok (.ifCond .eq 7, 3) := by decide +kernel
theorem dX7_counted_98 : decode cX7_counted 98 = .ok (.iconst 1, 1) := by decide +kernel
theorem dX7_counted_99 : decode cX7_counted 99 = .ok (.goto 4, 3) := by decide +kernel
theorem dX7_counted_102 : decode cX7_counted 102 = .ok (.iconst 0, 1) := by decide +kernel
theorem dX7_counted_103 : decode cX7_counted 103 = .ok (.iadd, 1) := by decide +kernel
theorem dX7_counted_104 : decode cX7_counted 104 = .ok (.istore_n 2, 1) := by decide +kernel
theorem dX7_counted_105 : decode cX7_counted 105 = .ok (.iinc 3 1, 3) := by decide +kernel
theorem dX7_counted_108 : decode cX7_counted 108 = .ok (.goto (-31), 3) := by decide +kernel
theorem dX7_counted_111 : decode cX7_counted 111 = .ok (.iload_n 1, 1) := by decide +kernel
theorem dX7_counted_112 : decode cX7_counted 112 = .ok (.tableswitch 108 0 8 #[52, 57, 65, 70, 78, 83, 91, 96, 102], 52) := by decide +kernel
theorem dX7_counted_164 : decode cX7_counted 164 = .ok (.aload_n 0, 1) := by decide +kernel
theorem dX7_counted_165 : decode cX7_counted 165 = .ok (.getfield 138, 3) := by decide +kernel
theorem dX7_counted_168 : decode cX7_counted 168 = .ok (.ireturn, 1) := by decide +kernel
theorem dX7_counted_169 : decode cX7_counted 169 = .ok (.aload_n 0, 1) := by decide +kernel
theorem dX7_counted_170 : decode cX7_counted 170 = .ok (.getfield 28, 3) := by decide +kernel
theorem dX7_counted_173 : decode cX7_counted 173 = .ok (.bipush 6, 2) := by decide +kernel
theorem dX7_counted_175 : decode cX7_counted 175 = .ok (.iaload, 1) := by decide +kernel
theorem dX7_counted_176 : decode cX7_counted 176 = .ok (.ireturn, 1) := by decide +kernel
theorem dX7_counted_177 : decode cX7_counted 177 = .ok (.aload_n 0, 1) := by decide +kernel
theorem dX7_counted_178 : decode cX7_counted 178 = .ok (.getfield 144, 3) := by decide +kernel
theorem dX7_counted_181 : decode cX7_counted 181 = .ok (.ireturn, 1) := by decide +kernel
theorem dX7_counted_182 : decode cX7_counted 182 = .ok (.aload_n 0, 1) := by decide +kernel
theorem dX7_counted_183 : decode cX7_counted 183 = .ok (.getfield 28, 3) := by decide +kernel
theorem dX7_counted_186 : decode cX7_counted 186 = .ok (.bipush 8, 2) := by decide +kernel
theorem dX7_counted_188 : decode cX7_counted 188 = .ok (.iaload, 1) := by decide +kernel
theorem dX7_counted_189 : decode cX7_counted 189 = .ok (.ireturn, 1) := by decide +kernel
theorem dX7_counted_190 : decode cX7_counted 190 = .ok (.aload_n 0, 1) := by decide +kernel
theorem dX7_counted_191 : decode cX7_counted 191 = .ok (.invokevirtual 186, 3) := by decide +kernel
theorem dX7_counted_194 : decode cX7_counted 194 = .ok (.ireturn, 1) := by decide +kernel
theorem dX7_counted_195 : decode cX7_counted 195 = .ok (.aload_n 0, 1) := by decide +kernel
theorem dX7_counted_196 : decode cX7_counted 196 = .ok (.getfield 28, 3) := by decide +kernel
theorem dX7_counted_199 : decode cX7_counted 199 = .ok (.bipush 9, 2) := by decide +kernel
theorem dX7_counted_201 : decode cX7_counted 201 = .ok (.iaload, 1) := by decide +kernel
theorem dX7_counted_202 : decode cX7_counted 202 = .ok (.ireturn, 1) := by decide +kernel
theorem dX7_counted_203 : decode cX7_counted 203 = .ok (.aload_n 0, 1) := by decide +kernel
theorem dX7_counted_204 : decode cX7_counted 204 = .ok (.getfield 141, 3) := by decide +kernel
theorem dX7_counted_207 : decode cX7_counted 207 = .ok (.ireturn, 1) := by decide +kernel
theorem dX7_counted_208 : decode cX7_counted 208 = .ok (.aload_n 0, 1) := by decide +kernel
theorem dX7_counted_209 : decode cX7_counted 209 = .ok (.iconst 1, 1) := by decide +kernel
theorem dX7_counted_210 : decode cX7_counted 210 = .ok (.invokevirtual 176, 3) := by decide +kernel
theorem dX7_counted_213 : decode cX7_counted 213 = .ok (.ireturn, 1) := by decide +kernel
theorem dX7_counted_214 : decode cX7_counted 214 = .ok (.aload_n 0, 1) := by decide +kernel
theorem dX7_counted_215 : decode cX7_counted 215 = .ok (.iconst 3, 1) := by decide +kernel
theorem dX7_counted_216 : decode cX7_counted 216 = .ok (.invokevirtual 176, 3) := by decide +kernel
theorem dX7_counted_219 : decode cX7_counted 219 = .ok (.ireturn, 1) := by decide +kernel
theorem dX7_counted_220 : decode cX7_counted 220 = .ok (.iload_n 2, 1) := by decide +kernel
theorem dX7_counted_221 : decode cX7_counted 221 = .ok (.ireturn, 1) := by decide +kernel
set_option maxHeartbeats 200000 in
theorem bX7_counted_0 {S : pv_S} {x1 : Int32} {a2 a3 : Option Value} : pv_R mX7_counted 0 [some (.ref 37), some (.int x1), a2, a3] [] (pv_em S) = pv_R mX7_counted 4 [some (.ref 37), some (.int x1), some (.int 0), some (.int 0)] [] (pv_em S) := Eq.trans (pv_Ric dX7_counted_0 ki_0) (Eq.trans (pv_Rstp dX7_counted_1 rfl rfl rfl) (Eq.trans (pv_Ric dX7_counted_2 ki_0) (pv_Rstp dX7_counted_3 rfl rfl rfl)))
set_option maxHeartbeats 200000 in
theorem bX7_counted_4 {S : pv_S} {x1 x2 x3 : Int32} : pv_R mX7_counted 4 [some (.ref 37), some (.int x1), some (.int x2), some (.int x3)] [] (pv_em S) = if 6 ≤ x3 then pv_R mX7_counted 39 [some (.ref 37), some (.int x1), some (.int x2), some (.int x3)] [] (pv_em S) else pv_R mX7_counted 10 [some (.ref 37), some (.int x1), some (.int x2), some (.int x3)] [] (pv_em S) := Eq.trans (pv_Rstp dX7_counted_4 rfl rfl rfl) (Eq.trans (pv_Rbp dX7_counted_5 kb_6) (pv_Rbr (tgt := 39) dX7_counted_7 rfl rfl rfl rfl rfl (by decide)))
set_option maxHeartbeats 200000 in
theorem bX7_counted_10 {S : pv_S} {x1 x2 x3 : Int32} : pv_R mX7_counted 10 [some (.ref 37), some (.int x1), some (.int x2), some (.int x3)] [] (pv_em S) = if ¬ x1 = 9 then pv_R mX7_counted 39 [some (.ref 37), some (.int x1), some (.int x2), some (.int x3)] [] (pv_em S) else pv_R mX7_counted 16 [some (.ref 37), some (.int x1), some (.int x2), some (.int x3)] [] (pv_em S) := Eq.trans (pv_Rstp dX7_counted_10 rfl rfl rfl) (Eq.trans (pv_Rbp dX7_counted_11 kb_9) (pv_Rbr (tgt := 39) dX7_counted_13 rfl rfl rfl rfl rfl (by decide)))
set_option maxHeartbeats 200000 in
theorem bX7_counted_16 {S : pv_S} {x1 x2 x3 : Int32} : pv_R mX7_counted 16 [some (.ref 37), some (.int x1), some (.int x2), some (.int x3)] [] (pv_em S) = if x3 < 0 ∨ 6 ≤ x3.toNatClampNeg then none else if 0 ≤ (S.1 38 x3.toNatClampNeg) then pv_R mX7_counted 30 [some (.ref 37), some (.int x1), some (.int x2), some (.int x3)] [.int x2] (pv_em S) else pv_R mX7_counted 26 [some (.ref 37), some (.int x1), some (.int x2), some (.int x3)] [.int x2] (pv_em S) := Eq.trans (pv_Rstp dX7_counted_16 rfl rfl rfl) (Eq.trans (pv_Rstp dX7_counted_17 rfl rfl rfl) (Eq.trans (pv_Rget dX7_counted_18 ffX7_7 (by decide) (pv_ce_37 _ _) rfl) (Eq.trans (pv_Rstp dX7_counted_21 rfl rfl rfl) (Eq.trans (pv_Rald dX7_counted_22 (by decide) (pv_ce_38 _ _)) (pv_iteN (fun h1 => pv_Rbr (tgt := 30) dX7_counted_23 rfl rfl rfl rfl rfl (by decide)))))))
set_option maxHeartbeats 200000 in
theorem bX7_counted_26 {S : pv_S} {x1 x2 x3 u0 : Int32} : pv_R mX7_counted 26 [some (.ref 37), some (.int x1), some (.int x2), some (.int x3)] [.int u0] (pv_em S) = pv_R mX7_counted 31 [some (.ref 37), some (.int x1), some (.int x2), some (.int x3)] [.int 0, .int u0] (pv_em S) := Eq.trans (pv_Ric dX7_counted_26 ki_0) (pv_Rgo (tgt := 31) dX7_counted_27 rfl (by decide))
set_option maxHeartbeats 200000 in
theorem bX7_counted_30 {S : pv_S} {x1 x2 x3 u0 : Int32} : pv_R mX7_counted 30 [some (.ref 37), some (.int x1), some (.int x2), some (.int x3)] [.int u0] (pv_em S) = pv_R mX7_counted 31 [some (.ref 37), some (.int x1), some (.int x2), some (.int x3)] [.int 1, .int u0] (pv_em S) := pv_Ric dX7_counted_30 ki_1
set_option maxHeartbeats 200000 in
theorem bX7_counted_31 {S : pv_S} {x1 x2 x3 u0 u1 : Int32} : pv_R mX7_counted 31 [some (.ref 37), some (.int x1), some (.int x2), some (.int x3)] [.int u0, .int u1] (pv_em S) = pv_R mX7_counted 4 [some (.ref 37), some (.int x1), some (.int (u1 + u0)), some (.int (x3 + 1))] [] (pv_em S) := Eq.trans (pv_Rstp dX7_counted_31 rfl rfl rfl) (Eq.trans (pv_Rstp dX7_counted_32 rfl rfl rfl) (Eq.trans (pv_Rinc dX7_counted_33 rfl (Nat.le_of_ble_eq_true rfl) ki_1 rfl) (pv_Rgo (tgt := 4) dX7_counted_36 rfl (by decide))))
set_option maxHeartbeats 200000 in
theorem bX7_counted_39 {S : pv_S} {x1 x2 x3 : Int32} : pv_R mX7_counted 39 [some (.ref 37), some (.int x1), some (.int x2), some (.int x3)] [] (pv_em S) = pv_R mX7_counted 41 [some (.ref 37), some (.int x1), some (.int x2), some (.int 0)] [] (pv_em S) := Eq.trans (pv_Ric dX7_counted_39 ki_0) (pv_Rstp dX7_counted_40 rfl rfl rfl)
set_option maxHeartbeats 200000 in
theorem bX7_counted_41 {S : pv_S} {x1 x2 x3 : Int32} : pv_R mX7_counted 41 [some (.ref 37), some (.int x1), some (.int x2), some (.int x3)] [] (pv_em S) = if 4 ≤ x3 then pv_R mX7_counted 75 [some (.ref 37), some (.int x1), some (.int x2), some (.int x3)] [] (pv_em S) else pv_R mX7_counted 46 [some (.ref 37), some (.int x1), some (.int x2), some (.int x3)] [] (pv_em S) := Eq.trans (pv_Rstp dX7_counted_41 rfl rfl rfl) (Eq.trans (pv_Ric dX7_counted_42 ki_4) (pv_Rbr (tgt := 75) dX7_counted_43 rfl rfl rfl rfl rfl (by decide)))
set_option maxHeartbeats 200000 in
theorem bX7_counted_46 {S : pv_S} {x1 x2 x3 : Int32} : pv_R mX7_counted 46 [some (.ref 37), some (.int x1), some (.int x2), some (.int x3)] [] (pv_em S) = if ¬ x1 = 10 then pv_R mX7_counted 75 [some (.ref 37), some (.int x1), some (.int x2), some (.int x3)] [] (pv_em S) else pv_R mX7_counted 52 [some (.ref 37), some (.int x1), some (.int x2), some (.int x3)] [] (pv_em S) := Eq.trans (pv_Rstp dX7_counted_46 rfl rfl rfl) (Eq.trans (pv_Rbp dX7_counted_47 kb_10) (pv_Rbr (tgt := 75) dX7_counted_49 rfl rfl rfl rfl rfl (by decide)))
set_option maxHeartbeats 200000 in
theorem bX7_counted_52 {S : pv_S} {x1 x2 x3 : Int32} : pv_R mX7_counted 52 [some (.ref 37), some (.int x1), some (.int x2), some (.int x3)] [] (pv_em S) = if x3 < 0 ∨ 4 ≤ x3.toNatClampNeg then none else if 0 ≤ (S.1 40 x3.toNatClampNeg) then pv_R mX7_counted 66 [some (.ref 37), some (.int x1), some (.int x2), some (.int x3)] [.int x2] (pv_em S) else pv_R mX7_counted 62 [some (.ref 37), some (.int x1), some (.int x2), some (.int x3)] [.int x2] (pv_em S) := Eq.trans (pv_Rstp dX7_counted_52 rfl rfl rfl) (Eq.trans (pv_Rstp dX7_counted_53 rfl rfl rfl) (Eq.trans (pv_Rget dX7_counted_54 ffX7_16 (by decide) (pv_ce_37 _ _) rfl) (Eq.trans (pv_Rstp dX7_counted_57 rfl rfl rfl) (Eq.trans (pv_Rald dX7_counted_58 (by decide) (pv_ce_40 _ _)) (pv_iteN (fun h1 => pv_Rbr (tgt := 66) dX7_counted_59 rfl rfl rfl rfl rfl (by decide)))))))
set_option maxHeartbeats 200000 in
theorem bX7_counted_62 {S : pv_S} {x1 x2 x3 u0 : Int32} : pv_R mX7_counted 62 [some (.ref 37), some (.int x1), some (.int x2), some (.int x3)] [.int u0] (pv_em S) = pv_R mX7_counted 67 [some (.ref 37), some (.int x1), some (.int x2), some (.int x3)] [.int 0, .int u0] (pv_em S) := Eq.trans (pv_Ric dX7_counted_62 ki_0) (pv_Rgo (tgt := 67) dX7_counted_63 rfl (by decide))
set_option maxHeartbeats 200000 in
theorem bX7_counted_66 {S : pv_S} {x1 x2 x3 u0 : Int32} : pv_R mX7_counted 66 [some (.ref 37), some (.int x1), some (.int x2), some (.int x3)] [.int u0] (pv_em S) = pv_R mX7_counted 67 [some (.ref 37), some (.int x1), some (.int x2), some (.int x3)] [.int 1, .int u0] (pv_em S) := pv_Ric dX7_counted_66 ki_1
set_option maxHeartbeats 200000 in
theorem bX7_counted_67 {S : pv_S} {x1 x2 x3 u0 u1 : Int32} : pv_R mX7_counted 67 [some (.ref 37), some (.int x1), some (.int x2), some (.int x3)] [.int u0, .int u1] (pv_em S) = pv_R mX7_counted 41 [some (.ref 37), some (.int x1), some (.int (u1 + u0)), some (.int (x3 + 1))] [] (pv_em S) := Eq.trans (pv_Rstp dX7_counted_67 rfl rfl rfl) (Eq.trans (pv_Rstp dX7_counted_68 rfl rfl rfl) (Eq.trans (pv_Rinc dX7_counted_69 rfl (Nat.le_of_ble_eq_true rfl) ki_1 rfl) (pv_Rgo (tgt := 41) dX7_counted_72 rfl (by decide))))
set_option maxHeartbeats 200000 in
theorem bX7_counted_75 {S : pv_S} {x1 x2 x3 : Int32} : pv_R mX7_counted 75 [some (.ref 37), some (.int x1), some (.int x2), some (.int x3)] [] (pv_em S) = pv_R mX7_counted 77 [some (.ref 37), some (.int x1), some (.int x2), some (.int 0)] [] (pv_em S) := Eq.trans (pv_Ric dX7_counted_75 ki_0) (pv_Rstp dX7_counted_76 rfl rfl rfl)
set_option maxHeartbeats 200000 in
theorem bX7_counted_77 {S : pv_S} {x1 x2 x3 : Int32} : pv_R mX7_counted 77 [some (.ref 37), some (.int x1), some (.int x2), some (.int x3)] [] (pv_em S) = if 3 ≤ x3 then pv_R mX7_counted 111 [some (.ref 37), some (.int x1), some (.int x2), some (.int x3)] [] (pv_em S) else pv_R mX7_counted 82 [some (.ref 37), some (.int x1), some (.int x2), some (.int x3)] [] (pv_em S) := Eq.trans (pv_Rstp dX7_counted_77 rfl rfl rfl) (Eq.trans (pv_Ric dX7_counted_78 ki_3) (pv_Rbr (tgt := 111) dX7_counted_79 rfl rfl rfl rfl rfl (by decide)))
set_option maxHeartbeats 200000 in
theorem bX7_counted_82 {S : pv_S} {x1 x2 x3 : Int32} : pv_R mX7_counted 82 [some (.ref 37), some (.int x1), some (.int x2), some (.int x3)] [] (pv_em S) = if ¬ x1 = 11 then pv_R mX7_counted 111 [some (.ref 37), some (.int x1), some (.int x2), some (.int x3)] [] (pv_em S) else pv_R mX7_counted 88 [some (.ref 37), some (.int x1), some (.int x2), some (.int x3)] [] (pv_em S) := Eq.trans (pv_Rstp dX7_counted_82 rfl rfl rfl) (Eq.trans (pv_Rbp dX7_counted_83 kb_11) (pv_Rbr (tgt := 111) dX7_counted_85 rfl rfl rfl rfl rfl (by decide)))
set_option maxHeartbeats 200000 in
theorem bX7_counted_88 {S : pv_S} {x1 x2 x3 : Int32} : pv_R mX7_counted 88 [some (.ref 37), some (.int x1), some (.int x2), some (.int x3)] [] (pv_em S) = if x3 < 0 ∨ 3 ≤ x3.toNatClampNeg then none else if (S.1 47 x3.toNatClampNeg) = 0 then pv_R mX7_counted 102 [some (.ref 37), some (.int x1), some (.int x2), some (.int x3)] [.int x2] (pv_em S) else pv_R mX7_counted 98 [some (.ref 37), some (.int x1), some (.int x2), some (.int x3)] [.int x2] (pv_em S) := Eq.trans (pv_Rstp dX7_counted_88 rfl rfl rfl) (Eq.trans (pv_Rstp dX7_counted_89 rfl rfl rfl) (Eq.trans (pv_Rget dX7_counted_90 ffX7_37 (by decide) (pv_ce_37 _ _) rfl) (Eq.trans (pv_Rstp dX7_counted_93 rfl rfl rfl) (Eq.trans (pv_Rzald dX7_counted_94 (by decide) (pv_ce_47 _ _)) (pv_iteN (fun h1 => pv_Rbr (tgt := 102) dX7_counted_95 rfl rfl rfl rfl rfl (by decide)))))))
set_option maxHeartbeats 200000 in
theorem bX7_counted_98 {S : pv_S} {x1 x2 x3 u0 : Int32} : pv_R mX7_counted 98 [some (.ref 37), some (.int x1), some (.int x2), some (.int x3)] [.int u0] (pv_em S) = pv_R mX7_counted 103 [some (.ref 37), some (.int x1), some (.int x2), some (.int x3)] [.int 1, .int u0] (pv_em S) := Eq.trans (pv_Ric dX7_counted_98 ki_1) (pv_Rgo (tgt := 103) dX7_counted_99 rfl (by decide))
set_option maxHeartbeats 200000 in
theorem bX7_counted_102 {S : pv_S} {x1 x2 x3 u0 : Int32} : pv_R mX7_counted 102 [some (.ref 37), some (.int x1), some (.int x2), some (.int x3)] [.int u0] (pv_em S) = pv_R mX7_counted 103 [some (.ref 37), some (.int x1), some (.int x2), some (.int x3)] [.int 0, .int u0] (pv_em S) := pv_Ric dX7_counted_102 ki_0
set_option maxHeartbeats 200000 in
theorem bX7_counted_103 {S : pv_S} {x1 x2 x3 u0 u1 : Int32} : pv_R mX7_counted 103 [some (.ref 37), some (.int x1), some (.int x2), some (.int x3)] [.int u0, .int u1] (pv_em S) = pv_R mX7_counted 77 [some (.ref 37), some (.int x1), some (.int (u1 + u0)), some (.int (x3 + 1))] [] (pv_em S) := Eq.trans (pv_Rstp dX7_counted_103 rfl rfl rfl) (Eq.trans (pv_Rstp dX7_counted_104 rfl rfl rfl) (Eq.trans (pv_Rinc dX7_counted_105 rfl (Nat.le_of_ble_eq_true rfl) ki_1 rfl) (pv_Rgo (tgt := 77) dX7_counted_108 rfl (by decide))))
set_option maxHeartbeats 200000 in
theorem bX7_counted_111 {S : pv_S} {x1 x2 x3 : Int32} : pv_R mX7_counted 111 [some (.ref 37), some (.int x1), some (.int x2), some (.int x3)] [] (pv_em S) = pv_R mX7_counted (pv_swt (Int32.toInt x1) 0 [164, 169, 177, 182, 190, 195, 203, 208, 214] 220) [some (.ref 37), some (.int x1), some (.int x2), some (.int x3)] [] (pv_em S) := Eq.trans (pv_Rstp dX7_counted_111 rfl rfl rfl) (pv_Rtab (lo := 0) (tg := [164, 169, 177, 182, 190, 195, 203, 208, 214]) (dt := 220) dX7_counted_112 (by decide))
set_option maxHeartbeats 200000 in
theorem bX7_counted_164 {S : pv_S} {x1 x2 x3 : Int32} : pv_R mX7_counted 164 [some (.ref 37), some (.int x1), some (.int x2), some (.int x3)] [] (pv_em S) = some (some (.int (S.1 37 4)), pv_em S) := Eq.trans (pv_Rstp dX7_counted_164 rfl rfl rfl) (Eq.trans (pv_Rget dX7_counted_165 ffX7_138 (by decide) (pv_ce_37 _ _) rfl) (pv_Rret dX7_counted_168 rfl))
set_option maxHeartbeats 200000 in
theorem bX7_counted_169 {S : pv_S} {x1 x2 x3 : Int32} : pv_R mX7_counted 169 [some (.ref 37), some (.int x1), some (.int x2), some (.int x3)] [] (pv_em S) = some (some (.int (S.1 44 (6 : Int32).toNatClampNeg)), pv_em S) := Eq.trans (pv_Rstp dX7_counted_169 rfl rfl rfl) (Eq.trans (pv_Rget dX7_counted_170 ffX7_28 (by decide) (pv_ce_37 _ _) rfl) (Eq.trans (pv_Rbp dX7_counted_173 kb_6) (Eq.trans (pv_Rald dX7_counted_175 (by decide) (pv_ce_44 _ _)) (Eq.trans (if_neg (by decide +kernel)) (pv_Rret dX7_counted_176 rfl)))))
set_option maxHeartbeats 200000 in
theorem bX7_counted_177 {S : pv_S} {x1 x2 x3 : Int32} : pv_R mX7_counted 177 [some (.ref 37), some (.int x1), some (.int x2), some (.int x3)] [] (pv_em S) = some (some (.int (S.1 37 9)), pv_em S) := Eq.trans (pv_Rstp dX7_counted_177 rfl rfl rfl) (Eq.trans (pv_Rget dX7_counted_178 ffX7_144 (by decide) (pv_ce_37 _ _) rfl) (pv_Rret dX7_counted_181 rfl))
set_option maxHeartbeats 200000 in
theorem bX7_counted_182 {S : pv_S} {x1 x2 x3 : Int32} : pv_R mX7_counted 182 [some (.ref 37), some (.int x1), some (.int x2), some (.int x3)] [] (pv_em S) = some (some (.int (S.1 44 (8 : Int32).toNatClampNeg)), pv_em S) := Eq.trans (pv_Rstp dX7_counted_182 rfl rfl rfl) (Eq.trans (pv_Rget dX7_counted_183 ffX7_28 (by decide) (pv_ce_37 _ _) rfl) (Eq.trans (pv_Rbp dX7_counted_186 kb_8) (Eq.trans (pv_Rald dX7_counted_188 (by decide) (pv_ce_44 _ _)) (Eq.trans (if_neg (by decide +kernel)) (pv_Rret dX7_counted_189 rfl)))))
set_option maxHeartbeats 200000 in
theorem bX7_counted_190 {S : pv_S} {x1 x2 x3 : Int32} : pv_R mX7_counted 190 [some (.ref 37), some (.int x1), some (.int x2), some (.int x3)] [] (pv_em S) = pv_cc (pv_R mX7_pound 0 [some (.ref 37)] [] (pv_em S)) mX7_counted 194 [some (.ref 37), some (.int x1), some (.int x2), some (.int x3)] [] := Eq.trans (pv_Rstp dX7_counted_190 rfl rfl rfl) (pv_Rcall (As := [.ref 37]) (rest := []) dX7_counted_191 rfl mfX7_186 rfl rfl rfl rfl rfl)
set_option maxHeartbeats 200000 in
theorem bX7_counted_194 {S : pv_S} {x1 x2 x3 u0 : Int32} : pv_R mX7_counted 194 [some (.ref 37), some (.int x1), some (.int x2), some (.int x3)] [.int u0] (pv_em S) = some (some (.int u0), pv_em S) := pv_Rret dX7_counted_194 rfl
set_option maxHeartbeats 200000 in
theorem bX7_counted_195 {S : pv_S} {x1 x2 x3 : Int32} : pv_R mX7_counted 195 [some (.ref 37), some (.int x1), some (.int x2), some (.int x3)] [] (pv_em S) = some (some (.int (S.1 44 (9 : Int32).toNatClampNeg)), pv_em S) := Eq.trans (pv_Rstp dX7_counted_195 rfl rfl rfl) (Eq.trans (pv_Rget dX7_counted_196 ffX7_28 (by decide) (pv_ce_37 _ _) rfl) (Eq.trans (pv_Rbp dX7_counted_199 kb_9) (Eq.trans (pv_Rald dX7_counted_201 (by decide) (pv_ce_44 _ _)) (Eq.trans (if_neg (by decide +kernel)) (pv_Rret dX7_counted_202 rfl)))))
set_option maxHeartbeats 200000 in
theorem bX7_counted_203 {S : pv_S} {x1 x2 x3 : Int32} : pv_R mX7_counted 203 [some (.ref 37), some (.int x1), some (.int x2), some (.int x3)] [] (pv_em S) = some (some (.int (S.1 37 5)), pv_em S) := Eq.trans (pv_Rstp dX7_counted_203 rfl rfl rfl) (Eq.trans (pv_Rget dX7_counted_204 ffX7_141 (by decide) (pv_ce_37 _ _) rfl) (pv_Rret dX7_counted_207 rfl))
set_option maxHeartbeats 200000 in
theorem bX7_counted_208 {S : pv_S} {x1 x2 x3 : Int32} : pv_R mX7_counted 208 [some (.ref 37), some (.int x1), some (.int x2), some (.int x3)] [] (pv_em S) = pv_cc (pv_R mX7_kindsOf 0 [some (.ref 37), some (.int 1), none, none] [] (pv_em S)) mX7_counted 213 [some (.ref 37), some (.int x1), some (.int x2), some (.int x3)] [] := Eq.trans (pv_Rstp dX7_counted_208 rfl rfl rfl) (Eq.trans (pv_Ric dX7_counted_209 ki_1) (pv_Rcall (As := [.ref 37, .int 1]) (rest := []) dX7_counted_210 rfl mfX7_176 rfl rfl rfl rfl rfl))
set_option maxHeartbeats 200000 in
theorem bX7_counted_213 {S : pv_S} {x1 x2 x3 u0 : Int32} : pv_R mX7_counted 213 [some (.ref 37), some (.int x1), some (.int x2), some (.int x3)] [.int u0] (pv_em S) = some (some (.int u0), pv_em S) := pv_Rret dX7_counted_213 rfl
set_option maxHeartbeats 200000 in
theorem bX7_counted_214 {S : pv_S} {x1 x2 x3 : Int32} : pv_R mX7_counted 214 [some (.ref 37), some (.int x1), some (.int x2), some (.int x3)] [] (pv_em S) = pv_cc (pv_R mX7_kindsOf 0 [some (.ref 37), some (.int 3), none, none] [] (pv_em S)) mX7_counted 219 [some (.ref 37), some (.int x1), some (.int x2), some (.int x3)] [] := Eq.trans (pv_Rstp dX7_counted_214 rfl rfl rfl) (Eq.trans (pv_Ric dX7_counted_215 ki_3) (pv_Rcall (As := [.ref 37, .int 3]) (rest := []) dX7_counted_216 rfl mfX7_176 rfl rfl rfl rfl rfl))
set_option maxHeartbeats 200000 in
theorem bX7_counted_219 {S : pv_S} {x1 x2 x3 u0 : Int32} : pv_R mX7_counted 219 [some (.ref 37), some (.int x1), some (.int x2), some (.int x3)] [.int u0] (pv_em S) = some (some (.int u0), pv_em S) := pv_Rret dX7_counted_219 rfl
set_option maxHeartbeats 200000 in
theorem bX7_counted_220 {S : pv_S} {x1 x2 x3 : Int32} : pv_R mX7_counted 220 [some (.ref 37), some (.int x1), some (.int x2), some (.int x3)] [] (pv_em S) = some (some (.int x2), pv_em S) := Eq.trans (pv_Rstp dX7_counted_220 rfl rfl rfl) (pv_Rret dX7_counted_221 rfl)
theorem dX7_blanks_0 : decode cX7_blanks 0 = .ok (.aload_n 0, 1) := by decide +kernel
theorem dX7_blanks_1 : decode cX7_blanks 1 = .ok (.iload_n 1, 1) := by decide +kernel
theorem dX7_blanks_2 : decode cX7_blanks 2 = .ok (.invokevirtual 98, 3) := by decide +kernel
theorem dX7_blanks_5 : decode cX7_blanks 5 = .ok (.bipush 32, 2) := by decide +kernel
theorem dX7_blanks_7 : decode cX7_blanks 7 = .ok (.if_icmp .ne 16, 3) := by decide +kernel
theorem dX7_blanks_10 : decode cX7_blanks 10 = .ok (.aload_n 0, 1) := by decide +kernel
theorem dX7_blanks_11 : decode cX7_blanks 11 = .ok (.dup, 1) := by decide +kernel
theorem dX7_blanks_12 : decode cX7_blanks 12 = .ok (.getfield 95, 3) := by decide +kernel
theorem dX7_blanks_15 : decode cX7_blanks 15 = .ok (.iconst 1, 1) := by decide +kernel
theorem dX7_blanks_16 : decode cX7_blanks 16 = .ok (.iadd, 1) := by decide +kernel
theorem dX7_blanks_17 : decode cX7_blanks 17 = .ok (.putfield 95, 3) := by decide +kernel
theorem dX7_blanks_20 : decode cX7_blanks 20 = .ok (.goto (-20), 3) := by decide +kernel
theorem dX7_blanks_23 : decode cX7_blanks 23 = .ok (.return_, 1) := by decide +kernel
set_option maxHeartbeats 200000 in
theorem bX7_blanks_0 {S : pv_S} {x1 : Int32} : pv_R mX7_blanks 0 [some (.ref 37), some (.int x1)] [] (pv_em S) = pv_cc (pv_R mX7_byteAt 0 [some (.ref 37), some (.int x1)] [] (pv_em S)) mX7_blanks 5 [some (.ref 37), some (.int x1)] [] := Eq.trans (pv_Rstp dX7_blanks_0 rfl rfl rfl) (Eq.trans (pv_Rstp dX7_blanks_1 rfl rfl rfl) (pv_Rcall (As := [.ref 37, .int x1]) (rest := []) dX7_blanks_2 rfl mfX7_98 rfl rfl rfl rfl rfl))
set_option maxHeartbeats 200000 in
theorem bX7_blanks_5 {S : pv_S} {x1 u0 : Int32} : pv_R mX7_blanks 5 [some (.ref 37), some (.int x1)] [.int u0] (pv_em S) = if ¬ u0 = 32 then pv_R mX7_blanks 23 [some (.ref 37), some (.int x1)] [] (pv_em S) else pv_R mX7_blanks 10 [some (.ref 37), some (.int x1)] [] (pv_em S) := Eq.trans (pv_Rbp dX7_blanks_5 kb_32) (pv_Rbr (tgt := 23) dX7_blanks_7 rfl rfl rfl rfl rfl (by decide))
set_option maxHeartbeats 200000 in
theorem bX7_blanks_10 {S : pv_S} {x1 : Int32} : pv_R mX7_blanks 10 [some (.ref 37), some (.int x1)] [] (pv_em S) = pv_R mX7_blanks 0 [some (.ref 37), some (.int x1)] [] (pv_em (pv_si S 37 18 ((S.1 37 18) + 1))) := Eq.trans (pv_Rstp dX7_blanks_10 rfl rfl rfl) (Eq.trans (pv_Rstp dX7_blanks_11 rfl rfl rfl) (Eq.trans (pv_Rget dX7_blanks_12 ffX7_95 (by decide) (pv_ce_37 _ _) rfl) (Eq.trans (pv_Ric dX7_blanks_15 ki_1) (Eq.trans (pv_Rstp dX7_blanks_16 rfl rfl rfl) (Eq.trans (pv_Rput dX7_blanks_17 ffX7_95 rfl rfl rfl (by decide) (pv_ce_37 _ _) (Nat.le_of_ble_eq_true rfl) (pv_em_si rfl)) (pv_Rgo (tgt := 0) dX7_blanks_20 rfl (by decide)))))))
set_option maxHeartbeats 200000 in
theorem bX7_blanks_23 {S : pv_S} {x1 : Int32} : pv_R mX7_blanks 23 [some (.ref 37), some (.int x1)] [] (pv_em S) = some (none, pv_em S) := pv_Rret dX7_blanks_23 rfl
theorem dX7_readsCat_0 : decode cX7_readsCat 0 = .ok (.aload_n 0, 1) := by decide +kernel
theorem dX7_readsCat_1 : decode cX7_readsCat 1 = .ok (.iload_n 1, 1) := by decide +kernel
theorem dX7_readsCat_2 : decode cX7_readsCat 2 = .ok (.invokevirtual 98, 3) := by decide +kernel
theorem dX7_readsCat_5 : decode cX7_readsCat 5 = .ok (.invokestatic 119, 3) := by decide +kernel
theorem dX7_readsCat_8 : decode cX7_readsCat 8 = .ok (.istore_n 2, 1) := by decide +kernel
theorem dX7_readsCat_9 : decode cX7_readsCat 9 = .ok (.iload_n 2, 1) := by decide +kernel
theorem dX7_readsCat_10 : decode cX7_readsCat 10 = .ok (.ifCond .lt 12, 3) := by decide +kernel
theorem dX7_readsCat_13 : decode cX7_readsCat 13 = .ok (.aload_n 0, 1) := by decide +kernel
theorem dX7_readsCat_14 : decode cX7_readsCat 14 = .ok (.getfield 122, 3) := by decide +kernel
theorem dX7_readsCat_17 : decode cX7_readsCat 17 = .ok (.bipush 6, 2) := by decide +kernel
theorem dX7_readsCat_19 : decode cX7_readsCat 19 = .ok (.if_icmp .ne 5, 3) := by decide +kernel
theorem dX7_readsCat_22 : decode cX7_readsCat 22 = .ok (.iconst 0, 1) := by decide +kernel
theorem dX7_readsCat_23 : decode cX7_readsCat 23 = .ok (.ireturn, 1) := by decide +kernel
theorem dX7_readsCat_24 : decode cX7_readsCat 24 = .ok (.aload_n 0, 1) := by decide +kernel
theorem dX7_readsCat_25 : decode cX7_readsCat 25 = .ok (.dup, 1) := by decide +kernel
theorem dX7_readsCat_26 : decode cX7_readsCat 26 = .ok (.getfield 95, 3) := by decide +kernel
theorem dX7_readsCat_29 : decode cX7_readsCat 29 = .ok (.iconst 1, 1) := by decide +kernel
theorem dX7_readsCat_30 : decode cX7_readsCat 30 = .ok (.iadd, 1) := by decide +kernel
theorem dX7_readsCat_31 : decode cX7_readsCat 31 = .ok (.putfield 95, 3) := by decide +kernel
theorem dX7_readsCat_34 : decode cX7_readsCat 34 = .ok (.iconst 3, 1) := by decide +kernel
theorem dX7_readsCat_35 : decode cX7_readsCat 35 = .ok (.aload_n 0, 1) := by decide +kernel
theorem dX7_readsCat_36 : decode cX7_readsCat 36 = .ok (.getfield 122, 3) := by decide +kernel
theorem dX7_readsCat_39 : decode cX7_readsCat 39 = .ok (.imul, 1) := by decide +kernel
theorem dX7_readsCat_40 : decode cX7_readsCat 40 = .ok (.istore_n 3, 1) := by decide +kernel
theorem dX7_readsCat_41 : decode cX7_readsCat 41 = .ok (.aload_n 0, 1) := by decide +kernel
theorem dX7_readsCat_42 : decode cX7_readsCat 42 = .ok (.getfield 48, 3) := by decide +kernel
theorem dX7_readsCat_45 : decode cX7_readsCat 45 = .ok (.iload_n 3, 1) := by decide +kernel
theorem dX7_readsCat_46 : decode cX7_readsCat 46 = .ok (.iload_n 2, 1) := by decide +kernel
theorem dX7_readsCat_47 : decode cX7_readsCat 47 = .ok (.iastore, 1) := by decide +kernel
theorem dX7_readsCat_48 : decode cX7_readsCat 48 = .ok (.aload_n 0, 1) := by decide +kernel
theorem dX7_readsCat_49 : decode cX7_readsCat 49 = .ok (.iload_n 1, 1) := by decide +kernel
theorem dX7_readsCat_50 : decode cX7_readsCat 50 = .ok (.invokevirtual 113, 3) := by decide +kernel
theorem dX7_readsCat_53 : decode cX7_readsCat 53 = .ok (.ifCond .ne 5, 3) := by decide +kernel
theorem dX7_readsCat_56 : decode cX7_readsCat 56 = .ok (.iconst 0, 1) := by decide +kernel
theorem dX7_readsCat_57 : decode cX7_readsCat 57 = .ok (.ireturn, 1) := by decide +kernel
theorem dX7_readsCat_58 : decode cX7_readsCat 58 = .ok (.aload_n 0, 1) := by decide +kernel
theorem dX7_readsCat_59 : decode cX7_readsCat 59 = .ok (.getfield 48, 3) := by decide +kernel
theorem dX7_readsCat_62 : decode cX7_readsCat 62 = .ok (.iload_n 3, 1) := by decide +kernel
theorem dX7_readsCat_63 : decode cX7_readsCat 63 = .ok (.iconst 1, 1) := by decide +kernel
theorem dX7_readsCat_64 : decode cX7_readsCat 64 = .ok (.iadd, 1) := by decide +kernel
theorem dX7_readsCat_65 : decode cX7_readsCat 65 = .ok (.aload_n 0, 1) := by decide +kernel
theorem dX7_readsCat_66 : decode cX7_readsCat 66 = .ok (.getfield 110, 3) := by decide +kernel
theorem dX7_readsCat_69 : decode cX7_readsCat 69 = .ok (.iastore, 1) := by decide +kernel
theorem dX7_readsCat_70 : decode cX7_readsCat 70 = .ok (.aload_n 0, 1) := by decide +kernel
theorem dX7_readsCat_71 : decode cX7_readsCat 71 = .ok (.iload_n 1, 1) := by decide +kernel
theorem dX7_readsCat_72 : decode cX7_readsCat 72 = .ok (.iconst 0, 1) := by decide +kernel
theorem dX7_readsCat_73 : decode cX7_readsCat 73 = .ok (.invokevirtual 106, 3) := by decide +kernel
theorem dX7_readsCat_76 : decode cX7_readsCat 76 = .ok (.ifCond .ne 5, 3) := by decide +kernel
theorem dX7_readsCat_79 : decode cX7_readsCat 79 = .ok (.iconst 0, 1) := by decide +kernel
theorem dX7_readsCat_80 : decode cX7_readsCat 80 = .ok (.ireturn, 1) := by decide +kernel
theorem dX7_readsCat_81 : decode cX7_readsCat 81 = .ok (.aload_n 0, 1) := by decide +kernel
theorem dX7_readsCat_82 : decode cX7_readsCat 82 = .ok (.getfield 48, 3) := by decide +kernel
theorem dX7_readsCat_85 : decode cX7_readsCat 85 = .ok (.iload_n 3, 1) := by decide +kernel
theorem dX7_readsCat_86 : decode cX7_readsCat 86 = .ok (.iconst 2, 1) := by decide +kernel
theorem dX7_readsCat_87 : decode cX7_readsCat 87 = .ok (.iadd, 1) := by decide +kernel
theorem dX7_readsCat_88 : decode cX7_readsCat 88 = .ok (.aload_n 0, 1) := by decide +kernel
theorem dX7_readsCat_89 : decode cX7_readsCat 89 = .ok (.getfield 101, 3) := by decide +kernel
theorem dX7_readsCat_92 : decode cX7_readsCat 92 = .ok (.iastore, 1) := by decide +kernel
theorem dX7_readsCat_93 : decode cX7_readsCat 93 = .ok (.aload_n 0, 1) := by decide +kernel
theorem dX7_readsCat_94 : decode cX7_readsCat 94 = .ok (.dup, 1) := by decide +kernel
theorem dX7_readsCat_95 : decode cX7_readsCat 95 = .ok (.getfield 122, 3) := by decide +kernel
theorem dX7_readsCat_98 : decode cX7_readsCat 98 = .ok (.iconst 1, 1) := by decide +kernel
theorem dX7_readsCat_99 : decode cX7_readsCat 99 = .ok (.iadd, 1) := by decide +kernel
theorem dX7_readsCat_100 : decode cX7_readsCat 100 = .ok (.putfield 122, 3) := by decide +kernel
theorem dX7_readsCat_103 : decode cX7_readsCat 103 = .ok (.iconst 1, 1) := by decide +kernel
theorem dX7_readsCat_104 : decode cX7_readsCat 104 = .ok (.ireturn, 1) := by decide +kernel
set_option maxHeartbeats 200000 in
theorem bX7_readsCat_0 {S : pv_S} {x1 : Int32} {a2 a3 : Option Value} : pv_R mX7_readsCat 0 [some (.ref 37), some (.int x1), a2, a3] [] (pv_em S) = pv_cc (pv_R mX7_byteAt 0 [some (.ref 37), some (.int x1)] [] (pv_em S)) mX7_readsCat 5 [some (.ref 37), some (.int x1), a2, a3] [] := Eq.trans (pv_Rstp dX7_readsCat_0 rfl rfl rfl) (Eq.trans (pv_Rstp dX7_readsCat_1 rfl rfl rfl) (pv_Rcall (As := [.ref 37, .int x1]) (rest := []) dX7_readsCat_2 rfl mfX7_98 rfl rfl rfl rfl rfl))
set_option maxHeartbeats 200000 in
theorem bX7_readsCat_5 {S : pv_S} {x1 u0 : Int32} {a2 a3 : Option Value} : pv_R mX7_readsCat 5 [some (.ref 37), some (.int x1), a2, a3] [.int u0] (pv_em S) = pv_cc (pv_R mX7_kindOf 0 [some (.int u0)] [] (pv_em S)) mX7_readsCat 8 [some (.ref 37), some (.int x1), a2, a3] [] := pv_Rcall (As := [.int u0]) (rest := []) dX7_readsCat_5 rfl mfX7_119 rfl rfl rfl rfl rfl
set_option maxHeartbeats 200000 in
theorem bX7_readsCat_8 {S : pv_S} {x1 u0 : Int32} {a2 a3 : Option Value} : pv_R mX7_readsCat 8 [some (.ref 37), some (.int x1), a2, a3] [.int u0] (pv_em S) = if u0 < 0 then pv_R mX7_readsCat 22 [some (.ref 37), some (.int x1), some (.int u0), a3] [] (pv_em S) else pv_R mX7_readsCat 13 [some (.ref 37), some (.int x1), some (.int u0), a3] [] (pv_em S) := Eq.trans (pv_Rstp dX7_readsCat_8 rfl rfl rfl) (Eq.trans (pv_Rstp dX7_readsCat_9 rfl rfl rfl) (pv_Rbr (tgt := 22) dX7_readsCat_10 rfl rfl rfl rfl rfl (by decide)))
set_option maxHeartbeats 200000 in
theorem bX7_readsCat_13 {S : pv_S} {x1 x2 : Int32} {a3 : Option Value} : pv_R mX7_readsCat 13 [some (.ref 37), some (.int x1), some (.int x2), a3] [] (pv_em S) = if ¬ (S.1 37 20) = 6 then pv_R mX7_readsCat 24 [some (.ref 37), some (.int x1), some (.int x2), a3] [] (pv_em S) else pv_R mX7_readsCat 22 [some (.ref 37), some (.int x1), some (.int x2), a3] [] (pv_em S) := Eq.trans (pv_Rstp dX7_readsCat_13 rfl rfl rfl) (Eq.trans (pv_Rget dX7_readsCat_14 ffX7_122 (by decide) (pv_ce_37 _ _) rfl) (Eq.trans (pv_Rbp dX7_readsCat_17 kb_6) (pv_Rbr (tgt := 24) dX7_readsCat_19 rfl rfl rfl rfl rfl (by decide))))
set_option maxHeartbeats 200000 in
theorem bX7_readsCat_22 {S : pv_S} {x1 x2 : Int32} {a3 : Option Value} : pv_R mX7_readsCat 22 [some (.ref 37), some (.int x1), some (.int x2), a3] [] (pv_em S) = some (some (.int 0), pv_em S) := Eq.trans (pv_Ric dX7_readsCat_22 ki_0) (pv_Rret dX7_readsCat_23 rfl)
set_option maxHeartbeats 200000 in
theorem bX7_readsCat_24 {S : pv_S} {x1 x2 : Int32} {a3 : Option Value} : pv_R mX7_readsCat 24 [some (.ref 37), some (.int x1), some (.int x2), a3] [] (pv_em S) = if (3 * ((pv_si S 37 18 ((S.1 37 18) + 1)).1 37 20)) < 0 ∨ 18 ≤ ((3 * ((pv_si S 37 18 ((S.1 37 18) + 1)).1 37 20))).toNatClampNeg then none else pv_cc (pv_R mX7_takesWeight 0 [some (.ref 37), some (.int x1)] [] (pv_em (pv_si (pv_si S 37 18 ((S.1 37 18) + 1)) 49 ((3 * ((pv_si S 37 18 ((S.1 37 18) + 1)).1 37 20))).toNatClampNeg x2))) mX7_readsCat 53 [some (.ref 37), some (.int x1), some (.int x2), some (.int (3 * ((pv_si S 37 18 ((S.1 37 18) + 1)).1 37 20)))] [] := Eq.trans (pv_Rstp dX7_readsCat_24 rfl rfl rfl) (Eq.trans (pv_Rstp dX7_readsCat_25 rfl rfl rfl) (Eq.trans (pv_Rget dX7_readsCat_26 ffX7_95 (by decide) (pv_ce_37 _ _) rfl) (Eq.trans (pv_Ric dX7_readsCat_29 ki_1) (Eq.trans (pv_Rstp dX7_readsCat_30 rfl rfl rfl) (Eq.trans (pv_Rput dX7_readsCat_31 ffX7_95 rfl rfl rfl (by decide) (pv_ce_37 _ _) (Nat.le_of_ble_eq_true rfl) (pv_em_si rfl)) (Eq.trans (pv_Ric dX7_readsCat_34 ki_3) (Eq.trans (pv_Rstp dX7_readsCat_35 rfl rfl rfl) (Eq.trans (pv_Rget dX7_readsCat_36 ffX7_122 (by decide) (pv_ce_37 _ _) rfl) (Eq.trans (pv_Rstp dX7_readsCat_39 rfl rfl rfl) (Eq.trans (pv_Rstp dX7_readsCat_40 rfl rfl rfl) (Eq.trans (pv_Rstp dX7_readsCat_41 rfl rfl rfl) (Eq.trans (pv_Rget dX7_readsCat_42 ffX7_48 (by decide) (pv_ce_37 _ _) rfl) (Eq.trans (pv_Rstp dX7_readsCat_45 rfl rfl rfl) (Eq.trans (pv_Rstp dX7_readsCat_46 rfl rfl rfl) (Eq.trans (pv_Rast dX7_readsCat_47 (by decide) (pv_ce_49 _ _) (pv_em_si rfl)) (pv_iteN (fun h1 => Eq.trans (pv_Rstp dX7_readsCat_48 rfl rfl rfl) (Eq.trans (pv_Rstp dX7_readsCat_49 rfl rfl rfl) (pv_Rcall (As := [.ref 37, .int x1]) (rest := []) dX7_readsCat_50 rfl mfX7_113 rfl rfl rfl rfl rfl)))))))))))))))))))
set_option maxHeartbeats 200000 in
theorem bX7_readsCat_53 {S : pv_S} {x1 x2 x3 u0 : Int32} : pv_R mX7_readsCat 53 [some (.ref 37), some (.int x1), some (.int x2), some (.int x3)] [.int u0] (pv_em S) = if ¬ u0 = 0 then pv_R mX7_readsCat 58 [some (.ref 37), some (.int x1), some (.int x2), some (.int x3)] [] (pv_em S) else pv_R mX7_readsCat 56 [some (.ref 37), some (.int x1), some (.int x2), some (.int x3)] [] (pv_em S) := pv_Rbr (tgt := 58) dX7_readsCat_53 rfl rfl rfl rfl rfl (by decide)
set_option maxHeartbeats 200000 in
theorem bX7_readsCat_56 {S : pv_S} {x1 x2 x3 : Int32} : pv_R mX7_readsCat 56 [some (.ref 37), some (.int x1), some (.int x2), some (.int x3)] [] (pv_em S) = some (some (.int 0), pv_em S) := Eq.trans (pv_Ric dX7_readsCat_56 ki_0) (pv_Rret dX7_readsCat_57 rfl)
set_option maxHeartbeats 200000 in
theorem bX7_readsCat_58 {S : pv_S} {x1 x2 x3 : Int32} : pv_R mX7_readsCat 58 [some (.ref 37), some (.int x1), some (.int x2), some (.int x3)] [] (pv_em S) = if (x3 + 1) < 0 ∨ 18 ≤ (x3 + 1).toNatClampNeg then none else pv_cc (pv_R mX7_takes 0 [some (.ref 37), some (.int x1), some (.int 0)] [] (pv_em (pv_si S 49 (x3 + 1).toNatClampNeg (S.1 37 23)))) mX7_readsCat 76 [some (.ref 37), some (.int x1), some (.int x2), some (.int x3)] [] := Eq.trans (pv_Rstp dX7_readsCat_58 rfl rfl rfl) (Eq.trans (pv_Rget dX7_readsCat_59 ffX7_48 (by decide) (pv_ce_37 _ _) rfl) (Eq.trans (pv_Rstp dX7_readsCat_62 rfl rfl rfl) (Eq.trans (pv_Ric dX7_readsCat_63 ki_1) (Eq.trans (pv_Rstp dX7_readsCat_64 rfl rfl rfl) (Eq.trans (pv_Rstp dX7_readsCat_65 rfl rfl rfl) (Eq.trans (pv_Rget dX7_readsCat_66 ffX7_110 (by decide) (pv_ce_37 _ _) rfl) (Eq.trans (pv_Rast dX7_readsCat_69 (by decide) (pv_ce_49 _ _) (pv_em_si rfl)) (pv_iteN (fun h1 => Eq.trans (pv_Rstp dX7_readsCat_70 rfl rfl rfl) (Eq.trans (pv_Rstp dX7_readsCat_71 rfl rfl rfl) (Eq.trans (pv_Ric dX7_readsCat_72 ki_0) (pv_Rcall (As := [.ref 37, .int x1, .int 0]) (rest := []) dX7_readsCat_73 rfl mfX7_106 rfl rfl rfl rfl rfl))))))))))))
set_option maxHeartbeats 200000 in
theorem bX7_readsCat_76 {S : pv_S} {x1 x2 x3 u0 : Int32} : pv_R mX7_readsCat 76 [some (.ref 37), some (.int x1), some (.int x2), some (.int x3)] [.int u0] (pv_em S) = if ¬ u0 = 0 then pv_R mX7_readsCat 81 [some (.ref 37), some (.int x1), some (.int x2), some (.int x3)] [] (pv_em S) else pv_R mX7_readsCat 79 [some (.ref 37), some (.int x1), some (.int x2), some (.int x3)] [] (pv_em S) := pv_Rbr (tgt := 81) dX7_readsCat_76 rfl rfl rfl rfl rfl (by decide)
set_option maxHeartbeats 200000 in
theorem bX7_readsCat_79 {S : pv_S} {x1 x2 x3 : Int32} : pv_R mX7_readsCat 79 [some (.ref 37), some (.int x1), some (.int x2), some (.int x3)] [] (pv_em S) = some (some (.int 0), pv_em S) := Eq.trans (pv_Ric dX7_readsCat_79 ki_0) (pv_Rret dX7_readsCat_80 rfl)
set_option maxHeartbeats 200000 in
theorem bX7_readsCat_81 {S : pv_S} {x1 x2 x3 : Int32} : pv_R mX7_readsCat 81 [some (.ref 37), some (.int x1), some (.int x2), some (.int x3)] [] (pv_em S) = if (x3 + 2) < 0 ∨ 18 ≤ (x3 + 2).toNatClampNeg then none else some (some (.int 1), pv_em (pv_si (pv_si S 49 (x3 + 2).toNatClampNeg (S.1 37 22)) 37 20 (((pv_si S 49 (x3 + 2).toNatClampNeg (S.1 37 22)).1 37 20) + 1))) := Eq.trans (pv_Rstp dX7_readsCat_81 rfl rfl rfl) (Eq.trans (pv_Rget dX7_readsCat_82 ffX7_48 (by decide) (pv_ce_37 _ _) rfl) (Eq.trans (pv_Rstp dX7_readsCat_85 rfl rfl rfl) (Eq.trans (pv_Ric dX7_readsCat_86 ki_2) (Eq.trans (pv_Rstp dX7_readsCat_87 rfl rfl rfl) (Eq.trans (pv_Rstp dX7_readsCat_88 rfl rfl rfl) (Eq.trans (pv_Rget dX7_readsCat_89 ffX7_101 (by decide) (pv_ce_37 _ _) rfl) (Eq.trans (pv_Rast dX7_readsCat_92 (by decide) (pv_ce_49 _ _) (pv_em_si rfl)) (pv_iteN (fun h1 => Eq.trans (pv_Rstp dX7_readsCat_93 rfl rfl rfl) (Eq.trans (pv_Rstp dX7_readsCat_94 rfl rfl rfl) (Eq.trans (pv_Rget dX7_readsCat_95 ffX7_122 (by decide) (pv_ce_37 _ _) rfl) (Eq.trans (pv_Ric dX7_readsCat_98 ki_1) (Eq.trans (pv_Rstp dX7_readsCat_99 rfl rfl rfl) (Eq.trans (pv_Rput dX7_readsCat_100 ffX7_122 rfl rfl rfl (by decide) (pv_ce_37 _ _) (Nat.le_of_ble_eq_true rfl) (pv_em_si rfl)) (Eq.trans (pv_Ric dX7_readsCat_103 ki_1) (pv_Rret dX7_readsCat_104 rfl))))))))))))))))
theorem dX7_readsDog_0 : decode cX7_readsDog 0 = .ok (.aload_n 0, 1) := by decide +kernel
theorem dX7_readsDog_1 : decode cX7_readsDog 1 = .ok (.iload_n 1, 1) := by decide +kernel
theorem dX7_readsDog_2 : decode cX7_readsDog 2 = .ok (.invokevirtual 98, 3) := by decide +kernel
theorem dX7_readsDog_5 : decode cX7_readsDog 5 = .ok (.bipush 100, 2) := by decide +kernel
theorem dX7_readsDog_7 : decode cX7_readsDog 7 = .ok (.if_icmp .eq 5, 3) := by decide +kernel
theorem dX7_readsDog_10 : decode cX7_readsDog 10 = .ok (.iconst 0, 1) := by decide +kernel
theorem dX7_readsDog_11 : decode cX7_readsDog 11 = .ok (.ireturn, 1) := by decide +kernel
theorem dX7_readsDog_12 : decode cX7_readsDog 12 = .ok (.aload_n 0, 1) := by decide +kernel
theorem dX7_readsDog_13 : decode cX7_readsDog 13 = .ok (.dup, 1) := by decide +kernel
theorem dX7_readsDog_14 : decode cX7_readsDog 14 = .ok (.getfield 95, 3) := by decide +kernel
theorem dX7_readsDog_17 : decode cX7_readsDog 17 = .ok (.iconst 1, 1) := by decide +kernel
theorem dX7_readsDog_18 : decode cX7_readsDog 18 = .ok (.iadd, 1) := by decide +kernel
theorem dX7_readsDog_19 : decode cX7_readsDog 19 = .ok (.putfield 95, 3) := by decide +kernel
theorem dX7_readsDog_22 : decode cX7_readsDog 22 = .ok (.aload_n 0, 1) := by decide +kernel
theorem dX7_readsDog_23 : decode cX7_readsDog 23 = .ok (.iload_n 1, 1) := by decide +kernel
theorem dX7_readsDog_24 : decode cX7_readsDog 24 = .ok (.invokevirtual 113, 3) := by decide +kernel
theorem dX7_readsDog_27 : decode cX7_readsDog 27 = .ok (.ifCond .ne 5, 3) := by decide +kernel
theorem dX7_readsDog_30 : decode cX7_readsDog 30 = .ok (.iconst 0, 1) := by decide +kernel
theorem dX7_readsDog_31 : decode cX7_readsDog 31 = .ok (.ireturn, 1) := by decide +kernel
theorem dX7_readsDog_32 : decode cX7_readsDog 32 = .ok (.aload_n 0, 1) := by decide +kernel
theorem dX7_readsDog_33 : decode cX7_readsDog 33 = .ok (.aload_n 0, 1) := by decide +kernel
theorem dX7_readsDog_34 : decode cX7_readsDog 34 = .ok (.getfield 110, 3) := by decide +kernel
theorem dX7_readsDog_37 : decode cX7_readsDog 37 = .ok (.putfield 116, 3) := by decide +kernel
theorem dX7_readsDog_40 : decode cX7_readsDog 40 = .ok (.iconst 1, 1) := by decide +kernel
theorem dX7_readsDog_41 : decode cX7_readsDog 41 = .ok (.ireturn, 1) := by decide +kernel
set_option maxHeartbeats 200000 in
theorem bX7_readsDog_0 {S : pv_S} {x1 : Int32} : pv_R mX7_readsDog 0 [some (.ref 37), some (.int x1)] [] (pv_em S) = pv_cc (pv_R mX7_byteAt 0 [some (.ref 37), some (.int x1)] [] (pv_em S)) mX7_readsDog 5 [some (.ref 37), some (.int x1)] [] := Eq.trans (pv_Rstp dX7_readsDog_0 rfl rfl rfl) (Eq.trans (pv_Rstp dX7_readsDog_1 rfl rfl rfl) (pv_Rcall (As := [.ref 37, .int x1]) (rest := []) dX7_readsDog_2 rfl mfX7_98 rfl rfl rfl rfl rfl))
set_option maxHeartbeats 200000 in
theorem bX7_readsDog_5 {S : pv_S} {x1 u0 : Int32} : pv_R mX7_readsDog 5 [some (.ref 37), some (.int x1)] [.int u0] (pv_em S) = if u0 = 100 then pv_R mX7_readsDog 12 [some (.ref 37), some (.int x1)] [] (pv_em S) else pv_R mX7_readsDog 10 [some (.ref 37), some (.int x1)] [] (pv_em S) := Eq.trans (pv_Rbp dX7_readsDog_5 kb_100) (pv_Rbr (tgt := 12) dX7_readsDog_7 rfl rfl rfl rfl rfl (by decide))
set_option maxHeartbeats 200000 in
theorem bX7_readsDog_10 {S : pv_S} {x1 : Int32} : pv_R mX7_readsDog 10 [some (.ref 37), some (.int x1)] [] (pv_em S) = some (some (.int 0), pv_em S) := Eq.trans (pv_Ric dX7_readsDog_10 ki_0) (pv_Rret dX7_readsDog_11 rfl)
set_option maxHeartbeats 200000 in
theorem bX7_readsDog_12 {S : pv_S} {x1 : Int32} : pv_R mX7_readsDog 12 [some (.ref 37), some (.int x1)] [] (pv_em S) = pv_cc (pv_R mX7_takesWeight 0 [some (.ref 37), some (.int x1)] [] (pv_em (pv_si S 37 18 ((S.1 37 18) + 1)))) mX7_readsDog 27 [some (.ref 37), some (.int x1)] [] := Eq.trans (pv_Rstp dX7_readsDog_12 rfl rfl rfl) (Eq.trans (pv_Rstp dX7_readsDog_13 rfl rfl rfl) (Eq.trans (pv_Rget dX7_readsDog_14 ffX7_95 (by decide) (pv_ce_37 _ _) rfl) (Eq.trans (pv_Ric dX7_readsDog_17 ki_1) (Eq.trans (pv_Rstp dX7_readsDog_18 rfl rfl rfl) (Eq.trans (pv_Rput dX7_readsDog_19 ffX7_95 rfl rfl rfl (by decide) (pv_ce_37 _ _) (Nat.le_of_ble_eq_true rfl) (pv_em_si rfl)) (Eq.trans (pv_Rstp dX7_readsDog_22 rfl rfl rfl) (Eq.trans (pv_Rstp dX7_readsDog_23 rfl rfl rfl) (pv_Rcall (As := [.ref 37, .int x1]) (rest := []) dX7_readsDog_24 rfl mfX7_113 rfl rfl rfl rfl rfl))))))))
set_option maxHeartbeats 200000 in
theorem bX7_readsDog_27 {S : pv_S} {x1 u0 : Int32} : pv_R mX7_readsDog 27 [some (.ref 37), some (.int x1)] [.int u0] (pv_em S) = if ¬ u0 = 0 then pv_R mX7_readsDog 32 [some (.ref 37), some (.int x1)] [] (pv_em S) else pv_R mX7_readsDog 30 [some (.ref 37), some (.int x1)] [] (pv_em S) := pv_Rbr (tgt := 32) dX7_readsDog_27 rfl rfl rfl rfl rfl (by decide)
set_option maxHeartbeats 200000 in
theorem bX7_readsDog_30 {S : pv_S} {x1 : Int32} : pv_R mX7_readsDog 30 [some (.ref 37), some (.int x1)] [] (pv_em S) = some (some (.int 0), pv_em S) := Eq.trans (pv_Ric dX7_readsDog_30 ki_0) (pv_Rret dX7_readsDog_31 rfl)
set_option maxHeartbeats 200000 in
theorem bX7_readsDog_32 {S : pv_S} {x1 : Int32} : pv_R mX7_readsDog 32 [some (.ref 37), some (.int x1)] [] (pv_em S) = some (some (.int 1), pv_em (pv_si S 37 19 (S.1 37 23))) := Eq.trans (pv_Rstp dX7_readsDog_32 rfl rfl rfl) (Eq.trans (pv_Rstp dX7_readsDog_33 rfl rfl rfl) (Eq.trans (pv_Rget dX7_readsDog_34 ffX7_110 (by decide) (pv_ce_37 _ _) rfl) (Eq.trans (pv_Rput dX7_readsDog_37 ffX7_116 rfl rfl rfl (by decide) (pv_ce_37 _ _) (Nat.le_of_ble_eq_true rfl) (pv_em_si rfl)) (Eq.trans (pv_Ric dX7_readsDog_40 ki_1) (pv_Rret dX7_readsDog_41 rfl)))))
set_option maxHeartbeats 200000 in
theorem bX7_copies_44_45_0 {S : pv_S} {x1 x3 x4 : Int32} {a5 : Option Value} : pv_R mX7_copies 0 [some (.ref 44), some (.int x1), some (.ref 45), some (.int x3), some (.int x4), a5] [] (pv_em S) = pv_R mX7_copies 3 [some (.ref 44), some (.int x1), some (.ref 45), some (.int x3), some (.int x4), some (.int 0)] [] (pv_em S) := Eq.trans (pv_Ric dX7_copies_0 ki_0) (pv_Rstp dX7_copies_1 rfl rfl rfl)
set_option maxHeartbeats 200000 in
theorem bX7_copies_44_45_3 {S : pv_S} {x1 x3 x4 x5 : Int32} : pv_R mX7_copies 3 [some (.ref 44), some (.int x1), some (.ref 45), some (.int x3), some (.int x4), some (.int x5)] [] (pv_em S) = if x4 ≤ x5 then pv_R mX7_copies 28 [some (.ref 44), some (.int x1), some (.ref 45), some (.int x3), some (.int x4), some (.int x5)] [] (pv_em S) else pv_R mX7_copies 10 [some (.ref 44), some (.int x1), some (.ref 45), some (.int x3), some (.int x4), some (.int x5)] [] (pv_em S) := Eq.trans (pv_Rstp dX7_copies_3 rfl rfl rfl) (Eq.trans (pv_Rstp dX7_copies_5 rfl rfl rfl) (pv_Rbr (tgt := 28) dX7_copies_7 rfl rfl rfl rfl rfl (by decide)))
set_option maxHeartbeats 200000 in
theorem bX7_copies_44_45_10 {S : pv_S} {x1 x3 x4 x5 : Int32} : pv_R mX7_copies 10 [some (.ref 44), some (.int x1), some (.ref 45), some (.int x3), some (.int x4), some (.int x5)] [] (pv_em S) = if (x1 + x5) < 0 ∨ 10 ≤ (x1 + x5).toNatClampNeg then none else if (x3 + x5) < 0 ∨ 400 ≤ (x3 + x5).toNatClampNeg then none else pv_R mX7_copies 3 [some (.ref 44), some (.int x1), some (.ref 45), some (.int x3), some (.int x4), some (.int (x5 + 1))] [] (pv_em (pv_si S 45 (x3 + x5).toNatClampNeg (S.1 44 (x1 + x5).toNatClampNeg))) := Eq.trans (pv_Rstp dX7_copies_10 rfl rfl rfl) (Eq.trans (pv_Rstp dX7_copies_11 rfl rfl rfl) (Eq.trans (pv_Rstp dX7_copies_12 rfl rfl rfl) (Eq.trans (pv_Rstp dX7_copies_14 rfl rfl rfl) (Eq.trans (pv_Rstp dX7_copies_15 rfl rfl rfl) (Eq.trans (pv_Rstp dX7_copies_16 rfl rfl rfl) (Eq.trans (pv_Rstp dX7_copies_17 rfl rfl rfl) (Eq.trans (pv_Rstp dX7_copies_19 rfl rfl rfl) (Eq.trans (pv_Rald dX7_copies_20 (by decide) (pv_ce_44 _ _)) (pv_iteN (fun h1 => Eq.trans (pv_Rast dX7_copies_21 (by decide) (pv_ce_45 _ _) (pv_em_si rfl)) (pv_iteN (fun h2 => Eq.trans (pv_Rinc dX7_copies_22 rfl (Nat.le_of_ble_eq_true rfl) ki_1 rfl) (pv_Rgo (tgt := 3) dX7_copies_25 rfl (by decide))))))))))))))
set_option maxHeartbeats 200000 in
theorem bX7_copies_44_45_28 {S : pv_S} {x1 x3 x4 x5 : Int32} : pv_R mX7_copies 28 [some (.ref 44), some (.int x1), some (.ref 45), some (.int x3), some (.int x4), some (.int x5)] [] (pv_em S) = some (none, pv_em S) := pv_Rret dX7_copies_28 rfl
theorem dX7_changes_0 : decode cX7_changes 0 = .ok (.iload_n 0, 1) := by decide +kernel
theorem dX7_changes_1 : decode cX7_changes 1 = .ok (.tableswitch 69 1 5 #[35, 52, 65, 35, 67], 35) := by decide +kernel
theorem dX7_changes_36 : decode cX7_changes 36 = .ok (.iload_n 1, 1) := by decide +kernel
theorem dX7_changes_37 : decode cX7_changes 37 = .ok (.iconst 2, 1) := by decide +kernel
theorem dX7_changes_38 : decode cX7_changes 38 = .ok (.irem, 1) := by decide +kernel
theorem dX7_changes_39 : decode cX7_changes 39 = .ok (.iconst 1, 1) := by decide +kernel
theorem dX7_changes_40 : decode cX7_changes 40 = .ok (.if_icmp .ne 11, 3) := by decide +kernel
theorem dX7_changes_43 : decode cX7_changes 43 = .ok (.iload_n 2, 1) := by decide +kernel
theorem dX7_changes_44 : decode cX7_changes 44 = .ok (.ifCond .eq 7, 3) := by decide +kernel
theorem dX7_changes_47 : decode cX7_changes 47 = .ok (.iconst 2, 1) := by decide +kernel
theorem dX7_changes_48 : decode cX7_changes 48 = .ok (.goto 4, 3) := by decide +kernel
theorem dX7_changes_51 : decode cX7_changes 51 = .ok (.iconst (-1), 1) := by decide +kernel
theorem dX7_changes_52 : decode cX7_changes 52 = .ok (.ireturn, 1) := by decide +kernel
theorem dX7_changes_53 : decode cX7_changes 53 = .ok (.iload_n 1, 1) := by decide +kernel
theorem dX7_changes_54 : decode cX7_changes 54 = .ok (.iconst 4, 1) := by decide +kernel
theorem dX7_changes_55 : decode cX7_changes 55 = .ok (.irem, 1) := by decide +kernel
theorem dX7_changes_56 : decode cX7_changes 56 = .ok (.ifCond .ne 8, 3) := by decide +kernel
theorem dX7_changes_59 : decode cX7_changes 59 = .ok (.bipush (-2), 2) := by decide +kernel
theorem dX7_changes_61 : decode cX7_changes 61 = .ok (.goto 4, 3) := by decide +kernel
theorem dX7_changes_64 : decode cX7_changes 64 = .ok (.iconst (-1), 1) := by decide +kernel
theorem dX7_changes_65 : decode cX7_changes 65 = .ok (.ireturn, 1) := by decide +kernel
theorem dX7_changes_66 : decode cX7_changes 66 = .ok (.iconst 2, 1) := by decide +kernel
theorem dX7_changes_67 : decode cX7_changes 67 = .ok (.ireturn, 1) := by decide +kernel
theorem dX7_changes_68 : decode cX7_changes 68 = .ok (.iconst 0, 1) := by decide +kernel
theorem dX7_changes_69 : decode cX7_changes 69 = .ok (.ireturn, 1) := by decide +kernel
theorem dX7_changes_70 : decode cX7_changes 70 = .ok (.iconst (-1), 1) := by decide +kernel
theorem dX7_changes_71 : decode cX7_changes 71 = .ok (.ireturn, 1) := by decide +kernel
set_option maxHeartbeats 200000 in
theorem bX7_changes_0 {S : pv_S} {x0 x1 x2 : Int32} : pv_R mX7_changes 0 [some (.int x0), some (.int x1), some (.int x2)] [] (pv_em S) = pv_R mX7_changes (pv_swt (Int32.toInt x0) 1 [36, 53, 66, 36, 68] 70) [some (.int x0), some (.int x1), some (.int x2)] [] (pv_em S) := Eq.trans (pv_Rstp dX7_changes_0 rfl rfl rfl) (pv_Rtab (lo := 1) (tg := [36, 53, 66, 36, 68]) (dt := 70) dX7_changes_1 (by decide))
set_option maxHeartbeats 200000 in
theorem bX7_changes_36 {S : pv_S} {x0 x1 x2 : Int32} : pv_R mX7_changes 36 [some (.int x0), some (.int x1), some (.int x2)] [] (pv_em S) = if ¬ (x1 - x1 / 2 * 2) = 1 then pv_R mX7_changes 51 [some (.int x0), some (.int x1), some (.int x2)] [] (pv_em S) else pv_R mX7_changes 43 [some (.int x0), some (.int x1), some (.int x2)] [] (pv_em S) := Eq.trans (pv_Rstp dX7_changes_36 rfl rfl rfl) (Eq.trans (pv_Ric dX7_changes_37 ki_2) (Eq.trans (pv_Rrem dX7_changes_38) (Eq.trans (if_neg (by decide)) (Eq.trans (pv_Ric dX7_changes_39 ki_1) (pv_Rbr (tgt := 51) dX7_changes_40 rfl rfl rfl rfl rfl (by decide))))))
set_option maxHeartbeats 200000 in
theorem bX7_changes_43 {S : pv_S} {x0 x1 x2 : Int32} : pv_R mX7_changes 43 [some (.int x0), some (.int x1), some (.int x2)] [] (pv_em S) = if x2 = 0 then pv_R mX7_changes 51 [some (.int x0), some (.int x1), some (.int x2)] [] (pv_em S) else pv_R mX7_changes 47 [some (.int x0), some (.int x1), some (.int x2)] [] (pv_em S) := Eq.trans (pv_Rstp dX7_changes_43 rfl rfl rfl) (pv_Rbr (tgt := 51) dX7_changes_44 rfl rfl rfl rfl rfl (by decide))
set_option maxHeartbeats 200000 in
theorem bX7_changes_47 {S : pv_S} {x0 x1 x2 : Int32} : pv_R mX7_changes 47 [some (.int x0), some (.int x1), some (.int x2)] [] (pv_em S) = pv_R mX7_changes 52 [some (.int x0), some (.int x1), some (.int x2)] [.int 2] (pv_em S) := Eq.trans (pv_Ric dX7_changes_47 ki_2) (pv_Rgo (tgt := 52) dX7_changes_48 rfl (by decide))
set_option maxHeartbeats 200000 in
theorem bX7_changes_51 {S : pv_S} {x0 x1 x2 : Int32} : pv_R mX7_changes 51 [some (.int x0), some (.int x1), some (.int x2)] [] (pv_em S) = pv_R mX7_changes 52 [some (.int x0), some (.int x1), some (.int x2)] [.int (-1)] (pv_em S) := pv_Ric dX7_changes_51 ki_m1
set_option maxHeartbeats 200000 in
theorem bX7_changes_52 {S : pv_S} {x0 x1 x2 u0 : Int32} : pv_R mX7_changes 52 [some (.int x0), some (.int x1), some (.int x2)] [.int u0] (pv_em S) = some (some (.int u0), pv_em S) := pv_Rret dX7_changes_52 rfl
set_option maxHeartbeats 200000 in
theorem bX7_changes_53 {S : pv_S} {x0 x1 x2 : Int32} : pv_R mX7_changes 53 [some (.int x0), some (.int x1), some (.int x2)] [] (pv_em S) = if ¬ (x1 - x1 / 4 * 4) = 0 then pv_R mX7_changes 64 [some (.int x0), some (.int x1), some (.int x2)] [] (pv_em S) else pv_R mX7_changes 59 [some (.int x0), some (.int x1), some (.int x2)] [] (pv_em S) := Eq.trans (pv_Rstp dX7_changes_53 rfl rfl rfl) (Eq.trans (pv_Ric dX7_changes_54 ki_4) (Eq.trans (pv_Rrem dX7_changes_55) (Eq.trans (if_neg (by decide)) (pv_Rbr (tgt := 64) dX7_changes_56 rfl rfl rfl rfl rfl (by decide)))))
set_option maxHeartbeats 200000 in
theorem bX7_changes_59 {S : pv_S} {x0 x1 x2 : Int32} : pv_R mX7_changes 59 [some (.int x0), some (.int x1), some (.int x2)] [] (pv_em S) = pv_R mX7_changes 65 [some (.int x0), some (.int x1), some (.int x2)] [.int (-2)] (pv_em S) := Eq.trans (pv_Rbp dX7_changes_59 kb_m2) (pv_Rgo (tgt := 65) dX7_changes_61 rfl (by decide))
set_option maxHeartbeats 200000 in
theorem bX7_changes_64 {S : pv_S} {x0 x1 x2 : Int32} : pv_R mX7_changes 64 [some (.int x0), some (.int x1), some (.int x2)] [] (pv_em S) = pv_R mX7_changes 65 [some (.int x0), some (.int x1), some (.int x2)] [.int (-1)] (pv_em S) := pv_Ric dX7_changes_64 ki_m1
set_option maxHeartbeats 200000 in
theorem bX7_changes_65 {S : pv_S} {x0 x1 x2 u0 : Int32} : pv_R mX7_changes 65 [some (.int x0), some (.int x1), some (.int x2)] [.int u0] (pv_em S) = some (some (.int u0), pv_em S) := pv_Rret dX7_changes_65 rfl
set_option maxHeartbeats 200000 in
theorem bX7_changes_66 {S : pv_S} {x0 x1 x2 : Int32} : pv_R mX7_changes 66 [some (.int x0), some (.int x1), some (.int x2)] [] (pv_em S) = some (some (.int 2), pv_em S) := Eq.trans (pv_Ric dX7_changes_66 ki_2) (pv_Rret dX7_changes_67 rfl)
set_option maxHeartbeats 200000 in
theorem bX7_changes_68 {S : pv_S} {x0 x1 x2 : Int32} : pv_R mX7_changes 68 [some (.int x0), some (.int x1), some (.int x2)] [] (pv_em S) = some (some (.int 0), pv_em S) := Eq.trans (pv_Ric dX7_changes_68 ki_0) (pv_Rret dX7_changes_69 rfl)
set_option maxHeartbeats 200000 in
theorem bX7_changes_70 {S : pv_S} {x0 x1 x2 : Int32} : pv_R mX7_changes 70 [some (.int x0), some (.int x1), some (.int x2)] [] (pv_em S) = some (some (.int (-1)), pv_em S) := Eq.trans (pv_Ric dX7_changes_70 ki_m1) (pv_Rret dX7_changes_71 rfl)
set_option maxHeartbeats 200000 in
theorem bX7_copies_52_52_0 {S : pv_S} {x1 x3 x4 : Int32} {a5 : Option Value} : pv_R mX7_copies 0 [some (.ref 52), some (.int x1), some (.ref 52), some (.int x3), some (.int x4), a5] [] (pv_em S) = pv_R mX7_copies 3 [some (.ref 52), some (.int x1), some (.ref 52), some (.int x3), some (.int x4), some (.int 0)] [] (pv_em S) := Eq.trans (pv_Ric dX7_copies_0 ki_0) (pv_Rstp dX7_copies_1 rfl rfl rfl)
set_option maxHeartbeats 200000 in
theorem bX7_copies_52_52_3 {S : pv_S} {x1 x3 x4 x5 : Int32} : pv_R mX7_copies 3 [some (.ref 52), some (.int x1), some (.ref 52), some (.int x3), some (.int x4), some (.int x5)] [] (pv_em S) = if x4 ≤ x5 then pv_R mX7_copies 28 [some (.ref 52), some (.int x1), some (.ref 52), some (.int x3), some (.int x4), some (.int x5)] [] (pv_em S) else pv_R mX7_copies 10 [some (.ref 52), some (.int x1), some (.ref 52), some (.int x3), some (.int x4), some (.int x5)] [] (pv_em S) := Eq.trans (pv_Rstp dX7_copies_3 rfl rfl rfl) (Eq.trans (pv_Rstp dX7_copies_5 rfl rfl rfl) (pv_Rbr (tgt := 28) dX7_copies_7 rfl rfl rfl rfl rfl (by decide)))
set_option maxHeartbeats 200000 in
theorem bX7_copies_52_52_10 {S : pv_S} {x1 x3 x4 x5 : Int32} : pv_R mX7_copies 10 [some (.ref 52), some (.int x1), some (.ref 52), some (.int x3), some (.int x4), some (.int x5)] [] (pv_em S) = if (x1 + x5) < 0 ∨ 30 ≤ (x1 + x5).toNatClampNeg then none else if (x3 + x5) < 0 ∨ 30 ≤ (x3 + x5).toNatClampNeg then none else pv_R mX7_copies 3 [some (.ref 52), some (.int x1), some (.ref 52), some (.int x3), some (.int x4), some (.int (x5 + 1))] [] (pv_em (pv_si S 52 (x3 + x5).toNatClampNeg (S.1 52 (x1 + x5).toNatClampNeg))) := Eq.trans (pv_Rstp dX7_copies_10 rfl rfl rfl) (Eq.trans (pv_Rstp dX7_copies_11 rfl rfl rfl) (Eq.trans (pv_Rstp dX7_copies_12 rfl rfl rfl) (Eq.trans (pv_Rstp dX7_copies_14 rfl rfl rfl) (Eq.trans (pv_Rstp dX7_copies_15 rfl rfl rfl) (Eq.trans (pv_Rstp dX7_copies_16 rfl rfl rfl) (Eq.trans (pv_Rstp dX7_copies_17 rfl rfl rfl) (Eq.trans (pv_Rstp dX7_copies_19 rfl rfl rfl) (Eq.trans (pv_Rald dX7_copies_20 (by decide) (pv_ce_52 _ _)) (pv_iteN (fun h1 => Eq.trans (pv_Rast dX7_copies_21 (by decide) (pv_ce_52 _ _) (pv_em_si rfl)) (pv_iteN (fun h2 => Eq.trans (pv_Rinc dX7_copies_22 rfl (Nat.le_of_ble_eq_true rfl) ki_1 rfl) (pv_Rgo (tgt := 3) dX7_copies_25 rfl (by decide))))))))))))))
set_option maxHeartbeats 200000 in
theorem bX7_copies_52_52_28 {S : pv_S} {x1 x3 x4 x5 : Int32} : pv_R mX7_copies 28 [some (.ref 52), some (.int x1), some (.ref 52), some (.int x3), some (.int x4), some (.int x5)] [] (pv_em S) = some (none, pv_em S) := pv_Rret dX7_copies_28 rfl
theorem dX7_byteAt_0 : decode cX7_byteAt 0 = .ok (.aload_n 0, 1) := by decide +kernel
theorem dX7_byteAt_1 : decode cX7_byteAt 1 = .ok (.getfield 95, 3) := by decide +kernel
theorem dX7_byteAt_4 : decode cX7_byteAt 4 = .ok (.aload_n 0, 1) := by decide +kernel
theorem dX7_byteAt_5 : decode cX7_byteAt 5 = .ok (.getfield 16, 3) := by decide +kernel
theorem dX7_byteAt_8 : decode cX7_byteAt 8 = .ok (.iload_n 1, 1) := by decide +kernel
theorem dX7_byteAt_9 : decode cX7_byteAt 9 = .ok (.iaload, 1) := by decide +kernel
theorem dX7_byteAt_10 : decode cX7_byteAt 10 = .ok (.if_icmp .ge 20, 3) := by decide +kernel
theorem dX7_byteAt_13 : decode cX7_byteAt 13 = .ok (.aload_n 0, 1) := by decide +kernel
theorem dX7_byteAt_14 : decode cX7_byteAt 14 = .ok (.getfield 19, 3) := by decide +kernel
theorem dX7_byteAt_17 : decode cX7_byteAt 17 = .ok (.bipush 60, 2) := by decide +kernel
theorem dX7_byteAt_19 : decode cX7_byteAt 19 = .ok (.iload_n 1, 1) := by decide +kernel
theorem dX7_byteAt_20 : decode cX7_byteAt 20 = .ok (.imul, 1) := by decide +kernel
theorem dX7_byteAt_21 : decode cX7_byteAt 21 = .ok (.aload_n 0, 1) := by decide +kernel
theorem dX7_byteAt_22 : decode cX7_byteAt 22 = .ok (.getfield 95, 3) := by decide +kernel
theorem dX7_byteAt_25 : decode cX7_byteAt 25 = .ok (.iadd, 1) := by decide +kernel
theorem dX7_byteAt_26 : decode cX7_byteAt 26 = .ok (.iaload, 1) := by decide +kernel
theorem dX7_byteAt_27 : decode cX7_byteAt 27 = .ok (.goto 6, 3) := by decide +kernel
theorem dX7_byteAt_30 : decode cX7_byteAt 30 = .ok (.sipush (-1000), 3) := by decide +kernel
theorem dX7_byteAt_33 : decode cX7_byteAt 33 = .ok (.ireturn, 1) := by decide +kernel
set_option maxHeartbeats 200000 in
theorem bX7_byteAt_0 {S : pv_S} {x1 : Int32} : pv_R mX7_byteAt 0 [some (.ref 37), some (.int x1)] [] (pv_em S) = if x1 < 0 ∨ 4 ≤ x1.toNatClampNeg then none else if (S.1 40 x1.toNatClampNeg) ≤ (S.1 37 18) then pv_R mX7_byteAt 30 [some (.ref 37), some (.int x1)] [] (pv_em S) else pv_R mX7_byteAt 13 [some (.ref 37), some (.int x1)] [] (pv_em S) := Eq.trans (pv_Rstp dX7_byteAt_0 rfl rfl rfl) (Eq.trans (pv_Rget dX7_byteAt_1 ffX7_95 (by decide) (pv_ce_37 _ _) rfl) (Eq.trans (pv_Rstp dX7_byteAt_4 rfl rfl rfl) (Eq.trans (pv_Rget dX7_byteAt_5 ffX7_16 (by decide) (pv_ce_37 _ _) rfl) (Eq.trans (pv_Rstp dX7_byteAt_8 rfl rfl rfl) (Eq.trans (pv_Rald dX7_byteAt_9 (by decide) (pv_ce_40 _ _)) (pv_iteN (fun h1 => pv_Rbr (tgt := 30) dX7_byteAt_10 rfl rfl rfl rfl rfl (by decide))))))))
set_option maxHeartbeats 200000 in
theorem bX7_byteAt_13 {S : pv_S} {x1 : Int32} : pv_R mX7_byteAt 13 [some (.ref 37), some (.int x1)] [] (pv_em S) = if ((60 * x1) + (S.1 37 18)) < 0 ∨ 240 ≤ (((60 * x1) + (S.1 37 18))).toNatClampNeg then none else pv_R mX7_byteAt 33 [some (.ref 37), some (.int x1)] [.int (S.1 41 (((60 * x1) + (S.1 37 18))).toNatClampNeg)] (pv_em S) := Eq.trans (pv_Rstp dX7_byteAt_13 rfl rfl rfl) (Eq.trans (pv_Rget dX7_byteAt_14 ffX7_19 (by decide) (pv_ce_37 _ _) rfl) (Eq.trans (pv_Rbp dX7_byteAt_17 kb_60) (Eq.trans (pv_Rstp dX7_byteAt_19 rfl rfl rfl) (Eq.trans (pv_Rstp dX7_byteAt_20 rfl rfl rfl) (Eq.trans (pv_Rstp dX7_byteAt_21 rfl rfl rfl) (Eq.trans (pv_Rget dX7_byteAt_22 ffX7_95 (by decide) (pv_ce_37 _ _) rfl) (Eq.trans (pv_Rstp dX7_byteAt_25 rfl rfl rfl) (Eq.trans (pv_Rald dX7_byteAt_26 (by decide) (pv_ce_41 _ _)) (pv_iteN (fun h1 => pv_Rgo (tgt := 33) dX7_byteAt_27 rfl (by decide)))))))))))
set_option maxHeartbeats 200000 in
theorem bX7_byteAt_30 {S : pv_S} {x1 : Int32} : pv_R mX7_byteAt 30 [some (.ref 37), some (.int x1)] [] (pv_em S) = pv_R mX7_byteAt 33 [some (.ref 37), some (.int x1)] [.int (-1000)] (pv_em S) := pv_Rsp dX7_byteAt_30 ks_m1000
set_option maxHeartbeats 200000 in
theorem bX7_byteAt_33 {S : pv_S} {x1 u0 : Int32} : pv_R mX7_byteAt 33 [some (.ref 37), some (.int x1)] [.int u0] (pv_em S) = some (some (.int u0), pv_em S) := pv_Rret dX7_byteAt_33 rfl
theorem dX7_kindOf_0 : decode cX7_kindOf 0 = .ok (.iload_n 0, 1) := by decide +kernel
theorem dX7_kindOf_1 : decode cX7_kindOf 1 = .ok (.bipush 99, 2) := by decide +kernel
theorem dX7_kindOf_3 : decode cX7_kindOf 3 = .ok (.if_icmp .ne 7, 3) := by decide +kernel
theorem dX7_kindOf_6 : decode cX7_kindOf 6 = .ok (.iconst 0, 1) := by decide +kernel
theorem dX7_kindOf_7 : decode cX7_kindOf 7 = .ok (.goto 54, 3) := by decide +kernel
theorem dX7_kindOf_10 : decode cX7_kindOf 10 = .ok (.iload_n 0, 1) := by decide +kernel
theorem dX7_kindOf_11 : decode cX7_kindOf 11 = .ok (.bipush 109, 2) := by decide +kernel
theorem dX7_kindOf_13 : decode cX7_kindOf 13 = .ok (.if_icmp .ne 7, 3) := by decide +kernel
theorem dX7_kindOf_16 : decode cX7_kindOf 16 = .ok (.iconst 1, 1) := by decide +kernel
theorem dX7_kindOf_17 : decode cX7_kindOf 17 = .ok (.goto 44, 3) := by decide +kernel
theorem dX7_kindOf_20 : decode cX7_kindOf 20 = .ok (.iload_n 0, 1) := by decide +kernel
theorem dX7_kindOf_21 : decode cX7_kindOf 21 = .ok (.bipush 111, 2) := by decide +kernel
theorem dX7_kindOf_23 : decode cX7_kindOf 23 = .ok (.if_icmp .ne 7, 3) := by decide +kernel
theorem dX7_kindOf_26 : decode cX7_kindOf 26 = .ok (.iconst 2, 1) := by decide +kernel
theorem dX7_kindOf_27 : decode cX7_kindOf 27 = .ok (.goto 34, 3) := by decide +kernel
theorem dX7_kindOf_30 : decode cX7_kindOf 30 = .ok (.iload_n 0, 1) := by decide +kernel
theorem dX7_kindOf_31 : decode cX7_kindOf 31 = .ok (.bipush 107, 2) := by decide +kernel
theorem dX7_kindOf_33 : decode cX7_kindOf 33 = .ok (.if_icmp .ne 7, 3) := by decide +kernel
theorem dX7_kindOf_36 : decode cX7_kindOf 36 = .ok (.iconst 3, 1) := by decide +kernel
theorem dX7_kindOf_37 : decode cX7_kindOf 37 = .ok (.goto 24, 3) := by decide +kernel
theorem dX7_kindOf_40 : decode cX7_kindOf 40 = .ok (.iload_n 0, 1) := by decide +kernel
theorem dX7_kindOf_41 : decode cX7_kindOf 41 = .ok (.bipush 104, 2) := by decide +kernel
theorem dX7_kindOf_43 : decode cX7_kindOf 43 = .ok (.if_icmp .ne 7, 3) := by decide +kernel
theorem dX7_kindOf_46 : decode cX7_kindOf 46 = .ok (.iconst 4, 1) := by decide +kernel
theorem dX7_kindOf_47 : decode cX7_kindOf 47 = .ok (.goto 14, 3) := by decide +kernel
theorem dX7_kindOf_50 : decode cX7_kindOf 50 = .ok (.iload_n 0, 1) := by decide +kernel
theorem dX7_kindOf_51 : decode cX7_kindOf 51 = .ok (.bipush 115, 2) := by decide +kernel
theorem dX7_kindOf_53 : decode cX7_kindOf 53 = .ok (.if_icmp .ne 7, 3) := by decide +kernel
theorem dX7_kindOf_56 : decode cX7_kindOf 56 = .ok (.iconst 5, 1) := by decide +kernel
theorem dX7_kindOf_57 : decode cX7_kindOf 57 = .ok (.goto 4, 3) := by decide +kernel
theorem dX7_kindOf_60 : decode cX7_kindOf 60 = .ok (.iconst (-1), 1) := by decide +kernel
theorem dX7_kindOf_61 : decode cX7_kindOf 61 = .ok (.ireturn, 1) := by decide +kernel
set_option maxHeartbeats 200000 in
theorem bX7_kindOf_0 {S : pv_S} {x0 : Int32} : pv_R mX7_kindOf 0 [some (.int x0)] [] (pv_em S) = if ¬ x0 = 99 then pv_R mX7_kindOf 10 [some (.int x0)] [] (pv_em S) else pv_R mX7_kindOf 6 [some (.int x0)] [] (pv_em S) := Eq.trans (pv_Rstp dX7_kindOf_0 rfl rfl rfl) (Eq.trans (pv_Rbp dX7_kindOf_1 kb_99) (pv_Rbr (tgt := 10) dX7_kindOf_3 rfl rfl rfl rfl rfl (by decide)))
set_option maxHeartbeats 200000 in
theorem bX7_kindOf_6 {S : pv_S} {x0 : Int32} : pv_R mX7_kindOf 6 [some (.int x0)] [] (pv_em S) = pv_R mX7_kindOf 61 [some (.int x0)] [.int 0] (pv_em S) := Eq.trans (pv_Ric dX7_kindOf_6 ki_0) (pv_Rgo (tgt := 61) dX7_kindOf_7 rfl (by decide))
set_option maxHeartbeats 200000 in
theorem bX7_kindOf_10 {S : pv_S} {x0 : Int32} : pv_R mX7_kindOf 10 [some (.int x0)] [] (pv_em S) = if ¬ x0 = 109 then pv_R mX7_kindOf 20 [some (.int x0)] [] (pv_em S) else pv_R mX7_kindOf 16 [some (.int x0)] [] (pv_em S) := Eq.trans (pv_Rstp dX7_kindOf_10 rfl rfl rfl) (Eq.trans (pv_Rbp dX7_kindOf_11 kb_109) (pv_Rbr (tgt := 20) dX7_kindOf_13 rfl rfl rfl rfl rfl (by decide)))
set_option maxHeartbeats 200000 in
theorem bX7_kindOf_16 {S : pv_S} {x0 : Int32} : pv_R mX7_kindOf 16 [some (.int x0)] [] (pv_em S) = pv_R mX7_kindOf 61 [some (.int x0)] [.int 1] (pv_em S) := Eq.trans (pv_Ric dX7_kindOf_16 ki_1) (pv_Rgo (tgt := 61) dX7_kindOf_17 rfl (by decide))
set_option maxHeartbeats 200000 in
theorem bX7_kindOf_20 {S : pv_S} {x0 : Int32} : pv_R mX7_kindOf 20 [some (.int x0)] [] (pv_em S) = if ¬ x0 = 111 then pv_R mX7_kindOf 30 [some (.int x0)] [] (pv_em S) else pv_R mX7_kindOf 26 [some (.int x0)] [] (pv_em S) := Eq.trans (pv_Rstp dX7_kindOf_20 rfl rfl rfl) (Eq.trans (pv_Rbp dX7_kindOf_21 kb_111) (pv_Rbr (tgt := 30) dX7_kindOf_23 rfl rfl rfl rfl rfl (by decide)))
set_option maxHeartbeats 200000 in
theorem bX7_kindOf_26 {S : pv_S} {x0 : Int32} : pv_R mX7_kindOf 26 [some (.int x0)] [] (pv_em S) = pv_R mX7_kindOf 61 [some (.int x0)] [.int 2] (pv_em S) := Eq.trans (pv_Ric dX7_kindOf_26 ki_2) (pv_Rgo (tgt := 61) dX7_kindOf_27 rfl (by decide))
set_option maxHeartbeats 200000 in
theorem bX7_kindOf_30 {S : pv_S} {x0 : Int32} : pv_R mX7_kindOf 30 [some (.int x0)] [] (pv_em S) = if ¬ x0 = 107 then pv_R mX7_kindOf 40 [some (.int x0)] [] (pv_em S) else pv_R mX7_kindOf 36 [some (.int x0)] [] (pv_em S) := Eq.trans (pv_Rstp dX7_kindOf_30 rfl rfl rfl) (Eq.trans (pv_Rbp dX7_kindOf_31 kb_107) (pv_Rbr (tgt := 40) dX7_kindOf_33 rfl rfl rfl rfl rfl (by decide)))
set_option maxHeartbeats 200000 in
theorem bX7_kindOf_36 {S : pv_S} {x0 : Int32} : pv_R mX7_kindOf 36 [some (.int x0)] [] (pv_em S) = pv_R mX7_kindOf 61 [some (.int x0)] [.int 3] (pv_em S) := Eq.trans (pv_Ric dX7_kindOf_36 ki_3) (pv_Rgo (tgt := 61) dX7_kindOf_37 rfl (by decide))
set_option maxHeartbeats 200000 in
theorem bX7_kindOf_40 {S : pv_S} {x0 : Int32} : pv_R mX7_kindOf 40 [some (.int x0)] [] (pv_em S) = if ¬ x0 = 104 then pv_R mX7_kindOf 50 [some (.int x0)] [] (pv_em S) else pv_R mX7_kindOf 46 [some (.int x0)] [] (pv_em S) := Eq.trans (pv_Rstp dX7_kindOf_40 rfl rfl rfl) (Eq.trans (pv_Rbp dX7_kindOf_41 kb_104) (pv_Rbr (tgt := 50) dX7_kindOf_43 rfl rfl rfl rfl rfl (by decide)))
set_option maxHeartbeats 200000 in
theorem bX7_kindOf_46 {S : pv_S} {x0 : Int32} : pv_R mX7_kindOf 46 [some (.int x0)] [] (pv_em S) = pv_R mX7_kindOf 61 [some (.int x0)] [.int 4] (pv_em S) := Eq.trans (pv_Ric dX7_kindOf_46 ki_4) (pv_Rgo (tgt := 61) dX7_kindOf_47 rfl (by decide))
set_option maxHeartbeats 200000 in
theorem bX7_kindOf_50 {S : pv_S} {x0 : Int32} : pv_R mX7_kindOf 50 [some (.int x0)] [] (pv_em S) = if ¬ x0 = 115 then pv_R mX7_kindOf 60 [some (.int x0)] [] (pv_em S) else pv_R mX7_kindOf 56 [some (.int x0)] [] (pv_em S) := Eq.trans (pv_Rstp dX7_kindOf_50 rfl rfl rfl) (Eq.trans (pv_Rbp dX7_kindOf_51 kb_115) (pv_Rbr (tgt := 60) dX7_kindOf_53 rfl rfl rfl rfl rfl (by decide)))
set_option maxHeartbeats 200000 in
theorem bX7_kindOf_56 {S : pv_S} {x0 : Int32} : pv_R mX7_kindOf 56 [some (.int x0)] [] (pv_em S) = pv_R mX7_kindOf 61 [some (.int x0)] [.int 5] (pv_em S) := Eq.trans (pv_Ric dX7_kindOf_56 ki_5) (pv_Rgo (tgt := 61) dX7_kindOf_57 rfl (by decide))
set_option maxHeartbeats 200000 in
theorem bX7_kindOf_60 {S : pv_S} {x0 : Int32} : pv_R mX7_kindOf 60 [some (.int x0)] [] (pv_em S) = pv_R mX7_kindOf 61 [some (.int x0)] [.int (-1)] (pv_em S) := pv_Ric dX7_kindOf_60 ki_m1
set_option maxHeartbeats 200000 in
theorem bX7_kindOf_61 {S : pv_S} {x0 u0 : Int32} : pv_R mX7_kindOf 61 [some (.int x0)] [.int u0] (pv_em S) = some (some (.int u0), pv_em S) := pv_Rret dX7_kindOf_61 rfl
theorem dX7_takes_0 : decode cX7_takes 0 = .ok (.aload_n 0, 1) := by decide +kernel
theorem dX7_takes_1 : decode cX7_takes 1 = .ok (.aload_n 0, 1) := by decide +kernel
theorem dX7_takes_2 : decode cX7_takes 2 = .ok (.iload_n 1, 1) := by decide +kernel
theorem dX7_takes_3 : decode cX7_takes 3 = .ok (.invokevirtual 98, 3) := by decide +kernel
theorem dX7_takes_6 : decode cX7_takes 6 = .ok (.bipush 48, 2) := by decide +kernel
theorem dX7_takes_8 : decode cX7_takes 8 = .ok (.isub, 1) := by decide +kernel
theorem dX7_takes_9 : decode cX7_takes 9 = .ok (.putfield 101, 3) := by decide +kernel
theorem dX7_takes_12 : decode cX7_takes 12 = .ok (.aload_n 0, 1) := by decide +kernel
theorem dX7_takes_13 : decode cX7_takes 13 = .ok (.getfield 101, 3) := by decide +kernel
theorem dX7_takes_16 : decode cX7_takes 16 = .ok (.i2l, 1) := by decide +kernel
theorem dX7_takes_17 : decode cX7_takes 17 = .ok (.iload_n 2, 1) := by decide +kernel
theorem dX7_takes_18 : decode cX7_takes 18 = .ok (.i2l, 1) := by decide +kernel
theorem dX7_takes_19 : decode cX7_takes 19 = .ok (.ldc2_w 104, 3) := by decide +kernel
theorem dX7_takes_22 : decode cX7_takes 22 = .ok (.invokestatic 75, 3) := by decide +kernel
theorem dX7_takes_25 : decode cX7_takes 25 = .ok (.ifCond .ne 5, 3) := by decide +kernel
theorem dX7_takes_28 : decode cX7_takes 28 = .ok (.iconst 0, 1) := by decide +kernel
theorem dX7_takes_29 : decode cX7_takes 29 = .ok (.ireturn, 1) := by decide +kernel
theorem dX7_takes_30 : decode cX7_takes 30 = .ok (.aload_n 0, 1) := by decide +kernel
theorem dX7_takes_31 : decode cX7_takes 31 = .ok (.dup, 1) := by decide +kernel
theorem dX7_takes_32 : decode cX7_takes 32 = .ok (.getfield 95, 3) := by decide +kernel
theorem dX7_takes_35 : decode cX7_takes 35 = .ok (.iconst 1, 1) := by decide +kernel
theorem dX7_takes_36 : decode cX7_takes 36 = .ok (.iadd, 1) := by decide +kernel
theorem dX7_takes_37 : decode cX7_takes 37 = .ok (.putfield 95, 3) := by decide +kernel
theorem dX7_takes_40 : decode cX7_takes 40 = .ok (.iconst 1, 1) := by decide +kernel
theorem dX7_takes_41 : decode cX7_takes 41 = .ok (.ireturn, 1) := by decide +kernel
set_option maxHeartbeats 200000 in
theorem bX7_takes_0 {S : pv_S} {x1 x2 : Int32} : pv_R mX7_takes 0 [some (.ref 37), some (.int x1), some (.int x2)] [] (pv_em S) = pv_cc (pv_R mX7_byteAt 0 [some (.ref 37), some (.int x1)] [] (pv_em S)) mX7_takes 6 [some (.ref 37), some (.int x1), some (.int x2)] [.ref 37] := Eq.trans (pv_Rstp dX7_takes_0 rfl rfl rfl) (Eq.trans (pv_Rstp dX7_takes_1 rfl rfl rfl) (Eq.trans (pv_Rstp dX7_takes_2 rfl rfl rfl) (pv_Rcall (As := [.ref 37, .int x1]) (rest := [.ref 37]) dX7_takes_3 rfl mfX7_98 rfl rfl rfl rfl rfl)))
set_option maxHeartbeats 200000 in
theorem bX7_takes_6 {S : pv_S} {x1 x2 u0 : Int32} : pv_R mX7_takes 6 [some (.ref 37), some (.int x1), some (.int x2)] [.int u0, .ref 37] (pv_em S) = pv_cc (pv_R mX7_in 0 [some (.long (Int32.toInt64 ((pv_si S 37 22 (u0 - 48)).1 37 22))), none, some (.long (Int32.toInt64 x2)), none, some (.long 9), none] [] (pv_em (pv_si S 37 22 (u0 - 48)))) mX7_takes 25 [some (.ref 37), some (.int x1), some (.int x2)] [] := Eq.trans (pv_Rbp dX7_takes_6 kb_48) (Eq.trans (pv_Rstp dX7_takes_8 rfl rfl rfl) (Eq.trans (pv_Rput dX7_takes_9 ffX7_101 rfl rfl rfl (by decide) (pv_ce_37 _ _) (Nat.le_of_ble_eq_true rfl) (pv_em_si rfl)) (Eq.trans (pv_Rstp dX7_takes_12 rfl rfl rfl) (Eq.trans (pv_Rget dX7_takes_13 ffX7_101 (by decide) (pv_ce_37 _ _) rfl) (Eq.trans (pv_Rstp dX7_takes_16 rfl rfl rfl) (Eq.trans (pv_Rstp dX7_takes_17 rfl rfl rfl) (Eq.trans (pv_Rstp dX7_takes_18 rfl rfl rfl) (Eq.trans (pv_Rstp dX7_takes_19 rfl rfl rfl) (pv_Rcall (As := [.long (Int32.toInt64 ((pv_si S 37 22 (u0 - 48)).1 37 22)), .long (Int32.toInt64 x2), .long 9]) (rest := []) dX7_takes_22 rfl mfX7_75 rfl rfl rfl rfl rfl)))))))))
set_option maxHeartbeats 200000 in
theorem bX7_takes_25 {S : pv_S} {x1 x2 u0 : Int32} : pv_R mX7_takes 25 [some (.ref 37), some (.int x1), some (.int x2)] [.int u0] (pv_em S) = if ¬ u0 = 0 then pv_R mX7_takes 30 [some (.ref 37), some (.int x1), some (.int x2)] [] (pv_em S) else pv_R mX7_takes 28 [some (.ref 37), some (.int x1), some (.int x2)] [] (pv_em S) := pv_Rbr (tgt := 30) dX7_takes_25 rfl rfl rfl rfl rfl (by decide)
set_option maxHeartbeats 200000 in
theorem bX7_takes_28 {S : pv_S} {x1 x2 : Int32} : pv_R mX7_takes 28 [some (.ref 37), some (.int x1), some (.int x2)] [] (pv_em S) = some (some (.int 0), pv_em S) := Eq.trans (pv_Ric dX7_takes_28 ki_0) (pv_Rret dX7_takes_29 rfl)
set_option maxHeartbeats 200000 in
theorem bX7_takes_30 {S : pv_S} {x1 x2 : Int32} : pv_R mX7_takes 30 [some (.ref 37), some (.int x1), some (.int x2)] [] (pv_em S) = some (some (.int 1), pv_em (pv_si S 37 18 ((S.1 37 18) + 1))) := Eq.trans (pv_Rstp dX7_takes_30 rfl rfl rfl) (Eq.trans (pv_Rstp dX7_takes_31 rfl rfl rfl) (Eq.trans (pv_Rget dX7_takes_32 ffX7_95 (by decide) (pv_ce_37 _ _) rfl) (Eq.trans (pv_Ric dX7_takes_35 ki_1) (Eq.trans (pv_Rstp dX7_takes_36 rfl rfl rfl) (Eq.trans (pv_Rput dX7_takes_37 ffX7_95 rfl rfl rfl (by decide) (pv_ce_37 _ _) (Nat.le_of_ble_eq_true rfl) (pv_em_si rfl)) (Eq.trans (pv_Ric dX7_takes_40 ki_1) (pv_Rret dX7_takes_41 rfl)))))))
theorem dX7_takesWeight_0 : decode cX7_takesWeight 0 = .ok (.aload_n 0, 1) := by decide +kernel
theorem dX7_takesWeight_1 : decode cX7_takesWeight 1 = .ok (.iload_n 1, 1) := by decide +kernel
theorem dX7_takesWeight_2 : decode cX7_takesWeight 2 = .ok (.iconst 0, 1) := by decide +kernel
theorem dX7_takesWeight_3 : decode cX7_takesWeight 3 = .ok (.invokevirtual 106, 3) := by decide +kernel
theorem dX7_takesWeight_6 : decode cX7_takesWeight 6 = .ok (.ifCond .ne 5, 3) := by decide +kernel
theorem dX7_takesWeight_9 : decode cX7_takesWeight 9 = .ok (.iconst 0, 1) := by decide +kernel
theorem dX7_takesWeight_10 : decode cX7_takesWeight 10 = .ok (.ireturn, 1) := by decide +kernel
theorem dX7_takesWeight_11 : decode cX7_takesWeight 11 = .ok (.aload_n 0, 1) := by decide +kernel
theorem dX7_takesWeight_12 : decode cX7_takesWeight 12 = .ok (.bipush 10, 2) := by decide +kernel
theorem dX7_takesWeight_14 : decode cX7_takesWeight 14 = .ok (.aload_n 0, 1) := by decide +kernel
theorem dX7_takesWeight_15 : decode cX7_takesWeight 15 = .ok (.getfield 101, 3) := by decide +kernel
theorem dX7_takesWeight_18 : decode cX7_takesWeight 18 = .ok (.imul, 1) := by decide +kernel
theorem dX7_takesWeight_19 : decode cX7_takesWeight 19 = .ok (.putfield 110, 3) := by decide +kernel
theorem dX7_takesWeight_22 : decode cX7_takesWeight 22 = .ok (.aload_n 0, 1) := by decide +kernel
theorem dX7_takesWeight_23 : decode cX7_takesWeight 23 = .ok (.iload_n 1, 1) := by decide +kernel
theorem dX7_takesWeight_24 : decode cX7_takesWeight 24 = .ok (.aload_n 0, 1) := by decide +kernel
theorem dX7_takesWeight_25 : decode cX7_takesWeight 25 = .ok (.getfield 110, 3) := by decide +kernel
theorem dX7_takesWeight_28 : decode cX7_takesWeight 28 = .ok (.ifCond .ne 7, 3) := by decide +kernel
theorem dX7_takesWeight_31 : decode cX7_takesWeight 31 = .ok (.iconst 1, 1) := by decide +kernel
theorem dX7_takesWeight_32 : decode cX7_takesWeight 32 = .ok (.goto 4, 3) := by decide +kernel
theorem dX7_takesWeight_35 : decode cX7_takesWeight 35 = .ok (.iconst 0, 1) := by decide +kernel
theorem dX7_takesWeight_36 : decode cX7_takesWeight 36 = .ok (.invokevirtual 106, 3) := by decide +kernel
theorem dX7_takesWeight_39 : decode cX7_takesWeight 39 = .ok (.ifCond .ne 5, 3) := by decide +kernel
theorem dX7_takesWeight_42 : decode cX7_takesWeight 42 = .ok (.iconst 0, 1) := by decide +kernel
theorem dX7_takesWeight_43 : decode cX7_takesWeight 43 = .ok (.ireturn, 1) := by decide +kernel
theorem dX7_takesWeight_44 : decode cX7_takesWeight 44 = .ok (.aload_n 0, 1) := by decide +kernel
theorem dX7_takesWeight_45 : decode cX7_takesWeight 45 = .ok (.dup, 1) := by decide +kernel
theorem dX7_takesWeight_46 : decode cX7_takesWeight 46 = .ok (.getfield 110, 3) := by decide +kernel
theorem dX7_takesWeight_49 : decode cX7_takesWeight 49 = .ok (.aload_n 0, 1) := by decide +kernel
theorem dX7_takesWeight_50 : decode cX7_takesWeight 50 = .ok (.getfield 101, 3) := by decide +kernel
theorem dX7_takesWeight_53 : decode cX7_takesWeight 53 = .ok (.iadd, 1) := by decide +kernel
theorem dX7_takesWeight_54 : decode cX7_takesWeight 54 = .ok (.putfield 110, 3) := by decide +kernel
theorem dX7_takesWeight_57 : decode cX7_takesWeight 57 = .ok (.iconst 1, 1) := by decide +kernel
theorem dX7_takesWeight_58 : decode cX7_takesWeight 58 = .ok (.ireturn, 1) := by decide +kernel
set_option maxHeartbeats 200000 in
theorem bX7_takesWeight_0 {S : pv_S} {x1 : Int32} : pv_R mX7_takesWeight 0 [some (.ref 37), some (.int x1)] [] (pv_em S) = pv_cc (pv_R mX7_takes 0 [some (.ref 37), some (.int x1), some (.int 0)] [] (pv_em S)) mX7_takesWeight 6 [some (.ref 37), some (.int x1)] [] := Eq.trans (pv_Rstp dX7_takesWeight_0 rfl rfl rfl) (Eq.trans (pv_Rstp dX7_takesWeight_1 rfl rfl rfl) (Eq.trans (pv_Ric dX7_takesWeight_2 ki_0) (pv_Rcall (As := [.ref 37, .int x1, .int 0]) (rest := []) dX7_takesWeight_3 rfl mfX7_106 rfl rfl rfl rfl rfl)))
set_option maxHeartbeats 200000 in
theorem bX7_takesWeight_6 {S : pv_S} {x1 u0 : Int32} : pv_R mX7_takesWeight 6 [some (.ref 37), some (.int x1)] [.int u0] (pv_em S) = if ¬ u0 = 0 then pv_R mX7_takesWeight 11 [some (.ref 37), some (.int x1)] [] (pv_em S) else pv_R mX7_takesWeight 9 [some (.ref 37), some (.int x1)] [] (pv_em S) := pv_Rbr (tgt := 11) dX7_takesWeight_6 rfl rfl rfl rfl rfl (by decide)
set_option maxHeartbeats 200000 in
theorem bX7_takesWeight_9 {S : pv_S} {x1 : Int32} : pv_R mX7_takesWeight 9 [some (.ref 37), some (.int x1)] [] (pv_em S) = some (some (.int 0), pv_em S) := Eq.trans (pv_Ric dX7_takesWeight_9 ki_0) (pv_Rret dX7_takesWeight_10 rfl)
set_option maxHeartbeats 200000 in
theorem bX7_takesWeight_11 {S : pv_S} {x1 : Int32} : pv_R mX7_takesWeight 11 [some (.ref 37), some (.int x1)] [] (pv_em S) = if ¬ ((pv_si S 37 23 (10 * (S.1 37 22))).1 37 23) = 0 then pv_R mX7_takesWeight 35 [some (.ref 37), some (.int x1)] [.int x1, .ref 37] (pv_em (pv_si S 37 23 (10 * (S.1 37 22)))) else pv_R mX7_takesWeight 31 [some (.ref 37), some (.int x1)] [.int x1, .ref 37] (pv_em (pv_si S 37 23 (10 * (S.1 37 22)))) := Eq.trans (pv_Rstp dX7_takesWeight_11 rfl rfl rfl) (Eq.trans (pv_Rbp dX7_takesWeight_12 kb_10) (Eq.trans (pv_Rstp dX7_takesWeight_14 rfl rfl rfl) (Eq.trans (pv_Rget dX7_takesWeight_15 ffX7_101 (by decide) (pv_ce_37 _ _) rfl) (Eq.trans (pv_Rstp dX7_takesWeight_18 rfl rfl rfl) (Eq.trans (pv_Rput dX7_takesWeight_19 ffX7_110 rfl rfl rfl (by decide) (pv_ce_37 _ _) (Nat.le_of_ble_eq_true rfl) (pv_em_si rfl)) (Eq.trans (pv_Rstp dX7_takesWeight_22 rfl rfl rfl) (Eq.trans (pv_Rstp dX7_takesWeight_23 rfl rfl rfl) (Eq.trans (pv_Rstp dX7_takesWeight_24 rfl rfl rfl) (Eq.trans (pv_Rget dX7_takesWeight_25 ffX7_110 (by decide) (pv_ce_37 _ _) rfl) (pv_Rbr (tgt := 35) dX7_takesWeight_28 rfl rfl rfl rfl rfl (by decide)))))))))))
set_option maxHeartbeats 200000 in
theorem bX7_takesWeight_31 {S : pv_S} {x1 u0 : Int32} : pv_R mX7_takesWeight 31 [some (.ref 37), some (.int x1)] [.int u0, .ref 37] (pv_em S) = pv_R mX7_takesWeight 36 [some (.ref 37), some (.int x1)] [.int 1, .int u0, .ref 37] (pv_em S) := Eq.trans (pv_Ric dX7_takesWeight_31 ki_1) (pv_Rgo (tgt := 36) dX7_takesWeight_32 rfl (by decide))
set_option maxHeartbeats 200000 in
theorem bX7_takesWeight_35 {S : pv_S} {x1 u0 : Int32} : pv_R mX7_takesWeight 35 [some (.ref 37), some (.int x1)] [.int u0, .ref 37] (pv_em S) = pv_R mX7_takesWeight 36 [some (.ref 37), some (.int x1)] [.int 0, .int u0, .ref 37] (pv_em S) := pv_Ric dX7_takesWeight_35 ki_0
set_option maxHeartbeats 200000 in
theorem bX7_takesWeight_36 {S : pv_S} {x1 u0 u1 : Int32} : pv_R mX7_takesWeight 36 [some (.ref 37), some (.int x1)] [.int u0, .int u1, .ref 37] (pv_em S) = pv_cc (pv_R mX7_takes 0 [some (.ref 37), some (.int u1), some (.int u0)] [] (pv_em S)) mX7_takesWeight 39 [some (.ref 37), some (.int x1)] [] := pv_Rcall (As := [.ref 37, .int u1, .int u0]) (rest := []) dX7_takesWeight_36 rfl mfX7_106 rfl rfl rfl rfl rfl
set_option maxHeartbeats 200000 in
theorem bX7_takesWeight_39 {S : pv_S} {x1 u0 : Int32} : pv_R mX7_takesWeight 39 [some (.ref 37), some (.int x1)] [.int u0] (pv_em S) = if ¬ u0 = 0 then pv_R mX7_takesWeight 44 [some (.ref 37), some (.int x1)] [] (pv_em S) else pv_R mX7_takesWeight 42 [some (.ref 37), some (.int x1)] [] (pv_em S) := pv_Rbr (tgt := 44) dX7_takesWeight_39 rfl rfl rfl rfl rfl (by decide)
set_option maxHeartbeats 200000 in
theorem bX7_takesWeight_42 {S : pv_S} {x1 : Int32} : pv_R mX7_takesWeight 42 [some (.ref 37), some (.int x1)] [] (pv_em S) = some (some (.int 0), pv_em S) := Eq.trans (pv_Ric dX7_takesWeight_42 ki_0) (pv_Rret dX7_takesWeight_43 rfl)
set_option maxHeartbeats 200000 in
theorem bX7_takesWeight_44 {S : pv_S} {x1 : Int32} : pv_R mX7_takesWeight 44 [some (.ref 37), some (.int x1)] [] (pv_em S) = some (some (.int 1), pv_em (pv_si S 37 23 ((S.1 37 23) + (S.1 37 22)))) := Eq.trans (pv_Rstp dX7_takesWeight_44 rfl rfl rfl) (Eq.trans (pv_Rstp dX7_takesWeight_45 rfl rfl rfl) (Eq.trans (pv_Rget dX7_takesWeight_46 ffX7_110 (by decide) (pv_ce_37 _ _) rfl) (Eq.trans (pv_Rstp dX7_takesWeight_49 rfl rfl rfl) (Eq.trans (pv_Rget dX7_takesWeight_50 ffX7_101 (by decide) (pv_ce_37 _ _) rfl) (Eq.trans (pv_Rstp dX7_takesWeight_53 rfl rfl rfl) (Eq.trans (pv_Rput dX7_takesWeight_54 ffX7_110 rfl rfl rfl (by decide) (pv_ce_37 _ _) (Nat.le_of_ble_eq_true rfl) (pv_em_si rfl)) (Eq.trans (pv_Ric dX7_takesWeight_57 ki_1) (pv_Rret dX7_takesWeight_58 rfl))))))))
