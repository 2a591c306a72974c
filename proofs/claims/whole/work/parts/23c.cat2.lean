/-! ===== blocks: cat2 ===== -/
theorem dX6_digest_0 : decode cX6_digest 0 = .ok (.ldc2_w 322, 3) := by decide +kernel
theorem dX6_digest_3 : decode cX6_digest 3 = .ok (.lstore_n 1, 1) := by decide +kernel
theorem dX6_digest_4 : decode cX6_digest 4 = .ok (.iconst 0, 1) := by decide +kernel
theorem dX6_digest_5 : decode cX6_digest 5 = .ok (.istore_n 3, 1) := by decide +kernel
theorem dX6_digest_6 : decode cX6_digest 6 = .ok (.iload_n 3, 1) := by decide +kernel
theorem dX6_digest_7 : decode cX6_digest 7 = .ok (.bipush 11, 2) := by decide +kernel
theorem dX6_digest_9 : decode cX6_digest 9 = .ok (.if_icmp .gt 22, 3) := by decide +kernel
theorem dX6_digest_12 : decode cX6_digest 12 = .ok (.ldc2_w 324, 3) := by decide +kernel
theorem dX6_digest_15 : decode cX6_digest 15 = .ok (.lload_n 1, 1) := by decide +kernel
theorem dX6_digest_16 : decode cX6_digest 16 = .ok (.lmul, 1) := by decide +kernel
theorem dX6_digest_17 : decode cX6_digest 17 = .ok (.aload_n 0, 1) := by decide +kernel
theorem dX6_digest_18 : decode cX6_digest 18 = .ok (.iload_n 3, 1) := by decide +kernel
theorem dX6_digest_19 : decode cX6_digest 19 = .ok (.invokevirtual 326, 3) := by decide +kernel
theorem dX6_digest_22 : decode cX6_digest 22 = .ok (.i2l, 1) := by decide +kernel
theorem dX6_digest_23 : decode cX6_digest 23 = .ok (.ladd, 1) := by decide +kernel
theorem dX6_digest_24 : decode cX6_digest 24 = .ok (.lstore_n 1, 1) := by decide +kernel
theorem dX6_digest_25 : decode cX6_digest 25 = .ok (.iinc 3 1, 3) := by decide +kernel
theorem dX6_digest_28 : decode cX6_digest 28 = .ok (.goto (-22), 3) := by decide +kernel
theorem dX6_digest_31 : decode cX6_digest 31 = .ok (.ldc2_w 324, 3) := by decide +kernel
theorem dX6_digest_34 : decode cX6_digest 34 = .ok (.lload_n 1, 1) := by decide +kernel
theorem dX6_digest_35 : decode cX6_digest 35 = .ok (.lmul, 1) := by decide +kernel
theorem dX6_digest_36 : decode cX6_digest 36 = .ok (.aload_n 0, 1) := by decide +kernel
theorem dX6_digest_37 : decode cX6_digest 37 = .ok (.getfield 31, 3) := by decide +kernel
theorem dX6_digest_40 : decode cX6_digest 40 = .ok (.getfield 307, 3) := by decide +kernel
theorem dX6_digest_43 : decode cX6_digest 43 = .ok (.i2l, 1) := by decide +kernel
theorem dX6_digest_44 : decode cX6_digest 44 = .ok (.ladd, 1) := by decide +kernel
theorem dX6_digest_45 : decode cX6_digest 45 = .ok (.lstore_n 1, 1) := by decide +kernel
theorem dX6_digest_46 : decode cX6_digest 46 = .ok (.iconst 0, 1) := by decide +kernel
theorem dX6_digest_47 : decode cX6_digest 47 = .ok (.istore_n 3, 1) := by decide +kernel
theorem dX6_digest_48 : decode cX6_digest 48 = .ok (.iload_n 3, 1) := by decide +kernel
theorem dX6_digest_49 : decode cX6_digest 49 = .ok (.aload_n 0, 1) := by decide +kernel
theorem dX6_digest_50 : decode cX6_digest 50 = .ok (.getfield 31, 3) := by decide +kernel
theorem dX6_digest_53 : decode cX6_digest 53 = .ok (.getfield 110, 3) := by decide +kernel
theorem dX6_digest_56 : decode cX6_digest 56 = .ok (.if_icmp .ge 42, 3) := by decide +kernel
theorem dX6_digest_59 : decode cX6_digest 59 = .ok (.iconst 0, 1) := by decide +kernel
theorem dX6_digest_60 : decode cX6_digest 60 = .ok (.istore 4, 2) := by decide +kernel
theorem dX6_digest_62 : decode cX6_digest 62 = .ok (.iload 4, 2) := by decide +kernel
theorem dX6_digest_64 : decode cX6_digest 64 = .ok (.iconst 4, 1) := by decide +kernel
theorem dX6_digest_65 : decode cX6_digest 65 = .ok (.if_icmp .gt 27, 3) := by decide +kernel
theorem dX6_digest_68 : decode cX6_digest 68 = .ok (.ldc2_w 324, 3) := by decide +kernel
theorem dX6_digest_71 : decode cX6_digest 71 = .ok (.lload_n 1, 1) := by decide +kernel
theorem dX6_digest_72 : decode cX6_digest 72 = .ok (.lmul, 1) := by decide +kernel
theorem dX6_digest_73 : decode cX6_digest 73 = .ok (.aload_n 0, 1) := by decide +kernel
theorem dX6_digest_74 : decode cX6_digest 74 = .ok (.getfield 31, 3) := by decide +kernel
theorem dX6_digest_77 : decode cX6_digest 77 = .ok (.iload_n 3, 1) := by decide +kernel
theorem dX6_digest_78 : decode cX6_digest 78 = .ok (.iload 4, 2) := by decide +kernel
theorem dX6_digest_80 : decode cX6_digest 80 = .ok (.invokevirtual 119, 3) := by decide +kernel
theorem dX6_digest_83 : decode cX6_digest 83 = .ok (.i2l, 1) := by decide +kernel
theorem dX6_digest_84 : decode cX6_digest 84 = .ok (.ladd, 1) := by decide +kernel
theorem dX6_digest_85 : decode cX6_digest 85 = .ok (.lstore_n 1, 1) := by decide +kernel
theorem dX6_digest_86 : decode cX6_digest 86 = .ok (.iinc 4 1, 3) := by decide +kernel
theorem dX6_digest_89 : decode cX6_digest 89 = .ok (.goto (-27), 3) := by decide +kernel
theorem dX6_digest_92 : decode cX6_digest 92 = .ok (.iinc 3 1, 3) := by decide +kernel
theorem dX6_digest_95 : decode cX6_digest 95 = .ok (.goto (-47), 3) := by decide +kernel
theorem dX6_digest_98 : decode cX6_digest 98 = .ok (.iconst 0, 1) := by decide +kernel
theorem dX6_digest_99 : decode cX6_digest 99 = .ok (.istore_n 3, 1) := by decide +kernel
theorem dX6_digest_100 : decode cX6_digest 100 = .ok (.iload_n 3, 1) := by decide +kernel
theorem dX6_digest_101 : decode cX6_digest 101 = .ok (.iconst 3, 1) := by decide +kernel
theorem dX6_digest_102 : decode cX6_digest 102 = .ok (.if_icmp .ge 26, 3) := by decide +kernel
theorem dX6_digest_105 : decode cX6_digest 105 = .ok (.ldc2_w 324, 3) := by decide +kernel
theorem dX6_digest_108 : decode cX6_digest 108 = .ok (.lload_n 1, 1) := by decide +kernel
theorem dX6_digest_109 : decode cX6_digest 109 = .ok (.lmul, 1) := by decide +kernel
theorem dX6_digest_110 : decode cX6_digest 110 = .ok (.aload_n 0, 1) := by decide +kernel
theorem dX6_digest_111 : decode cX6_digest 111 = .ok (.getfield 31, 3) := by decide +kernel
theorem dX6_digest_114 : decode cX6_digest 114 = .ok (.getfield 186, 3) := by decide +kernel
theorem dX6_digest_117 : decode cX6_digest 117 = .ok (.iload_n 3, 1) := by decide +kernel
theorem dX6_digest_118 : decode cX6_digest 118 = .ok (.iaload, 1) := by decide +kernel
theorem dX6_digest_119 : decode cX6_digest 119 = .ok (.i2l, 1) := by decide +kernel
theorem dX6_digest_120 : decode cX6_digest 120 = .ok (.ladd, 1) := by decide +kernel
theorem dX6_digest_121 : decode cX6_digest 121 = .ok (.lstore_n 1, 1) := by decide +kernel
theorem dX6_digest_122 : decode cX6_digest 122 = .ok (.iinc 3 1, 3) := by decide +kernel
theorem dX6_digest_125 : decode cX6_digest 125 = .ok (.goto (-25), 3) := by decide +kernel
theorem dX6_digest_128 : decode cX6_digest 128 = .ok (.aload_n 0, 1) := by decide +kernel
theorem dX6_digest_129 : decode cX6_digest 129 = .ok (.getfield 14, 3) := by decide +kernel
theorem dX6_digest_132 : decode cX6_digest 132 = .ok (.lload_n 1, 1) := by decide +kernel
theorem dX6_digest_133 : decode cX6_digest 133 = .ok (.invokevirtual 329, 3) := by decide +kernel
theorem dX6_digest_136 : decode cX6_digest 136 = .ok (.lstore_n 1, 1) := by decide +kernel
theorem dX6_digest_137 : decode cX6_digest 137 = .ok (.aload_n 0, 1) := by decide +kernel
theorem dX6_digest_138 : decode cX6_digest 138 = .ok (.getfield 18, 3) := by decide +kernel
theorem dX6_digest_141 : decode cX6_digest 141 = .ok (.lload_n 1, 1) := by decide +kernel
theorem dX6_digest_142 : decode cX6_digest 142 = .ok (.invokevirtual 329, 3) := by decide +kernel
theorem dX6_digest_145 : decode cX6_digest 145 = .ok (.lreturn, 1) := by decide +kernel
set_option maxHeartbeats 200000 in
theorem bX6_digest_0 {S : pv_S} {a1 a2 a3 a4 : Option Value} : pv_R mX6_digest 0 [some (.ref 0), a1, a2, a3, a4] [] (pv_em S) = pv_R mX6_digest 6 [some (.ref 0), some (.long 17), none, some (.int 0), a4] [] (pv_em S) := Eq.trans (pv_Rstp dX6_digest_0 rfl rfl rfl) (Eq.trans (pv_Rstp dX6_digest_3 rfl rfl rfl) (Eq.trans (pv_Ric dX6_digest_4 ki_0) (pv_Rstp dX6_digest_5 rfl rfl rfl)))
set_option maxHeartbeats 200000 in
theorem bX6_digest_6 {S : pv_S} {x1 : Int64} {a2 a4 : Option Value} {x3 : Int32} : pv_R mX6_digest 6 [some (.ref 0), some (.long x1), a2, some (.int x3), a4] [] (pv_em S) = if 11 < x3 then pv_R mX6_digest 31 [some (.ref 0), some (.long x1), a2, some (.int x3), a4] [] (pv_em S) else pv_R mX6_digest 12 [some (.ref 0), some (.long x1), a2, some (.int x3), a4] [] (pv_em S) := Eq.trans (pv_Rstp dX6_digest_6 rfl rfl rfl) (Eq.trans (pv_Rbp dX6_digest_7 kb_11) (pv_Rbr (tgt := 31) dX6_digest_9 rfl rfl rfl rfl rfl (by decide)))
set_option maxHeartbeats 200000 in
theorem bX6_digest_12 {S : pv_S} {x1 : Int64} {a2 a4 : Option Value} {x3 : Int32} : pv_R mX6_digest 12 [some (.ref 0), some (.long x1), a2, some (.int x3), a4] [] (pv_em S) = pv_cc (pv_R mX6_count 0 [some (.ref 0), some (.int x3)] [] (pv_em S)) mX6_digest 22 [some (.ref 0), some (.long x1), a2, some (.int x3), a4] [.long (31 * x1)] := Eq.trans (pv_Rstp dX6_digest_12 rfl rfl rfl) (Eq.trans (pv_Rstp dX6_digest_15 rfl rfl rfl) (Eq.trans (pv_Rstp dX6_digest_16 rfl rfl rfl) (Eq.trans (pv_Rstp dX6_digest_17 rfl rfl rfl) (Eq.trans (pv_Rstp dX6_digest_18 rfl rfl rfl) (pv_Rcall (As := [.ref 0, .int x3]) (rest := [.long (31 * x1)]) dX6_digest_19 rfl mfX6_326 rfl rfl rfl rfl rfl)))))
set_option maxHeartbeats 200000 in
theorem bX6_digest_22 {S : pv_S} {x1 u1 : Int64} {a2 a4 : Option Value} {x3 u0 : Int32} : pv_R mX6_digest 22 [some (.ref 0), some (.long x1), a2, some (.int x3), a4] [.int u0, .long u1] (pv_em S) = pv_R mX6_digest 6 [some (.ref 0), some (.long (u1 + (Int32.toInt64 u0))), none, some (.int (x3 + 1)), a4] [] (pv_em S) := Eq.trans (pv_Rstp dX6_digest_22 rfl rfl rfl) (Eq.trans (pv_Rstp dX6_digest_23 rfl rfl rfl) (Eq.trans (pv_Rstp dX6_digest_24 rfl rfl rfl) (Eq.trans (pv_Rinc dX6_digest_25 rfl (Nat.le_of_ble_eq_true rfl) ki_1 rfl) (pv_Rgo (tgt := 6) dX6_digest_28 rfl (by decide)))))
set_option maxHeartbeats 200000 in
theorem bX6_digest_31 {S : pv_S} {x1 : Int64} {a2 a4 : Option Value} {x3 : Int32} : pv_R mX6_digest 31 [some (.ref 0), some (.long x1), a2, some (.int x3), a4] [] (pv_em S) = pv_R mX6_digest 48 [some (.ref 0), some (.long ((31 * x1) + (Int32.toInt64 (S.1 21 11)))), none, some (.int 0), a4] [] (pv_em S) := Eq.trans (pv_Rstp dX6_digest_31 rfl rfl rfl) (Eq.trans (pv_Rstp dX6_digest_34 rfl rfl rfl) (Eq.trans (pv_Rstp dX6_digest_35 rfl rfl rfl) (Eq.trans (pv_Rstp dX6_digest_36 rfl rfl rfl) (Eq.trans (pv_Rget dX6_digest_37 ffX6_31 (by decide) (pv_ce_0 _ _) rfl) (Eq.trans (pv_Rget dX6_digest_40 ffX6_307 (by decide) (pv_ce_21 _ _) rfl) (Eq.trans (pv_Rstp dX6_digest_43 rfl rfl rfl) (Eq.trans (pv_Rstp dX6_digest_44 rfl rfl rfl) (Eq.trans (pv_Rstp dX6_digest_45 rfl rfl rfl) (Eq.trans (pv_Ric dX6_digest_46 ki_0) (pv_Rstp dX6_digest_47 rfl rfl rfl))))))))))
set_option maxHeartbeats 200000 in
theorem bX6_digest_48 {S : pv_S} {x1 : Int64} {a2 a4 : Option Value} {x3 : Int32} : pv_R mX6_digest 48 [some (.ref 0), some (.long x1), a2, some (.int x3), a4] [] (pv_em S) = if (S.1 21 7) ≤ x3 then pv_R mX6_digest 98 [some (.ref 0), some (.long x1), a2, some (.int x3), a4] [] (pv_em S) else pv_R mX6_digest 59 [some (.ref 0), some (.long x1), a2, some (.int x3), a4] [] (pv_em S) := Eq.trans (pv_Rstp dX6_digest_48 rfl rfl rfl) (Eq.trans (pv_Rstp dX6_digest_49 rfl rfl rfl) (Eq.trans (pv_Rget dX6_digest_50 ffX6_31 (by decide) (pv_ce_0 _ _) rfl) (Eq.trans (pv_Rget dX6_digest_53 ffX6_110 (by decide) (pv_ce_21 _ _) rfl) (pv_Rbr (tgt := 98) dX6_digest_56 rfl rfl rfl rfl rfl (by decide)))))
set_option maxHeartbeats 200000 in
theorem bX6_digest_59 {S : pv_S} {x1 : Int64} {a2 a4 : Option Value} {x3 : Int32} : pv_R mX6_digest 59 [some (.ref 0), some (.long x1), a2, some (.int x3), a4] [] (pv_em S) = pv_R mX6_digest 62 [some (.ref 0), some (.long x1), a2, some (.int x3), some (.int 0)] [] (pv_em S) := Eq.trans (pv_Ric dX6_digest_59 ki_0) (pv_Rstp dX6_digest_60 rfl rfl rfl)
set_option maxHeartbeats 200000 in
theorem bX6_digest_62 {S : pv_S} {x1 : Int64} {a2 : Option Value} {x3 x4 : Int32} : pv_R mX6_digest 62 [some (.ref 0), some (.long x1), a2, some (.int x3), some (.int x4)] [] (pv_em S) = if 4 < x4 then pv_R mX6_digest 92 [some (.ref 0), some (.long x1), a2, some (.int x3), some (.int x4)] [] (pv_em S) else pv_R mX6_digest 68 [some (.ref 0), some (.long x1), a2, some (.int x3), some (.int x4)] [] (pv_em S) := Eq.trans (pv_Rstp dX6_digest_62 rfl rfl rfl) (Eq.trans (pv_Ric dX6_digest_64 ki_4) (pv_Rbr (tgt := 92) dX6_digest_65 rfl rfl rfl rfl rfl (by decide)))
set_option maxHeartbeats 200000 in
theorem bX6_digest_68 {S : pv_S} {x1 : Int64} {a2 : Option Value} {x3 x4 : Int32} : pv_R mX6_digest 68 [some (.ref 0), some (.long x1), a2, some (.int x3), some (.int x4)] [] (pv_em S) = pv_cc (pv_R mX5_trait 0 [some (.ref 21), some (.int x3), some (.int x4)] [] (pv_em S)) mX6_digest 83 [some (.ref 0), some (.long x1), a2, some (.int x3), some (.int x4)] [.long (31 * x1)] := Eq.trans (pv_Rstp dX6_digest_68 rfl rfl rfl) (Eq.trans (pv_Rstp dX6_digest_71 rfl rfl rfl) (Eq.trans (pv_Rstp dX6_digest_72 rfl rfl rfl) (Eq.trans (pv_Rstp dX6_digest_73 rfl rfl rfl) (Eq.trans (pv_Rget dX6_digest_74 ffX6_31 (by decide) (pv_ce_0 _ _) rfl) (Eq.trans (pv_Rstp dX6_digest_77 rfl rfl rfl) (Eq.trans (pv_Rstp dX6_digest_78 rfl rfl rfl) (pv_Rcall (As := [.ref 21, .int x3, .int x4]) (rest := [.long (31 * x1)]) dX6_digest_80 rfl mfX6_119 rfl rfl rfl rfl rfl)))))))
set_option maxHeartbeats 200000 in
theorem bX6_digest_83 {S : pv_S} {x1 u1 : Int64} {a2 : Option Value} {x3 x4 u0 : Int32} : pv_R mX6_digest 83 [some (.ref 0), some (.long x1), a2, some (.int x3), some (.int x4)] [.int u0, .long u1] (pv_em S) = pv_R mX6_digest 62 [some (.ref 0), some (.long (u1 + (Int32.toInt64 u0))), none, some (.int x3), some (.int (x4 + 1))] [] (pv_em S) := Eq.trans (pv_Rstp dX6_digest_83 rfl rfl rfl) (Eq.trans (pv_Rstp dX6_digest_84 rfl rfl rfl) (Eq.trans (pv_Rstp dX6_digest_85 rfl rfl rfl) (Eq.trans (pv_Rinc dX6_digest_86 rfl (Nat.le_of_ble_eq_true rfl) ki_1 rfl) (pv_Rgo (tgt := 62) dX6_digest_89 rfl (by decide)))))
set_option maxHeartbeats 200000 in
theorem bX6_digest_92 {S : pv_S} {x1 : Int64} {a2 : Option Value} {x3 x4 : Int32} : pv_R mX6_digest 92 [some (.ref 0), some (.long x1), a2, some (.int x3), some (.int x4)] [] (pv_em S) = pv_R mX6_digest 48 [some (.ref 0), some (.long x1), (pv_nl a2), some (.int (x3 + 1)), some (.int x4)] [] (pv_em S) := Eq.trans (pv_Rinc dX6_digest_92 rfl (Nat.le_of_ble_eq_true rfl) ki_1 rfl) (pv_Rgo (tgt := 48) dX6_digest_95 rfl (by decide))
set_option maxHeartbeats 200000 in
theorem bX6_digest_98 {S : pv_S} {x1 : Int64} {a2 a4 : Option Value} {x3 : Int32} : pv_R mX6_digest 98 [some (.ref 0), some (.long x1), a2, some (.int x3), a4] [] (pv_em S) = pv_R mX6_digest 100 [some (.ref 0), some (.long x1), (pv_nl a2), some (.int 0), a4] [] (pv_em S) := Eq.trans (pv_Ric dX6_digest_98 ki_0) (pv_Rstp dX6_digest_99 rfl rfl rfl)
set_option maxHeartbeats 200000 in
theorem bX6_digest_100 {S : pv_S} {x1 : Int64} {a2 a4 : Option Value} {x3 : Int32} : pv_R mX6_digest 100 [some (.ref 0), some (.long x1), a2, some (.int x3), a4] [] (pv_em S) = if 3 ≤ x3 then pv_R mX6_digest 128 [some (.ref 0), some (.long x1), a2, some (.int x3), a4] [] (pv_em S) else pv_R mX6_digest 105 [some (.ref 0), some (.long x1), a2, some (.int x3), a4] [] (pv_em S) := Eq.trans (pv_Rstp dX6_digest_100 rfl rfl rfl) (Eq.trans (pv_Ric dX6_digest_101 ki_3) (pv_Rbr (tgt := 128) dX6_digest_102 rfl rfl rfl rfl rfl (by decide)))
set_option maxHeartbeats 200000 in
theorem bX6_digest_105 {S : pv_S} {x1 : Int64} {a2 a4 : Option Value} {x3 : Int32} : pv_R mX6_digest 105 [some (.ref 0), some (.long x1), a2, some (.int x3), a4] [] (pv_em S) = if x3 < 0 ∨ 3 ≤ x3.toNatClampNeg then none else pv_R mX6_digest 100 [some (.ref 0), some (.long ((31 * x1) + (Int32.toInt64 (S.1 27 x3.toNatClampNeg)))), none, some (.int (x3 + 1)), a4] [] (pv_em S) := Eq.trans (pv_Rstp dX6_digest_105 rfl rfl rfl) (Eq.trans (pv_Rstp dX6_digest_108 rfl rfl rfl) (Eq.trans (pv_Rstp dX6_digest_109 rfl rfl rfl) (Eq.trans (pv_Rstp dX6_digest_110 rfl rfl rfl) (Eq.trans (pv_Rget dX6_digest_111 ffX6_31 (by decide) (pv_ce_0 _ _) rfl) (Eq.trans (pv_Rget dX6_digest_114 ffX6_186 (by decide) (pv_ce_21 _ _) rfl) (Eq.trans (pv_Rstp dX6_digest_117 rfl rfl rfl) (Eq.trans (pv_Rald dX6_digest_118 (by decide) (pv_ce_27 _ _)) (pv_iteN (fun h1 => Eq.trans (pv_Rstp dX6_digest_119 rfl rfl rfl) (Eq.trans (pv_Rstp dX6_digest_120 rfl rfl rfl) (Eq.trans (pv_Rstp dX6_digest_121 rfl rfl rfl) (Eq.trans (pv_Rinc dX6_digest_122 rfl (Nat.le_of_ble_eq_true rfl) ki_1 rfl) (pv_Rgo (tgt := 100) dX6_digest_125 rfl (by decide))))))))))))))
set_option maxHeartbeats 200000 in
theorem bX6_digest_128 {S : pv_S} {x1 : Int64} {a2 a4 : Option Value} {x3 : Int32} : pv_R mX6_digest 128 [some (.ref 0), some (.long x1), a2, some (.int x3), a4] [] (pv_em S) = pv_cc (pv_R mX3_mixInto 0 [some (.ref 1), some (.long x1), none, none, none] [] (pv_em S)) mX6_digest 136 [some (.ref 0), some (.long x1), a2, some (.int x3), a4] [] := Eq.trans (pv_Rstp dX6_digest_128 rfl rfl rfl) (Eq.trans (pv_Rget dX6_digest_129 ffX6_14 (by decide) (pv_ce_0 _ _) rfl) (Eq.trans (pv_Rstp dX6_digest_132 rfl rfl rfl) (pv_Rcall (As := [.ref 1, .long x1]) (rest := []) dX6_digest_133 rfl mfX6_329 rfl rfl rfl rfl rfl)))
set_option maxHeartbeats 200000 in
theorem bX6_digest_136 {S : pv_S} {x1 u0 : Int64} {a2 a4 : Option Value} {x3 : Int32} : pv_R mX6_digest 136 [some (.ref 0), some (.long x1), a2, some (.int x3), a4] [.long u0] (pv_em S) = pv_cc (pv_R mX3_mixInto 0 [some (.ref 10), some (.long u0), none, none, none] [] (pv_em S)) mX6_digest 145 [some (.ref 0), some (.long u0), none, some (.int x3), a4] [] := Eq.trans (pv_Rstp dX6_digest_136 rfl rfl rfl) (Eq.trans (pv_Rstp dX6_digest_137 rfl rfl rfl) (Eq.trans (pv_Rget dX6_digest_138 ffX6_18 (by decide) (pv_ce_0 _ _) rfl) (Eq.trans (pv_Rstp dX6_digest_141 rfl rfl rfl) (pv_Rcall (As := [.ref 10, .long u0]) (rest := []) dX6_digest_142 rfl mfX6_329 rfl rfl rfl rfl rfl))))
set_option maxHeartbeats 200000 in
theorem bX6_digest_145 {S : pv_S} {x1 u0 : Int64} {a2 a4 : Option Value} {x3 : Int32} : pv_R mX6_digest 145 [some (.ref 0), some (.long x1), a2, some (.int x3), a4] [.long u0] (pv_em S) = some (some (.long u0), pv_em S) := pv_Rret dX6_digest_145 rfl
theorem dX6_makeAnew_0 : decode cX6_makeAnew 0 = .ok (.aload_n 1, 1) := by decide +kernel
theorem dX6_makeAnew_1 : decode cX6_makeAnew 1 = .ok (.iload_n 2, 1) := by decide +kernel
theorem dX6_makeAnew_2 : decode cX6_makeAnew 2 = .ok (.invokevirtual 77, 3) := by decide +kernel
theorem dX6_makeAnew_5 : decode cX6_makeAnew 5 = .ok (.ifCond .eq 11, 3) := by decide +kernel
theorem dX6_makeAnew_8 : decode cX6_makeAnew 8 = .ok (.iload_n 3, 1) := by decide +kernel
theorem dX6_makeAnew_9 : decode cX6_makeAnew 9 = .ok (.aload_n 1, 1) := by decide +kernel
theorem dX6_makeAnew_10 : decode cX6_makeAnew 10 = .ok (.getfield 333, 3) := by decide +kernel
theorem dX6_makeAnew_13 : decode cX6_makeAnew 13 = .ok (.if_icmp .le 5, 3) := by decide +kernel
theorem dX6_makeAnew_16 : decode cX6_makeAnew 16 = .ok (.iconst (-1), 1) := by decide +kernel
theorem dX6_makeAnew_17 : decode cX6_makeAnew 17 = .ok (.ireturn, 1) := by decide +kernel
theorem dX6_makeAnew_18 : decode cX6_makeAnew 18 = .ok (.iload_n 3, 1) := by decide +kernel
theorem dX6_makeAnew_19 : decode cX6_makeAnew 19 = .ok (.ifCond .ge 12, 3) := by decide +kernel
theorem dX6_makeAnew_22 : decode cX6_makeAnew 22 = .ok (.aload_n 0, 1) := by decide +kernel
theorem dX6_makeAnew_23 : decode cX6_makeAnew 23 = .ok (.getfield 45, 3) := by decide +kernel
theorem dX6_makeAnew_26 : decode cX6_makeAnew 26 = .ok (.iconst 5, 1) := by decide +kernel
theorem dX6_makeAnew_27 : decode cX6_makeAnew 27 = .ok (.invokevirtual 81, 3) := by decide +kernel
theorem dX6_makeAnew_30 : decode cX6_makeAnew 30 = .ok (.ireturn, 1) := by decide +kernel
theorem dX6_makeAnew_31 : decode cX6_makeAnew 31 = .ok (.aload_n 1, 1) := by decide +kernel
theorem dX6_makeAnew_32 : decode cX6_makeAnew 32 = .ok (.iload_n 2, 1) := by decide +kernel
theorem dX6_makeAnew_33 : decode cX6_makeAnew 33 = .ok (.iload_n 3, 1) := by decide +kernel
theorem dX6_makeAnew_34 : decode cX6_makeAnew 34 = .ok (.iload 4, 2) := by decide +kernel
theorem dX6_makeAnew_36 : decode cX6_makeAnew 36 = .ok (.invokevirtual 229, 3) := by decide +kernel
theorem dX6_makeAnew_39 : decode cX6_makeAnew 39 = .ok (.iload_n 3, 1) := by decide +kernel
theorem dX6_makeAnew_40 : decode cX6_makeAnew 40 = .ok (.ireturn, 1) := by decide +kernel
set_option maxHeartbeats 200000 in
theorem bX6_makeAnewr_0 {S : pv_S} {x2 x3 x4 : Int32} : pv_R mX6_makeAnew 0 [some (.ref 0), some (.ref 1), some (.int x2), some (.int x3), some (.int x4)] [] (pv_em S) = pv_cc (pv_R mX3_hasNumber 0 [some (.ref 1), some (.int x2)] [] (pv_em S)) mX6_makeAnew 5 [some (.ref 0), some (.ref 1), some (.int x2), some (.int x3), some (.int x4)] [] := Eq.trans (pv_Rstp dX6_makeAnew_0 rfl rfl rfl) (Eq.trans (pv_Rstp dX6_makeAnew_1 rfl rfl rfl) (pv_Rcall (As := [.ref 1, .int x2]) (rest := []) dX6_makeAnew_2 rfl mfX6_77 rfl rfl rfl rfl rfl))
set_option maxHeartbeats 200000 in
theorem bX6_makeAnewr_5 {S : pv_S} {x2 x3 x4 u0 : Int32} : pv_R mX6_makeAnew 5 [some (.ref 0), some (.ref 1), some (.int x2), some (.int x3), some (.int x4)] [.int u0] (pv_em S) = if u0 = 0 then pv_R mX6_makeAnew 16 [some (.ref 0), some (.ref 1), some (.int x2), some (.int x3), some (.int x4)] [] (pv_em S) else pv_R mX6_makeAnew 8 [some (.ref 0), some (.ref 1), some (.int x2), some (.int x3), some (.int x4)] [] (pv_em S) := pv_Rbr (tgt := 16) dX6_makeAnew_5 rfl rfl rfl rfl rfl (by decide)
set_option maxHeartbeats 200000 in
theorem bX6_makeAnewr_8 {S : pv_S} {x2 x3 x4 : Int32} : pv_R mX6_makeAnew 8 [some (.ref 0), some (.ref 1), some (.int x2), some (.int x3), some (.int x4)] [] (pv_em S) = if x3 ≤ 40 then pv_R mX6_makeAnew 18 [some (.ref 0), some (.ref 1), some (.int x2), some (.int x3), some (.int x4)] [] (pv_em S) else pv_R mX6_makeAnew 16 [some (.ref 0), some (.ref 1), some (.int x2), some (.int x3), some (.int x4)] [] (pv_em S) := Eq.trans (pv_Rstp dX6_makeAnew_8 rfl rfl rfl) (Eq.trans (pv_Rstp dX6_makeAnew_9 rfl rfl rfl) (Eq.trans (pv_Rget dX6_makeAnew_10 ffX6_333 (by decide) (pv_ce_1 _ _) rfl) (pv_Rbr (tgt := 18) dX6_makeAnew_13 rfl rfl rfl rfl rfl (by decide))))
set_option maxHeartbeats 200000 in
theorem bX6_makeAnewr_16 {S : pv_S} {x2 x3 x4 : Int32} : pv_R mX6_makeAnew 16 [some (.ref 0), some (.ref 1), some (.int x2), some (.int x3), some (.int x4)] [] (pv_em S) = some (some (.int (-1)), pv_em S) := Eq.trans (pv_Ric dX6_makeAnew_16 ki_m1) (pv_Rret dX6_makeAnew_17 rfl)
set_option maxHeartbeats 200000 in
theorem bX6_makeAnewr_18 {S : pv_S} {x2 x3 x4 : Int32} : pv_R mX6_makeAnew 18 [some (.ref 0), some (.ref 1), some (.int x2), some (.int x3), some (.int x4)] [] (pv_em S) = if 0 ≤ x3 then pv_R mX6_makeAnew 31 [some (.ref 0), some (.ref 1), some (.int x2), some (.int x3), some (.int x4)] [] (pv_em S) else pv_R mX6_makeAnew 22 [some (.ref 0), some (.ref 1), some (.int x2), some (.int x3), some (.int x4)] [] (pv_em S) := Eq.trans (pv_Rstp dX6_makeAnew_18 rfl rfl rfl) (pv_Rbr (tgt := 31) dX6_makeAnew_19 rfl rfl rfl rfl rfl (by decide))
set_option maxHeartbeats 200000 in
theorem bX6_makeAnewr_22 {S : pv_S} {x2 x3 x4 : Int32} : pv_R mX6_makeAnew 22 [some (.ref 0), some (.ref 1), some (.int x2), some (.int x3), some (.int x4)] [] (pv_em S) = pv_cc (pv_R mX4_answerFinding 0 [some (.ref 35), some (.int 5)] [] (pv_em S)) mX6_makeAnew 30 [some (.ref 0), some (.ref 1), some (.int x2), some (.int x3), some (.int x4)] [] := Eq.trans (pv_Rstp dX6_makeAnew_22 rfl rfl rfl) (Eq.trans (pv_Rget dX6_makeAnew_23 ffX6_45 (by decide) (pv_ce_0 _ _) rfl) (Eq.trans (pv_Ric dX6_makeAnew_26 ki_5) (pv_Rcall (As := [.ref 35, .int 5]) (rest := []) dX6_makeAnew_27 rfl mfX6_81 rfl rfl rfl rfl rfl)))
set_option maxHeartbeats 200000 in
theorem bX6_makeAnewr_30 {S : pv_S} {x2 x3 x4 u0 : Int32} : pv_R mX6_makeAnew 30 [some (.ref 0), some (.ref 1), some (.int x2), some (.int x3), some (.int x4)] [.int u0] (pv_em S) = some (some (.int u0), pv_em S) := pv_Rret dX6_makeAnew_30 rfl
set_option maxHeartbeats 200000 in
theorem bX6_makeAnewr_31 {S : pv_S} {x2 x3 x4 : Int32} : pv_R mX6_makeAnew 31 [some (.ref 0), some (.ref 1), some (.int x2), some (.int x3), some (.int x4)] [] (pv_em S) = pv_cc (pv_R mX3_make 0 [some (.ref 1), some (.int x2), some (.int x3), some (.int x4), none] [] (pv_em S)) mX6_makeAnew 39 [some (.ref 0), some (.ref 1), some (.int x2), some (.int x3), some (.int x4)] [] := Eq.trans (pv_Rstp dX6_makeAnew_31 rfl rfl rfl) (Eq.trans (pv_Rstp dX6_makeAnew_32 rfl rfl rfl) (Eq.trans (pv_Rstp dX6_makeAnew_33 rfl rfl rfl) (Eq.trans (pv_Rstp dX6_makeAnew_34 rfl rfl rfl) (pv_Rcall (As := [.ref 1, .int x2, .int x3, .int x4]) (rest := []) dX6_makeAnew_36 rfl mfX6_229 rfl rfl rfl rfl rfl))))
set_option maxHeartbeats 200000 in
theorem bX6_makeAnewr_39 {S : pv_S} {x2 x3 x4 : Int32} : pv_R mX6_makeAnew 39 [some (.ref 0), some (.ref 1), some (.int x2), some (.int x3), some (.int x4)] [] (pv_em S) = some (some (.int x3), pv_em S) := Eq.trans (pv_Rstp dX6_makeAnew_39 rfl rfl rfl) (pv_Rret dX6_makeAnew_40 rfl)
theorem dX6_refusePlace_0 : decode cX6_refusePlace 0 = .ok (.aload_n 0, 1) := by decide +kernel
theorem dX6_refusePlace_1 : decode cX6_refusePlace 1 = .ok (.aload_n 1, 1) := by decide +kernel
theorem dX6_refusePlace_2 : decode cX6_refusePlace 2 = .ok (.iload_n 2, 1) := by decide +kernel
theorem dX6_refusePlace_3 : decode cX6_refusePlace 3 = .ok (.invokevirtual 69, 3) := by decide +kernel
theorem dX6_refusePlace_6 : decode cX6_refusePlace 6 = .ok (.istore 4, 2) := by decide +kernel
theorem dX6_refusePlace_8 : decode cX6_refusePlace 8 = .ok (.iload 4, 2) := by decide +kernel
theorem dX6_refusePlace_10 : decode cX6_refusePlace 10 = .ok (.ifCond .eq 6, 3) := by decide +kernel
theorem dX6_refusePlace_13 : decode cX6_refusePlace 13 = .ok (.iload 4, 2) := by decide +kernel
theorem dX6_refusePlace_15 : decode cX6_refusePlace 15 = .ok (.ireturn, 1) := by decide +kernel
theorem dX6_refusePlace_16 : decode cX6_refusePlace 16 = .ok (.aload_n 1, 1) := by decide +kernel
theorem dX6_refusePlace_17 : decode cX6_refusePlace 17 = .ok (.iload_n 2, 1) := by decide +kernel
theorem dX6_refusePlace_18 : decode cX6_refusePlace 18 = .ok (.iload_n 3, 1) := by decide +kernel
theorem dX6_refusePlace_19 : decode cX6_refusePlace 19 = .ok (.iconst 1, 1) := by decide +kernel
theorem dX6_refusePlace_20 : decode cX6_refusePlace 20 = .ok (.invokevirtual 88, 3) := by decide +kernel
theorem dX6_refusePlace_23 : decode cX6_refusePlace 23 = .ok (.ifCond .eq 7, 3) := by decide +kernel
theorem dX6_refusePlace_26 : decode cX6_refusePlace 26 = .ok (.iconst 0, 1) := by decide +kernel
theorem dX6_refusePlace_27 : decode cX6_refusePlace 27 = .ok (.goto 11, 3) := by decide +kernel
theorem dX6_refusePlace_30 : decode cX6_refusePlace 30 = .ok (.aload_n 0, 1) := by decide +kernel
theorem dX6_refusePlace_31 : decode cX6_refusePlace 31 = .ok (.getfield 45, 3) := by decide +kernel
theorem dX6_refusePlace_34 : decode cX6_refusePlace 34 = .ok (.iconst 2, 1) := by decide +kernel
theorem dX6_refusePlace_35 : decode cX6_refusePlace 35 = .ok (.invokevirtual 81, 3) := by decide +kernel
theorem dX6_refusePlace_38 : decode cX6_refusePlace 38 = .ok (.ireturn, 1) := by decide +kernel
set_option maxHeartbeats 200000 in
theorem bX6_refusePlacer_0 {S : pv_S} {x2 x3 : Int32} {a4 : Option Value} : pv_R mX6_refusePlace 0 [some (.ref 0), some (.ref 1), some (.int x2), some (.int x3), a4] [] (pv_em S) = pv_cc (pv_R mX6_refuseMissing 0 [some (.ref 0), some (.ref 1), some (.int x2)] [] (pv_em S)) mX6_refusePlace 6 [some (.ref 0), some (.ref 1), some (.int x2), some (.int x3), a4] [] := Eq.trans (pv_Rstp dX6_refusePlace_0 rfl rfl rfl) (Eq.trans (pv_Rstp dX6_refusePlace_1 rfl rfl rfl) (Eq.trans (pv_Rstp dX6_refusePlace_2 rfl rfl rfl) (pv_Rcall (As := [.ref 0, .ref 1, .int x2]) (rest := []) dX6_refusePlace_3 rfl mfX6_69 rfl rfl rfl rfl rfl)))
set_option maxHeartbeats 200000 in
theorem bX6_refusePlacer_6 {S : pv_S} {x2 x3 u0 : Int32} {a4 : Option Value} : pv_R mX6_refusePlace 6 [some (.ref 0), some (.ref 1), some (.int x2), some (.int x3), a4] [.int u0] (pv_em S) = if u0 = 0 then pv_R mX6_refusePlace 16 [some (.ref 0), some (.ref 1), some (.int x2), some (.int x3), some (.int u0)] [] (pv_em S) else pv_R mX6_refusePlace 13 [some (.ref 0), some (.ref 1), some (.int x2), some (.int x3), some (.int u0)] [] (pv_em S) := Eq.trans (pv_Rstp dX6_refusePlace_6 rfl rfl rfl) (Eq.trans (pv_Rstp dX6_refusePlace_8 rfl rfl rfl) (pv_Rbr (tgt := 16) dX6_refusePlace_10 rfl rfl rfl rfl rfl (by decide)))
set_option maxHeartbeats 200000 in
theorem bX6_refusePlacer_13 {S : pv_S} {x2 x3 x4 : Int32} : pv_R mX6_refusePlace 13 [some (.ref 0), some (.ref 1), some (.int x2), some (.int x3), some (.int x4)] [] (pv_em S) = some (some (.int x4), pv_em S) := Eq.trans (pv_Rstp dX6_refusePlace_13 rfl rfl rfl) (pv_Rret dX6_refusePlace_15 rfl)
set_option maxHeartbeats 200000 in
theorem bX6_refusePlacer_16 {S : pv_S} {x2 x3 x4 : Int32} : pv_R mX6_refusePlace 16 [some (.ref 0), some (.ref 1), some (.int x2), some (.int x3), some (.int x4)] [] (pv_em S) = pv_cc (pv_R mX3_hasRun 0 [some (.ref 1), some (.int x2), some (.int x3), some (.int 1)] [] (pv_em S)) mX6_refusePlace 23 [some (.ref 0), some (.ref 1), some (.int x2), some (.int x3), some (.int x4)] [] := Eq.trans (pv_Rstp dX6_refusePlace_16 rfl rfl rfl) (Eq.trans (pv_Rstp dX6_refusePlace_17 rfl rfl rfl) (Eq.trans (pv_Rstp dX6_refusePlace_18 rfl rfl rfl) (Eq.trans (pv_Ric dX6_refusePlace_19 ki_1) (pv_Rcall (As := [.ref 1, .int x2, .int x3, .int 1]) (rest := []) dX6_refusePlace_20 rfl mfX6_88 rfl rfl rfl rfl rfl))))
set_option maxHeartbeats 200000 in
theorem bX6_refusePlacer_23 {S : pv_S} {x2 x3 x4 u0 : Int32} : pv_R mX6_refusePlace 23 [some (.ref 0), some (.ref 1), some (.int x2), some (.int x3), some (.int x4)] [.int u0] (pv_em S) = if u0 = 0 then pv_R mX6_refusePlace 30 [some (.ref 0), some (.ref 1), some (.int x2), some (.int x3), some (.int x4)] [] (pv_em S) else pv_R mX6_refusePlace 26 [some (.ref 0), some (.ref 1), some (.int x2), some (.int x3), some (.int x4)] [] (pv_em S) := pv_Rbr (tgt := 30) dX6_refusePlace_23 rfl rfl rfl rfl rfl (by decide)
set_option maxHeartbeats 200000 in
theorem bX6_refusePlacer_26 {S : pv_S} {x2 x3 x4 : Int32} : pv_R mX6_refusePlace 26 [some (.ref 0), some (.ref 1), some (.int x2), some (.int x3), some (.int x4)] [] (pv_em S) = pv_R mX6_refusePlace 38 [some (.ref 0), some (.ref 1), some (.int x2), some (.int x3), some (.int x4)] [.int 0] (pv_em S) := Eq.trans (pv_Ric dX6_refusePlace_26 ki_0) (pv_Rgo (tgt := 38) dX6_refusePlace_27 rfl (by decide))
set_option maxHeartbeats 200000 in
theorem bX6_refusePlacer_30 {S : pv_S} {x2 x3 x4 : Int32} : pv_R mX6_refusePlace 30 [some (.ref 0), some (.ref 1), some (.int x2), some (.int x3), some (.int x4)] [] (pv_em S) = pv_cc (pv_R mX4_answerFinding 0 [some (.ref 35), some (.int 2)] [] (pv_em S)) mX6_refusePlace 38 [some (.ref 0), some (.ref 1), some (.int x2), some (.int x3), some (.int x4)] [] := Eq.trans (pv_Rstp dX6_refusePlace_30 rfl rfl rfl) (Eq.trans (pv_Rget dX6_refusePlace_31 ffX6_45 (by decide) (pv_ce_0 _ _) rfl) (Eq.trans (pv_Ric dX6_refusePlace_34 ki_2) (pv_Rcall (As := [.ref 35, .int 2]) (rest := []) dX6_refusePlace_35 rfl mfX6_81 rfl rfl rfl rfl rfl)))
set_option maxHeartbeats 200000 in
theorem bX6_refusePlacer_38 {S : pv_S} {x2 x3 x4 u0 : Int32} : pv_R mX6_refusePlace 38 [some (.ref 0), some (.ref 1), some (.int x2), some (.int x3), some (.int x4)] [.int u0] (pv_em S) = some (some (.int u0), pv_em S) := pv_Rret dX6_refusePlace_38 rfl
theorem dX6_refuseMissing_0 : decode cX6_refuseMissing 0 = .ok (.aload_n 1, 1) := by decide +kernel
theorem dX6_refuseMissing_1 : decode cX6_refuseMissing 1 = .ok (.iload_n 2, 1) := by decide +kernel
theorem dX6_refuseMissing_2 : decode cX6_refuseMissing 2 = .ok (.invokevirtual 77, 3) := by decide +kernel
theorem dX6_refuseMissing_5 : decode cX6_refuseMissing 5 = .ok (.ifCond .ne 5, 3) := by decide +kernel
theorem dX6_refuseMissing_8 : decode cX6_refuseMissing 8 = .ok (.iconst (-1), 1) := by decide +kernel
theorem dX6_refuseMissing_9 : decode cX6_refuseMissing 9 = .ok (.ireturn, 1) := by decide +kernel
theorem dX6_refuseMissing_10 : decode cX6_refuseMissing 10 = .ok (.aload_n 1, 1) := by decide +kernel
theorem dX6_refuseMissing_11 : decode cX6_refuseMissing 11 = .ok (.iload_n 2, 1) := by decide +kernel
theorem dX6_refuseMissing_12 : decode cX6_refuseMissing 12 = .ok (.invokevirtual 85, 3) := by decide +kernel
theorem dX6_refuseMissing_15 : decode cX6_refuseMissing 15 = .ok (.ifCond .eq 7, 3) := by decide +kernel
theorem dX6_refuseMissing_18 : decode cX6_refuseMissing 18 = .ok (.iconst 0, 1) := by decide +kernel
theorem dX6_refuseMissing_19 : decode cX6_refuseMissing 19 = .ok (.goto 11, 3) := by decide +kernel
theorem dX6_refuseMissing_22 : decode cX6_refuseMissing 22 = .ok (.aload_n 0, 1) := by decide +kernel
theorem dX6_refuseMissing_23 : decode cX6_refuseMissing 23 = .ok (.getfield 45, 3) := by decide +kernel
theorem dX6_refuseMissing_26 : decode cX6_refuseMissing 26 = .ok (.iconst 1, 1) := by decide +kernel
theorem dX6_refuseMissing_27 : decode cX6_refuseMissing 27 = .ok (.invokevirtual 81, 3) := by decide +kernel
theorem dX6_refuseMissing_30 : decode cX6_refuseMissing 30 = .ok (.ireturn, 1) := by decide +kernel
set_option maxHeartbeats 200000 in
theorem bX6_refuseMissingr_0 {S : pv_S} {x2 : Int32} : pv_R mX6_refuseMissing 0 [some (.ref 0), some (.ref 1), some (.int x2)] [] (pv_em S) = pv_cc (pv_R mX3_hasNumber 0 [some (.ref 1), some (.int x2)] [] (pv_em S)) mX6_refuseMissing 5 [some (.ref 0), some (.ref 1), some (.int x2)] [] := Eq.trans (pv_Rstp dX6_refuseMissing_0 rfl rfl rfl) (Eq.trans (pv_Rstp dX6_refuseMissing_1 rfl rfl rfl) (pv_Rcall (As := [.ref 1, .int x2]) (rest := []) dX6_refuseMissing_2 rfl mfX6_77 rfl rfl rfl rfl rfl))
set_option maxHeartbeats 200000 in
theorem bX6_refuseMissingr_5 {S : pv_S} {x2 u0 : Int32} : pv_R mX6_refuseMissing 5 [some (.ref 0), some (.ref 1), some (.int x2)] [.int u0] (pv_em S) = if ¬ u0 = 0 then pv_R mX6_refuseMissing 10 [some (.ref 0), some (.ref 1), some (.int x2)] [] (pv_em S) else pv_R mX6_refuseMissing 8 [some (.ref 0), some (.ref 1), some (.int x2)] [] (pv_em S) := pv_Rbr (tgt := 10) dX6_refuseMissing_5 rfl rfl rfl rfl rfl (by decide)
set_option maxHeartbeats 200000 in
theorem bX6_refuseMissingr_8 {S : pv_S} {x2 : Int32} : pv_R mX6_refuseMissing 8 [some (.ref 0), some (.ref 1), some (.int x2)] [] (pv_em S) = some (some (.int (-1)), pv_em S) := Eq.trans (pv_Ric dX6_refuseMissing_8 ki_m1) (pv_Rret dX6_refuseMissing_9 rfl)
set_option maxHeartbeats 200000 in
theorem bX6_refuseMissingr_10 {S : pv_S} {x2 : Int32} : pv_R mX6_refuseMissing 10 [some (.ref 0), some (.ref 1), some (.int x2)] [] (pv_em S) = pv_cc (pv_R mX3_isThere 0 [some (.ref 1), some (.int x2)] [] (pv_em S)) mX6_refuseMissing 15 [some (.ref 0), some (.ref 1), some (.int x2)] [] := Eq.trans (pv_Rstp dX6_refuseMissing_10 rfl rfl rfl) (Eq.trans (pv_Rstp dX6_refuseMissing_11 rfl rfl rfl) (pv_Rcall (As := [.ref 1, .int x2]) (rest := []) dX6_refuseMissing_12 rfl mfX6_85 rfl rfl rfl rfl rfl))
set_option maxHeartbeats 200000 in
theorem bX6_refuseMissingr_15 {S : pv_S} {x2 u0 : Int32} : pv_R mX6_refuseMissing 15 [some (.ref 0), some (.ref 1), some (.int x2)] [.int u0] (pv_em S) = if u0 = 0 then pv_R mX6_refuseMissing 22 [some (.ref 0), some (.ref 1), some (.int x2)] [] (pv_em S) else pv_R mX6_refuseMissing 18 [some (.ref 0), some (.ref 1), some (.int x2)] [] (pv_em S) := pv_Rbr (tgt := 22) dX6_refuseMissing_15 rfl rfl rfl rfl rfl (by decide)
set_option maxHeartbeats 200000 in
theorem bX6_refuseMissingr_18 {S : pv_S} {x2 : Int32} : pv_R mX6_refuseMissing 18 [some (.ref 0), some (.ref 1), some (.int x2)] [] (pv_em S) = pv_R mX6_refuseMissing 30 [some (.ref 0), some (.ref 1), some (.int x2)] [.int 0] (pv_em S) := Eq.trans (pv_Ric dX6_refuseMissing_18 ki_0) (pv_Rgo (tgt := 30) dX6_refuseMissing_19 rfl (by decide))
set_option maxHeartbeats 200000 in
theorem bX6_refuseMissingr_22 {S : pv_S} {x2 : Int32} : pv_R mX6_refuseMissing 22 [some (.ref 0), some (.ref 1), some (.int x2)] [] (pv_em S) = pv_cc (pv_R mX4_answerFinding 0 [some (.ref 35), some (.int 1)] [] (pv_em S)) mX6_refuseMissing 30 [some (.ref 0), some (.ref 1), some (.int x2)] [] := Eq.trans (pv_Rstp dX6_refuseMissing_22 rfl rfl rfl) (Eq.trans (pv_Rget dX6_refuseMissing_23 ffX6_45 (by decide) (pv_ce_0 _ _) rfl) (Eq.trans (pv_Ric dX6_refuseMissing_26 ki_1) (pv_Rcall (As := [.ref 35, .int 1]) (rest := []) dX6_refuseMissing_27 rfl mfX6_81 rfl rfl rfl rfl rfl)))
set_option maxHeartbeats 200000 in
theorem bX6_refuseMissingr_30 {S : pv_S} {x2 u0 : Int32} : pv_R mX6_refuseMissing 30 [some (.ref 0), some (.ref 1), some (.int x2)] [.int u0] (pv_em S) = some (some (.int u0), pv_em S) := pv_Rret dX6_refuseMissing_30 rfl
set_option maxHeartbeats 200000 in
theorem bX6_makeAnewt_0 {S : pv_S} {x2 x3 x4 : Int32} : pv_R mX6_makeAnew 0 [some (.ref 0), some (.ref 10), some (.int x2), some (.int x3), some (.int x4)] [] (pv_em S) = pv_cc (pv_R mX3_hasNumber 0 [some (.ref 10), some (.int x2)] [] (pv_em S)) mX6_makeAnew 5 [some (.ref 0), some (.ref 10), some (.int x2), some (.int x3), some (.int x4)] [] := Eq.trans (pv_Rstp dX6_makeAnew_0 rfl rfl rfl) (Eq.trans (pv_Rstp dX6_makeAnew_1 rfl rfl rfl) (pv_Rcall (As := [.ref 10, .int x2]) (rest := []) dX6_makeAnew_2 rfl mfX6_77 rfl rfl rfl rfl rfl))
set_option maxHeartbeats 200000 in
theorem bX6_makeAnewt_5 {S : pv_S} {x2 x3 x4 u0 : Int32} : pv_R mX6_makeAnew 5 [some (.ref 0), some (.ref 10), some (.int x2), some (.int x3), some (.int x4)] [.int u0] (pv_em S) = if u0 = 0 then pv_R mX6_makeAnew 16 [some (.ref 0), some (.ref 10), some (.int x2), some (.int x3), some (.int x4)] [] (pv_em S) else pv_R mX6_makeAnew 8 [some (.ref 0), some (.ref 10), some (.int x2), some (.int x3), some (.int x4)] [] (pv_em S) := pv_Rbr (tgt := 16) dX6_makeAnew_5 rfl rfl rfl rfl rfl (by decide)
set_option maxHeartbeats 200000 in
theorem bX6_makeAnewt_8 {S : pv_S} {x2 x3 x4 : Int32} : pv_R mX6_makeAnew 8 [some (.ref 0), some (.ref 10), some (.int x2), some (.int x3), some (.int x4)] [] (pv_em S) = if x3 ≤ 60 then pv_R mX6_makeAnew 18 [some (.ref 0), some (.ref 10), some (.int x2), some (.int x3), some (.int x4)] [] (pv_em S) else pv_R mX6_makeAnew 16 [some (.ref 0), some (.ref 10), some (.int x2), some (.int x3), some (.int x4)] [] (pv_em S) := Eq.trans (pv_Rstp dX6_makeAnew_8 rfl rfl rfl) (Eq.trans (pv_Rstp dX6_makeAnew_9 rfl rfl rfl) (Eq.trans (pv_Rget dX6_makeAnew_10 ffX6_333 (by decide) (pv_ce_10 _ _) rfl) (pv_Rbr (tgt := 18) dX6_makeAnew_13 rfl rfl rfl rfl rfl (by decide))))
set_option maxHeartbeats 200000 in
theorem bX6_makeAnewt_16 {S : pv_S} {x2 x3 x4 : Int32} : pv_R mX6_makeAnew 16 [some (.ref 0), some (.ref 10), some (.int x2), some (.int x3), some (.int x4)] [] (pv_em S) = some (some (.int (-1)), pv_em S) := Eq.trans (pv_Ric dX6_makeAnew_16 ki_m1) (pv_Rret dX6_makeAnew_17 rfl)
set_option maxHeartbeats 200000 in
theorem bX6_makeAnewt_18 {S : pv_S} {x2 x3 x4 : Int32} : pv_R mX6_makeAnew 18 [some (.ref 0), some (.ref 10), some (.int x2), some (.int x3), some (.int x4)] [] (pv_em S) = if 0 ≤ x3 then pv_R mX6_makeAnew 31 [some (.ref 0), some (.ref 10), some (.int x2), some (.int x3), some (.int x4)] [] (pv_em S) else pv_R mX6_makeAnew 22 [some (.ref 0), some (.ref 10), some (.int x2), some (.int x3), some (.int x4)] [] (pv_em S) := Eq.trans (pv_Rstp dX6_makeAnew_18 rfl rfl rfl) (pv_Rbr (tgt := 31) dX6_makeAnew_19 rfl rfl rfl rfl rfl (by decide))
set_option maxHeartbeats 200000 in
theorem bX6_makeAnewt_22 {S : pv_S} {x2 x3 x4 : Int32} : pv_R mX6_makeAnew 22 [some (.ref 0), some (.ref 10), some (.int x2), some (.int x3), some (.int x4)] [] (pv_em S) = pv_cc (pv_R mX4_answerFinding 0 [some (.ref 35), some (.int 5)] [] (pv_em S)) mX6_makeAnew 30 [some (.ref 0), some (.ref 10), some (.int x2), some (.int x3), some (.int x4)] [] := Eq.trans (pv_Rstp dX6_makeAnew_22 rfl rfl rfl) (Eq.trans (pv_Rget dX6_makeAnew_23 ffX6_45 (by decide) (pv_ce_0 _ _) rfl) (Eq.trans (pv_Ric dX6_makeAnew_26 ki_5) (pv_Rcall (As := [.ref 35, .int 5]) (rest := []) dX6_makeAnew_27 rfl mfX6_81 rfl rfl rfl rfl rfl)))
set_option maxHeartbeats 200000 in
theorem bX6_makeAnewt_30 {S : pv_S} {x2 x3 x4 u0 : Int32} : pv_R mX6_makeAnew 30 [some (.ref 0), some (.ref 10), some (.int x2), some (.int x3), some (.int x4)] [.int u0] (pv_em S) = some (some (.int u0), pv_em S) := pv_Rret dX6_makeAnew_30 rfl
set_option maxHeartbeats 200000 in
theorem bX6_makeAnewt_31 {S : pv_S} {x2 x3 x4 : Int32} : pv_R mX6_makeAnew 31 [some (.ref 0), some (.ref 10), some (.int x2), some (.int x3), some (.int x4)] [] (pv_em S) = pv_cc (pv_R mX3_make 0 [some (.ref 10), some (.int x2), some (.int x3), some (.int x4), none] [] (pv_em S)) mX6_makeAnew 39 [some (.ref 0), some (.ref 10), some (.int x2), some (.int x3), some (.int x4)] [] := Eq.trans (pv_Rstp dX6_makeAnew_31 rfl rfl rfl) (Eq.trans (pv_Rstp dX6_makeAnew_32 rfl rfl rfl) (Eq.trans (pv_Rstp dX6_makeAnew_33 rfl rfl rfl) (Eq.trans (pv_Rstp dX6_makeAnew_34 rfl rfl rfl) (pv_Rcall (As := [.ref 10, .int x2, .int x3, .int x4]) (rest := []) dX6_makeAnew_36 rfl mfX6_229 rfl rfl rfl rfl rfl))))
set_option maxHeartbeats 200000 in
theorem bX6_makeAnewt_39 {S : pv_S} {x2 x3 x4 : Int32} : pv_R mX6_makeAnew 39 [some (.ref 0), some (.ref 10), some (.int x2), some (.int x3), some (.int x4)] [] (pv_em S) = some (some (.int x3), pv_em S) := Eq.trans (pv_Rstp dX6_makeAnew_39 rfl rfl rfl) (pv_Rret dX6_makeAnew_40 rfl)
set_option maxHeartbeats 200000 in
theorem bX6_refusePlacet_0 {S : pv_S} {x2 x3 : Int32} {a4 : Option Value} : pv_R mX6_refusePlace 0 [some (.ref 0), some (.ref 10), some (.int x2), some (.int x3), a4] [] (pv_em S) = pv_cc (pv_R mX6_refuseMissing 0 [some (.ref 0), some (.ref 10), some (.int x2)] [] (pv_em S)) mX6_refusePlace 6 [some (.ref 0), some (.ref 10), some (.int x2), some (.int x3), a4] [] := Eq.trans (pv_Rstp dX6_refusePlace_0 rfl rfl rfl) (Eq.trans (pv_Rstp dX6_refusePlace_1 rfl rfl rfl) (Eq.trans (pv_Rstp dX6_refusePlace_2 rfl rfl rfl) (pv_Rcall (As := [.ref 0, .ref 10, .int x2]) (rest := []) dX6_refusePlace_3 rfl mfX6_69 rfl rfl rfl rfl rfl)))
set_option maxHeartbeats 200000 in
theorem bX6_refusePlacet_6 {S : pv_S} {x2 x3 u0 : Int32} {a4 : Option Value} : pv_R mX6_refusePlace 6 [some (.ref 0), some (.ref 10), some (.int x2), some (.int x3), a4] [.int u0] (pv_em S) = if u0 = 0 then pv_R mX6_refusePlace 16 [some (.ref 0), some (.ref 10), some (.int x2), some (.int x3), some (.int u0)] [] (pv_em S) else pv_R mX6_refusePlace 13 [some (.ref 0), some (.ref 10), some (.int x2), some (.int x3), some (.int u0)] [] (pv_em S) := Eq.trans (pv_Rstp dX6_refusePlace_6 rfl rfl rfl) (Eq.trans (pv_Rstp dX6_refusePlace_8 rfl rfl rfl) (pv_Rbr (tgt := 16) dX6_refusePlace_10 rfl rfl rfl rfl rfl (by decide)))
set_option maxHeartbeats 200000 in
theorem bX6_refusePlacet_13 {S : pv_S} {x2 x3 x4 : Int32} : pv_R mX6_refusePlace 13 [some (.ref 0), some (.ref 10), some (.int x2), some (.int x3), some (.int x4)] [] (pv_em S) = some (some (.int x4), pv_em S) := Eq.trans (pv_Rstp dX6_refusePlace_13 rfl rfl rfl) (pv_Rret dX6_refusePlace_15 rfl)
set_option maxHeartbeats 200000 in
theorem bX6_refusePlacet_16 {S : pv_S} {x2 x3 x4 : Int32} : pv_R mX6_refusePlace 16 [some (.ref 0), some (.ref 10), some (.int x2), some (.int x3), some (.int x4)] [] (pv_em S) = pv_cc (pv_R mX3_hasRun 0 [some (.ref 10), some (.int x2), some (.int x3), some (.int 1)] [] (pv_em S)) mX6_refusePlace 23 [some (.ref 0), some (.ref 10), some (.int x2), some (.int x3), some (.int x4)] [] := Eq.trans (pv_Rstp dX6_refusePlace_16 rfl rfl rfl) (Eq.trans (pv_Rstp dX6_refusePlace_17 rfl rfl rfl) (Eq.trans (pv_Rstp dX6_refusePlace_18 rfl rfl rfl) (Eq.trans (pv_Ric dX6_refusePlace_19 ki_1) (pv_Rcall (As := [.ref 10, .int x2, .int x3, .int 1]) (rest := []) dX6_refusePlace_20 rfl mfX6_88 rfl rfl rfl rfl rfl))))
set_option maxHeartbeats 200000 in
theorem bX6_refusePlacet_23 {S : pv_S} {x2 x3 x4 u0 : Int32} : pv_R mX6_refusePlace 23 [some (.ref 0), some (.ref 10), some (.int x2), some (.int x3), some (.int x4)] [.int u0] (pv_em S) = if u0 = 0 then pv_R mX6_refusePlace 30 [some (.ref 0), some (.ref 10), some (.int x2), some (.int x3), some (.int x4)] [] (pv_em S) else pv_R mX6_refusePlace 26 [some (.ref 0), some (.ref 10), some (.int x2), some (.int x3), some (.int x4)] [] (pv_em S) := pv_Rbr (tgt := 30) dX6_refusePlace_23 rfl rfl rfl rfl rfl (by decide)
set_option maxHeartbeats 200000 in
theorem bX6_refusePlacet_26 {S : pv_S} {x2 x3 x4 : Int32} : pv_R mX6_refusePlace 26 [some (.ref 0), some (.ref 10), some (.int x2), some (.int x3), some (.int x4)] [] (pv_em S) = pv_R mX6_refusePlace 38 [some (.ref 0), some (.ref 10), some (.int x2), some (.int x3), some (.int x4)] [.int 0] (pv_em S) := Eq.trans (pv_Ric dX6_refusePlace_26 ki_0) (pv_Rgo (tgt := 38) dX6_refusePlace_27 rfl (by decide))
set_option maxHeartbeats 200000 in
theorem bX6_refusePlacet_30 {S : pv_S} {x2 x3 x4 : Int32} : pv_R mX6_refusePlace 30 [some (.ref 0), some (.ref 10), some (.int x2), some (.int x3), some (.int x4)] [] (pv_em S) = pv_cc (pv_R mX4_answerFinding 0 [some (.ref 35), some (.int 2)] [] (pv_em S)) mX6_refusePlace 38 [some (.ref 0), some (.ref 10), some (.int x2), some (.int x3), some (.int x4)] [] := Eq.trans (pv_Rstp dX6_refusePlace_30 rfl rfl rfl) (Eq.trans (pv_Rget dX6_refusePlace_31 ffX6_45 (by decide) (pv_ce_0 _ _) rfl) (Eq.trans (pv_Ric dX6_refusePlace_34 ki_2) (pv_Rcall (As := [.ref 35, .int 2]) (rest := []) dX6_refusePlace_35 rfl mfX6_81 rfl rfl rfl rfl rfl)))
set_option maxHeartbeats 200000 in
theorem bX6_refusePlacet_38 {S : pv_S} {x2 x3 x4 u0 : Int32} : pv_R mX6_refusePlace 38 [some (.ref 0), some (.ref 10), some (.int x2), some (.int x3), some (.int x4)] [.int u0] (pv_em S) = some (some (.int u0), pv_em S) := pv_Rret dX6_refusePlace_38 rfl
set_option maxHeartbeats 200000 in
theorem bX6_refuseMissingt_0 {S : pv_S} {x2 : Int32} : pv_R mX6_refuseMissing 0 [some (.ref 0), some (.ref 10), some (.int x2)] [] (pv_em S) = pv_cc (pv_R mX3_hasNumber 0 [some (.ref 10), some (.int x2)] [] (pv_em S)) mX6_refuseMissing 5 [some (.ref 0), some (.ref 10), some (.int x2)] [] := Eq.trans (pv_Rstp dX6_refuseMissing_0 rfl rfl rfl) (Eq.trans (pv_Rstp dX6_refuseMissing_1 rfl rfl rfl) (pv_Rcall (As := [.ref 10, .int x2]) (rest := []) dX6_refuseMissing_2 rfl mfX6_77 rfl rfl rfl rfl rfl))
set_option maxHeartbeats 200000 in
theorem bX6_refuseMissingt_5 {S : pv_S} {x2 u0 : Int32} : pv_R mX6_refuseMissing 5 [some (.ref 0), some (.ref 10), some (.int x2)] [.int u0] (pv_em S) = if ¬ u0 = 0 then pv_R mX6_refuseMissing 10 [some (.ref 0), some (.ref 10), some (.int x2)] [] (pv_em S) else pv_R mX6_refuseMissing 8 [some (.ref 0), some (.ref 10), some (.int x2)] [] (pv_em S) := pv_Rbr (tgt := 10) dX6_refuseMissing_5 rfl rfl rfl rfl rfl (by decide)
set_option maxHeartbeats 200000 in
theorem bX6_refuseMissingt_8 {S : pv_S} {x2 : Int32} : pv_R mX6_refuseMissing 8 [some (.ref 0), some (.ref 10), some (.int x2)] [] (pv_em S) = some (some (.int (-1)), pv_em S) := Eq.trans (pv_Ric dX6_refuseMissing_8 ki_m1) (pv_Rret dX6_refuseMissing_9 rfl)
set_option maxHeartbeats 200000 in
theorem bX6_refuseMissingt_10 {S : pv_S} {x2 : Int32} : pv_R mX6_refuseMissing 10 [some (.ref 0), some (.ref 10), some (.int x2)] [] (pv_em S) = pv_cc (pv_R mX3_isThere 0 [some (.ref 10), some (.int x2)] [] (pv_em S)) mX6_refuseMissing 15 [some (.ref 0), some (.ref 10), some (.int x2)] [] := Eq.trans (pv_Rstp dX6_refuseMissing_10 rfl rfl rfl) (Eq.trans (pv_Rstp dX6_refuseMissing_11 rfl rfl rfl) (pv_Rcall (As := [.ref 10, .int x2]) (rest := []) dX6_refuseMissing_12 rfl mfX6_85 rfl rfl rfl rfl rfl))
set_option maxHeartbeats 200000 in
theorem bX6_refuseMissingt_15 {S : pv_S} {x2 u0 : Int32} : pv_R mX6_refuseMissing 15 [some (.ref 0), some (.ref 10), some (.int x2)] [.int u0] (pv_em S) = if u0 = 0 then pv_R mX6_refuseMissing 22 [some (.ref 0), some (.ref 10), some (.int x2)] [] (pv_em S) else pv_R mX6_refuseMissing 18 [some (.ref 0), some (.ref 10), some (.int x2)] [] (pv_em S) := pv_Rbr (tgt := 22) dX6_refuseMissing_15 rfl rfl rfl rfl rfl (by decide)
set_option maxHeartbeats 200000 in
theorem bX6_refuseMissingt_18 {S : pv_S} {x2 : Int32} : pv_R mX6_refuseMissing 18 [some (.ref 0), some (.ref 10), some (.int x2)] [] (pv_em S) = pv_R mX6_refuseMissing 30 [some (.ref 0), some (.ref 10), some (.int x2)] [.int 0] (pv_em S) := Eq.trans (pv_Ric dX6_refuseMissing_18 ki_0) (pv_Rgo (tgt := 30) dX6_refuseMissing_19 rfl (by decide))
set_option maxHeartbeats 200000 in
theorem bX6_refuseMissingt_22 {S : pv_S} {x2 : Int32} : pv_R mX6_refuseMissing 22 [some (.ref 0), some (.ref 10), some (.int x2)] [] (pv_em S) = pv_cc (pv_R mX4_answerFinding 0 [some (.ref 35), some (.int 1)] [] (pv_em S)) mX6_refuseMissing 30 [some (.ref 0), some (.ref 10), some (.int x2)] [] := Eq.trans (pv_Rstp dX6_refuseMissing_22 rfl rfl rfl) (Eq.trans (pv_Rget dX6_refuseMissing_23 ffX6_45 (by decide) (pv_ce_0 _ _) rfl) (Eq.trans (pv_Ric dX6_refuseMissing_26 ki_1) (pv_Rcall (As := [.ref 35, .int 1]) (rest := []) dX6_refuseMissing_27 rfl mfX6_81 rfl rfl rfl rfl rfl)))
set_option maxHeartbeats 200000 in
theorem bX6_refuseMissingt_30 {S : pv_S} {x2 u0 : Int32} : pv_R mX6_refuseMissing 30 [some (.ref 0), some (.ref 10), some (.int x2)] [.int u0] (pv_em S) = some (some (.int u0), pv_em S) := pv_Rret dX6_refuseMissing_30 rfl
theorem dX6_isWithin_0 : decode cX6_isWithin 0 = .ok (.iload_n 0, 1) := by decide +kernel
theorem dX6_isWithin_1 : decode cX6_isWithin 1 = .ok (.iload_n 1, 1) := by decide +kernel
theorem dX6_isWithin_2 : decode cX6_isWithin 2 = .ok (.if_icmp .lt 12, 3) := by decide +kernel
theorem dX6_isWithin_5 : decode cX6_isWithin 5 = .ok (.iload_n 0, 1) := by decide +kernel
theorem dX6_isWithin_6 : decode cX6_isWithin 6 = .ok (.iload_n 2, 1) := by decide +kernel
theorem dX6_isWithin_7 : decode cX6_isWithin 7 = .ok (.if_icmp .gt 7, 3) := by decide +kernel
theorem dX6_isWithin_10 : decode cX6_isWithin 10 = .ok (.iconst 1, 1) := by decide +kernel
theorem dX6_isWithin_11 : decode cX6_isWithin 11 = .ok (.goto 4, 3) := by decide +kernel
theorem dX6_isWithin_14 : decode cX6_isWithin 14 = .ok (.iconst 0, 1) := by decide +kernel
theorem dX6_isWithin_15 : decode cX6_isWithin 15 = .ok (.ireturn, 1) := by decide +kernel
set_option maxHeartbeats 200000 in
theorem bX6_isWithin_0 {S : pv_S} {x0 x1 x2 : Int32} : pv_R mX6_isWithin 0 [some (.int x0), some (.int x1), some (.int x2)] [] (pv_em S) = if x0 < x1 then pv_R mX6_isWithin 14 [some (.int x0), some (.int x1), some (.int x2)] [] (pv_em S) else pv_R mX6_isWithin 5 [some (.int x0), some (.int x1), some (.int x2)] [] (pv_em S) := Eq.trans (pv_Rstp dX6_isWithin_0 rfl rfl rfl) (Eq.trans (pv_Rstp dX6_isWithin_1 rfl rfl rfl) (pv_Rbr (tgt := 14) dX6_isWithin_2 rfl rfl rfl rfl rfl (by decide)))
set_option maxHeartbeats 200000 in
theorem bX6_isWithin_5 {S : pv_S} {x0 x1 x2 : Int32} : pv_R mX6_isWithin 5 [some (.int x0), some (.int x1), some (.int x2)] [] (pv_em S) = if x2 < x0 then pv_R mX6_isWithin 14 [some (.int x0), some (.int x1), some (.int x2)] [] (pv_em S) else pv_R mX6_isWithin 10 [some (.int x0), some (.int x1), some (.int x2)] [] (pv_em S) := Eq.trans (pv_Rstp dX6_isWithin_5 rfl rfl rfl) (Eq.trans (pv_Rstp dX6_isWithin_6 rfl rfl rfl) (pv_Rbr (tgt := 14) dX6_isWithin_7 rfl rfl rfl rfl rfl (by decide)))
set_option maxHeartbeats 200000 in
theorem bX6_isWithin_10 {S : pv_S} {x0 x1 x2 : Int32} : pv_R mX6_isWithin 10 [some (.int x0), some (.int x1), some (.int x2)] [] (pv_em S) = pv_R mX6_isWithin 15 [some (.int x0), some (.int x1), some (.int x2)] [.int 1] (pv_em S) := Eq.trans (pv_Ric dX6_isWithin_10 ki_1) (pv_Rgo (tgt := 15) dX6_isWithin_11 rfl (by decide))
set_option maxHeartbeats 200000 in
theorem bX6_isWithin_14 {S : pv_S} {x0 x1 x2 : Int32} : pv_R mX6_isWithin 14 [some (.int x0), some (.int x1), some (.int x2)] [] (pv_em S) = pv_R mX6_isWithin 15 [some (.int x0), some (.int x1), some (.int x2)] [.int 0] (pv_em S) := pv_Ric dX6_isWithin_14 ki_0
set_option maxHeartbeats 200000 in
theorem bX6_isWithin_15 {S : pv_S} {x0 x1 x2 u0 : Int32} : pv_R mX6_isWithin 15 [some (.int x0), some (.int x1), some (.int x2)] [.int u0] (pv_em S) = if vp_nar .boolean u0 = u0 then some (some (.int u0), pv_em S) else none := pv_Rzret dX6_isWithin_15 rfl
theorem dX6_lookAhead_0 : decode cX6_lookAhead 0 = .ok (.aload_n 0, 1) := by decide +kernel
theorem dX6_lookAhead_1 : decode cX6_lookAhead 1 = .ok (.getfield 38, 3) := by decide +kernel
theorem dX6_lookAhead_4 : decode cX6_lookAhead 4 = .ok (.aload_n 0, 1) := by decide +kernel
theorem dX6_lookAhead_5 : decode cX6_lookAhead 5 = .ok (.getfield 31, 3) := by decide +kernel
theorem dX6_lookAhead_8 : decode cX6_lookAhead 8 = .ok (.getfield 122, 3) := by decide +kernel
theorem dX6_lookAhead_11 : decode cX6_lookAhead 11 = .ok (.iload_n 1, 1) := by decide +kernel
theorem dX6_lookAhead_12 : decode cX6_lookAhead 12 = .ok (.iaload, 1) := by decide +kernel
theorem dX6_lookAhead_13 : decode cX6_lookAhead 13 = .ok (.aload_n 0, 1) := by decide +kernel
theorem dX6_lookAhead_14 : decode cX6_lookAhead 14 = .ok (.getfield 31, 3) := by decide +kernel
theorem dX6_lookAhead_17 : decode cX6_lookAhead 17 = .ok (.getfield 162, 3) := by decide +kernel
theorem dX6_lookAhead_20 : decode cX6_lookAhead 20 = .ok (.iload_n 1, 1) := by decide +kernel
theorem dX6_lookAhead_21 : decode cX6_lookAhead 21 = .ok (.iaload, 1) := by decide +kernel
theorem dX6_lookAhead_22 : decode cX6_lookAhead 22 = .ok (.aload_n 0, 1) := by decide +kernel
theorem dX6_lookAhead_23 : decode cX6_lookAhead 23 = .ok (.getfield 31, 3) := by decide +kernel
theorem dX6_lookAhead_26 : decode cX6_lookAhead 26 = .ok (.getfield 132, 3) := by decide +kernel
theorem dX6_lookAhead_29 : decode cX6_lookAhead 29 = .ok (.iload_n 2, 1) := by decide +kernel
theorem dX6_lookAhead_30 : decode cX6_lookAhead 30 = .ok (.invokevirtual 204, 3) := by decide +kernel
theorem dX6_lookAhead_33 : decode cX6_lookAhead 33 = .ok (.return_, 1) := by decide +kernel
set_option maxHeartbeats 200000 in
theorem bX6_lookAhead_0 {S : pv_S} {x1 x2 : Int32} : pv_R mX6_lookAhead 0 [some (.ref 0), some (.int x1), some (.int x2)] [] (pv_em S) = if x1 < 0 ∨ 6 ≤ x1.toNatClampNeg then none else if x1 < 0 ∨ 6 ≤ x1.toNatClampNeg then none else pv_cc (pv_R mX1_fill 0 [some (.ref 32), some (.int (S.1 22 x1.toNatClampNeg)), some (.int (S.1 25 x1.toNatClampNeg)), some (.int (S.1 21 9)), some (.int x2), none] [] (pv_em S)) mX6_lookAhead 33 [some (.ref 0), some (.int x1), some (.int x2)] [] := Eq.trans (pv_Rstp dX6_lookAhead_0 rfl rfl rfl) (Eq.trans (pv_Rget dX6_lookAhead_1 ffX6_38 (by decide) (pv_ce_0 _ _) rfl) (Eq.trans (pv_Rstp dX6_lookAhead_4 rfl rfl rfl) (Eq.trans (pv_Rget dX6_lookAhead_5 ffX6_31 (by decide) (pv_ce_0 _ _) rfl) (Eq.trans (pv_Rget dX6_lookAhead_8 ffX6_122 (by decide) (pv_ce_21 _ _) rfl) (Eq.trans (pv_Rstp dX6_lookAhead_11 rfl rfl rfl) (Eq.trans (pv_Rald dX6_lookAhead_12 (by decide) (pv_ce_22 _ _)) (pv_iteN (fun h1 => Eq.trans (pv_Rstp dX6_lookAhead_13 rfl rfl rfl) (Eq.trans (pv_Rget dX6_lookAhead_14 ffX6_31 (by decide) (pv_ce_0 _ _) rfl) (Eq.trans (pv_Rget dX6_lookAhead_17 ffX6_162 (by decide) (pv_ce_21 _ _) rfl) (Eq.trans (pv_Rstp dX6_lookAhead_20 rfl rfl rfl) (Eq.trans (pv_Rald dX6_lookAhead_21 (by decide) (pv_ce_25 _ _)) (pv_iteN (fun h2 => Eq.trans (pv_Rstp dX6_lookAhead_22 rfl rfl rfl) (Eq.trans (pv_Rget dX6_lookAhead_23 ffX6_31 (by decide) (pv_ce_0 _ _) rfl) (Eq.trans (pv_Rget dX6_lookAhead_26 ffX6_132 (by decide) (pv_ce_21 _ _) rfl) (Eq.trans (pv_Rstp dX6_lookAhead_29 rfl rfl rfl) (pv_Rcall (As := [.ref 32, .int (S.1 22 x1.toNatClampNeg), .int (S.1 25 x1.toNatClampNeg), .int (S.1 21 9), .int x2]) (rest := []) dX6_lookAhead_30 rfl mfX6_204 rfl rfl rfl rfl rfl))))))))))))))))))
set_option maxHeartbeats 200000 in
theorem bX6_lookAhead_33 {S : pv_S} {x1 x2 : Int32} : pv_R mX6_lookAhead 33 [some (.ref 0), some (.int x1), some (.int x2)] [] (pv_em S) = some (none, pv_em S) := pv_Rret dX6_lookAhead_33 rfl
theorem dX6_lookAtPound_0 : decode cX6_lookAtPound 0 = .ok (.aload_n 0, 1) := by decide +kernel
theorem dX6_lookAtPound_1 : decode cX6_lookAtPound 1 = .ok (.getfield 38, 3) := by decide +kernel
theorem dX6_lookAtPound_4 : decode cX6_lookAtPound 4 = .ok (.aload_n 0, 1) := by decide +kernel
theorem dX6_lookAtPound_5 : decode cX6_lookAtPound 5 = .ok (.getfield 31, 3) := by decide +kernel
theorem dX6_lookAtPound_8 : decode cX6_lookAtPound 8 = .ok (.invokevirtual 275, 3) := by decide +kernel
theorem dX6_lookAtPound_11 : decode cX6_lookAtPound 11 = .ok (.aload_n 0, 1) := by decide +kernel
theorem dX6_lookAtPound_12 : decode cX6_lookAtPound 12 = .ok (.getfield 31, 3) := by decide +kernel
theorem dX6_lookAtPound_15 : decode cX6_lookAtPound 15 = .ok (.invokevirtual 158, 3) := by decide +kernel
theorem dX6_lookAtPound_18 : decode cX6_lookAtPound 18 = .ok (.aload_n 0, 1) := by decide +kernel
theorem dX6_lookAtPound_19 : decode cX6_lookAtPound 19 = .ok (.getfield 31, 3) := by decide +kernel
theorem dX6_lookAtPound_22 : decode cX6_lookAtPound 22 = .ok (.getfield 132, 3) := by decide +kernel
theorem dX6_lookAtPound_25 : decode cX6_lookAtPound 25 = .ok (.iload_n 1, 1) := by decide +kernel
theorem dX6_lookAtPound_26 : decode cX6_lookAtPound 26 = .ok (.invokevirtual 204, 3) := by decide +kernel
theorem dX6_lookAtPound_29 : decode cX6_lookAtPound 29 = .ok (.return_, 1) := by decide +kernel
set_option maxHeartbeats 200000 in
theorem bX6_lookAtPound_0 {S : pv_S} {x1 : Int32} : pv_R mX6_lookAtPound 0 [some (.ref 0), some (.int x1)] [] (pv_em S) = pv_cc (pv_R mX5_rulerKind 0 [some (.ref 21)] [] (pv_em S)) mX6_lookAtPound 11 [some (.ref 0), some (.int x1)] [.ref 32] := Eq.trans (pv_Rstp dX6_lookAtPound_0 rfl rfl rfl) (Eq.trans (pv_Rget dX6_lookAtPound_1 ffX6_38 (by decide) (pv_ce_0 _ _) rfl) (Eq.trans (pv_Rstp dX6_lookAtPound_4 rfl rfl rfl) (Eq.trans (pv_Rget dX6_lookAtPound_5 ffX6_31 (by decide) (pv_ce_0 _ _) rfl) (pv_Rcall (As := [.ref 21]) (rest := [.ref 32]) dX6_lookAtPound_8 rfl mfX6_275 rfl rfl rfl rfl rfl))))
set_option maxHeartbeats 200000 in
theorem bX6_lookAtPound_11 {S : pv_S} {x1 u0 : Int32} : pv_R mX6_lookAtPound 11 [some (.ref 0), some (.int x1)] [.int u0, .ref 32] (pv_em S) = pv_cc (pv_R mX5_pound 0 [some (.ref 21)] [] (pv_em S)) mX6_lookAtPound 18 [some (.ref 0), some (.int x1)] [.int u0, .ref 32] := Eq.trans (pv_Rstp dX6_lookAtPound_11 rfl rfl rfl) (Eq.trans (pv_Rget dX6_lookAtPound_12 ffX6_31 (by decide) (pv_ce_0 _ _) rfl) (pv_Rcall (As := [.ref 21]) (rest := [.int u0, .ref 32]) dX6_lookAtPound_15 rfl mfX6_158 rfl rfl rfl rfl rfl))
set_option maxHeartbeats 200000 in
theorem bX6_lookAtPound_18 {S : pv_S} {x1 u0 u1 : Int32} : pv_R mX6_lookAtPound 18 [some (.ref 0), some (.int x1)] [.int u0, .int u1, .ref 32] (pv_em S) = pv_cc (pv_R mX1_fill 0 [some (.ref 32), some (.int u1), some (.int u0), some (.int (S.1 21 9)), some (.int x1), none] [] (pv_em S)) mX6_lookAtPound 29 [some (.ref 0), some (.int x1)] [] := Eq.trans (pv_Rstp dX6_lookAtPound_18 rfl rfl rfl) (Eq.trans (pv_Rget dX6_lookAtPound_19 ffX6_31 (by decide) (pv_ce_0 _ _) rfl) (Eq.trans (pv_Rget dX6_lookAtPound_22 ffX6_132 (by decide) (pv_ce_21 _ _) rfl) (Eq.trans (pv_Rstp dX6_lookAtPound_25 rfl rfl rfl) (pv_Rcall (As := [.ref 32, .int u1, .int u0, .int (S.1 21 9), .int x1]) (rest := []) dX6_lookAtPound_26 rfl mfX6_204 rfl rfl rfl rfl rfl))))
set_option maxHeartbeats 200000 in
theorem bX6_lookAtPound_29 {S : pv_S} {x1 : Int32} : pv_R mX6_lookAtPound 29 [some (.ref 0), some (.int x1)] [] (pv_em S) = some (none, pv_em S) := pv_Rret dX6_lookAtPound_29 rfl
theorem dX6_isFedAhead_0 : decode cX6_isFedAhead 0 = .ok (.iload_n 0, 1) := by decide +kernel
theorem dX6_isFedAhead_1 : decode cX6_isFedAhead 1 = .ok (.iload_n 1, 1) := by decide +kernel
theorem dX6_isFedAhead_2 : decode cX6_isFedAhead 2 = .ok (.iconst 1, 1) := by decide +kernel
theorem dX6_isFedAhead_3 : decode cX6_isFedAhead 3 = .ok (.isub, 1) := by decide +kernel
theorem dX6_isFedAhead_4 : decode cX6_isFedAhead 4 = .ok (.iload_n 2, 1) := by decide +kernel
theorem dX6_isFedAhead_5 : decode cX6_isFedAhead 5 = .ok (.isub, 1) := by decide +kernel
theorem dX6_isFedAhead_6 : decode cX6_isFedAhead 6 = .ok (.ishr, 1) := by decide +kernel
theorem dX6_isFedAhead_7 : decode cX6_isFedAhead 7 = .ok (.iconst 1, 1) := by decide +kernel
theorem dX6_isFedAhead_8 : decode cX6_isFedAhead 8 = .ok (.iand, 1) := by decide +kernel
theorem dX6_isFedAhead_9 : decode cX6_isFedAhead 9 = .ok (.ifCond .eq 7, 3) := by decide +kernel
theorem dX6_isFedAhead_12 : decode cX6_isFedAhead 12 = .ok (.iconst 1, 1) := by decide +kernel
theorem dX6_isFedAhead_13 : decode cX6_isFedAhead 13 = .ok (.goto 4, 3) := by decide +kernel
theorem dX6_isFedAhead_16 : decode cX6_isFedAhead 16 = .ok (.iconst 0, 1) := by decide +kernel
theorem dX6_isFedAhead_17 : decode cX6_isFedAhead 17 = .ok (.ireturn, 1) := by decide +kernel
set_option maxHeartbeats 200000 in
theorem bX6_isFedAhead_0 {S : pv_S} {x0 x1 x2 : Int32} : pv_R mX6_isFedAhead 0 [some (.int x0), some (.int x1), some (.int x2)] [] (pv_em S) = if ((x0 >>> (((x1 - 1) - x2) &&& 31)) &&& 1) = 0 then pv_R mX6_isFedAhead 16 [some (.int x0), some (.int x1), some (.int x2)] [] (pv_em S) else pv_R mX6_isFedAhead 12 [some (.int x0), some (.int x1), some (.int x2)] [] (pv_em S) := Eq.trans (pv_Rstp dX6_isFedAhead_0 rfl rfl rfl) (Eq.trans (pv_Rstp dX6_isFedAhead_1 rfl rfl rfl) (Eq.trans (pv_Ric dX6_isFedAhead_2 ki_1) (Eq.trans (pv_Rstp dX6_isFedAhead_3 rfl rfl rfl) (Eq.trans (pv_Rstp dX6_isFedAhead_4 rfl rfl rfl) (Eq.trans (pv_Rstp dX6_isFedAhead_5 rfl rfl rfl) (Eq.trans (pv_Rstp dX6_isFedAhead_6 rfl rfl rfl) (Eq.trans (pv_Ric dX6_isFedAhead_7 ki_1) (Eq.trans (pv_Rstp dX6_isFedAhead_8 rfl rfl rfl) (pv_Rbr (tgt := 16) dX6_isFedAhead_9 rfl rfl rfl rfl rfl (by decide))))))))))
set_option maxHeartbeats 200000 in
theorem bX6_isFedAhead_12 {S : pv_S} {x0 x1 x2 : Int32} : pv_R mX6_isFedAhead 12 [some (.int x0), some (.int x1), some (.int x2)] [] (pv_em S) = pv_R mX6_isFedAhead 17 [some (.int x0), some (.int x1), some (.int x2)] [.int 1] (pv_em S) := Eq.trans (pv_Ric dX6_isFedAhead_12 ki_1) (pv_Rgo (tgt := 17) dX6_isFedAhead_13 rfl (by decide))
set_option maxHeartbeats 200000 in
theorem bX6_isFedAhead_16 {S : pv_S} {x0 x1 x2 : Int32} : pv_R mX6_isFedAhead 16 [some (.int x0), some (.int x1), some (.int x2)] [] (pv_em S) = pv_R mX6_isFedAhead 17 [some (.int x0), some (.int x1), some (.int x2)] [.int 0] (pv_em S) := pv_Ric dX6_isFedAhead_16 ki_0
set_option maxHeartbeats 200000 in
theorem bX6_isFedAhead_17 {S : pv_S} {x0 x1 x2 u0 : Int32} : pv_R mX6_isFedAhead 17 [some (.int x0), some (.int x1), some (.int x2)] [.int u0] (pv_em S) = if vp_nar .boolean u0 = u0 then some (some (.int u0), pv_em S) else none := pv_Rzret dX6_isFedAhead_17 rfl
theorem dX6_planWorth_0 : decode cX6_planWorth 0 = .ok (.iconst 0, 1) := by decide +kernel
theorem dX6_planWorth_1 : decode cX6_planWorth 1 = .ok (.istore_n 3, 1) := by decide +kernel
theorem dX6_planWorth_2 : decode cX6_planWorth 2 = .ok (.aload_n 0, 1) := by decide +kernel
theorem dX6_planWorth_3 : decode cX6_planWorth 3 = .ok (.getfield 31, 3) := by decide +kernel
theorem dX6_planWorth_6 : decode cX6_planWorth 6 = .ok (.invokevirtual 158, 3) := by decide +kernel
theorem dX6_planWorth_9 : decode cX6_planWorth 9 = .ok (.istore 4, 2) := by decide +kernel
theorem dX6_planWorth_11 : decode cX6_planWorth 11 = .ok (.iconst 0, 1) := by decide +kernel
theorem dX6_planWorth_12 : decode cX6_planWorth 12 = .ok (.istore 5, 2) := by decide +kernel
theorem dX6_planWorth_14 : decode cX6_planWorth 14 = .ok (.iload 5, 2) := by decide +kernel
theorem dX6_planWorth_16 : decode cX6_planWorth 16 = .ok (.iload_n 2, 1) := by decide +kernel
theorem dX6_planWorth_17 : decode cX6_planWorth 17 = .ok (.if_icmp .ge 66, 3) := by decide +kernel
theorem dX6_planWorth_20 : decode cX6_planWorth 20 = .ok (.iload_n 1, 1) := by decide +kernel
theorem dX6_planWorth_21 : decode cX6_planWorth 21 = .ok (.iload_n 2, 1) := by decide +kernel
theorem dX6_planWorth_22 : decode cX6_planWorth 22 = .ok (.iload 5, 2) := by decide +kernel
theorem dX6_planWorth_24 : decode cX6_planWorth 24 = .ok (.invokestatic 232, 3) := by decide +kernel
theorem dX6_planWorth_27 : decode cX6_planWorth 27 = .ok (.ifCond .eq 21, 3) := by decide +kernel
theorem dX6_planWorth_30 : decode cX6_planWorth 30 = .ok (.iload 4, 2) := by decide +kernel
theorem dX6_planWorth_32 : decode cX6_planWorth 32 = .ok (.aload_n 0, 1) := by decide +kernel
theorem dX6_planWorth_33 : decode cX6_planWorth 33 = .ok (.getfield 31, 3) := by decide +kernel
theorem dX6_planWorth_36 : decode cX6_planWorth 36 = .ok (.invokevirtual 272, 3) := by decide +kernel
theorem dX6_planWorth_39 : decode cX6_planWorth 39 = .ok (.iadd, 1) := by decide +kernel
theorem dX6_planWorth_40 : decode cX6_planWorth 40 = .ok (.invokestatic 208, 3) := by decide +kernel
theorem dX6_planWorth_43 : decode cX6_planWorth 43 = .ok (.istore 4, 2) := by decide +kernel
theorem dX6_planWorth_45 : decode cX6_planWorth 45 = .ok (.iinc 3 (-3), 3) := by decide +kernel
theorem dX6_planWorth_48 : decode cX6_planWorth 48 = .ok (.aload_n 0, 1) := by decide +kernel
theorem dX6_planWorth_49 : decode cX6_planWorth 49 = .ok (.getfield 31, 3) := by decide +kernel
theorem dX6_planWorth_52 : decode cX6_planWorth 52 = .ok (.invokevirtual 275, 3) := by decide +kernel
theorem dX6_planWorth_55 : decode cX6_planWorth 55 = .ok (.iload 4, 2) := by decide +kernel
theorem dX6_planWorth_57 : decode cX6_planWorth 57 = .ok (.aload_n 0, 1) := by decide +kernel
theorem dX6_planWorth_58 : decode cX6_planWorth 58 = .ok (.getfield 31, 3) := by decide +kernel
theorem dX6_planWorth_61 : decode cX6_planWorth 61 = .ok (.getfield 132, 3) := by decide +kernel
theorem dX6_planWorth_64 : decode cX6_planWorth 64 = .ok (.iload 5, 2) := by decide +kernel
theorem dX6_planWorth_66 : decode cX6_planWorth 66 = .ok (.iadd, 1) := by decide +kernel
theorem dX6_planWorth_67 : decode cX6_planWorth 67 = .ok (.invokestatic 278, 3) := by decide +kernel
theorem dX6_planWorth_70 : decode cX6_planWorth 70 = .ok (.istore 4, 2) := by decide +kernel
theorem dX6_planWorth_72 : decode cX6_planWorth 72 = .ok (.iload_n 3, 1) := by decide +kernel
theorem dX6_planWorth_73 : decode cX6_planWorth 73 = .ok (.iload 4, 2) := by decide +kernel
theorem dX6_planWorth_75 : decode cX6_planWorth 75 = .ok (.iadd, 1) := by decide +kernel
theorem dX6_planWorth_76 : decode cX6_planWorth 76 = .ok (.istore_n 3, 1) := by decide +kernel
theorem dX6_planWorth_77 : decode cX6_planWorth 77 = .ok (.iinc 5 1, 3) := by decide +kernel
theorem dX6_planWorth_80 : decode cX6_planWorth 80 = .ok (.goto (-66), 3) := by decide +kernel
theorem dX6_planWorth_83 : decode cX6_planWorth 83 = .ok (.iload_n 3, 1) := by decide +kernel
theorem dX6_planWorth_84 : decode cX6_planWorth 84 = .ok (.ireturn, 1) := by decide +kernel
set_option maxHeartbeats 200000 in
theorem bX6_planWorth_0 {S : pv_S} {x1 x2 : Int32} {a3 a4 a5 : Option Value} : pv_R mX6_planWorth 0 [some (.ref 0), some (.int x1), some (.int x2), a3, a4, a5] [] (pv_em S) = pv_cc (pv_R mX5_pound 0 [some (.ref 21)] [] (pv_em S)) mX6_planWorth 9 [some (.ref 0), some (.int x1), some (.int x2), some (.int 0), a4, a5] [] := Eq.trans (pv_Ric dX6_planWorth_0 ki_0) (Eq.trans (pv_Rstp dX6_planWorth_1 rfl rfl rfl) (Eq.trans (pv_Rstp dX6_planWorth_2 rfl rfl rfl) (Eq.trans (pv_Rget dX6_planWorth_3 ffX6_31 (by decide) (pv_ce_0 _ _) rfl) (pv_Rcall (As := [.ref 21]) (rest := []) dX6_planWorth_6 rfl mfX6_158 rfl rfl rfl rfl rfl))))
set_option maxHeartbeats 200000 in
theorem bX6_planWorth_9 {S : pv_S} {x1 x2 x3 u0 : Int32} {a4 a5 : Option Value} : pv_R mX6_planWorth 9 [some (.ref 0), some (.int x1), some (.int x2), some (.int x3), a4, a5] [.int u0] (pv_em S) = pv_R mX6_planWorth 14 [some (.ref 0), some (.int x1), some (.int x2), some (.int x3), some (.int u0), some (.int 0)] [] (pv_em S) := Eq.trans (pv_Rstp dX6_planWorth_9 rfl rfl rfl) (Eq.trans (pv_Ric dX6_planWorth_11 ki_0) (pv_Rstp dX6_planWorth_12 rfl rfl rfl))
set_option maxHeartbeats 200000 in
theorem bX6_planWorth_14 {S : pv_S} {x1 x2 x3 x4 x5 : Int32} : pv_R mX6_planWorth 14 [some (.ref 0), some (.int x1), some (.int x2), some (.int x3), some (.int x4), some (.int x5)] [] (pv_em S) = if x2 ≤ x5 then pv_R mX6_planWorth 83 [some (.ref 0), some (.int x1), some (.int x2), some (.int x3), some (.int x4), some (.int x5)] [] (pv_em S) else pv_R mX6_planWorth 20 [some (.ref 0), some (.int x1), some (.int x2), some (.int x3), some (.int x4), some (.int x5)] [] (pv_em S) := Eq.trans (pv_Rstp dX6_planWorth_14 rfl rfl rfl) (Eq.trans (pv_Rstp dX6_planWorth_16 rfl rfl rfl) (pv_Rbr (tgt := 83) dX6_planWorth_17 rfl rfl rfl rfl rfl (by decide)))
set_option maxHeartbeats 200000 in
theorem bX6_planWorth_20 {S : pv_S} {x1 x2 x3 x4 x5 : Int32} : pv_R mX6_planWorth 20 [some (.ref 0), some (.int x1), some (.int x2), some (.int x3), some (.int x4), some (.int x5)] [] (pv_em S) = pv_cc (pv_R mX6_isFedAhead 0 [some (.int x1), some (.int x2), some (.int x5)] [] (pv_em S)) mX6_planWorth 27 [some (.ref 0), some (.int x1), some (.int x2), some (.int x3), some (.int x4), some (.int x5)] [] := Eq.trans (pv_Rstp dX6_planWorth_20 rfl rfl rfl) (Eq.trans (pv_Rstp dX6_planWorth_21 rfl rfl rfl) (Eq.trans (pv_Rstp dX6_planWorth_22 rfl rfl rfl) (pv_Rcall (As := [.int x1, .int x2, .int x5]) (rest := []) dX6_planWorth_24 rfl mfX6_232 rfl rfl rfl rfl rfl)))
set_option maxHeartbeats 200000 in
theorem bX6_planWorth_27 {S : pv_S} {x1 x2 x3 x4 x5 u0 : Int32} : pv_R mX6_planWorth 27 [some (.ref 0), some (.int x1), some (.int x2), some (.int x3), some (.int x4), some (.int x5)] [.int u0] (pv_em S) = if u0 = 0 then pv_R mX6_planWorth 48 [some (.ref 0), some (.int x1), some (.int x2), some (.int x3), some (.int x4), some (.int x5)] [] (pv_em S) else pv_R mX6_planWorth 30 [some (.ref 0), some (.int x1), some (.int x2), some (.int x3), some (.int x4), some (.int x5)] [] (pv_em S) := pv_Rbr (tgt := 48) dX6_planWorth_27 rfl rfl rfl rfl rfl (by decide)
set_option maxHeartbeats 200000 in
theorem bX6_planWorth_30 {S : pv_S} {x1 x2 x3 x4 x5 : Int32} : pv_R mX6_planWorth 30 [some (.ref 0), some (.int x1), some (.int x2), some (.int x3), some (.int x4), some (.int x5)] [] (pv_em S) = pv_cc (pv_R mX5_rulerMeal 0 [some (.ref 21)] [] (pv_em S)) mX6_planWorth 39 [some (.ref 0), some (.int x1), some (.int x2), some (.int x3), some (.int x4), some (.int x5)] [.int x4] := Eq.trans (pv_Rstp dX6_planWorth_30 rfl rfl rfl) (Eq.trans (pv_Rstp dX6_planWorth_32 rfl rfl rfl) (Eq.trans (pv_Rget dX6_planWorth_33 ffX6_31 (by decide) (pv_ce_0 _ _) rfl) (pv_Rcall (As := [.ref 21]) (rest := [.int x4]) dX6_planWorth_36 rfl mfX6_272 rfl rfl rfl rfl rfl)))
set_option maxHeartbeats 200000 in
theorem bX6_planWorth_39 {S : pv_S} {x1 x2 x3 x4 x5 u0 u1 : Int32} : pv_R mX6_planWorth 39 [some (.ref 0), some (.int x1), some (.int x2), some (.int x3), some (.int x4), some (.int x5)] [.int u0, .int u1] (pv_em S) = pv_cc (pv_R mX0_held 0 [some (.int (u1 + u0))] [] (pv_em S)) mX6_planWorth 43 [some (.ref 0), some (.int x1), some (.int x2), some (.int x3), some (.int x4), some (.int x5)] [] := Eq.trans (pv_Rstp dX6_planWorth_39 rfl rfl rfl) (pv_Rcall (As := [.int (u1 + u0)]) (rest := []) dX6_planWorth_40 rfl mfX6_208 rfl rfl rfl rfl rfl)
set_option maxHeartbeats 200000 in
theorem bX6_planWorth_43 {S : pv_S} {x1 x2 x3 x4 x5 u0 : Int32} : pv_R mX6_planWorth 43 [some (.ref 0), some (.int x1), some (.int x2), some (.int x3), some (.int x4), some (.int x5)] [.int u0] (pv_em S) = pv_R mX6_planWorth 48 [some (.ref 0), some (.int x1), some (.int x2), some (.int (x3 + (-3))), some (.int u0), some (.int x5)] [] (pv_em S) := Eq.trans (pv_Rstp dX6_planWorth_43 rfl rfl rfl) (pv_Rinc dX6_planWorth_45 rfl (Nat.le_of_ble_eq_true rfl) ki_m3 rfl)
set_option maxHeartbeats 200000 in
theorem bX6_planWorth_48 {S : pv_S} {x1 x2 x3 x4 x5 : Int32} : pv_R mX6_planWorth 48 [some (.ref 0), some (.int x1), some (.int x2), some (.int x3), some (.int x4), some (.int x5)] [] (pv_em S) = pv_cc (pv_R mX5_rulerKind 0 [some (.ref 21)] [] (pv_em S)) mX6_planWorth 55 [some (.ref 0), some (.int x1), some (.int x2), some (.int x3), some (.int x4), some (.int x5)] [] := Eq.trans (pv_Rstp dX6_planWorth_48 rfl rfl rfl) (Eq.trans (pv_Rget dX6_planWorth_49 ffX6_31 (by decide) (pv_ce_0 _ _) rfl) (pv_Rcall (As := [.ref 21]) (rest := []) dX6_planWorth_52 rfl mfX6_275 rfl rfl rfl rfl rfl))
set_option maxHeartbeats 200000 in
theorem bX6_planWorth_55 {S : pv_S} {x1 x2 x3 x4 x5 u0 : Int32} : pv_R mX6_planWorth 55 [some (.ref 0), some (.int x1), some (.int x2), some (.int x3), some (.int x4), some (.int x5)] [.int u0] (pv_em S) = pv_cc (pv_R mX0_afterHour 0 [some (.int u0), some (.int x4), some (.int ((S.1 21 9) + x5))] [] (pv_em S)) mX6_planWorth 70 [some (.ref 0), some (.int x1), some (.int x2), some (.int x3), some (.int x4), some (.int x5)] [] := Eq.trans (pv_Rstp dX6_planWorth_55 rfl rfl rfl) (Eq.trans (pv_Rstp dX6_planWorth_57 rfl rfl rfl) (Eq.trans (pv_Rget dX6_planWorth_58 ffX6_31 (by decide) (pv_ce_0 _ _) rfl) (Eq.trans (pv_Rget dX6_planWorth_61 ffX6_132 (by decide) (pv_ce_21 _ _) rfl) (Eq.trans (pv_Rstp dX6_planWorth_64 rfl rfl rfl) (Eq.trans (pv_Rstp dX6_planWorth_66 rfl rfl rfl) (pv_Rcall (As := [.int u0, .int x4, .int ((S.1 21 9) + x5)]) (rest := []) dX6_planWorth_67 rfl mfX6_278 rfl rfl rfl rfl rfl))))))
set_option maxHeartbeats 200000 in
theorem bX6_planWorth_70 {S : pv_S} {x1 x2 x3 x4 x5 u0 : Int32} : pv_R mX6_planWorth 70 [some (.ref 0), some (.int x1), some (.int x2), some (.int x3), some (.int x4), some (.int x5)] [.int u0] (pv_em S) = pv_R mX6_planWorth 14 [some (.ref 0), some (.int x1), some (.int x2), some (.int (x3 + u0)), some (.int u0), some (.int (x5 + 1))] [] (pv_em S) := Eq.trans (pv_Rstp dX6_planWorth_70 rfl rfl rfl) (Eq.trans (pv_Rstp dX6_planWorth_72 rfl rfl rfl) (Eq.trans (pv_Rstp dX6_planWorth_73 rfl rfl rfl) (Eq.trans (pv_Rstp dX6_planWorth_75 rfl rfl rfl) (Eq.trans (pv_Rstp dX6_planWorth_76 rfl rfl rfl) (Eq.trans (pv_Rinc dX6_planWorth_77 rfl (Nat.le_of_ble_eq_true rfl) ki_1 rfl) (pv_Rgo (tgt := 14) dX6_planWorth_80 rfl (by decide)))))))
set_option maxHeartbeats 200000 in
theorem bX6_planWorth_83 {S : pv_S} {x1 x2 x3 x4 x5 : Int32} : pv_R mX6_planWorth 83 [some (.ref 0), some (.int x1), some (.int x2), some (.int x3), some (.int x4), some (.int x5)] [] (pv_em S) = some (some (.int x3), pv_em S) := Eq.trans (pv_Rstp dX6_planWorth_83 rfl rfl rfl) (pv_Rret dX6_planWorth_84 rfl)
theorem dX6_setCount_0 : decode cX6_setCount 0 = .ok (.iconst 1, 1) := by decide +kernel
theorem dX6_setCount_1 : decode cX6_setCount 1 = .ok (.aload_n 0, 1) := by decide +kernel
theorem dX6_setCount_2 : decode cX6_setCount 2 = .ok (.getfield 31, 3) := by decide +kernel
theorem dX6_setCount_5 : decode cX6_setCount 5 = .ok (.getfield 110, 3) := by decide +kernel
theorem dX6_setCount_8 : decode cX6_setCount 8 = .ok (.ishl, 1) := by decide +kernel
theorem dX6_setCount_9 : decode cX6_setCount 9 = .ok (.ireturn, 1) := by decide +kernel
set_option maxHeartbeats 200000 in
theorem bX6_setCount_0 {S : pv_S} : pv_R mX6_setCount 0 [some (.ref 0)] [] (pv_em S) = some (some (.int (1 <<< ((S.1 21 7) &&& 31))), pv_em S) := Eq.trans (pv_Ric dX6_setCount_0 ki_1) (Eq.trans (pv_Rstp dX6_setCount_1 rfl rfl rfl) (Eq.trans (pv_Rget dX6_setCount_2 ffX6_31 (by decide) (pv_ce_0 _ _) rfl) (Eq.trans (pv_Rget dX6_setCount_5 ffX6_110 (by decide) (pv_ce_21 _ _) rfl) (Eq.trans (pv_Rstp dX6_setCount_8 rfl rfl rfl) (pv_Rret dX6_setCount_9 rfl)))))
theorem dX6_setsOf_0 : decode cX6_setsOf 0 = .ok (.iconst 0, 1) := by decide +kernel
theorem dX6_setsOf_1 : decode cX6_setsOf 1 = .ok (.istore_n 2, 1) := by decide +kernel
theorem dX6_setsOf_2 : decode cX6_setsOf 2 = .ok (.iconst 0, 1) := by decide +kernel
theorem dX6_setsOf_3 : decode cX6_setsOf 3 = .ok (.istore_n 3, 1) := by decide +kernel
theorem dX6_setsOf_4 : decode cX6_setsOf 4 = .ok (.iload_n 3, 1) := by decide +kernel
theorem dX6_setsOf_5 : decode cX6_setsOf 5 = .ok (.aload_n 0, 1) := by decide +kernel
theorem dX6_setsOf_6 : decode cX6_setsOf 6 = .ok (.invokevirtual 235, 3) := by decide +kernel
theorem dX6_setsOf_9 : decode cX6_setsOf 9 = .ok (.if_icmp .ge 24, 3) := by decide +kernel
theorem dX6_setsOf_12 : decode cX6_setsOf 12 = .ok (.aload_n 0, 1) := by decide +kernel
theorem dX6_setsOf_13 : decode cX6_setsOf 13 = .ok (.getfield 31, 3) := by decide +kernel
theorem dX6_setsOf_16 : decode cX6_setsOf 16 = .ok (.iload_n 3, 1) := by decide +kernel
theorem dX6_setsOf_17 : decode cX6_setsOf 17 = .ok (.invokevirtual 238, 3) := by decide +kernel
theorem dX6_setsOf_20 : decode cX6_setsOf 20 = .ok (.iload_n 1, 1) := by decide +kernel
theorem dX6_setsOf_21 : decode cX6_setsOf 21 = .ok (.if_icmp .ne 6, 3) := by decide +kernel
theorem dX6_setsOf_24 : decode cX6_setsOf 24 = .ok (.iinc 2 1, 3) := by decide +kernel
theorem dX6_setsOf_27 : decode cX6_setsOf 27 = .ok (.iinc 3 1, 3) := by decide +kernel
theorem dX6_setsOf_30 : decode cX6_setsOf 30 = .ok (.goto (-26), 3) := by decide +kernel
theorem dX6_setsOf_33 : decode cX6_setsOf 33 = .ok (.iload_n 2, 1) := by decide +kernel
theorem dX6_setsOf_34 : decode cX6_setsOf 34 = .ok (.ireturn, 1) := by decide +kernel
set_option maxHeartbeats 200000 in
theorem bX6_setsOf_0 {S : pv_S} {x1 : Int32} {a2 a3 : Option Value} : pv_R mX6_setsOf 0 [some (.ref 0), some (.int x1), a2, a3] [] (pv_em S) = pv_R mX6_setsOf 4 [some (.ref 0), some (.int x1), some (.int 0), some (.int 0)] [] (pv_em S) := Eq.trans (pv_Ric dX6_setsOf_0 ki_0) (Eq.trans (pv_Rstp dX6_setsOf_1 rfl rfl rfl) (Eq.trans (pv_Ric dX6_setsOf_2 ki_0) (pv_Rstp dX6_setsOf_3 rfl rfl rfl)))
set_option maxHeartbeats 200000 in
theorem bX6_setsOf_4 {S : pv_S} {x1 x2 x3 : Int32} : pv_R mX6_setsOf 4 [some (.ref 0), some (.int x1), some (.int x2), some (.int x3)] [] (pv_em S) = pv_cc (pv_R mX6_setCount 0 [some (.ref 0)] [] (pv_em S)) mX6_setsOf 9 [some (.ref 0), some (.int x1), some (.int x2), some (.int x3)] [.int x3] := Eq.trans (pv_Rstp dX6_setsOf_4 rfl rfl rfl) (Eq.trans (pv_Rstp dX6_setsOf_5 rfl rfl rfl) (pv_Rcall (As := [.ref 0]) (rest := [.int x3]) dX6_setsOf_6 rfl mfX6_235 rfl rfl rfl rfl rfl))
set_option maxHeartbeats 200000 in
theorem bX6_setsOf_9 {S : pv_S} {x1 x2 x3 u0 u1 : Int32} : pv_R mX6_setsOf 9 [some (.ref 0), some (.int x1), some (.int x2), some (.int x3)] [.int u0, .int u1] (pv_em S) = if u0 ≤ u1 then pv_R mX6_setsOf 33 [some (.ref 0), some (.int x1), some (.int x2), some (.int x3)] [] (pv_em S) else pv_R mX6_setsOf 12 [some (.ref 0), some (.int x1), some (.int x2), some (.int x3)] [] (pv_em S) := pv_Rbr (tgt := 33) dX6_setsOf_9 rfl rfl rfl rfl rfl (by decide)
set_option maxHeartbeats 200000 in
theorem bX6_setsOf_12 {S : pv_S} {x1 x2 x3 : Int32} : pv_R mX6_setsOf 12 [some (.ref 0), some (.int x1), some (.int x2), some (.int x3)] [] (pv_em S) = pv_cc (pv_R mX5_weightOfSet 0 [some (.ref 21), some (.int x3), none, none] [] (pv_em S)) mX6_setsOf 20 [some (.ref 0), some (.int x1), some (.int x2), some (.int x3)] [] := Eq.trans (pv_Rstp dX6_setsOf_12 rfl rfl rfl) (Eq.trans (pv_Rget dX6_setsOf_13 ffX6_31 (by decide) (pv_ce_0 _ _) rfl) (Eq.trans (pv_Rstp dX6_setsOf_16 rfl rfl rfl) (pv_Rcall (As := [.ref 21, .int x3]) (rest := []) dX6_setsOf_17 rfl mfX6_238 rfl rfl rfl rfl rfl)))
set_option maxHeartbeats 200000 in
theorem bX6_setsOf_20 {S : pv_S} {x1 x2 x3 u0 : Int32} : pv_R mX6_setsOf 20 [some (.ref 0), some (.int x1), some (.int x2), some (.int x3)] [.int u0] (pv_em S) = if ¬ u0 = x1 then pv_R mX6_setsOf 27 [some (.ref 0), some (.int x1), some (.int x2), some (.int x3)] [] (pv_em S) else pv_R mX6_setsOf 24 [some (.ref 0), some (.int x1), some (.int x2), some (.int x3)] [] (pv_em S) := Eq.trans (pv_Rstp dX6_setsOf_20 rfl rfl rfl) (pv_Rbr (tgt := 27) dX6_setsOf_21 rfl rfl rfl rfl rfl (by decide))
set_option maxHeartbeats 200000 in
theorem bX6_setsOf_24 {S : pv_S} {x1 x2 x3 : Int32} : pv_R mX6_setsOf 24 [some (.ref 0), some (.int x1), some (.int x2), some (.int x3)] [] (pv_em S) = pv_R mX6_setsOf 27 [some (.ref 0), some (.int x1), some (.int (x2 + 1)), some (.int x3)] [] (pv_em S) := pv_Rinc dX6_setsOf_24 rfl (Nat.le_of_ble_eq_true rfl) ki_1 rfl
set_option maxHeartbeats 200000 in
theorem bX6_setsOf_27 {S : pv_S} {x1 x2 x3 : Int32} : pv_R mX6_setsOf 27 [some (.ref 0), some (.int x1), some (.int x2), some (.int x3)] [] (pv_em S) = pv_R mX6_setsOf 4 [some (.ref 0), some (.int x1), some (.int x2), some (.int (x3 + 1))] [] (pv_em S) := Eq.trans (pv_Rinc dX6_setsOf_27 rfl (Nat.le_of_ble_eq_true rfl) ki_1 rfl) (pv_Rgo (tgt := 4) dX6_setsOf_30 rfl (by decide))
set_option maxHeartbeats 200000 in
theorem bX6_setsOf_33 {S : pv_S} {x1 x2 x3 : Int32} : pv_R mX6_setsOf 33 [some (.ref 0), some (.int x1), some (.int x2), some (.int x3)] [] (pv_em S) = some (some (.int x2), pv_em S) := Eq.trans (pv_Rstp dX6_setsOf_33 rfl rfl rfl) (pv_Rret dX6_setsOf_34 rfl)
theorem dX6_setsWith_0 : decode cX6_setsWith 0 = .ok (.iconst 0, 1) := by decide +kernel
theorem dX6_setsWith_1 : decode cX6_setsWith 1 = .ok (.istore_n 3, 1) := by decide +kernel
theorem dX6_setsWith_2 : decode cX6_setsWith 2 = .ok (.iconst 0, 1) := by decide +kernel
theorem dX6_setsWith_3 : decode cX6_setsWith 3 = .ok (.istore 4, 2) := by decide +kernel
theorem dX6_setsWith_5 : decode cX6_setsWith 5 = .ok (.iload 4, 2) := by decide +kernel
theorem dX6_setsWith_7 : decode cX6_setsWith 7 = .ok (.aload_n 0, 1) := by decide +kernel
theorem dX6_setsWith_8 : decode cX6_setsWith 8 = .ok (.invokevirtual 235, 3) := by decide +kernel
theorem dX6_setsWith_11 : decode cX6_setsWith 11 = .ok (.if_icmp .ge 34, 3) := by decide +kernel
theorem dX6_setsWith_14 : decode cX6_setsWith 14 = .ok (.iload 4, 2) := by decide +kernel
theorem dX6_setsWith_16 : decode cX6_setsWith 16 = .ok (.iload_n 2, 1) := by decide +kernel
theorem dX6_setsWith_17 : decode cX6_setsWith 17 = .ok (.ishr, 1) := by decide +kernel
theorem dX6_setsWith_18 : decode cX6_setsWith 18 = .ok (.iconst 1, 1) := by decide +kernel
theorem dX6_setsWith_19 : decode cX6_setsWith 19 = .ok (.iand, 1) := by decide +kernel
theorem dX6_setsWith_20 : decode cX6_setsWith 20 = .ok (.ifCond .eq 19, 3) := by decide +kernel
theorem dX6_setsWith_23 : decode cX6_setsWith 23 = .ok (.aload_n 0, 1) := by decide +kernel
theorem dX6_setsWith_24 : decode cX6_setsWith 24 = .ok (.getfield 31, 3) := by decide +kernel
theorem dX6_setsWith_27 : decode cX6_setsWith 27 = .ok (.iload 4, 2) := by decide +kernel
theorem dX6_setsWith_29 : decode cX6_setsWith 29 = .ok (.invokevirtual 238, 3) := by decide +kernel
theorem dX6_setsWith_32 : decode cX6_setsWith 32 = .ok (.iload_n 1, 1) := by decide +kernel
theorem dX6_setsWith_33 : decode cX6_setsWith 33 = .ok (.if_icmp .ne 6, 3) := by decide +kernel
theorem dX6_setsWith_36 : decode cX6_setsWith 36 = .ok (.iinc 3 1, 3) := by decide +kernel
theorem dX6_setsWith_39 : decode cX6_setsWith 39 = .ok (.iinc 4 1, 3) := by decide +kernel
theorem dX6_setsWith_42 : decode cX6_setsWith 42 = .ok (.goto (-37), 3) := by decide +kernel
theorem dX6_setsWith_45 : decode cX6_setsWith 45 = .ok (.iload_n 3, 1) := by decide +kernel
theorem dX6_setsWith_46 : decode cX6_setsWith 46 = .ok (.ireturn, 1) := by decide +kernel
set_option maxHeartbeats 200000 in
theorem bX6_setsWith_0 {S : pv_S} {x1 x2 : Int32} {a3 a4 : Option Value} : pv_R mX6_setsWith 0 [some (.ref 0), some (.int x1), some (.int x2), a3, a4] [] (pv_em S) = pv_R mX6_setsWith 5 [some (.ref 0), some (.int x1), some (.int x2), some (.int 0), some (.int 0)] [] (pv_em S) := Eq.trans (pv_Ric dX6_setsWith_0 ki_0) (Eq.trans (pv_Rstp dX6_setsWith_1 rfl rfl rfl) (Eq.trans (pv_Ric dX6_setsWith_2 ki_0) (pv_Rstp dX6_setsWith_3 rfl rfl rfl)))
set_option maxHeartbeats 200000 in
theorem bX6_setsWith_5 {S : pv_S} {x1 x2 x3 x4 : Int32} : pv_R mX6_setsWith 5 [some (.ref 0), some (.int x1), some (.int x2), some (.int x3), some (.int x4)] [] (pv_em S) = pv_cc (pv_R mX6_setCount 0 [some (.ref 0)] [] (pv_em S)) mX6_setsWith 11 [some (.ref 0), some (.int x1), some (.int x2), some (.int x3), some (.int x4)] [.int x4] := Eq.trans (pv_Rstp dX6_setsWith_5 rfl rfl rfl) (Eq.trans (pv_Rstp dX6_setsWith_7 rfl rfl rfl) (pv_Rcall (As := [.ref 0]) (rest := [.int x4]) dX6_setsWith_8 rfl mfX6_235 rfl rfl rfl rfl rfl))
set_option maxHeartbeats 200000 in
theorem bX6_setsWith_11 {S : pv_S} {x1 x2 x3 x4 u0 u1 : Int32} : pv_R mX6_setsWith 11 [some (.ref 0), some (.int x1), some (.int x2), some (.int x3), some (.int x4)] [.int u0, .int u1] (pv_em S) = if u0 ≤ u1 then pv_R mX6_setsWith 45 [some (.ref 0), some (.int x1), some (.int x2), some (.int x3), some (.int x4)] [] (pv_em S) else pv_R mX6_setsWith 14 [some (.ref 0), some (.int x1), some (.int x2), some (.int x3), some (.int x4)] [] (pv_em S) := pv_Rbr (tgt := 45) dX6_setsWith_11 rfl rfl rfl rfl rfl (by decide)
set_option maxHeartbeats 200000 in
theorem bX6_setsWith_14 {S : pv_S} {x1 x2 x3 x4 : Int32} : pv_R mX6_setsWith 14 [some (.ref 0), some (.int x1), some (.int x2), some (.int x3), some (.int x4)] [] (pv_em S) = if ((x4 >>> (x2 &&& 31)) &&& 1) = 0 then pv_R mX6_setsWith 39 [some (.ref 0), some (.int x1), some (.int x2), some (.int x3), some (.int x4)] [] (pv_em S) else pv_R mX6_setsWith 23 [some (.ref 0), some (.int x1), some (.int x2), some (.int x3), some (.int x4)] [] (pv_em S) := Eq.trans (pv_Rstp dX6_setsWith_14 rfl rfl rfl) (Eq.trans (pv_Rstp dX6_setsWith_16 rfl rfl rfl) (Eq.trans (pv_Rstp dX6_setsWith_17 rfl rfl rfl) (Eq.trans (pv_Ric dX6_setsWith_18 ki_1) (Eq.trans (pv_Rstp dX6_setsWith_19 rfl rfl rfl) (pv_Rbr (tgt := 39) dX6_setsWith_20 rfl rfl rfl rfl rfl (by decide))))))
set_option maxHeartbeats 200000 in
theorem bX6_setsWith_23 {S : pv_S} {x1 x2 x3 x4 : Int32} : pv_R mX6_setsWith 23 [some (.ref 0), some (.int x1), some (.int x2), some (.int x3), some (.int x4)] [] (pv_em S) = pv_cc (pv_R mX5_weightOfSet 0 [some (.ref 21), some (.int x4), none, none] [] (pv_em S)) mX6_setsWith 32 [some (.ref 0), some (.int x1), some (.int x2), some (.int x3), some (.int x4)] [] := Eq.trans (pv_Rstp dX6_setsWith_23 rfl rfl rfl) (Eq.trans (pv_Rget dX6_setsWith_24 ffX6_31 (by decide) (pv_ce_0 _ _) rfl) (Eq.trans (pv_Rstp dX6_setsWith_27 rfl rfl rfl) (pv_Rcall (As := [.ref 21, .int x4]) (rest := []) dX6_setsWith_29 rfl mfX6_238 rfl rfl rfl rfl rfl)))
set_option maxHeartbeats 200000 in
theorem bX6_setsWith_32 {S : pv_S} {x1 x2 x3 x4 u0 : Int32} : pv_R mX6_setsWith 32 [some (.ref 0), some (.int x1), some (.int x2), some (.int x3), some (.int x4)] [.int u0] (pv_em S) = if ¬ u0 = x1 then pv_R mX6_setsWith 39 [some (.ref 0), some (.int x1), some (.int x2), some (.int x3), some (.int x4)] [] (pv_em S) else pv_R mX6_setsWith 36 [some (.ref 0), some (.int x1), some (.int x2), some (.int x3), some (.int x4)] [] (pv_em S) := Eq.trans (pv_Rstp dX6_setsWith_32 rfl rfl rfl) (pv_Rbr (tgt := 39) dX6_setsWith_33 rfl rfl rfl rfl rfl (by decide))
set_option maxHeartbeats 200000 in
theorem bX6_setsWith_36 {S : pv_S} {x1 x2 x3 x4 : Int32} : pv_R mX6_setsWith 36 [some (.ref 0), some (.int x1), some (.int x2), some (.int x3), some (.int x4)] [] (pv_em S) = pv_R mX6_setsWith 39 [some (.ref 0), some (.int x1), some (.int x2), some (.int (x3 + 1)), some (.int x4)] [] (pv_em S) := pv_Rinc dX6_setsWith_36 rfl (Nat.le_of_ble_eq_true rfl) ki_1 rfl
set_option maxHeartbeats 200000 in
theorem bX6_setsWith_39 {S : pv_S} {x1 x2 x3 x4 : Int32} : pv_R mX6_setsWith 39 [some (.ref 0), some (.int x1), some (.int x2), some (.int x3), some (.int x4)] [] (pv_em S) = pv_R mX6_setsWith 5 [some (.ref 0), some (.int x1), some (.int x2), some (.int x3), some (.int (x4 + 1))] [] (pv_em S) := Eq.trans (pv_Rinc dX6_setsWith_39 rfl (Nat.le_of_ble_eq_true rfl) ki_1 rfl) (pv_Rgo (tgt := 5) dX6_setsWith_42 rfl (by decide))
set_option maxHeartbeats 200000 in
theorem bX6_setsWith_45 {S : pv_S} {x1 x2 x3 x4 : Int32} : pv_R mX6_setsWith 45 [some (.ref 0), some (.int x1), some (.int x2), some (.int x3), some (.int x4)] [] (pv_em S) = some (some (.int x3), pv_em S) := Eq.trans (pv_Rstp dX6_setsWith_45 rfl rfl rfl) (pv_Rret dX6_setsWith_46 rfl)
theorem dX6_kindsFitting_0 : decode cX6_kindsFitting 0 = .ok (.iconst 0, 1) := by decide +kernel
theorem dX6_kindsFitting_1 : decode cX6_kindsFitting 1 = .ok (.istore_n 3, 1) := by decide +kernel
theorem dX6_kindsFitting_2 : decode cX6_kindsFitting 2 = .ok (.iconst 0, 1) := by decide +kernel
theorem dX6_kindsFitting_3 : decode cX6_kindsFitting 3 = .ok (.istore 4, 2) := by decide +kernel
theorem dX6_kindsFitting_5 : decode cX6_kindsFitting 5 = .ok (.iload 4, 2) := by decide +kernel
theorem dX6_kindsFitting_7 : decode cX6_kindsFitting 7 = .ok (.bipush 6, 2) := by decide +kernel
theorem dX6_kindsFitting_9 : decode cX6_kindsFitting 9 = .ok (.if_icmp .ge 35, 3) := by decide +kernel
theorem dX6_kindsFitting_12 : decode cX6_kindsFitting 12 = .ok (.aload_n 0, 1) := by decide +kernel
theorem dX6_kindsFitting_13 : decode cX6_kindsFitting 13 = .ok (.iload 4, 2) := by decide +kernel
theorem dX6_kindsFitting_15 : decode cX6_kindsFitting 15 = .ok (.aload_n 0, 1) := by decide +kernel
theorem dX6_kindsFitting_16 : decode cX6_kindsFitting 16 = .ok (.getfield 31, 3) := by decide +kernel
theorem dX6_kindsFitting_19 : decode cX6_kindsFitting 19 = .ok (.getfield 162, 3) := by decide +kernel
theorem dX6_kindsFitting_22 : decode cX6_kindsFitting 22 = .ok (.iload_n 1, 1) := by decide +kernel
theorem dX6_kindsFitting_23 : decode cX6_kindsFitting 23 = .ok (.iaload, 1) := by decide +kernel
theorem dX6_kindsFitting_24 : decode cX6_kindsFitting 24 = .ok (.iload_n 2, 1) := by decide +kernel
theorem dX6_kindsFitting_25 : decode cX6_kindsFitting 25 = .ok (.invokevirtual 260, 3) := by decide +kernel
theorem dX6_kindsFitting_28 : decode cX6_kindsFitting 28 = .ok (.ifCond .eq 10, 3) := by decide +kernel
theorem dX6_kindsFitting_31 : decode cX6_kindsFitting 31 = .ok (.iload_n 3, 1) := by decide +kernel
theorem dX6_kindsFitting_32 : decode cX6_kindsFitting 32 = .ok (.iconst 1, 1) := by decide +kernel
theorem dX6_kindsFitting_33 : decode cX6_kindsFitting 33 = .ok (.iload 4, 2) := by decide +kernel
theorem dX6_kindsFitting_35 : decode cX6_kindsFitting 35 = .ok (.ishl, 1) := by decide +kernel
theorem dX6_kindsFitting_36 : decode cX6_kindsFitting 36 = .ok (.ior, 1) := by decide +kernel
theorem dX6_kindsFitting_37 : decode cX6_kindsFitting 37 = .ok (.istore_n 3, 1) := by decide +kernel
theorem dX6_kindsFitting_38 : decode cX6_kindsFitting 38 = .ok (.iinc 4 1, 3) := by decide +kernel
theorem dX6_kindsFitting_41 : decode cX6_kindsFitting 41 = .ok (.goto (-36), 3) := by decide +kernel
theorem dX6_kindsFitting_44 : decode cX6_kindsFitting 44 = .ok (.iload_n 3, 1) := by decide +kernel
theorem dX6_kindsFitting_45 : decode cX6_kindsFitting 45 = .ok (.ireturn, 1) := by decide +kernel
set_option maxHeartbeats 200000 in
theorem bX6_kindsFitting_0 {S : pv_S} {x1 x2 : Int32} {a3 a4 : Option Value} : pv_R mX6_kindsFitting 0 [some (.ref 0), some (.int x1), some (.int x2), a3, a4] [] (pv_em S) = pv_R mX6_kindsFitting 5 [some (.ref 0), some (.int x1), some (.int x2), some (.int 0), some (.int 0)] [] (pv_em S) := Eq.trans (pv_Ric dX6_kindsFitting_0 ki_0) (Eq.trans (pv_Rstp dX6_kindsFitting_1 rfl rfl rfl) (Eq.trans (pv_Ric dX6_kindsFitting_2 ki_0) (pv_Rstp dX6_kindsFitting_3 rfl rfl rfl)))
set_option maxHeartbeats 200000 in
theorem bX6_kindsFitting_5 {S : pv_S} {x1 x2 x3 x4 : Int32} : pv_R mX6_kindsFitting 5 [some (.ref 0), some (.int x1), some (.int x2), some (.int x3), some (.int x4)] [] (pv_em S) = if 6 ≤ x4 then pv_R mX6_kindsFitting 44 [some (.ref 0), some (.int x1), some (.int x2), some (.int x3), some (.int x4)] [] (pv_em S) else pv_R mX6_kindsFitting 12 [some (.ref 0), some (.int x1), some (.int x2), some (.int x3), some (.int x4)] [] (pv_em S) := Eq.trans (pv_Rstp dX6_kindsFitting_5 rfl rfl rfl) (Eq.trans (pv_Rbp dX6_kindsFitting_7 kb_6) (pv_Rbr (tgt := 44) dX6_kindsFitting_9 rfl rfl rfl rfl rfl (by decide)))
set_option maxHeartbeats 200000 in
theorem bX6_kindsFitting_12 {S : pv_S} {x1 x2 x3 x4 : Int32} : pv_R mX6_kindsFitting 12 [some (.ref 0), some (.int x1), some (.int x2), some (.int x3), some (.int x4)] [] (pv_em S) = if x1 < 0 ∨ 6 ≤ x1.toNatClampNeg then none else pv_cc (pv_R mX6_fitsLedger 0 [some (.ref 0), some (.int x4), some (.int (S.1 25 x1.toNatClampNeg)), some (.int x2), none, none] [] (pv_em S)) mX6_kindsFitting 28 [some (.ref 0), some (.int x1), some (.int x2), some (.int x3), some (.int x4)] [] := Eq.trans (pv_Rstp dX6_kindsFitting_12 rfl rfl rfl) (Eq.trans (pv_Rstp dX6_kindsFitting_13 rfl rfl rfl) (Eq.trans (pv_Rstp dX6_kindsFitting_15 rfl rfl rfl) (Eq.trans (pv_Rget dX6_kindsFitting_16 ffX6_31 (by decide) (pv_ce_0 _ _) rfl) (Eq.trans (pv_Rget dX6_kindsFitting_19 ffX6_162 (by decide) (pv_ce_21 _ _) rfl) (Eq.trans (pv_Rstp dX6_kindsFitting_22 rfl rfl rfl) (Eq.trans (pv_Rald dX6_kindsFitting_23 (by decide) (pv_ce_25 _ _)) (pv_iteN (fun h1 => Eq.trans (pv_Rstp dX6_kindsFitting_24 rfl rfl rfl) (pv_Rcall (As := [.ref 0, .int x4, .int (S.1 25 x1.toNatClampNeg), .int x2]) (rest := []) dX6_kindsFitting_25 rfl mfX6_260 rfl rfl rfl rfl rfl)))))))))
set_option maxHeartbeats 200000 in
theorem bX6_kindsFitting_28 {S : pv_S} {x1 x2 x3 x4 u0 : Int32} : pv_R mX6_kindsFitting 28 [some (.ref 0), some (.int x1), some (.int x2), some (.int x3), some (.int x4)] [.int u0] (pv_em S) = if u0 = 0 then pv_R mX6_kindsFitting 38 [some (.ref 0), some (.int x1), some (.int x2), some (.int x3), some (.int x4)] [] (pv_em S) else pv_R mX6_kindsFitting 31 [some (.ref 0), some (.int x1), some (.int x2), some (.int x3), some (.int x4)] [] (pv_em S) := pv_Rbr (tgt := 38) dX6_kindsFitting_28 rfl rfl rfl rfl rfl (by decide)
set_option maxHeartbeats 200000 in
theorem bX6_kindsFitting_31 {S : pv_S} {x1 x2 x3 x4 : Int32} : pv_R mX6_kindsFitting 31 [some (.ref 0), some (.int x1), some (.int x2), some (.int x3), some (.int x4)] [] (pv_em S) = pv_R mX6_kindsFitting 38 [some (.ref 0), some (.int x1), some (.int x2), some (.int (x3 ||| (1 <<< (x4 &&& 31)))), some (.int x4)] [] (pv_em S) := Eq.trans (pv_Rstp dX6_kindsFitting_31 rfl rfl rfl) (Eq.trans (pv_Ric dX6_kindsFitting_32 ki_1) (Eq.trans (pv_Rstp dX6_kindsFitting_33 rfl rfl rfl) (Eq.trans (pv_Rstp dX6_kindsFitting_35 rfl rfl rfl) (Eq.trans (pv_Rstp dX6_kindsFitting_36 rfl rfl rfl) (pv_Rstp dX6_kindsFitting_37 rfl rfl rfl)))))
set_option maxHeartbeats 200000 in
theorem bX6_kindsFitting_38 {S : pv_S} {x1 x2 x3 x4 : Int32} : pv_R mX6_kindsFitting 38 [some (.ref 0), some (.int x1), some (.int x2), some (.int x3), some (.int x4)] [] (pv_em S) = pv_R mX6_kindsFitting 5 [some (.ref 0), some (.int x1), some (.int x2), some (.int x3), some (.int (x4 + 1))] [] (pv_em S) := Eq.trans (pv_Rinc dX6_kindsFitting_38 rfl (Nat.le_of_ble_eq_true rfl) ki_1 rfl) (pv_Rgo (tgt := 5) dX6_kindsFitting_41 rfl (by decide))
set_option maxHeartbeats 200000 in
theorem bX6_kindsFitting_44 {S : pv_S} {x1 x2 x3 x4 : Int32} : pv_R mX6_kindsFitting 44 [some (.ref 0), some (.int x1), some (.int x2), some (.int x3), some (.int x4)] [] (pv_em S) = some (some (.int x3), pv_em S) := Eq.trans (pv_Rstp dX6_kindsFitting_44 rfl rfl rfl) (pv_Rret dX6_kindsFitting_45 rfl)
theorem dX6_refuseLedger_0 : decode cX6_refuseLedger 0 = .ok (.aload_n 0, 1) := by decide +kernel
theorem dX6_refuseLedger_1 : decode cX6_refuseLedger 1 = .ok (.getfield 31, 3) := by decide +kernel
theorem dX6_refuseLedger_4 : decode cX6_refuseLedger 4 = .ok (.iload_n 1, 1) := by decide +kernel
theorem dX6_refuseLedger_5 : decode cX6_refuseLedger 5 = .ok (.invokevirtual 113, 3) := by decide +kernel
theorem dX6_refuseLedger_8 : decode cX6_refuseLedger 8 = .ok (.ifCond .ne 5, 3) := by decide +kernel
theorem dX6_refuseLedger_11 : decode cX6_refuseLedger 11 = .ok (.iconst (-1), 1) := by decide +kernel
theorem dX6_refuseLedger_12 : decode cX6_refuseLedger 12 = .ok (.ireturn, 1) := by decide +kernel
theorem dX6_refuseLedger_13 : decode cX6_refuseLedger 13 = .ok (.aload_n 0, 1) := by decide +kernel
theorem dX6_refuseLedger_14 : decode cX6_refuseLedger 14 = .ok (.aload_n 0, 1) := by decide +kernel
theorem dX6_refuseLedger_15 : decode cX6_refuseLedger 15 = .ok (.getfield 14, 3) := by decide +kernel
theorem dX6_refuseLedger_18 : decode cX6_refuseLedger 18 = .ok (.iload_n 2, 1) := by decide +kernel
theorem dX6_refuseLedger_19 : decode cX6_refuseLedger 19 = .ok (.invokevirtual 69, 3) := by decide +kernel
theorem dX6_refuseLedger_22 : decode cX6_refuseLedger 22 = .ok (.istore_n 3, 1) := by decide +kernel
theorem dX6_refuseLedger_23 : decode cX6_refuseLedger 23 = .ok (.iload_n 3, 1) := by decide +kernel
theorem dX6_refuseLedger_24 : decode cX6_refuseLedger 24 = .ok (.ifCond .eq 5, 3) := by decide +kernel
theorem dX6_refuseLedger_27 : decode cX6_refuseLedger 27 = .ok (.iload_n 3, 1) := by decide +kernel
theorem dX6_refuseLedger_28 : decode cX6_refuseLedger 28 = .ok (.ireturn, 1) := by decide +kernel
theorem dX6_refuseLedger_29 : decode cX6_refuseLedger 29 = .ok (.aload_n 0, 1) := by decide +kernel
theorem dX6_refuseLedger_30 : decode cX6_refuseLedger 30 = .ok (.getfield 14, 3) := by decide +kernel
theorem dX6_refuseLedger_33 : decode cX6_refuseLedger 33 = .ok (.iload_n 2, 1) := by decide +kernel
theorem dX6_refuseLedger_34 : decode cX6_refuseLedger 34 = .ok (.invokevirtual 96, 3) := by decide +kernel
theorem dX6_refuseLedger_37 : decode cX6_refuseLedger 37 = .ok (.istore 4, 2) := by decide +kernel
theorem dX6_refuseLedger_39 : decode cX6_refuseLedger 39 = .ok (.iload 4, 2) := by decide +kernel
theorem dX6_refuseLedger_41 : decode cX6_refuseLedger 41 = .ok (.iconst 2, 1) := by decide +kernel
theorem dX6_refuseLedger_42 : decode cX6_refuseLedger 42 = .ok (.irem, 1) := by decide +kernel
theorem dX6_refuseLedger_43 : decode cX6_refuseLedger 43 = .ok (.ifCond .ne 10, 3) := by decide +kernel
theorem dX6_refuseLedger_46 : decode cX6_refuseLedger 46 = .ok (.iload 4, 2) := by decide +kernel
theorem dX6_refuseLedger_48 : decode cX6_refuseLedger 48 = .ok (.bipush 16, 2) := by decide +kernel
theorem dX6_refuseLedger_50 : decode cX6_refuseLedger 50 = .ok (.if_icmp .le 12, 3) := by decide +kernel
theorem dX6_refuseLedger_53 : decode cX6_refuseLedger 53 = .ok (.aload_n 0, 1) := by decide +kernel
theorem dX6_refuseLedger_54 : decode cX6_refuseLedger 54 = .ok (.getfield 45, 3) := by decide +kernel
theorem dX6_refuseLedger_57 : decode cX6_refuseLedger 57 = .ok (.iconst 5, 1) := by decide +kernel
theorem dX6_refuseLedger_58 : decode cX6_refuseLedger 58 = .ok (.invokevirtual 81, 3) := by decide +kernel
theorem dX6_refuseLedger_61 : decode cX6_refuseLedger 61 = .ok (.ireturn, 1) := by decide +kernel
theorem dX6_refuseLedger_62 : decode cX6_refuseLedger 62 = .ok (.aload_n 0, 1) := by decide +kernel
theorem dX6_refuseLedger_63 : decode cX6_refuseLedger 63 = .ok (.iload_n 2, 1) := by decide +kernel
theorem dX6_refuseLedger_64 : decode cX6_refuseLedger 64 = .ok (.invokevirtual 336, 3) := by decide +kernel
theorem dX6_refuseLedger_67 : decode cX6_refuseLedger 67 = .ok (.ifCond .eq 7, 3) := by decide +kernel
theorem dX6_refuseLedger_70 : decode cX6_refuseLedger 70 = .ok (.iconst 0, 1) := by decide +kernel
theorem dX6_refuseLedger_71 : decode cX6_refuseLedger 71 = .ok (.goto 11, 3) := by decide +kernel
theorem dX6_refuseLedger_74 : decode cX6_refuseLedger 74 = .ok (.aload_n 0, 1) := by decide +kernel
theorem dX6_refuseLedger_75 : decode cX6_refuseLedger 75 = .ok (.getfield 45, 3) := by decide +kernel
theorem dX6_refuseLedger_78 : decode cX6_refuseLedger 78 = .ok (.iconst 3, 1) := by decide +kernel
theorem dX6_refuseLedger_79 : decode cX6_refuseLedger 79 = .ok (.invokevirtual 81, 3) := by decide +kernel
theorem dX6_refuseLedger_82 : decode cX6_refuseLedger 82 = .ok (.ireturn, 1) := by decide +kernel
set_option maxHeartbeats 200000 in
theorem bX6_refuseLedger_0 {S : pv_S} {x1 x2 : Int32} {a3 a4 : Option Value} : pv_R mX6_refuseLedger 0 [some (.ref 0), some (.int x1), some (.int x2), a3, a4] [] (pv_em S) = pv_cc (pv_R mX5_isCat 0 [some (.ref 21), some (.int x1)] [] (pv_em S)) mX6_refuseLedger 8 [some (.ref 0), some (.int x1), some (.int x2), a3, a4] [] := Eq.trans (pv_Rstp dX6_refuseLedger_0 rfl rfl rfl) (Eq.trans (pv_Rget dX6_refuseLedger_1 ffX6_31 (by decide) (pv_ce_0 _ _) rfl) (Eq.trans (pv_Rstp dX6_refuseLedger_4 rfl rfl rfl) (pv_Rcall (As := [.ref 21, .int x1]) (rest := []) dX6_refuseLedger_5 rfl mfX6_113 rfl rfl rfl rfl rfl)))
set_option maxHeartbeats 200000 in
theorem bX6_refuseLedger_8 {S : pv_S} {x1 x2 u0 : Int32} {a3 a4 : Option Value} : pv_R mX6_refuseLedger 8 [some (.ref 0), some (.int x1), some (.int x2), a3, a4] [.int u0] (pv_em S) = if ¬ u0 = 0 then pv_R mX6_refuseLedger 13 [some (.ref 0), some (.int x1), some (.int x2), a3, a4] [] (pv_em S) else pv_R mX6_refuseLedger 11 [some (.ref 0), some (.int x1), some (.int x2), a3, a4] [] (pv_em S) := pv_Rbr (tgt := 13) dX6_refuseLedger_8 rfl rfl rfl rfl rfl (by decide)
set_option maxHeartbeats 200000 in
theorem bX6_refuseLedger_11 {S : pv_S} {x1 x2 : Int32} {a3 a4 : Option Value} : pv_R mX6_refuseLedger 11 [some (.ref 0), some (.int x1), some (.int x2), a3, a4] [] (pv_em S) = some (some (.int (-1)), pv_em S) := Eq.trans (pv_Ric dX6_refuseLedger_11 ki_m1) (pv_Rret dX6_refuseLedger_12 rfl)
set_option maxHeartbeats 200000 in
theorem bX6_refuseLedger_13 {S : pv_S} {x1 x2 : Int32} {a3 a4 : Option Value} : pv_R mX6_refuseLedger 13 [some (.ref 0), some (.int x1), some (.int x2), a3, a4] [] (pv_em S) = pv_cc (pv_R mX6_refuseMissing 0 [some (.ref 0), some (.ref 1), some (.int x2)] [] (pv_em S)) mX6_refuseLedger 22 [some (.ref 0), some (.int x1), some (.int x2), a3, a4] [] := Eq.trans (pv_Rstp dX6_refuseLedger_13 rfl rfl rfl) (Eq.trans (pv_Rstp dX6_refuseLedger_14 rfl rfl rfl) (Eq.trans (pv_Rget dX6_refuseLedger_15 ffX6_14 (by decide) (pv_ce_0 _ _) rfl) (Eq.trans (pv_Rstp dX6_refuseLedger_18 rfl rfl rfl) (pv_Rcall (As := [.ref 0, .ref 1, .int x2]) (rest := []) dX6_refuseLedger_19 rfl mfX6_69 rfl rfl rfl rfl rfl))))
set_option maxHeartbeats 200000 in
theorem bX6_refuseLedger_22 {S : pv_S} {x1 x2 u0 : Int32} {a3 a4 : Option Value} : pv_R mX6_refuseLedger 22 [some (.ref 0), some (.int x1), some (.int x2), a3, a4] [.int u0] (pv_em S) = if u0 = 0 then pv_R mX6_refuseLedger 29 [some (.ref 0), some (.int x1), some (.int x2), some (.int u0), a4] [] (pv_em S) else pv_R mX6_refuseLedger 27 [some (.ref 0), some (.int x1), some (.int x2), some (.int u0), a4] [] (pv_em S) := Eq.trans (pv_Rstp dX6_refuseLedger_22 rfl rfl rfl) (Eq.trans (pv_Rstp dX6_refuseLedger_23 rfl rfl rfl) (pv_Rbr (tgt := 29) dX6_refuseLedger_24 rfl rfl rfl rfl rfl (by decide)))
set_option maxHeartbeats 200000 in
theorem bX6_refuseLedger_27 {S : pv_S} {x1 x2 x3 : Int32} {a4 : Option Value} : pv_R mX6_refuseLedger 27 [some (.ref 0), some (.int x1), some (.int x2), some (.int x3), a4] [] (pv_em S) = some (some (.int x3), pv_em S) := Eq.trans (pv_Rstp dX6_refuseLedger_27 rfl rfl rfl) (pv_Rret dX6_refuseLedger_28 rfl)
set_option maxHeartbeats 200000 in
theorem bX6_refuseLedger_29 {S : pv_S} {x1 x2 x3 : Int32} {a4 : Option Value} : pv_R mX6_refuseLedger 29 [some (.ref 0), some (.int x1), some (.int x2), some (.int x3), a4] [] (pv_em S) = pv_cc (pv_R mX3_sizeOf 0 [some (.ref 1), some (.int x2)] [] (pv_em S)) mX6_refuseLedger 37 [some (.ref 0), some (.int x1), some (.int x2), some (.int x3), a4] [] := Eq.trans (pv_Rstp dX6_refuseLedger_29 rfl rfl rfl) (Eq.trans (pv_Rget dX6_refuseLedger_30 ffX6_14 (by decide) (pv_ce_0 _ _) rfl) (Eq.trans (pv_Rstp dX6_refuseLedger_33 rfl rfl rfl) (pv_Rcall (As := [.ref 1, .int x2]) (rest := []) dX6_refuseLedger_34 rfl mfX6_96 rfl rfl rfl rfl rfl)))
set_option maxHeartbeats 200000 in
theorem bX6_refuseLedger_37 {S : pv_S} {x1 x2 x3 u0 : Int32} {a4 : Option Value} : pv_R mX6_refuseLedger 37 [some (.ref 0), some (.int x1), some (.int x2), some (.int x3), a4] [.int u0] (pv_em S) = if ¬ (u0 - u0 / 2 * 2) = 0 then pv_R mX6_refuseLedger 53 [some (.ref 0), some (.int x1), some (.int x2), some (.int x3), some (.int u0)] [] (pv_em S) else pv_R mX6_refuseLedger 46 [some (.ref 0), some (.int x1), some (.int x2), some (.int x3), some (.int u0)] [] (pv_em S) := Eq.trans (pv_Rstp dX6_refuseLedger_37 rfl rfl rfl) (Eq.trans (pv_Rstp dX6_refuseLedger_39 rfl rfl rfl) (Eq.trans (pv_Ric dX6_refuseLedger_41 ki_2) (Eq.trans (pv_Rrem dX6_refuseLedger_42) (Eq.trans (if_neg (by decide)) (pv_Rbr (tgt := 53) dX6_refuseLedger_43 rfl rfl rfl rfl rfl (by decide))))))
set_option maxHeartbeats 200000 in
theorem bX6_refuseLedger_46 {S : pv_S} {x1 x2 x3 x4 : Int32} : pv_R mX6_refuseLedger 46 [some (.ref 0), some (.int x1), some (.int x2), some (.int x3), some (.int x4)] [] (pv_em S) = if x4 ≤ 16 then pv_R mX6_refuseLedger 62 [some (.ref 0), some (.int x1), some (.int x2), some (.int x3), some (.int x4)] [] (pv_em S) else pv_R mX6_refuseLedger 53 [some (.ref 0), some (.int x1), some (.int x2), some (.int x3), some (.int x4)] [] (pv_em S) := Eq.trans (pv_Rstp dX6_refuseLedger_46 rfl rfl rfl) (Eq.trans (pv_Rbp dX6_refuseLedger_48 kb_16) (pv_Rbr (tgt := 62) dX6_refuseLedger_50 rfl rfl rfl rfl rfl (by decide)))
set_option maxHeartbeats 200000 in
theorem bX6_refuseLedger_53 {S : pv_S} {x1 x2 x3 x4 : Int32} : pv_R mX6_refuseLedger 53 [some (.ref 0), some (.int x1), some (.int x2), some (.int x3), some (.int x4)] [] (pv_em S) = pv_cc (pv_R mX4_answerFinding 0 [some (.ref 35), some (.int 5)] [] (pv_em S)) mX6_refuseLedger 61 [some (.ref 0), some (.int x1), some (.int x2), some (.int x3), some (.int x4)] [] := Eq.trans (pv_Rstp dX6_refuseLedger_53 rfl rfl rfl) (Eq.trans (pv_Rget dX6_refuseLedger_54 ffX6_45 (by decide) (pv_ce_0 _ _) rfl) (Eq.trans (pv_Ric dX6_refuseLedger_57 ki_5) (pv_Rcall (As := [.ref 35, .int 5]) (rest := []) dX6_refuseLedger_58 rfl mfX6_81 rfl rfl rfl rfl rfl)))
set_option maxHeartbeats 200000 in
theorem bX6_refuseLedger_61 {S : pv_S} {x1 x2 x3 x4 u0 : Int32} : pv_R mX6_refuseLedger 61 [some (.ref 0), some (.int x1), some (.int x2), some (.int x3), some (.int x4)] [.int u0] (pv_em S) = some (some (.int u0), pv_em S) := pv_Rret dX6_refuseLedger_61 rfl
set_option maxHeartbeats 200000 in
theorem bX6_refuseLedger_62 {S : pv_S} {x1 x2 x3 x4 : Int32} : pv_R mX6_refuseLedger 62 [some (.ref 0), some (.int x1), some (.int x2), some (.int x3), some (.int x4)] [] (pv_em S) = pv_cc (pv_R mX6_holdsPairs 0 [some (.ref 0), some (.int x2), none, none] [] (pv_em S)) mX6_refuseLedger 67 [some (.ref 0), some (.int x1), some (.int x2), some (.int x3), some (.int x4)] [] := Eq.trans (pv_Rstp dX6_refuseLedger_62 rfl rfl rfl) (Eq.trans (pv_Rstp dX6_refuseLedger_63 rfl rfl rfl) (pv_Rcall (As := [.ref 0, .int x2]) (rest := []) dX6_refuseLedger_64 rfl mfX6_336 rfl rfl rfl rfl rfl))
set_option maxHeartbeats 200000 in
theorem bX6_refuseLedger_67 {S : pv_S} {x1 x2 x3 x4 u0 : Int32} : pv_R mX6_refuseLedger 67 [some (.ref 0), some (.int x1), some (.int x2), some (.int x3), some (.int x4)] [.int u0] (pv_em S) = if u0 = 0 then pv_R mX6_refuseLedger 74 [some (.ref 0), some (.int x1), some (.int x2), some (.int x3), some (.int x4)] [] (pv_em S) else pv_R mX6_refuseLedger 70 [some (.ref 0), some (.int x1), some (.int x2), some (.int x3), some (.int x4)] [] (pv_em S) := pv_Rbr (tgt := 74) dX6_refuseLedger_67 rfl rfl rfl rfl rfl (by decide)
set_option maxHeartbeats 200000 in
theorem bX6_refuseLedger_70 {S : pv_S} {x1 x2 x3 x4 : Int32} : pv_R mX6_refuseLedger 70 [some (.ref 0), some (.int x1), some (.int x2), some (.int x3), some (.int x4)] [] (pv_em S) = pv_R mX6_refuseLedger 82 [some (.ref 0), some (.int x1), some (.int x2), some (.int x3), some (.int x4)] [.int 0] (pv_em S) := Eq.trans (pv_Ric dX6_refuseLedger_70 ki_0) (pv_Rgo (tgt := 82) dX6_refuseLedger_71 rfl (by decide))
set_option maxHeartbeats 200000 in
theorem bX6_refuseLedger_74 {S : pv_S} {x1 x2 x3 x4 : Int32} : pv_R mX6_refuseLedger 74 [some (.ref 0), some (.int x1), some (.int x2), some (.int x3), some (.int x4)] [] (pv_em S) = pv_cc (pv_R mX4_answerFinding 0 [some (.ref 35), some (.int 3)] [] (pv_em S)) mX6_refuseLedger 82 [some (.ref 0), some (.int x1), some (.int x2), some (.int x3), some (.int x4)] [] := Eq.trans (pv_Rstp dX6_refuseLedger_74 rfl rfl rfl) (Eq.trans (pv_Rget dX6_refuseLedger_75 ffX6_45 (by decide) (pv_ce_0 _ _) rfl) (Eq.trans (pv_Ric dX6_refuseLedger_78 ki_3) (pv_Rcall (As := [.ref 35, .int 3]) (rest := []) dX6_refuseLedger_79 rfl mfX6_81 rfl rfl rfl rfl rfl)))
set_option maxHeartbeats 200000 in
theorem bX6_refuseLedger_82 {S : pv_S} {x1 x2 x3 x4 u0 : Int32} : pv_R mX6_refuseLedger 82 [some (.ref 0), some (.int x1), some (.int x2), some (.int x3), some (.int x4)] [.int u0] (pv_em S) = some (some (.int u0), pv_em S) := pv_Rret dX6_refuseLedger_82 rfl
theorem dX6_fitsLedger_0 : decode cX6_fitsLedger 0 = .ok (.aload_n 0, 1) := by decide +kernel
theorem dX6_fitsLedger_1 : decode cX6_fitsLedger 1 = .ok (.getfield 38, 3) := by decide +kernel
theorem dX6_fitsLedger_4 : decode cX6_fitsLedger 4 = .ok (.iload_n 1, 1) := by decide +kernel
theorem dX6_fitsLedger_5 : decode cX6_fitsLedger 5 = .ok (.iload_n 2, 1) := by decide +kernel
theorem dX6_fitsLedger_6 : decode cX6_fitsLedger 6 = .ok (.aload_n 0, 1) := by decide +kernel
theorem dX6_fitsLedger_7 : decode cX6_fitsLedger 7 = .ok (.getfield 31, 3) := by decide +kernel
theorem dX6_fitsLedger_10 : decode cX6_fitsLedger 10 = .ok (.getfield 132, 3) := by decide +kernel
theorem dX6_fitsLedger_13 : decode cX6_fitsLedger 13 = .ok (.bipush 40, 2) := by decide +kernel
theorem dX6_fitsLedger_15 : decode cX6_fitsLedger 15 = .ok (.invokevirtual 204, 3) := by decide +kernel
theorem dX6_fitsLedger_18 : decode cX6_fitsLedger 18 = .ok (.aload_n 0, 1) := by decide +kernel
theorem dX6_fitsLedger_19 : decode cX6_fitsLedger 19 = .ok (.getfield 14, 3) := by decide +kernel
theorem dX6_fitsLedger_22 : decode cX6_fitsLedger 22 = .ok (.iload_n 3, 1) := by decide +kernel
theorem dX6_fitsLedger_23 : decode cX6_fitsLedger 23 = .ok (.invokevirtual 96, 3) := by decide +kernel
theorem dX6_fitsLedger_26 : decode cX6_fitsLedger 26 = .ok (.istore 4, 2) := by decide +kernel
theorem dX6_fitsLedger_28 : decode cX6_fitsLedger 28 = .ok (.iconst 0, 1) := by decide +kernel
theorem dX6_fitsLedger_29 : decode cX6_fitsLedger 29 = .ok (.istore 5, 2) := by decide +kernel
theorem dX6_fitsLedger_31 : decode cX6_fitsLedger 31 = .ok (.iload 5, 2) := by decide +kernel
theorem dX6_fitsLedger_33 : decode cX6_fitsLedger 33 = .ok (.iconst 1, 1) := by decide +kernel
theorem dX6_fitsLedger_34 : decode cX6_fitsLedger 34 = .ok (.iadd, 1) := by decide +kernel
theorem dX6_fitsLedger_35 : decode cX6_fitsLedger 35 = .ok (.iload 4, 2) := by decide +kernel
theorem dX6_fitsLedger_37 : decode cX6_fitsLedger 37 = .ok (.if_icmp .ge 43, 3) := by decide +kernel
theorem dX6_fitsLedger_40 : decode cX6_fitsLedger 40 = .ok (.aload_n 0, 1) := by decide +kernel
theorem dX6_fitsLedger_41 : decode cX6_fitsLedger 41 = .ok (.getfield 38, 3) := by decide +kernel
theorem dX6_fitsLedger_44 : decode cX6_fitsLedger 44 = .ok (.aload_n 0, 1) := by decide +kernel
theorem dX6_fitsLedger_45 : decode cX6_fitsLedger 45 = .ok (.getfield 14, 3) := by decide +kernel
theorem dX6_fitsLedger_48 : decode cX6_fitsLedger 48 = .ok (.iload_n 3, 1) := by decide +kernel
theorem dX6_fitsLedger_49 : decode cX6_fitsLedger 49 = .ok (.iload 5, 2) := by decide +kernel
theorem dX6_fitsLedger_51 : decode cX6_fitsLedger 51 = .ok (.invokevirtual 57, 3) := by decide +kernel
theorem dX6_fitsLedger_54 : decode cX6_fitsLedger 54 = .ok (.invokevirtual 195, 3) := by decide +kernel
theorem dX6_fitsLedger_57 : decode cX6_fitsLedger 57 = .ok (.aload_n 0, 1) := by decide +kernel
theorem dX6_fitsLedger_58 : decode cX6_fitsLedger 58 = .ok (.getfield 14, 3) := by decide +kernel
theorem dX6_fitsLedger_61 : decode cX6_fitsLedger 61 = .ok (.iload_n 3, 1) := by decide +kernel
theorem dX6_fitsLedger_62 : decode cX6_fitsLedger 62 = .ok (.iload 5, 2) := by decide +kernel
theorem dX6_fitsLedger_64 : decode cX6_fitsLedger 64 = .ok (.iconst 1, 1) := by decide +kernel
theorem dX6_fitsLedger_65 : decode cX6_fitsLedger 65 = .ok (.iadd, 1) := by decide +kernel
theorem dX6_fitsLedger_66 : decode cX6_fitsLedger 66 = .ok (.invokevirtual 57, 3) := by decide +kernel
theorem dX6_fitsLedger_69 : decode cX6_fitsLedger 69 = .ok (.if_icmp .eq 5, 3) := by decide +kernel
theorem dX6_fitsLedger_72 : decode cX6_fitsLedger 72 = .ok (.iconst 0, 1) := by decide +kernel
theorem dX6_fitsLedger_73 : decode cX6_fitsLedger 73 = .ok (.ireturn, 1) := by decide +kernel
theorem dX6_fitsLedger_74 : decode cX6_fitsLedger 74 = .ok (.iinc 5 2, 3) := by decide +kernel
theorem dX6_fitsLedger_77 : decode cX6_fitsLedger 77 = .ok (.goto (-46), 3) := by decide +kernel
theorem dX6_fitsLedger_80 : decode cX6_fitsLedger 80 = .ok (.iconst 1, 1) := by decide +kernel
theorem dX6_fitsLedger_81 : decode cX6_fitsLedger 81 = .ok (.ireturn, 1) := by decide +kernel
set_option maxHeartbeats 200000 in
theorem bX6_fitsLedger_0 {S : pv_S} {x1 x2 x3 : Int32} {a4 a5 : Option Value} : pv_R mX6_fitsLedger 0 [some (.ref 0), some (.int x1), some (.int x2), some (.int x3), a4, a5] [] (pv_em S) = pv_cc (pv_R mX1_fill 0 [some (.ref 32), some (.int x1), some (.int x2), some (.int (S.1 21 9)), some (.int 40), none] [] (pv_em S)) mX6_fitsLedger 18 [some (.ref 0), some (.int x1), some (.int x2), some (.int x3), a4, a5] [] := Eq.trans (pv_Rstp dX6_fitsLedger_0 rfl rfl rfl) (Eq.trans (pv_Rget dX6_fitsLedger_1 ffX6_38 (by decide) (pv_ce_0 _ _) rfl) (Eq.trans (pv_Rstp dX6_fitsLedger_4 rfl rfl rfl) (Eq.trans (pv_Rstp dX6_fitsLedger_5 rfl rfl rfl) (Eq.trans (pv_Rstp dX6_fitsLedger_6 rfl rfl rfl) (Eq.trans (pv_Rget dX6_fitsLedger_7 ffX6_31 (by decide) (pv_ce_0 _ _) rfl) (Eq.trans (pv_Rget dX6_fitsLedger_10 ffX6_132 (by decide) (pv_ce_21 _ _) rfl) (Eq.trans (pv_Rbp dX6_fitsLedger_13 kb_40) (pv_Rcall (As := [.ref 32, .int x1, .int x2, .int (S.1 21 9), .int 40]) (rest := []) dX6_fitsLedger_15 rfl mfX6_204 rfl rfl rfl rfl rfl))))))))
set_option maxHeartbeats 200000 in
theorem bX6_fitsLedger_18 {S : pv_S} {x1 x2 x3 : Int32} {a4 a5 : Option Value} : pv_R mX6_fitsLedger 18 [some (.ref 0), some (.int x1), some (.int x2), some (.int x3), a4, a5] [] (pv_em S) = pv_cc (pv_R mX3_sizeOf 0 [some (.ref 1), some (.int x3)] [] (pv_em S)) mX6_fitsLedger 26 [some (.ref 0), some (.int x1), some (.int x2), some (.int x3), a4, a5] [] := Eq.trans (pv_Rstp dX6_fitsLedger_18 rfl rfl rfl) (Eq.trans (pv_Rget dX6_fitsLedger_19 ffX6_14 (by decide) (pv_ce_0 _ _) rfl) (Eq.trans (pv_Rstp dX6_fitsLedger_22 rfl rfl rfl) (pv_Rcall (As := [.ref 1, .int x3]) (rest := []) dX6_fitsLedger_23 rfl mfX6_96 rfl rfl rfl rfl rfl)))
set_option maxHeartbeats 200000 in
theorem bX6_fitsLedger_26 {S : pv_S} {x1 x2 x3 u0 : Int32} {a4 a5 : Option Value} : pv_R mX6_fitsLedger 26 [some (.ref 0), some (.int x1), some (.int x2), some (.int x3), a4, a5] [.int u0] (pv_em S) = pv_R mX6_fitsLedger 31 [some (.ref 0), some (.int x1), some (.int x2), some (.int x3), some (.int u0), some (.int 0)] [] (pv_em S) := Eq.trans (pv_Rstp dX6_fitsLedger_26 rfl rfl rfl) (Eq.trans (pv_Ric dX6_fitsLedger_28 ki_0) (pv_Rstp dX6_fitsLedger_29 rfl rfl rfl))
set_option maxHeartbeats 200000 in
theorem bX6_fitsLedger_31 {S : pv_S} {x1 x2 x3 x4 x5 : Int32} : pv_R mX6_fitsLedger 31 [some (.ref 0), some (.int x1), some (.int x2), some (.int x3), some (.int x4), some (.int x5)] [] (pv_em S) = if x4 ≤ (x5 + 1) then pv_R mX6_fitsLedger 80 [some (.ref 0), some (.int x1), some (.int x2), some (.int x3), some (.int x4), some (.int x5)] [] (pv_em S) else pv_R mX6_fitsLedger 40 [some (.ref 0), some (.int x1), some (.int x2), some (.int x3), some (.int x4), some (.int x5)] [] (pv_em S) := Eq.trans (pv_Rstp dX6_fitsLedger_31 rfl rfl rfl) (Eq.trans (pv_Ric dX6_fitsLedger_33 ki_1) (Eq.trans (pv_Rstp dX6_fitsLedger_34 rfl rfl rfl) (Eq.trans (pv_Rstp dX6_fitsLedger_35 rfl rfl rfl) (pv_Rbr (tgt := 80) dX6_fitsLedger_37 rfl rfl rfl rfl rfl (by decide)))))
set_option maxHeartbeats 200000 in
theorem bX6_fitsLedger_40 {S : pv_S} {x1 x2 x3 x4 x5 : Int32} : pv_R mX6_fitsLedger 40 [some (.ref 0), some (.int x1), some (.int x2), some (.int x3), some (.int x4), some (.int x5)] [] (pv_em S) = pv_cc (pv_R mX3_get 0 [some (.ref 1), some (.int x3), some (.int x5)] [] (pv_em S)) mX6_fitsLedger 54 [some (.ref 0), some (.int x1), some (.int x2), some (.int x3), some (.int x4), some (.int x5)] [.ref 32] := Eq.trans (pv_Rstp dX6_fitsLedger_40 rfl rfl rfl) (Eq.trans (pv_Rget dX6_fitsLedger_41 ffX6_38 (by decide) (pv_ce_0 _ _) rfl) (Eq.trans (pv_Rstp dX6_fitsLedger_44 rfl rfl rfl) (Eq.trans (pv_Rget dX6_fitsLedger_45 ffX6_14 (by decide) (pv_ce_0 _ _) rfl) (Eq.trans (pv_Rstp dX6_fitsLedger_48 rfl rfl rfl) (Eq.trans (pv_Rstp dX6_fitsLedger_49 rfl rfl rfl) (pv_Rcall (As := [.ref 1, .int x3, .int x5]) (rest := [.ref 32]) dX6_fitsLedger_51 rfl mfX6_57 rfl rfl rfl rfl rfl))))))
set_option maxHeartbeats 200000 in
theorem bX6_fitsLedger_54 {S : pv_S} {x1 x2 x3 x4 x5 u0 : Int32} : pv_R mX6_fitsLedger 54 [some (.ref 0), some (.int x1), some (.int x2), some (.int x3), some (.int x4), some (.int x5)] [.int u0, .ref 32] (pv_em S) = pv_cc (pv_R mX1_weightIn 0 [some (.ref 32), some (.int u0)] [] (pv_em S)) mX6_fitsLedger 57 [some (.ref 0), some (.int x1), some (.int x2), some (.int x3), some (.int x4), some (.int x5)] [] := pv_Rcall (As := [.ref 32, .int u0]) (rest := []) dX6_fitsLedger_54 rfl mfX6_195 rfl rfl rfl rfl rfl
set_option maxHeartbeats 200000 in
theorem bX6_fitsLedger_57 {S : pv_S} {x1 x2 x3 x4 x5 u0 : Int32} : pv_R mX6_fitsLedger 57 [some (.ref 0), some (.int x1), some (.int x2), some (.int x3), some (.int x4), some (.int x5)] [.int u0] (pv_em S) = pv_cc (pv_R mX3_get 0 [some (.ref 1), some (.int x3), some (.int (x5 + 1))] [] (pv_em S)) mX6_fitsLedger 69 [some (.ref 0), some (.int x1), some (.int x2), some (.int x3), some (.int x4), some (.int x5)] [.int u0] := Eq.trans (pv_Rstp dX6_fitsLedger_57 rfl rfl rfl) (Eq.trans (pv_Rget dX6_fitsLedger_58 ffX6_14 (by decide) (pv_ce_0 _ _) rfl) (Eq.trans (pv_Rstp dX6_fitsLedger_61 rfl rfl rfl) (Eq.trans (pv_Rstp dX6_fitsLedger_62 rfl rfl rfl) (Eq.trans (pv_Ric dX6_fitsLedger_64 ki_1) (Eq.trans (pv_Rstp dX6_fitsLedger_65 rfl rfl rfl) (pv_Rcall (As := [.ref 1, .int x3, .int (x5 + 1)]) (rest := [.int u0]) dX6_fitsLedger_66 rfl mfX6_57 rfl rfl rfl rfl rfl))))))
set_option maxHeartbeats 200000 in
theorem bX6_fitsLedger_69 {S : pv_S} {x1 x2 x3 x4 x5 u0 u1 : Int32} : pv_R mX6_fitsLedger 69 [some (.ref 0), some (.int x1), some (.int x2), some (.int x3), some (.int x4), some (.int x5)] [.int u0, .int u1] (pv_em S) = if u1 = u0 then pv_R mX6_fitsLedger 74 [some (.ref 0), some (.int x1), some (.int x2), some (.int x3), some (.int x4), some (.int x5)] [] (pv_em S) else pv_R mX6_fitsLedger 72 [some (.ref 0), some (.int x1), some (.int x2), some (.int x3), some (.int x4), some (.int x5)] [] (pv_em S) := pv_Rbr (tgt := 74) dX6_fitsLedger_69 rfl rfl rfl rfl rfl (by decide)
set_option maxHeartbeats 200000 in
theorem bX6_fitsLedger_72 {S : pv_S} {x1 x2 x3 x4 x5 : Int32} : pv_R mX6_fitsLedger 72 [some (.ref 0), some (.int x1), some (.int x2), some (.int x3), some (.int x4), some (.int x5)] [] (pv_em S) = some (some (.int 0), pv_em S) := Eq.trans (pv_Ric dX6_fitsLedger_72 ki_0) (pv_Rret dX6_fitsLedger_73 rfl)
set_option maxHeartbeats 200000 in
theorem bX6_fitsLedger_74 {S : pv_S} {x1 x2 x3 x4 x5 : Int32} : pv_R mX6_fitsLedger 74 [some (.ref 0), some (.int x1), some (.int x2), some (.int x3), some (.int x4), some (.int x5)] [] (pv_em S) = pv_R mX6_fitsLedger 31 [some (.ref 0), some (.int x1), some (.int x2), some (.int x3), some (.int x4), some (.int (x5 + 2))] [] (pv_em S) := Eq.trans (pv_Rinc dX6_fitsLedger_74 rfl (Nat.le_of_ble_eq_true rfl) ki_2 rfl) (pv_Rgo (tgt := 31) dX6_fitsLedger_77 rfl (by decide))
set_option maxHeartbeats 200000 in
theorem bX6_fitsLedger_80 {S : pv_S} {x1 x2 x3 x4 x5 : Int32} : pv_R mX6_fitsLedger 80 [some (.ref 0), some (.int x1), some (.int x2), some (.int x3), some (.int x4), some (.int x5)] [] (pv_em S) = some (some (.int 1), pv_em S) := Eq.trans (pv_Ric dX6_fitsLedger_80 ki_1) (pv_Rret dX6_fitsLedger_81 rfl)
theorem dX6_shareOf_0 : decode cX6_shareOf 0 = .ok (.lconst 1, 1) := by decide +kernel
theorem dX6_shareOf_1 : decode cX6_shareOf 1 = .ok (.lstore 4, 2) := by decide +kernel
theorem dX6_shareOf_3 : decode cX6_shareOf 3 = .ok (.iconst 0, 1) := by decide +kernel
theorem dX6_shareOf_4 : decode cX6_shareOf 4 = .ok (.istore 6, 2) := by decide +kernel
theorem dX6_shareOf_6 : decode cX6_shareOf 6 = .ok (.iload 6, 2) := by decide +kernel
theorem dX6_shareOf_8 : decode cX6_shareOf 8 = .ok (.iload_n 2, 1) := by decide +kernel
theorem dX6_shareOf_9 : decode cX6_shareOf 9 = .ok (.if_icmp .ge 58, 3) := by decide +kernel
theorem dX6_shareOf_12 : decode cX6_shareOf 12 = .ok (.aload_n 0, 1) := by decide +kernel
theorem dX6_shareOf_13 : decode cX6_shareOf 13 = .ok (.getfield 31, 3) := by decide +kernel
theorem dX6_shareOf_16 : decode cX6_shareOf 16 = .ok (.getfield 132, 3) := by decide +kernel
theorem dX6_shareOf_19 : decode cX6_shareOf 19 = .ok (.iload 6, 2) := by decide +kernel
theorem dX6_shareOf_21 : decode cX6_shareOf 21 = .ok (.iadd, 1) := by decide +kernel
theorem dX6_shareOf_22 : decode cX6_shareOf 22 = .ok (.invokestatic 135, 3) := by decide +kernel
theorem dX6_shareOf_25 : decode cX6_shareOf 25 = .ok (.ifCond .eq 7, 3) := by decide +kernel
theorem dX6_shareOf_28 : decode cX6_shareOf 28 = .ok (.iload_n 3, 1) := by decide +kernel
theorem dX6_shareOf_29 : decode cX6_shareOf 29 = .ok (.goto 4, 3) := by decide +kernel
theorem dX6_shareOf_32 : decode cX6_shareOf 32 = .ok (.iconst 0, 1) := by decide +kernel
theorem dX6_shareOf_33 : decode cX6_shareOf 33 = .ok (.istore 7, 2) := by decide +kernel
theorem dX6_shareOf_35 : decode cX6_shareOf 35 = .ok (.lload 4, 2) := by decide +kernel
theorem dX6_shareOf_37 : decode cX6_shareOf 37 = .ok (.iload_n 1, 1) := by decide +kernel
theorem dX6_shareOf_38 : decode cX6_shareOf 38 = .ok (.iload 6, 2) := by decide +kernel
theorem dX6_shareOf_40 : decode cX6_shareOf 40 = .ok (.ishr, 1) := by decide +kernel
theorem dX6_shareOf_41 : decode cX6_shareOf 41 = .ok (.iconst 1, 1) := by decide +kernel
theorem dX6_shareOf_42 : decode cX6_shareOf 42 = .ok (.iand, 1) := by decide +kernel
theorem dX6_shareOf_43 : decode cX6_shareOf 43 = .ok (.ifCond .eq 9, 3) := by decide +kernel
theorem dX6_shareOf_46 : decode cX6_shareOf 46 = .ok (.iload 7, 2) := by decide +kernel
theorem dX6_shareOf_48 : decode cX6_shareOf 48 = .ok (.i2l, 1) := by decide +kernel
theorem dX6_shareOf_49 : decode cX6_shareOf 49 = .ok (.goto 9, 3) := by decide +kernel
theorem dX6_shareOf_52 : decode cX6_shareOf 52 = .ok (.bipush 12, 2) := by decide +kernel
theorem dX6_shareOf_54 : decode cX6_shareOf 54 = .ok (.iload 7, 2) := by decide +kernel
theorem dX6_shareOf_56 : decode cX6_shareOf 56 = .ok (.isub, 1) := by decide +kernel
theorem dX6_shareOf_57 : decode cX6_shareOf 57 = .ok (.i2l, 1) := by decide +kernel
theorem dX6_shareOf_58 : decode cX6_shareOf 58 = .ok (.lmul, 1) := by decide +kernel
theorem dX6_shareOf_59 : decode cX6_shareOf 59 = .ok (.lstore 4, 2) := by decide +kernel
theorem dX6_shareOf_61 : decode cX6_shareOf 61 = .ok (.iinc 6 1, 3) := by decide +kernel
theorem dX6_shareOf_64 : decode cX6_shareOf 64 = .ok (.goto (-58), 3) := by decide +kernel
theorem dX6_shareOf_67 : decode cX6_shareOf 67 = .ok (.lload 4, 2) := by decide +kernel
theorem dX6_shareOf_69 : decode cX6_shareOf 69 = .ok (.lreturn, 1) := by decide +kernel
set_option maxHeartbeats 200000 in
theorem bX6_shareOf_0 {S : pv_S} {x1 x2 x3 : Int32} {a4 a5 a6 a7 : Option Value} : pv_R mX6_shareOf 0 [some (.ref 0), some (.int x1), some (.int x2), some (.int x3), a4, a5, a6, a7] [] (pv_em S) = pv_R mX6_shareOf 6 [some (.ref 0), some (.int x1), some (.int x2), some (.int x3), some (.long 1), none, some (.int 0), a7] [] (pv_em S) := Eq.trans (pv_Rlc dX6_shareOf_0 kl_1) (Eq.trans (pv_Rstp dX6_shareOf_1 rfl rfl rfl) (Eq.trans (pv_Ric dX6_shareOf_3 ki_0) (pv_Rstp dX6_shareOf_4 rfl rfl rfl)))
set_option maxHeartbeats 200000 in
theorem bX6_shareOf_6 {S : pv_S} {x1 x2 x3 x6 : Int32} {x4 : Int64} {a5 a7 : Option Value} : pv_R mX6_shareOf 6 [some (.ref 0), some (.int x1), some (.int x2), some (.int x3), some (.long x4), a5, some (.int x6), a7] [] (pv_em S) = if x2 ≤ x6 then pv_R mX6_shareOf 67 [some (.ref 0), some (.int x1), some (.int x2), some (.int x3), some (.long x4), a5, some (.int x6), a7] [] (pv_em S) else pv_R mX6_shareOf 12 [some (.ref 0), some (.int x1), some (.int x2), some (.int x3), some (.long x4), a5, some (.int x6), a7] [] (pv_em S) := Eq.trans (pv_Rstp dX6_shareOf_6 rfl rfl rfl) (Eq.trans (pv_Rstp dX6_shareOf_8 rfl rfl rfl) (pv_Rbr (tgt := 67) dX6_shareOf_9 rfl rfl rfl rfl rfl (by decide)))
set_option maxHeartbeats 200000 in
theorem bX6_shareOf_12 {S : pv_S} {x1 x2 x3 x6 : Int32} {x4 : Int64} {a5 a7 : Option Value} : pv_R mX6_shareOf 12 [some (.ref 0), some (.int x1), some (.int x2), some (.int x3), some (.long x4), a5, some (.int x6), a7] [] (pv_em S) = pv_cc (pv_R mX0_hasMice 0 [some (.int ((S.1 21 9) + x6))] [] (pv_em S)) mX6_shareOf 25 [some (.ref 0), some (.int x1), some (.int x2), some (.int x3), some (.long x4), a5, some (.int x6), a7] [] := Eq.trans (pv_Rstp dX6_shareOf_12 rfl rfl rfl) (Eq.trans (pv_Rget dX6_shareOf_13 ffX6_31 (by decide) (pv_ce_0 _ _) rfl) (Eq.trans (pv_Rget dX6_shareOf_16 ffX6_132 (by decide) (pv_ce_21 _ _) rfl) (Eq.trans (pv_Rstp dX6_shareOf_19 rfl rfl rfl) (Eq.trans (pv_Rstp dX6_shareOf_21 rfl rfl rfl) (pv_Rcall (As := [.int ((S.1 21 9) + x6)]) (rest := []) dX6_shareOf_22 rfl mfX6_135 rfl rfl rfl rfl rfl)))))
set_option maxHeartbeats 200000 in
theorem bX6_shareOf_25 {S : pv_S} {x1 x2 x3 x6 u0 : Int32} {x4 : Int64} {a5 a7 : Option Value} : pv_R mX6_shareOf 25 [some (.ref 0), some (.int x1), some (.int x2), some (.int x3), some (.long x4), a5, some (.int x6), a7] [.int u0] (pv_em S) = if u0 = 0 then pv_R mX6_shareOf 32 [some (.ref 0), some (.int x1), some (.int x2), some (.int x3), some (.long x4), a5, some (.int x6), a7] [] (pv_em S) else pv_R mX6_shareOf 28 [some (.ref 0), some (.int x1), some (.int x2), some (.int x3), some (.long x4), a5, some (.int x6), a7] [] (pv_em S) := pv_Rbr (tgt := 32) dX6_shareOf_25 rfl rfl rfl rfl rfl (by decide)
set_option maxHeartbeats 200000 in
theorem bX6_shareOf_28 {S : pv_S} {x1 x2 x3 x6 : Int32} {x4 : Int64} {a5 a7 : Option Value} : pv_R mX6_shareOf 28 [some (.ref 0), some (.int x1), some (.int x2), some (.int x3), some (.long x4), a5, some (.int x6), a7] [] (pv_em S) = pv_R mX6_shareOf 33 [some (.ref 0), some (.int x1), some (.int x2), some (.int x3), some (.long x4), a5, some (.int x6), a7] [.int x3] (pv_em S) := Eq.trans (pv_Rstp dX6_shareOf_28 rfl rfl rfl) (pv_Rgo (tgt := 33) dX6_shareOf_29 rfl (by decide))
set_option maxHeartbeats 200000 in
theorem bX6_shareOf_32 {S : pv_S} {x1 x2 x3 x6 : Int32} {x4 : Int64} {a5 a7 : Option Value} : pv_R mX6_shareOf 32 [some (.ref 0), some (.int x1), some (.int x2), some (.int x3), some (.long x4), a5, some (.int x6), a7] [] (pv_em S) = pv_R mX6_shareOf 33 [some (.ref 0), some (.int x1), some (.int x2), some (.int x3), some (.long x4), a5, some (.int x6), a7] [.int 0] (pv_em S) := pv_Ric dX6_shareOf_32 ki_0
set_option maxHeartbeats 200000 in
theorem bX6_shareOf_33 {S : pv_S} {x1 x2 x3 x6 u0 : Int32} {x4 : Int64} {a5 a7 : Option Value} : pv_R mX6_shareOf 33 [some (.ref 0), some (.int x1), some (.int x2), some (.int x3), some (.long x4), a5, some (.int x6), a7] [.int u0] (pv_em S) = if ((x1 >>> (x6 &&& 31)) &&& 1) = 0 then pv_R mX6_shareOf 52 [some (.ref 0), some (.int x1), some (.int x2), some (.int x3), some (.long x4), a5, some (.int x6), some (.int u0)] [.long x4] (pv_em S) else pv_R mX6_shareOf 46 [some (.ref 0), some (.int x1), some (.int x2), some (.int x3), some (.long x4), a5, some (.int x6), some (.int u0)] [.long x4] (pv_em S) := Eq.trans (pv_Rstp dX6_shareOf_33 rfl rfl rfl) (Eq.trans (pv_Rstp dX6_shareOf_35 rfl rfl rfl) (Eq.trans (pv_Rstp dX6_shareOf_37 rfl rfl rfl) (Eq.trans (pv_Rstp dX6_shareOf_38 rfl rfl rfl) (Eq.trans (pv_Rstp dX6_shareOf_40 rfl rfl rfl) (Eq.trans (pv_Ric dX6_shareOf_41 ki_1) (Eq.trans (pv_Rstp dX6_shareOf_42 rfl rfl rfl) (pv_Rbr (tgt := 52) dX6_shareOf_43 rfl rfl rfl rfl rfl (by decide))))))))
set_option maxHeartbeats 200000 in
theorem bX6_shareOf_46 {S : pv_S} {x1 x2 x3 x6 x7 : Int32} {x4 u0 : Int64} {a5 : Option Value} : pv_R mX6_shareOf 46 [some (.ref 0), some (.int x1), some (.int x2), some (.int x3), some (.long x4), a5, some (.int x6), some (.int x7)] [.long u0] (pv_em S) = pv_R mX6_shareOf 58 [some (.ref 0), some (.int x1), some (.int x2), some (.int x3), some (.long x4), a5, some (.int x6), some (.int x7)] [.long (Int32.toInt64 x7), .long u0] (pv_em S) := Eq.trans (pv_Rstp dX6_shareOf_46 rfl rfl rfl) (Eq.trans (pv_Rstp dX6_shareOf_48 rfl rfl rfl) (pv_Rgo (tgt := 58) dX6_shareOf_49 rfl (by decide)))
set_option maxHeartbeats 200000 in
theorem bX6_shareOf_52 {S : pv_S} {x1 x2 x3 x6 x7 : Int32} {x4 u0 : Int64} {a5 : Option Value} : pv_R mX6_shareOf 52 [some (.ref 0), some (.int x1), some (.int x2), some (.int x3), some (.long x4), a5, some (.int x6), some (.int x7)] [.long u0] (pv_em S) = pv_R mX6_shareOf 58 [some (.ref 0), some (.int x1), some (.int x2), some (.int x3), some (.long x4), a5, some (.int x6), some (.int x7)] [.long (Int32.toInt64 (12 - x7)), .long u0] (pv_em S) := Eq.trans (pv_Rbp dX6_shareOf_52 kb_12) (Eq.trans (pv_Rstp dX6_shareOf_54 rfl rfl rfl) (Eq.trans (pv_Rstp dX6_shareOf_56 rfl rfl rfl) (pv_Rstp dX6_shareOf_57 rfl rfl rfl)))
set_option maxHeartbeats 200000 in
theorem bX6_shareOf_58 {S : pv_S} {x1 x2 x3 x6 x7 : Int32} {x4 u0 u1 : Int64} {a5 : Option Value} : pv_R mX6_shareOf 58 [some (.ref 0), some (.int x1), some (.int x2), some (.int x3), some (.long x4), a5, some (.int x6), some (.int x7)] [.long u0, .long u1] (pv_em S) = pv_R mX6_shareOf 6 [some (.ref 0), some (.int x1), some (.int x2), some (.int x3), some (.long (u1 * u0)), none, some (.int (x6 + 1)), some (.int x7)] [] (pv_em S) := Eq.trans (pv_Rstp dX6_shareOf_58 rfl rfl rfl) (Eq.trans (pv_Rstp dX6_shareOf_59 rfl rfl rfl) (Eq.trans (pv_Rinc dX6_shareOf_61 rfl (Nat.le_of_ble_eq_true rfl) ki_1 rfl) (pv_Rgo (tgt := 6) dX6_shareOf_64 rfl (by decide))))
set_option maxHeartbeats 200000 in
theorem bX6_shareOf_67 {S : pv_S} {x1 x2 x3 x6 : Int32} {x4 : Int64} {a5 a7 : Option Value} : pv_R mX6_shareOf 67 [some (.ref 0), some (.int x1), some (.int x2), some (.int x3), some (.long x4), a5, some (.int x6), a7] [] (pv_em S) = some (some (.long x4), pv_em S) := Eq.trans (pv_Rstp dX6_shareOf_67 rfl rfl rfl) (pv_Rret dX6_shareOf_69 rfl)
theorem dX6_weightByMice_0 : decode cX6_weightByMice 0 = .ok (.aload_n 0, 1) := by decide +kernel
theorem dX6_weightByMice_1 : decode cX6_weightByMice 1 = .ok (.getfield 31, 3) := by decide +kernel
theorem dX6_weightByMice_4 : decode cX6_weightByMice 4 = .ok (.getfield 162, 3) := by decide +kernel
theorem dX6_weightByMice_7 : decode cX6_weightByMice 7 = .ok (.iload_n 1, 1) := by decide +kernel
theorem dX6_weightByMice_8 : decode cX6_weightByMice 8 = .ok (.iaload, 1) := by decide +kernel
theorem dX6_weightByMice_9 : decode cX6_weightByMice 9 = .ok (.istore 4, 2) := by decide +kernel
theorem dX6_weightByMice_11 : decode cX6_weightByMice 11 = .ok (.iconst 0, 1) := by decide +kernel
theorem dX6_weightByMice_12 : decode cX6_weightByMice 12 = .ok (.istore 5, 2) := by decide +kernel
theorem dX6_weightByMice_14 : decode cX6_weightByMice 14 = .ok (.iload 5, 2) := by decide +kernel
theorem dX6_weightByMice_16 : decode cX6_weightByMice 16 = .ok (.iload_n 2, 1) := by decide +kernel
theorem dX6_weightByMice_17 : decode cX6_weightByMice 17 = .ok (.if_icmp .ge 72, 3) := by decide +kernel
theorem dX6_weightByMice_20 : decode cX6_weightByMice 20 = .ok (.aload_n 0, 1) := by decide +kernel
theorem dX6_weightByMice_21 : decode cX6_weightByMice 21 = .ok (.getfield 31, 3) := by decide +kernel
theorem dX6_weightByMice_24 : decode cX6_weightByMice 24 = .ok (.getfield 122, 3) := by decide +kernel
theorem dX6_weightByMice_27 : decode cX6_weightByMice 27 = .ok (.iload_n 1, 1) := by decide +kernel
theorem dX6_weightByMice_28 : decode cX6_weightByMice 28 = .ok (.iaload, 1) := by decide +kernel
theorem dX6_weightByMice_29 : decode cX6_weightByMice 29 = .ok (.istore 6, 2) := by decide +kernel
theorem dX6_weightByMice_31 : decode cX6_weightByMice 31 = .ok (.iload_n 3, 1) := by decide +kernel
theorem dX6_weightByMice_32 : decode cX6_weightByMice 32 = .ok (.iload 5, 2) := by decide +kernel
theorem dX6_weightByMice_34 : decode cX6_weightByMice 34 = .ok (.ishr, 1) := by decide +kernel
theorem dX6_weightByMice_35 : decode cX6_weightByMice 35 = .ok (.iconst 1, 1) := by decide +kernel
theorem dX6_weightByMice_36 : decode cX6_weightByMice 36 = .ok (.iand, 1) := by decide +kernel
theorem dX6_weightByMice_37 : decode cX6_weightByMice 37 = .ok (.ifCond .eq 7, 3) := by decide +kernel
theorem dX6_weightByMice_40 : decode cX6_weightByMice 40 = .ok (.iconst 1, 1) := by decide +kernel
theorem dX6_weightByMice_41 : decode cX6_weightByMice 41 = .ok (.goto 4, 3) := by decide +kernel
theorem dX6_weightByMice_44 : decode cX6_weightByMice 44 = .ok (.iconst 0, 1) := by decide +kernel
theorem dX6_weightByMice_45 : decode cX6_weightByMice 45 = .ok (.istore 7, 2) := by decide +kernel
theorem dX6_weightByMice_47 : decode cX6_weightByMice 47 = .ok (.iload 7, 2) := by decide +kernel
theorem dX6_weightByMice_49 : decode cX6_weightByMice 49 = .ok (.ifCond .eq 15, 3) := by decide +kernel
theorem dX6_weightByMice_52 : decode cX6_weightByMice 52 = .ok (.iload 6, 2) := by decide +kernel
theorem dX6_weightByMice_54 : decode cX6_weightByMice 54 = .ok (.iconst 1, 1) := by decide +kernel
theorem dX6_weightByMice_55 : decode cX6_weightByMice 55 = .ok (.invokestatic 126, 3) := by decide +kernel
theorem dX6_weightByMice_58 : decode cX6_weightByMice 58 = .ok (.ifCond .eq 6, 3) := by decide +kernel
theorem dX6_weightByMice_61 : decode cX6_weightByMice 61 = .ok (.iconst 0, 1) := by decide +kernel
theorem dX6_weightByMice_62 : decode cX6_weightByMice 62 = .ok (.istore 6, 2) := by decide +kernel
theorem dX6_weightByMice_64 : decode cX6_weightByMice 64 = .ok (.iload 6, 2) := by decide +kernel
theorem dX6_weightByMice_66 : decode cX6_weightByMice 66 = .ok (.iload 4, 2) := by decide +kernel
theorem dX6_weightByMice_68 : decode cX6_weightByMice 68 = .ok (.aload_n 0, 1) := by decide +kernel
theorem dX6_weightByMice_69 : decode cX6_weightByMice 69 = .ok (.getfield 31, 3) := by decide +kernel
theorem dX6_weightByMice_72 : decode cX6_weightByMice 72 = .ok (.getfield 132, 3) := by decide +kernel
theorem dX6_weightByMice_75 : decode cX6_weightByMice 75 = .ok (.iload 5, 2) := by decide +kernel
theorem dX6_weightByMice_77 : decode cX6_weightByMice 77 = .ok (.iadd, 1) := by decide +kernel
theorem dX6_weightByMice_78 : decode cX6_weightByMice 78 = .ok (.invokestatic 278, 3) := by decide +kernel
theorem dX6_weightByMice_81 : decode cX6_weightByMice 81 = .ok (.istore 4, 2) := by decide +kernel
theorem dX6_weightByMice_83 : decode cX6_weightByMice 83 = .ok (.iinc 5 1, 3) := by decide +kernel
theorem dX6_weightByMice_86 : decode cX6_weightByMice 86 = .ok (.goto (-72), 3) := by decide +kernel
theorem dX6_weightByMice_89 : decode cX6_weightByMice 89 = .ok (.iload 4, 2) := by decide +kernel
theorem dX6_weightByMice_91 : decode cX6_weightByMice 91 = .ok (.ireturn, 1) := by decide +kernel
set_option maxHeartbeats 200000 in
theorem bX6_weightByMice_0 {S : pv_S} {x1 x2 x3 : Int32} {a4 a5 a6 a7 : Option Value} : pv_R mX6_weightByMice 0 [some (.ref 0), some (.int x1), some (.int x2), some (.int x3), a4, a5, a6, a7] [] (pv_em S) = if x1 < 0 ∨ 6 ≤ x1.toNatClampNeg then none else pv_R mX6_weightByMice 14 [some (.ref 0), some (.int x1), some (.int x2), some (.int x3), some (.int (S.1 25 x1.toNatClampNeg)), some (.int 0), a6, a7] [] (pv_em S) := Eq.trans (pv_Rstp dX6_weightByMice_0 rfl rfl rfl) (Eq.trans (pv_Rget dX6_weightByMice_1 ffX6_31 (by decide) (pv_ce_0 _ _) rfl) (Eq.trans (pv_Rget dX6_weightByMice_4 ffX6_162 (by decide) (pv_ce_21 _ _) rfl) (Eq.trans (pv_Rstp dX6_weightByMice_7 rfl rfl rfl) (Eq.trans (pv_Rald dX6_weightByMice_8 (by decide) (pv_ce_25 _ _)) (pv_iteN (fun h1 => Eq.trans (pv_Rstp dX6_weightByMice_9 rfl rfl rfl) (Eq.trans (pv_Ric dX6_weightByMice_11 ki_0) (pv_Rstp dX6_weightByMice_12 rfl rfl rfl))))))))
set_option maxHeartbeats 200000 in
theorem bX6_weightByMice_14 {S : pv_S} {x1 x2 x3 x4 x5 : Int32} {a6 a7 : Option Value} : pv_R mX6_weightByMice 14 [some (.ref 0), some (.int x1), some (.int x2), some (.int x3), some (.int x4), some (.int x5), a6, a7] [] (pv_em S) = if x2 ≤ x5 then pv_R mX6_weightByMice 89 [some (.ref 0), some (.int x1), some (.int x2), some (.int x3), some (.int x4), some (.int x5), a6, a7] [] (pv_em S) else pv_R mX6_weightByMice 20 [some (.ref 0), some (.int x1), some (.int x2), some (.int x3), some (.int x4), some (.int x5), a6, a7] [] (pv_em S) := Eq.trans (pv_Rstp dX6_weightByMice_14 rfl rfl rfl) (Eq.trans (pv_Rstp dX6_weightByMice_16 rfl rfl rfl) (pv_Rbr (tgt := 89) dX6_weightByMice_17 rfl rfl rfl rfl rfl (by decide)))
set_option maxHeartbeats 200000 in
theorem bX6_weightByMice_20 {S : pv_S} {x1 x2 x3 x4 x5 : Int32} {a6 a7 : Option Value} : pv_R mX6_weightByMice 20 [some (.ref 0), some (.int x1), some (.int x2), some (.int x3), some (.int x4), some (.int x5), a6, a7] [] (pv_em S) = if x1 < 0 ∨ 6 ≤ x1.toNatClampNeg then none else if ((x3 >>> (x5 &&& 31)) &&& 1) = 0 then pv_R mX6_weightByMice 44 [some (.ref 0), some (.int x1), some (.int x2), some (.int x3), some (.int x4), some (.int x5), some (.int (S.1 22 x1.toNatClampNeg)), a7] [] (pv_em S) else pv_R mX6_weightByMice 40 [some (.ref 0), some (.int x1), some (.int x2), some (.int x3), some (.int x4), some (.int x5), some (.int (S.1 22 x1.toNatClampNeg)), a7] [] (pv_em S) := Eq.trans (pv_Rstp dX6_weightByMice_20 rfl rfl rfl) (Eq.trans (pv_Rget dX6_weightByMice_21 ffX6_31 (by decide) (pv_ce_0 _ _) rfl) (Eq.trans (pv_Rget dX6_weightByMice_24 ffX6_122 (by decide) (pv_ce_21 _ _) rfl) (Eq.trans (pv_Rstp dX6_weightByMice_27 rfl rfl rfl) (Eq.trans (pv_Rald dX6_weightByMice_28 (by decide) (pv_ce_22 _ _)) (pv_iteN (fun h1 => Eq.trans (pv_Rstp dX6_weightByMice_29 rfl rfl rfl) (Eq.trans (pv_Rstp dX6_weightByMice_31 rfl rfl rfl) (Eq.trans (pv_Rstp dX6_weightByMice_32 rfl rfl rfl) (Eq.trans (pv_Rstp dX6_weightByMice_34 rfl rfl rfl) (Eq.trans (pv_Ric dX6_weightByMice_35 ki_1) (Eq.trans (pv_Rstp dX6_weightByMice_36 rfl rfl rfl) (pv_Rbr (tgt := 44) dX6_weightByMice_37 rfl rfl rfl rfl rfl (by decide)))))))))))))
set_option maxHeartbeats 200000 in
theorem bX6_weightByMice_40 {S : pv_S} {x1 x2 x3 x4 x5 x6 : Int32} {a7 : Option Value} : pv_R mX6_weightByMice 40 [some (.ref 0), some (.int x1), some (.int x2), some (.int x3), some (.int x4), some (.int x5), some (.int x6), a7] [] (pv_em S) = pv_R mX6_weightByMice 45 [some (.ref 0), some (.int x1), some (.int x2), some (.int x3), some (.int x4), some (.int x5), some (.int x6), a7] [.int 1] (pv_em S) := Eq.trans (pv_Ric dX6_weightByMice_40 ki_1) (pv_Rgo (tgt := 45) dX6_weightByMice_41 rfl (by decide))
set_option maxHeartbeats 200000 in
theorem bX6_weightByMice_44 {S : pv_S} {x1 x2 x3 x4 x5 x6 : Int32} {a7 : Option Value} : pv_R mX6_weightByMice 44 [some (.ref 0), some (.int x1), some (.int x2), some (.int x3), some (.int x4), some (.int x5), some (.int x6), a7] [] (pv_em S) = pv_R mX6_weightByMice 45 [some (.ref 0), some (.int x1), some (.int x2), some (.int x3), some (.int x4), some (.int x5), some (.int x6), a7] [.int 0] (pv_em S) := pv_Ric dX6_weightByMice_44 ki_0
set_option maxHeartbeats 200000 in
theorem bX6_weightByMice_45 {S : pv_S} {x1 x2 x3 x4 x5 x6 u0 : Int32} {a7 : Option Value} : pv_R mX6_weightByMice 45 [some (.ref 0), some (.int x1), some (.int x2), some (.int x3), some (.int x4), some (.int x5), some (.int x6), a7] [.int u0] (pv_em S) = if u0 = 0 then pv_R mX6_weightByMice 64 [some (.ref 0), some (.int x1), some (.int x2), some (.int x3), some (.int x4), some (.int x5), some (.int x6), some (.int u0)] [] (pv_em S) else pv_R mX6_weightByMice 52 [some (.ref 0), some (.int x1), some (.int x2), some (.int x3), some (.int x4), some (.int x5), some (.int x6), some (.int u0)] [] (pv_em S) := Eq.trans (pv_Rstp dX6_weightByMice_45 rfl rfl rfl) (Eq.trans (pv_Rstp dX6_weightByMice_47 rfl rfl rfl) (pv_Rbr (tgt := 64) dX6_weightByMice_49 rfl rfl rfl rfl rfl (by decide)))
set_option maxHeartbeats 200000 in
theorem bX6_weightByMice_52 {S : pv_S} {x1 x2 x3 x4 x5 x6 x7 : Int32} : pv_R mX6_weightByMice 52 [some (.ref 0), some (.int x1), some (.int x2), some (.int x3), some (.int x4), some (.int x5), some (.int x6), some (.int x7)] [] (pv_em S) = pv_cc (pv_R mX0_isOf 0 [some (.int x6), some (.int 1)] [] (pv_em S)) mX6_weightByMice 58 [some (.ref 0), some (.int x1), some (.int x2), some (.int x3), some (.int x4), some (.int x5), some (.int x6), some (.int x7)] [] := Eq.trans (pv_Rstp dX6_weightByMice_52 rfl rfl rfl) (Eq.trans (pv_Ric dX6_weightByMice_54 ki_1) (pv_Rcall (As := [.int x6, .int 1]) (rest := []) dX6_weightByMice_55 rfl mfX6_126 rfl rfl rfl rfl rfl))
set_option maxHeartbeats 200000 in
theorem bX6_weightByMice_58 {S : pv_S} {x1 x2 x3 x4 x5 x6 x7 u0 : Int32} : pv_R mX6_weightByMice 58 [some (.ref 0), some (.int x1), some (.int x2), some (.int x3), some (.int x4), some (.int x5), some (.int x6), some (.int x7)] [.int u0] (pv_em S) = if u0 = 0 then pv_R mX6_weightByMice 64 [some (.ref 0), some (.int x1), some (.int x2), some (.int x3), some (.int x4), some (.int x5), some (.int x6), some (.int x7)] [] (pv_em S) else pv_R mX6_weightByMice 61 [some (.ref 0), some (.int x1), some (.int x2), some (.int x3), some (.int x4), some (.int x5), some (.int x6), some (.int x7)] [] (pv_em S) := pv_Rbr (tgt := 64) dX6_weightByMice_58 rfl rfl rfl rfl rfl (by decide)
set_option maxHeartbeats 200000 in
theorem bX6_weightByMice_61 {S : pv_S} {x1 x2 x3 x4 x5 x6 x7 : Int32} : pv_R mX6_weightByMice 61 [some (.ref 0), some (.int x1), some (.int x2), some (.int x3), some (.int x4), some (.int x5), some (.int x6), some (.int x7)] [] (pv_em S) = pv_R mX6_weightByMice 64 [some (.ref 0), some (.int x1), some (.int x2), some (.int x3), some (.int x4), some (.int x5), some (.int 0), some (.int x7)] [] (pv_em S) := Eq.trans (pv_Ric dX6_weightByMice_61 ki_0) (pv_Rstp dX6_weightByMice_62 rfl rfl rfl)
set_option maxHeartbeats 200000 in
theorem bX6_weightByMice_64 {S : pv_S} {x1 x2 x3 x4 x5 x6 x7 : Int32} : pv_R mX6_weightByMice 64 [some (.ref 0), some (.int x1), some (.int x2), some (.int x3), some (.int x4), some (.int x5), some (.int x6), some (.int x7)] [] (pv_em S) = pv_cc (pv_R mX0_afterHour 0 [some (.int x6), some (.int x4), some (.int ((S.1 21 9) + x5))] [] (pv_em S)) mX6_weightByMice 81 [some (.ref 0), some (.int x1), some (.int x2), some (.int x3), some (.int x4), some (.int x5), some (.int x6), some (.int x7)] [] := Eq.trans (pv_Rstp dX6_weightByMice_64 rfl rfl rfl) (Eq.trans (pv_Rstp dX6_weightByMice_66 rfl rfl rfl) (Eq.trans (pv_Rstp dX6_weightByMice_68 rfl rfl rfl) (Eq.trans (pv_Rget dX6_weightByMice_69 ffX6_31 (by decide) (pv_ce_0 _ _) rfl) (Eq.trans (pv_Rget dX6_weightByMice_72 ffX6_132 (by decide) (pv_ce_21 _ _) rfl) (Eq.trans (pv_Rstp dX6_weightByMice_75 rfl rfl rfl) (Eq.trans (pv_Rstp dX6_weightByMice_77 rfl rfl rfl) (pv_Rcall (As := [.int x6, .int x4, .int ((S.1 21 9) + x5)]) (rest := []) dX6_weightByMice_78 rfl mfX6_278 rfl rfl rfl rfl rfl)))))))
set_option maxHeartbeats 200000 in
theorem bX6_weightByMice_81 {S : pv_S} {x1 x2 x3 x4 x5 x6 x7 u0 : Int32} : pv_R mX6_weightByMice 81 [some (.ref 0), some (.int x1), some (.int x2), some (.int x3), some (.int x4), some (.int x5), some (.int x6), some (.int x7)] [.int u0] (pv_em S) = pv_R mX6_weightByMice 14 [some (.ref 0), some (.int x1), some (.int x2), some (.int x3), some (.int u0), some (.int (x5 + 1)), some (.int x6), some (.int x7)] [] (pv_em S) := Eq.trans (pv_Rstp dX6_weightByMice_81 rfl rfl rfl) (Eq.trans (pv_Rinc dX6_weightByMice_83 rfl (Nat.le_of_ble_eq_true rfl) ki_1 rfl) (pv_Rgo (tgt := 14) dX6_weightByMice_86 rfl (by decide)))
set_option maxHeartbeats 200000 in
theorem bX6_weightByMice_89 {S : pv_S} {x1 x2 x3 x4 x5 : Int32} {a6 a7 : Option Value} : pv_R mX6_weightByMice 89 [some (.ref 0), some (.int x1), some (.int x2), some (.int x3), some (.int x4), some (.int x5), a6, a7] [] (pv_em S) = some (some (.int x4), pv_em S) := Eq.trans (pv_Rstp dX6_weightByMice_89 rfl rfl rfl) (pv_Rret dX6_weightByMice_91 rfl)
theorem dX6_wholeOf_0 : decode cX6_wholeOf 0 = .ok (.lconst 1, 1) := by decide +kernel
theorem dX6_wholeOf_1 : decode cX6_wholeOf 1 = .ok (.lstore_n 1, 1) := by decide +kernel
theorem dX6_wholeOf_2 : decode cX6_wholeOf 2 = .ok (.iconst 0, 1) := by decide +kernel
theorem dX6_wholeOf_3 : decode cX6_wholeOf 3 = .ok (.istore_n 3, 1) := by decide +kernel
theorem dX6_wholeOf_4 : decode cX6_wholeOf 4 = .ok (.iload_n 3, 1) := by decide +kernel
theorem dX6_wholeOf_5 : decode cX6_wholeOf 5 = .ok (.iload_n 0, 1) := by decide +kernel
theorem dX6_wholeOf_6 : decode cX6_wholeOf 6 = .ok (.if_icmp .ge 15, 3) := by decide +kernel
theorem dX6_wholeOf_9 : decode cX6_wholeOf 9 = .ok (.lload_n 1, 1) := by decide +kernel
theorem dX6_wholeOf_10 : decode cX6_wholeOf 10 = .ok (.ldc2_w 339, 3) := by decide +kernel
theorem dX6_wholeOf_13 : decode cX6_wholeOf 13 = .ok (.lmul, 1) := by decide +kernel
theorem dX6_wholeOf_14 : decode cX6_wholeOf 14 = .ok (.lstore_n 1, 1) := by decide +kernel
theorem dX6_wholeOf_15 : decode cX6_wholeOf 15 = .ok (.iinc 3 1, 3) := by decide +kernel
theorem dX6_wholeOf_18 : decode cX6_wholeOf 18 = .ok (.goto (-14), 3) := by decide +kernel
theorem dX6_wholeOf_21 : decode cX6_wholeOf 21 = .ok (.lload_n 1, 1) := by decide +kernel
theorem dX6_wholeOf_22 : decode cX6_wholeOf 22 = .ok (.lreturn, 1) := by decide +kernel
set_option maxHeartbeats 200000 in
theorem bX6_wholeOf_0 {S : pv_S} {x0 : Int32} {a1 a2 a3 : Option Value} : pv_R mX6_wholeOf 0 [some (.int x0), a1, a2, a3] [] (pv_em S) = pv_R mX6_wholeOf 4 [some (.int x0), some (.long 1), none, some (.int 0)] [] (pv_em S) := Eq.trans (pv_Rlc dX6_wholeOf_0 kl_1) (Eq.trans (pv_Rstp dX6_wholeOf_1 rfl rfl rfl) (Eq.trans (pv_Ric dX6_wholeOf_2 ki_0) (pv_Rstp dX6_wholeOf_3 rfl rfl rfl)))
set_option maxHeartbeats 200000 in
theorem bX6_wholeOf_4 {S : pv_S} {x0 x3 : Int32} {x1 : Int64} {a2 : Option Value} : pv_R mX6_wholeOf 4 [some (.int x0), some (.long x1), a2, some (.int x3)] [] (pv_em S) = if x0 ≤ x3 then pv_R mX6_wholeOf 21 [some (.int x0), some (.long x1), a2, some (.int x3)] [] (pv_em S) else pv_R mX6_wholeOf 9 [some (.int x0), some (.long x1), a2, some (.int x3)] [] (pv_em S) := Eq.trans (pv_Rstp dX6_wholeOf_4 rfl rfl rfl) (Eq.trans (pv_Rstp dX6_wholeOf_5 rfl rfl rfl) (pv_Rbr (tgt := 21) dX6_wholeOf_6 rfl rfl rfl rfl rfl (by decide)))
set_option maxHeartbeats 200000 in
theorem bX6_wholeOf_9 {S : pv_S} {x0 x3 : Int32} {x1 : Int64} {a2 : Option Value} : pv_R mX6_wholeOf 9 [some (.int x0), some (.long x1), a2, some (.int x3)] [] (pv_em S) = pv_R mX6_wholeOf 4 [some (.int x0), some (.long (x1 * 12)), none, some (.int (x3 + 1))] [] (pv_em S) := Eq.trans (pv_Rstp dX6_wholeOf_9 rfl rfl rfl) (Eq.trans (pv_Rstp dX6_wholeOf_10 rfl rfl rfl) (Eq.trans (pv_Rstp dX6_wholeOf_13 rfl rfl rfl) (Eq.trans (pv_Rstp dX6_wholeOf_14 rfl rfl rfl) (Eq.trans (pv_Rinc dX6_wholeOf_15 rfl (Nat.le_of_ble_eq_true rfl) ki_1 rfl) (pv_Rgo (tgt := 4) dX6_wholeOf_18 rfl (by decide))))))
set_option maxHeartbeats 200000 in
theorem bX6_wholeOf_21 {S : pv_S} {x0 x3 : Int32} {x1 : Int64} {a2 : Option Value} : pv_R mX6_wholeOf 21 [some (.int x0), some (.long x1), a2, some (.int x3)] [] (pv_em S) = some (some (.long x1), pv_em S) := Eq.trans (pv_Rstp dX6_wholeOf_21 rfl rfl rfl) (pv_Rret dX6_wholeOf_22 rfl)
theorem dX6_deedByLot_0 : decode cX6_deedByLot 0 = .ok (.lload_n 1, 1) := by decide +kernel
theorem dX6_deedByLot_1 : decode cX6_deedByLot 1 = .ok (.ldc2_w 341, 3) := by decide +kernel
theorem dX6_deedByLot_4 : decode cX6_deedByLot 4 = .ok (.ldiv, 1) := by decide +kernel
theorem dX6_deedByLot_5 : decode cX6_deedByLot 5 = .ok (.ldc2_w 343, 3) := by decide +kernel
theorem dX6_deedByLot_8 : decode cX6_deedByLot 8 = .ok (.lrem, 1) := by decide +kernel
theorem dX6_deedByLot_9 : decode cX6_deedByLot 9 = .ok (.l2i, 1) := by decide +kernel
theorem dX6_deedByLot_10 : decode cX6_deedByLot 10 = .ok (.istore_n 3, 1) := by decide +kernel
theorem dX6_deedByLot_11 : decode cX6_deedByLot 11 = .ok (.iload_n 3, 1) := by decide +kernel
theorem dX6_deedByLot_12 : decode cX6_deedByLot 12 = .ok (.ifCond .ne 28, 3) := by decide +kernel
theorem dX6_deedByLot_15 : decode cX6_deedByLot 15 = .ok (.aload_n 0, 1) := by decide +kernel
theorem dX6_deedByLot_16 : decode cX6_deedByLot 16 = .ok (.getfield 31, 3) := by decide +kernel
theorem dX6_deedByLot_19 : decode cX6_deedByLot 19 = .ok (.getfield 110, 3) := by decide +kernel
theorem dX6_deedByLot_22 : decode cX6_deedByLot 22 = .ok (.ifCond .le 18, 3) := by decide +kernel
theorem dX6_deedByLot_25 : decode cX6_deedByLot 25 = .ok (.bipush 10, 2) := by decide +kernel
theorem dX6_deedByLot_27 : decode cX6_deedByLot 27 = .ok (.lload_n 1, 1) := by decide +kernel
theorem dX6_deedByLot_28 : decode cX6_deedByLot 28 = .ok (.aload_n 0, 1) := by decide +kernel
theorem dX6_deedByLot_29 : decode cX6_deedByLot 29 = .ok (.getfield 31, 3) := by decide +kernel
theorem dX6_deedByLot_32 : decode cX6_deedByLot 32 = .ok (.getfield 110, 3) := by decide +kernel
theorem dX6_deedByLot_35 : decode cX6_deedByLot 35 = .ok (.i2l, 1) := by decide +kernel
theorem dX6_deedByLot_36 : decode cX6_deedByLot 36 = .ok (.lrem, 1) := by decide +kernel
theorem dX6_deedByLot_37 : decode cX6_deedByLot 37 = .ok (.l2i, 1) := by decide +kernel
theorem dX6_deedByLot_38 : decode cX6_deedByLot 38 = .ok (.iadd, 1) := by decide +kernel
theorem dX6_deedByLot_39 : decode cX6_deedByLot 39 = .ok (.ireturn, 1) := by decide +kernel
theorem dX6_deedByLot_40 : decode cX6_deedByLot 40 = .ok (.iload_n 3, 1) := by decide +kernel
theorem dX6_deedByLot_41 : decode cX6_deedByLot 41 = .ok (.iconst 1, 1) := by decide +kernel
theorem dX6_deedByLot_42 : decode cX6_deedByLot 42 = .ok (.if_icmp .ne 6, 3) := by decide +kernel
theorem dX6_deedByLot_45 : decode cX6_deedByLot 45 = .ok (.bipush 21, 2) := by decide +kernel
theorem dX6_deedByLot_47 : decode cX6_deedByLot 47 = .ok (.ireturn, 1) := by decide +kernel
theorem dX6_deedByLot_48 : decode cX6_deedByLot 48 = .ok (.iload_n 3, 1) := by decide +kernel
theorem dX6_deedByLot_49 : decode cX6_deedByLot 49 = .ok (.iconst 2, 1) := by decide +kernel
theorem dX6_deedByLot_50 : decode cX6_deedByLot 50 = .ok (.if_icmp .ne 17, 3) := by decide +kernel
theorem dX6_deedByLot_53 : decode cX6_deedByLot 53 = .ok (.aload_n 0, 1) := by decide +kernel
theorem dX6_deedByLot_54 : decode cX6_deedByLot 54 = .ok (.getfield 31, 3) := by decide +kernel
theorem dX6_deedByLot_57 : decode cX6_deedByLot 57 = .ok (.iconst 1, 1) := by decide +kernel
theorem dX6_deedByLot_58 : decode cX6_deedByLot 58 = .ok (.invokevirtual 168, 3) := by decide +kernel
theorem dX6_deedByLot_61 : decode cX6_deedByLot 61 = .ok (.ifCond .eq 6, 3) := by decide +kernel
theorem dX6_deedByLot_64 : decode cX6_deedByLot 64 = .ok (.bipush 31, 2) := by decide +kernel
theorem dX6_deedByLot_66 : decode cX6_deedByLot 66 = .ok (.ireturn, 1) := by decide +kernel
theorem dX6_deedByLot_67 : decode cX6_deedByLot 67 = .ok (.iconst 0, 1) := by decide +kernel
theorem dX6_deedByLot_68 : decode cX6_deedByLot 68 = .ok (.ireturn, 1) := by decide +kernel
set_option maxHeartbeats 200000 in
theorem bX6_deedByLot_0 {S : pv_S} {x1 : Int64} {a2 a3 : Option Value} : pv_R mX6_deedByLot 0 [some (.ref 0), some (.long x1), a2, a3] [] (pv_em S) = if ¬ (Int64.toInt32 ((x1 / 8) - (x1 / 8) / 4 * 4)) = 0 then pv_R mX6_deedByLot 40 [some (.ref 0), some (.long x1), (pv_nl a2), some (.int (Int64.toInt32 ((x1 / 8) - (x1 / 8) / 4 * 4)))] [] (pv_em S) else pv_R mX6_deedByLot 15 [some (.ref 0), some (.long x1), (pv_nl a2), some (.int (Int64.toInt32 ((x1 / 8) - (x1 / 8) / 4 * 4)))] [] (pv_em S) := Eq.trans (pv_Rstp dX6_deedByLot_0 rfl rfl rfl) (Eq.trans (pv_Rstp dX6_deedByLot_1 rfl rfl rfl) (Eq.trans (pv_Rldiv dX6_deedByLot_4) (Eq.trans (if_neg (by decide)) (Eq.trans (pv_Rstp dX6_deedByLot_5 rfl rfl rfl) (Eq.trans (pv_Rlrem dX6_deedByLot_8) (Eq.trans (if_neg (by decide)) (Eq.trans (pv_Rstp dX6_deedByLot_9 rfl rfl rfl) (Eq.trans (pv_Rstp dX6_deedByLot_10 rfl rfl rfl) (Eq.trans (pv_Rstp dX6_deedByLot_11 rfl rfl rfl) (pv_Rbr (tgt := 40) dX6_deedByLot_12 rfl rfl rfl rfl rfl (by decide)))))))))))
set_option maxHeartbeats 200000 in
theorem bX6_deedByLot_15 {S : pv_S} {x1 : Int64} {a2 : Option Value} {x3 : Int32} : pv_R mX6_deedByLot 15 [some (.ref 0), some (.long x1), a2, some (.int x3)] [] (pv_em S) = if (S.1 21 7) ≤ 0 then pv_R mX6_deedByLot 40 [some (.ref 0), some (.long x1), a2, some (.int x3)] [] (pv_em S) else pv_R mX6_deedByLot 25 [some (.ref 0), some (.long x1), a2, some (.int x3)] [] (pv_em S) := Eq.trans (pv_Rstp dX6_deedByLot_15 rfl rfl rfl) (Eq.trans (pv_Rget dX6_deedByLot_16 ffX6_31 (by decide) (pv_ce_0 _ _) rfl) (Eq.trans (pv_Rget dX6_deedByLot_19 ffX6_110 (by decide) (pv_ce_21 _ _) rfl) (pv_Rbr (tgt := 40) dX6_deedByLot_22 rfl rfl rfl rfl rfl (by decide))))
set_option maxHeartbeats 200000 in
theorem bX6_deedByLot_25 {S : pv_S} {x1 : Int64} {a2 : Option Value} {x3 : Int32} : pv_R mX6_deedByLot 25 [some (.ref 0), some (.long x1), a2, some (.int x3)] [] (pv_em S) = if (Int32.toInt64 (S.1 21 7)) = 0 then none else some (some (.int (10 + (Int64.toInt32 (x1 - x1 / (Int32.toInt64 (S.1 21 7)) * (Int32.toInt64 (S.1 21 7)))))), pv_em S) := Eq.trans (pv_Rbp dX6_deedByLot_25 kb_10) (Eq.trans (pv_Rstp dX6_deedByLot_27 rfl rfl rfl) (Eq.trans (pv_Rstp dX6_deedByLot_28 rfl rfl rfl) (Eq.trans (pv_Rget dX6_deedByLot_29 ffX6_31 (by decide) (pv_ce_0 _ _) rfl) (Eq.trans (pv_Rget dX6_deedByLot_32 ffX6_110 (by decide) (pv_ce_21 _ _) rfl) (Eq.trans (pv_Rstp dX6_deedByLot_35 rfl rfl rfl) (Eq.trans (pv_Rlrem dX6_deedByLot_36) (pv_iteN (fun h1 => Eq.trans (pv_Rstp dX6_deedByLot_37 rfl rfl rfl) (Eq.trans (pv_Rstp dX6_deedByLot_38 rfl rfl rfl) (pv_Rret dX6_deedByLot_39 rfl))))))))))
set_option maxHeartbeats 200000 in
theorem bX6_deedByLot_40 {S : pv_S} {x1 : Int64} {a2 : Option Value} {x3 : Int32} : pv_R mX6_deedByLot 40 [some (.ref 0), some (.long x1), a2, some (.int x3)] [] (pv_em S) = if ¬ x3 = 1 then pv_R mX6_deedByLot 48 [some (.ref 0), some (.long x1), a2, some (.int x3)] [] (pv_em S) else pv_R mX6_deedByLot 45 [some (.ref 0), some (.long x1), a2, some (.int x3)] [] (pv_em S) := Eq.trans (pv_Rstp dX6_deedByLot_40 rfl rfl rfl) (Eq.trans (pv_Ric dX6_deedByLot_41 ki_1) (pv_Rbr (tgt := 48) dX6_deedByLot_42 rfl rfl rfl rfl rfl (by decide)))
set_option maxHeartbeats 200000 in
theorem bX6_deedByLot_45 {S : pv_S} {x1 : Int64} {a2 : Option Value} {x3 : Int32} : pv_R mX6_deedByLot 45 [some (.ref 0), some (.long x1), a2, some (.int x3)] [] (pv_em S) = some (some (.int 21), pv_em S) := Eq.trans (pv_Rbp dX6_deedByLot_45 kb_21) (pv_Rret dX6_deedByLot_47 rfl)
set_option maxHeartbeats 200000 in
theorem bX6_deedByLot_48 {S : pv_S} {x1 : Int64} {a2 : Option Value} {x3 : Int32} : pv_R mX6_deedByLot 48 [some (.ref 0), some (.long x1), a2, some (.int x3)] [] (pv_em S) = if ¬ x3 = 2 then pv_R mX6_deedByLot 67 [some (.ref 0), some (.long x1), a2, some (.int x3)] [] (pv_em S) else pv_R mX6_deedByLot 53 [some (.ref 0), some (.long x1), a2, some (.int x3)] [] (pv_em S) := Eq.trans (pv_Rstp dX6_deedByLot_48 rfl rfl rfl) (Eq.trans (pv_Ric dX6_deedByLot_49 ki_2) (pv_Rbr (tgt := 67) dX6_deedByLot_50 rfl rfl rfl rfl rfl (by decide)))
set_option maxHeartbeats 200000 in
theorem bX6_deedByLot_53 {S : pv_S} {x1 : Int64} {a2 : Option Value} {x3 : Int32} : pv_R mX6_deedByLot 53 [some (.ref 0), some (.long x1), a2, some (.int x3)] [] (pv_em S) = pv_cc (pv_R mX5_hasGoodsFor 0 [some (.ref 21), some (.int 1)] [] (pv_em S)) mX6_deedByLot 61 [some (.ref 0), some (.long x1), a2, some (.int x3)] [] := Eq.trans (pv_Rstp dX6_deedByLot_53 rfl rfl rfl) (Eq.trans (pv_Rget dX6_deedByLot_54 ffX6_31 (by decide) (pv_ce_0 _ _) rfl) (Eq.trans (pv_Ric dX6_deedByLot_57 ki_1) (pv_Rcall (As := [.ref 21, .int 1]) (rest := []) dX6_deedByLot_58 rfl mfX6_168 rfl rfl rfl rfl rfl)))
set_option maxHeartbeats 200000 in
theorem bX6_deedByLot_61 {S : pv_S} {x1 : Int64} {a2 : Option Value} {x3 u0 : Int32} : pv_R mX6_deedByLot 61 [some (.ref 0), some (.long x1), a2, some (.int x3)] [.int u0] (pv_em S) = if u0 = 0 then pv_R mX6_deedByLot 67 [some (.ref 0), some (.long x1), a2, some (.int x3)] [] (pv_em S) else pv_R mX6_deedByLot 64 [some (.ref 0), some (.long x1), a2, some (.int x3)] [] (pv_em S) := pv_Rbr (tgt := 67) dX6_deedByLot_61 rfl rfl rfl rfl rfl (by decide)
set_option maxHeartbeats 200000 in
theorem bX6_deedByLot_64 {S : pv_S} {x1 : Int64} {a2 : Option Value} {x3 : Int32} : pv_R mX6_deedByLot 64 [some (.ref 0), some (.long x1), a2, some (.int x3)] [] (pv_em S) = some (some (.int 31), pv_em S) := Eq.trans (pv_Rbp dX6_deedByLot_64 kb_31) (pv_Rret dX6_deedByLot_66 rfl)
set_option maxHeartbeats 200000 in
theorem bX6_deedByLot_67 {S : pv_S} {x1 : Int64} {a2 : Option Value} {x3 : Int32} : pv_R mX6_deedByLot 67 [some (.ref 0), some (.long x1), a2, some (.int x3)] [] (pv_em S) = some (some (.int 0), pv_em S) := Eq.trans (pv_Ric dX6_deedByLot_67 ki_0) (pv_Rret dX6_deedByLot_68 rfl)
theorem dX6_holdsPairs_0 : decode cX6_holdsPairs 0 = .ok (.aload_n 0, 1) := by decide +kernel
theorem dX6_holdsPairs_1 : decode cX6_holdsPairs 1 = .ok (.getfield 14, 3) := by decide +kernel
theorem dX6_holdsPairs_4 : decode cX6_holdsPairs 4 = .ok (.iload_n 1, 1) := by decide +kernel
theorem dX6_holdsPairs_5 : decode cX6_holdsPairs 5 = .ok (.invokevirtual 96, 3) := by decide +kernel
theorem dX6_holdsPairs_8 : decode cX6_holdsPairs 8 = .ok (.istore_n 2, 1) := by decide +kernel
theorem dX6_holdsPairs_9 : decode cX6_holdsPairs 9 = .ok (.iconst 0, 1) := by decide +kernel
theorem dX6_holdsPairs_10 : decode cX6_holdsPairs 10 = .ok (.istore_n 3, 1) := by decide +kernel
theorem dX6_holdsPairs_11 : decode cX6_holdsPairs 11 = .ok (.iload_n 3, 1) := by decide +kernel
theorem dX6_holdsPairs_12 : decode cX6_holdsPairs 12 = .ok (.iconst 1, 1) := by decide +kernel
theorem dX6_holdsPairs_13 : decode cX6_holdsPairs 13 = .ok (.iadd, 1) := by decide +kernel
theorem dX6_holdsPairs_14 : decode cX6_holdsPairs 14 = .ok (.iload_n 2, 1) := by decide +kernel
theorem dX6_holdsPairs_15 : decode cX6_holdsPairs 15 = .ok (.if_icmp .ge 50, 3) := by decide +kernel
theorem dX6_holdsPairs_18 : decode cX6_holdsPairs 18 = .ok (.aload_n 0, 1) := by decide +kernel
theorem dX6_holdsPairs_19 : decode cX6_holdsPairs 19 = .ok (.getfield 14, 3) := by decide +kernel
theorem dX6_holdsPairs_22 : decode cX6_holdsPairs 22 = .ok (.iload_n 1, 1) := by decide +kernel
theorem dX6_holdsPairs_23 : decode cX6_holdsPairs 23 = .ok (.iload_n 3, 1) := by decide +kernel
theorem dX6_holdsPairs_24 : decode cX6_holdsPairs 24 = .ok (.invokevirtual 57, 3) := by decide +kernel
theorem dX6_holdsPairs_27 : decode cX6_holdsPairs 27 = .ok (.iconst 0, 1) := by decide +kernel
theorem dX6_holdsPairs_28 : decode cX6_holdsPairs 28 = .ok (.bipush 40, 2) := by decide +kernel
theorem dX6_holdsPairs_30 : decode cX6_holdsPairs 30 = .ok (.invokestatic 116, 3) := by decide +kernel
theorem dX6_holdsPairs_33 : decode cX6_holdsPairs 33 = .ok (.ifCond .eq 24, 3) := by decide +kernel
theorem dX6_holdsPairs_36 : decode cX6_holdsPairs 36 = .ok (.aload_n 0, 1) := by decide +kernel
theorem dX6_holdsPairs_37 : decode cX6_holdsPairs 37 = .ok (.getfield 14, 3) := by decide +kernel
theorem dX6_holdsPairs_40 : decode cX6_holdsPairs 40 = .ok (.iload_n 1, 1) := by decide +kernel
theorem dX6_holdsPairs_41 : decode cX6_holdsPairs 41 = .ok (.iload_n 3, 1) := by decide +kernel
theorem dX6_holdsPairs_42 : decode cX6_holdsPairs 42 = .ok (.iconst 1, 1) := by decide +kernel
theorem dX6_holdsPairs_43 : decode cX6_holdsPairs 43 = .ok (.iadd, 1) := by decide +kernel
theorem dX6_holdsPairs_44 : decode cX6_holdsPairs 44 = .ok (.invokevirtual 57, 3) := by decide +kernel
theorem dX6_holdsPairs_47 : decode cX6_holdsPairs 47 = .ok (.iconst 1, 1) := by decide +kernel
theorem dX6_holdsPairs_48 : decode cX6_holdsPairs 48 = .ok (.sipush 200, 3) := by decide +kernel
theorem dX6_holdsPairs_51 : decode cX6_holdsPairs 51 = .ok (.invokestatic 116, 3) := by decide +kernel
theorem dX6_holdsPairs_54 : decode cX6_holdsPairs 54 = .ok (.ifCond .ne 5, 3) := by decide +kernel
theorem dX6_holdsPairs_57 : decode cX6_holdsPairs 57 = .ok (.iconst 0, 1) := by decide +kernel
theorem dX6_holdsPairs_58 : decode cX6_holdsPairs 58 = .ok (.ireturn, 1) := by decide +kernel
theorem dX6_holdsPairs_59 : decode cX6_holdsPairs 59 = .ok (.iinc 3 2, 3) := by decide +kernel
theorem dX6_holdsPairs_62 : decode cX6_holdsPairs 62 = .ok (.goto (-51), 3) := by decide +kernel
theorem dX6_holdsPairs_65 : decode cX6_holdsPairs 65 = .ok (.iconst 1, 1) := by decide +kernel
theorem dX6_holdsPairs_66 : decode cX6_holdsPairs 66 = .ok (.ireturn, 1) := by decide +kernel
set_option maxHeartbeats 200000 in
theorem bX6_holdsPairs_0 {S : pv_S} {x1 : Int32} {a2 a3 : Option Value} : pv_R mX6_holdsPairs 0 [some (.ref 0), some (.int x1), a2, a3] [] (pv_em S) = pv_cc (pv_R mX3_sizeOf 0 [some (.ref 1), some (.int x1)] [] (pv_em S)) mX6_holdsPairs 8 [some (.ref 0), some (.int x1), a2, a3] [] := Eq.trans (pv_Rstp dX6_holdsPairs_0 rfl rfl rfl) (Eq.trans (pv_Rget dX6_holdsPairs_1 ffX6_14 (by decide) (pv_ce_0 _ _) rfl) (Eq.trans (pv_Rstp dX6_holdsPairs_4 rfl rfl rfl) (pv_Rcall (As := [.ref 1, .int x1]) (rest := []) dX6_holdsPairs_5 rfl mfX6_96 rfl rfl rfl rfl rfl)))
set_option maxHeartbeats 200000 in
theorem bX6_holdsPairs_8 {S : pv_S} {x1 u0 : Int32} {a2 a3 : Option Value} : pv_R mX6_holdsPairs 8 [some (.ref 0), some (.int x1), a2, a3] [.int u0] (pv_em S) = pv_R mX6_holdsPairs 11 [some (.ref 0), some (.int x1), some (.int u0), some (.int 0)] [] (pv_em S) := Eq.trans (pv_Rstp dX6_holdsPairs_8 rfl rfl rfl) (Eq.trans (pv_Ric dX6_holdsPairs_9 ki_0) (pv_Rstp dX6_holdsPairs_10 rfl rfl rfl))
set_option maxHeartbeats 200000 in
theorem bX6_holdsPairs_11 {S : pv_S} {x1 x2 x3 : Int32} : pv_R mX6_holdsPairs 11 [some (.ref 0), some (.int x1), some (.int x2), some (.int x3)] [] (pv_em S) = if x2 ≤ (x3 + 1) then pv_R mX6_holdsPairs 65 [some (.ref 0), some (.int x1), some (.int x2), some (.int x3)] [] (pv_em S) else pv_R mX6_holdsPairs 18 [some (.ref 0), some (.int x1), some (.int x2), some (.int x3)] [] (pv_em S) := Eq.trans (pv_Rstp dX6_holdsPairs_11 rfl rfl rfl) (Eq.trans (pv_Ric dX6_holdsPairs_12 ki_1) (Eq.trans (pv_Rstp dX6_holdsPairs_13 rfl rfl rfl) (Eq.trans (pv_Rstp dX6_holdsPairs_14 rfl rfl rfl) (pv_Rbr (tgt := 65) dX6_holdsPairs_15 rfl rfl rfl rfl rfl (by decide)))))
set_option maxHeartbeats 200000 in
theorem bX6_holdsPairs_18 {S : pv_S} {x1 x2 x3 : Int32} : pv_R mX6_holdsPairs 18 [some (.ref 0), some (.int x1), some (.int x2), some (.int x3)] [] (pv_em S) = pv_cc (pv_R mX3_get 0 [some (.ref 1), some (.int x1), some (.int x3)] [] (pv_em S)) mX6_holdsPairs 27 [some (.ref 0), some (.int x1), some (.int x2), some (.int x3)] [] := Eq.trans (pv_Rstp dX6_holdsPairs_18 rfl rfl rfl) (Eq.trans (pv_Rget dX6_holdsPairs_19 ffX6_14 (by decide) (pv_ce_0 _ _) rfl) (Eq.trans (pv_Rstp dX6_holdsPairs_22 rfl rfl rfl) (Eq.trans (pv_Rstp dX6_holdsPairs_23 rfl rfl rfl) (pv_Rcall (As := [.ref 1, .int x1, .int x3]) (rest := []) dX6_holdsPairs_24 rfl mfX6_57 rfl rfl rfl rfl rfl))))
set_option maxHeartbeats 200000 in
theorem bX6_holdsPairs_27 {S : pv_S} {x1 x2 x3 u0 : Int32} : pv_R mX6_holdsPairs 27 [some (.ref 0), some (.int x1), some (.int x2), some (.int x3)] [.int u0] (pv_em S) = pv_cc (pv_R mX6_isWithin 0 [some (.int u0), some (.int 0), some (.int 40)] [] (pv_em S)) mX6_holdsPairs 33 [some (.ref 0), some (.int x1), some (.int x2), some (.int x3)] [] := Eq.trans (pv_Ric dX6_holdsPairs_27 ki_0) (Eq.trans (pv_Rbp dX6_holdsPairs_28 kb_40) (pv_Rcall (As := [.int u0, .int 0, .int 40]) (rest := []) dX6_holdsPairs_30 rfl mfX6_116 rfl rfl rfl rfl rfl))
set_option maxHeartbeats 200000 in
theorem bX6_holdsPairs_33 {S : pv_S} {x1 x2 x3 u0 : Int32} : pv_R mX6_holdsPairs 33 [some (.ref 0), some (.int x1), some (.int x2), some (.int x3)] [.int u0] (pv_em S) = if u0 = 0 then pv_R mX6_holdsPairs 57 [some (.ref 0), some (.int x1), some (.int x2), some (.int x3)] [] (pv_em S) else pv_R mX6_holdsPairs 36 [some (.ref 0), some (.int x1), some (.int x2), some (.int x3)] [] (pv_em S) := pv_Rbr (tgt := 57) dX6_holdsPairs_33 rfl rfl rfl rfl rfl (by decide)
set_option maxHeartbeats 200000 in
theorem bX6_holdsPairs_36 {S : pv_S} {x1 x2 x3 : Int32} : pv_R mX6_holdsPairs 36 [some (.ref 0), some (.int x1), some (.int x2), some (.int x3)] [] (pv_em S) = pv_cc (pv_R mX3_get 0 [some (.ref 1), some (.int x1), some (.int (x3 + 1))] [] (pv_em S)) mX6_holdsPairs 47 [some (.ref 0), some (.int x1), some (.int x2), some (.int x3)] [] := Eq.trans (pv_Rstp dX6_holdsPairs_36 rfl rfl rfl) (Eq.trans (pv_Rget dX6_holdsPairs_37 ffX6_14 (by decide) (pv_ce_0 _ _) rfl) (Eq.trans (pv_Rstp dX6_holdsPairs_40 rfl rfl rfl) (Eq.trans (pv_Rstp dX6_holdsPairs_41 rfl rfl rfl) (Eq.trans (pv_Ric dX6_holdsPairs_42 ki_1) (Eq.trans (pv_Rstp dX6_holdsPairs_43 rfl rfl rfl) (pv_Rcall (As := [.ref 1, .int x1, .int (x3 + 1)]) (rest := []) dX6_holdsPairs_44 rfl mfX6_57 rfl rfl rfl rfl rfl))))))
set_option maxHeartbeats 200000 in
theorem bX6_holdsPairs_47 {S : pv_S} {x1 x2 x3 u0 : Int32} : pv_R mX6_holdsPairs 47 [some (.ref 0), some (.int x1), some (.int x2), some (.int x3)] [.int u0] (pv_em S) = pv_cc (pv_R mX6_isWithin 0 [some (.int u0), some (.int 1), some (.int 200)] [] (pv_em S)) mX6_holdsPairs 54 [some (.ref 0), some (.int x1), some (.int x2), some (.int x3)] [] := Eq.trans (pv_Ric dX6_holdsPairs_47 ki_1) (Eq.trans (pv_Rsp dX6_holdsPairs_48 ks_200) (pv_Rcall (As := [.int u0, .int 1, .int 200]) (rest := []) dX6_holdsPairs_51 rfl mfX6_116 rfl rfl rfl rfl rfl))
set_option maxHeartbeats 200000 in
theorem bX6_holdsPairs_54 {S : pv_S} {x1 x2 x3 u0 : Int32} : pv_R mX6_holdsPairs 54 [some (.ref 0), some (.int x1), some (.int x2), some (.int x3)] [.int u0] (pv_em S) = if ¬ u0 = 0 then pv_R mX6_holdsPairs 59 [some (.ref 0), some (.int x1), some (.int x2), some (.int x3)] [] (pv_em S) else pv_R mX6_holdsPairs 57 [some (.ref 0), some (.int x1), some (.int x2), some (.int x3)] [] (pv_em S) := pv_Rbr (tgt := 59) dX6_holdsPairs_54 rfl rfl rfl rfl rfl (by decide)
set_option maxHeartbeats 200000 in
theorem bX6_holdsPairs_57 {S : pv_S} {x1 x2 x3 : Int32} : pv_R mX6_holdsPairs 57 [some (.ref 0), some (.int x1), some (.int x2), some (.int x3)] [] (pv_em S) = some (some (.int 0), pv_em S) := Eq.trans (pv_Ric dX6_holdsPairs_57 ki_0) (pv_Rret dX6_holdsPairs_58 rfl)
set_option maxHeartbeats 200000 in
theorem bX6_holdsPairs_59 {S : pv_S} {x1 x2 x3 : Int32} : pv_R mX6_holdsPairs 59 [some (.ref 0), some (.int x1), some (.int x2), some (.int x3)] [] (pv_em S) = pv_R mX6_holdsPairs 11 [some (.ref 0), some (.int x1), some (.int x2), some (.int (x3 + 2))] [] (pv_em S) := Eq.trans (pv_Rinc dX6_holdsPairs_59 rfl (Nat.le_of_ble_eq_true rfl) ki_2 rfl) (pv_Rgo (tgt := 11) dX6_holdsPairs_62 rfl (by decide))
set_option maxHeartbeats 200000 in
theorem bX6_holdsPairs_65 {S : pv_S} {x1 x2 x3 : Int32} : pv_R mX6_holdsPairs 65 [some (.ref 0), some (.int x1), some (.int x2), some (.int x3)] [] (pv_em S) = some (some (.int 1), pv_em S) := Eq.trans (pv_Ric dX6_holdsPairs_65 ki_1) (pv_Rret dX6_holdsPairs_66 rfl)
