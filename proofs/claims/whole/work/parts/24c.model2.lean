/-! ===== blocks: model2 ===== -/
theorem dX7_pence_0 : decode cX7_pence 0 = .ok (.aload_n 0, 1) := by decide +kernel
theorem dX7_pence_1 : decode cX7_pence 1 = .ok (.getfield 28, 3) := by decide +kernel
theorem dX7_pence_4 : decode cX7_pence 4 = .ok (.bipush 7, 2) := by decide +kernel
theorem dX7_pence_6 : decode cX7_pence 6 = .ok (.iaload, 1) := by decide +kernel
theorem dX7_pence_7 : decode cX7_pence 7 = .ok (.ireturn, 1) := by decide +kernel
set_option maxHeartbeats 200000 in
theorem bX7_pence_0 {S : pv_S} : pv_R mX7_pence 0 [some (.ref 37)] [] (pv_em S) = some (some (.int (S.1 44 (7 : Int32).toNatClampNeg)), pv_em S) := Eq.trans (pv_Rstp dX7_pence_0 rfl rfl rfl) (Eq.trans (pv_Rget dX7_pence_1 ffX7_28 (by decide) (pv_ce_37 _ _) rfl) (Eq.trans (pv_Rbp dX7_pence_4 kb_7) (Eq.trans (pv_Rald dX7_pence_6 (by decide) (pv_ce_44 _ _)) (Eq.trans (if_neg (by decide +kernel)) (pv_Rret dX7_pence_7 rfl)))))
theorem dX7_count_0 : decode cX7_count 0 = .ok (.iload_n 1, 1) := by decide +kernel
theorem dX7_count_1 : decode cX7_count 1 = .ok (.i2l, 1) := by decide +kernel
theorem dX7_count_2 : decode cX7_count 2 = .ok (.lconst 0, 1) := by decide +kernel
theorem dX7_count_3 : decode cX7_count 3 = .ok (.ldc2_w 283, 3) := by decide +kernel
theorem dX7_count_6 : decode cX7_count 6 = .ok (.invokestatic 75, 3) := by decide +kernel
theorem dX7_count_9 : decode cX7_count 9 = .ok (.ifCond .eq 11, 3) := by decide +kernel
theorem dX7_count_12 : decode cX7_count 12 = .ok (.aload_n 0, 1) := by decide +kernel
theorem dX7_count_13 : decode cX7_count 13 = .ok (.iload_n 1, 1) := by decide +kernel
theorem dX7_count_14 : decode cX7_count 14 = .ok (.invokevirtual 285, 3) := by decide +kernel
theorem dX7_count_17 : decode cX7_count 17 = .ok (.goto 4, 3) := by decide +kernel
theorem dX7_count_20 : decode cX7_count 20 = .ok (.iconst (-1), 1) := by decide +kernel
theorem dX7_count_21 : decode cX7_count 21 = .ok (.ireturn, 1) := by decide +kernel
set_option maxHeartbeats 200000 in
theorem bX7_count_0 {S : pv_S} {x1 : Int32} : pv_R mX7_count 0 [some (.ref 37), some (.int x1)] [] (pv_em S) = pv_cc (pv_R mX7_in 0 [some (.long (Int32.toInt64 x1)), none, some (.long 0), none, some (.long 11), none] [] (pv_em S)) mX7_count 9 [some (.ref 37), some (.int x1)] [] := Eq.trans (pv_Rstp dX7_count_0 rfl rfl rfl) (Eq.trans (pv_Rstp dX7_count_1 rfl rfl rfl) (Eq.trans (pv_Rlc dX7_count_2 kl_0) (Eq.trans (pv_Rstp dX7_count_3 rfl rfl rfl) (pv_Rcall (As := [.long (Int32.toInt64 x1), .long 0, .long 11]) (rest := []) dX7_count_6 rfl mfX7_75 rfl rfl rfl rfl rfl))))
set_option maxHeartbeats 200000 in
theorem bX7_count_9 {S : pv_S} {x1 u0 : Int32} : pv_R mX7_count 9 [some (.ref 37), some (.int x1)] [.int u0] (pv_em S) = if u0 = 0 then pv_R mX7_count 20 [some (.ref 37), some (.int x1)] [] (pv_em S) else pv_R mX7_count 12 [some (.ref 37), some (.int x1)] [] (pv_em S) := pv_Rbr (tgt := 20) dX7_count_9 rfl rfl rfl rfl rfl (by decide)
set_option maxHeartbeats 200000 in
theorem bX7_count_12 {S : pv_S} {x1 : Int32} : pv_R mX7_count 12 [some (.ref 37), some (.int x1)] [] (pv_em S) = pv_cc (pv_R mX7_counted 0 [some (.ref 37), some (.int x1), none, none] [] (pv_em S)) mX7_count 17 [some (.ref 37), some (.int x1)] [] := Eq.trans (pv_Rstp dX7_count_12 rfl rfl rfl) (Eq.trans (pv_Rstp dX7_count_13 rfl rfl rfl) (pv_Rcall (As := [.ref 37, .int x1]) (rest := []) dX7_count_14 rfl mfX7_285 rfl rfl rfl rfl rfl))
set_option maxHeartbeats 200000 in
theorem bX7_count_17 {S : pv_S} {x1 u0 : Int32} : pv_R mX7_count 17 [some (.ref 37), some (.int x1)] [.int u0] (pv_em S) = pv_R mX7_count 21 [some (.ref 37), some (.int x1)] [.int u0] (pv_em S) := pv_Rgo (tgt := 21) dX7_count_17 rfl (by decide)
set_option maxHeartbeats 200000 in
theorem bX7_count_20 {S : pv_S} {x1 : Int32} : pv_R mX7_count 20 [some (.ref 37), some (.int x1)] [] (pv_em S) = pv_R mX7_count 21 [some (.ref 37), some (.int x1)] [.int (-1)] (pv_em S) := pv_Ric dX7_count_20 ki_m1
set_option maxHeartbeats 200000 in
theorem bX7_count_21 {S : pv_S} {x1 u0 : Int32} : pv_R mX7_count 21 [some (.ref 37), some (.int x1)] [.int u0] (pv_em S) = some (some (.int u0), pv_em S) := pv_Rret dX7_count_21 rfl
theorem dX7_finding_0 : decode cX7_finding 0 = .ok (.aload_n 0, 1) := by decide +kernel
theorem dX7_finding_1 : decode cX7_finding 1 = .ok (.getfield 66, 3) := by decide +kernel
theorem dX7_finding_4 : decode cX7_finding 4 = .ok (.ireturn, 1) := by decide +kernel
set_option maxHeartbeats 200000 in
theorem bX7_finding_0 {S : pv_S} : pv_R mX7_finding 0 [some (.ref 37)] [] (pv_em S) = some (some (.int (S.1 37 16)), pv_em S) := Eq.trans (pv_Rstp dX7_finding_0 rfl rfl rfl) (Eq.trans (pv_Rget dX7_finding_1 ffX7_66 (by decide) (pv_ce_37 _ _) rfl) (pv_Rret dX7_finding_4 rfl))
theorem dX7_findings_0 : decode cX7_findings 0 = .ok (.iload_n 1, 1) := by decide +kernel
theorem dX7_findings_1 : decode cX7_findings 1 = .ok (.i2l, 1) := by decide +kernel
theorem dX7_findings_2 : decode cX7_findings 2 = .ok (.lconst 1, 1) := by decide +kernel
theorem dX7_findings_3 : decode cX7_findings 3 = .ok (.ldc2_w 73, 3) := by decide +kernel
theorem dX7_findings_6 : decode cX7_findings 6 = .ok (.invokestatic 75, 3) := by decide +kernel
theorem dX7_findings_9 : decode cX7_findings 9 = .ok (.ifCond .eq 12, 3) := by decide +kernel
theorem dX7_findings_12 : decode cX7_findings 12 = .ok (.aload_n 0, 1) := by decide +kernel
theorem dX7_findings_13 : decode cX7_findings 13 = .ok (.getfield 45, 3) := by decide +kernel
theorem dX7_findings_16 : decode cX7_findings 16 = .ok (.iload_n 1, 1) := by decide +kernel
theorem dX7_findings_17 : decode cX7_findings 17 = .ok (.iaload, 1) := by decide +kernel
theorem dX7_findings_18 : decode cX7_findings 18 = .ok (.goto 4, 3) := by decide +kernel
theorem dX7_findings_21 : decode cX7_findings 21 = .ok (.iconst (-1), 1) := by decide +kernel
theorem dX7_findings_22 : decode cX7_findings 22 = .ok (.ireturn, 1) := by decide +kernel
set_option maxHeartbeats 200000 in
theorem bX7_findings_0 {S : pv_S} {x1 : Int32} : pv_R mX7_findings 0 [some (.ref 37), some (.int x1)] [] (pv_em S) = pv_cc (pv_R mX7_in 0 [some (.long (Int32.toInt64 x1)), none, some (.long 1), none, some (.long 5), none] [] (pv_em S)) mX7_findings 9 [some (.ref 37), some (.int x1)] [] := Eq.trans (pv_Rstp dX7_findings_0 rfl rfl rfl) (Eq.trans (pv_Rstp dX7_findings_1 rfl rfl rfl) (Eq.trans (pv_Rlc dX7_findings_2 kl_1) (Eq.trans (pv_Rstp dX7_findings_3 rfl rfl rfl) (pv_Rcall (As := [.long (Int32.toInt64 x1), .long 1, .long 5]) (rest := []) dX7_findings_6 rfl mfX7_75 rfl rfl rfl rfl rfl))))
set_option maxHeartbeats 200000 in
theorem bX7_findings_9 {S : pv_S} {x1 u0 : Int32} : pv_R mX7_findings 9 [some (.ref 37), some (.int x1)] [.int u0] (pv_em S) = if u0 = 0 then pv_R mX7_findings 21 [some (.ref 37), some (.int x1)] [] (pv_em S) else pv_R mX7_findings 12 [some (.ref 37), some (.int x1)] [] (pv_em S) := pv_Rbr (tgt := 21) dX7_findings_9 rfl rfl rfl rfl rfl (by decide)
set_option maxHeartbeats 200000 in
theorem bX7_findings_12 {S : pv_S} {x1 : Int32} : pv_R mX7_findings 12 [some (.ref 37), some (.int x1)] [] (pv_em S) = if x1 < 0 ∨ 6 ≤ x1.toNatClampNeg then none else pv_R mX7_findings 22 [some (.ref 37), some (.int x1)] [.int (S.1 48 x1.toNatClampNeg)] (pv_em S) := Eq.trans (pv_Rstp dX7_findings_12 rfl rfl rfl) (Eq.trans (pv_Rget dX7_findings_13 ffX7_45 (by decide) (pv_ce_37 _ _) rfl) (Eq.trans (pv_Rstp dX7_findings_16 rfl rfl rfl) (Eq.trans (pv_Rald dX7_findings_17 (by decide) (pv_ce_48 _ _)) (pv_iteN (fun h1 => pv_Rgo (tgt := 22) dX7_findings_18 rfl (by decide))))))
set_option maxHeartbeats 200000 in
theorem bX7_findings_21 {S : pv_S} {x1 : Int32} : pv_R mX7_findings 21 [some (.ref 37), some (.int x1)] [] (pv_em S) = pv_R mX7_findings 22 [some (.ref 37), some (.int x1)] [.int (-1)] (pv_em S) := pv_Ric dX7_findings_21 ki_m1
set_option maxHeartbeats 200000 in
theorem bX7_findings_22 {S : pv_S} {x1 u0 : Int32} : pv_R mX7_findings 22 [some (.ref 37), some (.int x1)] [.int u0] (pv_em S) = some (some (.int u0), pv_em S) := pv_Rret dX7_findings_22 rfl
theorem dX7_digest_0 : decode cX7_digest 0 = .ok (.ldc2_w 288, 3) := by decide +kernel
theorem dX7_digest_3 : decode cX7_digest 3 = .ok (.lstore_n 1, 1) := by decide +kernel
theorem dX7_digest_4 : decode cX7_digest 4 = .ok (.iconst 0, 1) := by decide +kernel
theorem dX7_digest_5 : decode cX7_digest 5 = .ok (.istore_n 3, 1) := by decide +kernel
theorem dX7_digest_6 : decode cX7_digest 6 = .ok (.iload_n 3, 1) := by decide +kernel
theorem dX7_digest_7 : decode cX7_digest 7 = .ok (.bipush 12, 2) := by decide +kernel
theorem dX7_digest_9 : decode cX7_digest 9 = .ok (.if_icmp .ge 22, 3) := by decide +kernel
theorem dX7_digest_12 : decode cX7_digest 12 = .ok (.ldc2_w 290, 3) := by decide +kernel
theorem dX7_digest_15 : decode cX7_digest 15 = .ok (.lload_n 1, 1) := by decide +kernel
theorem dX7_digest_16 : decode cX7_digest 16 = .ok (.lmul, 1) := by decide +kernel
theorem dX7_digest_17 : decode cX7_digest 17 = .ok (.aload_n 0, 1) := by decide +kernel
theorem dX7_digest_18 : decode cX7_digest 18 = .ok (.iload_n 3, 1) := by decide +kernel
theorem dX7_digest_19 : decode cX7_digest 19 = .ok (.invokevirtual 285, 3) := by decide +kernel
theorem dX7_digest_22 : decode cX7_digest 22 = .ok (.i2l, 1) := by decide +kernel
theorem dX7_digest_23 : decode cX7_digest 23 = .ok (.ladd, 1) := by decide +kernel
theorem dX7_digest_24 : decode cX7_digest 24 = .ok (.lstore_n 1, 1) := by decide +kernel
theorem dX7_digest_25 : decode cX7_digest 25 = .ok (.iinc 3 1, 3) := by decide +kernel
theorem dX7_digest_28 : decode cX7_digest 28 = .ok (.goto (-22), 3) := by decide +kernel
theorem dX7_digest_31 : decode cX7_digest 31 = .ok (.ldc2_w 290, 3) := by decide +kernel
theorem dX7_digest_34 : decode cX7_digest 34 = .ok (.lload_n 1, 1) := by decide +kernel
theorem dX7_digest_35 : decode cX7_digest 35 = .ok (.lmul, 1) := by decide +kernel
theorem dX7_digest_36 : decode cX7_digest 36 = .ok (.aload_n 0, 1) := by decide +kernel
theorem dX7_digest_37 : decode cX7_digest 37 = .ok (.getfield 28, 3) := by decide +kernel
theorem dX7_digest_40 : decode cX7_digest 40 = .ok (.bipush 7, 2) := by decide +kernel
theorem dX7_digest_42 : decode cX7_digest 42 = .ok (.iaload, 1) := by decide +kernel
theorem dX7_digest_43 : decode cX7_digest 43 = .ok (.i2l, 1) := by decide +kernel
theorem dX7_digest_44 : decode cX7_digest 44 = .ok (.ladd, 1) := by decide +kernel
theorem dX7_digest_45 : decode cX7_digest 45 = .ok (.lstore_n 1, 1) := by decide +kernel
theorem dX7_digest_46 : decode cX7_digest 46 = .ok (.iconst 0, 1) := by decide +kernel
theorem dX7_digest_47 : decode cX7_digest 47 = .ok (.istore_n 3, 1) := by decide +kernel
theorem dX7_digest_48 : decode cX7_digest 48 = .ok (.iload_n 3, 1) := by decide +kernel
theorem dX7_digest_49 : decode cX7_digest 49 = .ok (.aload_n 0, 1) := by decide +kernel
theorem dX7_digest_50 : decode cX7_digest 50 = .ok (.getfield 138, 3) := by decide +kernel
theorem dX7_digest_53 : decode cX7_digest 53 = .ok (.if_icmp .ge 39, 3) := by decide +kernel
theorem dX7_digest_56 : decode cX7_digest 56 = .ok (.iconst 0, 1) := by decide +kernel
theorem dX7_digest_57 : decode cX7_digest 57 = .ok (.istore 4, 2) := by decide +kernel
theorem dX7_digest_59 : decode cX7_digest 59 = .ok (.iload 4, 2) := by decide +kernel
theorem dX7_digest_61 : decode cX7_digest 61 = .ok (.iconst 5, 1) := by decide +kernel
theorem dX7_digest_62 : decode cX7_digest 62 = .ok (.if_icmp .ge 24, 3) := by decide +kernel
theorem dX7_digest_65 : decode cX7_digest 65 = .ok (.ldc2_w 290, 3) := by decide +kernel
theorem dX7_digest_68 : decode cX7_digest 68 = .ok (.lload_n 1, 1) := by decide +kernel
theorem dX7_digest_69 : decode cX7_digest 69 = .ok (.lmul, 1) := by decide +kernel
theorem dX7_digest_70 : decode cX7_digest 70 = .ok (.aload_n 0, 1) := by decide +kernel
theorem dX7_digest_71 : decode cX7_digest 71 = .ok (.iload_n 3, 1) := by decide +kernel
theorem dX7_digest_72 : decode cX7_digest 72 = .ok (.iload 4, 2) := by decide +kernel
theorem dX7_digest_74 : decode cX7_digest 74 = .ok (.invokevirtual 170, 3) := by decide +kernel
theorem dX7_digest_77 : decode cX7_digest 77 = .ok (.i2l, 1) := by decide +kernel
theorem dX7_digest_78 : decode cX7_digest 78 = .ok (.ladd, 1) := by decide +kernel
theorem dX7_digest_79 : decode cX7_digest 79 = .ok (.lstore_n 1, 1) := by decide +kernel
theorem dX7_digest_80 : decode cX7_digest 80 = .ok (.iinc 4 1, 3) := by decide +kernel
theorem dX7_digest_83 : decode cX7_digest 83 = .ok (.goto (-24), 3) := by decide +kernel
theorem dX7_digest_86 : decode cX7_digest 86 = .ok (.iinc 3 1, 3) := by decide +kernel
theorem dX7_digest_89 : decode cX7_digest 89 = .ok (.goto (-41), 3) := by decide +kernel
theorem dX7_digest_92 : decode cX7_digest 92 = .ok (.iconst 0, 1) := by decide +kernel
theorem dX7_digest_93 : decode cX7_digest 93 = .ok (.istore_n 3, 1) := by decide +kernel
theorem dX7_digest_94 : decode cX7_digest 94 = .ok (.iload_n 3, 1) := by decide +kernel
theorem dX7_digest_95 : decode cX7_digest 95 = .ok (.iconst 3, 1) := by decide +kernel
theorem dX7_digest_96 : decode cX7_digest 96 = .ok (.if_icmp .ge 44, 3) := by decide +kernel
theorem dX7_digest_99 : decode cX7_digest 99 = .ok (.ldc2_w 290, 3) := by decide +kernel
theorem dX7_digest_102 : decode cX7_digest 102 = .ok (.lload_n 1, 1) := by decide +kernel
theorem dX7_digest_103 : decode cX7_digest 103 = .ok (.lmul, 1) := by decide +kernel
theorem dX7_digest_104 : decode cX7_digest 104 = .ok (.aload_n 0, 1) := by decide +kernel
theorem dX7_digest_105 : decode cX7_digest 105 = .ok (.getfield 37, 3) := by decide +kernel
theorem dX7_digest_108 : decode cX7_digest 108 = .ok (.iload_n 3, 1) := by decide +kernel
theorem dX7_digest_109 : decode cX7_digest 109 = .ok (.baload, 1) := by decide +kernel
theorem dX7_digest_110 : decode cX7_digest 110 = .ok (.ifCond .eq 20, 3) := by decide +kernel
theorem dX7_digest_113 : decode cX7_digest 113 = .ok (.aload_n 0, 1) := by decide +kernel
theorem dX7_digest_114 : decode cX7_digest 114 = .ok (.getfield 34, 3) := by decide +kernel
theorem dX7_digest_117 : decode cX7_digest 117 = .ok (.sipush 411, 3) := by decide +kernel
theorem dX7_digest_120 : decode cX7_digest 120 = .ok (.iload_n 3, 1) := by decide +kernel
theorem dX7_digest_121 : decode cX7_digest 121 = .ok (.imul, 1) := by decide +kernel
theorem dX7_digest_122 : decode cX7_digest 122 = .ok (.sipush 410, 3) := by decide +kernel
theorem dX7_digest_125 : decode cX7_digest 125 = .ok (.iadd, 1) := by decide +kernel
theorem dX7_digest_126 : decode cX7_digest 126 = .ok (.iaload, 1) := by decide +kernel
theorem dX7_digest_127 : decode cX7_digest 127 = .ok (.goto 4, 3) := by decide +kernel
theorem dX7_digest_130 : decode cX7_digest 130 = .ok (.iconst (-1), 1) := by decide +kernel
theorem dX7_digest_131 : decode cX7_digest 131 = .ok (.i2l, 1) := by decide +kernel
theorem dX7_digest_132 : decode cX7_digest 132 = .ok (.ladd, 1) := by decide +kernel
theorem dX7_digest_133 : decode cX7_digest 133 = .ok (.lstore_n 1, 1) := by decide +kernel
theorem dX7_digest_134 : decode cX7_digest 134 = .ok (.iinc 3 1, 3) := by decide +kernel
theorem dX7_digest_137 : decode cX7_digest 137 = .ok (.goto (-43), 3) := by decide +kernel
theorem dX7_digest_140 : decode cX7_digest 140 = .ok (.iconst 0, 1) := by decide +kernel
theorem dX7_digest_141 : decode cX7_digest 141 = .ok (.istore_n 3, 1) := by decide +kernel
theorem dX7_digest_142 : decode cX7_digest 142 = .ok (.iload_n 3, 1) := by decide +kernel
theorem dX7_digest_143 : decode cX7_digest 143 = .ok (.bipush 6, 2) := by decide +kernel
theorem dX7_digest_145 : decode cX7_digest 145 = .ok (.if_icmp .ge 63, 3) := by decide +kernel
theorem dX7_digest_148 : decode cX7_digest 148 = .ok (.ldc2_w 290, 3) := by decide +kernel
theorem dX7_digest_151 : decode cX7_digest 151 = .ok (.lload_n 1, 1) := by decide +kernel
theorem dX7_digest_152 : decode cX7_digest 152 = .ok (.lmul, 1) := by decide +kernel
theorem dX7_digest_153 : decode cX7_digest 153 = .ok (.aload_n 0, 1) := by decide +kernel
theorem dX7_digest_154 : decode cX7_digest 154 = .ok (.getfield 7, 3) := by decide +kernel
theorem dX7_digest_157 : decode cX7_digest 157 = .ok (.iload_n 3, 1) := by decide +kernel
theorem dX7_digest_158 : decode cX7_digest 158 = .ok (.iaload, 1) := by decide +kernel
theorem dX7_digest_159 : decode cX7_digest 159 = .ok (.i2l, 1) := by decide +kernel
theorem dX7_digest_160 : decode cX7_digest 160 = .ok (.ladd, 1) := by decide +kernel
theorem dX7_digest_161 : decode cX7_digest 161 = .ok (.lstore_n 1, 1) := by decide +kernel
theorem dX7_digest_162 : decode cX7_digest 162 = .ok (.iconst 0, 1) := by decide +kernel
theorem dX7_digest_163 : decode cX7_digest 163 = .ok (.istore 4, 2) := by decide +kernel
theorem dX7_digest_165 : decode cX7_digest 165 = .ok (.iload 4, 2) := by decide +kernel
theorem dX7_digest_167 : decode cX7_digest 167 = .ok (.aload_n 0, 1) := by decide +kernel
theorem dX7_digest_168 : decode cX7_digest 168 = .ok (.getfield 7, 3) := by decide +kernel
theorem dX7_digest_171 : decode cX7_digest 171 = .ok (.iload_n 3, 1) := by decide +kernel
theorem dX7_digest_172 : decode cX7_digest 172 = .ok (.iaload, 1) := by decide +kernel
theorem dX7_digest_173 : decode cX7_digest 173 = .ok (.if_icmp .ge 29, 3) := by decide +kernel
theorem dX7_digest_176 : decode cX7_digest 176 = .ok (.ldc2_w 290, 3) := by decide +kernel
theorem dX7_digest_179 : decode cX7_digest 179 = .ok (.lload_n 1, 1) := by decide +kernel
theorem dX7_digest_180 : decode cX7_digest 180 = .ok (.lmul, 1) := by decide +kernel
theorem dX7_digest_181 : decode cX7_digest 181 = .ok (.aload_n 0, 1) := by decide +kernel
theorem dX7_digest_182 : decode cX7_digest 182 = .ok (.getfield 13, 3) := by decide +kernel
theorem dX7_digest_185 : decode cX7_digest 185 = .ok (.bipush 40, 2) := by decide +kernel
theorem dX7_digest_187 : decode cX7_digest 187 = .ok (.iload_n 3, 1) := by decide +kernel
theorem dX7_digest_188 : decode cX7_digest 188 = .ok (.imul, 1) := by decide +kernel
theorem dX7_digest_189 : decode cX7_digest 189 = .ok (.iload 4, 2) := by decide +kernel
theorem dX7_digest_191 : decode cX7_digest 191 = .ok (.iadd, 1) := by decide +kernel
theorem dX7_digest_192 : decode cX7_digest 192 = .ok (.iaload, 1) := by decide +kernel
theorem dX7_digest_193 : decode cX7_digest 193 = .ok (.i2l, 1) := by decide +kernel
theorem dX7_digest_194 : decode cX7_digest 194 = .ok (.ladd, 1) := by decide +kernel
theorem dX7_digest_195 : decode cX7_digest 195 = .ok (.lstore_n 1, 1) := by decide +kernel
theorem dX7_digest_196 : decode cX7_digest 196 = .ok (.iinc 4 1, 3) := by decide +kernel
theorem dX7_digest_199 : decode cX7_digest 199 = .ok (.goto (-34), 3) := by decide +kernel
theorem dX7_digest_202 : decode cX7_digest 202 = .ok (.iinc 3 1, 3) := by decide +kernel
theorem dX7_digest_205 : decode cX7_digest 205 = .ok (.goto (-63), 3) := by decide +kernel
theorem dX7_digest_208 : decode cX7_digest 208 = .ok (.iconst 0, 1) := by decide +kernel
theorem dX7_digest_209 : decode cX7_digest 209 = .ok (.istore_n 3, 1) := by decide +kernel
theorem dX7_digest_210 : decode cX7_digest 210 = .ok (.iload_n 3, 1) := by decide +kernel
theorem dX7_digest_211 : decode cX7_digest 211 = .ok (.iconst 4, 1) := by decide +kernel
theorem dX7_digest_212 : decode cX7_digest 212 = .ok (.if_icmp .ge 63, 3) := by decide +kernel
theorem dX7_digest_215 : decode cX7_digest 215 = .ok (.ldc2_w 290, 3) := by decide +kernel
theorem dX7_digest_218 : decode cX7_digest 218 = .ok (.lload_n 1, 1) := by decide +kernel
theorem dX7_digest_219 : decode cX7_digest 219 = .ok (.lmul, 1) := by decide +kernel
theorem dX7_digest_220 : decode cX7_digest 220 = .ok (.aload_n 0, 1) := by decide +kernel
theorem dX7_digest_221 : decode cX7_digest 221 = .ok (.getfield 16, 3) := by decide +kernel
theorem dX7_digest_224 : decode cX7_digest 224 = .ok (.iload_n 3, 1) := by decide +kernel
theorem dX7_digest_225 : decode cX7_digest 225 = .ok (.iaload, 1) := by decide +kernel
theorem dX7_digest_226 : decode cX7_digest 226 = .ok (.i2l, 1) := by decide +kernel
theorem dX7_digest_227 : decode cX7_digest 227 = .ok (.ladd, 1) := by decide +kernel
theorem dX7_digest_228 : decode cX7_digest 228 = .ok (.lstore_n 1, 1) := by decide +kernel
theorem dX7_digest_229 : decode cX7_digest 229 = .ok (.iconst 0, 1) := by decide +kernel
theorem dX7_digest_230 : decode cX7_digest 230 = .ok (.istore 4, 2) := by decide +kernel
theorem dX7_digest_232 : decode cX7_digest 232 = .ok (.iload 4, 2) := by decide +kernel
theorem dX7_digest_234 : decode cX7_digest 234 = .ok (.aload_n 0, 1) := by decide +kernel
theorem dX7_digest_235 : decode cX7_digest 235 = .ok (.getfield 16, 3) := by decide +kernel
theorem dX7_digest_238 : decode cX7_digest 238 = .ok (.iload_n 3, 1) := by decide +kernel
theorem dX7_digest_239 : decode cX7_digest 239 = .ok (.iaload, 1) := by decide +kernel
theorem dX7_digest_240 : decode cX7_digest 240 = .ok (.if_icmp .ge 29, 3) := by decide +kernel
theorem dX7_digest_243 : decode cX7_digest 243 = .ok (.ldc2_w 290, 3) := by decide +kernel
theorem dX7_digest_246 : decode cX7_digest 246 = .ok (.lload_n 1, 1) := by decide +kernel
theorem dX7_digest_247 : decode cX7_digest 247 = .ok (.lmul, 1) := by decide +kernel
theorem dX7_digest_248 : decode cX7_digest 248 = .ok (.aload_n 0, 1) := by decide +kernel
theorem dX7_digest_249 : decode cX7_digest 249 = .ok (.getfield 19, 3) := by decide +kernel
theorem dX7_digest_252 : decode cX7_digest 252 = .ok (.bipush 60, 2) := by decide +kernel
theorem dX7_digest_254 : decode cX7_digest 254 = .ok (.iload_n 3, 1) := by decide +kernel
theorem dX7_digest_255 : decode cX7_digest 255 = .ok (.imul, 1) := by decide +kernel
theorem dX7_digest_256 : decode cX7_digest 256 = .ok (.iload 4, 2) := by decide +kernel
theorem dX7_digest_258 : decode cX7_digest 258 = .ok (.iadd, 1) := by decide +kernel
theorem dX7_digest_259 : decode cX7_digest 259 = .ok (.iaload, 1) := by decide +kernel
theorem dX7_digest_260 : decode cX7_digest 260 = .ok (.i2l, 1) := by decide +kernel
theorem dX7_digest_261 : decode cX7_digest 261 = .ok (.ladd, 1) := by decide +kernel
theorem dX7_digest_262 : decode cX7_digest 262 = .ok (.lstore_n 1, 1) := by decide +kernel
theorem dX7_digest_263 : decode cX7_digest 263 = .ok (.iinc 4 1, 3) := by decide +kernel
theorem dX7_digest_266 : decode cX7_digest 266 = .ok (.goto (-34), 3) := by decide +kernel
theorem dX7_digest_269 : decode cX7_digest 269 = .ok (.iinc 3 1, 3) := by decide +kernel
theorem dX7_digest_272 : decode cX7_digest 272 = .ok (.goto (-62), 3) := by decide +kernel
theorem dX7_digest_275 : decode cX7_digest 275 = .ok (.lload_n 1, 1) := by decide +kernel
theorem dX7_digest_276 : decode cX7_digest 276 = .ok (.lreturn, 1) := by decide +kernel
set_option maxHeartbeats 200000 in
theorem bX7_digest_0 {S : pv_S} {a1 a2 a3 a4 : Option Value} : pv_R mX7_digest 0 [some (.ref 37), a1, a2, a3, a4] [] (pv_em S) = pv_R mX7_digest 6 [some (.ref 37), some (.long 17), none, some (.int 0), a4] [] (pv_em S) := Eq.trans (pv_Rstp dX7_digest_0 rfl rfl rfl) (Eq.trans (pv_Rstp dX7_digest_3 rfl rfl rfl) (Eq.trans (pv_Ric dX7_digest_4 ki_0) (pv_Rstp dX7_digest_5 rfl rfl rfl)))
set_option maxHeartbeats 200000 in
theorem bX7_digest_6 {S : pv_S} {x1 : Int64} {a2 a4 : Option Value} {x3 : Int32} : pv_R mX7_digest 6 [some (.ref 37), some (.long x1), a2, some (.int x3), a4] [] (pv_em S) = if 12 ≤ x3 then pv_R mX7_digest 31 [some (.ref 37), some (.long x1), a2, some (.int x3), a4] [] (pv_em S) else pv_R mX7_digest 12 [some (.ref 37), some (.long x1), a2, some (.int x3), a4] [] (pv_em S) := Eq.trans (pv_Rstp dX7_digest_6 rfl rfl rfl) (Eq.trans (pv_Rbp dX7_digest_7 kb_12) (pv_Rbr (tgt := 31) dX7_digest_9 rfl rfl rfl rfl rfl (by decide)))
set_option maxHeartbeats 200000 in
theorem bX7_digest_12 {S : pv_S} {x1 : Int64} {a2 a4 : Option Value} {x3 : Int32} : pv_R mX7_digest 12 [some (.ref 37), some (.long x1), a2, some (.int x3), a4] [] (pv_em S) = pv_cc (pv_R mX7_counted 0 [some (.ref 37), some (.int x3), none, none] [] (pv_em S)) mX7_digest 22 [some (.ref 37), some (.long x1), a2, some (.int x3), a4] [.long (31 * x1)] := Eq.trans (pv_Rstp dX7_digest_12 rfl rfl rfl) (Eq.trans (pv_Rstp dX7_digest_15 rfl rfl rfl) (Eq.trans (pv_Rstp dX7_digest_16 rfl rfl rfl) (Eq.trans (pv_Rstp dX7_digest_17 rfl rfl rfl) (Eq.trans (pv_Rstp dX7_digest_18 rfl rfl rfl) (pv_Rcall (As := [.ref 37, .int x3]) (rest := [.long (31 * x1)]) dX7_digest_19 rfl mfX7_285 rfl rfl rfl rfl rfl)))))
set_option maxHeartbeats 200000 in
theorem bX7_digest_22 {S : pv_S} {x1 u1 : Int64} {a2 a4 : Option Value} {x3 u0 : Int32} : pv_R mX7_digest 22 [some (.ref 37), some (.long x1), a2, some (.int x3), a4] [.int u0, .long u1] (pv_em S) = pv_R mX7_digest 6 [some (.ref 37), some (.long (u1 + (Int32.toInt64 u0))), none, some (.int (x3 + 1)), a4] [] (pv_em S) := Eq.trans (pv_Rstp dX7_digest_22 rfl rfl rfl) (Eq.trans (pv_Rstp dX7_digest_23 rfl rfl rfl) (Eq.trans (pv_Rstp dX7_digest_24 rfl rfl rfl) (Eq.trans (pv_Rinc dX7_digest_25 rfl (Nat.le_of_ble_eq_true rfl) ki_1 rfl) (pv_Rgo (tgt := 6) dX7_digest_28 rfl (by decide)))))
set_option maxHeartbeats 200000 in
theorem bX7_digest_31 {S : pv_S} {x1 : Int64} {a2 a4 : Option Value} {x3 : Int32} : pv_R mX7_digest 31 [some (.ref 37), some (.long x1), a2, some (.int x3), a4] [] (pv_em S) = pv_R mX7_digest 48 [some (.ref 37), some (.long ((31 * x1) + (Int32.toInt64 (S.1 44 (7 : Int32).toNatClampNeg)))), none, some (.int 0), a4] [] (pv_em S) := Eq.trans (pv_Rstp dX7_digest_31 rfl rfl rfl) (Eq.trans (pv_Rstp dX7_digest_34 rfl rfl rfl) (Eq.trans (pv_Rstp dX7_digest_35 rfl rfl rfl) (Eq.trans (pv_Rstp dX7_digest_36 rfl rfl rfl) (Eq.trans (pv_Rget dX7_digest_37 ffX7_28 (by decide) (pv_ce_37 _ _) rfl) (Eq.trans (pv_Rbp dX7_digest_40 kb_7) (Eq.trans (pv_Rald dX7_digest_42 (by decide) (pv_ce_44 _ _)) (Eq.trans (if_neg (by decide +kernel)) (Eq.trans (pv_Rstp dX7_digest_43 rfl rfl rfl) (Eq.trans (pv_Rstp dX7_digest_44 rfl rfl rfl) (Eq.trans (pv_Rstp dX7_digest_45 rfl rfl rfl) (Eq.trans (pv_Ric dX7_digest_46 ki_0) (pv_Rstp dX7_digest_47 rfl rfl rfl))))))))))))
set_option maxHeartbeats 200000 in
theorem bX7_digest_48 {S : pv_S} {x1 : Int64} {a2 a4 : Option Value} {x3 : Int32} : pv_R mX7_digest 48 [some (.ref 37), some (.long x1), a2, some (.int x3), a4] [] (pv_em S) = if (S.1 37 4) ≤ x3 then pv_R mX7_digest 92 [some (.ref 37), some (.long x1), a2, some (.int x3), a4] [] (pv_em S) else pv_R mX7_digest 56 [some (.ref 37), some (.long x1), a2, some (.int x3), a4] [] (pv_em S) := Eq.trans (pv_Rstp dX7_digest_48 rfl rfl rfl) (Eq.trans (pv_Rstp dX7_digest_49 rfl rfl rfl) (Eq.trans (pv_Rget dX7_digest_50 ffX7_138 (by decide) (pv_ce_37 _ _) rfl) (pv_Rbr (tgt := 92) dX7_digest_53 rfl rfl rfl rfl rfl (by decide))))
set_option maxHeartbeats 200000 in
theorem bX7_digest_56 {S : pv_S} {x1 : Int64} {a2 a4 : Option Value} {x3 : Int32} : pv_R mX7_digest 56 [some (.ref 37), some (.long x1), a2, some (.int x3), a4] [] (pv_em S) = pv_R mX7_digest 59 [some (.ref 37), some (.long x1), a2, some (.int x3), some (.int 0)] [] (pv_em S) := Eq.trans (pv_Ric dX7_digest_56 ki_0) (pv_Rstp dX7_digest_57 rfl rfl rfl)
set_option maxHeartbeats 200000 in
theorem bX7_digest_59 {S : pv_S} {x1 : Int64} {a2 : Option Value} {x3 x4 : Int32} : pv_R mX7_digest 59 [some (.ref 37), some (.long x1), a2, some (.int x3), some (.int x4)] [] (pv_em S) = if 5 ≤ x4 then pv_R mX7_digest 86 [some (.ref 37), some (.long x1), a2, some (.int x3), some (.int x4)] [] (pv_em S) else pv_R mX7_digest 65 [some (.ref 37), some (.long x1), a2, some (.int x3), some (.int x4)] [] (pv_em S) := Eq.trans (pv_Rstp dX7_digest_59 rfl rfl rfl) (Eq.trans (pv_Ric dX7_digest_61 ki_5) (pv_Rbr (tgt := 86) dX7_digest_62 rfl rfl rfl rfl rfl (by decide)))
set_option maxHeartbeats 200000 in
theorem bX7_digest_65 {S : pv_S} {x1 : Int64} {a2 : Option Value} {x3 x4 : Int32} : pv_R mX7_digest 65 [some (.ref 37), some (.long x1), a2, some (.int x3), some (.int x4)] [] (pv_em S) = pv_cc (pv_R mX7_told 0 [some (.ref 37), some (.int x3), some (.int x4)] [] (pv_em S)) mX7_digest 77 [some (.ref 37), some (.long x1), a2, some (.int x3), some (.int x4)] [.long (31 * x1)] := Eq.trans (pv_Rstp dX7_digest_65 rfl rfl rfl) (Eq.trans (pv_Rstp dX7_digest_68 rfl rfl rfl) (Eq.trans (pv_Rstp dX7_digest_69 rfl rfl rfl) (Eq.trans (pv_Rstp dX7_digest_70 rfl rfl rfl) (Eq.trans (pv_Rstp dX7_digest_71 rfl rfl rfl) (Eq.trans (pv_Rstp dX7_digest_72 rfl rfl rfl) (pv_Rcall (As := [.ref 37, .int x3, .int x4]) (rest := [.long (31 * x1)]) dX7_digest_74 rfl mfX7_170 rfl rfl rfl rfl rfl))))))
set_option maxHeartbeats 200000 in
theorem bX7_digest_77 {S : pv_S} {x1 u1 : Int64} {a2 : Option Value} {x3 x4 u0 : Int32} : pv_R mX7_digest 77 [some (.ref 37), some (.long x1), a2, some (.int x3), some (.int x4)] [.int u0, .long u1] (pv_em S) = pv_R mX7_digest 59 [some (.ref 37), some (.long (u1 + (Int32.toInt64 u0))), none, some (.int x3), some (.int (x4 + 1))] [] (pv_em S) := Eq.trans (pv_Rstp dX7_digest_77 rfl rfl rfl) (Eq.trans (pv_Rstp dX7_digest_78 rfl rfl rfl) (Eq.trans (pv_Rstp dX7_digest_79 rfl rfl rfl) (Eq.trans (pv_Rinc dX7_digest_80 rfl (Nat.le_of_ble_eq_true rfl) ki_1 rfl) (pv_Rgo (tgt := 59) dX7_digest_83 rfl (by decide)))))
set_option maxHeartbeats 200000 in
theorem bX7_digest_86 {S : pv_S} {x1 : Int64} {a2 : Option Value} {x3 x4 : Int32} : pv_R mX7_digest 86 [some (.ref 37), some (.long x1), a2, some (.int x3), some (.int x4)] [] (pv_em S) = pv_R mX7_digest 48 [some (.ref 37), some (.long x1), (pv_nl a2), some (.int (x3 + 1)), some (.int x4)] [] (pv_em S) := Eq.trans (pv_Rinc dX7_digest_86 rfl (Nat.le_of_ble_eq_true rfl) ki_1 rfl) (pv_Rgo (tgt := 48) dX7_digest_89 rfl (by decide))
set_option maxHeartbeats 200000 in
theorem bX7_digest_92 {S : pv_S} {x1 : Int64} {a2 a4 : Option Value} {x3 : Int32} : pv_R mX7_digest 92 [some (.ref 37), some (.long x1), a2, some (.int x3), a4] [] (pv_em S) = pv_R mX7_digest 94 [some (.ref 37), some (.long x1), (pv_nl a2), some (.int 0), a4] [] (pv_em S) := Eq.trans (pv_Ric dX7_digest_92 ki_0) (pv_Rstp dX7_digest_93 rfl rfl rfl)
set_option maxHeartbeats 200000 in
theorem bX7_digest_94 {S : pv_S} {x1 : Int64} {a2 a4 : Option Value} {x3 : Int32} : pv_R mX7_digest 94 [some (.ref 37), some (.long x1), a2, some (.int x3), a4] [] (pv_em S) = if 3 ≤ x3 then pv_R mX7_digest 140 [some (.ref 37), some (.long x1), a2, some (.int x3), a4] [] (pv_em S) else pv_R mX7_digest 99 [some (.ref 37), some (.long x1), a2, some (.int x3), a4] [] (pv_em S) := Eq.trans (pv_Rstp dX7_digest_94 rfl rfl rfl) (Eq.trans (pv_Ric dX7_digest_95 ki_3) (pv_Rbr (tgt := 140) dX7_digest_96 rfl rfl rfl rfl rfl (by decide)))
set_option maxHeartbeats 200000 in
theorem bX7_digest_99 {S : pv_S} {x1 : Int64} {a2 a4 : Option Value} {x3 : Int32} : pv_R mX7_digest 99 [some (.ref 37), some (.long x1), a2, some (.int x3), a4] [] (pv_em S) = if x3 < 0 ∨ 3 ≤ x3.toNatClampNeg then none else if (S.1 47 x3.toNatClampNeg) = 0 then pv_R mX7_digest 130 [some (.ref 37), some (.long x1), a2, some (.int x3), a4] [.long (31 * x1)] (pv_em S) else pv_R mX7_digest 113 [some (.ref 37), some (.long x1), a2, some (.int x3), a4] [.long (31 * x1)] (pv_em S) := Eq.trans (pv_Rstp dX7_digest_99 rfl rfl rfl) (Eq.trans (pv_Rstp dX7_digest_102 rfl rfl rfl) (Eq.trans (pv_Rstp dX7_digest_103 rfl rfl rfl) (Eq.trans (pv_Rstp dX7_digest_104 rfl rfl rfl) (Eq.trans (pv_Rget dX7_digest_105 ffX7_37 (by decide) (pv_ce_37 _ _) rfl) (Eq.trans (pv_Rstp dX7_digest_108 rfl rfl rfl) (Eq.trans (pv_Rzald dX7_digest_109 (by decide) (pv_ce_47 _ _)) (pv_iteN (fun h1 => pv_Rbr (tgt := 130) dX7_digest_110 rfl rfl rfl rfl rfl (by decide)))))))))
set_option maxHeartbeats 200000 in
theorem bX7_digest_113 {S : pv_S} {x1 u0 : Int64} {a2 a4 : Option Value} {x3 : Int32} : pv_R mX7_digest 113 [some (.ref 37), some (.long x1), a2, some (.int x3), a4] [.long u0] (pv_em S) = if ((411 * x3) + 410) < 0 ∨ 1233 ≤ (((411 * x3) + 410)).toNatClampNeg then none else pv_R mX7_digest 131 [some (.ref 37), some (.long x1), a2, some (.int x3), a4] [.int (S.1 46 (((411 * x3) + 410)).toNatClampNeg), .long u0] (pv_em S) := Eq.trans (pv_Rstp dX7_digest_113 rfl rfl rfl) (Eq.trans (pv_Rget dX7_digest_114 ffX7_34 (by decide) (pv_ce_37 _ _) rfl) (Eq.trans (pv_Rsp dX7_digest_117 ks_411) (Eq.trans (pv_Rstp dX7_digest_120 rfl rfl rfl) (Eq.trans (pv_Rstp dX7_digest_121 rfl rfl rfl) (Eq.trans (pv_Rsp dX7_digest_122 ks_410) (Eq.trans (pv_Rstp dX7_digest_125 rfl rfl rfl) (Eq.trans (pv_Rald dX7_digest_126 (by decide) (pv_ce_46 _ _)) (pv_iteN (fun h1 => pv_Rgo (tgt := 131) dX7_digest_127 rfl (by decide))))))))))
set_option maxHeartbeats 200000 in
theorem bX7_digest_130 {S : pv_S} {x1 u0 : Int64} {a2 a4 : Option Value} {x3 : Int32} : pv_R mX7_digest 130 [some (.ref 37), some (.long x1), a2, some (.int x3), a4] [.long u0] (pv_em S) = pv_R mX7_digest 131 [some (.ref 37), some (.long x1), a2, some (.int x3), a4] [.int (-1), .long u0] (pv_em S) := pv_Ric dX7_digest_130 ki_m1
set_option maxHeartbeats 200000 in
theorem bX7_digest_131 {S : pv_S} {x1 u1 : Int64} {a2 a4 : Option Value} {x3 u0 : Int32} : pv_R mX7_digest 131 [some (.ref 37), some (.long x1), a2, some (.int x3), a4] [.int u0, .long u1] (pv_em S) = pv_R mX7_digest 94 [some (.ref 37), some (.long (u1 + (Int32.toInt64 u0))), none, some (.int (x3 + 1)), a4] [] (pv_em S) := Eq.trans (pv_Rstp dX7_digest_131 rfl rfl rfl) (Eq.trans (pv_Rstp dX7_digest_132 rfl rfl rfl) (Eq.trans (pv_Rstp dX7_digest_133 rfl rfl rfl) (Eq.trans (pv_Rinc dX7_digest_134 rfl (Nat.le_of_ble_eq_true rfl) ki_1 rfl) (pv_Rgo (tgt := 94) dX7_digest_137 rfl (by decide)))))
set_option maxHeartbeats 200000 in
theorem bX7_digest_140 {S : pv_S} {x1 : Int64} {a2 a4 : Option Value} {x3 : Int32} : pv_R mX7_digest 140 [some (.ref 37), some (.long x1), a2, some (.int x3), a4] [] (pv_em S) = pv_R mX7_digest 142 [some (.ref 37), some (.long x1), (pv_nl a2), some (.int 0), a4] [] (pv_em S) := Eq.trans (pv_Ric dX7_digest_140 ki_0) (pv_Rstp dX7_digest_141 rfl rfl rfl)
set_option maxHeartbeats 200000 in
theorem bX7_digest_142 {S : pv_S} {x1 : Int64} {a2 a4 : Option Value} {x3 : Int32} : pv_R mX7_digest 142 [some (.ref 37), some (.long x1), a2, some (.int x3), a4] [] (pv_em S) = if 6 ≤ x3 then pv_R mX7_digest 208 [some (.ref 37), some (.long x1), a2, some (.int x3), a4] [] (pv_em S) else pv_R mX7_digest 148 [some (.ref 37), some (.long x1), a2, some (.int x3), a4] [] (pv_em S) := Eq.trans (pv_Rstp dX7_digest_142 rfl rfl rfl) (Eq.trans (pv_Rbp dX7_digest_143 kb_6) (pv_Rbr (tgt := 208) dX7_digest_145 rfl rfl rfl rfl rfl (by decide)))
set_option maxHeartbeats 200000 in
theorem bX7_digest_148 {S : pv_S} {x1 : Int64} {a2 a4 : Option Value} {x3 : Int32} : pv_R mX7_digest 148 [some (.ref 37), some (.long x1), a2, some (.int x3), a4] [] (pv_em S) = if x3 < 0 ∨ 6 ≤ x3.toNatClampNeg then none else pv_R mX7_digest 165 [some (.ref 37), some (.long ((31 * x1) + (Int32.toInt64 (S.1 38 x3.toNatClampNeg)))), none, some (.int x3), some (.int 0)] [] (pv_em S) := Eq.trans (pv_Rstp dX7_digest_148 rfl rfl rfl) (Eq.trans (pv_Rstp dX7_digest_151 rfl rfl rfl) (Eq.trans (pv_Rstp dX7_digest_152 rfl rfl rfl) (Eq.trans (pv_Rstp dX7_digest_153 rfl rfl rfl) (Eq.trans (pv_Rget dX7_digest_154 ffX7_7 (by decide) (pv_ce_37 _ _) rfl) (Eq.trans (pv_Rstp dX7_digest_157 rfl rfl rfl) (Eq.trans (pv_Rald dX7_digest_158 (by decide) (pv_ce_38 _ _)) (pv_iteN (fun h1 => Eq.trans (pv_Rstp dX7_digest_159 rfl rfl rfl) (Eq.trans (pv_Rstp dX7_digest_160 rfl rfl rfl) (Eq.trans (pv_Rstp dX7_digest_161 rfl rfl rfl) (Eq.trans (pv_Ric dX7_digest_162 ki_0) (pv_Rstp dX7_digest_163 rfl rfl rfl))))))))))))
set_option maxHeartbeats 200000 in
theorem bX7_digest_165 {S : pv_S} {x1 : Int64} {a2 : Option Value} {x3 x4 : Int32} : pv_R mX7_digest 165 [some (.ref 37), some (.long x1), a2, some (.int x3), some (.int x4)] [] (pv_em S) = if x3 < 0 ∨ 6 ≤ x3.toNatClampNeg then none else if (S.1 38 x3.toNatClampNeg) ≤ x4 then pv_R mX7_digest 202 [some (.ref 37), some (.long x1), a2, some (.int x3), some (.int x4)] [] (pv_em S) else pv_R mX7_digest 176 [some (.ref 37), some (.long x1), a2, some (.int x3), some (.int x4)] [] (pv_em S) := Eq.trans (pv_Rstp dX7_digest_165 rfl rfl rfl) (Eq.trans (pv_Rstp dX7_digest_167 rfl rfl rfl) (Eq.trans (pv_Rget dX7_digest_168 ffX7_7 (by decide) (pv_ce_37 _ _) rfl) (Eq.trans (pv_Rstp dX7_digest_171 rfl rfl rfl) (Eq.trans (pv_Rald dX7_digest_172 (by decide) (pv_ce_38 _ _)) (pv_iteN (fun h1 => pv_Rbr (tgt := 202) dX7_digest_173 rfl rfl rfl rfl rfl (by decide)))))))
set_option maxHeartbeats 200000 in
theorem bX7_digest_176 {S : pv_S} {x1 : Int64} {a2 : Option Value} {x3 x4 : Int32} : pv_R mX7_digest 176 [some (.ref 37), some (.long x1), a2, some (.int x3), some (.int x4)] [] (pv_em S) = if ((40 * x3) + x4) < 0 ∨ 240 ≤ (((40 * x3) + x4)).toNatClampNeg then none else pv_R mX7_digest 165 [some (.ref 37), some (.long ((31 * x1) + (Int32.toInt64 (S.1 39 (((40 * x3) + x4)).toNatClampNeg)))), none, some (.int x3), some (.int (x4 + 1))] [] (pv_em S) := Eq.trans (pv_Rstp dX7_digest_176 rfl rfl rfl) (Eq.trans (pv_Rstp dX7_digest_179 rfl rfl rfl) (Eq.trans (pv_Rstp dX7_digest_180 rfl rfl rfl) (Eq.trans (pv_Rstp dX7_digest_181 rfl rfl rfl) (Eq.trans (pv_Rget dX7_digest_182 ffX7_13 (by decide) (pv_ce_37 _ _) rfl) (Eq.trans (pv_Rbp dX7_digest_185 kb_40) (Eq.trans (pv_Rstp dX7_digest_187 rfl rfl rfl) (Eq.trans (pv_Rstp dX7_digest_188 rfl rfl rfl) (Eq.trans (pv_Rstp dX7_digest_189 rfl rfl rfl) (Eq.trans (pv_Rstp dX7_digest_191 rfl rfl rfl) (Eq.trans (pv_Rald dX7_digest_192 (by decide) (pv_ce_39 _ _)) (pv_iteN (fun h1 => Eq.trans (pv_Rstp dX7_digest_193 rfl rfl rfl) (Eq.trans (pv_Rstp dX7_digest_194 rfl rfl rfl) (Eq.trans (pv_Rstp dX7_digest_195 rfl rfl rfl) (Eq.trans (pv_Rinc dX7_digest_196 rfl (Nat.le_of_ble_eq_true rfl) ki_1 rfl) (pv_Rgo (tgt := 165) dX7_digest_199 rfl (by decide)))))))))))))))))
set_option maxHeartbeats 200000 in
theorem bX7_digest_202 {S : pv_S} {x1 : Int64} {a2 : Option Value} {x3 x4 : Int32} : pv_R mX7_digest 202 [some (.ref 37), some (.long x1), a2, some (.int x3), some (.int x4)] [] (pv_em S) = pv_R mX7_digest 142 [some (.ref 37), some (.long x1), (pv_nl a2), some (.int (x3 + 1)), some (.int x4)] [] (pv_em S) := Eq.trans (pv_Rinc dX7_digest_202 rfl (Nat.le_of_ble_eq_true rfl) ki_1 rfl) (pv_Rgo (tgt := 142) dX7_digest_205 rfl (by decide))
set_option maxHeartbeats 200000 in
theorem bX7_digest_208 {S : pv_S} {x1 : Int64} {a2 a4 : Option Value} {x3 : Int32} : pv_R mX7_digest 208 [some (.ref 37), some (.long x1), a2, some (.int x3), a4] [] (pv_em S) = pv_R mX7_digest 210 [some (.ref 37), some (.long x1), (pv_nl a2), some (.int 0), a4] [] (pv_em S) := Eq.trans (pv_Ric dX7_digest_208 ki_0) (pv_Rstp dX7_digest_209 rfl rfl rfl)
set_option maxHeartbeats 200000 in
theorem bX7_digest_210 {S : pv_S} {x1 : Int64} {a2 a4 : Option Value} {x3 : Int32} : pv_R mX7_digest 210 [some (.ref 37), some (.long x1), a2, some (.int x3), a4] [] (pv_em S) = if 4 ≤ x3 then pv_R mX7_digest 275 [some (.ref 37), some (.long x1), a2, some (.int x3), a4] [] (pv_em S) else pv_R mX7_digest 215 [some (.ref 37), some (.long x1), a2, some (.int x3), a4] [] (pv_em S) := Eq.trans (pv_Rstp dX7_digest_210 rfl rfl rfl) (Eq.trans (pv_Ric dX7_digest_211 ki_4) (pv_Rbr (tgt := 275) dX7_digest_212 rfl rfl rfl rfl rfl (by decide)))
set_option maxHeartbeats 200000 in
theorem bX7_digest_215 {S : pv_S} {x1 : Int64} {a2 a4 : Option Value} {x3 : Int32} : pv_R mX7_digest 215 [some (.ref 37), some (.long x1), a2, some (.int x3), a4] [] (pv_em S) = if x3 < 0 ∨ 4 ≤ x3.toNatClampNeg then none else pv_R mX7_digest 232 [some (.ref 37), some (.long ((31 * x1) + (Int32.toInt64 (S.1 40 x3.toNatClampNeg)))), none, some (.int x3), some (.int 0)] [] (pv_em S) := Eq.trans (pv_Rstp dX7_digest_215 rfl rfl rfl) (Eq.trans (pv_Rstp dX7_digest_218 rfl rfl rfl) (Eq.trans (pv_Rstp dX7_digest_219 rfl rfl rfl) (Eq.trans (pv_Rstp dX7_digest_220 rfl rfl rfl) (Eq.trans (pv_Rget dX7_digest_221 ffX7_16 (by decide) (pv_ce_37 _ _) rfl) (Eq.trans (pv_Rstp dX7_digest_224 rfl rfl rfl) (Eq.trans (pv_Rald dX7_digest_225 (by decide) (pv_ce_40 _ _)) (pv_iteN (fun h1 => Eq.trans (pv_Rstp dX7_digest_226 rfl rfl rfl) (Eq.trans (pv_Rstp dX7_digest_227 rfl rfl rfl) (Eq.trans (pv_Rstp dX7_digest_228 rfl rfl rfl) (Eq.trans (pv_Ric dX7_digest_229 ki_0) (pv_Rstp dX7_digest_230 rfl rfl rfl))))))))))))
set_option maxHeartbeats 200000 in
theorem bX7_digest_232 {S : pv_S} {x1 : Int64} {a2 : Option Value} {x3 x4 : Int32} : pv_R mX7_digest 232 [some (.ref 37), some (.long x1), a2, some (.int x3), some (.int x4)] [] (pv_em S) = if x3 < 0 ∨ 4 ≤ x3.toNatClampNeg then none else if (S.1 40 x3.toNatClampNeg) ≤ x4 then pv_R mX7_digest 269 [some (.ref 37), some (.long x1), a2, some (.int x3), some (.int x4)] [] (pv_em S) else pv_R mX7_digest 243 [some (.ref 37), some (.long x1), a2, some (.int x3), some (.int x4)] [] (pv_em S) := Eq.trans (pv_Rstp dX7_digest_232 rfl rfl rfl) (Eq.trans (pv_Rstp dX7_digest_234 rfl rfl rfl) (Eq.trans (pv_Rget dX7_digest_235 ffX7_16 (by decide) (pv_ce_37 _ _) rfl) (Eq.trans (pv_Rstp dX7_digest_238 rfl rfl rfl) (Eq.trans (pv_Rald dX7_digest_239 (by decide) (pv_ce_40 _ _)) (pv_iteN (fun h1 => pv_Rbr (tgt := 269) dX7_digest_240 rfl rfl rfl rfl rfl (by decide)))))))
set_option maxHeartbeats 200000 in
theorem bX7_digest_243 {S : pv_S} {x1 : Int64} {a2 : Option Value} {x3 x4 : Int32} : pv_R mX7_digest 243 [some (.ref 37), some (.long x1), a2, some (.int x3), some (.int x4)] [] (pv_em S) = if ((60 * x3) + x4) < 0 ∨ 240 ≤ (((60 * x3) + x4)).toNatClampNeg then none else pv_R mX7_digest 232 [some (.ref 37), some (.long ((31 * x1) + (Int32.toInt64 (S.1 41 (((60 * x3) + x4)).toNatClampNeg)))), none, some (.int x3), some (.int (x4 + 1))] [] (pv_em S) := Eq.trans (pv_Rstp dX7_digest_243 rfl rfl rfl) (Eq.trans (pv_Rstp dX7_digest_246 rfl rfl rfl) (Eq.trans (pv_Rstp dX7_digest_247 rfl rfl rfl) (Eq.trans (pv_Rstp dX7_digest_248 rfl rfl rfl) (Eq.trans (pv_Rget dX7_digest_249 ffX7_19 (by decide) (pv_ce_37 _ _) rfl) (Eq.trans (pv_Rbp dX7_digest_252 kb_60) (Eq.trans (pv_Rstp dX7_digest_254 rfl rfl rfl) (Eq.trans (pv_Rstp dX7_digest_255 rfl rfl rfl) (Eq.trans (pv_Rstp dX7_digest_256 rfl rfl rfl) (Eq.trans (pv_Rstp dX7_digest_258 rfl rfl rfl) (Eq.trans (pv_Rald dX7_digest_259 (by decide) (pv_ce_41 _ _)) (pv_iteN (fun h1 => Eq.trans (pv_Rstp dX7_digest_260 rfl rfl rfl) (Eq.trans (pv_Rstp dX7_digest_261 rfl rfl rfl) (Eq.trans (pv_Rstp dX7_digest_262 rfl rfl rfl) (Eq.trans (pv_Rinc dX7_digest_263 rfl (Nat.le_of_ble_eq_true rfl) ki_1 rfl) (pv_Rgo (tgt := 232) dX7_digest_266 rfl (by decide)))))))))))))))))
set_option maxHeartbeats 200000 in
theorem bX7_digest_269 {S : pv_S} {x1 : Int64} {a2 : Option Value} {x3 x4 : Int32} : pv_R mX7_digest 269 [some (.ref 37), some (.long x1), a2, some (.int x3), some (.int x4)] [] (pv_em S) = pv_R mX7_digest 210 [some (.ref 37), some (.long x1), (pv_nl a2), some (.int (x3 + 1)), some (.int x4)] [] (pv_em S) := Eq.trans (pv_Rinc dX7_digest_269 rfl (Nat.le_of_ble_eq_true rfl) ki_1 rfl) (pv_Rgo (tgt := 210) dX7_digest_272 rfl (by decide))
set_option maxHeartbeats 200000 in
theorem bX7_digest_275 {S : pv_S} {x1 : Int64} {a2 a4 : Option Value} {x3 : Int32} : pv_R mX7_digest 275 [some (.ref 37), some (.long x1), a2, some (.int x3), a4] [] (pv_em S) = some (some (.long x1), pv_em S) := Eq.trans (pv_Rstp dX7_digest_275 rfl rfl rfl) (pv_Rret dX7_digest_276 rfl)
theorem dX7_found_0 : decode cX7_found 0 = .ok (.aload_n 0, 1) := by decide +kernel
theorem dX7_found_1 : decode cX7_found 1 = .ok (.iload_n 1, 1) := by decide +kernel
theorem dX7_found_2 : decode cX7_found 2 = .ok (.putfield 66, 3) := by decide +kernel
theorem dX7_found_5 : decode cX7_found 5 = .ok (.aload_n 0, 1) := by decide +kernel
theorem dX7_found_6 : decode cX7_found 6 = .ok (.getfield 45, 3) := by decide +kernel
theorem dX7_found_9 : decode cX7_found 9 = .ok (.iload_n 1, 1) := by decide +kernel
theorem dX7_found_10 : decode cX7_found 10 = .ok (.dup2, 1) := by decide +kernel
theorem dX7_found_11 : decode cX7_found 11 = .ok (.iaload, 1) := by decide +kernel
theorem dX7_found_12 : decode cX7_found 12 = .ok (.iconst 1, 1) := by decide +kernel
theorem dX7_found_13 : decode cX7_found 13 = .ok (.iadd, 1) := by decide +kernel
theorem dX7_found_14 : decode cX7_found 14 = .ok (.iastore, 1) := by decide +kernel
theorem dX7_found_15 : decode cX7_found 15 = .ok (.bipush (-3), 2) := by decide +kernel
theorem dX7_found_17 : decode cX7_found 17 = .ok (.ireturn, 1) := by decide +kernel
set_option maxHeartbeats 200000 in
theorem bX7_found_0 {S : pv_S} {x1 : Int32} : pv_R mX7_found 0 [some (.ref 37), some (.int x1)] [] (pv_em S) = if x1 < 0 ∨ 6 ≤ x1.toNatClampNeg then none else if x1 < 0 ∨ 6 ≤ x1.toNatClampNeg then none else some (some (.int (-3)), pv_em (pv_si (pv_si S 37 16 x1) 48 x1.toNatClampNeg (((pv_si S 37 16 x1).1 48 x1.toNatClampNeg) + 1))) := Eq.trans (pv_Rstp dX7_found_0 rfl rfl rfl) (Eq.trans (pv_Rstp dX7_found_1 rfl rfl rfl) (Eq.trans (pv_Rput dX7_found_2 ffX7_66 rfl rfl rfl (by decide) (pv_ce_37 _ _) (Nat.le_of_ble_eq_true rfl) (pv_em_si rfl)) (Eq.trans (pv_Rstp dX7_found_5 rfl rfl rfl) (Eq.trans (pv_Rget dX7_found_6 ffX7_45 (by decide) (pv_ce_37 _ _) rfl) (Eq.trans (pv_Rstp dX7_found_9 rfl rfl rfl) (Eq.trans (pv_Rstp dX7_found_10 rfl rfl rfl) (Eq.trans (pv_Rald dX7_found_11 (by decide) (pv_ce_48 _ _)) (pv_iteN (fun h1 => Eq.trans (pv_Ric dX7_found_12 ki_1) (Eq.trans (pv_Rstp dX7_found_13 rfl rfl rfl) (Eq.trans (pv_Rast dX7_found_14 (by decide) (pv_ce_48 _ _) (pv_em_si rfl)) (pv_iteN (fun h2 => Eq.trans (pv_Rbp dX7_found_15 kb_m3) (pv_Rret dX7_found_17 rfl))))))))))))))
theorem dX7_isRow_0 : decode cX7_isRow 0 = .ok (.iload_n 0, 1) := by decide +kernel
theorem dX7_isRow_1 : decode cX7_isRow 1 = .ok (.i2l, 1) := by decide +kernel
theorem dX7_isRow_2 : decode cX7_isRow 2 = .ok (.lconst 0, 1) := by decide +kernel
theorem dX7_isRow_3 : decode cX7_isRow 3 = .ok (.ldc2_w 73, 3) := by decide +kernel
theorem dX7_isRow_6 : decode cX7_isRow 6 = .ok (.invokestatic 75, 3) := by decide +kernel
theorem dX7_isRow_9 : decode cX7_isRow 9 = .ok (.ireturn, 1) := by decide +kernel
set_option maxHeartbeats 200000 in
theorem bX7_isRow_0 {S : pv_S} {x0 : Int32} : pv_R mX7_isRow 0 [some (.int x0)] [] (pv_em S) = pv_cc (pv_R mX7_in 0 [some (.long (Int32.toInt64 x0)), none, some (.long 0), none, some (.long 5), none] [] (pv_em S)) mX7_isRow 9 [some (.int x0)] [] := Eq.trans (pv_Rstp dX7_isRow_0 rfl rfl rfl) (Eq.trans (pv_Rstp dX7_isRow_1 rfl rfl rfl) (Eq.trans (pv_Rlc dX7_isRow_2 kl_0) (Eq.trans (pv_Rstp dX7_isRow_3 rfl rfl rfl) (pv_Rcall (As := [.long (Int32.toInt64 x0), .long 0, .long 5]) (rest := []) dX7_isRow_6 rfl mfX7_75 rfl rfl rfl rfl rfl))))
set_option maxHeartbeats 200000 in
theorem bX7_isRow_9 {S : pv_S} {x0 u0 : Int32} : pv_R mX7_isRow 9 [some (.int x0)] [.int u0] (pv_em S) = if vp_nar .boolean u0 = u0 then some (some (.int u0), pv_em S) else none := pv_Rzret dX7_isRow_9 rfl
theorem dX7_in_0 : decode cX7_in 0 = .ok (.lload_n 0, 1) := by decide +kernel
theorem dX7_in_1 : decode cX7_in 1 = .ok (.lload_n 2, 1) := by decide +kernel
theorem dX7_in_2 : decode cX7_in 2 = .ok (.lcmp, 1) := by decide +kernel
theorem dX7_in_3 : decode cX7_in 3 = .ok (.ifCond .lt 14, 3) := by decide +kernel
theorem dX7_in_6 : decode cX7_in 6 = .ok (.lload_n 0, 1) := by decide +kernel
theorem dX7_in_7 : decode cX7_in 7 = .ok (.lload 4, 2) := by decide +kernel
theorem dX7_in_9 : decode cX7_in 9 = .ok (.lcmp, 1) := by decide +kernel
theorem dX7_in_10 : decode cX7_in 10 = .ok (.ifCond .gt 7, 3) := by decide +kernel
theorem dX7_in_13 : decode cX7_in 13 = .ok (.iconst 1, 1) := by decide +kernel
theorem dX7_in_14 : decode cX7_in 14 = .ok (.goto 4, 3) := by decide +kernel
theorem dX7_in_17 : decode cX7_in 17 = .ok (.iconst 0, 1) := by decide +kernel
theorem dX7_in_18 : decode cX7_in 18 = .ok (.ireturn, 1) := by decide +kernel
set_option maxHeartbeats 200000 in
theorem bX7_in_0 {S : pv_S} {x0 x2 x4 : Int64} {a1 a3 a5 : Option Value} : pv_R mX7_in 0 [some (.long x0), a1, some (.long x2), a3, some (.long x4), a5] [] (pv_em S) = if (lg_cmp x0 x2) < 0 then pv_R mX7_in 17 [some (.long x0), a1, some (.long x2), a3, some (.long x4), a5] [] (pv_em S) else pv_R mX7_in 6 [some (.long x0), a1, some (.long x2), a3, some (.long x4), a5] [] (pv_em S) := Eq.trans (pv_Rstp dX7_in_0 rfl rfl rfl) (Eq.trans (pv_Rstp dX7_in_1 rfl rfl rfl) (Eq.trans (pv_Rstp dX7_in_2 rfl rfl rfl) (pv_Rbr (tgt := 17) dX7_in_3 rfl rfl rfl rfl rfl (by decide))))
set_option maxHeartbeats 200000 in
theorem bX7_in_6 {S : pv_S} {x0 x2 x4 : Int64} {a1 a3 a5 : Option Value} : pv_R mX7_in 6 [some (.long x0), a1, some (.long x2), a3, some (.long x4), a5] [] (pv_em S) = if 0 < (lg_cmp x0 x4) then pv_R mX7_in 17 [some (.long x0), a1, some (.long x2), a3, some (.long x4), a5] [] (pv_em S) else pv_R mX7_in 13 [some (.long x0), a1, some (.long x2), a3, some (.long x4), a5] [] (pv_em S) := Eq.trans (pv_Rstp dX7_in_6 rfl rfl rfl) (Eq.trans (pv_Rstp dX7_in_7 rfl rfl rfl) (Eq.trans (pv_Rstp dX7_in_9 rfl rfl rfl) (pv_Rbr (tgt := 17) dX7_in_10 rfl rfl rfl rfl rfl (by decide))))
set_option maxHeartbeats 200000 in
theorem bX7_in_13 {S : pv_S} {x0 x2 x4 : Int64} {a1 a3 a5 : Option Value} : pv_R mX7_in 13 [some (.long x0), a1, some (.long x2), a3, some (.long x4), a5] [] (pv_em S) = pv_R mX7_in 18 [some (.long x0), a1, some (.long x2), a3, some (.long x4), a5] [.int 1] (pv_em S) := Eq.trans (pv_Ric dX7_in_13 ki_1) (pv_Rgo (tgt := 18) dX7_in_14 rfl (by decide))
set_option maxHeartbeats 200000 in
theorem bX7_in_17 {S : pv_S} {x0 x2 x4 : Int64} {a1 a3 a5 : Option Value} : pv_R mX7_in 17 [some (.long x0), a1, some (.long x2), a3, some (.long x4), a5] [] (pv_em S) = pv_R mX7_in 18 [some (.long x0), a1, some (.long x2), a3, some (.long x4), a5] [.int 0] (pv_em S) := pv_Ric dX7_in_17 ki_0
set_option maxHeartbeats 200000 in
theorem bX7_in_18 {S : pv_S} {x0 x2 x4 : Int64} {a1 a3 a5 : Option Value} {u0 : Int32} : pv_R mX7_in 18 [some (.long x0), a1, some (.long x2), a3, some (.long x4), a5] [.int u0] (pv_em S) = if vp_nar .boolean u0 = u0 then some (some (.int u0), pv_em S) else none := pv_Rzret dX7_in_18 rfl
theorem dX7_tell_0 : decode cX7_tell 0 = .ok (.aload_n 0, 1) := by decide +kernel
theorem dX7_tell_1 : decode cX7_tell 1 = .ok (.iload_n 1, 1) := by decide +kernel
theorem dX7_tell_2 : decode cX7_tell 2 = .ok (.putfield 70, 3) := by decide +kernel
theorem dX7_tell_5 : decode cX7_tell 5 = .ok (.iconst 1, 1) := by decide +kernel
theorem dX7_tell_6 : decode cX7_tell 6 = .ok (.ireturn, 1) := by decide +kernel
set_option maxHeartbeats 200000 in
theorem bX7_tell_0 {S : pv_S} {x1 : Int32} : pv_R mX7_tell 0 [some (.ref 37), some (.int x1)] [] (pv_em S) = some (some (.int 1), pv_em (pv_si S 37 13 x1)) := Eq.trans (pv_Rstp dX7_tell_0 rfl rfl rfl) (Eq.trans (pv_Rstp dX7_tell_1 rfl rfl rfl) (Eq.trans (pv_Rput dX7_tell_2 ffX7_70 rfl rfl rfl (by decide) (pv_ce_37 _ _) (Nat.le_of_ble_eq_true rfl) (pv_em_si rfl)) (Eq.trans (pv_Ric dX7_tell_5 ki_1) (pv_Rret dX7_tell_6 rfl))))
theorem dX7_isText_0 : decode cX7_isText 0 = .ok (.iload_n 0, 1) := by decide +kernel
theorem dX7_isText_1 : decode cX7_isText 1 = .ok (.i2l, 1) := by decide +kernel
theorem dX7_isText_2 : decode cX7_isText 2 = .ok (.lconst 0, 1) := by decide +kernel
theorem dX7_isText_3 : decode cX7_isText 3 = .ok (.ldc2_w 79, 3) := by decide +kernel
theorem dX7_isText_6 : decode cX7_isText 6 = .ok (.invokestatic 75, 3) := by decide +kernel
theorem dX7_isText_9 : decode cX7_isText 9 = .ok (.ireturn, 1) := by decide +kernel
set_option maxHeartbeats 200000 in
theorem bX7_isText_0 {S : pv_S} {x0 : Int32} : pv_R mX7_isText 0 [some (.int x0)] [] (pv_em S) = pv_cc (pv_R mX7_in 0 [some (.long (Int32.toInt64 x0)), none, some (.long 0), none, some (.long 3), none] [] (pv_em S)) mX7_isText 9 [some (.int x0)] [] := Eq.trans (pv_Rstp dX7_isText_0 rfl rfl rfl) (Eq.trans (pv_Rstp dX7_isText_1 rfl rfl rfl) (Eq.trans (pv_Rlc dX7_isText_2 kl_0) (Eq.trans (pv_Rstp dX7_isText_3 rfl rfl rfl) (pv_Rcall (As := [.long (Int32.toInt64 x0), .long 0, .long 3]) (rest := []) dX7_isText_6 rfl mfX7_75 rfl rfl rfl rfl rfl))))
set_option maxHeartbeats 200000 in
theorem bX7_isText_9 {S : pv_S} {x0 u0 : Int32} : pv_R mX7_isText 9 [some (.int x0)] [.int u0] (pv_em S) = if vp_nar .boolean u0 = u0 then some (some (.int u0), pv_em S) else none := pv_Rzret dX7_isText_9 rfl
theorem dX7_faultOf_0 : decode cX7_faultOf 0 = .ok (.aload_n 0, 1) := by decide +kernel
theorem dX7_faultOf_1 : decode cX7_faultOf 1 = .ok (.iconst 0, 1) := by decide +kernel
theorem dX7_faultOf_2 : decode cX7_faultOf 2 = .ok (.putfield 95, 3) := by decide +kernel
theorem dX7_faultOf_5 : decode cX7_faultOf 5 = .ok (.aload_n 0, 1) := by decide +kernel
theorem dX7_faultOf_6 : decode cX7_faultOf 6 = .ok (.iconst 0, 1) := by decide +kernel
theorem dX7_faultOf_7 : decode cX7_faultOf 7 = .ok (.putfield 122, 3) := by decide +kernel
theorem dX7_faultOf_10 : decode cX7_faultOf 10 = .ok (.aload_n 0, 1) := by decide +kernel
theorem dX7_faultOf_11 : decode cX7_faultOf 11 = .ok (.iload_n 1, 1) := by decide +kernel
theorem dX7_faultOf_12 : decode cX7_faultOf 12 = .ok (.invokevirtual 125, 3) := by decide +kernel
theorem dX7_faultOf_15 : decode cX7_faultOf 15 = .ok (.aload_n 0, 1) := by decide +kernel
theorem dX7_faultOf_16 : decode cX7_faultOf 16 = .ok (.iload_n 1, 1) := by decide +kernel
theorem dX7_faultOf_17 : decode cX7_faultOf 17 = .ok (.invokevirtual 129, 3) := by decide +kernel
theorem dX7_faultOf_20 : decode cX7_faultOf 20 = .ok (.istore_n 2, 1) := by decide +kernel
theorem dX7_faultOf_21 : decode cX7_faultOf 21 = .ok (.iload_n 2, 1) := by decide +kernel
theorem dX7_faultOf_22 : decode cX7_faultOf 22 = .ok (.ifCond .eq 40, 3) := by decide +kernel
theorem dX7_faultOf_25 : decode cX7_faultOf 25 = .ok (.aload_n 0, 1) := by decide +kernel
theorem dX7_faultOf_26 : decode cX7_faultOf 26 = .ok (.iload_n 1, 1) := by decide +kernel
theorem dX7_faultOf_27 : decode cX7_faultOf 27 = .ok (.invokevirtual 125, 3) := by decide +kernel
theorem dX7_faultOf_30 : decode cX7_faultOf 30 = .ok (.aload_n 0, 1) := by decide +kernel
theorem dX7_faultOf_31 : decode cX7_faultOf 31 = .ok (.getfield 95, 3) := by decide +kernel
theorem dX7_faultOf_34 : decode cX7_faultOf 34 = .ok (.aload_n 0, 1) := by decide +kernel
theorem dX7_faultOf_35 : decode cX7_faultOf 35 = .ok (.getfield 16, 3) := by decide +kernel
theorem dX7_faultOf_38 : decode cX7_faultOf 38 = .ok (.iload_n 1, 1) := by decide +kernel
theorem dX7_faultOf_39 : decode cX7_faultOf 39 = .ok (.iaload, 1) := by decide +kernel
theorem dX7_faultOf_40 : decode cX7_faultOf 40 = .ok (.if_icmp .ne 13, 3) := by decide +kernel
theorem dX7_faultOf_43 : decode cX7_faultOf 43 = .ok (.aload_n 0, 1) := by decide +kernel
theorem dX7_faultOf_44 : decode cX7_faultOf 44 = .ok (.getfield 122, 3) := by decide +kernel
theorem dX7_faultOf_47 : decode cX7_faultOf 47 = .ok (.ifCond .le 6, 3) := by decide +kernel
theorem dX7_faultOf_50 : decode cX7_faultOf 50 = .ok (.bipush (-9), 2) := by decide +kernel
theorem dX7_faultOf_52 : decode cX7_faultOf 52 = .ok (.ireturn, 1) := by decide +kernel
theorem dX7_faultOf_53 : decode cX7_faultOf 53 = .ok (.aload_n 0, 1) := by decide +kernel
theorem dX7_faultOf_54 : decode cX7_faultOf 54 = .ok (.iload_n 1, 1) := by decide +kernel
theorem dX7_faultOf_55 : decode cX7_faultOf 55 = .ok (.invokevirtual 132, 3) := by decide +kernel
theorem dX7_faultOf_58 : decode cX7_faultOf 58 = .ok (.istore_n 2, 1) := by decide +kernel
theorem dX7_faultOf_59 : decode cX7_faultOf 59 = .ok (.goto (-38), 3) := by decide +kernel
theorem dX7_faultOf_62 : decode cX7_faultOf 62 = .ok (.aload_n 0, 1) := by decide +kernel
theorem dX7_faultOf_63 : decode cX7_faultOf 63 = .ok (.getfield 95, 3) := by decide +kernel
theorem dX7_faultOf_66 : decode cX7_faultOf 66 = .ok (.ireturn, 1) := by decide +kernel
set_option maxHeartbeats 200000 in
theorem bX7_faultOf_0 {S : pv_S} {x1 : Int32} {a2 : Option Value} : pv_R mX7_faultOf 0 [some (.ref 37), some (.int x1), a2] [] (pv_em S) = pv_cc (pv_R mX7_blanks 0 [some (.ref 37), some (.int x1)] [] (pv_em (pv_si (pv_si S 37 18 0) 37 20 0))) mX7_faultOf 15 [some (.ref 37), some (.int x1), a2] [] := Eq.trans (pv_Rstp dX7_faultOf_0 rfl rfl rfl) (Eq.trans (pv_Ric dX7_faultOf_1 ki_0) (Eq.trans (pv_Rput dX7_faultOf_2 ffX7_95 rfl rfl rfl (by decide) (pv_ce_37 _ _) (Nat.le_of_ble_eq_true rfl) (pv_em_si rfl)) (Eq.trans (pv_Rstp dX7_faultOf_5 rfl rfl rfl) (Eq.trans (pv_Ric dX7_faultOf_6 ki_0) (Eq.trans (pv_Rput dX7_faultOf_7 ffX7_122 rfl rfl rfl (by decide) (pv_ce_37 _ _) (Nat.le_of_ble_eq_true rfl) (pv_em_si rfl)) (Eq.trans (pv_Rstp dX7_faultOf_10 rfl rfl rfl) (Eq.trans (pv_Rstp dX7_faultOf_11 rfl rfl rfl) (pv_Rcall (As := [.ref 37, .int x1]) (rest := []) dX7_faultOf_12 rfl mfX7_125 rfl rfl rfl rfl rfl))))))))
set_option maxHeartbeats 200000 in
theorem bX7_faultOf_15 {S : pv_S} {x1 : Int32} {a2 : Option Value} : pv_R mX7_faultOf 15 [some (.ref 37), some (.int x1), a2] [] (pv_em S) = pv_cc (pv_R mX7_readsDog 0 [some (.ref 37), some (.int x1)] [] (pv_em S)) mX7_faultOf 20 [some (.ref 37), some (.int x1), a2] [] := Eq.trans (pv_Rstp dX7_faultOf_15 rfl rfl rfl) (Eq.trans (pv_Rstp dX7_faultOf_16 rfl rfl rfl) (pv_Rcall (As := [.ref 37, .int x1]) (rest := []) dX7_faultOf_17 rfl mfX7_129 rfl rfl rfl rfl rfl))
set_option maxHeartbeats 200000 in
theorem bX7_faultOf_20 {S : pv_S} {x1 u0 : Int32} {a2 : Option Value} : pv_R mX7_faultOf 20 [some (.ref 37), some (.int x1), a2] [.int u0] (pv_em S) = pv_R mX7_faultOf 21 [some (.ref 37), some (.int x1), some (.int u0)] [] (pv_em S) := pv_Rstp dX7_faultOf_20 rfl rfl rfl
set_option maxHeartbeats 200000 in
theorem bX7_faultOf_21 {S : pv_S} {x1 x2 : Int32} : pv_R mX7_faultOf 21 [some (.ref 37), some (.int x1), some (.int x2)] [] (pv_em S) = if x2 = 0 then pv_R mX7_faultOf 62 [some (.ref 37), some (.int x1), some (.int x2)] [] (pv_em S) else pv_R mX7_faultOf 25 [some (.ref 37), some (.int x1), some (.int x2)] [] (pv_em S) := Eq.trans (pv_Rstp dX7_faultOf_21 rfl rfl rfl) (pv_Rbr (tgt := 62) dX7_faultOf_22 rfl rfl rfl rfl rfl (by decide))
set_option maxHeartbeats 200000 in
theorem bX7_faultOf_25 {S : pv_S} {x1 x2 : Int32} : pv_R mX7_faultOf 25 [some (.ref 37), some (.int x1), some (.int x2)] [] (pv_em S) = pv_cc (pv_R mX7_blanks 0 [some (.ref 37), some (.int x1)] [] (pv_em S)) mX7_faultOf 30 [some (.ref 37), some (.int x1), some (.int x2)] [] := Eq.trans (pv_Rstp dX7_faultOf_25 rfl rfl rfl) (Eq.trans (pv_Rstp dX7_faultOf_26 rfl rfl rfl) (pv_Rcall (As := [.ref 37, .int x1]) (rest := []) dX7_faultOf_27 rfl mfX7_125 rfl rfl rfl rfl rfl))
set_option maxHeartbeats 200000 in
theorem bX7_faultOf_30 {S : pv_S} {x1 x2 : Int32} : pv_R mX7_faultOf 30 [some (.ref 37), some (.int x1), some (.int x2)] [] (pv_em S) = if x1 < 0 ∨ 4 ≤ x1.toNatClampNeg then none else if ¬ (S.1 37 18) = (S.1 40 x1.toNatClampNeg) then pv_R mX7_faultOf 53 [some (.ref 37), some (.int x1), some (.int x2)] [] (pv_em S) else pv_R mX7_faultOf 43 [some (.ref 37), some (.int x1), some (.int x2)] [] (pv_em S) := Eq.trans (pv_Rstp dX7_faultOf_30 rfl rfl rfl) (Eq.trans (pv_Rget dX7_faultOf_31 ffX7_95 (by decide) (pv_ce_37 _ _) rfl) (Eq.trans (pv_Rstp dX7_faultOf_34 rfl rfl rfl) (Eq.trans (pv_Rget dX7_faultOf_35 ffX7_16 (by decide) (pv_ce_37 _ _) rfl) (Eq.trans (pv_Rstp dX7_faultOf_38 rfl rfl rfl) (Eq.trans (pv_Rald dX7_faultOf_39 (by decide) (pv_ce_40 _ _)) (pv_iteN (fun h1 => pv_Rbr (tgt := 53) dX7_faultOf_40 rfl rfl rfl rfl rfl (by decide))))))))
set_option maxHeartbeats 200000 in
theorem bX7_faultOf_43 {S : pv_S} {x1 x2 : Int32} : pv_R mX7_faultOf 43 [some (.ref 37), some (.int x1), some (.int x2)] [] (pv_em S) = if (S.1 37 20) ≤ 0 then pv_R mX7_faultOf 53 [some (.ref 37), some (.int x1), some (.int x2)] [] (pv_em S) else pv_R mX7_faultOf 50 [some (.ref 37), some (.int x1), some (.int x2)] [] (pv_em S) := Eq.trans (pv_Rstp dX7_faultOf_43 rfl rfl rfl) (Eq.trans (pv_Rget dX7_faultOf_44 ffX7_122 (by decide) (pv_ce_37 _ _) rfl) (pv_Rbr (tgt := 53) dX7_faultOf_47 rfl rfl rfl rfl rfl (by decide)))
set_option maxHeartbeats 200000 in
theorem bX7_faultOf_50 {S : pv_S} {x1 x2 : Int32} : pv_R mX7_faultOf 50 [some (.ref 37), some (.int x1), some (.int x2)] [] (pv_em S) = some (some (.int (-9)), pv_em S) := Eq.trans (pv_Rbp dX7_faultOf_50 kb_m9) (pv_Rret dX7_faultOf_52 rfl)
set_option maxHeartbeats 200000 in
theorem bX7_faultOf_53 {S : pv_S} {x1 x2 : Int32} : pv_R mX7_faultOf 53 [some (.ref 37), some (.int x1), some (.int x2)] [] (pv_em S) = pv_cc (pv_R mX7_readsCat 0 [some (.ref 37), some (.int x1), none, none] [] (pv_em S)) mX7_faultOf 58 [some (.ref 37), some (.int x1), some (.int x2)] [] := Eq.trans (pv_Rstp dX7_faultOf_53 rfl rfl rfl) (Eq.trans (pv_Rstp dX7_faultOf_54 rfl rfl rfl) (pv_Rcall (As := [.ref 37, .int x1]) (rest := []) dX7_faultOf_55 rfl mfX7_132 rfl rfl rfl rfl rfl))
set_option maxHeartbeats 200000 in
theorem bX7_faultOf_58 {S : pv_S} {x1 x2 u0 : Int32} : pv_R mX7_faultOf 58 [some (.ref 37), some (.int x1), some (.int x2)] [.int u0] (pv_em S) = pv_R mX7_faultOf 21 [some (.ref 37), some (.int x1), some (.int u0)] [] (pv_em S) := Eq.trans (pv_Rstp dX7_faultOf_58 rfl rfl rfl) (pv_Rgo (tgt := 21) dX7_faultOf_59 rfl (by decide))
set_option maxHeartbeats 200000 in
theorem bX7_faultOf_62 {S : pv_S} {x1 x2 : Int32} : pv_R mX7_faultOf 62 [some (.ref 37), some (.int x1), some (.int x2)] [] (pv_em S) = some (some (.int (S.1 37 18)), pv_em S) := Eq.trans (pv_Rstp dX7_faultOf_62 rfl rfl rfl) (Eq.trans (pv_Rget dX7_faultOf_63 ffX7_95 (by decide) (pv_ce_37 _ _) rfl) (pv_Rret dX7_faultOf_66 rfl))
theorem dX7_isCat_0 : decode cX7_isCat 0 = .ok (.iload_n 1, 1) := by decide +kernel
theorem dX7_isCat_1 : decode cX7_isCat 1 = .ok (.i2l, 1) := by decide +kernel
theorem dX7_isCat_2 : decode cX7_isCat 2 = .ok (.lconst 0, 1) := by decide +kernel
theorem dX7_isCat_3 : decode cX7_isCat 3 = .ok (.aload_n 0, 1) := by decide +kernel
theorem dX7_isCat_4 : decode cX7_isCat 4 = .ok (.getfield 138, 3) := by decide +kernel
theorem dX7_isCat_7 : decode cX7_isCat 7 = .ok (.iconst 1, 1) := by decide +kernel
theorem dX7_isCat_8 : decode cX7_isCat 8 = .ok (.isub, 1) := by decide +kernel
theorem dX7_isCat_9 : decode cX7_isCat 9 = .ok (.i2l, 1) := by decide +kernel
theorem dX7_isCat_10 : decode cX7_isCat 10 = .ok (.invokestatic 75, 3) := by decide +kernel
theorem dX7_isCat_13 : decode cX7_isCat 13 = .ok (.ireturn, 1) := by decide +kernel
set_option maxHeartbeats 200000 in
theorem bX7_isCat_0 {S : pv_S} {x1 : Int32} : pv_R mX7_isCat 0 [some (.ref 37), some (.int x1)] [] (pv_em S) = pv_cc (pv_R mX7_in 0 [some (.long (Int32.toInt64 x1)), none, some (.long 0), none, some (.long (Int32.toInt64 ((S.1 37 4) - 1))), none] [] (pv_em S)) mX7_isCat 13 [some (.ref 37), some (.int x1)] [] := Eq.trans (pv_Rstp dX7_isCat_0 rfl rfl rfl) (Eq.trans (pv_Rstp dX7_isCat_1 rfl rfl rfl) (Eq.trans (pv_Rlc dX7_isCat_2 kl_0) (Eq.trans (pv_Rstp dX7_isCat_3 rfl rfl rfl) (Eq.trans (pv_Rget dX7_isCat_4 ffX7_138 (by decide) (pv_ce_37 _ _) rfl) (Eq.trans (pv_Ric dX7_isCat_7 ki_1) (Eq.trans (pv_Rstp dX7_isCat_8 rfl rfl rfl) (Eq.trans (pv_Rstp dX7_isCat_9 rfl rfl rfl) (pv_Rcall (As := [.long (Int32.toInt64 x1), .long 0, .long (Int32.toInt64 ((S.1 37 4) - 1))]) (rest := []) dX7_isCat_10 rfl mfX7_75 rfl rfl rfl rfl rfl))))))))
set_option maxHeartbeats 200000 in
theorem bX7_isCat_13 {S : pv_S} {x1 u0 : Int32} : pv_R mX7_isCat 13 [some (.ref 37), some (.int x1)] [.int u0] (pv_em S) = if vp_nar .boolean u0 = u0 then some (some (.int u0), pv_em S) else none := pv_Rzret dX7_isCat_13 rfl
theorem dX7_told_0 : decode cX7_told 0 = .ok (.iload_n 2, 1) := by decide +kernel
theorem dX7_told_1 : decode cX7_told 1 = .ok (.tableswitch 70 0 3 #[31, 38, 47, 54], 31) := by decide +kernel
theorem dX7_told_32 : decode cX7_told 32 = .ok (.aload_n 0, 1) := by decide +kernel
theorem dX7_told_33 : decode cX7_told 33 = .ok (.getfield 22, 3) := by decide +kernel
theorem dX7_told_36 : decode cX7_told 36 = .ok (.iload_n 1, 1) := by decide +kernel
theorem dX7_told_37 : decode cX7_told 37 = .ok (.iaload, 1) := by decide +kernel
theorem dX7_told_38 : decode cX7_told 38 = .ok (.ireturn, 1) := by decide +kernel
theorem dX7_told_39 : decode cX7_told 39 = .ok (.aload_n 0, 1) := by decide +kernel
theorem dX7_told_40 : decode cX7_told 40 = .ok (.getfield 28, 3) := by decide +kernel
theorem dX7_told_43 : decode cX7_told 43 = .ok (.iconst 0, 1) := by decide +kernel
theorem dX7_told_44 : decode cX7_told 44 = .ok (.iload_n 1, 1) := by decide +kernel
theorem dX7_told_45 : decode cX7_told 45 = .ok (.iadd, 1) := by decide +kernel
theorem dX7_told_46 : decode cX7_told 46 = .ok (.iaload, 1) := by decide +kernel
theorem dX7_told_47 : decode cX7_told 47 = .ok (.ireturn, 1) := by decide +kernel
theorem dX7_told_48 : decode cX7_told 48 = .ok (.aload_n 0, 1) := by decide +kernel
theorem dX7_told_49 : decode cX7_told 49 = .ok (.getfield 25, 3) := by decide +kernel
theorem dX7_told_52 : decode cX7_told 52 = .ok (.iload_n 1, 1) := by decide +kernel
theorem dX7_told_53 : decode cX7_told 53 = .ok (.iaload, 1) := by decide +kernel
theorem dX7_told_54 : decode cX7_told 54 = .ok (.ireturn, 1) := by decide +kernel
theorem dX7_told_55 : decode cX7_told 55 = .ok (.aload_n 0, 1) := by decide +kernel
theorem dX7_told_56 : decode cX7_told 56 = .ok (.getfield 22, 3) := by decide +kernel
theorem dX7_told_59 : decode cX7_told 59 = .ok (.iload_n 1, 1) := by decide +kernel
theorem dX7_told_60 : decode cX7_told 60 = .ok (.iaload, 1) := by decide +kernel
theorem dX7_told_61 : decode cX7_told 61 = .ok (.aload_n 0, 1) := by decide +kernel
theorem dX7_told_62 : decode cX7_told 62 = .ok (.getfield 25, 3) := by decide +kernel
theorem dX7_told_65 : decode cX7_told 65 = .ok (.iload_n 1, 1) := by decide +kernel
theorem dX7_told_66 : decode cX7_told 66 = .ok (.iaload, 1) := by decide +kernel
theorem dX7_told_67 : decode cX7_told 67 = .ok (.invokestatic 162, 3) := by decide +kernel
theorem dX7_told_70 : decode cX7_told 70 = .ok (.ireturn, 1) := by decide +kernel
theorem dX7_told_71 : decode cX7_told 71 = .ok (.aload_n 0, 1) := by decide +kernel
theorem dX7_told_72 : decode cX7_told 72 = .ok (.iload_n 1, 1) := by decide +kernel
theorem dX7_told_73 : decode cX7_told 73 = .ok (.iconst 1, 1) := by decide +kernel
theorem dX7_told_74 : decode cX7_told 74 = .ok (.invokevirtual 158, 3) := by decide +kernel
theorem dX7_told_77 : decode cX7_told 77 = .ok (.aload_n 0, 1) := by decide +kernel
theorem dX7_told_78 : decode cX7_told 78 = .ok (.getfield 28, 3) := by decide +kernel
theorem dX7_told_81 : decode cX7_told 81 = .ok (.iconst 0, 1) := by decide +kernel
theorem dX7_told_82 : decode cX7_told 82 = .ok (.iload_n 1, 1) := by decide +kernel
theorem dX7_told_83 : decode cX7_told 83 = .ok (.iadd, 1) := by decide +kernel
theorem dX7_told_84 : decode cX7_told 84 = .ok (.iaload, 1) := by decide +kernel
theorem dX7_told_85 : decode cX7_told 85 = .ok (.isub, 1) := by decide +kernel
theorem dX7_told_86 : decode cX7_told 86 = .ok (.ireturn, 1) := by decide +kernel
set_option maxHeartbeats 200000 in
theorem bX7_told_0 {S : pv_S} {x1 x2 : Int32} : pv_R mX7_told 0 [some (.ref 37), some (.int x1), some (.int x2)] [] (pv_em S) = pv_R mX7_told (pv_swt (Int32.toInt x2) 0 [32, 39, 48, 55] 71) [some (.ref 37), some (.int x1), some (.int x2)] [] (pv_em S) := Eq.trans (pv_Rstp dX7_told_0 rfl rfl rfl) (pv_Rtab (lo := 0) (tg := [32, 39, 48, 55]) (dt := 71) dX7_told_1 (by decide))
set_option maxHeartbeats 200000 in
theorem bX7_told_32 {S : pv_S} {x1 x2 : Int32} : pv_R mX7_told 32 [some (.ref 37), some (.int x1), some (.int x2)] [] (pv_em S) = if x1 < 0 ∨ 6 ≤ x1.toNatClampNeg then none else some (some (.int (S.1 42 x1.toNatClampNeg)), pv_em S) := Eq.trans (pv_Rstp dX7_told_32 rfl rfl rfl) (Eq.trans (pv_Rget dX7_told_33 ffX7_22 (by decide) (pv_ce_37 _ _) rfl) (Eq.trans (pv_Rstp dX7_told_36 rfl rfl rfl) (Eq.trans (pv_Rald dX7_told_37 (by decide) (pv_ce_42 _ _)) (pv_iteN (fun h1 => pv_Rret dX7_told_38 rfl)))))
set_option maxHeartbeats 200000 in
theorem bX7_told_39 {S : pv_S} {x1 x2 : Int32} : pv_R mX7_told 39 [some (.ref 37), some (.int x1), some (.int x2)] [] (pv_em S) = if (0 + x1) < 0 ∨ 10 ≤ (0 + x1).toNatClampNeg then none else some (some (.int (S.1 44 (0 + x1).toNatClampNeg)), pv_em S) := Eq.trans (pv_Rstp dX7_told_39 rfl rfl rfl) (Eq.trans (pv_Rget dX7_told_40 ffX7_28 (by decide) (pv_ce_37 _ _) rfl) (Eq.trans (pv_Ric dX7_told_43 ki_0) (Eq.trans (pv_Rstp dX7_told_44 rfl rfl rfl) (Eq.trans (pv_Rstp dX7_told_45 rfl rfl rfl) (Eq.trans (pv_Rald dX7_told_46 (by decide) (pv_ce_44 _ _)) (pv_iteN (fun h1 => pv_Rret dX7_told_47 rfl)))))))
set_option maxHeartbeats 200000 in
theorem bX7_told_48 {S : pv_S} {x1 x2 : Int32} : pv_R mX7_told 48 [some (.ref 37), some (.int x1), some (.int x2)] [] (pv_em S) = if x1 < 0 ∨ 6 ≤ x1.toNatClampNeg then none else some (some (.int (S.1 43 x1.toNatClampNeg)), pv_em S) := Eq.trans (pv_Rstp dX7_told_48 rfl rfl rfl) (Eq.trans (pv_Rget dX7_told_49 ffX7_25 (by decide) (pv_ce_37 _ _) rfl) (Eq.trans (pv_Rstp dX7_told_52 rfl rfl rfl) (Eq.trans (pv_Rald dX7_told_53 (by decide) (pv_ce_43 _ _)) (pv_iteN (fun h1 => pv_Rret dX7_told_54 rfl)))))
set_option maxHeartbeats 200000 in
theorem bX7_told_55 {S : pv_S} {x1 x2 : Int32} : pv_R mX7_told 55 [some (.ref 37), some (.int x1), some (.int x2)] [] (pv_em S) = if x1 < 0 ∨ 6 ≤ x1.toNatClampNeg then none else if x1 < 0 ∨ 6 ≤ x1.toNatClampNeg then none else pv_cc (pv_R mX7_meal 0 [some (.int (S.1 42 x1.toNatClampNeg)), some (.int (S.1 43 x1.toNatClampNeg))] [] (pv_em S)) mX7_told 70 [some (.ref 37), some (.int x1), some (.int x2)] [] := Eq.trans (pv_Rstp dX7_told_55 rfl rfl rfl) (Eq.trans (pv_Rget dX7_told_56 ffX7_22 (by decide) (pv_ce_37 _ _) rfl) (Eq.trans (pv_Rstp dX7_told_59 rfl rfl rfl) (Eq.trans (pv_Rald dX7_told_60 (by decide) (pv_ce_42 _ _)) (pv_iteN (fun h1 => Eq.trans (pv_Rstp dX7_told_61 rfl rfl rfl) (Eq.trans (pv_Rget dX7_told_62 ffX7_25 (by decide) (pv_ce_37 _ _) rfl) (Eq.trans (pv_Rstp dX7_told_65 rfl rfl rfl) (Eq.trans (pv_Rald dX7_told_66 (by decide) (pv_ce_43 _ _)) (pv_iteN (fun h2 => pv_Rcall (As := [.int (S.1 42 x1.toNatClampNeg), .int (S.1 43 x1.toNatClampNeg)]) (rest := []) dX7_told_67 rfl mfX7_162 rfl rfl rfl rfl rfl))))))))))
set_option maxHeartbeats 200000 in
theorem bX7_told_70 {S : pv_S} {x1 x2 u0 : Int32} : pv_R mX7_told 70 [some (.ref 37), some (.int x1), some (.int x2)] [.int u0] (pv_em S) = some (some (.int u0), pv_em S) := pv_Rret dX7_told_70 rfl
set_option maxHeartbeats 200000 in
theorem bX7_told_71 {S : pv_S} {x1 x2 : Int32} : pv_R mX7_told 71 [some (.ref 37), some (.int x1), some (.int x2)] [] (pv_em S) = pv_cc (pv_R mX7_afterOf 0 [some (.ref 37), some (.int x1), some (.int 1)] [] (pv_em S)) mX7_told 77 [some (.ref 37), some (.int x1), some (.int x2)] [] := Eq.trans (pv_Rstp dX7_told_71 rfl rfl rfl) (Eq.trans (pv_Rstp dX7_told_72 rfl rfl rfl) (Eq.trans (pv_Ric dX7_told_73 ki_1) (pv_Rcall (As := [.ref 37, .int x1, .int 1]) (rest := []) dX7_told_74 rfl mfX7_158 rfl rfl rfl rfl rfl)))
set_option maxHeartbeats 200000 in
theorem bX7_told_77 {S : pv_S} {x1 x2 u0 : Int32} : pv_R mX7_told 77 [some (.ref 37), some (.int x1), some (.int x2)] [.int u0] (pv_em S) = if (0 + x1) < 0 ∨ 10 ≤ (0 + x1).toNatClampNeg then none else some (some (.int (u0 - (S.1 44 (0 + x1).toNatClampNeg))), pv_em S) := Eq.trans (pv_Rstp dX7_told_77 rfl rfl rfl) (Eq.trans (pv_Rget dX7_told_78 ffX7_28 (by decide) (pv_ce_37 _ _) rfl) (Eq.trans (pv_Ric dX7_told_81 ki_0) (Eq.trans (pv_Rstp dX7_told_82 rfl rfl rfl) (Eq.trans (pv_Rstp dX7_told_83 rfl rfl rfl) (Eq.trans (pv_Rald dX7_told_84 (by decide) (pv_ce_44 _ _)) (pv_iteN (fun h1 => Eq.trans (pv_Rstp dX7_told_85 rfl rfl rfl) (pv_Rret dX7_told_86 rfl))))))))
theorem dX7_isOf_0 : decode cX7_isOf 0 = .ok (.iload_n 0, 1) := by decide +kernel
theorem dX7_isOf_1 : decode cX7_isOf 1 = .ok (.iload_n 1, 1) := by decide +kernel
theorem dX7_isOf_2 : decode cX7_isOf 2 = .ok (.if_icmp .eq 23, 3) := by decide +kernel
theorem dX7_isOf_5 : decode cX7_isOf 5 = .ok (.iload_n 1, 1) := by decide +kernel
theorem dX7_isOf_6 : decode cX7_isOf 6 = .ok (.iconst 1, 1) := by decide +kernel
theorem dX7_isOf_7 : decode cX7_isOf 7 = .ok (.if_icmp .ne 8, 3) := by decide +kernel
theorem dX7_isOf_10 : decode cX7_isOf 10 = .ok (.iload_n 0, 1) := by decide +kernel
theorem dX7_isOf_11 : decode cX7_isOf 11 = .ok (.iconst 4, 1) := by decide +kernel
theorem dX7_isOf_12 : decode cX7_isOf 12 = .ok (.if_icmp .eq 13, 3) := by decide +kernel
theorem dX7_isOf_15 : decode cX7_isOf 15 = .ok (.iload_n 1, 1) := by decide +kernel
theorem dX7_isOf_16 : decode cX7_isOf 16 = .ok (.iconst 3, 1) := by decide +kernel
theorem dX7_isOf_17 : decode cX7_isOf 17 = .ok (.if_icmp .ne 12, 3) := by decide +kernel
theorem dX7_isOf_20 : decode cX7_isOf 20 = .ok (.iload_n 0, 1) := by decide +kernel
theorem dX7_isOf_21 : decode cX7_isOf 21 = .ok (.iconst 5, 1) := by decide +kernel
theorem dX7_isOf_22 : decode cX7_isOf 22 = .ok (.if_icmp .ne 7, 3) := by decide +kernel
theorem dX7_isOf_25 : decode cX7_isOf 25 = .ok (.iconst 1, 1) := by decide +kernel
theorem dX7_isOf_26 : decode cX7_isOf 26 = .ok (.goto 4, 3) := by decide +kernel
theorem dX7_isOf_29 : decode cX7_isOf 29 = .ok (.iconst 0, 1) := by decide +kernel
theorem dX7_isOf_30 : decode cX7_isOf 30 = .ok (.ireturn, 1) := by decide +kernel
set_option maxHeartbeats 200000 in
theorem bX7_isOf_0 {S : pv_S} {x0 x1 : Int32} : pv_R mX7_isOf 0 [some (.int x0), some (.int x1)] [] (pv_em S) = if x0 = x1 then pv_R mX7_isOf 25 [some (.int x0), some (.int x1)] [] (pv_em S) else pv_R mX7_isOf 5 [some (.int x0), some (.int x1)] [] (pv_em S) := Eq.trans (pv_Rstp dX7_isOf_0 rfl rfl rfl) (Eq.trans (pv_Rstp dX7_isOf_1 rfl rfl rfl) (pv_Rbr (tgt := 25) dX7_isOf_2 rfl rfl rfl rfl rfl (by decide)))
set_option maxHeartbeats 200000 in
theorem bX7_isOf_5 {S : pv_S} {x0 x1 : Int32} : pv_R mX7_isOf 5 [some (.int x0), some (.int x1)] [] (pv_em S) = if ¬ x1 = 1 then pv_R mX7_isOf 15 [some (.int x0), some (.int x1)] [] (pv_em S) else pv_R mX7_isOf 10 [some (.int x0), some (.int x1)] [] (pv_em S) := Eq.trans (pv_Rstp dX7_isOf_5 rfl rfl rfl) (Eq.trans (pv_Ric dX7_isOf_6 ki_1) (pv_Rbr (tgt := 15) dX7_isOf_7 rfl rfl rfl rfl rfl (by decide)))
set_option maxHeartbeats 200000 in
theorem bX7_isOf_10 {S : pv_S} {x0 x1 : Int32} : pv_R mX7_isOf 10 [some (.int x0), some (.int x1)] [] (pv_em S) = if x0 = 4 then pv_R mX7_isOf 25 [some (.int x0), some (.int x1)] [] (pv_em S) else pv_R mX7_isOf 15 [some (.int x0), some (.int x1)] [] (pv_em S) := Eq.trans (pv_Rstp dX7_isOf_10 rfl rfl rfl) (Eq.trans (pv_Ric dX7_isOf_11 ki_4) (pv_Rbr (tgt := 25) dX7_isOf_12 rfl rfl rfl rfl rfl (by decide)))
set_option maxHeartbeats 200000 in
theorem bX7_isOf_15 {S : pv_S} {x0 x1 : Int32} : pv_R mX7_isOf 15 [some (.int x0), some (.int x1)] [] (pv_em S) = if ¬ x1 = 3 then pv_R mX7_isOf 29 [some (.int x0), some (.int x1)] [] (pv_em S) else pv_R mX7_isOf 20 [some (.int x0), some (.int x1)] [] (pv_em S) := Eq.trans (pv_Rstp dX7_isOf_15 rfl rfl rfl) (Eq.trans (pv_Ric dX7_isOf_16 ki_3) (pv_Rbr (tgt := 29) dX7_isOf_17 rfl rfl rfl rfl rfl (by decide)))
set_option maxHeartbeats 200000 in
theorem bX7_isOf_20 {S : pv_S} {x0 x1 : Int32} : pv_R mX7_isOf 20 [some (.int x0), some (.int x1)] [] (pv_em S) = if ¬ x0 = 5 then pv_R mX7_isOf 29 [some (.int x0), some (.int x1)] [] (pv_em S) else pv_R mX7_isOf 25 [some (.int x0), some (.int x1)] [] (pv_em S) := Eq.trans (pv_Rstp dX7_isOf_20 rfl rfl rfl) (Eq.trans (pv_Ric dX7_isOf_21 ki_5) (pv_Rbr (tgt := 29) dX7_isOf_22 rfl rfl rfl rfl rfl (by decide)))
set_option maxHeartbeats 200000 in
theorem bX7_isOf_25 {S : pv_S} {x0 x1 : Int32} : pv_R mX7_isOf 25 [some (.int x0), some (.int x1)] [] (pv_em S) = pv_R mX7_isOf 30 [some (.int x0), some (.int x1)] [.int 1] (pv_em S) := Eq.trans (pv_Ric dX7_isOf_25 ki_1) (pv_Rgo (tgt := 30) dX7_isOf_26 rfl (by decide))
set_option maxHeartbeats 200000 in
theorem bX7_isOf_29 {S : pv_S} {x0 x1 : Int32} : pv_R mX7_isOf 29 [some (.int x0), some (.int x1)] [] (pv_em S) = pv_R mX7_isOf 30 [some (.int x0), some (.int x1)] [.int 0] (pv_em S) := pv_Ric dX7_isOf_29 ki_0
set_option maxHeartbeats 200000 in
theorem bX7_isOf_30 {S : pv_S} {x0 x1 u0 : Int32} : pv_R mX7_isOf 30 [some (.int x0), some (.int x1)] [.int u0] (pv_em S) = if vp_nar .boolean u0 = u0 then some (some (.int u0), pv_em S) else none := pv_Rzret dX7_isOf_30 rfl
theorem dX7_kindsOf_0 : decode cX7_kindsOf 0 = .ok (.iconst 0, 1) := by decide +kernel
theorem dX7_kindsOf_1 : decode cX7_kindsOf 1 = .ok (.istore_n 2, 1) := by decide +kernel
theorem dX7_kindsOf_2 : decode cX7_kindsOf 2 = .ok (.iconst 0, 1) := by decide +kernel
theorem dX7_kindsOf_3 : decode cX7_kindsOf 3 = .ok (.istore_n 3, 1) := by decide +kernel
theorem dX7_kindsOf_4 : decode cX7_kindsOf 4 = .ok (.iload_n 3, 1) := by decide +kernel
theorem dX7_kindsOf_5 : decode cX7_kindsOf 5 = .ok (.aload_n 0, 1) := by decide +kernel
theorem dX7_kindsOf_6 : decode cX7_kindsOf 6 = .ok (.getfield 138, 3) := by decide +kernel
theorem dX7_kindsOf_9 : decode cX7_kindsOf 9 = .ok (.if_icmp .ge 30, 3) := by decide +kernel
theorem dX7_kindsOf_12 : decode cX7_kindsOf 12 = .ok (.iload_n 2, 1) := by decide +kernel
theorem dX7_kindsOf_13 : decode cX7_kindsOf 13 = .ok (.aload_n 0, 1) := by decide +kernel
theorem dX7_kindsOf_14 : decode cX7_kindsOf 14 = .ok (.getfield 22, 3) := by decide +kernel
theorem dX7_kindsOf_17 : decode cX7_kindsOf 17 = .ok (.iload_n 3, 1) := by decide +kernel
theorem dX7_kindsOf_18 : decode cX7_kindsOf 18 = .ok (.iaload, 1) := by decide +kernel
theorem dX7_kindsOf_19 : decode cX7_kindsOf 19 = .ok (.iload_n 1, 1) := by decide +kernel
theorem dX7_kindsOf_20 : decode cX7_kindsOf 20 = .ok (.invokestatic 173, 3) := by decide +kernel
theorem dX7_kindsOf_23 : decode cX7_kindsOf 23 = .ok (.ifCond .eq 7, 3) := by decide +kernel
theorem dX7_kindsOf_26 : decode cX7_kindsOf 26 = .ok (.iconst 1, 1) := by decide +kernel
theorem dX7_kindsOf_27 : decode cX7_kindsOf 27 = .ok (.goto 4, 3) := by decide +kernel
theorem dX7_kindsOf_30 : decode cX7_kindsOf 30 = .ok (.iconst 0, 1) := by decide +kernel
theorem dX7_kindsOf_31 : decode cX7_kindsOf 31 = .ok (.iadd, 1) := by decide +kernel
theorem dX7_kindsOf_32 : decode cX7_kindsOf 32 = .ok (.istore_n 2, 1) := by decide +kernel
theorem dX7_kindsOf_33 : decode cX7_kindsOf 33 = .ok (.iinc 3 1, 3) := by decide +kernel
theorem dX7_kindsOf_36 : decode cX7_kindsOf 36 = .ok (.goto (-32), 3) := by decide +kernel
theorem dX7_kindsOf_39 : decode cX7_kindsOf 39 = .ok (.iload_n 2, 1) := by decide +kernel
theorem dX7_kindsOf_40 : decode cX7_kindsOf 40 = .ok (.ireturn, 1) := by decide +kernel
set_option maxHeartbeats 200000 in
theorem bX7_kindsOf_0 {S : pv_S} {x1 : Int32} {a2 a3 : Option Value} : pv_R mX7_kindsOf 0 [some (.ref 37), some (.int x1), a2, a3] [] (pv_em S) = pv_R mX7_kindsOf 4 [some (.ref 37), some (.int x1), some (.int 0), some (.int 0)] [] (pv_em S) := Eq.trans (pv_Ric dX7_kindsOf_0 ki_0) (Eq.trans (pv_Rstp dX7_kindsOf_1 rfl rfl rfl) (Eq.trans (pv_Ric dX7_kindsOf_2 ki_0) (pv_Rstp dX7_kindsOf_3 rfl rfl rfl)))
set_option maxHeartbeats 200000 in
theorem bX7_kindsOf_4 {S : pv_S} {x1 x2 x3 : Int32} : pv_R mX7_kindsOf 4 [some (.ref 37), some (.int x1), some (.int x2), some (.int x3)] [] (pv_em S) = if (S.1 37 4) ≤ x3 then pv_R mX7_kindsOf 39 [some (.ref 37), some (.int x1), some (.int x2), some (.int x3)] [] (pv_em S) else pv_R mX7_kindsOf 12 [some (.ref 37), some (.int x1), some (.int x2), some (.int x3)] [] (pv_em S) := Eq.trans (pv_Rstp dX7_kindsOf_4 rfl rfl rfl) (Eq.trans (pv_Rstp dX7_kindsOf_5 rfl rfl rfl) (Eq.trans (pv_Rget dX7_kindsOf_6 ffX7_138 (by decide) (pv_ce_37 _ _) rfl) (pv_Rbr (tgt := 39) dX7_kindsOf_9 rfl rfl rfl rfl rfl (by decide))))
set_option maxHeartbeats 200000 in
theorem bX7_kindsOf_12 {S : pv_S} {x1 x2 x3 : Int32} : pv_R mX7_kindsOf 12 [some (.ref 37), some (.int x1), some (.int x2), some (.int x3)] [] (pv_em S) = if x3 < 0 ∨ 6 ≤ x3.toNatClampNeg then none else pv_cc (pv_R mX7_isOf 0 [some (.int (S.1 42 x3.toNatClampNeg)), some (.int x1)] [] (pv_em S)) mX7_kindsOf 23 [some (.ref 37), some (.int x1), some (.int x2), some (.int x3)] [.int x2] := Eq.trans (pv_Rstp dX7_kindsOf_12 rfl rfl rfl) (Eq.trans (pv_Rstp dX7_kindsOf_13 rfl rfl rfl) (Eq.trans (pv_Rget dX7_kindsOf_14 ffX7_22 (by decide) (pv_ce_37 _ _) rfl) (Eq.trans (pv_Rstp dX7_kindsOf_17 rfl rfl rfl) (Eq.trans (pv_Rald dX7_kindsOf_18 (by decide) (pv_ce_42 _ _)) (pv_iteN (fun h1 => Eq.trans (pv_Rstp dX7_kindsOf_19 rfl rfl rfl) (pv_Rcall (As := [.int (S.1 42 x3.toNatClampNeg), .int x1]) (rest := [.int x2]) dX7_kindsOf_20 rfl mfX7_173 rfl rfl rfl rfl rfl)))))))
set_option maxHeartbeats 200000 in
theorem bX7_kindsOf_23 {S : pv_S} {x1 x2 x3 u0 u1 : Int32} : pv_R mX7_kindsOf 23 [some (.ref 37), some (.int x1), some (.int x2), some (.int x3)] [.int u0, .int u1] (pv_em S) = if u0 = 0 then pv_R mX7_kindsOf 30 [some (.ref 37), some (.int x1), some (.int x2), some (.int x3)] [.int u1] (pv_em S) else pv_R mX7_kindsOf 26 [some (.ref 37), some (.int x1), some (.int x2), some (.int x3)] [.int u1] (pv_em S) := pv_Rbr (tgt := 30) dX7_kindsOf_23 rfl rfl rfl rfl rfl (by decide)
set_option maxHeartbeats 200000 in
theorem bX7_kindsOf_26 {S : pv_S} {x1 x2 x3 u0 : Int32} : pv_R mX7_kindsOf 26 [some (.ref 37), some (.int x1), some (.int x2), some (.int x3)] [.int u0] (pv_em S) = pv_R mX7_kindsOf 31 [some (.ref 37), some (.int x1), some (.int x2), some (.int x3)] [.int 1, .int u0] (pv_em S) := Eq.trans (pv_Ric dX7_kindsOf_26 ki_1) (pv_Rgo (tgt := 31) dX7_kindsOf_27 rfl (by decide))
set_option maxHeartbeats 200000 in
theorem bX7_kindsOf_30 {S : pv_S} {x1 x2 x3 u0 : Int32} : pv_R mX7_kindsOf 30 [some (.ref 37), some (.int x1), some (.int x2), some (.int x3)] [.int u0] (pv_em S) = pv_R mX7_kindsOf 31 [some (.ref 37), some (.int x1), some (.int x2), some (.int x3)] [.int 0, .int u0] (pv_em S) := pv_Ric dX7_kindsOf_30 ki_0
set_option maxHeartbeats 200000 in
theorem bX7_kindsOf_31 {S : pv_S} {x1 x2 x3 u0 u1 : Int32} : pv_R mX7_kindsOf 31 [some (.ref 37), some (.int x1), some (.int x2), some (.int x3)] [.int u0, .int u1] (pv_em S) = pv_R mX7_kindsOf 4 [some (.ref 37), some (.int x1), some (.int (u1 + u0)), some (.int (x3 + 1))] [] (pv_em S) := Eq.trans (pv_Rstp dX7_kindsOf_31 rfl rfl rfl) (Eq.trans (pv_Rstp dX7_kindsOf_32 rfl rfl rfl) (Eq.trans (pv_Rinc dX7_kindsOf_33 rfl (Nat.le_of_ble_eq_true rfl) ki_1 rfl) (pv_Rgo (tgt := 4) dX7_kindsOf_36 rfl (by decide))))
set_option maxHeartbeats 200000 in
theorem bX7_kindsOf_39 {S : pv_S} {x1 x2 x3 : Int32} : pv_R mX7_kindsOf 39 [some (.ref 37), some (.int x1), some (.int x2), some (.int x3)] [] (pv_em S) = some (some (.int x2), pv_em S) := Eq.trans (pv_Rstp dX7_kindsOf_39 rfl rfl rfl) (pv_Rret dX7_kindsOf_40 rfl)
theorem dX7_meal_0 : decode cX7_meal 0 = .ok (.iload_n 0, 1) := by decide +kernel
theorem dX7_meal_1 : decode cX7_meal 1 = .ok (.iconst 3, 1) := by decide +kernel
theorem dX7_meal_2 : decode cX7_meal 2 = .ok (.if_icmp .ne 9, 3) := by decide +kernel
theorem dX7_meal_5 : decode cX7_meal 5 = .ok (.iload_n 1, 1) := by decide +kernel
theorem dX7_meal_6 : decode cX7_meal 6 = .ok (.iconst 2, 1) := by decide +kernel
theorem dX7_meal_7 : decode cX7_meal 7 = .ok (.idiv, 1) := by decide +kernel
theorem dX7_meal_8 : decode cX7_meal 8 = .ok (.goto 24, 3) := by decide +kernel
theorem dX7_meal_11 : decode cX7_meal 11 = .ok (.iload_n 0, 1) := by decide +kernel
theorem dX7_meal_12 : decode cX7_meal 12 = .ok (.iconst 4, 1) := by decide +kernel
theorem dX7_meal_13 : decode cX7_meal 13 = .ok (.if_icmp .ne 9, 3) := by decide +kernel
theorem dX7_meal_16 : decode cX7_meal 16 = .ok (.iconst 2, 1) := by decide +kernel
theorem dX7_meal_17 : decode cX7_meal 17 = .ok (.iload_n 1, 1) := by decide +kernel
theorem dX7_meal_18 : decode cX7_meal 18 = .ok (.imul, 1) := by decide +kernel
theorem dX7_meal_19 : decode cX7_meal 19 = .ok (.goto 13, 3) := by decide +kernel
theorem dX7_meal_22 : decode cX7_meal 22 = .ok (.iload_n 0, 1) := by decide +kernel
theorem dX7_meal_23 : decode cX7_meal 23 = .ok (.iconst 5, 1) := by decide +kernel
theorem dX7_meal_24 : decode cX7_meal 24 = .ok (.if_icmp .ne 7, 3) := by decide +kernel
theorem dX7_meal_27 : decode cX7_meal 27 = .ok (.iconst 0, 1) := by decide +kernel
theorem dX7_meal_28 : decode cX7_meal 28 = .ok (.goto 4, 3) := by decide +kernel
theorem dX7_meal_31 : decode cX7_meal 31 = .ok (.iload_n 1, 1) := by decide +kernel
theorem dX7_meal_32 : decode cX7_meal 32 = .ok (.ireturn, 1) := by decide +kernel
set_option maxHeartbeats 200000 in
theorem bX7_meal_0 {S : pv_S} {x0 x1 : Int32} : pv_R mX7_meal 0 [some (.int x0), some (.int x1)] [] (pv_em S) = if ¬ x0 = 3 then pv_R mX7_meal 11 [some (.int x0), some (.int x1)] [] (pv_em S) else pv_R mX7_meal 5 [some (.int x0), some (.int x1)] [] (pv_em S) := Eq.trans (pv_Rstp dX7_meal_0 rfl rfl rfl) (Eq.trans (pv_Ric dX7_meal_1 ki_3) (pv_Rbr (tgt := 11) dX7_meal_2 rfl rfl rfl rfl rfl (by decide)))
set_option maxHeartbeats 200000 in
theorem bX7_meal_5 {S : pv_S} {x0 x1 : Int32} : pv_R mX7_meal 5 [some (.int x0), some (.int x1)] [] (pv_em S) = pv_R mX7_meal 32 [some (.int x0), some (.int x1)] [.int (x1 / 2)] (pv_em S) := Eq.trans (pv_Rstp dX7_meal_5 rfl rfl rfl) (Eq.trans (pv_Ric dX7_meal_6 ki_2) (Eq.trans (pv_Rdiv dX7_meal_7) (Eq.trans (if_neg (by decide)) (pv_Rgo (tgt := 32) dX7_meal_8 rfl (by decide)))))
set_option maxHeartbeats 200000 in
theorem bX7_meal_11 {S : pv_S} {x0 x1 : Int32} : pv_R mX7_meal 11 [some (.int x0), some (.int x1)] [] (pv_em S) = if ¬ x0 = 4 then pv_R mX7_meal 22 [some (.int x0), some (.int x1)] [] (pv_em S) else pv_R mX7_meal 16 [some (.int x0), some (.int x1)] [] (pv_em S) := Eq.trans (pv_Rstp dX7_meal_11 rfl rfl rfl) (Eq.trans (pv_Ric dX7_meal_12 ki_4) (pv_Rbr (tgt := 22) dX7_meal_13 rfl rfl rfl rfl rfl (by decide)))
set_option maxHeartbeats 200000 in
theorem bX7_meal_16 {S : pv_S} {x0 x1 : Int32} : pv_R mX7_meal 16 [some (.int x0), some (.int x1)] [] (pv_em S) = pv_R mX7_meal 32 [some (.int x0), some (.int x1)] [.int (2 * x1)] (pv_em S) := Eq.trans (pv_Ric dX7_meal_16 ki_2) (Eq.trans (pv_Rstp dX7_meal_17 rfl rfl rfl) (Eq.trans (pv_Rstp dX7_meal_18 rfl rfl rfl) (pv_Rgo (tgt := 32) dX7_meal_19 rfl (by decide))))
set_option maxHeartbeats 200000 in
theorem bX7_meal_22 {S : pv_S} {x0 x1 : Int32} : pv_R mX7_meal 22 [some (.int x0), some (.int x1)] [] (pv_em S) = if ¬ x0 = 5 then pv_R mX7_meal 31 [some (.int x0), some (.int x1)] [] (pv_em S) else pv_R mX7_meal 27 [some (.int x0), some (.int x1)] [] (pv_em S) := Eq.trans (pv_Rstp dX7_meal_22 rfl rfl rfl) (Eq.trans (pv_Ric dX7_meal_23 ki_5) (pv_Rbr (tgt := 31) dX7_meal_24 rfl rfl rfl rfl rfl (by decide)))
set_option maxHeartbeats 200000 in
theorem bX7_meal_27 {S : pv_S} {x0 x1 : Int32} : pv_R mX7_meal 27 [some (.int x0), some (.int x1)] [] (pv_em S) = pv_R mX7_meal 32 [some (.int x0), some (.int x1)] [.int 0] (pv_em S) := Eq.trans (pv_Ric dX7_meal_27 ki_0) (pv_Rgo (tgt := 32) dX7_meal_28 rfl (by decide))
set_option maxHeartbeats 200000 in
theorem bX7_meal_31 {S : pv_S} {x0 x1 : Int32} : pv_R mX7_meal 31 [some (.int x0), some (.int x1)] [] (pv_em S) = pv_R mX7_meal 32 [some (.int x0), some (.int x1)] [.int x1] (pv_em S) := pv_Rstp dX7_meal_31 rfl rfl rfl
set_option maxHeartbeats 200000 in
theorem bX7_meal_32 {S : pv_S} {x0 x1 u0 : Int32} : pv_R mX7_meal 32 [some (.int x0), some (.int x1)] [.int u0] (pv_em S) = some (some (.int u0), pv_em S) := pv_Rret dX7_meal_32 rfl
theorem dX7_hourGoes_0 : decode cX7_hourGoes 0 = .ok (.aload_n 0, 1) := by decide +kernel
theorem dX7_hourGoes_1 : decode cX7_hourGoes 1 = .ok (.invokevirtual 183, 3) := by decide +kernel
theorem dX7_hourGoes_4 : decode cX7_hourGoes 4 = .ok (.iconst 0, 1) := by decide +kernel
theorem dX7_hourGoes_5 : decode cX7_hourGoes 5 = .ok (.istore_n 1, 1) := by decide +kernel
theorem dX7_hourGoes_6 : decode cX7_hourGoes 6 = .ok (.iload_n 1, 1) := by decide +kernel
theorem dX7_hourGoes_7 : decode cX7_hourGoes 7 = .ok (.aload_n 0, 1) := by decide +kernel
theorem dX7_hourGoes_8 : decode cX7_hourGoes 8 = .ok (.getfield 138, 3) := by decide +kernel
theorem dX7_hourGoes_11 : decode cX7_hourGoes 11 = .ok (.if_icmp .ge 23, 3) := by decide +kernel
theorem dX7_hourGoes_14 : decode cX7_hourGoes 14 = .ok (.aload_n 0, 1) := by decide +kernel
theorem dX7_hourGoes_15 : decode cX7_hourGoes 15 = .ok (.getfield 28, 3) := by decide +kernel
theorem dX7_hourGoes_18 : decode cX7_hourGoes 18 = .ok (.iconst 0, 1) := by decide +kernel
theorem dX7_hourGoes_19 : decode cX7_hourGoes 19 = .ok (.iload_n 1, 1) := by decide +kernel
theorem dX7_hourGoes_20 : decode cX7_hourGoes 20 = .ok (.iadd, 1) := by decide +kernel
theorem dX7_hourGoes_21 : decode cX7_hourGoes 21 = .ok (.aload_n 0, 1) := by decide +kernel
theorem dX7_hourGoes_22 : decode cX7_hourGoes 22 = .ok (.iload_n 1, 1) := by decide +kernel
theorem dX7_hourGoes_23 : decode cX7_hourGoes 23 = .ok (.iconst 1, 1) := by decide +kernel
theorem dX7_hourGoes_24 : decode cX7_hourGoes 24 = .ok (.invokevirtual 158, 3) := by decide +kernel
theorem dX7_hourGoes_27 : decode cX7_hourGoes 27 = .ok (.iastore, 1) := by decide +kernel
theorem dX7_hourGoes_28 : decode cX7_hourGoes 28 = .ok (.iinc 1 1, 3) := by decide +kernel
theorem dX7_hourGoes_31 : decode cX7_hourGoes 31 = .ok (.goto (-25), 3) := by decide +kernel
theorem dX7_hourGoes_34 : decode cX7_hourGoes 34 = .ok (.aload_n 0, 1) := by decide +kernel
theorem dX7_hourGoes_35 : decode cX7_hourGoes 35 = .ok (.getfield 28, 3) := by decide +kernel
theorem dX7_hourGoes_38 : decode cX7_hourGoes 38 = .ok (.bipush 6, 2) := by decide +kernel
theorem dX7_hourGoes_40 : decode cX7_hourGoes 40 = .ok (.dup2, 1) := by decide +kernel
theorem dX7_hourGoes_41 : decode cX7_hourGoes 41 = .ok (.iaload, 1) := by decide +kernel
theorem dX7_hourGoes_42 : decode cX7_hourGoes 42 = .ok (.iconst 1, 1) := by decide +kernel
theorem dX7_hourGoes_43 : decode cX7_hourGoes 43 = .ok (.iadd, 1) := by decide +kernel
theorem dX7_hourGoes_44 : decode cX7_hourGoes 44 = .ok (.iastore, 1) := by decide +kernel
theorem dX7_hourGoes_45 : decode cX7_hourGoes 45 = .ok (.return_, 1) := by decide +kernel
set_option maxHeartbeats 200000 in
theorem bX7_hourGoes_0 {S : pv_S} {a1 : Option Value} : pv_R mX7_hourGoes 0 [some (.ref 37), a1] [] (pv_em S) = pv_cc (pv_R mX7_remember 0 [some (.ref 37)] [] (pv_em S)) mX7_hourGoes 4 [some (.ref 37), a1] [] := Eq.trans (pv_Rstp dX7_hourGoes_0 rfl rfl rfl) (pv_Rcall (As := [.ref 37]) (rest := []) dX7_hourGoes_1 rfl mfX7_183 rfl rfl rfl rfl rfl)
set_option maxHeartbeats 200000 in
theorem bX7_hourGoes_4 {S : pv_S} {a1 : Option Value} : pv_R mX7_hourGoes 4 [some (.ref 37), a1] [] (pv_em S) = pv_R mX7_hourGoes 6 [some (.ref 37), some (.int 0)] [] (pv_em S) := Eq.trans (pv_Ric dX7_hourGoes_4 ki_0) (pv_Rstp dX7_hourGoes_5 rfl rfl rfl)
set_option maxHeartbeats 200000 in
theorem bX7_hourGoes_6 {S : pv_S} {x1 : Int32} : pv_R mX7_hourGoes 6 [some (.ref 37), some (.int x1)] [] (pv_em S) = if (S.1 37 4) ≤ x1 then pv_R mX7_hourGoes 34 [some (.ref 37), some (.int x1)] [] (pv_em S) else pv_R mX7_hourGoes 14 [some (.ref 37), some (.int x1)] [] (pv_em S) := Eq.trans (pv_Rstp dX7_hourGoes_6 rfl rfl rfl) (Eq.trans (pv_Rstp dX7_hourGoes_7 rfl rfl rfl) (Eq.trans (pv_Rget dX7_hourGoes_8 ffX7_138 (by decide) (pv_ce_37 _ _) rfl) (pv_Rbr (tgt := 34) dX7_hourGoes_11 rfl rfl rfl rfl rfl (by decide))))
set_option maxHeartbeats 200000 in
theorem bX7_hourGoes_14 {S : pv_S} {x1 : Int32} : pv_R mX7_hourGoes 14 [some (.ref 37), some (.int x1)] [] (pv_em S) = pv_cc (pv_R mX7_afterOf 0 [some (.ref 37), some (.int x1), some (.int 1)] [] (pv_em S)) mX7_hourGoes 27 [some (.ref 37), some (.int x1)] [.int (0 + x1), .ref 44] := Eq.trans (pv_Rstp dX7_hourGoes_14 rfl rfl rfl) (Eq.trans (pv_Rget dX7_hourGoes_15 ffX7_28 (by decide) (pv_ce_37 _ _) rfl) (Eq.trans (pv_Ric dX7_hourGoes_18 ki_0) (Eq.trans (pv_Rstp dX7_hourGoes_19 rfl rfl rfl) (Eq.trans (pv_Rstp dX7_hourGoes_20 rfl rfl rfl) (Eq.trans (pv_Rstp dX7_hourGoes_21 rfl rfl rfl) (Eq.trans (pv_Rstp dX7_hourGoes_22 rfl rfl rfl) (Eq.trans (pv_Ric dX7_hourGoes_23 ki_1) (pv_Rcall (As := [.ref 37, .int x1, .int 1]) (rest := [.int (0 + x1), .ref 44]) dX7_hourGoes_24 rfl mfX7_158 rfl rfl rfl rfl rfl))))))))
set_option maxHeartbeats 200000 in
theorem bX7_hourGoes_27 {S : pv_S} {x1 u0 u1 : Int32} : pv_R mX7_hourGoes 27 [some (.ref 37), some (.int x1)] [.int u0, .int u1, .ref 44] (pv_em S) = if u1 < 0 ∨ 10 ≤ u1.toNatClampNeg then none else pv_R mX7_hourGoes 6 [some (.ref 37), some (.int (x1 + 1))] [] (pv_em (pv_si S 44 u1.toNatClampNeg u0)) := Eq.trans (pv_Rast dX7_hourGoes_27 (by decide) (pv_ce_44 _ _) (pv_em_si rfl)) (pv_iteN (fun h1 => Eq.trans (pv_Rinc dX7_hourGoes_28 rfl (Nat.le_of_ble_eq_true rfl) ki_1 rfl) (pv_Rgo (tgt := 6) dX7_hourGoes_31 rfl (by decide))))
set_option maxHeartbeats 200000 in
theorem bX7_hourGoes_34 {S : pv_S} {x1 : Int32} : pv_R mX7_hourGoes 34 [some (.ref 37), some (.int x1)] [] (pv_em S) = some (none, pv_em (pv_si S 44 (6 : Int32).toNatClampNeg ((S.1 44 (6 : Int32).toNatClampNeg) + 1))) := Eq.trans (pv_Rstp dX7_hourGoes_34 rfl rfl rfl) (Eq.trans (pv_Rget dX7_hourGoes_35 ffX7_28 (by decide) (pv_ce_37 _ _) rfl) (Eq.trans (pv_Rbp dX7_hourGoes_38 kb_6) (Eq.trans (pv_Rstp dX7_hourGoes_40 rfl rfl rfl) (Eq.trans (pv_Rald dX7_hourGoes_41 (by decide) (pv_ce_44 _ _)) (Eq.trans (if_neg (by decide +kernel)) (Eq.trans (pv_Ric dX7_hourGoes_42 ki_1) (Eq.trans (pv_Rstp dX7_hourGoes_43 rfl rfl rfl) (Eq.trans (pv_Rast dX7_hourGoes_44 (by decide) (pv_ce_44 _ _) (pv_em_si rfl)) (Eq.trans (if_neg (by decide +kernel)) (pv_Rret dX7_hourGoes_45 rfl))))))))))
theorem dX7_pound_0 : decode cX7_pound 0 = .ok (.aload_n 0, 1) := by decide +kernel
theorem dX7_pound_1 : decode cX7_pound 1 = .ok (.getfield 138, 3) := by decide +kernel
theorem dX7_pound_4 : decode cX7_pound 4 = .ok (.ifCond .ne 7, 3) := by decide +kernel
theorem dX7_pound_7 : decode cX7_pound 7 = .ok (.iconst 0, 1) := by decide +kernel
theorem dX7_pound_8 : decode cX7_pound 8 = .ok (.goto 17, 3) := by decide +kernel
theorem dX7_pound_11 : decode cX7_pound 11 = .ok (.aload_n 0, 1) := by decide +kernel
theorem dX7_pound_12 : decode cX7_pound 12 = .ok (.getfield 28, 3) := by decide +kernel
theorem dX7_pound_15 : decode cX7_pound 15 = .ok (.iconst 0, 1) := by decide +kernel
theorem dX7_pound_16 : decode cX7_pound 16 = .ok (.aload_n 0, 1) := by decide +kernel
theorem dX7_pound_17 : decode cX7_pound 17 = .ok (.getfield 28, 3) := by decide +kernel
theorem dX7_pound_20 : decode cX7_pound 20 = .ok (.bipush 9, 2) := by decide +kernel
theorem dX7_pound_22 : decode cX7_pound 22 = .ok (.iaload, 1) := by decide +kernel
theorem dX7_pound_23 : decode cX7_pound 23 = .ok (.iadd, 1) := by decide +kernel
theorem dX7_pound_24 : decode cX7_pound 24 = .ok (.iaload, 1) := by decide +kernel
theorem dX7_pound_25 : decode cX7_pound 25 = .ok (.ireturn, 1) := by decide +kernel
set_option maxHeartbeats 200000 in
theorem bX7_pound_0 {S : pv_S} : pv_R mX7_pound 0 [some (.ref 37)] [] (pv_em S) = if ¬ (S.1 37 4) = 0 then pv_R mX7_pound 11 [some (.ref 37)] [] (pv_em S) else pv_R mX7_pound 7 [some (.ref 37)] [] (pv_em S) := Eq.trans (pv_Rstp dX7_pound_0 rfl rfl rfl) (Eq.trans (pv_Rget dX7_pound_1 ffX7_138 (by decide) (pv_ce_37 _ _) rfl) (pv_Rbr (tgt := 11) dX7_pound_4 rfl rfl rfl rfl rfl (by decide)))
set_option maxHeartbeats 200000 in
theorem bX7_pound_7 {S : pv_S} : pv_R mX7_pound 7 [some (.ref 37)] [] (pv_em S) = pv_R mX7_pound 25 [some (.ref 37)] [.int 0] (pv_em S) := Eq.trans (pv_Ric dX7_pound_7 ki_0) (pv_Rgo (tgt := 25) dX7_pound_8 rfl (by decide))
set_option maxHeartbeats 200000 in
theorem bX7_pound_11 {S : pv_S} : pv_R mX7_pound 11 [some (.ref 37)] [] (pv_em S) = if (0 + (S.1 44 (9 : Int32).toNatClampNeg)) < 0 ∨ 10 ≤ ((0 + (S.1 44 (9 : Int32).toNatClampNeg))).toNatClampNeg then none else pv_R mX7_pound 25 [some (.ref 37)] [.int (S.1 44 ((0 + (S.1 44 (9 : Int32).toNatClampNeg))).toNatClampNeg)] (pv_em S) := Eq.trans (pv_Rstp dX7_pound_11 rfl rfl rfl) (Eq.trans (pv_Rget dX7_pound_12 ffX7_28 (by decide) (pv_ce_37 _ _) rfl) (Eq.trans (pv_Ric dX7_pound_15 ki_0) (Eq.trans (pv_Rstp dX7_pound_16 rfl rfl rfl) (Eq.trans (pv_Rget dX7_pound_17 ffX7_28 (by decide) (pv_ce_37 _ _) rfl) (Eq.trans (pv_Rbp dX7_pound_20 kb_9) (Eq.trans (pv_Rald dX7_pound_22 (by decide) (pv_ce_44 _ _)) (Eq.trans (if_neg (by decide +kernel)) (Eq.trans (pv_Rstp dX7_pound_23 rfl rfl rfl) (Eq.trans (pv_Rald dX7_pound_24 (by decide) (pv_ce_44 _ _)) (pv_iteN (fun h2 => rfl)))))))))))
set_option maxHeartbeats 200000 in
theorem bX7_pound_25 {S : pv_S} {u0 : Int32} : pv_R mX7_pound 25 [some (.ref 37)] [.int u0] (pv_em S) = some (some (.int u0), pv_em S) := pv_Rret dX7_pound_25 rfl
theorem dX7_eats_0 : decode cX7_eats 0 = .ok (.aload_n 0, 1) := by decide +kernel
theorem dX7_eats_1 : decode cX7_eats 1 = .ok (.invokevirtual 183, 3) := by decide +kernel
theorem dX7_eats_4 : decode cX7_eats 4 = .ok (.aload_n 0, 1) := by decide +kernel
theorem dX7_eats_5 : decode cX7_eats 5 = .ok (.getfield 28, 3) := by decide +kernel
theorem dX7_eats_8 : decode cX7_eats 8 = .ok (.iconst 0, 1) := by decide +kernel
theorem dX7_eats_9 : decode cX7_eats 9 = .ok (.iload_n 1, 1) := by decide +kernel
theorem dX7_eats_10 : decode cX7_eats 10 = .ok (.iadd, 1) := by decide +kernel
theorem dX7_eats_11 : decode cX7_eats 11 = .ok (.aload_n 0, 1) := by decide +kernel
theorem dX7_eats_12 : decode cX7_eats 12 = .ok (.getfield 28, 3) := by decide +kernel
theorem dX7_eats_15 : decode cX7_eats 15 = .ok (.iconst 0, 1) := by decide +kernel
theorem dX7_eats_16 : decode cX7_eats 16 = .ok (.iload_n 1, 1) := by decide +kernel
theorem dX7_eats_17 : decode cX7_eats 17 = .ok (.iadd, 1) := by decide +kernel
theorem dX7_eats_18 : decode cX7_eats 18 = .ok (.iaload, 1) := by decide +kernel
theorem dX7_eats_19 : decode cX7_eats 19 = .ok (.aload_n 0, 1) := by decide +kernel
theorem dX7_eats_20 : decode cX7_eats 20 = .ok (.getfield 22, 3) := by decide +kernel
theorem dX7_eats_23 : decode cX7_eats 23 = .ok (.iload_n 1, 1) := by decide +kernel
theorem dX7_eats_24 : decode cX7_eats 24 = .ok (.iaload, 1) := by decide +kernel
theorem dX7_eats_25 : decode cX7_eats 25 = .ok (.aload_n 0, 1) := by decide +kernel
theorem dX7_eats_26 : decode cX7_eats 26 = .ok (.getfield 25, 3) := by decide +kernel
theorem dX7_eats_29 : decode cX7_eats 29 = .ok (.iload_n 1, 1) := by decide +kernel
theorem dX7_eats_30 : decode cX7_eats 30 = .ok (.iaload, 1) := by decide +kernel
theorem dX7_eats_31 : decode cX7_eats 31 = .ok (.invokestatic 162, 3) := by decide +kernel
theorem dX7_eats_34 : decode cX7_eats 34 = .ok (.iadd, 1) := by decide +kernel
theorem dX7_eats_35 : decode cX7_eats 35 = .ok (.invokestatic 151, 3) := by decide +kernel
theorem dX7_eats_38 : decode cX7_eats 38 = .ok (.iastore, 1) := by decide +kernel
theorem dX7_eats_39 : decode cX7_eats 39 = .ok (.return_, 1) := by decide +kernel
set_option maxHeartbeats 200000 in
theorem bX7_eats_0 {S : pv_S} {x1 : Int32} : pv_R mX7_eats 0 [some (.ref 37), some (.int x1)] [] (pv_em S) = pv_cc (pv_R mX7_remember 0 [some (.ref 37)] [] (pv_em S)) mX7_eats 4 [some (.ref 37), some (.int x1)] [] := Eq.trans (pv_Rstp dX7_eats_0 rfl rfl rfl) (pv_Rcall (As := [.ref 37]) (rest := []) dX7_eats_1 rfl mfX7_183 rfl rfl rfl rfl rfl)
set_option maxHeartbeats 200000 in
theorem bX7_eats_4 {S : pv_S} {x1 : Int32} : pv_R mX7_eats 4 [some (.ref 37), some (.int x1)] [] (pv_em S) = if (0 + x1) < 0 ∨ 10 ≤ (0 + x1).toNatClampNeg then none else if x1 < 0 ∨ 6 ≤ x1.toNatClampNeg then none else if x1 < 0 ∨ 6 ≤ x1.toNatClampNeg then none else pv_cc (pv_R mX7_meal 0 [some (.int (S.1 42 x1.toNatClampNeg)), some (.int (S.1 43 x1.toNatClampNeg))] [] (pv_em S)) mX7_eats 34 [some (.ref 37), some (.int x1)] [.int (S.1 44 (0 + x1).toNatClampNeg), .int (0 + x1), .ref 44] := Eq.trans (pv_Rstp dX7_eats_4 rfl rfl rfl) (Eq.trans (pv_Rget dX7_eats_5 ffX7_28 (by decide) (pv_ce_37 _ _) rfl) (Eq.trans (pv_Ric dX7_eats_8 ki_0) (Eq.trans (pv_Rstp dX7_eats_9 rfl rfl rfl) (Eq.trans (pv_Rstp dX7_eats_10 rfl rfl rfl) (Eq.trans (pv_Rstp dX7_eats_11 rfl rfl rfl) (Eq.trans (pv_Rget dX7_eats_12 ffX7_28 (by decide) (pv_ce_37 _ _) rfl) (Eq.trans (pv_Ric dX7_eats_15 ki_0) (Eq.trans (pv_Rstp dX7_eats_16 rfl rfl rfl) (Eq.trans (pv_Rstp dX7_eats_17 rfl rfl rfl) (Eq.trans (pv_Rald dX7_eats_18 (by decide) (pv_ce_44 _ _)) (pv_iteN (fun h1 => Eq.trans (pv_Rstp dX7_eats_19 rfl rfl rfl) (Eq.trans (pv_Rget dX7_eats_20 ffX7_22 (by decide) (pv_ce_37 _ _) rfl) (Eq.trans (pv_Rstp dX7_eats_23 rfl rfl rfl) (Eq.trans (pv_Rald dX7_eats_24 (by decide) (pv_ce_42 _ _)) (pv_iteN (fun h2 => Eq.trans (pv_Rstp dX7_eats_25 rfl rfl rfl) (Eq.trans (pv_Rget dX7_eats_26 ffX7_25 (by decide) (pv_ce_37 _ _) rfl) (Eq.trans (pv_Rstp dX7_eats_29 rfl rfl rfl) (Eq.trans (pv_Rald dX7_eats_30 (by decide) (pv_ce_43 _ _)) (pv_iteN (fun h3 => pv_Rcall (As := [.int (S.1 42 x1.toNatClampNeg), .int (S.1 43 x1.toNatClampNeg)]) (rest := [.int (S.1 44 (0 + x1).toNatClampNeg), .int (0 + x1), .ref 44]) dX7_eats_31 rfl mfX7_162 rfl rfl rfl rfl rfl))))))))))))))))))))))
set_option maxHeartbeats 200000 in
theorem bX7_eats_34 {S : pv_S} {x1 u0 u1 u2 : Int32} : pv_R mX7_eats 34 [some (.ref 37), some (.int x1)] [.int u0, .int u1, .int u2, .ref 44] (pv_em S) = pv_cc (pv_R mX7_bound 0 [some (.int (u1 + u0))] [] (pv_em S)) mX7_eats 38 [some (.ref 37), some (.int x1)] [.int u2, .ref 44] := Eq.trans (pv_Rstp dX7_eats_34 rfl rfl rfl) (pv_Rcall (As := [.int (u1 + u0)]) (rest := [.int u2, .ref 44]) dX7_eats_35 rfl mfX7_151 rfl rfl rfl rfl rfl)
set_option maxHeartbeats 200000 in
theorem bX7_eats_38 {S : pv_S} {x1 u0 u1 : Int32} : pv_R mX7_eats 38 [some (.ref 37), some (.int x1)] [.int u0, .int u1, .ref 44] (pv_em S) = if u1 < 0 ∨ 10 ≤ u1.toNatClampNeg then none else some (none, pv_em (pv_si S 44 u1.toNatClampNeg u0)) := Eq.trans (pv_Rast dX7_eats_38 (by decide) (pv_ce_44 _ _) (pv_em_si rfl)) (pv_iteN (fun h1 => pv_Rret dX7_eats_39 rfl))
theorem dX7_buys_0 : decode cX7_buys 0 = .ok (.aload_n 0, 1) := by decide +kernel
theorem dX7_buys_1 : decode cX7_buys 1 = .ok (.invokevirtual 183, 3) := by decide +kernel
theorem dX7_buys_4 : decode cX7_buys 4 = .ok (.aload_n 0, 1) := by decide +kernel
theorem dX7_buys_5 : decode cX7_buys 5 = .ok (.getfield 28, 3) := by decide +kernel
theorem dX7_buys_8 : decode cX7_buys 8 = .ok (.bipush 8, 2) := by decide +kernel
theorem dX7_buys_10 : decode cX7_buys 10 = .ok (.dup2, 1) := by decide +kernel
theorem dX7_buys_11 : decode cX7_buys 11 = .ok (.iaload, 1) := by decide +kernel
theorem dX7_buys_12 : decode cX7_buys 12 = .ok (.iload_n 1, 1) := by decide +kernel
theorem dX7_buys_13 : decode cX7_buys 13 = .ok (.aload_n 0, 1) := by decide +kernel
theorem dX7_buys_14 : decode cX7_buys 14 = .ok (.invokevirtual 186, 3) := by decide +kernel
theorem dX7_buys_17 : decode cX7_buys 17 = .ok (.imul, 1) := by decide +kernel
theorem dX7_buys_18 : decode cX7_buys 18 = .ok (.iadd, 1) := by decide +kernel
theorem dX7_buys_19 : decode cX7_buys 19 = .ok (.iastore, 1) := by decide +kernel
theorem dX7_buys_20 : decode cX7_buys 20 = .ok (.aload_n 0, 1) := by decide +kernel
theorem dX7_buys_21 : decode cX7_buys 21 = .ok (.getfield 28, 3) := by decide +kernel
theorem dX7_buys_24 : decode cX7_buys 24 = .ok (.bipush 7, 2) := by decide +kernel
theorem dX7_buys_26 : decode cX7_buys 26 = .ok (.dup2, 1) := by decide +kernel
theorem dX7_buys_27 : decode cX7_buys 27 = .ok (.iaload, 1) := by decide +kernel
theorem dX7_buys_28 : decode cX7_buys 28 = .ok (.bipush 10, 2) := by decide +kernel
theorem dX7_buys_30 : decode cX7_buys 30 = .ok (.iload_n 1, 1) := by decide +kernel
theorem dX7_buys_31 : decode cX7_buys 31 = .ok (.imul, 1) := by decide +kernel
theorem dX7_buys_32 : decode cX7_buys 32 = .ok (.isub, 1) := by decide +kernel
theorem dX7_buys_33 : decode cX7_buys 33 = .ok (.iastore, 1) := by decide +kernel
theorem dX7_buys_34 : decode cX7_buys 34 = .ok (.return_, 1) := by decide +kernel
set_option maxHeartbeats 200000 in
theorem bX7_buys_0 {S : pv_S} {x1 : Int32} : pv_R mX7_buys 0 [some (.ref 37), some (.int x1)] [] (pv_em S) = pv_cc (pv_R mX7_remember 0 [some (.ref 37)] [] (pv_em S)) mX7_buys 4 [some (.ref 37), some (.int x1)] [] := Eq.trans (pv_Rstp dX7_buys_0 rfl rfl rfl) (pv_Rcall (As := [.ref 37]) (rest := []) dX7_buys_1 rfl mfX7_183 rfl rfl rfl rfl rfl)
set_option maxHeartbeats 200000 in
theorem bX7_buys_4 {S : pv_S} {x1 : Int32} : pv_R mX7_buys 4 [some (.ref 37), some (.int x1)] [] (pv_em S) = pv_cc (pv_R mX7_pound 0 [some (.ref 37)] [] (pv_em S)) mX7_buys 17 [some (.ref 37), some (.int x1)] [.int x1, .int (S.1 44 (8 : Int32).toNatClampNeg), .int 8, .ref 44] := Eq.trans (pv_Rstp dX7_buys_4 rfl rfl rfl) (Eq.trans (pv_Rget dX7_buys_5 ffX7_28 (by decide) (pv_ce_37 _ _) rfl) (Eq.trans (pv_Rbp dX7_buys_8 kb_8) (Eq.trans (pv_Rstp dX7_buys_10 rfl rfl rfl) (Eq.trans (pv_Rald dX7_buys_11 (by decide) (pv_ce_44 _ _)) (Eq.trans (if_neg (by decide +kernel)) (Eq.trans (pv_Rstp dX7_buys_12 rfl rfl rfl) (Eq.trans (pv_Rstp dX7_buys_13 rfl rfl rfl) (pv_Rcall (As := [.ref 37]) (rest := [.int x1, .int (S.1 44 (8 : Int32).toNatClampNeg), .int 8, .ref 44]) dX7_buys_14 rfl mfX7_186 rfl rfl rfl rfl rfl))))))))
set_option maxHeartbeats 200000 in
theorem bX7_buys_17 {S : pv_S} {x1 u0 u1 u2 u3 : Int32} : pv_R mX7_buys 17 [some (.ref 37), some (.int x1)] [.int u0, .int u1, .int u2, .int u3, .ref 44] (pv_em S) = if u3 < 0 ∨ 10 ≤ u3.toNatClampNeg then none else some (none, pv_em (pv_si (pv_si S 44 u3.toNatClampNeg (u2 + (u1 * u0))) 44 (7 : Int32).toNatClampNeg (((pv_si S 44 u3.toNatClampNeg (u2 + (u1 * u0))).1 44 (7 : Int32).toNatClampNeg) - (10 * x1)))) := Eq.trans (pv_Rstp dX7_buys_17 rfl rfl rfl) (Eq.trans (pv_Rstp dX7_buys_18 rfl rfl rfl) (Eq.trans (pv_Rast dX7_buys_19 (by decide) (pv_ce_44 _ _) (pv_em_si rfl)) (pv_iteN (fun h1 => Eq.trans (pv_Rstp dX7_buys_20 rfl rfl rfl) (Eq.trans (pv_Rget dX7_buys_21 ffX7_28 (by decide) (pv_ce_37 _ _) rfl) (Eq.trans (pv_Rbp dX7_buys_24 kb_7) (Eq.trans (pv_Rstp dX7_buys_26 rfl rfl rfl) (Eq.trans (pv_Rald dX7_buys_27 (by decide) (pv_ce_44 _ _)) (Eq.trans (if_neg (by decide +kernel)) (Eq.trans (pv_Rbp dX7_buys_28 kb_10) (Eq.trans (pv_Rstp dX7_buys_30 rfl rfl rfl) (Eq.trans (pv_Rstp dX7_buys_31 rfl rfl rfl) (Eq.trans (pv_Rstp dX7_buys_32 rfl rfl rfl) (Eq.trans (pv_Rast dX7_buys_33 (by decide) (pv_ce_44 _ _) (pv_em_si rfl)) (Eq.trans (if_neg (by decide +kernel)) (pv_Rret dX7_buys_34 rfl))))))))))))))))
